/-! moveRow, dropUnmarked, meet; View -/
theorem c_moveRow {f t : Nat} {M : am_M} {Q : am_T} (hf : f < 120) (ht : t < 120) (hQ : Q (.inl none) (am_set (am_set (am_set (am_set (am_set M 7 t (M.1 7 f)) 8 t (M.1 8 f)) 9 t (M.1 9 f)) 10 t (M.1 10 f)) 11 t (M.1 11 f))) : am_W kW_moveRow 0 (am_in kW_moveRow [.ref 6, .int (nI f), .int (nI t)]) [] M Q := by
  show am_W kW_moveRow 0 _ [] M Q
  refine am_aload_n d113_0 rfl ?_
  refine am_getr d113_1 fl113_9 sh_6 rfl ?_
  refine am_iload_n d113_4 rfl ?_
  refine am_aload_n d113_5 rfl ?_
  refine am_getr d113_6 fl113_9 sh_6 rfl ?_
  refine am_iload_n d113_9 rfl ?_
  refine am_ialdN f d113_10 sh_7 hf (by decide) ?_
  refine am_iastN t d113_11 sh_7 ht (by decide) ?_
  refine am_aload_n d113_12 rfl ?_
  refine am_getr d113_13 fl113_15 sh_6 rfl ?_
  refine am_iload_n d113_16 rfl ?_
  refine am_aload_n d113_17 rfl ?_
  refine am_getr d113_18 fl113_15 sh_6 rfl ?_
  refine am_iload_n d113_21 rfl ?_
  refine am_ialdN f d113_22 sh_8 hf (by decide) ?_
  refine am_iastN t d113_23 sh_8 ht (by decide) ?_
  refine am_aload_n d113_24 rfl ?_
  refine am_getr d113_25 fl113_18 sh_6 rfl ?_
  refine am_iload_n d113_28 rfl ?_
  refine am_aload_n d113_29 rfl ?_
  refine am_getr d113_30 fl113_18 sh_6 rfl ?_
  refine am_iload_n d113_33 rfl ?_
  refine am_ialdN f d113_34 sh_9 hf (by decide) ?_
  refine am_iastN t d113_35 sh_9 ht (by decide) ?_
  refine am_aload_n d113_36 rfl ?_
  refine am_getr d113_37 fl113_21 sh_6 rfl ?_
  refine am_iload_n d113_40 rfl ?_
  refine am_aload_n d113_41 rfl ?_
  refine am_getr d113_42 fl113_21 sh_6 rfl ?_
  refine am_iload_n d113_45 rfl ?_
  refine am_ialdN f d113_46 sh_10 hf (by decide) ?_
  refine am_iastN t d113_47 sh_10 ht (by decide) ?_
  refine am_aload_n d113_48 rfl ?_
  refine am_getr d113_49 fl113_24 sh_6 rfl ?_
  refine am_iload_n d113_52 rfl ?_
  refine am_aload_n d113_53 rfl ?_
  refine am_getr d113_54 fl113_24 sh_6 rfl ?_
  refine am_iload_n d113_57 rfl ?_
  refine am_ialdN f d113_58 sh_11 hf (by decide) ?_
  refine am_iastN t d113_59 sh_11 ht (by decide) ?_
  refine am_vret d113_60 rfl ?_
  exact hQ
theorem c_dropUnmarked {nw : Nat} {M : am_M} {Q : am_T} (h120 : nw ≤ 120) (hn : M.1 6 6 = nI nw) (hQ : ∀ M', fr [6, 7, 8, 9, 10, 11] M M' → M'.1 6 6 = nI (sp_cnt (fun i => !decide (M.1 12 i = 0)) nw) → (∀ p, 7 ≤ p → p ≤ 11 → M'.1 p = sp_cp (fun i => !decide (M.1 12 i = 0)) (M.1 p) nw) → Q (.inl (some (.int (nI (nw - sp_cnt (fun i => !decide (M.1 12 i = 0)) nw))))) M') : am_W kW_dropUnmarked 0 (am_in kW_dropUnmarked [.ref 6]) [] M Q := by
  have loop : ∀ i, i ≤ nw → ∀ M1 : am_M, (fr [7, 8, 9, 10, 11] M M1 ∧ ∀ p, 7 ≤ p → p ≤ 11 → M1.1 p = sp_cp (fun i => !decide (M.1 12 i = 0)) (M.1 p) i) → am_W kW_dropUnmarked 4 [.ref 6, .int (nI (sp_cnt (fun i => !decide (M.1 12 i = 0)) i)), .int (nI i)] [] M1 Q := by
    refine am_loop nw (fun i hi ih => ?_)
    intro M1 I
    have hc : M1.1 6 6 = nI nw := by rw [I.1.eq 6 (by decide)]; exact hn
    have e12 : M1.1 12 = M.1 12 := I.1.eq 12 (by decide)
    refine am_iload_n d112_4 rfl ?_
    refine am_aload_n d112_5 rfl ?_
    refine am_geti d112_6 fl112_31 sh_6 rfl ?_
    refine am_icgeN 36 i nw d112_9 (by decide) rfl hc (by omega) (by omega) (fun h9 => ?_) (fun h9 => ?_)
    · obtain rfl : i = nw := by omega
      refine am_aload_n d112_36 rfl ?_
      refine am_geti d112_37 fl112_31 sh_6 rfl ?_
      refine am_iload_n d112_40 rfl ?_
      refine am_isub d112_41 ?_
      rw [hc, pk_sub (sp_cnt_le (fun i => !decide (M.1 12 i = 0)) i)]
      refine am_istore_n d112_42 (Nat.le_of_ble_eq_true rfl) rfl ?_
      refine am_aload_n d112_43 rfl ?_
      refine am_iload_n d112_44 rfl ?_
      refine am_put d112_45 fl112_31 sh_6 rfl rfl rfl rfl ?_
      refine am_iload_n d112_48 rfl ?_
      refine am_iret d112_49 rfl rfl ?_
      exact hQ _ ((I.1.wk (by simp)).set (by simp)) (by rw [am_set_self]; simp [upd]) (fun p h1 h2 => by rw [am_set_ne (by omega)]; exact I.2 p h1 h2)
    · refine am_aload_n d112_12 rfl ?_
      refine am_getr d112_13 fl112_27 sh_6 rfl ?_
      refine am_iload_n d112_16 rfl ?_
      refine am_zaldN i d112_17 sh_12 (by omega) (by decide) ?_
      refine am_ifeq 30 d112_18 (by decide) (fun h18 => ?_) (fun h18 => ?_)
      · rw [sp_cnt_f (f := (fun i => !decide (M.1 12 i = 0))) (n := i) (by simp [e12 ▸ h18])]
        refine am_incN i d112_30 rfl rfl ?_
        refine am_goto 4 d112_33 (by decide) ?_
        exact ih h9 M1 ⟨I.1, fun p h1 h2 => by rw [I.2 p h1 h2, sp_cp_f (by simp [e12 ▸ h18])]⟩
      · have h18' : (fun i => !decide (M.1 12 i = 0)) i = true := by simp [e12 ▸ h18]
        refine am_aload_n d112_21 rfl ?_
        refine am_iload_n d112_22 rfl ?_
        refine am_iload_n d112_23 rfl ?_
        refine am_cv2 113 d112_24 ml112_43 rfl (by decide) sh_6 rfl rfl rfl (Nat.le_of_ble_eq_true rfl) ?_
        refine c_moveRow (f := i) (t := sp_cnt (fun i => !decide (M.1 12 i = 0)) i) (by omega) (by have := sp_cnt_le (fun i => !decide (M.1 12 i = 0)) i; omega) ?_
        show am_W 112 27 _ _ _ _
        refine am_incE (sp_cnt (fun i => !decide (M.1 12 i = 0)) i) (sp_cnt (fun i => !decide (M.1 12 i = 0)) (i + 1)) (sp_cnt_t (by simp [h18'])) d112_27 rfl rfl ?_
        refine am_incN i d112_30 rfl rfl ?_
        refine am_goto 4 d112_33 (by decide) ?_
        exact ih h9 _ ⟨((((I.1.set (by simp)).set (by simp)).set (by simp)).set (by simp)).set (by simp), fun p h1 h2 => by
          rw [sp_cp_t h18', ← I.2 p h1 h2]
          have hp : p = 7 ∨ p = 8 ∨ p = 9 ∨ p = 10 ∨ p = 11 := by omega
          rcases hp with rfl | rfl | rfl | rfl | rfl <;> rfl⟩
  show am_W kW_dropUnmarked 0 _ [] M Q
  refine am_iconst (nI 0) d112_0 (by decide) ?_
  refine am_istore_n d112_1 (Nat.le_of_ble_eq_true rfl) rfl ?_
  refine am_iconst (nI 0) d112_2 (by decide) ?_
  refine am_istore_n d112_3 (Nat.le_of_ble_eq_true rfl) rfl ?_
  exact loop 0 (Nat.zero_le _) M ⟨fr.rf, fun p _ _ => rfl⟩
set_option maxHeartbeats 1000000 in
theorem c_meet {a b nb : Nat} {m : Int32} {pn : Nat → Nat} {M : am_M} {Q : am_T} (hB : bp_P (M.1 2) (M.1 3) pn nb) (ha : a < nb) (hb : b < nb) (hQ : Q (.inl (some (.int (sp_meet pn (M.1 3) 12 m a b)))) M) : am_W kB_meet 0 (am_in kB_meet [.ref 1, .int (nI a), .int (nI b), .int m]) [] M Q := by
  obtain ⟨h6, hpn, hpar, hfk⟩ := hB
  have loop : ∀ i, i ≤ 12 → ∀ (w : Value) (x1 x2 x3 : Int32) (m : Int32) (a b : Nat), a < nb → b < nb → Q (.inl (some (.int (sp_meet pn (M.1 3) (12 - i) m a b)))) M → am_W kB_meet 12 [.ref 1, .int x1, .int x2, .int x3, .int m, .int (nI a), .int (nI b), .int (nI i), w] [] M Q := by
    refine am_loop 12 (fun i hi ih => ?_)
    intro w x1 x2 x3 m a b ha hb hq
    refine am_iload d78_12 rfl ?_
    refine am_bipush (nI 12) d78_14 (by decide) ?_
    refine am_icgeN 83 i 12 d78_16 (by decide) rfl rfl (by omega) (by omega) (fun h16 => ?_) (fun h16 => ?_)
    · obtain rfl : i = 12 := by omega
      refine am_iload d78_83 rfl ?_
      exact am_iret d78_85 rfl rfl hq
    · obtain ⟨d, hd⟩ : ∃ d, 12 - i = d + 1 := ⟨12 - i - 1, by omega⟩
      rw [hd] at hq
      have hd2 : 12 - (i + 1) = d := by omega
      rw [hd2] at ih
      refine am_iload d78_19 rfl ?_
      refine am_iload d78_21 rfl ?_
      refine am_iceq 83 d78_23 (by decide) (fun h23 => ?_) (fun h23 => ?_)
      · have hab := (nI_eq (by omega) (by omega)).mp h23
        refine am_iload d78_83 rfl ?_
        refine am_iret d78_85 rfl rfl ?_
        simp only [sp_meet, if_pos hab] at hq
        exact hq
      · have hab : a ≠ b := fun z => h23 (by rw [z])
        refine am_iload d78_26 rfl ?_
        refine am_iload d78_28 rfl ?_
        refine am_max d78_30 (by decide) (by decide) (Nat.le_of_ble_eq_true rfl) ?_
        by_cases hlt : a < b
        · rw [if_pos (nI_lt hlt (by omega))]
          refine am_istore d78_33 (Nat.le_of_ble_eq_true rfl) rfl ?_
          refine am_iload d78_35 rfl ?_
          refine am_aload_n d78_37 rfl ?_
          refine am_getr d78_38 fl78_15 sh_1 rfl ?_
          refine am_iload d78_41 rfl ?_
          refine am_ialdN b d78_43 sh_3 (by omega) (by decide) ?_
          refine am_min d78_44 (by decide) (by decide) (Nat.le_of_ble_eq_true rfl) ?_
          refine am_istore d78_47 (Nat.le_of_ble_eq_true rfl) rfl ?_
          refine am_iload d78_49 rfl ?_
          refine am_iload d78_51 rfl ?_
          refine am_icne 68 d78_53 (by decide) (fun _ => ?_) (fun h53 => absurd ((nI_eq (by omega) (by omega)).mp h53) hab)
          refine am_aload_n d78_68 rfl ?_
          refine am_getr d78_69 fl78_9 sh_1 rfl ?_
          refine am_iload d78_72 rfl ?_
          refine am_ialdN b d78_74 sh_2 (by omega) (by decide) ?_
          rw [hpar b (by omega) (by omega)]
          refine am_istore d78_75 (Nat.le_of_ble_eq_true rfl) rfl ?_
          refine am_incN i d78_77 rfl rfl ?_
          refine am_goto 12 d78_80 (by decide) ?_
          simp only [sp_meet, if_neg hab, if_pos hlt] at hq
          have hpb := hpn b (by omega) hb
          exact ih h16 _ _ _ _ _ a (pn b) ha (by omega) hq
        · rw [if_neg (fun z => hlt ((nI_ltI (by omega) (by omega)).mp z))]
          refine am_istore d78_33 (Nat.le_of_ble_eq_true rfl) rfl ?_
          refine am_iload d78_35 rfl ?_
          refine am_aload_n d78_37 rfl ?_
          refine am_getr d78_38 fl78_15 sh_1 rfl ?_
          refine am_iload d78_41 rfl ?_
          refine am_ialdN a d78_43 sh_3 (by omega) (by decide) ?_
          refine am_min d78_44 (by decide) (by decide) (Nat.le_of_ble_eq_true rfl) ?_
          refine am_istore d78_47 (Nat.le_of_ble_eq_true rfl) rfl ?_
          refine am_iload d78_49 rfl ?_
          refine am_iload d78_51 rfl ?_
          refine am_icne 68 d78_53 (by decide) (fun h53 => absurd rfl h53) (fun _ => ?_)
          refine am_aload_n d78_56 rfl ?_
          refine am_getr d78_57 fl78_9 sh_1 rfl ?_
          refine am_iload d78_60 rfl ?_
          refine am_ialdN a d78_62 sh_2 (by omega) (by decide) ?_
          rw [hpar a (by omega) (by omega)]
          refine am_istore d78_63 (Nat.le_of_ble_eq_true rfl) rfl ?_
          refine am_goto 77 d78_65 (by decide) ?_
          refine am_incN i d78_77 rfl rfl ?_
          refine am_goto 12 d78_80 (by decide) ?_
          simp only [sp_meet, if_neg hab, if_neg hlt] at hq
          have hpa := hpn a (by omega) ha
          exact ih h16 _ _ _ _ _ (pn a) b (by omega) hb hq
  show am_W kB_meet 0 _ [] M Q
  refine am_iload_n d78_0 rfl ?_
  refine am_istore d78_1 (Nat.le_of_ble_eq_true rfl) rfl ?_
  refine am_iload_n d78_3 rfl ?_
  refine am_istore d78_4 (Nat.le_of_ble_eq_true rfl) rfl ?_
  refine am_iload_n d78_6 rfl ?_
  refine am_istore d78_7 (Nat.le_of_ble_eq_true rfl) rfl ?_
  refine am_iconst (nI 0) d78_9 (by decide) ?_
  refine am_istore d78_10 (Nat.le_of_ble_eq_true rfl) rfl ?_
  exact loop 0 (by decide) _ _ _ _ m a b ha hb hQ
theorem c_holdsSame {v w c : Nat} {M : am_M} {Q : am_T} (hv : bv v) (hw : bv w) (hc : c < 48) (h1 : (M.1 (v + 1) c = M.1 (w + 1) c ∧ M.1 (v + 2) c = M.1 (w + 2) c) → Q (.inl (some (.int 1))) M) (h0 : ¬ (M.1 (v + 1) c = M.1 (w + 1) c ∧ M.1 (v + 2) c = M.1 (w + 2) c) → Q (.inl (some (.int 0))) M) : am_W kV_holdsSame 0 (am_in kV_holdsSame [.ref v, .ref w, .int (nI c)]) [] M Q := by
  show am_W kV_holdsSame 0 _ [] M Q
  refine am_aload_n d96_0 rfl ?_
  refine am_getr d96_1 fl96_9 (bv_0 hv) rfl ?_
  refine am_iload_n d96_4 rfl ?_
  refine am_ialdN c d96_5 (bv_1 hv) hc (by decide) ?_
  refine am_aload_n d96_6 rfl ?_
  refine am_getr d96_7 fl96_9 (bv_0 hw) rfl ?_
  refine am_iload_n d96_10 rfl ?_
  refine am_ialdN c d96_11 (bv_1 hw) hc (by decide) ?_
  refine am_icne 34 d96_12 (by decide) (fun h12 => ?_) (fun h12 => ?_)
  · refine am_iconst 0 d96_34 (by decide) ?_
    refine am_iret d96_35 rfl (by decide) ?_
    first | exact h1 ⟨h12, h27⟩ | exact h0 (fun z => h12 z.1) | exact h0 (fun z => h27 z.2)
  · refine am_aload_n d96_15 rfl ?_
    refine am_getr d96_16 fl96_15 (bv_0 hv) rfl ?_
    refine am_iload_n d96_19 rfl ?_
    refine am_ialdN c d96_20 (bv_2 hv) hc (by decide) ?_
    refine am_aload_n d96_21 rfl ?_
    refine am_getr d96_22 fl96_15 (bv_0 hw) rfl ?_
    refine am_iload_n d96_25 rfl ?_
    refine am_ialdN c d96_26 (bv_2 hw) hc (by decide) ?_
    refine am_icne 34 d96_27 (by decide) (fun h27 => ?_) (fun h27 => ?_)
    · refine am_iconst 0 d96_34 (by decide) ?_
      refine am_iret d96_35 rfl (by decide) ?_
      first | exact h1 ⟨h12, h27⟩ | exact h0 (fun z => h12 z.1) | exact h0 (fun z => h27 z.2)
    · refine am_iconst 1 d96_30 (by decide) ?_
      refine am_goto 35 d96_31 (by decide) ?_
      refine am_iret d96_35 rfl (by decide) ?_
      first | exact h1 ⟨h12, h27⟩ | exact h0 (fun z => h12 z.1) | exact h0 (fun z => h27 z.2)
theorem c_target {v c : Nat} {M : am_M} {Q : am_T} (hv : bv v) (hc : c < 48) (hQ : Q (.inl (some (.int (sp_tg (M.1 (v + 1)) (M.1 (v + 2)) c)))) M) : am_W kV_target 0 (am_in kV_target [.ref v, .int (nI c)]) [] M Q := by
  show am_W kV_target 0 _ [] M Q
  refine am_aload_n d102_0 rfl ?_
  refine am_getr d102_1 fl102_9 (bv_0 hv) rfl ?_
  refine am_iload_n d102_4 rfl ?_
  refine am_ialdN c d102_5 (bv_1 hv) hc (by decide) ?_
  refine am_iconst 2 d102_6 (by decide) ?_
  refine am_icne 21 d102_7 (by decide) (fun h7 => ?_) (fun h7 => ?_)
  · refine am_iconst 0 d102_21 (by decide) ?_
    refine am_iret d102_22 rfl rfl ?_
    unfold sp_tg at hQ
    first | (rw [if_pos h7] at hQ; exact hQ) | (rw [if_neg h7] at hQ; exact hQ)
  · refine am_iconst 1 d102_10 (by decide) ?_
    refine am_aload_n d102_11 rfl ?_
    refine am_getr d102_12 fl102_15 (bv_0 hv) rfl ?_
    refine am_iload_n d102_15 rfl ?_
    refine am_ialdN c d102_16 (bv_2 hv) hc (by decide) ?_
    refine am_ishl d102_17 ?_
    refine am_goto 22 d102_18 (by decide) ?_
    refine am_iret d102_22 rfl rfl ?_
    unfold sp_tg at hQ
    first | (rw [if_pos h7] at hQ; exact hQ) | (rw [if_neg h7] at hQ; exact hQ)
theorem c_isIn {s : Int32} {o : Nat} {M : am_M} {Q : am_T} (h1 : sp_isin s o = true → Q (.inl (some (.int 1))) M) (h0 : ¬ sp_isin s o = true → Q (.inl (some (.int 0))) M) : am_W kV_isIn 0 (am_in kV_isIn [.int (nI o), .int s]) [] M Q := by
  show am_W kV_isIn 0 _ [] M Q
  refine am_iload_n d104_0 rfl ?_
  refine am_iload_n d104_1 rfl ?_
  refine am_ishr d104_2 ?_
  refine am_iconst 1 d104_3 (by decide) ?_
  refine am_iand d104_4 ?_
  refine am_iconst 1 d104_5 (by decide) ?_
  refine am_icne 13 d104_6 (by decide) (fun h6 => ?_) (fun h6 => ?_)
  · refine am_iconst 0 d104_13 (by decide) ?_
    refine am_iret d104_14 rfl (by decide) ?_
    first | exact h1 (decide_eq_true h6) | exact h0 (fun z => h6 (of_decide_eq_true z))
  · refine am_iconst 1 d104_9 (by decide) ?_
    refine am_goto 14 d104_10 (by decide) ?_
    refine am_iret d104_14 rfl (by decide) ?_
    first | exact h1 (decide_eq_true h6) | exact h0 (fun z => h6 (of_decide_eq_true z))
theorem c_compares {x s y : Int32} {M : am_M} {Q : am_T} (h1 : sp_cmp x s y = true → Q (.inl (some (.int 1))) M) (h0 : ¬ sp_cmp x s y = true → Q (.inl (some (.int 0))) M) : am_W kV_compares 0 (am_in kV_compares [.int x, .int s, .int y]) [] M Q := by
  show am_W kV_compares 0 _ [] M Q
  refine am_iload_n d103_0 rfl ?_
  refine am_bipush 60 d103_1 (by decide) ?_
  refine am_icne 17 d103_3 (by decide) (fun h3 => ?_) (fun h3 => ?_)
  · refine am_iload_n d103_17 rfl ?_
    refine am_bipush 62 d103_18 (by decide) ?_
    refine am_icne 36 d103_20 (by decide) (fun h20 => ?_) (fun h20 => ?_)
    · refine am_iload_n d103_36 rfl ?_
      refine am_iload_n d103_37 rfl ?_
      refine am_icne 45 d103_38 (by decide) (fun h38 => ?_) (fun h38 => ?_)
      · refine am_iconst 0 d103_45 (by decide) ?_
        refine am_iret d103_46 rfl (by decide) ?_
        first | exact h1 (by unfold sp_cmp; simp_all) | exact h0 (by unfold sp_cmp; simp_all)
      · refine am_iconst 1 d103_41 (by decide) ?_
        refine am_goto 46 d103_42 (by decide) ?_
        refine am_iret d103_46 rfl (by decide) ?_
        first | exact h1 (by unfold sp_cmp; simp_all) | exact h0 (by unfold sp_cmp; simp_all)
    · refine am_iload_n d103_23 rfl ?_
      refine am_iload_n d103_24 rfl ?_
      refine am_icle 32 d103_25 (by decide) (fun h25 => ?_) (fun h25 => ?_)
      · refine am_iconst 0 d103_32 (by decide) ?_
        refine am_goto 46 d103_33 (by decide) ?_
        refine am_iret d103_46 rfl (by decide) ?_
        first | exact h1 (by unfold sp_cmp; simp_all) | exact h0 (by unfold sp_cmp; simp_all)
      · refine am_iconst 1 d103_28 (by decide) ?_
        refine am_goto 46 d103_29 (by decide) ?_
        refine am_iret d103_46 rfl (by decide) ?_
        first | exact h1 (by unfold sp_cmp; simp_all) | exact h0 (by unfold sp_cmp; simp_all)
  · refine am_iload_n d103_6 rfl ?_
    refine am_iload_n d103_7 rfl ?_
    refine am_icge 15 d103_8 (by decide) (fun h8 => ?_) (fun h8 => ?_)
    · refine am_iconst 0 d103_15 (by decide) ?_
      refine am_iret d103_16 rfl (by decide) ?_
      first | exact h1 (by unfold sp_cmp; simp_all) | exact h0 (by unfold sp_cmp; simp_all)
    · refine am_iconst 1 d103_11 (by decide) ?_
      refine am_goto 16 d103_12 (by decide) ?_
      refine am_iret d103_16 rfl (by decide) ?_
      first | exact h1 (by unfold sp_cmp; simp_all) | exact h0 (by unfold sp_cmp; simp_all)
theorem c_referredBy {v f : Nat} {s : Int32} {M : am_M} {Q : am_T} (hv : bv v) (hf : f < 4) (hQ : Q (.inl (some (.int (sp_refd (M.1 (v + 1)) (M.1 (v + 2)) s f)))) M) : am_W kV_referredBy 0 (am_in kV_referredBy [.ref v, .int s, .int (nI f)]) [] M Q := by
  have loop : ∀ i, i ≤ 12 → am_W kV_referredBy 5 [.ref v, .int s, .int (nI f), .int (sp_or (sp_isin s) (fun o => sp_tg (M.1 (v + 1)) (M.1 (v + 2)) (4 * o + f)) i), .int (nI i)] [] M Q := by
    refine am_loop 12 (fun i hi ih => ?_)
    refine am_iload d97_5 rfl ?_
    refine am_bipush (nI 12) d97_7 (by decide) ?_
    refine am_icgeN 40 i 12 d97_9 (by decide) rfl rfl (by omega) (by decide) (fun h9 => ?_) (fun h9 => ?_)
    · refine am_iload_n d97_40 rfl ?_
      refine am_iret d97_41 rfl rfl ?_
      obtain rfl : i = 12 := by omega
      exact hQ
    · refine am_iload d97_12 rfl ?_
      refine am_iload_n d97_14 rfl ?_
      refine am_cs2 104 d97_15 ml97_27 rfl (by decide) rfl rfl rfl (Nat.le_of_ble_eq_true rfl) ?_
      refine c_isIn (fun hin => ?_) (fun hin => ?_)
      · show am_W 97 18 _ (.int 1 :: _) _ _
        refine am_ifeq 34 d97_18 (by decide) (fun h18 => ?_) (fun h18 => ?_)
        · refine am_incN i d97_34 rfl rfl ?_
          refine am_goto 5 d97_37 (by decide) ?_
          first | exact absurd h18 (by decide) | exact absurd rfl h18 | (rw [← sp_or_t (c := (sp_isin s)) (g := (fun o => sp_tg (M.1 (v + 1)) (M.1 (v + 2)) (4 * o + f))) hin]; exact ih h9) | (rw [← sp_or_f (c := (sp_isin s)) (g := (fun o => sp_tg (M.1 (v + 1)) (M.1 (v + 2)) (4 * o + f))) hin]; exact ih h9)
        · refine am_iload_n d97_21 rfl ?_
          refine am_aload_n d97_22 rfl ?_
          refine am_iload d97_23 rfl ?_
          refine am_iload_n d97_25 rfl ?_
          refine am_cs2 32 d97_26 ml97_31 rfl (by decide) rfl rfl rfl (Nat.le_of_ble_eq_true rfl) ?_
          refine c_cellOf (a := i) (b := f) ?_
          show am_W 97 29 _ (.int _ :: _) _ _
          refine am_cv1 102 d97_29 ml97_35 rfl (by decide) (bv_0 hv) rfl rfl (Nat.le_of_ble_eq_true rfl) ?_
          refine c_target hv (c := 4 * i + f) (by omega) ?_
          show am_W 97 32 _ (.int _ :: _) _ _
          refine am_ior d97_32 ?_
          refine am_istore_n d97_33 (Nat.le_of_ble_eq_true rfl) rfl ?_
          refine am_incN i d97_34 rfl rfl ?_
          refine am_goto 5 d97_37 (by decide) ?_
          first | exact absurd h18 (by decide) | exact absurd rfl h18 | (rw [← sp_or_t (c := (sp_isin s)) (g := (fun o => sp_tg (M.1 (v + 1)) (M.1 (v + 2)) (4 * o + f))) hin]; exact ih h9) | (rw [← sp_or_f (c := (sp_isin s)) (g := (fun o => sp_tg (M.1 (v + 1)) (M.1 (v + 2)) (4 * o + f))) hin]; exact ih h9)
      · show am_W 97 18 _ (.int 0 :: _) _ _
        refine am_ifeq 34 d97_18 (by decide) (fun h18 => ?_) (fun h18 => ?_)
        · refine am_incN i d97_34 rfl rfl ?_
          refine am_goto 5 d97_37 (by decide) ?_
          first | exact absurd h18 (by decide) | exact absurd rfl h18 | (rw [← sp_or_t (c := (sp_isin s)) (g := (fun o => sp_tg (M.1 (v + 1)) (M.1 (v + 2)) (4 * o + f))) hin]; exact ih h9) | (rw [← sp_or_f (c := (sp_isin s)) (g := (fun o => sp_tg (M.1 (v + 1)) (M.1 (v + 2)) (4 * o + f))) hin]; exact ih h9)
        · refine am_iload_n d97_21 rfl ?_
          refine am_aload_n d97_22 rfl ?_
          refine am_iload d97_23 rfl ?_
          refine am_iload_n d97_25 rfl ?_
          refine am_cs2 32 d97_26 ml97_31 rfl (by decide) rfl rfl rfl (Nat.le_of_ble_eq_true rfl) ?_
          refine c_cellOf (a := i) (b := f) ?_
          show am_W 97 29 _ (.int _ :: _) _ _
          refine am_cv1 102 d97_29 ml97_35 rfl (by decide) (bv_0 hv) rfl rfl (Nat.le_of_ble_eq_true rfl) ?_
          refine c_target hv (c := 4 * i + f) (by omega) ?_
          show am_W 97 32 _ (.int _ :: _) _ _
          refine am_ior d97_32 ?_
          refine am_istore_n d97_33 (Nat.le_of_ble_eq_true rfl) rfl ?_
          refine am_incN i d97_34 rfl rfl ?_
          refine am_goto 5 d97_37 (by decide) ?_
          first | exact absurd h18 (by decide) | exact absurd rfl h18 | (rw [← sp_or_t (c := (sp_isin s)) (g := (fun o => sp_tg (M.1 (v + 1)) (M.1 (v + 2)) (4 * o + f))) hin]; exact ih h9) | (rw [← sp_or_f (c := (sp_isin s)) (g := (fun o => sp_tg (M.1 (v + 1)) (M.1 (v + 2)) (4 * o + f))) hin]; exact ih h9)
  show am_W kV_referredBy 0 _ [] M Q
  refine am_iconst 0 d97_0 (by decide) ?_
  refine am_istore_n d97_1 (Nat.le_of_ble_eq_true rfl) rfl ?_
  refine am_iconst (nI 0) d97_2 (by decide) ?_
  refine am_istore d97_3 (Nat.le_of_ble_eq_true rfl) rfl ?_
  exact loop 0 (by decide)
theorem c_referringTo {v f : Nat} {s : Int32} {M : am_M} {Q : am_T} (hv : bv v) (hf : f < 4) (hQ : Q (.inl (some (.int (sp_refg (M.1 (v + 1)) (M.1 (v + 2)) s f)))) M) : am_W kV_referringTo 0 (am_in kV_referringTo [.ref v, .int s, .int (nI f)]) [] M Q := by
  have loop : ∀ i, i ≤ 12 → am_W kV_referringTo 5 [.ref v, .int s, .int (nI f), .int (sp_or (fun o => !decide (sp_tg (M.1 (v + 1)) (M.1 (v + 2)) (4 * o + f) &&& s = 0)) (fun o => (1 : Int32) <<< (nI o &&& 31)) i), .int (nI i)] [] M Q := by
    refine am_loop 12 (fun i hi ih => ?_)
    refine am_iload d98_5 rfl ?_
    refine am_bipush (nI 12) d98_7 (by decide) ?_
    refine am_icgeN 40 i 12 d98_9 (by decide) rfl rfl (by omega) (by decide) (fun h9 => ?_) (fun h9 => ?_)
    · refine am_iload_n d98_40 rfl ?_
      refine am_iret d98_41 rfl rfl ?_
      obtain rfl : i = 12 := by omega
      exact hQ
    · refine am_aload_n d98_12 rfl ?_
      refine am_iload d98_13 rfl ?_
      refine am_iload_n d98_15 rfl ?_
      refine am_cs2 32 d98_16 ml98_31 rfl (by decide) rfl rfl rfl (Nat.le_of_ble_eq_true rfl) ?_
      refine c_cellOf (a := i) (b := f) ?_
      show am_W 98 19 _ (.int _ :: _) _ _
      refine am_cv1 102 d98_19 ml98_35 rfl (by decide) (bv_0 hv) rfl rfl (Nat.le_of_ble_eq_true rfl) ?_
      refine c_target hv (c := 4 * i + f) (by omega) ?_
      show am_W 98 22 _ (.int _ :: _) _ _
      refine am_iload_n d98_22 rfl ?_
      refine am_iand d98_23 ?_
      refine am_ifeq 34 d98_24 (by decide) (fun h24 => ?_) (fun h24 => ?_)
      · refine am_incN i d98_34 rfl rfl ?_
        refine am_goto 5 d98_37 (by decide) ?_
        first | (rw [← sp_or_t (c := (fun o => !decide (sp_tg (M.1 (v + 1)) (M.1 (v + 2)) (4 * o + f) &&& s = 0))) (g := (fun o => (1 : Int32) <<< (nI o &&& 31))) (n := i) (by simp [*])]; exact ih h9) | (rw [← sp_or_f (c := (fun o => !decide (sp_tg (M.1 (v + 1)) (M.1 (v + 2)) (4 * o + f) &&& s = 0))) (g := (fun o => (1 : Int32) <<< (nI o &&& 31))) (n := i) (by simp [*])]; exact ih h9)
      · refine am_iload_n d98_27 rfl ?_
        refine am_iconst 1 d98_28 (by decide) ?_
        refine am_iload d98_29 rfl ?_
        refine am_ishl d98_31 ?_
        refine am_ior d98_32 ?_
        refine am_istore_n d98_33 (Nat.le_of_ble_eq_true rfl) rfl ?_
        refine am_incN i d98_34 rfl rfl ?_
        refine am_goto 5 d98_37 (by decide) ?_
        first | (rw [← sp_or_t (c := (fun o => !decide (sp_tg (M.1 (v + 1)) (M.1 (v + 2)) (4 * o + f) &&& s = 0))) (g := (fun o => (1 : Int32) <<< (nI o &&& 31))) (n := i) (by simp [*])]; exact ih h9) | (rw [← sp_or_f (c := (fun o => !decide (sp_tg (M.1 (v + 1)) (M.1 (v + 2)) (4 * o + f) &&& s = 0))) (g := (fun o => (1 : Int32) <<< (nI o &&& 31))) (n := i) (by simp [*])]; exact ih h9)
  show am_W kV_referringTo 0 _ [] M Q
  refine am_iconst 0 d98_0 (by decide) ?_
  refine am_istore_n d98_1 (Nat.le_of_ble_eq_true rfl) rfl ?_
  refine am_iconst (nI 0) d98_2 (by decide) ?_
  refine am_istore d98_3 (Nat.le_of_ble_eq_true rfl) rfl ?_
  exact loop 0 (by decide)
theorem c_withNothing {v f : Nat} {s : Int32} {M : am_M} {Q : am_T} (hv : bv v) (hf : f < 4) (hQ : Q (.inl (some (.int (sp_non (M.1 (v + 1)) s f)))) M) : am_W kV_withNothing 0 (am_in kV_withNothing [.ref v, .int s, .int (nI f)]) [] M Q := by
  have loop : ∀ i, i ≤ 12 → am_W kV_withNothing 5 [.ref v, .int s, .int (nI f), .int (sp_or (fun o => sp_isin s o && decide ((M.1 (v + 1)) (4 * o + f) = 0)) (fun o => (1 : Int32) <<< (nI o &&& 31)) i), .int (nI i)] [] M Q := by
    refine am_loop 12 (fun i hi ih => ?_)
    refine am_iload d101_5 rfl ?_
    refine am_bipush (nI 12) d101_7 (by decide) ?_
    refine am_icgeN 48 i 12 d101_9 (by decide) rfl rfl (by omega) (by decide) (fun h9 => ?_) (fun h9 => ?_)
    · refine am_iload_n d101_48 rfl ?_
      refine am_iret d101_49 rfl rfl ?_
      obtain rfl : i = 12 := by omega
      exact hQ
    · refine am_iload d101_12 rfl ?_
      refine am_iload_n d101_14 rfl ?_
      refine am_cs2 104 d101_15 ml101_27 rfl (by decide) rfl rfl rfl (Nat.le_of_ble_eq_true rfl) ?_
      refine c_isIn (fun hin => ?_) (fun hin => ?_)
      · show am_W 101 18 _ (.int 1 :: _) _ _
        refine am_ifeq 42 d101_18 (by decide) (fun h18 => ?_) (fun h18 => ?_)
        · refine am_incN i d101_42 rfl rfl ?_
          refine am_goto 5 d101_45 (by decide) ?_
          first | exact absurd h18 (by decide) | exact absurd rfl h18 | (rw [← sp_or_t (c := (fun o => sp_isin s o && decide ((M.1 (v + 1)) (4 * o + f) = 0))) (g := (fun o => (1 : Int32) <<< (nI o &&& 31))) (n := i) (by simp [*])]; exact ih h9) | (rw [← sp_or_f (c := (fun o => sp_isin s o && decide ((M.1 (v + 1)) (4 * o + f) = 0))) (g := (fun o => (1 : Int32) <<< (nI o &&& 31))) (n := i) (by simp [*])]; exact ih h9) | (rw [← sp_or_f (c := (fun o => sp_isin s o && decide ((M.1 (v + 1)) (4 * o + f) = 0))) (g := (fun o => (1 : Int32) <<< (nI o &&& 31))) (n := i) (by simp [*])]; exact ih h9)
        · refine am_aload_n d101_21 rfl ?_
          refine am_getr d101_22 fl101_9 (bv_0 hv) rfl ?_
          refine am_iload d101_25 rfl ?_
          refine am_iload_n d101_27 rfl ?_
          refine am_cs2 32 d101_28 ml101_31 rfl (by decide) rfl rfl rfl (Nat.le_of_ble_eq_true rfl) ?_
          refine c_cellOf (a := i) (b := f) ?_
          show am_W 101 31 _ (.int _ :: _) _ _
          refine am_ialdN (4 * i + f) d101_31 (bv_1 hv) (by omega) (by decide) ?_
          refine am_ifne 42 d101_32 (by decide) (fun h32 => ?_) (fun h32 => ?_)
          · refine am_incN i d101_42 rfl rfl ?_
            refine am_goto 5 d101_45 (by decide) ?_
            first | exact absurd h18 (by decide) | exact absurd rfl h18 | (rw [← sp_or_t (c := (fun o => sp_isin s o && decide ((M.1 (v + 1)) (4 * o + f) = 0))) (g := (fun o => (1 : Int32) <<< (nI o &&& 31))) (n := i) (by simp [*])]; exact ih h9) | (rw [← sp_or_f (c := (fun o => sp_isin s o && decide ((M.1 (v + 1)) (4 * o + f) = 0))) (g := (fun o => (1 : Int32) <<< (nI o &&& 31))) (n := i) (by simp [*])]; exact ih h9) | (rw [← sp_or_f (c := (fun o => sp_isin s o && decide ((M.1 (v + 1)) (4 * o + f) = 0))) (g := (fun o => (1 : Int32) <<< (nI o &&& 31))) (n := i) (by simp [*])]; exact ih h9)
          · refine am_iload_n d101_35 rfl ?_
            refine am_iconst 1 d101_36 (by decide) ?_
            refine am_iload d101_37 rfl ?_
            refine am_ishl d101_39 ?_
            refine am_ior d101_40 ?_
            refine am_istore_n d101_41 (Nat.le_of_ble_eq_true rfl) rfl ?_
            refine am_incN i d101_42 rfl rfl ?_
            refine am_goto 5 d101_45 (by decide) ?_
            first | exact absurd h18 (by decide) | exact absurd rfl h18 | (rw [← sp_or_t (c := (fun o => sp_isin s o && decide ((M.1 (v + 1)) (4 * o + f) = 0))) (g := (fun o => (1 : Int32) <<< (nI o &&& 31))) (n := i) (by simp [*])]; exact ih h9) | (rw [← sp_or_f (c := (fun o => sp_isin s o && decide ((M.1 (v + 1)) (4 * o + f) = 0))) (g := (fun o => (1 : Int32) <<< (nI o &&& 31))) (n := i) (by simp [*])]; exact ih h9) | (rw [← sp_or_f (c := (fun o => sp_isin s o && decide ((M.1 (v + 1)) (4 * o + f) = 0))) (g := (fun o => (1 : Int32) <<< (nI o &&& 31))) (n := i) (by simp [*])]; exact ih h9)
      · show am_W 101 18 _ (.int 0 :: _) _ _
        refine am_ifeq 42 d101_18 (by decide) (fun h18 => ?_) (fun h18 => ?_)
        · refine am_incN i d101_42 rfl rfl ?_
          refine am_goto 5 d101_45 (by decide) ?_
          first | exact absurd h18 (by decide) | exact absurd rfl h18 | (rw [← sp_or_t (c := (fun o => sp_isin s o && decide ((M.1 (v + 1)) (4 * o + f) = 0))) (g := (fun o => (1 : Int32) <<< (nI o &&& 31))) (n := i) (by simp [*])]; exact ih h9) | (rw [← sp_or_f (c := (fun o => sp_isin s o && decide ((M.1 (v + 1)) (4 * o + f) = 0))) (g := (fun o => (1 : Int32) <<< (nI o &&& 31))) (n := i) (by simp [*])]; exact ih h9) | (rw [← sp_or_f (c := (fun o => sp_isin s o && decide ((M.1 (v + 1)) (4 * o + f) = 0))) (g := (fun o => (1 : Int32) <<< (nI o &&& 31))) (n := i) (by simp [*])]; exact ih h9)
        · refine am_aload_n d101_21 rfl ?_
          refine am_getr d101_22 fl101_9 (bv_0 hv) rfl ?_
          refine am_iload d101_25 rfl ?_
          refine am_iload_n d101_27 rfl ?_
          refine am_cs2 32 d101_28 ml101_31 rfl (by decide) rfl rfl rfl (Nat.le_of_ble_eq_true rfl) ?_
          refine c_cellOf (a := i) (b := f) ?_
          show am_W 101 31 _ (.int _ :: _) _ _
          refine am_ialdN (4 * i + f) d101_31 (bv_1 hv) (by omega) (by decide) ?_
          refine am_ifne 42 d101_32 (by decide) (fun h32 => ?_) (fun h32 => ?_)
          · refine am_incN i d101_42 rfl rfl ?_
            refine am_goto 5 d101_45 (by decide) ?_
            first | exact absurd h18 (by decide) | exact absurd rfl h18 | (rw [← sp_or_t (c := (fun o => sp_isin s o && decide ((M.1 (v + 1)) (4 * o + f) = 0))) (g := (fun o => (1 : Int32) <<< (nI o &&& 31))) (n := i) (by simp [*])]; exact ih h9) | (rw [← sp_or_f (c := (fun o => sp_isin s o && decide ((M.1 (v + 1)) (4 * o + f) = 0))) (g := (fun o => (1 : Int32) <<< (nI o &&& 31))) (n := i) (by simp [*])]; exact ih h9) | (rw [← sp_or_f (c := (fun o => sp_isin s o && decide ((M.1 (v + 1)) (4 * o + f) = 0))) (g := (fun o => (1 : Int32) <<< (nI o &&& 31))) (n := i) (by simp [*])]; exact ih h9)
          · refine am_iload_n d101_35 rfl ?_
            refine am_iconst 1 d101_36 (by decide) ?_
            refine am_iload d101_37 rfl ?_
            refine am_ishl d101_39 ?_
            refine am_ior d101_40 ?_
            refine am_istore_n d101_41 (Nat.le_of_ble_eq_true rfl) rfl ?_
            refine am_incN i d101_42 rfl rfl ?_
            refine am_goto 5 d101_45 (by decide) ?_
            first | exact absurd h18 (by decide) | exact absurd rfl h18 | (rw [← sp_or_t (c := (fun o => sp_isin s o && decide ((M.1 (v + 1)) (4 * o + f) = 0))) (g := (fun o => (1 : Int32) <<< (nI o &&& 31))) (n := i) (by simp [*])]; exact ih h9) | (rw [← sp_or_f (c := (fun o => sp_isin s o && decide ((M.1 (v + 1)) (4 * o + f) = 0))) (g := (fun o => (1 : Int32) <<< (nI o &&& 31))) (n := i) (by simp [*])]; exact ih h9) | (rw [← sp_or_f (c := (fun o => sp_isin s o && decide ((M.1 (v + 1)) (4 * o + f) = 0))) (g := (fun o => (1 : Int32) <<< (nI o &&& 31))) (n := i) (by simp [*])]; exact ih h9)
  show am_W kV_withNothing 0 _ [] M Q
  refine am_iconst 0 d101_0 (by decide) ?_
  refine am_istore_n d101_1 (Nat.le_of_ble_eq_true rfl) rfl ?_
  refine am_iconst (nI 0) d101_2 (by decide) ?_
  refine am_istore d101_3 (Nat.le_of_ble_eq_true rfl) rfl ?_
  exact loop 0 (by decide)
theorem c_withNumber {v f : Nat} {s sg b : Int32} {M : am_M} {Q : am_T} (hv : bv v) (hf : f < 4) (hQ : Q (.inl (some (.int (sp_num (M.1 (v + 1)) (M.1 (v + 2)) s f sg b)))) M) : am_W kV_withNumber 0 (am_in kV_withNumber [.ref v, .int s, .int (nI f), .int sg, .int b]) [] M Q := by
  have loop : ∀ i, i ≤ 12 → ∀ w0 : Value, am_W kV_withNumber 6 [.ref v, .int s, .int (nI f), .int sg, .int b, .int (sp_or (fun o => sp_isin s o && decide ((M.1 (v + 1)) (4 * o + f) = 1) && sp_cmp ((M.1 (v + 2)) (4 * o + f)) sg b) (fun o => (1 : Int32) <<< (nI o &&& 31)) i), .int (nI i), w0] [] M Q := by
    refine am_loop 12 (fun i hi ih => ?_)
    intro w0
    refine am_iload d100_6 rfl ?_
    refine am_bipush (nI 12) d100_8 (by decide) ?_
    refine am_icgeN 72 i 12 d100_10 (by decide) rfl rfl (by omega) (by decide) (fun h10 => ?_) (fun h10 => ?_)
    · refine am_iload d100_72 rfl ?_
      refine am_iret d100_74 rfl rfl ?_
      obtain rfl : i = 12 := by omega
      exact hQ
    · refine am_iload d100_13 rfl ?_
      refine am_iload_n d100_15 rfl ?_
      refine am_cs2 32 d100_16 ml100_31 rfl (by decide) rfl rfl rfl (Nat.le_of_ble_eq_true rfl) ?_
      refine c_cellOf (a := i) (b := f) ?_
      show am_W 100 19 _ (.int _ :: _) _ _
      refine am_istore d100_19 (Nat.le_of_ble_eq_true rfl) rfl ?_
      refine am_iload d100_21 rfl ?_
      refine am_iload_n d100_23 rfl ?_
      refine am_cs2 104 d100_24 ml100_27 rfl (by decide) rfl rfl rfl (Nat.le_of_ble_eq_true rfl) ?_
      refine c_isIn (fun hin => ?_) (fun hin => ?_)
      · show am_W 100 27 _ (.int 1 :: _) _ _
        refine am_ifeq 66 d100_27 (by decide) (fun h27 => ?_) (fun h27 => ?_)
        · refine am_incN i d100_66 rfl rfl ?_
          refine am_goto 6 d100_69 (by decide) ?_
          first | exact absurd h27 (by decide) | exact absurd rfl h27 | exact absurd h54 (by decide) | exact absurd rfl h54 | (rw [← sp_or_t (c := (fun o => sp_isin s o && decide ((M.1 (v + 1)) (4 * o + f) = 1) && sp_cmp ((M.1 (v + 2)) (4 * o + f)) sg b)) (g := (fun o => (1 : Int32) <<< (nI o &&& 31))) (n := i) (by simp [*])]; exact ih h10 _) | (rw [← sp_or_f (c := (fun o => sp_isin s o && decide ((M.1 (v + 1)) (4 * o + f) = 1) && sp_cmp ((M.1 (v + 2)) (4 * o + f)) sg b)) (g := (fun o => (1 : Int32) <<< (nI o &&& 31))) (n := i) (by simp [*])]; exact ih h10 _) | (rw [← sp_or_f (c := (fun o => sp_isin s o && decide ((M.1 (v + 1)) (4 * o + f) = 1) && sp_cmp ((M.1 (v + 2)) (4 * o + f)) sg b)) (g := (fun o => (1 : Int32) <<< (nI o &&& 31))) (n := i) (by simp [*])]; exact ih h10 _) | (rw [← sp_or_f (c := (fun o => sp_isin s o && decide ((M.1 (v + 1)) (4 * o + f) = 1) && sp_cmp ((M.1 (v + 2)) (4 * o + f)) sg b)) (g := (fun o => (1 : Int32) <<< (nI o &&& 31))) (n := i) (by simp [*])]; exact ih h10 _)
        · refine am_aload_n d100_30 rfl ?_
          refine am_getr d100_31 fl100_9 (bv_0 hv) rfl ?_
          refine am_iload d100_34 rfl ?_
          refine am_ialdN (4 * i + f) d100_36 (bv_1 hv) (by omega) (by decide) ?_
          refine am_iconst 1 d100_37 (by decide) ?_
          refine am_icne 66 d100_38 (by decide) (fun h38 => ?_) (fun h38 => ?_)
          · refine am_incN i d100_66 rfl rfl ?_
            refine am_goto 6 d100_69 (by decide) ?_
            first | exact absurd h27 (by decide) | exact absurd rfl h27 | exact absurd h54 (by decide) | exact absurd rfl h54 | (rw [← sp_or_t (c := (fun o => sp_isin s o && decide ((M.1 (v + 1)) (4 * o + f) = 1) && sp_cmp ((M.1 (v + 2)) (4 * o + f)) sg b)) (g := (fun o => (1 : Int32) <<< (nI o &&& 31))) (n := i) (by simp [*])]; exact ih h10 _) | (rw [← sp_or_f (c := (fun o => sp_isin s o && decide ((M.1 (v + 1)) (4 * o + f) = 1) && sp_cmp ((M.1 (v + 2)) (4 * o + f)) sg b)) (g := (fun o => (1 : Int32) <<< (nI o &&& 31))) (n := i) (by simp [*])]; exact ih h10 _) | (rw [← sp_or_f (c := (fun o => sp_isin s o && decide ((M.1 (v + 1)) (4 * o + f) = 1) && sp_cmp ((M.1 (v + 2)) (4 * o + f)) sg b)) (g := (fun o => (1 : Int32) <<< (nI o &&& 31))) (n := i) (by simp [*])]; exact ih h10 _) | (rw [← sp_or_f (c := (fun o => sp_isin s o && decide ((M.1 (v + 1)) (4 * o + f) = 1) && sp_cmp ((M.1 (v + 2)) (4 * o + f)) sg b)) (g := (fun o => (1 : Int32) <<< (nI o &&& 31))) (n := i) (by simp [*])]; exact ih h10 _)
          · refine am_aload_n d100_41 rfl ?_
            refine am_getr d100_42 fl100_15 (bv_0 hv) rfl ?_
            refine am_iload d100_45 rfl ?_
            refine am_ialdN (4 * i + f) d100_47 (bv_2 hv) (by omega) (by decide) ?_
            refine am_iload_n d100_48 rfl ?_
            refine am_iload d100_49 rfl ?_
            refine am_cs3 103 d100_51 ml100_42 rfl (by decide) rfl rfl rfl rfl (Nat.le_of_ble_eq_true rfl) ?_
            refine c_compares (fun hcm => ?_) (fun hcm => ?_)
            · show am_W 100 54 _ (.int 1 :: _) _ _
              refine am_ifeq 66 d100_54 (by decide) (fun h54 => ?_) (fun h54 => ?_)
              · refine am_incN i d100_66 rfl rfl ?_
                refine am_goto 6 d100_69 (by decide) ?_
                first | exact absurd h27 (by decide) | exact absurd rfl h27 | exact absurd h54 (by decide) | exact absurd rfl h54 | (rw [← sp_or_t (c := (fun o => sp_isin s o && decide ((M.1 (v + 1)) (4 * o + f) = 1) && sp_cmp ((M.1 (v + 2)) (4 * o + f)) sg b)) (g := (fun o => (1 : Int32) <<< (nI o &&& 31))) (n := i) (by simp [*])]; exact ih h10 _) | (rw [← sp_or_f (c := (fun o => sp_isin s o && decide ((M.1 (v + 1)) (4 * o + f) = 1) && sp_cmp ((M.1 (v + 2)) (4 * o + f)) sg b)) (g := (fun o => (1 : Int32) <<< (nI o &&& 31))) (n := i) (by simp [*])]; exact ih h10 _) | (rw [← sp_or_f (c := (fun o => sp_isin s o && decide ((M.1 (v + 1)) (4 * o + f) = 1) && sp_cmp ((M.1 (v + 2)) (4 * o + f)) sg b)) (g := (fun o => (1 : Int32) <<< (nI o &&& 31))) (n := i) (by simp [*])]; exact ih h10 _) | (rw [← sp_or_f (c := (fun o => sp_isin s o && decide ((M.1 (v + 1)) (4 * o + f) = 1) && sp_cmp ((M.1 (v + 2)) (4 * o + f)) sg b)) (g := (fun o => (1 : Int32) <<< (nI o &&& 31))) (n := i) (by simp [*])]; exact ih h10 _)
              · refine am_iload d100_57 rfl ?_
                refine am_iconst 1 d100_59 (by decide) ?_
                refine am_iload d100_60 rfl ?_
                refine am_ishl d100_62 ?_
                refine am_ior d100_63 ?_
                refine am_istore d100_64 (Nat.le_of_ble_eq_true rfl) rfl ?_
                refine am_incN i d100_66 rfl rfl ?_
                refine am_goto 6 d100_69 (by decide) ?_
                first | exact absurd h27 (by decide) | exact absurd rfl h27 | exact absurd h54 (by decide) | exact absurd rfl h54 | (rw [← sp_or_t (c := (fun o => sp_isin s o && decide ((M.1 (v + 1)) (4 * o + f) = 1) && sp_cmp ((M.1 (v + 2)) (4 * o + f)) sg b)) (g := (fun o => (1 : Int32) <<< (nI o &&& 31))) (n := i) (by simp [*])]; exact ih h10 _) | (rw [← sp_or_f (c := (fun o => sp_isin s o && decide ((M.1 (v + 1)) (4 * o + f) = 1) && sp_cmp ((M.1 (v + 2)) (4 * o + f)) sg b)) (g := (fun o => (1 : Int32) <<< (nI o &&& 31))) (n := i) (by simp [*])]; exact ih h10 _) | (rw [← sp_or_f (c := (fun o => sp_isin s o && decide ((M.1 (v + 1)) (4 * o + f) = 1) && sp_cmp ((M.1 (v + 2)) (4 * o + f)) sg b)) (g := (fun o => (1 : Int32) <<< (nI o &&& 31))) (n := i) (by simp [*])]; exact ih h10 _) | (rw [← sp_or_f (c := (fun o => sp_isin s o && decide ((M.1 (v + 1)) (4 * o + f) = 1) && sp_cmp ((M.1 (v + 2)) (4 * o + f)) sg b)) (g := (fun o => (1 : Int32) <<< (nI o &&& 31))) (n := i) (by simp [*])]; exact ih h10 _)
            · show am_W 100 54 _ (.int 0 :: _) _ _
              refine am_ifeq 66 d100_54 (by decide) (fun h54 => ?_) (fun h54 => ?_)
              · refine am_incN i d100_66 rfl rfl ?_
                refine am_goto 6 d100_69 (by decide) ?_
                first | exact absurd h27 (by decide) | exact absurd rfl h27 | exact absurd h54 (by decide) | exact absurd rfl h54 | (rw [← sp_or_t (c := (fun o => sp_isin s o && decide ((M.1 (v + 1)) (4 * o + f) = 1) && sp_cmp ((M.1 (v + 2)) (4 * o + f)) sg b)) (g := (fun o => (1 : Int32) <<< (nI o &&& 31))) (n := i) (by simp [*])]; exact ih h10 _) | (rw [← sp_or_f (c := (fun o => sp_isin s o && decide ((M.1 (v + 1)) (4 * o + f) = 1) && sp_cmp ((M.1 (v + 2)) (4 * o + f)) sg b)) (g := (fun o => (1 : Int32) <<< (nI o &&& 31))) (n := i) (by simp [*])]; exact ih h10 _) | (rw [← sp_or_f (c := (fun o => sp_isin s o && decide ((M.1 (v + 1)) (4 * o + f) = 1) && sp_cmp ((M.1 (v + 2)) (4 * o + f)) sg b)) (g := (fun o => (1 : Int32) <<< (nI o &&& 31))) (n := i) (by simp [*])]; exact ih h10 _) | (rw [← sp_or_f (c := (fun o => sp_isin s o && decide ((M.1 (v + 1)) (4 * o + f) = 1) && sp_cmp ((M.1 (v + 2)) (4 * o + f)) sg b)) (g := (fun o => (1 : Int32) <<< (nI o &&& 31))) (n := i) (by simp [*])]; exact ih h10 _)
              · refine am_iload d100_57 rfl ?_
                refine am_iconst 1 d100_59 (by decide) ?_
                refine am_iload d100_60 rfl ?_
                refine am_ishl d100_62 ?_
                refine am_ior d100_63 ?_
                refine am_istore d100_64 (Nat.le_of_ble_eq_true rfl) rfl ?_
                refine am_incN i d100_66 rfl rfl ?_
                refine am_goto 6 d100_69 (by decide) ?_
                first | exact absurd h27 (by decide) | exact absurd rfl h27 | exact absurd h54 (by decide) | exact absurd rfl h54 | (rw [← sp_or_t (c := (fun o => sp_isin s o && decide ((M.1 (v + 1)) (4 * o + f) = 1) && sp_cmp ((M.1 (v + 2)) (4 * o + f)) sg b)) (g := (fun o => (1 : Int32) <<< (nI o &&& 31))) (n := i) (by simp [*])]; exact ih h10 _) | (rw [← sp_or_f (c := (fun o => sp_isin s o && decide ((M.1 (v + 1)) (4 * o + f) = 1) && sp_cmp ((M.1 (v + 2)) (4 * o + f)) sg b)) (g := (fun o => (1 : Int32) <<< (nI o &&& 31))) (n := i) (by simp [*])]; exact ih h10 _) | (rw [← sp_or_f (c := (fun o => sp_isin s o && decide ((M.1 (v + 1)) (4 * o + f) = 1) && sp_cmp ((M.1 (v + 2)) (4 * o + f)) sg b)) (g := (fun o => (1 : Int32) <<< (nI o &&& 31))) (n := i) (by simp [*])]; exact ih h10 _) | (rw [← sp_or_f (c := (fun o => sp_isin s o && decide ((M.1 (v + 1)) (4 * o + f) = 1) && sp_cmp ((M.1 (v + 2)) (4 * o + f)) sg b)) (g := (fun o => (1 : Int32) <<< (nI o &&& 31))) (n := i) (by simp [*])]; exact ih h10 _)
      · show am_W 100 27 _ (.int 0 :: _) _ _
        refine am_ifeq 66 d100_27 (by decide) (fun h27 => ?_) (fun h27 => ?_)
        · refine am_incN i d100_66 rfl rfl ?_
          refine am_goto 6 d100_69 (by decide) ?_
          first | exact absurd h27 (by decide) | exact absurd rfl h27 | exact absurd h54 (by decide) | exact absurd rfl h54 | (rw [← sp_or_t (c := (fun o => sp_isin s o && decide ((M.1 (v + 1)) (4 * o + f) = 1) && sp_cmp ((M.1 (v + 2)) (4 * o + f)) sg b)) (g := (fun o => (1 : Int32) <<< (nI o &&& 31))) (n := i) (by simp [*])]; exact ih h10 _) | (rw [← sp_or_f (c := (fun o => sp_isin s o && decide ((M.1 (v + 1)) (4 * o + f) = 1) && sp_cmp ((M.1 (v + 2)) (4 * o + f)) sg b)) (g := (fun o => (1 : Int32) <<< (nI o &&& 31))) (n := i) (by simp [*])]; exact ih h10 _) | (rw [← sp_or_f (c := (fun o => sp_isin s o && decide ((M.1 (v + 1)) (4 * o + f) = 1) && sp_cmp ((M.1 (v + 2)) (4 * o + f)) sg b)) (g := (fun o => (1 : Int32) <<< (nI o &&& 31))) (n := i) (by simp [*])]; exact ih h10 _) | (rw [← sp_or_f (c := (fun o => sp_isin s o && decide ((M.1 (v + 1)) (4 * o + f) = 1) && sp_cmp ((M.1 (v + 2)) (4 * o + f)) sg b)) (g := (fun o => (1 : Int32) <<< (nI o &&& 31))) (n := i) (by simp [*])]; exact ih h10 _)
        · refine am_aload_n d100_30 rfl ?_
          refine am_getr d100_31 fl100_9 (bv_0 hv) rfl ?_
          refine am_iload d100_34 rfl ?_
          refine am_ialdN (4 * i + f) d100_36 (bv_1 hv) (by omega) (by decide) ?_
          refine am_iconst 1 d100_37 (by decide) ?_
          refine am_icne 66 d100_38 (by decide) (fun h38 => ?_) (fun h38 => ?_)
          · refine am_incN i d100_66 rfl rfl ?_
            refine am_goto 6 d100_69 (by decide) ?_
            first | exact absurd h27 (by decide) | exact absurd rfl h27 | exact absurd h54 (by decide) | exact absurd rfl h54 | (rw [← sp_or_t (c := (fun o => sp_isin s o && decide ((M.1 (v + 1)) (4 * o + f) = 1) && sp_cmp ((M.1 (v + 2)) (4 * o + f)) sg b)) (g := (fun o => (1 : Int32) <<< (nI o &&& 31))) (n := i) (by simp [*])]; exact ih h10 _) | (rw [← sp_or_f (c := (fun o => sp_isin s o && decide ((M.1 (v + 1)) (4 * o + f) = 1) && sp_cmp ((M.1 (v + 2)) (4 * o + f)) sg b)) (g := (fun o => (1 : Int32) <<< (nI o &&& 31))) (n := i) (by simp [*])]; exact ih h10 _) | (rw [← sp_or_f (c := (fun o => sp_isin s o && decide ((M.1 (v + 1)) (4 * o + f) = 1) && sp_cmp ((M.1 (v + 2)) (4 * o + f)) sg b)) (g := (fun o => (1 : Int32) <<< (nI o &&& 31))) (n := i) (by simp [*])]; exact ih h10 _) | (rw [← sp_or_f (c := (fun o => sp_isin s o && decide ((M.1 (v + 1)) (4 * o + f) = 1) && sp_cmp ((M.1 (v + 2)) (4 * o + f)) sg b)) (g := (fun o => (1 : Int32) <<< (nI o &&& 31))) (n := i) (by simp [*])]; exact ih h10 _)
          · refine am_aload_n d100_41 rfl ?_
            refine am_getr d100_42 fl100_15 (bv_0 hv) rfl ?_
            refine am_iload d100_45 rfl ?_
            refine am_ialdN (4 * i + f) d100_47 (bv_2 hv) (by omega) (by decide) ?_
            refine am_iload_n d100_48 rfl ?_
            refine am_iload d100_49 rfl ?_
            refine am_cs3 103 d100_51 ml100_42 rfl (by decide) rfl rfl rfl rfl (Nat.le_of_ble_eq_true rfl) ?_
            refine c_compares (fun hcm => ?_) (fun hcm => ?_)
            · show am_W 100 54 _ (.int 1 :: _) _ _
              refine am_ifeq 66 d100_54 (by decide) (fun h54 => ?_) (fun h54 => ?_)
              · refine am_incN i d100_66 rfl rfl ?_
                refine am_goto 6 d100_69 (by decide) ?_
                first | exact absurd h27 (by decide) | exact absurd rfl h27 | exact absurd h54 (by decide) | exact absurd rfl h54 | (rw [← sp_or_t (c := (fun o => sp_isin s o && decide ((M.1 (v + 1)) (4 * o + f) = 1) && sp_cmp ((M.1 (v + 2)) (4 * o + f)) sg b)) (g := (fun o => (1 : Int32) <<< (nI o &&& 31))) (n := i) (by simp [*])]; exact ih h10 _) | (rw [← sp_or_f (c := (fun o => sp_isin s o && decide ((M.1 (v + 1)) (4 * o + f) = 1) && sp_cmp ((M.1 (v + 2)) (4 * o + f)) sg b)) (g := (fun o => (1 : Int32) <<< (nI o &&& 31))) (n := i) (by simp [*])]; exact ih h10 _) | (rw [← sp_or_f (c := (fun o => sp_isin s o && decide ((M.1 (v + 1)) (4 * o + f) = 1) && sp_cmp ((M.1 (v + 2)) (4 * o + f)) sg b)) (g := (fun o => (1 : Int32) <<< (nI o &&& 31))) (n := i) (by simp [*])]; exact ih h10 _) | (rw [← sp_or_f (c := (fun o => sp_isin s o && decide ((M.1 (v + 1)) (4 * o + f) = 1) && sp_cmp ((M.1 (v + 2)) (4 * o + f)) sg b)) (g := (fun o => (1 : Int32) <<< (nI o &&& 31))) (n := i) (by simp [*])]; exact ih h10 _)
              · refine am_iload d100_57 rfl ?_
                refine am_iconst 1 d100_59 (by decide) ?_
                refine am_iload d100_60 rfl ?_
                refine am_ishl d100_62 ?_
                refine am_ior d100_63 ?_
                refine am_istore d100_64 (Nat.le_of_ble_eq_true rfl) rfl ?_
                refine am_incN i d100_66 rfl rfl ?_
                refine am_goto 6 d100_69 (by decide) ?_
                first | exact absurd h27 (by decide) | exact absurd rfl h27 | exact absurd h54 (by decide) | exact absurd rfl h54 | (rw [← sp_or_t (c := (fun o => sp_isin s o && decide ((M.1 (v + 1)) (4 * o + f) = 1) && sp_cmp ((M.1 (v + 2)) (4 * o + f)) sg b)) (g := (fun o => (1 : Int32) <<< (nI o &&& 31))) (n := i) (by simp [*])]; exact ih h10 _) | (rw [← sp_or_f (c := (fun o => sp_isin s o && decide ((M.1 (v + 1)) (4 * o + f) = 1) && sp_cmp ((M.1 (v + 2)) (4 * o + f)) sg b)) (g := (fun o => (1 : Int32) <<< (nI o &&& 31))) (n := i) (by simp [*])]; exact ih h10 _) | (rw [← sp_or_f (c := (fun o => sp_isin s o && decide ((M.1 (v + 1)) (4 * o + f) = 1) && sp_cmp ((M.1 (v + 2)) (4 * o + f)) sg b)) (g := (fun o => (1 : Int32) <<< (nI o &&& 31))) (n := i) (by simp [*])]; exact ih h10 _) | (rw [← sp_or_f (c := (fun o => sp_isin s o && decide ((M.1 (v + 1)) (4 * o + f) = 1) && sp_cmp ((M.1 (v + 2)) (4 * o + f)) sg b)) (g := (fun o => (1 : Int32) <<< (nI o &&& 31))) (n := i) (by simp [*])]; exact ih h10 _)
            · show am_W 100 54 _ (.int 0 :: _) _ _
              refine am_ifeq 66 d100_54 (by decide) (fun h54 => ?_) (fun h54 => ?_)
              · refine am_incN i d100_66 rfl rfl ?_
                refine am_goto 6 d100_69 (by decide) ?_
                first | exact absurd h27 (by decide) | exact absurd rfl h27 | exact absurd h54 (by decide) | exact absurd rfl h54 | (rw [← sp_or_t (c := (fun o => sp_isin s o && decide ((M.1 (v + 1)) (4 * o + f) = 1) && sp_cmp ((M.1 (v + 2)) (4 * o + f)) sg b)) (g := (fun o => (1 : Int32) <<< (nI o &&& 31))) (n := i) (by simp [*])]; exact ih h10 _) | (rw [← sp_or_f (c := (fun o => sp_isin s o && decide ((M.1 (v + 1)) (4 * o + f) = 1) && sp_cmp ((M.1 (v + 2)) (4 * o + f)) sg b)) (g := (fun o => (1 : Int32) <<< (nI o &&& 31))) (n := i) (by simp [*])]; exact ih h10 _) | (rw [← sp_or_f (c := (fun o => sp_isin s o && decide ((M.1 (v + 1)) (4 * o + f) = 1) && sp_cmp ((M.1 (v + 2)) (4 * o + f)) sg b)) (g := (fun o => (1 : Int32) <<< (nI o &&& 31))) (n := i) (by simp [*])]; exact ih h10 _) | (rw [← sp_or_f (c := (fun o => sp_isin s o && decide ((M.1 (v + 1)) (4 * o + f) = 1) && sp_cmp ((M.1 (v + 2)) (4 * o + f)) sg b)) (g := (fun o => (1 : Int32) <<< (nI o &&& 31))) (n := i) (by simp [*])]; exact ih h10 _)
              · refine am_iload d100_57 rfl ?_
                refine am_iconst 1 d100_59 (by decide) ?_
                refine am_iload d100_60 rfl ?_
                refine am_ishl d100_62 ?_
                refine am_ior d100_63 ?_
                refine am_istore d100_64 (Nat.le_of_ble_eq_true rfl) rfl ?_
                refine am_incN i d100_66 rfl rfl ?_
                refine am_goto 6 d100_69 (by decide) ?_
                first | exact absurd h27 (by decide) | exact absurd rfl h27 | exact absurd h54 (by decide) | exact absurd rfl h54 | (rw [← sp_or_t (c := (fun o => sp_isin s o && decide ((M.1 (v + 1)) (4 * o + f) = 1) && sp_cmp ((M.1 (v + 2)) (4 * o + f)) sg b)) (g := (fun o => (1 : Int32) <<< (nI o &&& 31))) (n := i) (by simp [*])]; exact ih h10 _) | (rw [← sp_or_f (c := (fun o => sp_isin s o && decide ((M.1 (v + 1)) (4 * o + f) = 1) && sp_cmp ((M.1 (v + 2)) (4 * o + f)) sg b)) (g := (fun o => (1 : Int32) <<< (nI o &&& 31))) (n := i) (by simp [*])]; exact ih h10 _) | (rw [← sp_or_f (c := (fun o => sp_isin s o && decide ((M.1 (v + 1)) (4 * o + f) = 1) && sp_cmp ((M.1 (v + 2)) (4 * o + f)) sg b)) (g := (fun o => (1 : Int32) <<< (nI o &&& 31))) (n := i) (by simp [*])]; exact ih h10 _) | (rw [← sp_or_f (c := (fun o => sp_isin s o && decide ((M.1 (v + 1)) (4 * o + f) = 1) && sp_cmp ((M.1 (v + 2)) (4 * o + f)) sg b)) (g := (fun o => (1 : Int32) <<< (nI o &&& 31))) (n := i) (by simp [*])]; exact ih h10 _)
  show am_W kV_withNumber 0 _ [] M Q
  refine am_iconst 0 d100_0 (by decide) ?_
  refine am_istore d100_1 (Nat.le_of_ble_eq_true rfl) rfl ?_
  refine am_iconst (nI 0) d100_3 (by decide) ?_
  refine am_istore d100_4 (Nat.le_of_ble_eq_true rfl) rfl ?_
  exact loop 0 (by decide) _
