/-! Writes.show -/
set_option maxHeartbeats 1000000 in
theorem c_show {v nb nw : Nat} {M : am_M} {Q : am_T} (hv : bv v) (hR : bp_R (M.1 7) (M.1 9) nb nw) (hb : nb ≤ 6) (hn : M.1 6 6 = nI nw)
    (hQ : ∀ M', fr [v + 1, v + 2, v + 3] M M' → (∀ c, c < 48 → M'.1 (v + 1) c = sp_get (M.1 10) 0 (sp_last (sp_in (M.1 7) (M.1 8) (M.1 9) (M.1 5) c) nw) ∧ M'.1 (v + 2) c = sp_get (M.1 11) 0 (sp_last (sp_in (M.1 7) (M.1 8) (M.1 9) (M.1 5) c) nw) ∧ M'.1 (v + 3) c = sp_get (M.1 8) (-1) (sp_last (sp_in (M.1 7) (M.1 8) (M.1 9) (M.1 5) c) nw)) → Q (.inl none) M') :
    am_W kW_show 0 (am_in kW_show [.ref 6, .ref 5, .ref v]) [] M Q := by
  obtain ⟨h120, rows0⟩ := hR
  have v13 : 13 ≤ v := by rcases hv with rfl | rfl | rfl <;> decide
  have loop : ∀ i, i ≤ nw → ∀ M1 : am_M, (fr [v + 1, v + 2, v + 3] M M1 ∧ ∀ c, c < 48 → M1.1 (v + 1) c = sp_get (M.1 10) 0 (sp_last (sp_in (M.1 7) (M.1 8) (M.1 9) (M.1 5) c) i) ∧ M1.1 (v + 2) c = sp_get (M.1 11) 0 (sp_last (sp_in (M.1 7) (M.1 8) (M.1 9) (M.1 5) c) i) ∧ M1.1 (v + 3) c = sp_get (M.1 8) (-1) (sp_last (sp_in (M.1 7) (M.1 8) (M.1 9) (M.1 5) c) i)) →
      am_W kW_show 6 [.ref 6, .ref 5, .ref v, .int (nI i)] [] M1 Q := by
    refine am_loop nw (fun i hi ih => ?_)
    intro M1 I
    have fe : ∀ p, p < 14 → M1.1 p = M.1 p := fun p hp => I.1.eq p (by simp; omega)
    have e5 := fe 5 (by decide)
    have e6 := fe 6 (by decide)
    have e7 := fe 7 (by decide)
    have e8 := fe 8 (by decide)
    have e9 := fe 9 (by decide)
    have e10 := fe 10 (by decide)
    have e11 := fe 11 (by decide)
    have hcnt : M1.1 6 6 = nI nw := by rw [e6]; exact hn
    have rows : ∀ i, i < nw → (∃ b, b < nb ∧ M1.1 7 i = nI b) ∧ ∃ c, c < 48 ∧ M1.1 9 i = nI c := by rw [e7, e9]; exact rows0
    refine am_iload_n d107_6 rfl ?_
    refine am_aload_n d107_7 rfl ?_
    refine am_geti d107_8 fl107_31 sh_6 rfl ?_
    refine am_icgeN 88 i nw d107_11 (by decide) rfl hcnt (by omega) (by omega) (fun h11 => ?_) (fun h11 => ?_)
    · refine am_vret d107_88 rfl ?_
      obtain rfl : i = nw := by omega
      exact hQ M1 I.1 I.2
    · obtain ⟨⟨bi, hbi0, hbi⟩, ci, hc48, hci⟩ := rows i h11
      refine am_aload_n d107_14 rfl ?_
      refine am_getr d107_15 fl107_15 sh_6 rfl ?_
      refine am_iload_n d107_18 rfl ?_
      refine am_ialdN i d107_19 sh_8 (by omega) (by decide) ?_
      refine am_aload_n d107_20 rfl ?_
      refine am_aload_n d107_21 rfl ?_
      refine am_getr d107_22 fl107_9 sh_6 rfl ?_
      refine am_iload_n d107_25 rfl ?_
      refine am_ialdN i d107_26 sh_7 (by omega) (by decide) ?_
      refine am_ialdE bi hbi d107_27 sh_5 (by omega) (by decide) ?_
      refine am_icgt 82 d107_28 (by decide) (fun h28 => ?_) (fun h28 => ?_)
      · refine am_incN i d107_82 rfl rfl ?_
        refine am_goto 6 d107_85 (by decide) ?_
        exact ih h11 M1 ⟨I.1, fun c hc => by
          have hf : ¬ sp_in (M.1 7) (M.1 8) (M.1 9) (M.1 5) c i = true := by
            unfold sp_in
            rw [Bool.and_eq_true, decide_eq_true_eq, decide_eq_true_eq, ← e7, ← e8, ← e5, hbi, nI_clamp (by omega)]
            exact fun z => absurd h28 (Int32.not_lt.mpr z.2)
          rw [sp_last_n hf]
          exact I.2 c hc⟩
      · refine am_aload_n d107_31 rfl ?_
        refine am_getr d107_32 fl107_40 (bv_0 hv) rfl ?_
        refine am_aload_n d107_35 rfl ?_
        refine am_getr d107_36 fl107_18 sh_6 rfl ?_
        refine am_iload_n d107_39 rfl ?_
        refine am_ialdN i d107_40 sh_9 (by omega) (by decide) ?_
        refine am_aload_n d107_41 rfl ?_
        refine am_getr d107_42 fl107_21 sh_6 rfl ?_
        refine am_iload_n d107_45 rfl ?_
        refine am_ialdN i d107_46 sh_10 (by omega) (by decide) ?_
        refine am_iastE ci hci d107_47 (bv_1 hv) hc48 (by decide) ?_
        refine am_aload_n d107_48 rfl ?_
        refine am_getr d107_49 fl107_41 (bv_0 hv) rfl ?_
        refine am_aload_n d107_52 rfl ?_
        refine am_getr d107_53 fl107_18 sh_6 rfl ?_
        refine am_iload_n d107_56 rfl ?_
        refine am_ialdN i d107_57 sh_9 (by omega) (by decide) ?_
        refine am_aload_n d107_58 rfl ?_
        refine am_getr d107_59 fl107_24 sh_6 rfl ?_
        refine am_iload_n d107_62 rfl ?_
        refine am_ialdN i d107_63 sh_11 (by omega) (by decide) ?_
        refine am_iastE ci (by simp only [am_set_ne (show (9 : Nat) ≠ v + 1 by omega), am_set_ne (show (9 : Nat) ≠ v + 2 by omega)]; exact hci) d107_64 (bv_2 hv) hc48 (by decide) ?_
        refine am_aload_n d107_65 rfl ?_
        refine am_getr d107_66 fl107_42 (bv_0 hv) rfl ?_
        refine am_aload_n d107_69 rfl ?_
        refine am_getr d107_70 fl107_18 sh_6 rfl ?_
        refine am_iload_n d107_73 rfl ?_
        refine am_ialdN i d107_74 sh_9 (by omega) (by decide) ?_
        refine am_aload_n d107_75 rfl ?_
        refine am_getr d107_76 fl107_15 sh_6 rfl ?_
        refine am_iload_n d107_79 rfl ?_
        refine am_ialdN i d107_80 sh_8 (by omega) (by decide) ?_
        refine am_iastE ci (by simp only [am_set_ne (show (9 : Nat) ≠ v + 1 by omega), am_set_ne (show (9 : Nat) ≠ v + 2 by omega)]; exact hci) d107_81 (bv_3 hv) hc48 (by decide) ?_
        refine am_incN i d107_82 rfl rfl ?_
        refine am_goto 6 d107_85 (by decide) ?_
        exact ih h11 _ ⟨((I.1.set (by simp)).set (by simp)).set (by simp), fun c hc => by
          have h28' := Int32.not_lt.mp h28
          simp only [am_set_ne (show (8 : Nat) ≠ v + 1 by omega), am_set_ne (show (8 : Nat) ≠ v + 2 by omega), am_set_ne (show (11 : Nat) ≠ v + 1 by omega)]
          simp only [am_set_self, am_set_ne (show v + 1 ≠ v + 2 by omega), am_set_ne (show v + 1 ≠ v + 3 by omega), am_set_ne (show v + 2 ≠ v + 3 by omega), am_set_ne (show v + 2 ≠ v + 1 by omega), am_set_ne (show v + 3 ≠ v + 1 by omega), am_set_ne (show v + 3 ≠ v + 2 by omega), upd]
          by_cases hcc : c = ci
          · subst hcc
            have hf : sp_in (M.1 7) (M.1 8) (M.1 9) (M.1 5) c i = true := by
              unfold sp_in
              rw [Bool.and_eq_true, decide_eq_true_eq, decide_eq_true_eq, ← e7, ← e8, ← e5, ← e9, hbi, nI_clamp (by omega)]
              exact ⟨hci, h28'⟩
            rw [sp_last_s hf]
            simp only [if_true, sp_get, e10, e11, e8]
            exact ⟨trivial, trivial, trivial⟩
          · have hf : ¬ sp_in (M.1 7) (M.1 8) (M.1 9) (M.1 5) c i = true := by
              unfold sp_in
              rw [Bool.and_eq_true, decide_eq_true_eq, ← e9, hci]
              exact fun z => hcc ((nI_eq (by omega) (by omega)).mp z.1).symm
            rw [sp_last_n hf]
            simp only [if_neg hcc]
            exact I.2 c hc⟩
  have start : fr [v + 1, v + 2, v + 3] M (am_fill (am_fill (am_fill M (v + 1) 48 0) (v + 2) 48 0) (v + 3) 48 (-1)) ∧ ∀ c, c < 48 → (am_fill (am_fill (am_fill M (v + 1) 48 0) (v + 2) 48 0) (v + 3) 48 (-1)).1 (v + 1) c = sp_get (M.1 10) 0 (sp_last (sp_in (M.1 7) (M.1 8) (M.1 9) (M.1 5) c) 0) ∧ (am_fill (am_fill (am_fill M (v + 1) 48 0) (v + 2) 48 0) (v + 3) 48 (-1)).1 (v + 2) c = sp_get (M.1 11) 0 (sp_last (sp_in (M.1 7) (M.1 8) (M.1 9) (M.1 5) c) 0) ∧ (am_fill (am_fill (am_fill M (v + 1) 48 0) (v + 2) 48 0) (v + 3) 48 (-1)).1 (v + 3) c = sp_get (M.1 8) (-1) (sp_last (sp_in (M.1 7) (M.1 8) (M.1 9) (M.1 5) c) 0) := by
    refine ⟨am_fill_fr (am_fill_fr (am_fill_fr fr.rf (by simp)) (by simp)) (by simp), fun c hc => ⟨?_, ?_, am_fill_self hc⟩⟩
    · rw [am_fill_ne (by omega), am_fill_ne (by omega), am_fill_self hc]; rfl
    · rw [am_fill_ne (by omega), am_fill_self hc]; rfl
  show am_W kW_show 0 [.ref 6, .ref 5, .ref v, .null] [] M Q
  refine am_aload_n d107_0 rfl ?_
  refine am_cv0 95 d107_1 ml107_35 rfl (by decide) (bv_0 hv) rfl  (Nat.le_of_ble_eq_true rfl) ?_
  refine c_clear hv ?_
  show am_W 107 4 _ _ _ _
  refine am_iconst (nI 0) d107_4 (by decide) ?_
  refine am_istore_n d107_5 (Nat.le_of_ble_eq_true rfl) rfl ?_
  exact loop 0 (Nat.zero_le _) _ start
