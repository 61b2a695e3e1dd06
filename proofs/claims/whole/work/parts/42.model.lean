/-! the model: read, history, differs, state, about, type, erase -/
theorem q_read {pn : Nat → Nat} {nb nw ck : Nat} {M : am_M} {Q : am_T} (hS : moS M pn nb nw ck) {a m u w x : Int32} (h1 : ¬ (ix a nb ∧ ix u 12 ∧ ix w 4) → ∀ M', cd M M' 1 → Q (.inl (some (.int 0))) M') (h2 : ∀ b o f, b < nb → a = nI b → o < 12 → u = nI o → f < 4 → w = nI f → ¬ (mo_rd M b m ∧ ix x 3) → ∀ M', cd M M' 2 → Q (.inl (some (.int 0))) M') (h0 : ∀ b o f, b < nb → a = nI b → o < 12 → u = nI o → f < 4 → w = nI f → mo_rd M b m → ix x 3 → ∀ M', cd M M' 0 → Q (.inl (some (.int (if x = 0 then sp_get (M.1 34) 0 (mo_row M pn nw b m (4 * o + f)) else if x = 1 then sp_get (M.1 35) 0 (mo_row M pn nw b m (4 * o + f)) else sp_get (M.1 32) (-1) (mo_row M pn nw b m (4 * o + f)))))) M') : am_W kM_read 0 (am_in kM_read [.ref 27, .int a, .int m, .int u, .int w, .int x]) [] M Q := by
  have hS0 := hS
  obtain ⟨s1, s2, s3, s4, s5, s6, s7, s8, s9⟩ := hS
  have s26 := s2.1
  have s41 := s4.1
  show am_W kM_read 0 _ [] M Q
  refine am_aload_n d49_0 rfl ?_
  refine am_aload_n d49_1 rfl ?_
  refine am_iload_n d49_2 rfl ?_
  refine am_cv1 34 d49_3 ml49_79 rfl (by decide) sh_27 rfl rfl (Nat.le_of_ble_eq_true rfl) ?_
  refine m_noBranch hS0 (fun g1 => ?_) (fun g1 => ?_)
  · show am_W 49 6 _ (.int 1 :: _) _ _
    refine am_ifne 18 d49_6 (by decide) (fun _ => ?_) (fun h => absurd h (by decide))
    refine am_iconst 1 d49_18 (by decide) ?_
    refine am_goto 47 d49_19 (by decide) ?_
    refine am_put d49_47 fl49_45 sh_27 rfl rfl rfl rfl ?_
    refine am_aload_n d49_50 rfl ?_
    refine am_geti d49_51 fl49_45 sh_27 rfl ?_
    show am_W 49 54 _ (.int 1 :: _) _ _
    refine am_ifle 59 d49_54 (by decide) (fun h => absurd h (by decide)) (fun _ => ?_)
    refine am_iconst 0 d49_57 (by decide) ?_
    refine am_iret d49_58 rfl rfl ?_
    first | (rw [if_pos h75] at hz; exact hz) | (rw [if_neg h75, if_pos h90] at hz; exact hz) | (rw [if_neg h75, if_neg h90, hrow] at hz; exact hz) | exact h2 b o f hb rfl ho rfl hf rfl (fun z => gu z.1) _ (cd_0 M _) | exact h2 b o f hb rfl ho rfl hf rfl (fun z => ix_neg (by decide) h33 z.2) _ (cd_0 M _) | exact h2 b o f hb rfl ho rfl hf rfl (fun z => ix_nle (n := 2) (by decide) h39 z.2) _ (cd_0 M _) | exact h1 (fun z => gp z.2) _ (cd_0 M _) | exact h1 (fun z => g1 z.1) _ (cd_0 M _)
  · show am_W 49 6 _ (.int 0 :: _) _ _
    obtain ⟨b, hb, rfl⟩ := g1
    refine am_ifne 18 d49_6 (by decide) (fun h => absurd h (by decide)) (fun _ => ?_)
    refine am_iload_n d49_9 rfl ?_
    refine am_iload d49_10 rfl ?_
    refine am_cs2 35 d49_12 ml49_86 rfl (by decide) rfl rfl rfl (Nat.le_of_ble_eq_true rfl) ?_
    refine m_noPlace (fun gp => ?_) (fun gp => ?_)
    · show am_W 49 15 _ (.int 1 :: _) _ _
      refine am_ifeq 22 d49_15 (by decide) (fun h => absurd h (by decide)) (fun _ => ?_)
      refine am_iconst 1 d49_18 (by decide) ?_
      refine am_goto 47 d49_19 (by decide) ?_
      refine am_put d49_47 fl49_45 sh_27 rfl rfl rfl rfl ?_
      refine am_aload_n d49_50 rfl ?_
      refine am_geti d49_51 fl49_45 sh_27 rfl ?_
      show am_W 49 54 _ (.int 1 :: _) _ _
      refine am_ifle 59 d49_54 (by decide) (fun h => absurd h (by decide)) (fun _ => ?_)
      refine am_iconst 0 d49_57 (by decide) ?_
      refine am_iret d49_58 rfl rfl ?_
      first | (rw [if_pos h75] at hz; exact hz) | (rw [if_neg h75, if_pos h90] at hz; exact hz) | (rw [if_neg h75, if_neg h90, hrow] at hz; exact hz) | exact h2 b o f hb rfl ho rfl hf rfl (fun z => gu z.1) _ (cd_0 M _) | exact h2 b o f hb rfl ho rfl hf rfl (fun z => ix_neg (by decide) h33 z.2) _ (cd_0 M _) | exact h2 b o f hb rfl ho rfl hf rfl (fun z => ix_nle (n := 2) (by decide) h39 z.2) _ (cd_0 M _) | exact h1 (fun z => gp z.2) _ (cd_0 M _) | exact h1 (fun z => g1 z.1) _ (cd_0 M _)
    · show am_W 49 15 _ (.int 0 :: _) _ _
      obtain ⟨⟨o, ho, rfl⟩, ⟨f, hf, rfl⟩⟩ := gp
      refine am_ifeq 22 d49_15 (by decide) (fun _ => ?_) (fun h => absurd h (by decide))
      refine am_aload_n d49_22 rfl ?_
      refine am_iload_n d49_23 rfl ?_
      refine am_iload_n d49_24 rfl ?_
      refine am_cv2 37 d49_25 ml49_71 rfl (by decide) sh_27 rfl rfl rfl (Nat.le_of_ble_eq_true rfl) ?_
      refine m_unreadable (b := b) (by omega) (fun gu => ?_) (fun gu => ?_)
      · show am_W 49 28 _ (.int 1 :: _) _ _
        refine am_ifne 42 d49_28 (by decide) (fun _ => ?_) (fun h => absurd h (by decide))
        refine am_iconst 2 d49_42 (by decide) ?_
        refine am_goto 47 d49_43 (by decide) ?_
        refine am_put d49_47 fl49_45 sh_27 rfl rfl rfl rfl ?_
        refine am_aload_n d49_50 rfl ?_
        refine am_geti d49_51 fl49_45 sh_27 rfl ?_
        show am_W 49 54 _ (.int 2 :: _) _ _
        refine am_ifle 59 d49_54 (by decide) (fun h => absurd h (by decide)) (fun _ => ?_)
        refine am_iconst 0 d49_57 (by decide) ?_
        refine am_iret d49_58 rfl rfl ?_
        first | (rw [if_pos h75] at hz; exact hz) | (rw [if_neg h75, if_pos h90] at hz; exact hz) | (rw [if_neg h75, if_neg h90, hrow] at hz; exact hz) | exact h2 b o f hb rfl ho rfl hf rfl (fun z => gu z.1) _ (cd_0 M _) | exact h2 b o f hb rfl ho rfl hf rfl (fun z => ix_neg (by decide) h33 z.2) _ (cd_0 M _) | exact h2 b o f hb rfl ho rfl hf rfl (fun z => ix_nle (n := 2) (by decide) h39 z.2) _ (cd_0 M _) | exact h1 (fun z => gp z.2) _ (cd_0 M _) | exact h1 (fun z => g1 z.1) _ (cd_0 M _)
      · show am_W 49 28 _ (.int 0 :: _) _ _
        refine am_ifne 42 d49_28 (by decide) (fun h => absurd h (by decide)) (fun _ => ?_)
        refine am_iload d49_31 rfl ?_
        refine am_iflt 42 d49_33 (by decide) (fun h33 => ?_) (fun h33 => ?_)
        · refine am_iconst 2 d49_42 (by decide) ?_
          refine am_goto 47 d49_43 (by decide) ?_
          refine am_put d49_47 fl49_45 sh_27 rfl rfl rfl rfl ?_
          refine am_aload_n d49_50 rfl ?_
          refine am_geti d49_51 fl49_45 sh_27 rfl ?_
          show am_W 49 54 _ (.int 2 :: _) _ _
          refine am_ifle 59 d49_54 (by decide) (fun h => absurd h (by decide)) (fun _ => ?_)
          refine am_iconst 0 d49_57 (by decide) ?_
          refine am_iret d49_58 rfl rfl ?_
          first | (rw [if_pos h75] at hz; exact hz) | (rw [if_neg h75, if_pos h90] at hz; exact hz) | (rw [if_neg h75, if_neg h90, hrow] at hz; exact hz) | exact h2 b o f hb rfl ho rfl hf rfl (fun z => gu z.1) _ (cd_0 M _) | exact h2 b o f hb rfl ho rfl hf rfl (fun z => ix_neg (by decide) h33 z.2) _ (cd_0 M _) | exact h2 b o f hb rfl ho rfl hf rfl (fun z => ix_nle (n := 2) (by decide) h39 z.2) _ (cd_0 M _) | exact h1 (fun z => gp z.2) _ (cd_0 M _) | exact h1 (fun z => g1 z.1) _ (cd_0 M _)
        · refine am_iload d49_36 rfl ?_
          refine am_iconst (nI 2) d49_38 (by decide) ?_
          refine am_icle 46 d49_39 (by decide) (fun h39 => ?_) (fun h39 => ?_)
          · refine am_iconst 0 d49_46 (by decide) ?_
            refine am_put d49_47 fl49_45 sh_27 rfl rfl rfl rfl ?_
            refine am_aload_n d49_50 rfl ?_
            refine am_geti d49_51 fl49_45 sh_27 rfl ?_
            show am_W 49 54 _ (.int 0 :: _) _ _
            refine am_ifle 59 d49_54 (by decide) (fun _ => ?_) (fun h => absurd h (by decide))
            refine am_aload_n d49_59 rfl ?_
            refine am_iload_n d49_60 rfl ?_
            refine am_iload_n d49_61 rfl ?_
            refine am_iconst (nI 4) d49_62 (by decide) ?_
            refine am_iload_n d49_63 rfl ?_
            refine am_mulN d49_64 ?_
            refine am_iload d49_65 rfl ?_
            refine am_addN d49_67 ?_
            refine am_cv3 39 d49_68 ml49_75 rfl (by decide) sh_27 rfl rfl rfl rfl (Nat.le_of_ble_eq_true rfl) ?_
            refine m_latest (moS_cd hS0 (cd_0 M 0)) hb ?_
            rw [mo_row_cd (cd_0 M 0)]
            have hr : ∀ i, (mo_row M pn nw b m (4 * o + f)) = some i → i < 120 := (fun i hi => by have := mo_row_lt hi; omega)
            have hz := h0 b o f hb rfl ho rfl hf rfl gu (ix_le (n := 2) (by decide) h33 h39) _ (cd_0 M 0)
            show am_W 49 71 _ (.int _ :: _) _ _
            refine am_istore d49_71 (Nat.le_of_ble_eq_true rfl) rfl ?_
            refine am_iload d49_73 rfl ?_
            refine am_ifne 87 d49_75 (by decide) (fun h75 => ?_) (fun h75 => ?_)
            · refine am_iload d49_87 rfl ?_
              refine am_iconst 1 d49_89 (by decide) ?_
              refine am_icne 102 d49_90 (by decide) (fun h90 => ?_) (fun h90 => ?_)
              · refine am_iload d49_102 rfl ?_
                rcases hrow : (mo_row M pn nw b m (4 * o + f)) with _ | i
                · refine am_ifge 111 d49_104 (by decide) (fun h => absurd h (by decide)) (fun _ => ?_)
                  refine am_iconst (-1) d49_107 (by decide) ?_
                  refine am_goto 118 d49_108 (by decide) ?_
                  refine am_iret d49_118 rfl rfl ?_
                  first | (rw [if_pos h75] at hz; exact hz) | (rw [if_neg h75, if_pos h90] at hz; exact hz) | (rw [if_neg h75, if_neg h90, hrow] at hz; exact hz) | exact h2 b o f hb rfl ho rfl hf rfl (fun z => gu z.1) _ (cd_0 M _) | exact h2 b o f hb rfl ho rfl hf rfl (fun z => ix_neg (by decide) h33 z.2) _ (cd_0 M _) | exact h2 b o f hb rfl ho rfl hf rfl (fun z => ix_nle (n := 2) (by decide) h39 z.2) _ (cd_0 M _) | exact h1 (fun z => gp z.2) _ (cd_0 M _) | exact h1 (fun z => g1 z.1) _ (cd_0 M _)
                · have hi := hr i hrow
                  refine am_ifge 111 d49_104 (by decide) (fun _ => ?_) (fun h => absurd (nI_pos' (by omega)) h)
                  refine am_aload_n d49_111 rfl ?_
                  refine am_getr d49_112 fl49_27 sh_27 rfl ?_
                  refine am_iload d49_115 rfl ?_
                  refine am_ialdN i d49_117 sh_32 hi (by decide) ?_
                  refine am_iret d49_118 rfl rfl ?_
                  first | (rw [if_pos h75] at hz; exact hz) | (rw [if_neg h75, if_pos h90] at hz; exact hz) | (rw [if_neg h75, if_neg h90, hrow] at hz; exact hz) | exact h2 b o f hb rfl ho rfl hf rfl (fun z => gu z.1) _ (cd_0 M _) | exact h2 b o f hb rfl ho rfl hf rfl (fun z => ix_neg (by decide) h33 z.2) _ (cd_0 M _) | exact h2 b o f hb rfl ho rfl hf rfl (fun z => ix_nle (n := 2) (by decide) h39 z.2) _ (cd_0 M _) | exact h1 (fun z => gp z.2) _ (cd_0 M _) | exact h1 (fun z => g1 z.1) _ (cd_0 M _)
              · refine am_aload_n d49_93 rfl ?_
                refine am_iload d49_94 rfl ?_
                refine am_cv1 41 d49_96 ml49_68 rfl (by decide) sh_27 rfl rfl (Nat.le_of_ble_eq_true rfl) ?_
                refine m_valueOf (r := (mo_row M pn nw b m (4 * o + f))) hr ?_
                show am_W 49 99 _ (.int _ :: _) _ _
                refine am_goto 118 d49_99 (by decide) ?_
                refine am_iret d49_118 rfl rfl ?_
                first | (rw [if_pos h75] at hz; exact hz) | (rw [if_neg h75, if_pos h90] at hz; exact hz) | (rw [if_neg h75, if_neg h90, hrow] at hz; exact hz) | exact h2 b o f hb rfl ho rfl hf rfl (fun z => gu z.1) _ (cd_0 M _) | exact h2 b o f hb rfl ho rfl hf rfl (fun z => ix_neg (by decide) h33 z.2) _ (cd_0 M _) | exact h2 b o f hb rfl ho rfl hf rfl (fun z => ix_nle (n := 2) (by decide) h39 z.2) _ (cd_0 M _) | exact h1 (fun z => gp z.2) _ (cd_0 M _) | exact h1 (fun z => g1 z.1) _ (cd_0 M _)
            · refine am_aload_n d49_78 rfl ?_
              refine am_iload d49_79 rfl ?_
              refine am_cv1 40 d49_81 ml49_65 rfl (by decide) sh_27 rfl rfl (Nat.le_of_ble_eq_true rfl) ?_
              refine m_kindOf (r := (mo_row M pn nw b m (4 * o + f))) hr ?_
              show am_W 49 84 _ (.int _ :: _) _ _
              refine am_goto 118 d49_84 (by decide) ?_
              refine am_iret d49_118 rfl rfl ?_
              first | (rw [if_pos h75] at hz; exact hz) | (rw [if_neg h75, if_pos h90] at hz; exact hz) | (rw [if_neg h75, if_neg h90, hrow] at hz; exact hz) | exact h2 b o f hb rfl ho rfl hf rfl (fun z => gu z.1) _ (cd_0 M _) | exact h2 b o f hb rfl ho rfl hf rfl (fun z => ix_neg (by decide) h33 z.2) _ (cd_0 M _) | exact h2 b o f hb rfl ho rfl hf rfl (fun z => ix_nle (n := 2) (by decide) h39 z.2) _ (cd_0 M _) | exact h1 (fun z => gp z.2) _ (cd_0 M _) | exact h1 (fun z => g1 z.1) _ (cd_0 M _)
          · refine am_iconst 2 d49_42 (by decide) ?_
            refine am_goto 47 d49_43 (by decide) ?_
            refine am_put d49_47 fl49_45 sh_27 rfl rfl rfl rfl ?_
            refine am_aload_n d49_50 rfl ?_
            refine am_geti d49_51 fl49_45 sh_27 rfl ?_
            show am_W 49 54 _ (.int 2 :: _) _ _
            refine am_ifle 59 d49_54 (by decide) (fun h => absurd h (by decide)) (fun _ => ?_)
            refine am_iconst 0 d49_57 (by decide) ?_
            refine am_iret d49_58 rfl rfl ?_
            first | (rw [if_pos h75] at hz; exact hz) | (rw [if_neg h75, if_pos h90] at hz; exact hz) | (rw [if_neg h75, if_neg h90, hrow] at hz; exact hz) | exact h2 b o f hb rfl ho rfl hf rfl (fun z => gu z.1) _ (cd_0 M _) | exact h2 b o f hb rfl ho rfl hf rfl (fun z => ix_neg (by decide) h33 z.2) _ (cd_0 M _) | exact h2 b o f hb rfl ho rfl hf rfl (fun z => ix_nle (n := 2) (by decide) h39 z.2) _ (cd_0 M _) | exact h1 (fun z => gp z.2) _ (cd_0 M _) | exact h1 (fun z => g1 z.1) _ (cd_0 M _)
theorem q_history {pn : Nat → Nat} {nb nw ck : Nat} {M : am_M} {Q : am_T} (hS : moS M pn nb nw ck) {a u w k : Int32} (h1 : ¬ (ix a nb ∧ ix u 12 ∧ ix w 4) → ∀ M', cd M M' 1 → Q (.inl (some (.int 0))) M') (h0 : ∀ b o f, b < nb → a = nI b → o < 12 → u = nI o → f < 4 → w = nI f → ∀ M', cd M M' 0 → Q (.inl (some (.int (sp_kth (fun i => decide (M.1 33 i = nI (4 * o + f)) && mo_gv M pn nw b i) (M.1 32) k nw nw 0)))) M') : am_W kM_history 0 (am_in kM_history [.ref 27, .int a, .int u, .int w, .int k]) [] M Q := by
  have hS0 := hS
  obtain ⟨s1, s2, s3, s4, s5, s6, s7, s8, s9⟩ := hS
  have s26 := s2.1
  have s41 := s4.1
  have loop : ∀ b o f, b < nb → o < 12 → f < 4 → ∀ M0, cd M M0 0 → moS M0 pn nb nw ck → ∀ i, i ≤ nw → ∀ s, Q (.inl (some (.int (sp_kth (fun i => decide (M.1 33 i = nI (4 * o + f)) && mo_gv M pn nw b i) (M.1 32) k nw (nw - i) s)))) M0 → am_W kM_history 40 [.ref 27, .int (nI b), .int (nI o), .int (nI f), .int k, .int (nI s), .int (nI i)] [] M0 Q := by
    intro b o f hb ho hf M0 c0 t0
    refine am_loop nw (fun i hi ih => ?_)
    intro s hq
    refine am_iload d50_40 rfl ?_
    refine am_aload_n d50_42 rfl ?_
    refine am_geti d50_43 fl50_58 sh_27 rfl ?_
    rw [t0.2.2.1]
    refine am_icgeN 98 i nw d50_46 (by decide) rfl rfl (by omega) (by omega) (fun h46 => ?_) (fun h46 => ?_)
    · refine am_iconst (-1) d50_98 (by decide) ?_
      refine am_iret d50_99 rfl rfl ?_
      first | (rw [sp_kth_t h46 (by simp [*]) h78, ← c0.1.eq 32 (by decide)] at hq; exact hq) | (rw [show nw - i = 0 by omega] at hq; exact hq)
    · refine am_aload_n d50_49 rfl ?_
      refine am_getr d50_50 fl50_30 sh_27 rfl ?_
      refine am_iload d50_53 rfl ?_
      refine am_ialdN i d50_55 sh_33 (by omega) (by decide) ?_
      refine am_iconst (nI 4) d50_56 (by decide) ?_
      refine am_iload_n d50_57 rfl ?_
      refine am_mulN d50_58 ?_
      refine am_iload_n d50_59 rfl ?_
      refine am_addN d50_60 ?_
      rw [c0.1.eq 33 (by decide)]
      refine am_icne 92 d50_61 (by decide) (fun h61 => ?_) (fun h61 => ?_)
      · refine am_incN i d50_92 rfl rfl ?_
        refine am_goto 40 d50_95 (by decide) ?_
        first | (rw [sp_kth_n h46 (by simp [*]) h78] at hq; exact ih h46 _ hq) | (rw [sp_kth_f h46 (by simp [*])] at hq; exact ih h46 _ hq)
      · refine am_aload_n d50_64 rfl ?_
        refine am_iload_n d50_65 rfl ?_
        refine am_iload d50_66 rfl ?_
        refine am_cv2 43 d50_68 ml50_93 rfl (by decide) sh_27 rfl rfl rfl (Nat.le_of_ble_eq_true rfl) ?_
        refine m_gives t0 hb h46 (fun gg => ?_) (fun gg => ?_)
        · show am_W 50 71 _ (.int 1 :: _) _ _
          rw [mo_gv_cd c0] at gg
          refine am_ifeq 92 d50_71 (by decide) (fun h => absurd h (by decide)) (fun _ => ?_)
          refine am_iload d50_74 rfl ?_
          refine am_iload d50_76 rfl ?_
          refine am_icne 89 d50_78 (by decide) (fun h78 => ?_) (fun h78 => ?_)
          · refine am_incN s d50_89 rfl rfl ?_
            refine am_incN i d50_92 rfl rfl ?_
            refine am_goto 40 d50_95 (by decide) ?_
            first | (rw [sp_kth_n h46 (by simp [*]) h78] at hq; exact ih h46 _ hq) | (rw [sp_kth_f h46 (by simp [*])] at hq; exact ih h46 _ hq)
          · refine am_aload_n d50_81 rfl ?_
            refine am_getr d50_82 fl50_27 sh_27 rfl ?_
            refine am_iload d50_85 rfl ?_
            refine am_ialdN i d50_87 sh_32 (by omega) (by decide) ?_
            refine am_iret d50_88 rfl rfl ?_
            first | (rw [sp_kth_t h46 (by simp [*]) h78, ← c0.1.eq 32 (by decide)] at hq; exact hq) | (rw [show nw - i = 0 by omega] at hq; exact hq)
        · show am_W 50 71 _ (.int 0 :: _) _ _
          rw [mo_gv_cd c0] at gg
          refine am_ifeq 92 d50_71 (by decide) (fun _ => ?_) (fun h => absurd h (by decide))
          refine am_incN i d50_92 rfl rfl ?_
          refine am_goto 40 d50_95 (by decide) ?_
          first | (rw [sp_kth_n h46 (by simp [*]) h78] at hq; exact ih h46 _ hq) | (rw [sp_kth_f h46 (by simp [*])] at hq; exact ih h46 _ hq)
  show am_W kM_history 0 _ [] M Q
  refine am_aload_n d50_0 rfl ?_
  refine am_aload_n d50_1 rfl ?_
  refine am_iload_n d50_2 rfl ?_
  refine am_cv1 34 d50_3 ml50_79 rfl (by decide) sh_27 rfl rfl (Nat.le_of_ble_eq_true rfl) ?_
  refine m_noBranch hS0 (fun g1 => ?_) (fun g1 => ?_)
  · show am_W 50 6 _ (.int 1 :: _) _ _
    refine am_ifne 17 d50_6 (by decide) (fun _ => ?_) (fun h => absurd h (by decide))
    refine am_iconst 1 d50_17 (by decide) ?_
    refine am_goto 22 d50_18 (by decide) ?_
    refine am_put d50_22 fl50_45 sh_27 rfl rfl rfl rfl ?_
    refine am_aload_n d50_25 rfl ?_
    refine am_geti d50_26 fl50_45 sh_27 rfl ?_
    show am_W 50 29 _ (.int 1 :: _) _ _
    refine am_ifle 34 d50_29 (by decide) (fun h => absurd h (by decide)) (fun _ => ?_)
    refine am_iconst 0 d50_32 (by decide) ?_
    refine am_iret d50_33 rfl rfl ?_
    first | exact h1 (fun z => gp z.2) _ (cd_0 M _) | exact h1 (fun z => g1 z.1) _ (cd_0 M _)
  · show am_W 50 6 _ (.int 0 :: _) _ _
    obtain ⟨b, hb, rfl⟩ := g1
    refine am_ifne 17 d50_6 (by decide) (fun h => absurd h (by decide)) (fun _ => ?_)
    refine am_iload_n d50_9 rfl ?_
    refine am_iload_n d50_10 rfl ?_
    refine am_cs2 35 d50_11 ml50_86 rfl (by decide) rfl rfl rfl (Nat.le_of_ble_eq_true rfl) ?_
    refine m_noPlace (fun gp => ?_) (fun gp => ?_)
    · show am_W 50 14 _ (.int 1 :: _) _ _
      refine am_ifeq 21 d50_14 (by decide) (fun h => absurd h (by decide)) (fun _ => ?_)
      refine am_iconst 1 d50_17 (by decide) ?_
      refine am_goto 22 d50_18 (by decide) ?_
      refine am_put d50_22 fl50_45 sh_27 rfl rfl rfl rfl ?_
      refine am_aload_n d50_25 rfl ?_
      refine am_geti d50_26 fl50_45 sh_27 rfl ?_
      show am_W 50 29 _ (.int 1 :: _) _ _
      refine am_ifle 34 d50_29 (by decide) (fun h => absurd h (by decide)) (fun _ => ?_)
      refine am_iconst 0 d50_32 (by decide) ?_
      refine am_iret d50_33 rfl rfl ?_
      first | exact h1 (fun z => gp z.2) _ (cd_0 M _) | exact h1 (fun z => g1 z.1) _ (cd_0 M _)
    · show am_W 50 14 _ (.int 0 :: _) _ _
      obtain ⟨⟨o, ho, rfl⟩, ⟨f, hf, rfl⟩⟩ := gp
      refine am_ifeq 21 d50_14 (by decide) (fun _ => ?_) (fun h => absurd h (by decide))
      refine am_iconst 0 d50_21 (by decide) ?_
      refine am_put d50_22 fl50_45 sh_27 rfl rfl rfl rfl ?_
      refine am_aload_n d50_25 rfl ?_
      refine am_geti d50_26 fl50_45 sh_27 rfl ?_
      show am_W 50 29 _ (.int 0 :: _) _ _
      refine am_ifle 34 d50_29 (by decide) (fun _ => ?_) (fun h => absurd h (by decide))
      refine am_iconst (nI 0) d50_34 (by decide) ?_
      refine am_istore d50_35 (Nat.le_of_ble_eq_true rfl) rfl ?_
      refine am_iconst (nI 0) d50_37 (by decide) ?_
      refine am_istore d50_38 (Nat.le_of_ble_eq_true rfl) rfl ?_
      exact loop b o f hb ho hf _ (cd_0 M 0) (moS_cd hS0 (cd_0 M 0)) 0 (Nat.zero_le _) 0 (h0 b o f hb rfl ho rfl hf rfl _ (cd_0 M 0))
theorem q_differs {pn : Nat → Nat} {nb nw ck : Nat} {M : am_M} {Q : am_T} (hS : moS M pn nb nw ck) {a e k : Int32} (h1 : ¬ (ix a nb ∧ ix e nb) → ∀ M', cd M M' 1 → Q (.inl (some (.int 0))) M') (h2 : ∀ b d, b < nb → a = nI b → d < nb → e = nI d → (¬ M.1 30 b = 0 ∨ ¬ M.1 30 d = 0) → ∀ M', cd M M' 2 → Q (.inl (some (.int 0))) M') (h0 : ∀ b d, b < nb → a = nI b → d < nb → e = nI d → M.1 30 b = 0 → M.1 30 d = 0 → ∀ M', cd M M' 0 → Q (.inl (some (.int (sp_kth (fun i => !sr (M.1 34) (M.1 35) (mo_row M pn nw b (nI ck) i) (mo_row M pn nw d (nI ck) i)) nI k 48 48 0)))) M') : am_W kM_differs 0 (am_in kM_differs [.ref 27, .int a, .int e, .int k]) [] M Q := by
  have hS0 := hS
  obtain ⟨s1, s2, s3, s4, s5, s6, s7, s8, s9⟩ := hS
  have s26 := s2.1
  have s41 := s4.1
  have loop : ∀ b d, b < nb → d < nb → ∀ M0, cd M M0 0 → moS M0 pn nb nw ck → ∀ i, i ≤ 48 → ∀ s, Q (.inl (some (.int (sp_kth (fun i => !sr (M.1 34) (M.1 35) (mo_row M pn nw b (nI ck) i) (mo_row M pn nw d (nI ck) i)) nI k 48 (48 - i) s)))) M0 → am_W kM_differs 62 [.ref 27, .int (nI b), .int (nI d), .int k, .int (nI s), .int (nI i)] [] M0 Q := by
    intro b d hb hd M0 c0 t0
    refine am_loop 48 (fun i hi ih => ?_)
    intro s hq
    refine am_iload d51_62 rfl ?_
    refine am_bipush (nI 48) d51_64 (by decide) ?_
    refine am_icgeN 116 i 48 d51_66 (by decide) rfl rfl (by omega) (by decide) (fun h66 => ?_) (fun h66 => ?_)
    · refine am_iconst (-1) d51_116 (by decide) ?_
      refine am_iret d51_117 rfl rfl ?_
      first | (rw [sp_kth_t h66 (by simp [*]) h101] at hq; exact hq) | (rw [show 48 - i = 0 by omega] at hq; exact hq)
    · refine am_aload_n d51_69 rfl ?_
      refine am_aload_n d51_70 rfl ?_
      refine am_iload_n d51_71 rfl ?_
      refine am_aload_n d51_72 rfl ?_
      refine am_geti d51_73 fl51_55 sh_27 rfl ?_
      rw [t0.2.2.2.2.1]
      refine am_iload d51_76 rfl ?_
      refine am_cv3 39 d51_78 ml51_75 rfl (by decide) sh_27 rfl rfl rfl rfl (Nat.le_of_ble_eq_true rfl) ?_
      refine m_latest t0 hb ?_
      rw [mo_row_cd c0]
      show am_W 51 81 _ (.int _ :: _) _ _
      refine am_aload_n d51_81 rfl ?_
      refine am_iload_n d51_82 rfl ?_
      refine am_aload_n d51_83 rfl ?_
      refine am_geti d51_84 fl51_55 sh_27 rfl ?_
      rw [t0.2.2.2.2.1]
      refine am_iload d51_87 rfl ?_
      refine am_cv3 39 d51_89 ml51_75 rfl (by decide) sh_27 rfl rfl rfl rfl (Nat.le_of_ble_eq_true rfl) ?_
      refine m_latest t0 hd ?_
      rw [mo_row_cd c0]
      show am_W 51 92 _ (.int _ :: _) _ _
      refine am_cv2 42 d51_92 ml51_96 rfl (by decide) sh_27 rfl rfl rfl (Nat.le_of_ble_eq_true rfl) ?_
      refine m_alike (r := (mo_row M pn nw b (nI ck) i)) (s := (mo_row M pn nw d (nI ck) i)) (fun i hi => by have := mo_row_lt hi; omega) (fun i hi => by have := mo_row_lt hi; omega) (fun gs => ?_) (fun gs => ?_)
      · show am_W 51 95 _ (.int 1 :: _) _ _
        rw [c0.1.eq 34 (by decide), c0.1.eq 35 (by decide)] at gs
        refine am_ifne 110 d51_95 (by decide) (fun _ => ?_) (fun h => absurd h (by decide))
        refine am_incN i d51_110 rfl rfl ?_
        refine am_goto 62 d51_113 (by decide) ?_
        first | (rw [sp_kth_n h66 (by simp [*]) h101] at hq; exact ih h66 _ hq) | (rw [sp_kth_f h66 (by simp [*])] at hq; exact ih h66 _ hq)
      · show am_W 51 95 _ (.int 0 :: _) _ _
        rw [c0.1.eq 34 (by decide), c0.1.eq 35 (by decide)] at gs
        refine am_ifne 110 d51_95 (by decide) (fun h => absurd h (by decide)) (fun _ => ?_)
        refine am_iload d51_98 rfl ?_
        refine am_iload_n d51_100 rfl ?_
        refine am_icne 107 d51_101 (by decide) (fun h101 => ?_) (fun h101 => ?_)
        · refine am_incN s d51_107 rfl rfl ?_
          refine am_incN i d51_110 rfl rfl ?_
          refine am_goto 62 d51_113 (by decide) ?_
          first | (rw [sp_kth_n h66 (by simp [*]) h101] at hq; exact ih h66 _ hq) | (rw [sp_kth_f h66 (by simp [*])] at hq; exact ih h66 _ hq)
        · refine am_iload d51_104 rfl ?_
          refine am_iret d51_106 rfl rfl ?_
          first | (rw [sp_kth_t h66 (by simp [*]) h101] at hq; exact hq) | (rw [show 48 - i = 0 by omega] at hq; exact hq)
  show am_W kM_differs 0 _ [] M Q
  refine am_aload_n d51_0 rfl ?_
  refine am_aload_n d51_1 rfl ?_
  refine am_iload_n d51_2 rfl ?_
  refine am_cv1 34 d51_3 ml51_79 rfl (by decide) sh_27 rfl rfl (Nat.le_of_ble_eq_true rfl) ?_
  refine m_noBranch hS0 (fun g1 => ?_) (fun g1 => ?_)
  · show am_W 51 6 _ (.int 1 :: _) _ _
    refine am_ifne 17 d51_6 (by decide) (fun _ => ?_) (fun h => absurd h (by decide))
    refine am_iconst 1 d51_17 (by decide) ?_
    refine am_goto 44 d51_18 (by decide) ?_
    refine am_put d51_44 fl51_45 sh_27 rfl rfl rfl rfl ?_
    refine am_aload_n d51_47 rfl ?_
    refine am_geti d51_48 fl51_45 sh_27 rfl ?_
    show am_W 51 51 _ (.int 1 :: _) _ _
    refine am_ifle 56 d51_51 (by decide) (fun h => absurd h (by decide)) (fun _ => ?_)
    refine am_iconst 0 d51_54 (by decide) ?_
    refine am_iret d51_55 rfl rfl ?_
    first | exact h2 b d hb rfl hd rfl (Or.inr h36) _ (cd_0 M _) | exact h2 b d hb rfl hd rfl (Or.inl h27) _ (cd_0 M _) | exact h1 (fun z => g2 z.2) _ (cd_0 M _) | exact h1 (fun z => g1 z.1) _ (cd_0 M _)
  · show am_W 51 6 _ (.int 0 :: _) _ _
    obtain ⟨b, hb, rfl⟩ := g1
    refine am_ifne 17 d51_6 (by decide) (fun h => absurd h (by decide)) (fun _ => ?_)
    refine am_aload_n d51_9 rfl ?_
    refine am_iload_n d51_10 rfl ?_
    refine am_cv1 34 d51_11 ml51_79 rfl (by decide) sh_27 rfl rfl (Nat.le_of_ble_eq_true rfl) ?_
    refine m_noBranch hS0 (fun g2 => ?_) (fun g2 => ?_)
    · show am_W 51 14 _ (.int 1 :: _) _ _
      refine am_ifeq 21 d51_14 (by decide) (fun h => absurd h (by decide)) (fun _ => ?_)
      refine am_iconst 1 d51_17 (by decide) ?_
      refine am_goto 44 d51_18 (by decide) ?_
      refine am_put d51_44 fl51_45 sh_27 rfl rfl rfl rfl ?_
      refine am_aload_n d51_47 rfl ?_
      refine am_geti d51_48 fl51_45 sh_27 rfl ?_
      show am_W 51 51 _ (.int 1 :: _) _ _
      refine am_ifle 56 d51_51 (by decide) (fun h => absurd h (by decide)) (fun _ => ?_)
      refine am_iconst 0 d51_54 (by decide) ?_
      refine am_iret d51_55 rfl rfl ?_
      first | exact h2 b d hb rfl hd rfl (Or.inr h36) _ (cd_0 M _) | exact h2 b d hb rfl hd rfl (Or.inl h27) _ (cd_0 M _) | exact h1 (fun z => g2 z.2) _ (cd_0 M _) | exact h1 (fun z => g1 z.1) _ (cd_0 M _)
    · show am_W 51 14 _ (.int 0 :: _) _ _
      obtain ⟨d, hd, rfl⟩ := g2
      refine am_ifeq 21 d51_14 (by decide) (fun _ => ?_) (fun h => absurd h (by decide))
      refine am_aload_n d51_21 rfl ?_
      refine am_getr d51_22 fl51_20 sh_27 rfl ?_
      refine am_iload_n d51_25 rfl ?_
      refine am_zaldN b d51_26 sh_30 (by omega) (by decide) ?_
      refine am_ifne 39 d51_27 (by decide) (fun h27 => ?_) (fun h27 => ?_)
      · refine am_iconst 2 d51_39 (by decide) ?_
        refine am_goto 44 d51_40 (by decide) ?_
        refine am_put d51_44 fl51_45 sh_27 rfl rfl rfl rfl ?_
        refine am_aload_n d51_47 rfl ?_
        refine am_geti d51_48 fl51_45 sh_27 rfl ?_
        show am_W 51 51 _ (.int 2 :: _) _ _
        refine am_ifle 56 d51_51 (by decide) (fun h => absurd h (by decide)) (fun _ => ?_)
        refine am_iconst 0 d51_54 (by decide) ?_
        refine am_iret d51_55 rfl rfl ?_
        first | exact h2 b d hb rfl hd rfl (Or.inr h36) _ (cd_0 M _) | exact h2 b d hb rfl hd rfl (Or.inl h27) _ (cd_0 M _) | exact h1 (fun z => g2 z.2) _ (cd_0 M _) | exact h1 (fun z => g1 z.1) _ (cd_0 M _)
      · refine am_aload_n d51_30 rfl ?_
        refine am_getr d51_31 fl51_20 sh_27 rfl ?_
        refine am_iload_n d51_34 rfl ?_
        refine am_zaldN d d51_35 sh_30 (by omega) (by decide) ?_
        refine am_ifeq 43 d51_36 (by decide) (fun h36 => ?_) (fun h36 => ?_)
        · refine am_iconst 0 d51_43 (by decide) ?_
          refine am_put d51_44 fl51_45 sh_27 rfl rfl rfl rfl ?_
          refine am_aload_n d51_47 rfl ?_
          refine am_geti d51_48 fl51_45 sh_27 rfl ?_
          show am_W 51 51 _ (.int 0 :: _) _ _
          refine am_ifle 56 d51_51 (by decide) (fun _ => ?_) (fun h => absurd h (by decide))
          refine am_iconst (nI 0) d51_56 (by decide) ?_
          refine am_istore d51_57 (Nat.le_of_ble_eq_true rfl) rfl ?_
          refine am_iconst (nI 0) d51_59 (by decide) ?_
          refine am_istore d51_60 (Nat.le_of_ble_eq_true rfl) rfl ?_
          exact loop b d hb hd _ (cd_0 M 0) (moS_cd hS0 (cd_0 M 0)) 0 (by decide) 0 (h0 b d hb rfl hd rfl h27 h36 _ (cd_0 M 0))
        · refine am_iconst 2 d51_39 (by decide) ?_
          refine am_goto 44 d51_40 (by decide) ?_
          refine am_put d51_44 fl51_45 sh_27 rfl rfl rfl rfl ?_
          refine am_aload_n d51_47 rfl ?_
          refine am_geti d51_48 fl51_45 sh_27 rfl ?_
          show am_W 51 51 _ (.int 2 :: _) _ _
          refine am_ifle 56 d51_51 (by decide) (fun h => absurd h (by decide)) (fun _ => ?_)
          refine am_iconst 0 d51_54 (by decide) ?_
          refine am_iret d51_55 rfl rfl ?_
          first | exact h2 b d hb rfl hd rfl (Or.inr h36) _ (cd_0 M _) | exact h2 b d hb rfl hd rfl (Or.inl h27) _ (cd_0 M _) | exact h1 (fun z => g2 z.2) _ (cd_0 M _) | exact h1 (fun z => g1 z.1) _ (cd_0 M _)
theorem q_state {pn : Nat → Nat} {nb nw ck : Nat} {M : am_M} {Q : am_T} (hS : moS M pn nb nw ck) {w : Int32} (h1 : ¬ ix w 4 → ∀ M', cd M M' 1 → Q (.inl (some (.int 0))) M') (h0 : ix w 4 → ∀ M', cd M M' 0 → Q (.inl (some (.int (if w = 0 then M.1 27 1 else if w = 1 then M.1 27 2 else if w = 2 then nI nw else nI nb)))) M') : am_W kM_state 0 (am_in kM_state [.ref 27, .int w]) [] M Q := by
  have hS0 := hS
  obtain ⟨s1, s2, s3, s4, s5, s6, s7, s8, s9⟩ := hS
  have s26 := s2.1
  have s41 := s4.1
  show am_W kM_state 0 _ [] M Q
  refine am_aload_n d74_0 rfl ?_
  refine am_iload_n d74_1 rfl ?_
  refine am_iflt 10 d74_2 (by decide) (fun h2 => ?_) (fun h2 => ?_)
  · refine am_iconst 1 d74_10 (by decide) ?_
    refine am_goto 15 d74_11 (by decide) ?_
    refine am_put d74_15 fl74_45 sh_27 rfl rfl rfl rfl ?_
    refine am_aload_n d74_18 rfl ?_
    refine am_geti d74_19 fl74_45 sh_27 rfl ?_
    show am_W 74 22 _ (.int 1 :: _) _ _
    refine am_ifle 29 d74_22 (by decide) (fun h => absurd h (by decide)) (fun _ => ?_)
    refine am_iconst 0 d74_25 (by decide) ?_
    refine am_goto 68 d74_26 (by decide) ?_
    refine am_iret d74_68 rfl rfl ?_
    first | exact h1 (ix_neg (by decide) h2) _ (cd_0 M _) | exact h1 (ix_nle (n := 3) (by decide) h7) _ (cd_0 M _) | (have hz := h0 (ix_le (n := 3) (by decide) h2 h7) _ (cd_0 M 0); first | (rw [if_pos h30] at hz; exact hz) | (rw [if_neg h30, if_pos h42] at hz; exact hz) | (rw [if_neg h30, if_neg h42, if_pos h54, ← s3] at hz; exact hz) | (rw [if_neg h30, if_neg h42, if_neg h54, ← s1] at hz; exact hz))
  · refine am_iload_n d74_5 rfl ?_
    refine am_iconst (nI 3) d74_6 (by decide) ?_
    refine am_icle 14 d74_7 (by decide) (fun h7 => ?_) (fun h7 => ?_)
    · refine am_iconst 0 d74_14 (by decide) ?_
      refine am_put d74_15 fl74_45 sh_27 rfl rfl rfl rfl ?_
      refine am_aload_n d74_18 rfl ?_
      refine am_geti d74_19 fl74_45 sh_27 rfl ?_
      show am_W 74 22 _ (.int 0 :: _) _ _
      refine am_ifle 29 d74_22 (by decide) (fun _ => ?_) (fun h => absurd h (by decide))
      refine am_iload_n d74_29 rfl ?_
      refine am_ifne 40 d74_30 (by decide) (fun h30 => ?_) (fun h30 => ?_)
      · refine am_iload_n d74_40 rfl ?_
        refine am_iconst 1 d74_41 (by decide) ?_
        refine am_icne 52 d74_42 (by decide) (fun h42 => ?_) (fun h42 => ?_)
        · refine am_iload_n d74_52 rfl ?_
          refine am_iconst 2 d74_53 (by decide) ?_
          refine am_icne 64 d74_54 (by decide) (fun h54 => ?_) (fun h54 => ?_)
          · refine am_aload_n d74_64 rfl ?_
            refine am_geti d74_65 fl74_7 sh_27 rfl ?_
            refine am_iret d74_68 rfl rfl ?_
            first | exact h1 (ix_neg (by decide) h2) _ (cd_0 M _) | exact h1 (ix_nle (n := 3) (by decide) h7) _ (cd_0 M _) | (have hz := h0 (ix_le (n := 3) (by decide) h2 h7) _ (cd_0 M 0); first | (rw [if_pos h30] at hz; exact hz) | (rw [if_neg h30, if_pos h42] at hz; exact hz) | (rw [if_neg h30, if_neg h42, if_pos h54, ← s3] at hz; exact hz) | (rw [if_neg h30, if_neg h42, if_neg h54, ← s1] at hz; exact hz))
          · refine am_aload_n d74_57 rfl ?_
            refine am_geti d74_58 fl74_58 sh_27 rfl ?_
            refine am_goto 68 d74_61 (by decide) ?_
            refine am_iret d74_68 rfl rfl ?_
            first | exact h1 (ix_neg (by decide) h2) _ (cd_0 M _) | exact h1 (ix_nle (n := 3) (by decide) h7) _ (cd_0 M _) | (have hz := h0 (ix_le (n := 3) (by decide) h2 h7) _ (cd_0 M 0); first | (rw [if_pos h30] at hz; exact hz) | (rw [if_neg h30, if_pos h42] at hz; exact hz) | (rw [if_neg h30, if_neg h42, if_pos h54, ← s3] at hz; exact hz) | (rw [if_neg h30, if_neg h42, if_neg h54, ← s1] at hz; exact hz))
        · refine am_aload_n d74_45 rfl ?_
          refine am_geti d74_46 fl74_48 sh_27 rfl ?_
          refine am_goto 68 d74_49 (by decide) ?_
          refine am_iret d74_68 rfl rfl ?_
          first | exact h1 (ix_neg (by decide) h2) _ (cd_0 M _) | exact h1 (ix_nle (n := 3) (by decide) h7) _ (cd_0 M _) | (have hz := h0 (ix_le (n := 3) (by decide) h2 h7) _ (cd_0 M 0); first | (rw [if_pos h30] at hz; exact hz) | (rw [if_neg h30, if_pos h42] at hz; exact hz) | (rw [if_neg h30, if_neg h42, if_pos h54, ← s3] at hz; exact hz) | (rw [if_neg h30, if_neg h42, if_neg h54, ← s1] at hz; exact hz))
      · refine am_aload_n d74_33 rfl ?_
        refine am_geti d74_34 fl74_55 sh_27 rfl ?_
        refine am_goto 68 d74_37 (by decide) ?_
        refine am_iret d74_68 rfl rfl ?_
        first | exact h1 (ix_neg (by decide) h2) _ (cd_0 M _) | exact h1 (ix_nle (n := 3) (by decide) h7) _ (cd_0 M _) | (have hz := h0 (ix_le (n := 3) (by decide) h2 h7) _ (cd_0 M 0); first | (rw [if_pos h30] at hz; exact hz) | (rw [if_neg h30, if_pos h42] at hz; exact hz) | (rw [if_neg h30, if_neg h42, if_pos h54, ← s3] at hz; exact hz) | (rw [if_neg h30, if_neg h42, if_neg h54, ← s1] at hz; exact hz))
    · refine am_iconst 1 d74_10 (by decide) ?_
      refine am_goto 15 d74_11 (by decide) ?_
      refine am_put d74_15 fl74_45 sh_27 rfl rfl rfl rfl ?_
      refine am_aload_n d74_18 rfl ?_
      refine am_geti d74_19 fl74_45 sh_27 rfl ?_
      show am_W 74 22 _ (.int 1 :: _) _ _
      refine am_ifle 29 d74_22 (by decide) (fun h => absurd h (by decide)) (fun _ => ?_)
      refine am_iconst 0 d74_25 (by decide) ?_
      refine am_goto 68 d74_26 (by decide) ?_
      refine am_iret d74_68 rfl rfl ?_
      first | exact h1 (ix_neg (by decide) h2) _ (cd_0 M _) | exact h1 (ix_nle (n := 3) (by decide) h7) _ (cd_0 M _) | (have hz := h0 (ix_le (n := 3) (by decide) h2 h7) _ (cd_0 M 0); first | (rw [if_pos h30] at hz; exact hz) | (rw [if_neg h30, if_pos h42] at hz; exact hz) | (rw [if_neg h30, if_neg h42, if_pos h54, ← s3] at hz; exact hz) | (rw [if_neg h30, if_neg h42, if_neg h54, ← s1] at hz; exact hz))
theorem q_about {pn : Nat → Nat} {nb nw ck : Nat} {M : am_M} {Q : am_T} (hS : moS M pn nb nw ck) {a w : Int32} (h1 : ¬ ix a nb → ∀ M', cd M M' 1 → Q (.inl (some (.int 0))) M') (h2 : ∀ b, b < nb → a = nI b → ¬ ix w 4 → ∀ M', cd M M' 2 → Q (.inl (some (.int 0))) M') (h0 : ∀ b, b < nb → a = nI b → ix w 4 → ∀ M', cd M M' 0 → Q (.inl (some (.int (if w = 0 then (if M.1 30 b = 0 then 1 else 0) else if w = 1 then M.1 28 b else if w = 2 then M.1 29 b else nI (sp_cnt (fun i => decide (M.1 31 i = nI b)) nw))))) M') : am_W kM_about 0 (am_in kM_about [.ref 27, .int a, .int w]) [] M Q := by
  have hS0 := hS
  obtain ⟨s1, s2, s3, s4, s5, s6, s7, s8, s9⟩ := hS
  have s26 := s2.1
  have s41 := s4.1
  have loop : ∀ b, b < nb → ∀ M0, cd M M0 0 → moS M0 pn nb nw ck → Q (.inl (some (.int (if w = 0 then (if M.1 30 b = 0 then 1 else 0) else if w = 1 then M.1 28 b else if w = 2 then M.1 29 b else nI (sp_cnt (fun i => decide (M.1 31 i = nI b)) nw))))) M0 → ∀ i, i ≤ nw → am_W kM_about 44 [.ref 27, .int (nI b), .int w, .int (nI (sp_cnt (fun i => decide (M.1 31 i = nI b)) i)), .int (nI i)] [] M0 Q := by
    intro b hb M0 c0 t0 hq
    refine am_loop nw (fun i hi ih => ?_)
    refine am_iload d75_44 rfl ?_
    refine am_aload_n d75_46 rfl ?_
    refine am_geti d75_47 fl75_58 sh_27 rfl ?_
    rw [t0.2.2.1]
    refine am_icgeN 78 i nw d75_50 (by decide) rfl rfl (by omega) (by omega) (fun h50 => ?_) (fun h50 => ?_)
    · refine am_iload_n d75_78 rfl ?_
      refine am_ifne 99 d75_79 (by decide) (fun h79 => ?_) (fun h79 => ?_)
      · refine am_iload_n d75_99 rfl ?_
        refine am_iconst 1 d75_100 (by decide) ?_
        refine am_icne 113 d75_101 (by decide) (fun h101 => ?_) (fun h101 => ?_)
        · refine am_iload_n d75_113 rfl ?_
          refine am_iconst 2 d75_114 (by decide) ?_
          refine am_icne 127 d75_115 (by decide) (fun h115 => ?_) (fun h115 => ?_)
          · refine am_iload_n d75_127 rfl ?_
            refine am_iret d75_128 rfl rfl ?_
            obtain rfl : i = nw := by omega
            try rw [c0.1.eq 30 (by decide)] at h88
            first | (rw [if_pos h79, if_pos h88] at hq; exact hq) | (rw [if_pos h79, if_neg h88] at hq; exact hq) | (rw [if_neg h79, if_pos h101, ← c0.1.eq 28 (by decide)] at hq; exact hq) | (rw [if_neg h79, if_neg h101, if_pos h115, ← c0.1.eq 29 (by decide)] at hq; exact hq) | (rw [if_neg h79, if_neg h101, if_neg h115] at hq; exact hq)
          · refine am_aload_n d75_118 rfl ?_
            refine am_getr d75_119 fl75_17 sh_27 rfl ?_
            refine am_iload_n d75_122 rfl ?_
            refine am_ialdN b d75_123 sh_29 (by omega) (by decide) ?_
            refine am_goto 128 d75_124 (by decide) ?_
            refine am_iret d75_128 rfl rfl ?_
            obtain rfl : i = nw := by omega
            try rw [c0.1.eq 30 (by decide)] at h88
            first | (rw [if_pos h79, if_pos h88] at hq; exact hq) | (rw [if_pos h79, if_neg h88] at hq; exact hq) | (rw [if_neg h79, if_pos h101, ← c0.1.eq 28 (by decide)] at hq; exact hq) | (rw [if_neg h79, if_neg h101, if_pos h115, ← c0.1.eq 29 (by decide)] at hq; exact hq) | (rw [if_neg h79, if_neg h101, if_neg h115] at hq; exact hq)
        · refine am_aload_n d75_104 rfl ?_
          refine am_getr d75_105 fl75_13 sh_27 rfl ?_
          refine am_iload_n d75_108 rfl ?_
          refine am_ialdN b d75_109 sh_28 (by omega) (by decide) ?_
          refine am_goto 128 d75_110 (by decide) ?_
          refine am_iret d75_128 rfl rfl ?_
          obtain rfl : i = nw := by omega
          try rw [c0.1.eq 30 (by decide)] at h88
          first | (rw [if_pos h79, if_pos h88] at hq; exact hq) | (rw [if_pos h79, if_neg h88] at hq; exact hq) | (rw [if_neg h79, if_pos h101, ← c0.1.eq 28 (by decide)] at hq; exact hq) | (rw [if_neg h79, if_neg h101, if_pos h115, ← c0.1.eq 29 (by decide)] at hq; exact hq) | (rw [if_neg h79, if_neg h101, if_neg h115] at hq; exact hq)
      · refine am_aload_n d75_82 rfl ?_
        refine am_getr d75_83 fl75_20 sh_27 rfl ?_
        refine am_iload_n d75_86 rfl ?_
        refine am_zaldN b d75_87 sh_30 (by omega) (by decide) ?_
        refine am_ifeq 95 d75_88 (by decide) (fun h88 => ?_) (fun h88 => ?_)
        · refine am_iconst 1 d75_95 (by decide) ?_
          refine am_goto 128 d75_96 (by decide) ?_
          refine am_iret d75_128 rfl rfl ?_
          obtain rfl : i = nw := by omega
          try rw [c0.1.eq 30 (by decide)] at h88
          first | (rw [if_pos h79, if_pos h88] at hq; exact hq) | (rw [if_pos h79, if_neg h88] at hq; exact hq) | (rw [if_neg h79, if_pos h101, ← c0.1.eq 28 (by decide)] at hq; exact hq) | (rw [if_neg h79, if_neg h101, if_pos h115, ← c0.1.eq 29 (by decide)] at hq; exact hq) | (rw [if_neg h79, if_neg h101, if_neg h115] at hq; exact hq)
        · refine am_iconst 0 d75_91 (by decide) ?_
          refine am_goto 128 d75_92 (by decide) ?_
          refine am_iret d75_128 rfl rfl ?_
          obtain rfl : i = nw := by omega
          try rw [c0.1.eq 30 (by decide)] at h88
          first | (rw [if_pos h79, if_pos h88] at hq; exact hq) | (rw [if_pos h79, if_neg h88] at hq; exact hq) | (rw [if_neg h79, if_pos h101, ← c0.1.eq 28 (by decide)] at hq; exact hq) | (rw [if_neg h79, if_neg h101, if_pos h115, ← c0.1.eq 29 (by decide)] at hq; exact hq) | (rw [if_neg h79, if_neg h101, if_neg h115] at hq; exact hq)
    · refine am_aload_n d75_53 rfl ?_
      refine am_getr d75_54 fl75_24 sh_27 rfl ?_
      refine am_iload d75_57 rfl ?_
      refine am_ialdN i d75_59 sh_31 (by omega) (by decide) ?_
      refine am_iload_n d75_60 rfl ?_
      rw [c0.1.eq 31 (by decide)]
      refine am_icne 70 d75_61 (by decide) (fun h61 => ?_) (fun h61 => ?_)
      · refine am_iload_n d75_70 rfl ?_
        refine am_istore_n d75_71 (Nat.le_of_ble_eq_true rfl) rfl ?_
        refine am_incN i d75_72 rfl rfl ?_
        refine am_goto 44 d75_75 (by decide) ?_
        first | (have hz := ih h50; rw [← sp_cnt_f (f := (fun i => decide (M.1 31 i = nI b))) (n := i) (by simp [*])] at hz; exact hz) | (have hz := ih h50; rw [← sp_cnt_t (f := (fun i => decide (M.1 31 i = nI b))) (n := i) (by simp [*])] at hz; exact hz)
      · refine am_iload_n d75_64 rfl ?_
        refine am_iconst (nI 1) d75_65 (by decide) ?_
        refine am_addN d75_66 ?_
        refine am_goto 71 d75_67 (by decide) ?_
        refine am_istore_n d75_71 (Nat.le_of_ble_eq_true rfl) rfl ?_
        refine am_incN i d75_72 rfl rfl ?_
        refine am_goto 44 d75_75 (by decide) ?_
        first | (have hz := ih h50; rw [← sp_cnt_f (f := (fun i => decide (M.1 31 i = nI b))) (n := i) (by simp [*])] at hz; exact hz) | (have hz := ih h50; rw [← sp_cnt_t (f := (fun i => decide (M.1 31 i = nI b))) (n := i) (by simp [*])] at hz; exact hz)
  show am_W kM_about 0 _ [] M Q
  refine am_aload_n d75_0 rfl ?_
  refine am_aload_n d75_1 rfl ?_
  refine am_iload_n d75_2 rfl ?_
  refine am_cv1 34 d75_3 ml75_79 rfl (by decide) sh_27 rfl rfl (Nat.le_of_ble_eq_true rfl) ?_
  refine m_noBranch hS0 (fun g1 => ?_) (fun g1 => ?_)
  · show am_W 75 6 _ (.int 1 :: _) _ _
    refine am_ifeq 13 d75_6 (by decide) (fun h => absurd h (by decide)) (fun _ => ?_)
    refine am_iconst 1 d75_9 (by decide) ?_
    refine am_goto 27 d75_10 (by decide) ?_
    refine am_put d75_27 fl75_45 sh_27 rfl rfl rfl rfl ?_
    refine am_aload_n d75_30 rfl ?_
    refine am_geti d75_31 fl75_45 sh_27 rfl ?_
    show am_W 75 34 _ (.int 1 :: _) _ _
    refine am_ifle 39 d75_34 (by decide) (fun h => absurd h (by decide)) (fun _ => ?_)
    refine am_iconst 0 d75_37 (by decide) ?_
    refine am_iret d75_38 rfl rfl ?_
    first | exact h2 b hb rfl (ix_neg (by decide) h14) _ (cd_0 M _) | exact h2 b hb rfl (ix_nle (n := 3) (by decide) h19) _ (cd_0 M _) | exact h1 g1 _ (cd_0 M _)
  · show am_W 75 6 _ (.int 0 :: _) _ _
    obtain ⟨b, hb, rfl⟩ := g1
    refine am_ifeq 13 d75_6 (by decide) (fun _ => ?_) (fun h => absurd h (by decide))
    refine am_iload_n d75_13 rfl ?_
    refine am_iflt 22 d75_14 (by decide) (fun h14 => ?_) (fun h14 => ?_)
    · refine am_iconst 2 d75_22 (by decide) ?_
      refine am_goto 27 d75_23 (by decide) ?_
      refine am_put d75_27 fl75_45 sh_27 rfl rfl rfl rfl ?_
      refine am_aload_n d75_30 rfl ?_
      refine am_geti d75_31 fl75_45 sh_27 rfl ?_
      show am_W 75 34 _ (.int 2 :: _) _ _
      refine am_ifle 39 d75_34 (by decide) (fun h => absurd h (by decide)) (fun _ => ?_)
      refine am_iconst 0 d75_37 (by decide) ?_
      refine am_iret d75_38 rfl rfl ?_
      first | exact h2 b hb rfl (ix_neg (by decide) h14) _ (cd_0 M _) | exact h2 b hb rfl (ix_nle (n := 3) (by decide) h19) _ (cd_0 M _) | exact h1 g1 _ (cd_0 M _)
    · refine am_iload_n d75_17 rfl ?_
      refine am_iconst (nI 3) d75_18 (by decide) ?_
      refine am_icle 26 d75_19 (by decide) (fun h19 => ?_) (fun h19 => ?_)
      · refine am_iconst 0 d75_26 (by decide) ?_
        refine am_put d75_27 fl75_45 sh_27 rfl rfl rfl rfl ?_
        refine am_aload_n d75_30 rfl ?_
        refine am_geti d75_31 fl75_45 sh_27 rfl ?_
        show am_W 75 34 _ (.int 0 :: _) _ _
        refine am_ifle 39 d75_34 (by decide) (fun _ => ?_) (fun h => absurd h (by decide))
        refine am_iconst (nI 0) d75_39 (by decide) ?_
        refine am_istore_n d75_40 (Nat.le_of_ble_eq_true rfl) rfl ?_
        refine am_iconst (nI 0) d75_41 (by decide) ?_
        refine am_istore d75_42 (Nat.le_of_ble_eq_true rfl) rfl ?_
        exact loop b hb _ (cd_0 M 0) (moS_cd hS0 (cd_0 M 0)) (h0 b hb rfl (ix_le (n := 3) (by decide) h14 h19) _ (cd_0 M 0)) 0 (Nat.zero_le _)
      · refine am_iconst 2 d75_22 (by decide) ?_
        refine am_goto 27 d75_23 (by decide) ?_
        refine am_put d75_27 fl75_45 sh_27 rfl rfl rfl rfl ?_
        refine am_aload_n d75_30 rfl ?_
        refine am_geti d75_31 fl75_45 sh_27 rfl ?_
        show am_W 75 34 _ (.int 2 :: _) _ _
        refine am_ifle 39 d75_34 (by decide) (fun h => absurd h (by decide)) (fun _ => ?_)
        refine am_iconst 0 d75_37 (by decide) ?_
        refine am_iret d75_38 rfl rfl ?_
        first | exact h2 b hb rfl (ix_neg (by decide) h14) _ (cd_0 M _) | exact h2 b hb rfl (ix_nle (n := 3) (by decide) h19) _ (cd_0 M _) | exact h1 g1 _ (cd_0 M _)
theorem by_mo (w : Int32) {i : Nat} (h : i < 4) : (w >>> ((nI 24 - nI (8 * i)) &&& 31)) &&& 255 = by_u w i := by
  have key : ∀ (s : Int32) (k : Nat), (k = 0 ∨ k = 8 ∨ k = 16 ∨ k = 24) → ((s &&& 31).toBitVec.smod 32).toNat = k → ((s.toUInt32 &&& Int32.toUInt32 31).toBitVec % 32).toNat = k → (w >>> (s &&& 31)) &&& 255 = (w.toUInt32 >>> (s.toUInt32 &&& Int32.toUInt32 31)).toInt32 &&& 255 := by
    intro s k hk h1 h2
    rw [pk_and (w >>> (s &&& 31)) (m := 255) 8 (by decide), pk_and (w.toUInt32 >>> (s.toUInt32 &&& Int32.toUInt32 31)).toInt32 (m := 255) 8 (by decide), pk_ushr w s k h2]
    have h3 := pk_shr w (s &&& 31) k h1
    congr 1
    have e1 : (w >>> (s &&& 31)).toInt = (w >>> (s &&& 31)).toBitVec.toInt := rfl
    have e2 : w.toInt = w.toBitVec.toInt := rfl
    rw [e1, e2, BitVec.toInt_eq_toNat_cond, BitVec.toInt_eq_toNat_cond, Int.shiftRight_eq_div_pow] at h3
    have l1 := (w >>> (s &&& 31)).toBitVec.isLt
    have l2 := w.toBitVec.isLt
    generalize (w >>> (s &&& 31)).toBitVec.toNat = X at *
    generalize w.toBitVec.toNat = Y at *
    rcases hk with rfl | rfl | rfl | rfl
    · split at h3 <;> split at h3 <;> omega
    · split at h3 <;> split at h3 <;> omega
    · split at h3 <;> split at h3 <;> omega
    · split at h3 <;> split at h3 <;> omega
  have : i = 0 ∨ i = 1 ∨ i = 2 ∨ i = 3 := by omega
  rcases this with rfl | rfl | rfl | rfl
  · exact key (by_s 0) 24 (by decide) (by decide) (by decide)
  · exact key (by_s 1) 16 (by decide) (by decide) (by decide)
  · exact key (by_s 2) 8 (by decide) (by decide) (by decide)
  · exact key (by_s 3) 0 (by decide) (by decide) (by decide)
theorem tb_0 {w : Int32} {i : Nat} (hb : ∀ j, j < i → ¬ ty_bad w j = true) (h : by_u w i = 0 ∨ (¬ by_u w i < nI 33 ∧ by_u w i ≤ nI 126)) : ∀ j, j < i + 1 → ¬ ty_bad w j = true := by
  intro j hj
  rcases Nat.lt_succ_iff_lt_or_eq.mp hj with q | rfl
  · exact hb j q
  · unfold ty_bad
    rcases h with h | ⟨h, h'⟩
    · simp [h]
    · have a1 : ¬ by_u w j < 33 := h
      have a2 : ¬ 126 < by_u w j := Int32.not_lt.mpr h'
      simp [a1, a2]
theorem tb_1 {w : Int32} {i : Nat} (h : ¬ by_u w i = 0) (h' : by_u w i < nI 33 ∨ nI 126 < by_u w i) : ty_bad w i = true := by
  unfold ty_bad
  rcases h' with q | q
  · have a1 : by_u w i < 33 := q
    simp [h, a1]
  · have a1 : 126 < by_u w i := q
    simp [h, a1]
theorem am_27 {M : am_M} {v : Int32} {s : Nat} (h : s ≠ 0) : (am_set M 27 0 v).1 27 s = M.1 27 s := by rw [am_set_self]; exact pk_un h
theorem q_type {M : am_M} {Q : am_T} {w : Int32} {len : Nat} (hl : M.1 27 14 = nI len) (hl2 : len ≤ 32) (h1 : (∃ j, j < 4 ∧ ty_bad w j = true) → ∀ M', cd M M' 1 → Q (.inl (some (.int 0))) M') (h2 : (∀ j, j < 4 → ¬ ty_bad w j = true) → ¬ len + sp_cnt (ty_on w) 4 ≤ 32 → ∀ M', cd M M' 2 → Q (.inl (some (.int 0))) M') (h0 : (∀ j, j < 4 → ¬ ty_bad w j = true) → len + sp_cnt (ty_on w) 4 ≤ 32 → ∀ M', fr [27, 37] M M' → M'.1 27 0 = 0 → M'.1 27 14 = nI (len + sp_cnt (ty_on w) 4) → M'.1 37 = ty_t w (M.1 37) len 4 → (∀ s, s ≠ 0 → s ≠ 14 → M'.1 27 s = M.1 27 s) → Q (.inl (some (.int (nI (len + sp_cnt (ty_on w) 4))))) M') : am_W kM_type 0 (am_in kM_type [.ref 27, .int w]) [] M Q := by
  have loop2 : (∀ j, j < 4 → ¬ ty_bad w j = true) → len + sp_cnt (ty_on w) 4 ≤ 32 → ∀ i, i ≤ 4 → ∀ (x3 : List Value) (M1 : am_M), (fr [27, 37] M M1 ∧ M1.1 27 0 = 0 ∧ True = True ∧ M1.1 27 14 = nI (len + sp_cnt (ty_on w) i) ∧ M1.1 37 = ty_t w (M.1 37) len i ∧ (∀ s, s ≠ 0 → s ≠ 14 → M1.1 27 s = M.1 27 s)) → ∀ (x1 x2 : Int32) (x4 : Value), x3 = [.int x1, .int x2, .int (nI i), x4] → am_W kM_type 117 (.ref 27 :: .int w :: x3) [] M1 Q := by
    intro hb hle
    refine am_loop 4 (fun i hi ih => ?_)
    intro x3 M1 ⟨j1, j2, j3, j4, j5, j6⟩ x1 x2 x4 ex
    subst ex
    refine am_iload d62_117 rfl ?_
    refine am_iconst (nI 4) d62_119 (by decide) ?_
    refine am_icgeN 171 i 4 d62_120 (by decide) rfl rfl (by omega) (by decide) (fun h => ?_) (fun h4 => ?_)
    · obtain rfl : i = 4 := by omega
      refine am_aload_n d62_171 rfl ?_
      refine am_geti d62_172 fl62_116 sh_27 rfl ?_
      rw [j4]
      refine am_iret d62_175 rfl rfl ?_
      exact h0 hb hle M1 j1 j2 j4 j5 j6
    · skip
      refine am_iload_n d62_123 rfl ?_
      refine am_bipush (nI 24) d62_124 (by decide) ?_
      refine am_bipush (nI 8) d62_126 (by decide) ?_
      refine am_iload d62_128 rfl ?_
      refine am_mulN d62_130 ?_
      refine am_isub d62_131 ?_
      refine am_ishr d62_132 ?_
      refine am_sipush 255 d62_133 (by decide) ?_
      refine am_iand d62_136 ?_
      rw [by_mo w h4]
      refine am_istore d62_137 (Nat.le_of_ble_eq_true rfl) rfl ?_
      refine am_iload d62_139 rfl ?_
      refine am_ifeq 165 d62_141 (by decide) (fun h => ?_) (fun h => ?_)
      · have hno : ¬ ty_on w i = true := by simp [ty_on, h]
        refine am_incN i d62_165 rfl rfl ?_
        refine am_goto 117 d62_168 (by decide) ?_
        exact ih h4 _ _ ⟨j1, j2, j3, by rw [← sp_cnt_f hno]; exact j4, by rw [ty_t_f hno]; exact j5, j6⟩ _ _ _ rfl
      · have hon : ty_on w i = true := by simp [ty_on, h]
        have hcl := sp_cnt_t hon
        have hcm := ty_mono w (i + 1) 4 h4
        refine am_aload_n d62_144 rfl ?_
        refine am_getr d62_145 fl62_42 sh_27 rfl ?_
        refine am_aload_n d62_148 rfl ?_
        refine am_geti d62_149 fl62_116 sh_27 rfl ?_
        rw [j4]
        refine am_iload d62_152 rfl ?_
        refine am_iastN (len + sp_cnt (ty_on w) i) d62_154 sh_37 (by omega) (by decide) ?_
        refine am_aload_n d62_155 rfl ?_
        refine am_dup d62_156 rfl ?_
        refine am_geti d62_157 fl62_116 sh_27 rfl ?_
        rw [am_set_ne (by decide), j4]
        refine am_iconst 1 d62_160 (by decide) ?_
        refine am_iadd d62_161 ?_
        rw [nI_1, show len + sp_cnt (ty_on w) i + 1 = len + sp_cnt (ty_on w) (i + 1) by omega]
        refine am_put d62_162 fl62_116 sh_27 rfl rfl rfl rfl ?_
        refine am_incN i d62_165 rfl rfl ?_
        refine am_goto 117 d62_168 (by decide) ?_
        exact ih h4 _ _ ⟨(j1.set (by simp)).set (by simp), j2, j3, by rw [am_set_self]; exact pk_us, by rw [am_set_ne (by decide), am_set_self, ty_t_t hon, ← j5], fun s q1 q2 => by rw [am_set_self, pk_un q2, am_set_ne (by decide)]; exact j6 s q1 q2⟩ _ _ _ rfl
  have fin : ∀ (x4 : Value) (i0 x : Int32), ((x = 1 ∧ ∃ j, j < 4 ∧ ty_bad w j = true) ∨ (x = 0 ∧ ∀ j, j < 4 → ¬ ty_bad w j = true)) → am_W kM_type 77 [.ref 27, .int w, .int (nI (sp_cnt (ty_on w) 4)), .int x, .int i0, x4] [] M Q := by
    intro x4 i0 x hx
    refine am_aload_n d62_77 rfl ?_
    refine am_iload_n d62_78 rfl ?_
    rcases hx with ⟨rfl, hb⟩ | ⟨rfl, hb⟩
    · refine am_ifeq 86 d62_79 (by decide) (fun h => absurd h (by decide)) (fun _ => ?_)
      refine am_iconst 1 d62_82 (by decide) ?_
      refine am_goto 102 d62_83 (by decide) ?_
      refine am_put d62_102 fl62_45 sh_27 rfl rfl rfl rfl ?_
      refine am_aload_n d62_105 rfl ?_
      refine am_geti d62_106 fl62_45 sh_27 rfl ?_
      show am_W 62 109 _ (.int 1 :: _) _ _
      refine am_ifle 114 d62_109 (by decide) (fun h => absurd h (by decide)) (fun _ => ?_)
      refine am_iconst 0 d62_112 (by decide) ?_
      refine am_iret d62_113 rfl rfl ?_
      first | exact h2 hb hle _ (cd_0 M _) | exact h1 hb _ (cd_0 M _)
    · refine am_ifeq 86 d62_79 (by decide) (fun _ => ?_) (fun h => absurd rfl h)
      refine am_aload_n d62_86 rfl ?_
      refine am_geti d62_87 fl62_116 sh_27 rfl ?_
      refine am_iload_n d62_90 rfl ?_
      refine am_iadd d62_91 ?_
      refine am_bipush (nI 32) d62_92 (by decide) ?_
      rw [hl]
      have lo := sp_cnt_le (ty_on w) 4
      rw [nI_add]
      refine am_icle 101 d62_94 (by decide) (fun h => ?_) (fun h => ?_)
      · have hle : len + sp_cnt (ty_on w) 4 ≤ 32 := (nI_leI (by omega) (by decide)).mp h
        refine am_iconst 0 d62_101 (by decide) ?_
        refine am_put d62_102 fl62_45 sh_27 rfl rfl rfl rfl ?_
        refine am_aload_n d62_105 rfl ?_
        refine am_geti d62_106 fl62_45 sh_27 rfl ?_
        show am_W 62 109 _ (.int 0 :: _) _ _
        refine am_ifle 114 d62_109 (by decide) (fun _ => ?_) (fun h => absurd h (by decide))
        refine am_iconst (nI 0) d62_114 (by decide) ?_
        refine am_istore d62_115 (Nat.le_of_ble_eq_true rfl) rfl ?_
        exact loop2 hb hle 0 (by decide) _ _ ⟨fr.rf.set (by simp), rfl, rfl, hl, rfl, fun s h1 h2 => am_27 h1⟩ _ _ _ rfl
      · have hle : ¬ len + sp_cnt (ty_on w) 4 ≤ 32 := fun z => h (nI_le z (by decide))
        refine am_iconst 2 d62_97 (by decide) ?_
        refine am_goto 102 d62_98 (by decide) ?_
        refine am_put d62_102 fl62_45 sh_27 rfl rfl rfl rfl ?_
        refine am_aload_n d62_105 rfl ?_
        refine am_geti d62_106 fl62_45 sh_27 rfl ?_
        show am_W 62 109 _ (.int 2 :: _) _ _
        refine am_ifle 114 d62_109 (by decide) (fun h => absurd h (by decide)) (fun _ => ?_)
        refine am_iconst 0 d62_112 (by decide) ?_
        refine am_iret d62_113 rfl rfl ?_
        first | exact h2 hb hle _ (cd_0 M _) | exact h1 hb _ (cd_0 M _)
  have loop : ∀ i, i ≤ 4 → ∀ (x4 : Value) (x : Int32), ((x = 1 ∧ ∃ j, j < i ∧ ty_bad w j = true) ∨ (x = 0 ∧ ∀ j, j < i → ¬ ty_bad w j = true)) → am_W kM_type 7 [.ref 27, .int w, .int (nI (sp_cnt (ty_on w) i)), .int x, .int (nI i), x4] [] M Q := by
    refine am_loop 4 (fun i hi ih => ?_)
    intro x4 x hx
    refine am_iload d62_7 rfl ?_
    refine am_iconst (nI 4) d62_9 (by decide) ?_
    refine am_icgeN 77 i 4 d62_10 (by decide) rfl rfl (by omega) (by decide) (fun h => ?_) (fun h4 => ?_)
    · obtain rfl : i = 4 := by omega
      exact fin _ _ _ hx
    · skip
      refine am_iload_n d62_13 rfl ?_
      refine am_bipush (nI 24) d62_14 (by decide) ?_
      refine am_bipush (nI 8) d62_16 (by decide) ?_
      refine am_iload d62_18 rfl ?_
      refine am_mulN d62_20 ?_
      refine am_isub d62_21 ?_
      refine am_ishr d62_22 ?_
      refine am_sipush 255 d62_23 (by decide) ?_
      refine am_iand d62_26 ?_
      rw [by_mo w h4]
      refine am_istore d62_27 (Nat.le_of_ble_eq_true rfl) rfl ?_
      refine am_iload d62_29 rfl ?_
      refine am_ifeq 40 d62_31 (by decide) (fun h31 => ?_) (fun h31 => ?_)
      · have hc : sp_cnt (ty_on w) i = sp_cnt (ty_on w) (i + 1) := sp_cnt_f (by simp [ty_on, h31])
        rw [hc]
        refine am_iload_n d62_40 rfl ?_
        refine am_istore_n d62_41 (Nat.le_of_ble_eq_true rfl) rfl ?_
        refine am_iload_n d62_42 rfl ?_
        rcases hx with ⟨rfl, hb⟩ | ⟨rfl, hb⟩
        · refine am_ifne 65 d62_43 (by decide) (fun _ => ?_) (fun h => absurd h (by decide))
          refine am_iconst 1 d62_65 (by decide) ?_
          refine am_goto 70 d62_66 (by decide) ?_
          refine am_istore_n d62_70 (Nat.le_of_ble_eq_true rfl) rfl ?_
          refine am_incN i d62_71 rfl rfl ?_
          refine am_goto 7 d62_74 (by decide) ?_
          first | exact ih h4 _ _ (Or.inl ⟨rfl, hb.elim (fun j q => ⟨j, by omega, q.2⟩)⟩) | exact ih h4 _ _ (Or.inr ⟨rfl, tb_0 hb (Or.inl h48)⟩) | exact ih h4 _ _ (Or.inl ⟨rfl, i, by omega, tb_1 h48 (Or.inl h55)⟩) | exact ih h4 _ _ (Or.inl ⟨rfl, i, by omega, tb_1 h48 (Or.inr (Int32.not_le.mp h62))⟩) | exact ih h4 _ _ (Or.inr ⟨rfl, tb_0 hb (Or.inr ⟨h55, h62⟩)⟩)
        · refine am_ifne 65 d62_43 (by decide) (fun h => absurd rfl h) (fun _ => ?_)
          refine am_iload d62_46 rfl ?_
          refine am_ifeq 69 d62_48 (by decide) (fun h48 => ?_) (fun h48 => ?_)
          · refine am_iconst 0 d62_69 (by decide) ?_
            refine am_istore_n d62_70 (Nat.le_of_ble_eq_true rfl) rfl ?_
            refine am_incN i d62_71 rfl rfl ?_
            refine am_goto 7 d62_74 (by decide) ?_
            first | exact ih h4 _ _ (Or.inl ⟨rfl, hb.elim (fun j q => ⟨j, by omega, q.2⟩)⟩) | exact ih h4 _ _ (Or.inr ⟨rfl, tb_0 hb (Or.inl h48)⟩) | exact ih h4 _ _ (Or.inl ⟨rfl, i, by omega, tb_1 h48 (Or.inl h55)⟩) | exact ih h4 _ _ (Or.inl ⟨rfl, i, by omega, tb_1 h48 (Or.inr (Int32.not_le.mp h62))⟩) | exact ih h4 _ _ (Or.inr ⟨rfl, tb_0 hb (Or.inr ⟨h55, h62⟩)⟩)
          · refine am_iload d62_51 rfl ?_
            refine am_bipush 33 d62_53 (by decide) ?_
            refine am_iclt 65 d62_55 (by decide) (fun h55 => ?_) (fun h55 => ?_)
            · refine am_iconst 1 d62_65 (by decide) ?_
              refine am_goto 70 d62_66 (by decide) ?_
              refine am_istore_n d62_70 (Nat.le_of_ble_eq_true rfl) rfl ?_
              refine am_incN i d62_71 rfl rfl ?_
              refine am_goto 7 d62_74 (by decide) ?_
              first | exact ih h4 _ _ (Or.inl ⟨rfl, hb.elim (fun j q => ⟨j, by omega, q.2⟩)⟩) | exact ih h4 _ _ (Or.inr ⟨rfl, tb_0 hb (Or.inl h48)⟩) | exact ih h4 _ _ (Or.inl ⟨rfl, i, by omega, tb_1 h48 (Or.inl h55)⟩) | exact ih h4 _ _ (Or.inl ⟨rfl, i, by omega, tb_1 h48 (Or.inr (Int32.not_le.mp h62))⟩) | exact ih h4 _ _ (Or.inr ⟨rfl, tb_0 hb (Or.inr ⟨h55, h62⟩)⟩)
            · refine am_iload d62_58 rfl ?_
              refine am_bipush 126 d62_60 (by decide) ?_
              refine am_icle 69 d62_62 (by decide) (fun h62 => ?_) (fun h62 => ?_)
              · refine am_iconst 0 d62_69 (by decide) ?_
                refine am_istore_n d62_70 (Nat.le_of_ble_eq_true rfl) rfl ?_
                refine am_incN i d62_71 rfl rfl ?_
                refine am_goto 7 d62_74 (by decide) ?_
                first | exact ih h4 _ _ (Or.inl ⟨rfl, hb.elim (fun j q => ⟨j, by omega, q.2⟩)⟩) | exact ih h4 _ _ (Or.inr ⟨rfl, tb_0 hb (Or.inl h48)⟩) | exact ih h4 _ _ (Or.inl ⟨rfl, i, by omega, tb_1 h48 (Or.inl h55)⟩) | exact ih h4 _ _ (Or.inl ⟨rfl, i, by omega, tb_1 h48 (Or.inr (Int32.not_le.mp h62))⟩) | exact ih h4 _ _ (Or.inr ⟨rfl, tb_0 hb (Or.inr ⟨h55, h62⟩)⟩)
              · refine am_iconst 1 d62_65 (by decide) ?_
                refine am_goto 70 d62_66 (by decide) ?_
                refine am_istore_n d62_70 (Nat.le_of_ble_eq_true rfl) rfl ?_
                refine am_incN i d62_71 rfl rfl ?_
                refine am_goto 7 d62_74 (by decide) ?_
                first | exact ih h4 _ _ (Or.inl ⟨rfl, hb.elim (fun j q => ⟨j, by omega, q.2⟩)⟩) | exact ih h4 _ _ (Or.inr ⟨rfl, tb_0 hb (Or.inl h48)⟩) | exact ih h4 _ _ (Or.inl ⟨rfl, i, by omega, tb_1 h48 (Or.inl h55)⟩) | exact ih h4 _ _ (Or.inl ⟨rfl, i, by omega, tb_1 h48 (Or.inr (Int32.not_le.mp h62))⟩) | exact ih h4 _ _ (Or.inr ⟨rfl, tb_0 hb (Or.inr ⟨h55, h62⟩)⟩)
      · have hc : sp_cnt (ty_on w) i + 1 = sp_cnt (ty_on w) (i + 1) := sp_cnt_t (by simp [ty_on, h31])
        refine am_iload_n d62_34 rfl ?_
        refine am_iconst (nI 1) d62_35 (by decide) ?_
        refine am_addN d62_36 ?_
        rw [hc]
        refine am_goto 41 d62_37 (by decide) ?_
        refine am_istore_n d62_41 (Nat.le_of_ble_eq_true rfl) rfl ?_
        refine am_iload_n d62_42 rfl ?_
        rcases hx with ⟨rfl, hb⟩ | ⟨rfl, hb⟩
        · refine am_ifne 65 d62_43 (by decide) (fun _ => ?_) (fun h => absurd h (by decide))
          refine am_iconst 1 d62_65 (by decide) ?_
          refine am_goto 70 d62_66 (by decide) ?_
          refine am_istore_n d62_70 (Nat.le_of_ble_eq_true rfl) rfl ?_
          refine am_incN i d62_71 rfl rfl ?_
          refine am_goto 7 d62_74 (by decide) ?_
          first | exact ih h4 _ _ (Or.inl ⟨rfl, hb.elim (fun j q => ⟨j, by omega, q.2⟩)⟩) | exact ih h4 _ _ (Or.inr ⟨rfl, tb_0 hb (Or.inl h48)⟩) | exact ih h4 _ _ (Or.inl ⟨rfl, i, by omega, tb_1 h48 (Or.inl h55)⟩) | exact ih h4 _ _ (Or.inl ⟨rfl, i, by omega, tb_1 h48 (Or.inr (Int32.not_le.mp h62))⟩) | exact ih h4 _ _ (Or.inr ⟨rfl, tb_0 hb (Or.inr ⟨h55, h62⟩)⟩)
        · refine am_ifne 65 d62_43 (by decide) (fun h => absurd rfl h) (fun _ => ?_)
          refine am_iload d62_46 rfl ?_
          refine am_ifeq 69 d62_48 (by decide) (fun h48 => ?_) (fun h48 => ?_)
          · refine am_iconst 0 d62_69 (by decide) ?_
            refine am_istore_n d62_70 (Nat.le_of_ble_eq_true rfl) rfl ?_
            refine am_incN i d62_71 rfl rfl ?_
            refine am_goto 7 d62_74 (by decide) ?_
            first | exact ih h4 _ _ (Or.inl ⟨rfl, hb.elim (fun j q => ⟨j, by omega, q.2⟩)⟩) | exact ih h4 _ _ (Or.inr ⟨rfl, tb_0 hb (Or.inl h48)⟩) | exact ih h4 _ _ (Or.inl ⟨rfl, i, by omega, tb_1 h48 (Or.inl h55)⟩) | exact ih h4 _ _ (Or.inl ⟨rfl, i, by omega, tb_1 h48 (Or.inr (Int32.not_le.mp h62))⟩) | exact ih h4 _ _ (Or.inr ⟨rfl, tb_0 hb (Or.inr ⟨h55, h62⟩)⟩)
          · refine am_iload d62_51 rfl ?_
            refine am_bipush 33 d62_53 (by decide) ?_
            refine am_iclt 65 d62_55 (by decide) (fun h55 => ?_) (fun h55 => ?_)
            · refine am_iconst 1 d62_65 (by decide) ?_
              refine am_goto 70 d62_66 (by decide) ?_
              refine am_istore_n d62_70 (Nat.le_of_ble_eq_true rfl) rfl ?_
              refine am_incN i d62_71 rfl rfl ?_
              refine am_goto 7 d62_74 (by decide) ?_
              first | exact ih h4 _ _ (Or.inl ⟨rfl, hb.elim (fun j q => ⟨j, by omega, q.2⟩)⟩) | exact ih h4 _ _ (Or.inr ⟨rfl, tb_0 hb (Or.inl h48)⟩) | exact ih h4 _ _ (Or.inl ⟨rfl, i, by omega, tb_1 h48 (Or.inl h55)⟩) | exact ih h4 _ _ (Or.inl ⟨rfl, i, by omega, tb_1 h48 (Or.inr (Int32.not_le.mp h62))⟩) | exact ih h4 _ _ (Or.inr ⟨rfl, tb_0 hb (Or.inr ⟨h55, h62⟩)⟩)
            · refine am_iload d62_58 rfl ?_
              refine am_bipush 126 d62_60 (by decide) ?_
              refine am_icle 69 d62_62 (by decide) (fun h62 => ?_) (fun h62 => ?_)
              · refine am_iconst 0 d62_69 (by decide) ?_
                refine am_istore_n d62_70 (Nat.le_of_ble_eq_true rfl) rfl ?_
                refine am_incN i d62_71 rfl rfl ?_
                refine am_goto 7 d62_74 (by decide) ?_
                first | exact ih h4 _ _ (Or.inl ⟨rfl, hb.elim (fun j q => ⟨j, by omega, q.2⟩)⟩) | exact ih h4 _ _ (Or.inr ⟨rfl, tb_0 hb (Or.inl h48)⟩) | exact ih h4 _ _ (Or.inl ⟨rfl, i, by omega, tb_1 h48 (Or.inl h55)⟩) | exact ih h4 _ _ (Or.inl ⟨rfl, i, by omega, tb_1 h48 (Or.inr (Int32.not_le.mp h62))⟩) | exact ih h4 _ _ (Or.inr ⟨rfl, tb_0 hb (Or.inr ⟨h55, h62⟩)⟩)
              · refine am_iconst 1 d62_65 (by decide) ?_
                refine am_goto 70 d62_66 (by decide) ?_
                refine am_istore_n d62_70 (Nat.le_of_ble_eq_true rfl) rfl ?_
                refine am_incN i d62_71 rfl rfl ?_
                refine am_goto 7 d62_74 (by decide) ?_
                first | exact ih h4 _ _ (Or.inl ⟨rfl, hb.elim (fun j q => ⟨j, by omega, q.2⟩)⟩) | exact ih h4 _ _ (Or.inr ⟨rfl, tb_0 hb (Or.inl h48)⟩) | exact ih h4 _ _ (Or.inl ⟨rfl, i, by omega, tb_1 h48 (Or.inl h55)⟩) | exact ih h4 _ _ (Or.inl ⟨rfl, i, by omega, tb_1 h48 (Or.inr (Int32.not_le.mp h62))⟩) | exact ih h4 _ _ (Or.inr ⟨rfl, tb_0 hb (Or.inr ⟨h55, h62⟩)⟩)
  show am_W kM_type 0 _ [] M Q
  refine am_iconst (nI 0) d62_0 (by decide) ?_
  refine am_istore_n d62_1 (Nat.le_of_ble_eq_true rfl) rfl ?_
  refine am_iconst 0 d62_2 (by decide) ?_
  refine am_istore_n d62_3 (Nat.le_of_ble_eq_true rfl) rfl ?_
  refine am_iconst (nI 0) d62_4 (by decide) ?_
  refine am_istore d62_5 (Nat.le_of_ble_eq_true rfl) rfl ?_
  exact loop 0 (by decide) _ _ (Or.inr ⟨rfl, fun j hj => absurd hj (Nat.not_lt_zero _)⟩)
theorem q_erase {M : am_M} {Q : am_T} (hQ : Q (.inl none) (am_set (am_set M 27 0 0) 27 14 0)) : am_W kM_erase 0 (am_in kM_erase [.ref 27]) [] M Q := by
  show am_W kM_erase 0 _ [] M Q
  refine am_aload_n d63_0 rfl ?_
  refine am_iconst 0 d63_1 (by decide) ?_
  refine am_put d63_2 fl63_45 sh_27 rfl rfl rfl rfl ?_
  refine am_aload_n d63_5 rfl ?_
  refine am_iconst 0 d63_6 (by decide) ?_
  refine am_put d63_7 fl63_116 sh_27 rfl rfl rfl rfl ?_
  refine am_vret d63_10 rfl ?_
  exact hQ
