/-! the model: small methods -/
/-- the model's memory: branches and rows -/
def moS (M : am_M) (pn : Nat → Nat) (nb nw ck : Nat) : Prop := M.1 27 3 = nI nb ∧ bp_P (M.1 28) (M.1 29) pn nb ∧ M.1 27 7 = nI nw ∧ bp_R (M.1 31) (M.1 33) nb nw ∧ M.1 27 1 = nI ck ∧ ck < 2 ^ 30 ∧ (∀ i, i < nw → 0 ≤ M.1 32 i) ∧ M.1 28 0 = -1 ∧ 0 < nb
def lt_v : Option Nat → Int32
  | none => -1
  | some i => nI i
def mo_first (M : am_M) (b : Nat) : Int32 := if M.1 29 b ≤ M.1 27 2 then M.1 27 2 else M.1 29 b
def mo_rd (M : am_M) (b : Nat) (m : Int32) : Prop := M.1 30 b = 0 ∧ ¬ m < mo_first M b ∧ m ≤ M.1 27 1
def mo_row (M : am_M) (pn : Nat → Nat) (nw b : Nat) (m : Int32) (c : Nat) : Option Nat := sp_row (M.1 31) (M.1 32) (M.1 33) pn (M.1 29) nw b m c
theorem mo_row_lt {M : am_M} {pn : Nat → Nat} {nw b i : Nat} {m : Int32} {c : Nat} (h : mo_row M pn nw b m c = some i) : i < nw := (sp_last_lt h).1
theorem m_thrown {M : am_M} {Q : am_T} (hQ : Q (.inl (some (.int (M.1 27 0)))) M) : am_W kM_thrown 0 (am_in kM_thrown [.ref 27]) [] M Q := by
  show am_W kM_thrown 0 _ [] M Q
  refine am_aload_n d33_0 rfl ?_
  refine am_geti d33_1 fl33_45 sh_27 rfl ?_
  refine am_iret d33_4 rfl rfl ?_
  exact hQ
theorem m_noBranch {pn : Nat → Nat} {nb nw ck : Nat} {M : am_M} {Q : am_T} (hS : moS M pn nb nw ck) {x : Int32} (h1 : ¬ ix x nb → Q (.inl (some (.int 1))) M) (h0 : ix x nb → Q (.inl (some (.int 0))) M) : am_W kM_noBranch 0 (am_in kM_noBranch [.ref 27, .int x]) [] M Q := by
  have hS0 := hS
  obtain ⟨s1, s2, s3, s4, s5, s6, s7, s8, s9⟩ := hS
  have s26 := s2.1
  have s41 := s4.1
  show am_W kM_noBranch 0 _ [] M Q
  refine am_iload_n d34_0 rfl ?_
  refine am_iflt 12 d34_1 (by decide) (fun h1' => ?_) (fun h1' => ?_)
  · refine am_iconst 1 d34_12 (by decide) ?_
    refine am_goto 17 d34_13 (by decide) ?_
    refine am_iret d34_17 rfl (by decide) ?_
    rw [s1] at *
    first | exact h1 (ix_neg (by omega) h1') | exact h1 (ix_nlt (by omega) h9) | exact h0 (ix_lt (by omega) h1' h9)
  · refine am_iload_n d34_4 rfl ?_
    refine am_aload_n d34_5 rfl ?_
    refine am_geti d34_6 fl34_7 sh_27 rfl ?_
    refine am_iclt 16 d34_9 (by decide) (fun h9 => ?_) (fun h9 => ?_)
    · refine am_iconst 0 d34_16 (by decide) ?_
      refine am_iret d34_17 rfl (by decide) ?_
      rw [s1] at *
      first | exact h1 (ix_neg (by omega) h1') | exact h1 (ix_nlt (by omega) h9) | exact h0 (ix_lt (by omega) h1' h9)
    · refine am_iconst 1 d34_12 (by decide) ?_
      refine am_goto 17 d34_13 (by decide) ?_
      refine am_iret d34_17 rfl (by decide) ?_
      rw [s1] at *
      first | exact h1 (ix_neg (by omega) h1') | exact h1 (ix_nlt (by omega) h9) | exact h0 (ix_lt (by omega) h1' h9)
theorem m_noPlace {M : am_M} {Q : am_T} {x y : Int32} (h1 : ¬ (ix x 12 ∧ ix y 4) → Q (.inl (some (.int 1))) M) (h0 : ix x 12 ∧ ix y 4 → Q (.inl (some (.int 0))) M) : am_W kM_noPlace 0 (am_in kM_noPlace [.int x, .int y]) [] M Q := by
  show am_W kM_noPlace 0 _ [] M Q
  refine am_iload_n d35_0 rfl ?_
  refine am_iflt 19 d35_1 (by decide) (fun k1 => ?_) (fun k1 => ?_)
  · refine am_iconst 1 d35_19 (by decide) ?_
    refine am_goto 24 d35_20 (by decide) ?_
    refine am_iret d35_24 rfl (by decide) ?_
    first | exact h1 (fun z => ix_neg (by decide) k1 z.1) | exact h1 (fun z => ix_nle (n := 11) (by decide) (Int32.not_le.mpr h7) z.1) | exact h1 (fun z => ix_neg (by decide) h11 z.2) | exact h1 (fun z => ix_nle (n := 3) (by decide) h16 z.2) | exact h0 ⟨ix_le (n := 11) (by decide) k1 (Int32.not_lt.mp h7), ix_le (n := 3) (by decide) h11 h16⟩
  · refine am_iload_n d35_4 rfl ?_
    refine am_bipush (nI 11) d35_5 (by decide) ?_
    refine am_icgt 19 d35_7 (by decide) (fun h7 => ?_) (fun h7 => ?_)
    · refine am_iconst 1 d35_19 (by decide) ?_
      refine am_goto 24 d35_20 (by decide) ?_
      refine am_iret d35_24 rfl (by decide) ?_
      first | exact h1 (fun z => ix_neg (by decide) k1 z.1) | exact h1 (fun z => ix_nle (n := 11) (by decide) (Int32.not_le.mpr h7) z.1) | exact h1 (fun z => ix_neg (by decide) h11 z.2) | exact h1 (fun z => ix_nle (n := 3) (by decide) h16 z.2) | exact h0 ⟨ix_le (n := 11) (by decide) k1 (Int32.not_lt.mp h7), ix_le (n := 3) (by decide) h11 h16⟩
    · refine am_iload_n d35_10 rfl ?_
      refine am_iflt 19 d35_11 (by decide) (fun h11 => ?_) (fun h11 => ?_)
      · refine am_iconst 1 d35_19 (by decide) ?_
        refine am_goto 24 d35_20 (by decide) ?_
        refine am_iret d35_24 rfl (by decide) ?_
        first | exact h1 (fun z => ix_neg (by decide) k1 z.1) | exact h1 (fun z => ix_nle (n := 11) (by decide) (Int32.not_le.mpr h7) z.1) | exact h1 (fun z => ix_neg (by decide) h11 z.2) | exact h1 (fun z => ix_nle (n := 3) (by decide) h16 z.2) | exact h0 ⟨ix_le (n := 11) (by decide) k1 (Int32.not_lt.mp h7), ix_le (n := 3) (by decide) h11 h16⟩
      · refine am_iload_n d35_14 rfl ?_
        refine am_iconst (nI 3) d35_15 (by decide) ?_
        refine am_icle 23 d35_16 (by decide) (fun h16 => ?_) (fun h16 => ?_)
        · refine am_iconst 0 d35_23 (by decide) ?_
          refine am_iret d35_24 rfl (by decide) ?_
          first | exact h1 (fun z => ix_neg (by decide) k1 z.1) | exact h1 (fun z => ix_nle (n := 11) (by decide) (Int32.not_le.mpr h7) z.1) | exact h1 (fun z => ix_neg (by decide) h11 z.2) | exact h1 (fun z => ix_nle (n := 3) (by decide) h16 z.2) | exact h0 ⟨ix_le (n := 11) (by decide) k1 (Int32.not_lt.mp h7), ix_le (n := 3) (by decide) h11 h16⟩
        · refine am_iconst 1 d35_19 (by decide) ?_
          refine am_goto 24 d35_20 (by decide) ?_
          refine am_iret d35_24 rfl (by decide) ?_
          first | exact h1 (fun z => ix_neg (by decide) k1 z.1) | exact h1 (fun z => ix_nle (n := 11) (by decide) (Int32.not_le.mpr h7) z.1) | exact h1 (fun z => ix_neg (by decide) h11 z.2) | exact h1 (fun z => ix_nle (n := 3) (by decide) h16 z.2) | exact h0 ⟨ix_le (n := 11) (by decide) k1 (Int32.not_lt.mp h7), ix_le (n := 3) (by decide) h11 h16⟩
theorem m_first {M : am_M} {Q : am_T} {b : Nat} (hb : b < 6) (hQ : Q (.inl (some (.int (mo_first M b)))) M) : am_W kM_first 0 (am_in kM_first [.ref 27, .int (nI b)]) [] M Q := by
  show am_W kM_first 0 _ [] M Q
  refine am_aload_n d36_0 rfl ?_
  refine am_getr d36_1 fl36_17 sh_27 rfl ?_
  refine am_iload_n d36_4 rfl ?_
  refine am_ialdN b d36_5 sh_29 hb (by decide) ?_
  refine am_aload_n d36_6 rfl ?_
  refine am_geti d36_7 fl36_48 sh_27 rfl ?_
  refine am_icle 22 d36_10 (by decide) (fun h10 => ?_) (fun h10 => ?_)
  · refine am_aload_n d36_22 rfl ?_
    refine am_geti d36_23 fl36_48 sh_27 rfl ?_
    refine am_iret d36_26 rfl rfl ?_
    unfold mo_first at hQ
    first | (rw [if_pos h10] at hQ; exact hQ) | (rw [if_neg h10] at hQ; exact hQ)
  · refine am_aload_n d36_13 rfl ?_
    refine am_getr d36_14 fl36_17 sh_27 rfl ?_
    refine am_iload_n d36_17 rfl ?_
    refine am_ialdN b d36_18 sh_29 hb (by decide) ?_
    refine am_goto 26 d36_19 (by decide) ?_
    refine am_iret d36_26 rfl rfl ?_
    unfold mo_first at hQ
    first | (rw [if_pos h10] at hQ; exact hQ) | (rw [if_neg h10] at hQ; exact hQ)
theorem m_unreadable {M : am_M} {Q : am_T} {b : Nat} {x : Int32} (hb : b < 6) (h1 : ¬ mo_rd M b x → Q (.inl (some (.int 1))) M) (h0 : mo_rd M b x → Q (.inl (some (.int 0))) M) : am_W kM_unreadable 0 (am_in kM_unreadable [.ref 27, .int (nI b), .int x]) [] M Q := by
  show am_W kM_unreadable 0 _ [] M Q
  refine am_aload_n d37_0 rfl ?_
  refine am_getr d37_1 fl37_20 sh_27 rfl ?_
  refine am_iload_n d37_4 rfl ?_
  refine am_zaldN b d37_5 sh_30 hb (by decide) ?_
  refine am_ifne 26 d37_6 (by decide) (fun h6 => ?_) (fun h6 => ?_)
  · refine am_iconst 1 d37_26 (by decide) ?_
    refine am_goto 31 d37_27 (by decide) ?_
    refine am_iret d37_31 rfl (by decide) ?_
    first | exact h1 (fun z => h6 z.1) | exact h1 (fun z => z.2.1 h15) | exact h1 (fun z => h23 z.2.2) | exact h0 ⟨h6, h15, h23⟩
  · refine am_iload_n d37_9 rfl ?_
    refine am_aload_n d37_10 rfl ?_
    refine am_iload_n d37_11 rfl ?_
    refine am_cv1 36 d37_12 ml37_51 rfl (by decide) sh_27 rfl rfl (Nat.le_of_ble_eq_true rfl) ?_
    refine m_first hb ?_
    show am_W 37 15 _ (.int _ :: _) _ _
    refine am_iclt 26 d37_15 (by decide) (fun h15 => ?_) (fun h15 => ?_)
    · refine am_iconst 1 d37_26 (by decide) ?_
      refine am_goto 31 d37_27 (by decide) ?_
      refine am_iret d37_31 rfl (by decide) ?_
      first | exact h1 (fun z => h6 z.1) | exact h1 (fun z => z.2.1 h15) | exact h1 (fun z => h23 z.2.2) | exact h0 ⟨h6, h15, h23⟩
    · refine am_iload_n d37_18 rfl ?_
      refine am_aload_n d37_19 rfl ?_
      refine am_geti d37_20 fl37_55 sh_27 rfl ?_
      refine am_icle 30 d37_23 (by decide) (fun h23 => ?_) (fun h23 => ?_)
      · refine am_iconst 0 d37_30 (by decide) ?_
        refine am_iret d37_31 rfl (by decide) ?_
        first | exact h1 (fun z => h6 z.1) | exact h1 (fun z => z.2.1 h15) | exact h1 (fun z => h23 z.2.2) | exact h0 ⟨h6, h15, h23⟩
      · refine am_iconst 1 d37_26 (by decide) ?_
        refine am_goto 31 d37_27 (by decide) ?_
        refine am_iret d37_31 rfl (by decide) ?_
        first | exact h1 (fun z => h6 z.1) | exact h1 (fun z => z.2.1 h15) | exact h1 (fun z => h23 z.2.2) | exact h0 ⟨h6, h15, h23⟩
theorem m_sees {pn : Nat → Nat} {nb nw ck : Nat} {M : am_M} {Q : am_T} (hS : moS M pn nb nw ck) {b w j : Nat} {x : Int32} (hb : b < nb) (hw : w < 120) (ho : M.1 31 w = nI j) (hj : j < nb) (hp : 0 ≤ M.1 32 w) (h1 : M.1 32 w ≤ mt_f pn (M.1 29) b b x j → Q (.inl (some (.int 1))) M) (h0 : ¬ M.1 32 w ≤ mt_f pn (M.1 29) b b x j → Q (.inl (some (.int 0))) M) : am_W kM_sees 0 (am_in kM_sees [.ref 27, .int (nI b), .int x, .int (nI w)]) [] M Q := by
  have hS0 := hS
  obtain ⟨s1, s2, s3, s4, s5, s6, s7, s8, s9⟩ := hS
  have s26 := s2.1
  have s41 := s4.1
  obtain ⟨_, hpn, hpar, hfk⟩ := s2
  have m1 : ¬ M.1 32 w ≤ -1 := fun z => absurd (Int32.le_trans hp z) (by decide)
  have key : ∀ n, (∀ on, on < n → on < nb → ∀ (x1 x2 u : Int32), (M.1 32 w ≤ mt_f pn (M.1 29) on on u j ↔ M.1 32 w ≤ mt_f pn (M.1 29) b b x j) → am_W kM_sees 6 [.ref 27, .int x1, .int x2, .int (nI w), .int (nI on), .int u] [] M Q) → ∀ on, on ≤ n → on < nb → ∀ (x1 x2 u : Int32), (M.1 32 w ≤ mt_f pn (M.1 29) on on u j ↔ M.1 32 w ≤ mt_f pn (M.1 29) b b x j) → am_W kM_sees 6 [.ref 27, .int x1, .int x2, .int (nI w), .int (nI on), .int u] [] M Q := by
    intro n ih on hon hnb x1 x2 u hP
    have cont : (0 < on → (M.1 32 w ≤ mt_f pn (M.1 29) (pn on) (pn on) (mt_min u (M.1 29 on)) j ↔ M.1 32 w ≤ mt_f pn (M.1 29) b b x j)) → (on = 0 → ¬ M.1 32 w ≤ mt_f pn (M.1 29) b b x j) → am_W kM_sees 35 [.ref 27, .int x1, .int x2, .int (nI w), .int (nI on), .int u] [] M Q := by
      intro c1 c2
      have par : ∀ u', u' = mt_min u (M.1 29 on) → am_W kM_sees 59 [.ref 27, .int x1, .int x2, .int (nI w), .int (nI on), .int u] [.int u'] M Q := by
        intro u' hu
        refine am_istore d38_59 (Nat.le_of_ble_eq_true rfl) rfl ?_
        refine am_aload_n d38_61 rfl ?_
        refine am_getr d38_62 fl38_13 sh_27 rfl ?_
        refine am_iload d38_65 rfl ?_
        refine am_ialdN on d38_67 sh_28 (by omega) (by decide) ?_
        refine am_istore d38_68 (Nat.le_of_ble_eq_true rfl) rfl ?_
        refine am_goto 6 d38_70 (by decide) ?_
        by_cases h0' : on = 0
        · subst h0'
          rw [s8]
          refine am_iload d38_6 rfl ?_
          refine am_iflt 73 d38_8 (by decide) (fun _ => ?_) (fun h => absurd (by decide) h)
          refine am_iconst 0 d38_73 (by decide) ?_
          exact am_iret d38_74 rfl (by decide) (h0 (c2 rfl))
        · rw [hpar on (by omega) hnb]
          have hlt := hpn on (by omega) hnb
          refine ih (pn on) (by omega) (by omega) _ _ _ ?_
          rw [hu]
          exact c1 (by omega)
      refine am_aload_n d38_35 rfl ?_
      refine am_getr d38_36 fl38_17 sh_27 rfl ?_
      refine am_iload d38_39 rfl ?_
      refine am_ialdN on d38_41 sh_29 (by omega) (by decide) ?_
      refine am_iload d38_42 rfl ?_
      refine am_icge 57 d38_44 (by decide) (fun h => ?_) (fun h => ?_)
      · refine am_iload d38_57 rfl ?_
        exact par _ (by unfold mt_min; rw [if_neg (Int32.not_lt.mpr h)])
      · refine am_aload_n d38_47 rfl ?_
        refine am_getr d38_48 fl38_17 sh_27 rfl ?_
        refine am_iload d38_51 rfl ?_
        refine am_ialdN on d38_53 sh_29 (by omega) (by decide) ?_
        refine am_goto 59 d38_54 (by decide) ?_
        exact par _ (by unfold mt_min; rw [if_pos (Int32.not_le.mp h)])
    refine am_iload d38_6 rfl ?_
    refine am_iflt 73 d38_8 (by decide) (fun h => absurd h (nI_pos (by omega))) (fun _ => ?_)
    refine am_aload_n d38_11 rfl ?_
    refine am_getr d38_12 fl38_24 sh_27 rfl ?_
    refine am_iload_n d38_15 rfl ?_
    refine am_ialdN w d38_16 sh_31 hw (by decide) ?_
    rw [ho]
    refine am_iload d38_17 rfl ?_
    refine am_icne 35 d38_19 (by decide) (fun h => ?_) (fun h => ?_)
    · have hne : j ≠ on := fun z => h (by rw [z])
      refine cont (fun h0' => ?_) (fun h0' => ?_)
      · by_cases hlt : j < on
        · rw [← mt_f_down hpn hnb h0' hlt]; exact hP
        · have h2 := hpn on h0' hnb
          rw [mt_f_above hpn _ _ _ _ hnb (Nat.le_refl _) (by omega)] at hP
          rw [mt_f_above hpn _ _ _ _ (by omega) (Nat.le_refl _) (by omega)]
          exact hP
      · subst h0'
        rw [mt_f_0 hne] at hP
        exact fun z => m1 (hP.mpr z)
    · have heq : j = on := (nI_eq (by omega) (by omega)).mp h
      subst heq
      rw [mt_f_self] at hP
      refine am_aload_n d38_22 rfl ?_
      refine am_getr d38_23 fl38_27 sh_27 rfl ?_
      refine am_iload_n d38_26 rfl ?_
      refine am_ialdN w d38_27 sh_32 hw (by decide) ?_
      refine am_iload d38_28 rfl ?_
      refine am_icgt 35 d38_30 (by decide) (fun h => ?_) (fun h => ?_)
      · have hn : ¬ M.1 32 w ≤ mt_f pn (M.1 29) b b x j := fun z => absurd (hP.mpr z) (Int32.not_le.mpr h)
        refine cont (fun h0' => ?_) (fun _ => hn)
        have h2 := hpn j h0' hnb
        rw [mt_f_above hpn _ _ _ _ (by omega) (Nat.le_refl _) (by omega)]
        exact ⟨fun z => absurd z m1, fun z => absurd z hn⟩
      · refine am_iconst 1 d38_33 (by decide) ?_
        exact am_iret d38_34 rfl (by decide) (h1 (hP.mp (Int32.not_lt.mp h)))
  have loop : ∀ n on, on ≤ n → on < nb → ∀ (x1 x2 u : Int32), (M.1 32 w ≤ mt_f pn (M.1 29) on on u j ↔ M.1 32 w ≤ mt_f pn (M.1 29) b b x j) → am_W kM_sees 6 [.ref 27, .int x1, .int x2, .int (nI w), .int (nI on), .int u] [] M Q := by
    intro n
    induction n with
    | zero => exact key 0 (fun on h => absurd h (Nat.not_lt_zero _))
    | succ n ih => exact key (n + 1) (fun on h => ih on (by omega))
  show am_W kM_sees 0 _ [] M Q
  refine am_iload_n d38_0 rfl ?_
  refine am_istore d38_1 (Nat.le_of_ble_eq_true rfl) rfl ?_
  refine am_iload_n d38_3 rfl ?_
  refine am_istore d38_4 (Nat.le_of_ble_eq_true rfl) rfl ?_
  exact loop b b (Nat.le_refl _) hb _ _ _ Iff.rfl
theorem m_latest {pn : Nat → Nat} {nb nw ck : Nat} {M : am_M} {Q : am_T} (hS : moS M pn nb nw ck) {b c : Nat} {x : Int32} (hb : b < nb) (hQ : Q (.inl (some (.int (lt_v (mo_row M pn nw b x c))))) M) : am_W kM_latest 0 (am_in kM_latest [.ref 27, .int (nI b), .int x, .int (nI c)]) [] M Q := by
  have hS0 := hS
  obtain ⟨s1, s2, s3, s4, s5, s6, s7, s8, s9⟩ := hS
  have s26 := s2.1
  have s41 := s4.1
  have loop : ∀ i, i ≤ nw → am_W kM_latest 6 [.ref 27, .int (nI b), .int x, .int (nI c), .int (lt_v (sp_last (sp_in (M.1 31) (M.1 32) (M.1 33) (mt_f pn (M.1 29) b b x) c) i)), .int (nI i)] [] M Q := by
    refine am_loop nw (fun i hi ih => ?_)
    refine am_iload d39_6 rfl ?_
    refine am_aload_n d39_8 rfl ?_
    refine am_geti d39_9 fl39_58 sh_27 rfl ?_
    rw [s3]
    refine am_icgeN 47 i nw d39_12 (by decide) rfl rfl (by omega) (by omega) (fun h12 => ?_) (fun h12 => ?_)
    · refine am_iload d39_47 rfl ?_
      refine am_iret d39_49 rfl rfl ?_
      obtain rfl : i = nw := by omega
      exact hQ
    · refine am_aload_n d39_15 rfl ?_
      refine am_getr d39_16 fl39_30 sh_27 rfl ?_
      refine am_iload d39_19 rfl ?_
      refine am_ialdN i d39_21 sh_33 (by omega) (by decide) ?_
      refine am_iload_n d39_22 rfl ?_
      refine am_icne 41 d39_23 (by decide) (fun h23 => ?_) (fun h23 => ?_)
      · refine am_incN i d39_41 rfl rfl ?_
        refine am_goto 6 d39_44 (by decide) ?_
        have hz := ih h12
        rw [sp_last_n (f := (sp_in (M.1 31) (M.1 32) (M.1 33) (mt_f pn (M.1 29) b b x) c)) (n := i) (by unfold sp_in; simp [h23])] at hz
        exact hz
      · refine am_aload_n d39_26 rfl ?_
        refine am_iload_n d39_27 rfl ?_
        refine am_iload_n d39_28 rfl ?_
        refine am_iload d39_29 rfl ?_
        refine am_cv3 38 d39_31 ml39_61 rfl (by decide) sh_27 rfl rfl rfl rfl (Nat.le_of_ble_eq_true rfl) ?_
        obtain ⟨⟨j, hj, ej⟩, _⟩ := s4.2 i h12
        refine m_sees hS0 hb (by omega) ej hj (s7 i h12) (fun g1 => ?_) (fun g1 => ?_)
        · show am_W 39 34 _ (.int 1 :: _) _ _
          have hin : (sp_in (M.1 31) (M.1 32) (M.1 33) (mt_f pn (M.1 29) b b x) c) i = true := by unfold sp_in; rw [ej, nI_clamp (by omega)]; simp [g1, h23]
          refine am_ifeq 41 d39_34 (by decide) (fun h => absurd h (by decide)) (fun _ => ?_)
          refine am_iload d39_37 rfl ?_
          refine am_istore d39_39 (Nat.le_of_ble_eq_true rfl) rfl ?_
          refine am_incN i d39_41 rfl rfl ?_
          refine am_goto 6 d39_44 (by decide) ?_
          have hz := ih h12
          rw [sp_last_s hin] at hz
          exact hz
        · show am_W 39 34 _ (.int 0 :: _) _ _
          have hin : ¬ (sp_in (M.1 31) (M.1 32) (M.1 33) (mt_f pn (M.1 29) b b x) c) i = true := by unfold sp_in; rw [ej, nI_clamp (by omega)]; simp [g1]
          refine am_ifeq 41 d39_34 (by decide) (fun _ => ?_) (fun h => absurd h (by decide))
          refine am_incN i d39_41 rfl rfl ?_
          refine am_goto 6 d39_44 (by decide) ?_
          have hz := ih h12
          rw [sp_last_n hin] at hz
          exact hz
  show am_W kM_latest 0 _ [] M Q
  refine am_iconst (-1) d39_0 (by decide) ?_
  refine am_istore d39_1 (Nat.le_of_ble_eq_true rfl) rfl ?_
  refine am_iconst (nI 0) d39_3 (by decide) ?_
  refine am_istore d39_4 (Nat.le_of_ble_eq_true rfl) rfl ?_
  exact loop 0 (Nat.zero_le _)
theorem m_kindOf {M : am_M} {Q : am_T} {r : Option Nat} (hr : ∀ i, r = some i → i < 120) (hQ : Q (.inl (some (.int (sp_get (M.1 34) 0 r)))) M) : am_W kM_kindOf 0 (am_in kM_kindOf [.ref 27, .int (lt_v r)]) [] M Q := by
  show am_W kM_kindOf 0 _ [] M Q
  refine am_iload_n d40_0 rfl ?_
  cases r with
  | none =>
    refine am_ifge 8 d40_1 (by decide) (fun h => absurd h (by decide)) (fun _ => ?_)
    refine am_iconst 0 d40_4 (by decide) ?_
    refine am_goto 14 d40_5 (by decide) ?_
    exact am_iret d40_14 rfl rfl hQ
  | some i =>
    have hi := hr i rfl
    refine am_ifge 8 d40_1 (by decide) (fun _ => ?_) (fun h => absurd (nI_pos' (by omega)) h)
    refine am_aload_n d40_8 rfl ?_
    refine am_getr d40_9 fl40_33 sh_27 rfl ?_
    refine am_iload_n d40_12 rfl ?_
    refine am_ialdN i d40_13 sh_34 hi (by decide) ?_
    exact am_iret d40_14 rfl rfl hQ
theorem m_valueOf {M : am_M} {Q : am_T} {r : Option Nat} (hr : ∀ i, r = some i → i < 120) (hQ : Q (.inl (some (.int (sp_get (M.1 35) 0 r)))) M) : am_W kM_valueOf 0 (am_in kM_valueOf [.ref 27, .int (lt_v r)]) [] M Q := by
  show am_W kM_valueOf 0 _ [] M Q
  refine am_iload_n d41_0 rfl ?_
  cases r with
  | none =>
    refine am_ifge 8 d41_1 (by decide) (fun h => absurd h (by decide)) (fun _ => ?_)
    refine am_iconst 0 d41_4 (by decide) ?_
    refine am_goto 14 d41_5 (by decide) ?_
    exact am_iret d41_14 rfl rfl hQ
  | some i =>
    have hi := hr i rfl
    refine am_ifge 8 d41_1 (by decide) (fun _ => ?_) (fun h => absurd (nI_pos' (by omega)) h)
    refine am_aload_n d41_8 rfl ?_
    refine am_getr d41_9 fl41_36 sh_27 rfl ?_
    refine am_iload_n d41_12 rfl ?_
    refine am_ialdN i d41_13 sh_35 hi (by decide) ?_
    exact am_iret d41_14 rfl rfl hQ
theorem m_alike {M : am_M} {Q : am_T} {r s : Option Nat} (hr : ∀ i, r = some i → i < 120) (hs : ∀ i, s = some i → i < 120) (h1 : sr (M.1 34) (M.1 35) r s = true → Q (.inl (some (.int 1))) M) (h0 : ¬ sr (M.1 34) (M.1 35) r s = true → Q (.inl (some (.int 0))) M) : am_W kM_alike 0 (am_in kM_alike [.ref 27, .int (lt_v r), .int (lt_v s)]) [] M Q := by
  show am_W kM_alike 0 _ [] M Q
  refine am_aload_n d42_0 rfl ?_
  refine am_iload_n d42_1 rfl ?_
  refine am_cv1 40 d42_2 ml42_65 rfl (by decide) sh_27 rfl rfl (Nat.le_of_ble_eq_true rfl) ?_
  refine m_kindOf (r := r) hr ?_
  show am_W 42 5 _ (.int _ :: _) _ _
  refine am_aload_n d42_5 rfl ?_
  refine am_iload_n d42_6 rfl ?_
  refine am_cv1 40 d42_7 ml42_65 rfl (by decide) sh_27 rfl rfl (Nat.le_of_ble_eq_true rfl) ?_
  refine m_kindOf (r := s) hs ?_
  show am_W 42 10 _ (.int _ :: _) _ _
  refine am_icne 30 d42_10 (by decide) (fun h10 => ?_) (fun h10 => ?_)
  · refine am_iconst 0 d42_30 (by decide) ?_
    refine am_iret d42_31 rfl (by decide) ?_
    first | exact h1 (by simp [sr, *]) | exact h0 (by simp [sr, *])
  · refine am_aload_n d42_13 rfl ?_
    refine am_iload_n d42_14 rfl ?_
    refine am_cv1 41 d42_15 ml42_68 rfl (by decide) sh_27 rfl rfl (Nat.le_of_ble_eq_true rfl) ?_
    refine m_valueOf (r := r) hr ?_
    show am_W 42 18 _ (.int _ :: _) _ _
    refine am_aload_n d42_18 rfl ?_
    refine am_iload_n d42_19 rfl ?_
    refine am_cv1 41 d42_20 ml42_68 rfl (by decide) sh_27 rfl rfl (Nat.le_of_ble_eq_true rfl) ?_
    refine m_valueOf (r := s) hs ?_
    show am_W 42 23 _ (.int _ :: _) _ _
    refine am_icne 30 d42_23 (by decide) (fun h23 => ?_) (fun h23 => ?_)
    · refine am_iconst 0 d42_30 (by decide) ?_
      refine am_iret d42_31 rfl (by decide) ?_
      first | exact h1 (by simp [sr, *]) | exact h0 (by simp [sr, *])
    · refine am_iconst 1 d42_26 (by decide) ?_
      refine am_goto 31 d42_27 (by decide) ?_
      refine am_iret d42_31 rfl (by decide) ?_
      first | exact h1 (by simp [sr, *]) | exact h0 (by simp [sr, *])
