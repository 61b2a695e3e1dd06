/-! the model: gives, others, enter, branch, close, write, read, history, differs, state, about, type, erase -/
/-- M' is M but for the model's code, which is v -/
def cd (M M' : am_M) (v : Int32) : Prop := fr [27] M M' ∧ (∀ s, s ≠ 0 → M'.1 27 s = M.1 27 s) ∧ M'.1 27 0 = v
theorem cd_0 (M : am_M) (v : Int32) : cd M (am_set M 27 0 v) v := ⟨fr.rf.set (by simp), fun s h => by rw [am_set_self]; exact pk_un h, by rw [am_set_self]; exact pk_us⟩
theorem cd.tr {M M' : am_M} {u : Int32} (h : cd M M' u) (v : Int32) : cd M (am_set M' 27 0 v) v := ⟨h.1.set (by simp), fun s hs => by rw [am_set_self]; exact (pk_un hs).trans (h.2.1 s hs), by rw [am_set_self]; exact pk_us⟩
theorem moS_cd {M M' : am_M} {v : Int32} {pn : Nat → Nat} {nb nw ck : Nat} (h : moS M pn nb nw ck) (c : cd M M' v) : moS M' pn nb nw ck := by
  unfold moS at h ⊢
  rw [c.2.1 3 (by decide), c.2.1 7 (by decide), c.2.1 1 (by decide), c.1.eq 28 (by decide), c.1.eq 29 (by decide), c.1.eq 31 (by decide), c.1.eq 32 (by decide), c.1.eq 33 (by decide)]
  exact h
theorem mo_row_cd {M M' : am_M} {v : Int32} {pn : Nat → Nat} {nw b : Nat} {x : Int32} {c : Nat} (h : cd M M' v) : mo_row M' pn nw b x c = mo_row M pn nw b x c := by
  unfold mo_row
  rw [h.1.eq 29 (by decide), h.1.eq 31 (by decide), h.1.eq 32 (by decide), h.1.eq 33 (by decide)]
theorem mo_first_cd {M M' : am_M} {v : Int32} {b : Nat} (h : cd M M' v) : mo_first M' b = mo_first M b := by
  unfold mo_first
  rw [h.1.eq 29 (by decide), h.2.1 2 (by decide)]
/-- the moment at which row w is asked for on branch b -/
def mo_at (M : am_M) (b w : Nat) : Int32 := if M.1 32 w ≤ mo_first M b then mo_first M b else M.1 32 w
def mo_gv (M : am_M) (pn : Nat → Nat) (nw b w : Nat) : Bool := decide (M.1 30 b = 0) && !decide (mo_at M b w < mo_first M b) && decide (mo_at M b w ≤ M.1 27 1) && decide (mo_row M pn nw b (mo_at M b w) (M.1 33 w).toNatClampNeg = some w)
theorem mo_gv_cd {M M' : am_M} {v : Int32} {pn : Nat → Nat} {nw b w : Nat} (h : cd M M' v) : mo_gv M' pn nw b w = mo_gv M pn nw b w := by
  have e : mo_at M' b w = mo_at M b w := by unfold mo_at; rw [mo_first_cd h, h.1.eq 32 (by decide)]
  unfold mo_gv
  rw [e, mo_row_cd h, mo_first_cd h, h.1.eq 30 (by decide), h.2.1 1 (by decide), h.1.eq 33 (by decide)]
theorem lt_v_eq {r : Option Nat} {w : Nat} (hr : ∀ i, r = some i → i < 120) (hw : w < 120) : lt_v r = nI w ↔ r = some w := by
  cases r with
  | none =>
    refine ⟨fun h => ?_, fun h => by cases h⟩
    have h1 : nI w < 0 := by rw [← h]; decide
    exact absurd h1 (nI_pos (by omega))
  | some i =>
    have hi := hr i rfl
    refine ⟨fun h => ?_, fun h => by cases h; rfl⟩
    rw [(nI_eq (by omega) (by omega)).mp h]
theorem m_gives {pn : Nat → Nat} {nb nw ck : Nat} {M : am_M} {Q : am_T} (hS : moS M pn nb nw ck) {b w : Nat} (hb : b < nb) (hw : w < nw) (h1 : mo_gv M pn nw b w = true → Q (.inl (some (.int 1))) M) (h0 : ¬ mo_gv M pn nw b w = true → Q (.inl (some (.int 0))) M) : am_W kM_gives 0 (am_in kM_gives [.ref 27, .int (nI b), .int (nI w)]) [] M Q := by
  have hS0 := hS
  obtain ⟨s1, s2, s3, s4, s5, s6, s7, s8, s9⟩ := hS
  have s26 := s2.1
  have s41 := s4.1
  obtain ⟨c, hc48, hc⟩ := (s4.2 w hw).2
  have hcl : (M.1 33 w).toNatClampNeg = c := by rw [hc, nI_clamp (by omega)]
  have gve : mo_gv M pn nw b w = true ↔ (mo_rd M b (mo_at M b w) ∧ mo_row M pn nw b (mo_at M b w) c = some w) := by
    unfold mo_gv mo_rd
    rw [hcl]
    simp [and_assoc]
  have main : ∀ u y, u = mo_at M b w → am_W kM_gives 28 [.ref 27, .int (nI b), .int (nI w), y] [.int u] M Q := by
    intro u y hu
    subst hu
    refine am_istore_n d43_28 (Nat.le_of_ble_eq_true rfl) rfl ?_
    refine am_aload_n d43_29 rfl ?_
    refine am_iload_n d43_30 rfl ?_
    refine am_iload_n d43_31 rfl ?_
    refine am_cv2 37 d43_32 ml43_71 rfl (by decide) sh_27 rfl rfl rfl (Nat.le_of_ble_eq_true rfl) ?_
    refine m_unreadable (by omega) (fun gu => ?_) (fun gu => ?_)
    · show am_W 43 35 _ (.int 1 :: _) _ _
      refine am_ifne 58 d43_35 (by decide) (fun _ => ?_) (fun h => absurd h (by decide))
      refine am_iconst 0 d43_58 (by decide) ?_
      refine am_iret d43_59 rfl (by decide) ?_
      first | exact h0 (fun z => gu (gve.mp z).1) | exact h1 (gve.mpr ⟨gu, (lt_v_eq (w := w) (fun i hi => by have := mo_row_lt hi; omega) (by omega)).mp h51⟩) | exact h0 (fun z => h51 ((lt_v_eq (w := w) (fun i hi => by have := mo_row_lt hi; omega) (by omega)).mpr (gve.mp z).2))
    · show am_W 43 35 _ (.int 0 :: _) _ _
      refine am_ifne 58 d43_35 (by decide) (fun h => absurd h (by decide)) (fun _ => ?_)
      refine am_aload_n d43_38 rfl ?_
      refine am_iload_n d43_39 rfl ?_
      refine am_iload_n d43_40 rfl ?_
      refine am_aload_n d43_41 rfl ?_
      refine am_getr d43_42 fl43_30 sh_27 rfl ?_
      refine am_iload_n d43_45 rfl ?_
      refine am_ialdN w d43_46 sh_33 (by omega) (by decide) ?_
      rw [hc]
      refine am_cv3 39 d43_47 ml43_75 rfl (by decide) sh_27 rfl rfl rfl rfl (Nat.le_of_ble_eq_true rfl) ?_
      refine m_latest hS0 hb ?_
      show am_W 43 50 _ (.int _ :: _) _ _
      refine am_iload_n d43_50 rfl ?_
      refine am_icne 58 d43_51 (by decide) (fun h51 => ?_) (fun h51 => ?_)
      · refine am_iconst 0 d43_58 (by decide) ?_
        refine am_iret d43_59 rfl (by decide) ?_
        first | exact h0 (fun z => gu (gve.mp z).1) | exact h1 (gve.mpr ⟨gu, (lt_v_eq (w := w) (fun i hi => by have := mo_row_lt hi; omega) (by omega)).mp h51⟩) | exact h0 (fun z => h51 ((lt_v_eq (w := w) (fun i hi => by have := mo_row_lt hi; omega) (by omega)).mpr (gve.mp z).2))
      · refine am_iconst 1 d43_54 (by decide) ?_
        refine am_goto 59 d43_55 (by decide) ?_
        refine am_iret d43_59 rfl (by decide) ?_
        first | exact h0 (fun z => gu (gve.mp z).1) | exact h1 (gve.mpr ⟨gu, (lt_v_eq (w := w) (fun i hi => by have := mo_row_lt hi; omega) (by omega)).mp h51⟩) | exact h0 (fun z => h51 ((lt_v_eq (w := w) (fun i hi => by have := mo_row_lt hi; omega) (by omega)).mpr (gve.mp z).2))
  show am_W kM_gives 0 _ [] M Q
  refine am_aload_n d43_0 rfl ?_
  refine am_getr d43_1 fl43_27 sh_27 rfl ?_
  refine am_iload_n d43_4 rfl ?_
  refine am_ialdN w d43_5 sh_32 (by omega) (by decide) ?_
  refine am_aload_n d43_6 rfl ?_
  refine am_iload_n d43_7 rfl ?_
  refine am_cv1 36 d43_8 ml43_51 rfl (by decide) sh_27 rfl rfl (Nat.le_of_ble_eq_true rfl) ?_
  refine m_first (by omega) ?_
  show am_W 43 11 _ (.int _ :: _) _ _
  refine am_icle 23 d43_11 (by decide) (fun h11 => ?_) (fun h11 => ?_)
  · refine am_aload_n d43_23 rfl ?_
    refine am_iload_n d43_24 rfl ?_
    refine am_cv1 36 d43_25 ml43_51 rfl (by decide) sh_27 rfl rfl (Nat.le_of_ble_eq_true rfl) ?_
    refine m_first (by omega) ?_
    show am_W 43 28 _ (.int _ :: _) _ _
    first | exact main _ _ (by unfold mo_at; rw [if_pos h11]) | exact main _ _ (by unfold mo_at; rw [if_neg h11])
  · refine am_aload_n d43_14 rfl ?_
    refine am_getr d43_15 fl43_27 sh_27 rfl ?_
    refine am_iload_n d43_18 rfl ?_
    refine am_ialdN w d43_19 sh_32 (by omega) (by decide) ?_
    refine am_goto 28 d43_20 (by decide) ?_
    first | exact main _ _ (by unfold mo_at; rw [if_pos h11]) | exact main _ _ (by unfold mo_at; rw [if_neg h11])
theorem m_others {pn : Nat → Nat} {nb nw ck : Nat} {M : am_M} {Q : am_T} (hS : moS M pn nb nw ck) {b : Nat} (hb : b < nb) (hQ : Q (.inl (some (.int (nI (sp_cnt (fun k => !decide (k = b) && decide (M.1 30 k = 0)) nb))))) M) : am_W kM_others 0 (am_in kM_others [.ref 27, .int (nI b)]) [] M Q := by
  have hS0 := hS
  obtain ⟨s1, s2, s3, s4, s5, s6, s7, s8, s9⟩ := hS
  have s26 := s2.1
  have s41 := s4.1
  have loop : ∀ i, i ≤ nb → am_W kM_others 4 [.ref 27, .int (nI b), .int (nI (sp_cnt (fun k => !decide (k = b) && decide (M.1 30 k = 0)) i)), .int (nI i)] [] M Q := by
    refine am_loop nb (fun i hi ih => ?_)
    refine am_iload_n d45_4 rfl ?_
    refine am_aload_n d45_5 rfl ?_
    refine am_geti d45_6 fl45_7 sh_27 rfl ?_
    rw [s1]
    refine am_icgeN 40 i nb d45_9 (by decide) rfl rfl (by omega) (by omega) (fun h9 => ?_) (fun h9 => ?_)
    · refine am_iload_n d45_40 rfl ?_
      refine am_iret d45_41 rfl rfl ?_
      obtain rfl : i = nb := by omega
      exact hQ
    · refine am_iload_n d45_12 rfl ?_
      refine am_iload_n d45_13 rfl ?_
      refine am_iceq 32 d45_14 (by decide) (fun h => ?_) (fun h => ?_)
      · have hib : i = b := (nI_eq (by omega) (by omega)).mp h
        refine am_iload_n d45_32 rfl ?_
        refine am_istore_n d45_33 (Nat.le_of_ble_eq_true rfl) rfl ?_
        refine am_incN i d45_34 rfl rfl ?_
        refine am_goto 4 d45_37 (by decide) ?_
        first | (have hz := ih h9; rw [← sp_cnt_f (f := (fun k => !decide (k = b) && decide (M.1 30 k = 0))) (n := i) (by simp [*])] at hz; exact hz) | (have hz := ih h9; rw [← sp_cnt_t (f := (fun k => !decide (k = b) && decide (M.1 30 k = 0))) (n := i) (by simp [*])] at hz; exact hz)
      · have hib : ¬ i = b := fun z => h (by rw [z])
        refine am_aload_n d45_17 rfl ?_
        refine am_getr d45_18 fl45_20 sh_27 rfl ?_
        refine am_iload_n d45_21 rfl ?_
        refine am_zaldN i d45_22 sh_30 (by omega) (by decide) ?_
        refine am_ifne 32 d45_23 (by decide) (fun h23 => ?_) (fun h23 => ?_)
        · refine am_iload_n d45_32 rfl ?_
          refine am_istore_n d45_33 (Nat.le_of_ble_eq_true rfl) rfl ?_
          refine am_incN i d45_34 rfl rfl ?_
          refine am_goto 4 d45_37 (by decide) ?_
          first | (have hz := ih h9; rw [← sp_cnt_f (f := (fun k => !decide (k = b) && decide (M.1 30 k = 0))) (n := i) (by simp [*])] at hz; exact hz) | (have hz := ih h9; rw [← sp_cnt_t (f := (fun k => !decide (k = b) && decide (M.1 30 k = 0))) (n := i) (by simp [*])] at hz; exact hz)
        · refine am_iload_n d45_26 rfl ?_
          refine am_iconst (nI 1) d45_27 (by decide) ?_
          refine am_addN d45_28 ?_
          refine am_goto 33 d45_29 (by decide) ?_
          refine am_istore_n d45_33 (Nat.le_of_ble_eq_true rfl) rfl ?_
          refine am_incN i d45_34 rfl rfl ?_
          refine am_goto 4 d45_37 (by decide) ?_
          first | (have hz := ih h9; rw [← sp_cnt_f (f := (fun k => !decide (k = b) && decide (M.1 30 k = 0))) (n := i) (by simp [*])] at hz; exact hz) | (have hz := ih h9; rw [← sp_cnt_t (f := (fun k => !decide (k = b) && decide (M.1 30 k = 0))) (n := i) (by simp [*])] at hz; exact hz)
  show am_W kM_others 0 _ [] M Q
  refine am_iconst (nI 0) d45_0 (by decide) ?_
  refine am_istore_n d45_1 (Nat.le_of_ble_eq_true rfl) rfl ?_
  refine am_iconst (nI 0) d45_2 (by decide) ?_
  refine am_istore_n d45_3 (Nat.le_of_ble_eq_true rfl) rfl ?_
  exact loop 0 (Nat.zero_le _)
def mo_add (M : am_M) (nw ck : Nat) (b c kd vl : Int32) : am_M := (am_set (am_set (am_set (am_set (am_set (am_set (am_set M 27 1 (nI (ck + 1))) 31 nw b) 32 nw (nI (ck + 1))) 33 nw c) 34 nw kd) 35 nw (if kd = 0 then 0 else vl)) 27 7 (nI (nw + 1)))
theorem m_enter {M : am_M} {Q : am_T} {b c kd vl : Int32} {nw ck : Nat} (s3 : M.1 27 7 = nI nw) (s5 : M.1 27 1 = nI ck) (h120 : nw < 120) (hQ : Q (.inl none) (mo_add M nw ck b c kd vl)) : am_W kM_enter 0 (am_in kM_enter [.ref 27, .int b, .int c, .int kd, .int vl]) [] M Q := by
  show am_W kM_enter 0 _ [] M Q
  refine am_aload_n d47_0 rfl ?_
  refine am_dup d47_1 rfl ?_
  refine am_geti d47_2 fl47_55 sh_27 rfl ?_
  rw [s5]
  refine am_iconst 1 d47_5 (by decide) ?_
  refine am_iadd d47_6 ?_
  rw [nI_1]
  refine am_put d47_7 fl47_55 sh_27 rfl rfl rfl rfl ?_
  refine am_aload_n d47_10 rfl ?_
  refine am_getr d47_11 fl47_24 sh_27 rfl ?_
  refine am_aload_n d47_14 rfl ?_
  refine am_geti d47_15 fl47_58 sh_27 rfl ?_
  show am_W 47 18 _ (.int (M.1 27 7) :: _) _ _
  rw [s3]
  refine am_iload_n d47_18 rfl ?_
  refine am_iastN nw d47_19 sh_31 h120 (by decide) ?_
  refine am_aload_n d47_20 rfl ?_
  refine am_getr d47_21 fl47_27 sh_27 rfl ?_
  refine am_aload_n d47_24 rfl ?_
  refine am_geti d47_25 fl47_58 sh_27 rfl ?_
  show am_W 47 28 _ (.int (M.1 27 7) :: _) _ _
  rw [s3]
  refine am_aload_n d47_28 rfl ?_
  refine am_geti d47_29 fl47_55 sh_27 rfl ?_
  show am_W 47 32 _ (.int (nI (ck + 1)) :: _) _ _
  refine am_iastN nw d47_32 sh_32 h120 (by decide) ?_
  refine am_aload_n d47_33 rfl ?_
  refine am_getr d47_34 fl47_30 sh_27 rfl ?_
  refine am_aload_n d47_37 rfl ?_
  refine am_geti d47_38 fl47_58 sh_27 rfl ?_
  show am_W 47 41 _ (.int (M.1 27 7) :: _) _ _
  rw [s3]
  refine am_iload_n d47_41 rfl ?_
  refine am_iastN nw d47_42 sh_33 h120 (by decide) ?_
  refine am_aload_n d47_43 rfl ?_
  refine am_getr d47_44 fl47_33 sh_27 rfl ?_
  refine am_aload_n d47_47 rfl ?_
  refine am_geti d47_48 fl47_58 sh_27 rfl ?_
  show am_W 47 51 _ (.int (M.1 27 7) :: _) _ _
  rw [s3]
  refine am_iload_n d47_51 rfl ?_
  refine am_iastN nw d47_52 sh_34 h120 (by decide) ?_
  refine am_aload_n d47_53 rfl ?_
  refine am_getr d47_54 fl47_36 sh_27 rfl ?_
  refine am_aload_n d47_57 rfl ?_
  refine am_geti d47_58 fl47_58 sh_27 rfl ?_
  show am_W 47 61 _ (.int (M.1 27 7) :: _) _ _
  rw [s3]
  refine am_iload_n d47_61 rfl ?_
  refine am_ifne 69 d47_62 (by decide) (fun h62 => ?_) (fun h62 => ?_)
  · refine am_iload d47_69 rfl ?_
    refine am_iastN nw d47_71 sh_35 h120 (by decide) ?_
    refine am_aload_n d47_72 rfl ?_
    refine am_dup d47_73 rfl ?_
    refine am_geti d47_74 fl47_58 sh_27 rfl ?_
    show am_W 47 77 _ (.int (M.1 27 7) :: _) _ _
    rw [s3]
    refine am_iconst 1 d47_77 (by decide) ?_
    refine am_iadd d47_78 ?_
    rw [nI_1]
    refine am_put d47_79 fl47_58 sh_27 rfl rfl rfl rfl ?_
    refine am_vret d47_82 rfl ?_
    unfold mo_add at hQ
    first | (rw [if_pos h62] at hQ; exact hQ) | (rw [if_neg h62] at hQ; exact hQ)
  · refine am_iconst 0 d47_65 (by decide) ?_
    refine am_goto 71 d47_66 (by decide) ?_
    refine am_iastN nw d47_71 sh_35 h120 (by decide) ?_
    refine am_aload_n d47_72 rfl ?_
    refine am_dup d47_73 rfl ?_
    refine am_geti d47_74 fl47_58 sh_27 rfl ?_
    show am_W 47 77 _ (.int (M.1 27 7) :: _) _ _
    rw [s3]
    refine am_iconst 1 d47_77 (by decide) ?_
    refine am_iadd d47_78 ?_
    rw [nI_1]
    refine am_put d47_79 fl47_58 sh_27 rfl rfl rfl rfl ?_
    refine am_vret d47_82 rfl ?_
    unfold mo_add at hQ
    first | (rw [if_pos h62] at hQ; exact hQ) | (rw [if_neg h62] at hQ; exact hQ)
theorem q_branch {pn : Nat → Nat} {nb nw ck : Nat} {M : am_M} {Q : am_T} (hS : moS M pn nb nw ck) {a m : Int32} (h1 : ¬ ix a nb → ∀ M', cd M M' 1 → Q (.inl (some (.int 0))) M') (h2 : ∀ b, b < nb → a = nI b → ¬ mo_rd M b m → ∀ M', cd M M' 2 → Q (.inl (some (.int 0))) M') (h3 : ∀ b, b < nb → a = nI b → mo_rd M b m → nb = 6 → ∀ M', cd M M' 3 → Q (.inl (some (.int 0))) M') (h0 : ∀ b, b < nb → a = nI b → mo_rd M b m → nb < 6 → Q (.inl (some (.int (nI nb)))) (am_set (am_set (am_set (am_set (am_set M 27 0 0) 28 nb (nI b)) 29 nb m) 30 nb 0) 27 3 (nI (nb + 1)))) : am_W kM_branch 0 (am_in kM_branch [.ref 27, .int a, .int m]) [] M Q := by
  have hS0 := hS
  obtain ⟨s1, s2, s3, s4, s5, s6, s7, s8, s9⟩ := hS
  have s26 := s2.1
  have s41 := s4.1
  show am_W kM_branch 0 _ [] M Q
  refine am_aload_n d44_0 rfl ?_
  refine am_aload_n d44_1 rfl ?_
  refine am_iload_n d44_2 rfl ?_
  refine am_cv1 34 d44_3 ml44_79 rfl (by decide) sh_27 rfl rfl (Nat.le_of_ble_eq_true rfl) ?_
  refine m_noBranch hS0 (fun g1 => ?_) (fun g1 => ?_)
  · show am_W 44 6 _ (.int 1 :: _) _ _
    refine am_ifeq 13 d44_6 (by decide) (fun h => absurd h (by decide)) (fun _ => ?_)
    refine am_iconst 1 d44_9 (by decide) ?_
    refine am_goto 40 d44_10 (by decide) ?_
    refine am_put d44_40 fl44_45 sh_27 rfl rfl rfl rfl ?_
    refine am_aload_n d44_43 rfl ?_
    refine am_geti d44_44 fl44_45 sh_27 rfl ?_
    show am_W 44 47 _ (.int 1 :: _) _ _
    refine am_ifle 52 d44_47 (by decide) (fun h => absurd h (by decide)) (fun _ => ?_)
    refine am_iconst 0 d44_50 (by decide) ?_
    refine am_iret d44_51 rfl rfl ?_
    first | exact h0 b hb rfl gu hlt | exact h3 b hb rfl gu h6 _ (cd_0 M _) | exact h2 b hb rfl gu _ (cd_0 M _) | exact h1 g1 _ (cd_0 M _)
  · show am_W 44 6 _ (.int 0 :: _) _ _
    obtain ⟨b, hb, rfl⟩ := g1
    refine am_ifeq 13 d44_6 (by decide) (fun _ => ?_) (fun h => absurd h (by decide))
    refine am_aload_n d44_13 rfl ?_
    refine am_iload_n d44_14 rfl ?_
    refine am_iload_n d44_15 rfl ?_
    refine am_cv2 37 d44_16 ml44_71 rfl (by decide) sh_27 rfl rfl rfl (Nat.le_of_ble_eq_true rfl) ?_
    refine m_unreadable (b := b) (by omega) (fun gu => ?_) (fun gu => ?_)
    · show am_W 44 19 _ (.int 1 :: _) _ _
      refine am_ifeq 26 d44_19 (by decide) (fun h => absurd h (by decide)) (fun _ => ?_)
      refine am_iconst 2 d44_22 (by decide) ?_
      refine am_goto 40 d44_23 (by decide) ?_
      refine am_put d44_40 fl44_45 sh_27 rfl rfl rfl rfl ?_
      refine am_aload_n d44_43 rfl ?_
      refine am_geti d44_44 fl44_45 sh_27 rfl ?_
      show am_W 44 47 _ (.int 2 :: _) _ _
      refine am_ifle 52 d44_47 (by decide) (fun h => absurd h (by decide)) (fun _ => ?_)
      refine am_iconst 0 d44_50 (by decide) ?_
      refine am_iret d44_51 rfl rfl ?_
      first | exact h0 b hb rfl gu hlt | exact h3 b hb rfl gu h6 _ (cd_0 M _) | exact h2 b hb rfl gu _ (cd_0 M _) | exact h1 g1 _ (cd_0 M _)
    · show am_W 44 19 _ (.int 0 :: _) _ _
      refine am_ifeq 26 d44_19 (by decide) (fun _ => ?_) (fun h => absurd h (by decide))
      refine am_aload_n d44_26 rfl ?_
      refine am_geti d44_27 fl44_7 sh_27 rfl ?_
      refine am_bipush (nI 6) d44_30 (by decide) ?_
      refine am_icne 39 d44_32 (by decide) (fun h20 => ?_) (fun h20 => ?_)
      · have hlt : nb < 6 := by
          rcases Nat.lt_or_ge nb 6 with h | h
          · exact h
          · exact absurd (by rw [s1, show nb = 6 by omega]) h20
        refine am_iconst 0 d44_39 (by decide) ?_
        refine am_put d44_40 fl44_45 sh_27 rfl rfl rfl rfl ?_
        refine am_aload_n d44_43 rfl ?_
        refine am_geti d44_44 fl44_45 sh_27 rfl ?_
        show am_W 44 47 _ (.int 0 :: _) _ _
        refine am_ifle 52 d44_47 (by decide) (fun _ => ?_) (fun h => absurd h (by decide))
        refine am_aload_n d44_52 rfl ?_
        refine am_getr d44_53 fl44_13 sh_27 rfl ?_
        refine am_aload_n d44_56 rfl ?_
        refine am_geti d44_57 fl44_7 sh_27 rfl ?_
        show am_W 44 60 _ (.int (M.1 27 3) :: _) _ _
        rw [s1]
        refine am_iload_n d44_60 rfl ?_
        refine am_iastN nb d44_61 sh_28 hlt (by decide) ?_
        refine am_aload_n d44_62 rfl ?_
        refine am_getr d44_63 fl44_17 sh_27 rfl ?_
        refine am_aload_n d44_66 rfl ?_
        refine am_geti d44_67 fl44_7 sh_27 rfl ?_
        show am_W 44 70 _ (.int (M.1 27 3) :: _) _ _
        rw [s1]
        refine am_iload_n d44_70 rfl ?_
        refine am_iastN nb d44_71 sh_29 hlt (by decide) ?_
        refine am_aload_n d44_72 rfl ?_
        refine am_getr d44_73 fl44_20 sh_27 rfl ?_
        refine am_aload_n d44_76 rfl ?_
        refine am_geti d44_77 fl44_7 sh_27 rfl ?_
        show am_W 44 80 _ (.int (M.1 27 3) :: _) _ _
        rw [s1]
        refine am_iconst 0 d44_80 (by decide) ?_
        refine am_zastN nb 0 d44_81 sh_30 hlt (by decide) (by decide) ?_
        refine am_aload_n d44_82 rfl ?_
        refine am_dup d44_83 rfl ?_
        refine am_geti d44_84 fl44_7 sh_27 rfl ?_
        show am_W 44 87 _ (.int (M.1 27 3) :: _) _ _
        rw [s1]
        refine am_iconst 1 d44_87 (by decide) ?_
        refine am_iadd d44_88 ?_
        rw [nI_1]
        refine am_put d44_89 fl44_7 sh_27 rfl rfl rfl rfl ?_
        refine am_aload_n d44_92 rfl ?_
        refine am_geti d44_93 fl44_7 sh_27 rfl ?_
        show am_W 44 96 _ (.int (nI (nb + 1)) :: _) _ _
        refine am_iconst 1 d44_96 (by decide) ?_
        refine am_isub d44_97 ?_
        rw [nI_pred]
        refine am_iret d44_98 rfl rfl ?_
        first | exact h0 b hb rfl gu hlt | exact h3 b hb rfl gu h6 _ (cd_0 M _) | exact h2 b hb rfl gu _ (cd_0 M _) | exact h1 g1 _ (cd_0 M _)
      · have h6 : nb = 6 := (nI_eq (by omega) (by decide)).mp (s1.symm.trans h20)
        refine am_iconst 3 d44_35 (by decide) ?_
        refine am_goto 40 d44_36 (by decide) ?_
        refine am_put d44_40 fl44_45 sh_27 rfl rfl rfl rfl ?_
        refine am_aload_n d44_43 rfl ?_
        refine am_geti d44_44 fl44_45 sh_27 rfl ?_
        show am_W 44 47 _ (.int 3 :: _) _ _
        refine am_ifle 52 d44_47 (by decide) (fun h => absurd h (by decide)) (fun _ => ?_)
        refine am_iconst 0 d44_50 (by decide) ?_
        refine am_iret d44_51 rfl rfl ?_
        first | exact h0 b hb rfl gu hlt | exact h3 b hb rfl gu h6 _ (cd_0 M _) | exact h2 b hb rfl gu _ (cd_0 M _) | exact h1 g1 _ (cd_0 M _)
theorem q_close {pn : Nat → Nat} {nb nw ck : Nat} {M : am_M} {Q : am_T} (hS : moS M pn nb nw ck) {a : Int32} (h1 : ¬ ix a nb → ∀ M', cd M M' 1 → Q (.inl none) M') (h2 : ∀ b, b < nb → a = nI b → (¬ M.1 30 b = 0 ∨ (sp_cnt (fun k => !decide (k = b) && decide (M.1 30 k = 0)) nb) = 0) → ∀ M', cd M M' 2 → Q (.inl none) M') (h0 : ∀ b, b < nb → a = nI b → M.1 30 b = 0 → ¬ (sp_cnt (fun k => !decide (k = b) && decide (M.1 30 k = 0)) nb) = 0 → Q (.inl none) (am_set (am_set M 27 0 0) 30 b 1)) : am_W kM_close 0 (am_in kM_close [.ref 27, .int a]) [] M Q := by
  have hS0 := hS
  obtain ⟨s1, s2, s3, s4, s5, s6, s7, s8, s9⟩ := hS
  have s26 := s2.1
  have s41 := s4.1
  show am_W kM_close 0 _ [] M Q
  refine am_aload_n d46_0 rfl ?_
  refine am_aload_n d46_1 rfl ?_
  refine am_iload_n d46_2 rfl ?_
  refine am_cv1 34 d46_3 ml46_79 rfl (by decide) sh_27 rfl rfl (Nat.le_of_ble_eq_true rfl) ?_
  refine m_noBranch hS0 (fun g1 => ?_) (fun g1 => ?_)
  · show am_W 46 6 _ (.int 1 :: _) _ _
    refine am_ifeq 13 d46_6 (by decide) (fun h => absurd h (by decide)) (fun _ => ?_)
    refine am_iconst 1 d46_9 (by decide) ?_
    refine am_goto 35 d46_10 (by decide) ?_
    refine am_put d46_35 fl46_45 sh_27 rfl rfl rfl rfl ?_
    refine am_aload_n d46_38 rfl ?_
    refine am_geti d46_39 fl46_45 sh_27 rfl ?_
    show am_W 46 42 _ (.int 1 :: _) _ _
    refine am_ifne 52 d46_42 (by decide) (fun _ => ?_) (fun h => absurd h (by decide))
    refine am_vret d46_52 rfl ?_
    first | exact h0 b hb rfl h19 ho | exact h2 b hb rfl (Or.inr ho) _ (cd_0 M _) | exact h2 b hb rfl (Or.inl h19) _ (cd_0 M _) | exact h1 g1 _ (cd_0 M _)
  · show am_W 46 6 _ (.int 0 :: _) _ _
    obtain ⟨b, hb, rfl⟩ := g1
    refine am_ifeq 13 d46_6 (by decide) (fun _ => ?_) (fun h => absurd h (by decide))
    refine am_aload_n d46_13 rfl ?_
    refine am_getr d46_14 fl46_20 sh_27 rfl ?_
    refine am_iload_n d46_17 rfl ?_
    refine am_zaldN b d46_18 sh_30 (by omega) (by decide) ?_
    refine am_ifne 30 d46_19 (by decide) (fun h19 => ?_) (fun h19 => ?_)
    · refine am_iconst 2 d46_30 (by decide) ?_
      refine am_goto 35 d46_31 (by decide) ?_
      refine am_put d46_35 fl46_45 sh_27 rfl rfl rfl rfl ?_
      refine am_aload_n d46_38 rfl ?_
      refine am_geti d46_39 fl46_45 sh_27 rfl ?_
      show am_W 46 42 _ (.int 2 :: _) _ _
      refine am_ifne 52 d46_42 (by decide) (fun _ => ?_) (fun h => absurd h (by decide))
      refine am_vret d46_52 rfl ?_
      first | exact h0 b hb rfl h19 ho | exact h2 b hb rfl (Or.inr ho) _ (cd_0 M _) | exact h2 b hb rfl (Or.inl h19) _ (cd_0 M _) | exact h1 g1 _ (cd_0 M _)
    · refine am_aload_n d46_22 rfl ?_
      refine am_iload_n d46_23 rfl ?_
      refine am_cv1 45 d46_24 ml46_83 rfl (by decide) sh_27 rfl rfl (Nat.le_of_ble_eq_true rfl) ?_
      refine m_others hS0 hb ?_
      show am_W 46 27 _ (.int _ :: _) _ _
      have lo := sp_cnt_le (fun k => !decide (k = b) && decide (M.1 30 k = 0)) nb
      refine am_ifne 34 d46_27 (by decide) (fun h => ?_) (fun h => ?_)
      · have ho : ¬ sp_cnt (fun k => !decide (k = b) && decide (M.1 30 k = 0)) nb = 0 := fun z => h (by rw [z]; rfl)
        refine am_iconst 0 d46_34 (by decide) ?_
        refine am_put d46_35 fl46_45 sh_27 rfl rfl rfl rfl ?_
        refine am_aload_n d46_38 rfl ?_
        refine am_geti d46_39 fl46_45 sh_27 rfl ?_
        show am_W 46 42 _ (.int 0 :: _) _ _
        refine am_ifne 52 d46_42 (by decide) (fun h => absurd h (by decide)) (fun _ => ?_)
        refine am_aload_n d46_45 rfl ?_
        refine am_getr d46_46 fl46_20 sh_27 rfl ?_
        refine am_iload_n d46_49 rfl ?_
        refine am_iconst 1 d46_50 (by decide) ?_
        refine am_zastN b 1 d46_51 sh_30 (by omega) (by decide) (by decide) ?_
        refine am_vret d46_52 rfl ?_
        first | exact h0 b hb rfl h19 ho | exact h2 b hb rfl (Or.inr ho) _ (cd_0 M _) | exact h2 b hb rfl (Or.inl h19) _ (cd_0 M _) | exact h1 g1 _ (cd_0 M _)
      · have ho : sp_cnt (fun k => !decide (k = b) && decide (M.1 30 k = 0)) nb = 0 := (nI_eq (by omega) (by decide)).mp h
        refine am_iconst 2 d46_30 (by decide) ?_
        refine am_goto 35 d46_31 (by decide) ?_
        refine am_put d46_35 fl46_45 sh_27 rfl rfl rfl rfl ?_
        refine am_aload_n d46_38 rfl ?_
        refine am_geti d46_39 fl46_45 sh_27 rfl ?_
        show am_W 46 42 _ (.int 2 :: _) _ _
        refine am_ifne 52 d46_42 (by decide) (fun _ => ?_) (fun h => absurd h (by decide))
        refine am_vret d46_52 rfl ?_
        first | exact h0 b hb rfl h19 ho | exact h2 b hb rfl (Or.inr ho) _ (cd_0 M _) | exact h2 b hb rfl (Or.inl h19) _ (cd_0 M _) | exact h1 g1 _ (cd_0 M _)
theorem va_bad {x y : Int32} (h : x < 0 ∨ nI 2 < x ∨ (x = 2 ∧ (y < 0 ∨ nI 11 < y))) : ¬ (x = 0 ∨ x = 1 ∨ (x = 2 ∧ ix y 12)) := by
  rintro (rfl | rfl | ⟨rfl, h2⟩)
  · rcases h with h | h | ⟨h, _⟩
    · exact absurd h (by decide)
    · exact absurd h (by decide)
    · exact absurd h (by decide)
  · rcases h with h | h | ⟨h, _⟩
    · exact absurd h (by decide)
    · exact absurd h (by decide)
    · exact absurd h (by decide)
  · rcases h with h | h | ⟨_, h | h⟩
    · exact absurd h (by decide)
    · exact absurd h (by decide)
    · exact ix_neg (by decide) h h2
    · exact ix_nle (n := 11) (by decide) (Int32.not_le.mpr h) h2
theorem va_good {x y : Int32} (h1 : ¬ x < 0) (h2 : ¬ nI 2 < x) (h3 : x = 2 → ix y 12) : (x = 0 ∨ x = 1 ∨ (x = 2 ∧ ix y 12)) := by
  obtain ⟨j, hj, e⟩ := ix_le (n := 2) (by decide) h1 (Int32.not_lt.mp h2)
  have : j = 0 ∨ j = 1 ∨ j = 2 := by omega
  rcases this with rfl | rfl | rfl
  · exact Or.inl e
  · exact Or.inr (Or.inl e)
  · exact Or.inr (Or.inr ⟨e, h3 e⟩)
theorem q_write {pn : Nat → Nat} {nb nw ck : Nat} {M : am_M} {Q : am_T} (hS : moS M pn nb nw ck) {a u w x y : Int32} (h1 : ¬ (ix a nb ∧ ix u 12 ∧ ix w 4) → ∀ M', cd M M' 1 → Q (.inl (some (.int 0))) M') (h2 : ∀ b o f, b < nb → a = nI b → o < 12 → u = nI o → f < 4 → w = nI f → ¬ (x = 0 ∨ x = 1 ∨ (x = 2 ∧ ix y 12)) → ∀ M', cd M M' 2 → Q (.inl (some (.int 0))) M') (h3 : ∀ b o f, b < nb → a = nI b → o < 12 → u = nI o → f < 4 → w = nI f → (x = 0 ∨ x = 1 ∨ (x = 2 ∧ ix y 12)) → ¬ M.1 30 b = 0 → ∀ M', cd M M' 3 → Q (.inl (some (.int 0))) M') (h4 : ∀ b o f, b < nb → a = nI b → o < 12 → u = nI o → f < 4 → w = nI f → (x = 0 ∨ x = 1 ∨ (x = 2 ∧ ix y 12)) → M.1 30 b = 0 → nw = 120 → ∀ M', cd M M' 4 → Q (.inl (some (.int 0))) M') (h0 : ∀ b o f, b < nb → a = nI b → o < 12 → u = nI o → f < 4 → w = nI f → (x = 0 ∨ x = 1 ∨ (x = 2 ∧ ix y 12)) → M.1 30 b = 0 → nw < 120 → Q (.inl (some (.int (nI (ck + 1))))) (mo_add (am_set M 27 0 0) nw ck (nI b) (nI (4 * o + f)) x y)) : am_W kM_write 0 (am_in kM_write [.ref 27, .int a, .int u, .int w, .int x, .int y]) [] M Q := by
  have hS0 := hS
  obtain ⟨s1, s2, s3, s4, s5, s6, s7, s8, s9⟩ := hS
  have s26 := s2.1
  have s41 := s4.1
  have bad1 : ¬ (x = 0 ∨ x = 1 ∨ (x = 2 ∧ ix y 12)) → am_W kM_write 34 [.ref 27, .int a, .int u, .int w, .int x, .int y, .null] [.int 1] M Q := by
    intro hv
    refine am_istore d48_34 (Nat.le_of_ble_eq_true rfl) rfl ?_
    refine am_aload_n d48_36 rfl ?_
    refine am_aload_n d48_37 rfl ?_
    refine am_iload_n d48_38 rfl ?_
    refine am_cv1 34 d48_39 ml48_79 rfl (by decide) sh_27 rfl rfl (Nat.le_of_ble_eq_true rfl) ?_
    refine m_noBranch hS0 (fun g1 => ?_) (fun g1 => ?_)
    · show am_W 48 42 _ (.int 1 :: _) _ _
      refine am_ifne 53 d48_42 (by decide) (fun _ => ?_) (fun h => absurd h (by decide))
      refine am_iconst 1 d48_53 (by decide) ?_
      refine am_goto 93 d48_54 (by decide) ?_
      refine am_put d48_93 fl48_45 sh_27 rfl rfl rfl rfl ?_
      refine am_aload_n d48_96 rfl ?_
      refine am_geti d48_97 fl48_45 sh_27 rfl ?_
      show am_W 48 100 _ (.int 1 :: _) _ _
      refine am_ifle 105 d48_100 (by decide) (fun h => absurd h (by decide)) (fun _ => ?_)
      refine am_iconst 0 d48_103 (by decide) ?_
      refine am_iret d48_104 rfl rfl ?_
      first | exact h0 b o f hb rfl ho rfl hf rfl hv h72 hlt | exact h4 b o f hb rfl ho rfl hf rfl hv h72 h120 _ (cd_0 M _) | exact h3 b o f hb rfl ho rfl hf rfl hv h72 _ (cd_0 M _) | exact h2 b o f hb rfl ho rfl hf rfl hv _ (cd_0 M _) | exact h1 (fun z => gp z.2) _ (cd_0 M _) | exact h1 (fun z => g1 z.1) _ (cd_0 M _)
    · show am_W 48 42 _ (.int 0 :: _) _ _
      obtain ⟨b, hb, rfl⟩ := g1
      refine am_ifne 53 d48_42 (by decide) (fun h => absurd h (by decide)) (fun _ => ?_)
      refine am_iload_n d48_45 rfl ?_
      refine am_iload_n d48_46 rfl ?_
      refine am_cs2 35 d48_47 ml48_86 rfl (by decide) rfl rfl rfl (Nat.le_of_ble_eq_true rfl) ?_
      refine m_noPlace (fun gp => ?_) (fun gp => ?_)
      · show am_W 48 50 _ (.int 1 :: _) _ _
        refine am_ifeq 57 d48_50 (by decide) (fun h => absurd h (by decide)) (fun _ => ?_)
        refine am_iconst 1 d48_53 (by decide) ?_
        refine am_goto 93 d48_54 (by decide) ?_
        refine am_put d48_93 fl48_45 sh_27 rfl rfl rfl rfl ?_
        refine am_aload_n d48_96 rfl ?_
        refine am_geti d48_97 fl48_45 sh_27 rfl ?_
        show am_W 48 100 _ (.int 1 :: _) _ _
        refine am_ifle 105 d48_100 (by decide) (fun h => absurd h (by decide)) (fun _ => ?_)
        refine am_iconst 0 d48_103 (by decide) ?_
        refine am_iret d48_104 rfl rfl ?_
        first | exact h0 b o f hb rfl ho rfl hf rfl hv h72 hlt | exact h4 b o f hb rfl ho rfl hf rfl hv h72 h120 _ (cd_0 M _) | exact h3 b o f hb rfl ho rfl hf rfl hv h72 _ (cd_0 M _) | exact h2 b o f hb rfl ho rfl hf rfl hv _ (cd_0 M _) | exact h1 (fun z => gp z.2) _ (cd_0 M _) | exact h1 (fun z => g1 z.1) _ (cd_0 M _)
      · show am_W 48 50 _ (.int 0 :: _) _ _
        obtain ⟨⟨o, ho, rfl⟩, ⟨f, hf, rfl⟩⟩ := gp
        refine am_ifeq 57 d48_50 (by decide) (fun _ => ?_) (fun h => absurd h (by decide))
        refine am_iload d48_57 rfl ?_
        refine am_ifeq 66 d48_59 (by decide) (fun h => absurd h (by decide)) (fun _ => ?_)
        refine am_iconst 2 d48_62 (by decide) ?_
        refine am_goto 93 d48_63 (by decide) ?_
        refine am_put d48_93 fl48_45 sh_27 rfl rfl rfl rfl ?_
        refine am_aload_n d48_96 rfl ?_
        refine am_geti d48_97 fl48_45 sh_27 rfl ?_
        show am_W 48 100 _ (.int 2 :: _) _ _
        refine am_ifle 105 d48_100 (by decide) (fun h => absurd h (by decide)) (fun _ => ?_)
        refine am_iconst 0 d48_103 (by decide) ?_
        refine am_iret d48_104 rfl rfl ?_
        first | exact h0 b o f hb rfl ho rfl hf rfl hv h72 hlt | exact h4 b o f hb rfl ho rfl hf rfl hv h72 h120 _ (cd_0 M _) | exact h3 b o f hb rfl ho rfl hf rfl hv h72 _ (cd_0 M _) | exact h2 b o f hb rfl ho rfl hf rfl hv _ (cd_0 M _) | exact h1 (fun z => gp z.2) _ (cd_0 M _) | exact h1 (fun z => g1 z.1) _ (cd_0 M _)
  have good0 : (x = 0 ∨ x = 1 ∨ (x = 2 ∧ ix y 12)) → am_W kM_write 34 [.ref 27, .int a, .int u, .int w, .int x, .int y, .null] [.int 0] M Q := by
    intro hv
    refine am_istore d48_34 (Nat.le_of_ble_eq_true rfl) rfl ?_
    refine am_aload_n d48_36 rfl ?_
    refine am_aload_n d48_37 rfl ?_
    refine am_iload_n d48_38 rfl ?_
    refine am_cv1 34 d48_39 ml48_79 rfl (by decide) sh_27 rfl rfl (Nat.le_of_ble_eq_true rfl) ?_
    refine m_noBranch hS0 (fun g1 => ?_) (fun g1 => ?_)
    · show am_W 48 42 _ (.int 1 :: _) _ _
      refine am_ifne 53 d48_42 (by decide) (fun _ => ?_) (fun h => absurd h (by decide))
      refine am_iconst 1 d48_53 (by decide) ?_
      refine am_goto 93 d48_54 (by decide) ?_
      refine am_put d48_93 fl48_45 sh_27 rfl rfl rfl rfl ?_
      refine am_aload_n d48_96 rfl ?_
      refine am_geti d48_97 fl48_45 sh_27 rfl ?_
      show am_W 48 100 _ (.int 1 :: _) _ _
      refine am_ifle 105 d48_100 (by decide) (fun h => absurd h (by decide)) (fun _ => ?_)
      refine am_iconst 0 d48_103 (by decide) ?_
      refine am_iret d48_104 rfl rfl ?_
      first | exact h0 b o f hb rfl ho rfl hf rfl hv h72 hlt | exact h4 b o f hb rfl ho rfl hf rfl hv h72 h120 _ (cd_0 M _) | exact h3 b o f hb rfl ho rfl hf rfl hv h72 _ (cd_0 M _) | exact h2 b o f hb rfl ho rfl hf rfl hv _ (cd_0 M _) | exact h1 (fun z => gp z.2) _ (cd_0 M _) | exact h1 (fun z => g1 z.1) _ (cd_0 M _)
    · show am_W 48 42 _ (.int 0 :: _) _ _
      obtain ⟨b, hb, rfl⟩ := g1
      refine am_ifne 53 d48_42 (by decide) (fun h => absurd h (by decide)) (fun _ => ?_)
      refine am_iload_n d48_45 rfl ?_
      refine am_iload_n d48_46 rfl ?_
      refine am_cs2 35 d48_47 ml48_86 rfl (by decide) rfl rfl rfl (Nat.le_of_ble_eq_true rfl) ?_
      refine m_noPlace (fun gp => ?_) (fun gp => ?_)
      · show am_W 48 50 _ (.int 1 :: _) _ _
        refine am_ifeq 57 d48_50 (by decide) (fun h => absurd h (by decide)) (fun _ => ?_)
        refine am_iconst 1 d48_53 (by decide) ?_
        refine am_goto 93 d48_54 (by decide) ?_
        refine am_put d48_93 fl48_45 sh_27 rfl rfl rfl rfl ?_
        refine am_aload_n d48_96 rfl ?_
        refine am_geti d48_97 fl48_45 sh_27 rfl ?_
        show am_W 48 100 _ (.int 1 :: _) _ _
        refine am_ifle 105 d48_100 (by decide) (fun h => absurd h (by decide)) (fun _ => ?_)
        refine am_iconst 0 d48_103 (by decide) ?_
        refine am_iret d48_104 rfl rfl ?_
        first | exact h0 b o f hb rfl ho rfl hf rfl hv h72 hlt | exact h4 b o f hb rfl ho rfl hf rfl hv h72 h120 _ (cd_0 M _) | exact h3 b o f hb rfl ho rfl hf rfl hv h72 _ (cd_0 M _) | exact h2 b o f hb rfl ho rfl hf rfl hv _ (cd_0 M _) | exact h1 (fun z => gp z.2) _ (cd_0 M _) | exact h1 (fun z => g1 z.1) _ (cd_0 M _)
      · show am_W 48 50 _ (.int 0 :: _) _ _
        obtain ⟨⟨o, ho, rfl⟩, ⟨f, hf, rfl⟩⟩ := gp
        refine am_ifeq 57 d48_50 (by decide) (fun _ => ?_) (fun h => absurd h (by decide))
        refine am_iload d48_57 rfl ?_
        refine am_ifeq 66 d48_59 (by decide) (fun _ => ?_) (fun h => absurd h (by decide))
        refine am_aload_n d48_66 rfl ?_
        refine am_getr d48_67 fl48_20 sh_27 rfl ?_
        refine am_iload_n d48_70 rfl ?_
        refine am_zaldN b d48_71 sh_30 (by omega) (by decide) ?_
        refine am_ifeq 79 d48_72 (by decide) (fun h72 => ?_) (fun h72 => ?_)
        · refine am_aload_n d48_79 rfl ?_
          refine am_geti d48_80 fl48_58 sh_27 rfl ?_
          refine am_bipush (nI 120) d48_83 (by decide) ?_
          rw [s3]
          refine am_icne 92 d48_85 (by decide) (fun h => ?_) (fun h => ?_)
          · have hlt : nw < 120 := by
              rcases Nat.lt_or_ge nw 120 with z | z
              · exact z
              · exact absurd (by rw [show nw = 120 by omega]) h
            refine am_iconst 0 d48_92 (by decide) ?_
            refine am_put d48_93 fl48_45 sh_27 rfl rfl rfl rfl ?_
            refine am_aload_n d48_96 rfl ?_
            refine am_geti d48_97 fl48_45 sh_27 rfl ?_
            show am_W 48 100 _ (.int 0 :: _) _ _
            refine am_ifle 105 d48_100 (by decide) (fun _ => ?_) (fun h => absurd h (by decide))
            refine am_aload_n d48_105 rfl ?_
            refine am_iload_n d48_106 rfl ?_
            refine am_iconst (nI 4) d48_107 (by decide) ?_
            refine am_iload_n d48_108 rfl ?_
            refine am_mulN d48_109 ?_
            refine am_iload_n d48_110 rfl ?_
            refine am_addN d48_111 ?_
            refine am_iload d48_112 rfl ?_
            refine am_iload d48_114 rfl ?_
            refine am_cv4 47 d48_116 ml48_89 rfl (by decide) sh_27 rfl rfl rfl rfl rfl (Nat.le_of_ble_eq_true rfl) ?_
            refine m_enter (nw := nw) (ck := ck) s3 s5 hlt ?_
            show am_W 48 119 _ _ _ _
            refine am_aload_n d48_119 rfl ?_
            refine am_geti d48_120 fl48_55 sh_27 rfl ?_
            show am_W 48 123 _ (.int (nI (ck + 1)) :: _) _ _
            refine am_iret d48_123 rfl rfl ?_
            first | exact h0 b o f hb rfl ho rfl hf rfl hv h72 hlt | exact h4 b o f hb rfl ho rfl hf rfl hv h72 h120 _ (cd_0 M _) | exact h3 b o f hb rfl ho rfl hf rfl hv h72 _ (cd_0 M _) | exact h2 b o f hb rfl ho rfl hf rfl hv _ (cd_0 M _) | exact h1 (fun z => gp z.2) _ (cd_0 M _) | exact h1 (fun z => g1 z.1) _ (cd_0 M _)
          · have h120 : nw = 120 := (nI_eq (by omega) (by decide)).mp h
            refine am_iconst 4 d48_88 (by decide) ?_
            refine am_goto 93 d48_89 (by decide) ?_
            refine am_put d48_93 fl48_45 sh_27 rfl rfl rfl rfl ?_
            refine am_aload_n d48_96 rfl ?_
            refine am_geti d48_97 fl48_45 sh_27 rfl ?_
            show am_W 48 100 _ (.int 4 :: _) _ _
            refine am_ifle 105 d48_100 (by decide) (fun h => absurd h (by decide)) (fun _ => ?_)
            refine am_iconst 0 d48_103 (by decide) ?_
            refine am_iret d48_104 rfl rfl ?_
            first | exact h0 b o f hb rfl ho rfl hf rfl hv h72 hlt | exact h4 b o f hb rfl ho rfl hf rfl hv h72 h120 _ (cd_0 M _) | exact h3 b o f hb rfl ho rfl hf rfl hv h72 _ (cd_0 M _) | exact h2 b o f hb rfl ho rfl hf rfl hv _ (cd_0 M _) | exact h1 (fun z => gp z.2) _ (cd_0 M _) | exact h1 (fun z => g1 z.1) _ (cd_0 M _)
        · refine am_iconst 3 d48_75 (by decide) ?_
          refine am_goto 93 d48_76 (by decide) ?_
          refine am_put d48_93 fl48_45 sh_27 rfl rfl rfl rfl ?_
          refine am_aload_n d48_96 rfl ?_
          refine am_geti d48_97 fl48_45 sh_27 rfl ?_
          show am_W 48 100 _ (.int 3 :: _) _ _
          refine am_ifle 105 d48_100 (by decide) (fun h => absurd h (by decide)) (fun _ => ?_)
          refine am_iconst 0 d48_103 (by decide) ?_
          refine am_iret d48_104 rfl rfl ?_
          first | exact h0 b o f hb rfl ho rfl hf rfl hv h72 hlt | exact h4 b o f hb rfl ho rfl hf rfl hv h72 h120 _ (cd_0 M _) | exact h3 b o f hb rfl ho rfl hf rfl hv h72 _ (cd_0 M _) | exact h2 b o f hb rfl ho rfl hf rfl hv _ (cd_0 M _) | exact h1 (fun z => gp z.2) _ (cd_0 M _) | exact h1 (fun z => g1 z.1) _ (cd_0 M _)
  show am_W kM_write 0 _ [] M Q
  refine am_iload d48_0 rfl ?_
  refine am_iflt 29 d48_2 (by decide) (fun h2' => ?_) (fun h2' => ?_)
  · refine am_iconst 1 d48_29 (by decide) ?_
    refine am_goto 34 d48_30 (by decide) ?_
    first | exact bad1 (va_bad (Or.inl h2')) | exact bad1 (va_bad (Or.inr (Or.inl h8))) | exact bad1 (va_bad (Or.inr (Or.inr ⟨h14, Or.inl h19⟩))) | exact bad1 (va_bad (Or.inr (Or.inr ⟨h14, Or.inr (Int32.not_le.mp h26)⟩))) | exact good0 (va_good h2' h8 (fun z => absurd z h14)) | exact good0 (va_good h2' h8 (fun _ => ix_le (n := 11) (by decide) h19 h26))
  · refine am_iload d48_5 rfl ?_
    refine am_iconst (nI 2) d48_7 (by decide) ?_
    refine am_icgt 29 d48_8 (by decide) (fun h8 => ?_) (fun h8 => ?_)
    · refine am_iconst 1 d48_29 (by decide) ?_
      refine am_goto 34 d48_30 (by decide) ?_
      first | exact bad1 (va_bad (Or.inl h2')) | exact bad1 (va_bad (Or.inr (Or.inl h8))) | exact bad1 (va_bad (Or.inr (Or.inr ⟨h14, Or.inl h19⟩))) | exact bad1 (va_bad (Or.inr (Or.inr ⟨h14, Or.inr (Int32.not_le.mp h26)⟩))) | exact good0 (va_good h2' h8 (fun z => absurd z h14)) | exact good0 (va_good h2' h8 (fun _ => ix_le (n := 11) (by decide) h19 h26))
    · refine am_iload d48_11 rfl ?_
      refine am_iconst 2 d48_13 (by decide) ?_
      refine am_icne 33 d48_14 (by decide) (fun h14 => ?_) (fun h14 => ?_)
      · refine am_iconst 0 d48_33 (by decide) ?_
        first | exact bad1 (va_bad (Or.inl h2')) | exact bad1 (va_bad (Or.inr (Or.inl h8))) | exact bad1 (va_bad (Or.inr (Or.inr ⟨h14, Or.inl h19⟩))) | exact bad1 (va_bad (Or.inr (Or.inr ⟨h14, Or.inr (Int32.not_le.mp h26)⟩))) | exact good0 (va_good h2' h8 (fun z => absurd z h14)) | exact good0 (va_good h2' h8 (fun _ => ix_le (n := 11) (by decide) h19 h26))
      · refine am_iload d48_17 rfl ?_
        refine am_iflt 29 d48_19 (by decide) (fun h19 => ?_) (fun h19 => ?_)
        · refine am_iconst 1 d48_29 (by decide) ?_
          refine am_goto 34 d48_30 (by decide) ?_
          first | exact bad1 (va_bad (Or.inl h2')) | exact bad1 (va_bad (Or.inr (Or.inl h8))) | exact bad1 (va_bad (Or.inr (Or.inr ⟨h14, Or.inl h19⟩))) | exact bad1 (va_bad (Or.inr (Or.inr ⟨h14, Or.inr (Int32.not_le.mp h26)⟩))) | exact good0 (va_good h2' h8 (fun z => absurd z h14)) | exact good0 (va_good h2' h8 (fun _ => ix_le (n := 11) (by decide) h19 h26))
        · refine am_iload d48_22 rfl ?_
          refine am_bipush (nI 11) d48_24 (by decide) ?_
          refine am_icle 33 d48_26 (by decide) (fun h26 => ?_) (fun h26 => ?_)
          · refine am_iconst 0 d48_33 (by decide) ?_
            first | exact bad1 (va_bad (Or.inl h2')) | exact bad1 (va_bad (Or.inr (Or.inl h8))) | exact bad1 (va_bad (Or.inr (Or.inr ⟨h14, Or.inl h19⟩))) | exact bad1 (va_bad (Or.inr (Or.inr ⟨h14, Or.inr (Int32.not_le.mp h26)⟩))) | exact good0 (va_good h2' h8 (fun z => absurd z h14)) | exact good0 (va_good h2' h8 (fun _ => ix_le (n := 11) (by decide) h19 h26))
          · refine am_iconst 1 d48_29 (by decide) ?_
            refine am_goto 34 d48_30 (by decide) ?_
            first | exact bad1 (va_bad (Or.inl h2')) | exact bad1 (va_bad (Or.inr (Or.inl h8))) | exact bad1 (va_bad (Or.inr (Or.inr ⟨h14, Or.inl h19⟩))) | exact bad1 (va_bad (Or.inr (Or.inr ⟨h14, Or.inr (Int32.not_le.mp h26)⟩))) | exact good0 (va_good h2' h8 (fun z => absurd z h14)) | exact good0 (va_good h2' h8 (fun _ => ix_le (n := 11) (by decide) h19 h26))
