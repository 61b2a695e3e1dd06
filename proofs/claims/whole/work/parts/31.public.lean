/-! the same sets from the same fields -/
section CONG
variable {kd kd' vl vl' : Nat → Int32}
theorem sp_refd_c (h1 : ∀ c, c < 48 → kd c = kd' c) (h2 : ∀ c, c < 48 → vl c = vl' c) {s : Int32} {f : Nat} (hf : f < 4) : sp_refd kd vl s f = sp_refd kd' vl' s f := sp_or_congr (fun _ _ => rfl) (fun o ho => by show sp_tg kd vl (4 * o + f) = sp_tg kd' vl' (4 * o + f); unfold sp_tg; rw [h1 _ (by omega), h2 _ (by omega)])
theorem sp_refg_c (h1 : ∀ c, c < 48 → kd c = kd' c) (h2 : ∀ c, c < 48 → vl c = vl' c) {s : Int32} {f : Nat} (hf : f < 4) : sp_refg kd vl s f = sp_refg kd' vl' s f := sp_or_congr (fun o ho => by show (!decide (sp_tg kd vl (4 * o + f) &&& s = 0)) = (!decide (sp_tg kd' vl' (4 * o + f) &&& s = 0)); unfold sp_tg; rw [h1 _ (by omega), h2 _ (by omega)]) (fun _ _ => rfl)
theorem sp_num_c (h1 : ∀ c, c < 48 → kd c = kd' c) (h2 : ∀ c, c < 48 → vl c = vl' c) {s sg b : Int32} {f : Nat} (hf : f < 4) : sp_num kd vl s f sg b = sp_num kd' vl' s f sg b := sp_or_congr (fun o ho => by show (sp_isin s o && decide (kd (4 * o + f) = 1) && sp_cmp (vl (4 * o + f)) sg b) = (sp_isin s o && decide (kd' (4 * o + f) = 1) && sp_cmp (vl' (4 * o + f)) sg b); rw [h1 _ (by omega), h2 _ (by omega)]) (fun _ _ => rfl)
theorem sp_non_c (h1 : ∀ c, c < 48 → kd c = kd' c) {s : Int32} {f : Nat} (hf : f < 4) : sp_non kd s f = sp_non kd' s f := sp_or_congr (fun o ho => by show (sp_isin s o && decide (kd (4 * o + f) = 0)) = (sp_isin s o && decide (kd' (4 * o + f) = 0)); rw [h1 _ (by omega)]) (fun _ _ => rfl)
theorem sp_fld_c (h1 : ∀ c, c < 48 → kd c = kd' c) (h2 : ∀ c, c < 48 → vl c = vl' c) {s : Int32} : ∀ n, n ≤ 4 → sp_fld (fun t f => sp_refd kd vl t f) n s = sp_fld (fun t f => sp_refd kd' vl' t f) n s := by
  intro n
  induction n with
  | zero => intro _; rfl
  | succ n ih => intro hn; simp only [sp_fld]; rw [ih (by omega), sp_refd_c h1 h2 (by omega)]
theorem ps_step_c (h1 : ∀ c, c < 48 → kd c = kd' c) (h2 : ∀ c, c < 48 → vl c = vl' c) {q : Nat → Nat} {len : Nat} {s : Int32} {i : Nat} : ps_step kd vl q len s i = ps_step kd' vl' q len s i := by
  unfold ps_step
  split
  next h =>
    rw [show (fun t => sp_refd kd vl t (ps_ch q len (i + 1) - 48)) = (fun t => sp_refd kd' vl' t (ps_ch q len (i + 1) - 48)) from funext fun t => sp_refd_c h1 h2 (by omega),
      show (fun t => sp_refg kd vl t (ps_ch q len (i + 1) - 48)) = (fun t => sp_refg kd' vl' t (ps_ch q len (i + 1) - 48)) from funext fun t => sp_refg_c h1 h2 (by omega),
      sp_non_c h1 (by omega)]
    unfold ps_cmp
    simp only [sp_num_c h1 h2 (show ps_ch q len (i + 1) - 48 < 4 by omega)]
  next => rfl
theorem ps_find_c (h1 : ∀ c, c < 48 → kd c = kd' c) (h2 : ∀ c, c < 48 → vl c = vl' c) {q : Nat → Nat} {len : Nat} : ps_find kd vl q len = ps_find kd' vl' q len := by
  unfold ps_find
  rw [show ps_step kd vl q len = ps_step kd' vl' q len from funext fun s => funext fun i => ps_step_c h1 h2]
theorem sp_all_c (h1 : ∀ c, c < 48 → kd c = kd' c) (h2 : ∀ c, c < 48 → vl c = vl' c) {x : Int32} : sp_clo (sp_fld (fun t f => sp_refd kd vl t f) 4) 12 x 0 = sp_clo (sp_fld (fun t f => sp_refd kd' vl' t f) 4) 12 x 0 := by
  rw [show sp_fld (fun t f => sp_refd kd vl t f) 4 = sp_fld (fun t f => sp_refd kd' vl' t f) 4 from funext fun s => sp_fld_c h1 h2 4 (by decide)]
end CONG
def sp_any (f : Nat → Bool) : Nat → Bool
  | 0 => false
  | n + 1 => sp_any f n || f n
/-- two rows (or none) hold the same -/
def sr (wk wv : Nat → Int32) (r s : Option Nat) : Bool := decide (sp_get wk 0 r = sp_get wk 0 s) && decide (sp_get wv 0 r = sp_get wv 0 s)
theorem vw_sm {M : am_M} {v w : Nat} {wk wv wm : Nat → Int32} {r s : Nat → Option Nat} (h1 : vw M v wk wv wm r) (h2 : vw M w wk wv wm s) {c : Nat} (hc : c < 48) : sm M v w c = sr wk wv (r c) (s c) := by
  unfold sm sr
  rw [(h1 c hc).1, (h1 c hc).2.1, (h2 c hc).1, (h2 c hc).2.1]
theorem rd_pos {M : am_M} {pn : Nat → Nat} {nb b : Nat} {m : Int32} (hB : bp_P (M.1 2) (M.1 3) pn nb) (hb : b < nb) (h : bp_rd M b m) : 0 ≤ m := by
  have h1 := hB.2.2.2 b hb
  have h2 := Int32.not_lt.mp h.2.1
  refine Int32.le_trans ?_ h2
  split
  next h3 => exact Int32.le_trans h1 (Int32.le_of_lt h3)
  next => exact h1
theorem first_pos {M : am_M} {pn : Nat → Nat} {nb b : Nat} (hB : bp_P (M.1 2) (M.1 3) pn nb) (hb : b < nb) : 0 ≤ bp_first M b := by
  have h1 := hB.2.2.2 b hb
  unfold bp_first
  split
  next h3 => exact Int32.le_trans h1 (Int32.le_of_lt h3)
  next => exact h1
/-- the class's memory: branches and rows -/
def bpS (M : am_M) (pn : Nat → Nat) (nb nw ck : Nat) : Prop := M.1 1 4 = nI nb ∧ bp_P (M.1 2) (M.1 3) pn nb ∧ M.1 6 6 = nI nw ∧ bp_R (M.1 7) (M.1 9) nb nw ∧ M.1 0 6 = nI ck ∧ ck < 2 ^ 30
theorem p_branch {pn : Nat → Nat} {nb nw ck : Nat} {M : am_M} {Q : am_T} (hS : bpS M pn nb nw ck) {a m : Int32} (h1 : ¬ ix a nb → Q (.inr 0) M) (h2 : ∀ b, b < nb → a = nI b → ¬ bp_rd M b m → Q (.inr 1) M) (h3 : ∀ b, b < nb → a = nI b → bp_rd M b m → nb = 6 → Q (.inr 2) M) (h0 : ∀ b, b < nb → a = nI b → bp_rd M b m → nb < 6 → Q (.inl (some (.int (nI nb)))) (am_set (am_set (am_set (am_set M 2 nb (nI b)) 3 nb m) 4 nb 1) 1 4 (nI (nb + 1)))) : am_W kX_branch 0 (am_in kX_branch [.ref 0, .int a, .int m]) [] M Q := by
  obtain ⟨s1, s2, s3, s4, s5, s6⟩ := hS
  have s26 := s2.1
  have s41 := s4.1
  show am_W kX_branch 0 _ [] M Q
  refine am_aload_n d0_0 rfl ?_
  refine am_iload_n d0_1 rfl ?_
  refine am_cv1 15 d0_2 ml0_50 rfl (by decide) sh_0 rfl rfl (Nat.le_of_ble_eq_true rfl) ?_
  refine c_requireBranch (nb := nb) s1 s26 (fun g1 => ?_) (fun g1 => ?_)
  · show am_W 0 5 _ _ _ _
    obtain ⟨b, hb, rfl⟩ := g1
    refine am_aload_n d0_5 rfl ?_
    refine am_iload_n d0_6 rfl ?_
    refine am_iload_n d0_7 rfl ?_
    refine am_cv2 19 d0_8 ml0_54 rfl (by decide) sh_0 rfl rfl rfl (Nat.le_of_ble_eq_true rfl) ?_
    refine c_requireReadable (b := b) (by omega) (fun g4 => ?_) (fun g4 => ?_)
    · show am_W 0 11 _ _ _ _
      refine am_aload_n d0_11 rfl ?_
      refine am_getr d0_12 fl0_12 sh_0 rfl ?_
      refine am_geti d0_15 fl0_58 sh_1 rfl ?_
      refine am_bipush (nI 6) d0_18 (by decide) ?_
      refine am_icne 33 d0_20 (by decide) (fun h20 => ?_) (fun h20 => ?_)
      · have hlt : nb < 6 := by
          rcases Nat.lt_or_ge nb 6 with h | h
          · exact h
          · exact absurd (by rw [s1, show nb = 6 by omega]) h20
        refine am_aload_n d0_33 rfl ?_
        refine am_getr d0_34 fl0_12 sh_0 rfl ?_
        refine am_iload_n d0_37 rfl ?_
        refine am_iload_n d0_38 rfl ?_
        refine am_cv2 76 d0_39 ml0_68 rfl (by decide) sh_1 rfl rfl rfl (Nat.le_of_ble_eq_true rfl) ?_
        refine c_Badd s1 hlt ?_
        show am_W 0 42 _ (.int _ :: _) _ _
        refine am_iret d0_42 rfl rfl ?_
        exact h0 b hb rfl g4 hlt
      · have h6 : nb = 6 := (nI_eq (by omega) (by decide)).mp (s1.symm.trans h20)
        refine am_thr (x := 2) d0_23 (by decide) (Nat.le_of_ble_eq_true rfl) ?_
        exact h3 b hb rfl g4 h6
    · exact am_af_x (by decide) (by decide) (h2 b hb rfl g4)
  · exact am_af_x (by decide) (by decide) (h1 g1)
theorem p_close {pn : Nat → Nat} {nb nw ck : Nat} {M : am_M} {Q : am_T} (hS : bpS M pn nb nw ck) {a : Int32} (h1 : ¬ ix a nb → Q (.inr 0) M) (h2 : ∀ b, b < nb → a = nI b → M.1 4 b = 0 → Q (.inr 2) M) (h3 : ∀ b, b < nb → a = nI b → ¬ M.1 4 b = 0 → (sp_cnt (fun b => !decide (M.1 4 b = 0)) nb) = 1 → Q (.inr 2) M) (h0 : ∀ b, b < nb → a = nI b → ¬ M.1 4 b = 0 → ¬ (sp_cnt (fun b => !decide (M.1 4 b = 0)) nb) = 1 → Q (.inl none) (am_set M 4 b 0)) : am_W kX_close 0 (am_in kX_close [.ref 0, .int a]) [] M Q := by
  obtain ⟨s1, s2, s3, s4, s5, s6⟩ := hS
  have s26 := s2.1
  have s41 := s4.1
  show am_W kX_close 0 _ [] M Q
  refine am_aload_n d1_0 rfl ?_
  refine am_iload_n d1_1 rfl ?_
  refine am_cv1 15 d1_2 ml1_50 rfl (by decide) sh_0 rfl rfl (Nat.le_of_ble_eq_true rfl) ?_
  refine c_requireBranch (nb := nb) s1 s26 (fun g1 => ?_) (fun g1 => ?_)
  · show am_W 1 5 _ _ _ _
    obtain ⟨b, hb, rfl⟩ := g1
    refine am_aload_n d1_5 rfl ?_
    refine am_iload_n d1_6 rfl ?_
    refine am_cv1 20 d1_7 ml1_72 rfl (by decide) sh_0 rfl rfl (Nat.le_of_ble_eq_true rfl) ?_
    refine c_requireOpen (b := b) (by omega) (fun g5 => ?_) (fun g5 => ?_)
    · show am_W 1 10 _ _ _ _
      refine am_aload_n d1_10 rfl ?_
      refine am_getr d1_11 fl1_12 sh_0 rfl ?_
      refine am_cv0 77 d1_14 ml1_75 rfl (by decide) sh_1 rfl  (Nat.le_of_ble_eq_true rfl) ?_
      refine c_openCount s1 s26 ?_
      show am_W 1 17 _ (.int _ :: _) _ _
      refine am_iconst (nI 1) d1_17 (by decide) ?_
      refine am_icne 31 d1_18 (by decide) (fun h18 => ?_) (fun h18 => ?_)
      · have h1c : ¬ (sp_cnt (fun b => !decide (M.1 4 b = 0)) nb) = 1 := fun z => h18 (by rw [z])
        refine am_aload_n d1_31 rfl ?_
        refine am_getr d1_32 fl1_12 sh_0 rfl ?_
        refine am_getr d1_35 fl1_81 sh_1 rfl ?_
        refine am_iload_n d1_38 rfl ?_
        refine am_iconst 0 d1_39 (by decide) ?_
        refine am_zastN b 0 d1_40 sh_4 (by omega) (by decide) (by decide) ?_
        refine am_vret d1_41 rfl ?_
        exact h0 b hb rfl g5 h1c
      · have hb1 := sp_cnt_le (fun b => !decide (M.1 4 b = 0)) nb
        have h1c : (sp_cnt (fun b => !decide (M.1 4 b = 0)) nb) = 1 := (nI_eq (by omega) (by decide)).mp h18
        refine am_thr (x := 2) d1_21 (by decide) (Nat.le_of_ble_eq_true rfl) ?_
        exact h3 b hb rfl g5 h1c
    · exact am_af_x (by decide) (by decide) (h2 b hb rfl g5)
  · exact am_af_x (by decide) (by decide) (h1 g1)
theorem p_write {pn : Nat → Nat} {nb nw ck : Nat} {M : am_M} {Q : am_T} (hS : bpS M pn nb nw ck) {a u w x y : Int32} (h1 : ¬ (ix a nb ∧ ix u 12 ∧ ix w 4) → Q (.inr 0) M) (h2 : ∀ b o f, b < nb → a = nI b → o < 12 → u = nI o → f < 4 → w = nI f → ¬ (x = 0 ∨ x = 1 ∨ (x = 2 ∧ ix y 12)) → Q (.inr 1) M) (h3 : ∀ b o f, b < nb → a = nI b → o < 12 → u = nI o → f < 4 → w = nI f → (x = 0 ∨ x = 1 ∨ (x = 2 ∧ ix y 12)) → M.1 4 b = 0 → Q (.inr 2) M) (h4 : ∀ b o f, b < nb → a = nI b → o < 12 → u = nI o → f < 4 → w = nI f → (x = 0 ∨ x = 1 ∨ (x = 2 ∧ ix y 12)) → ¬ M.1 4 b = 0 → nw = 120 → Q (.inr 3) M) (h0 : ∀ b o f, b < nb → a = nI b → o < 12 → u = nI o → f < 4 → w = nI f → (x = 0 ∨ x = 1 ∨ (x = 2 ∧ ix y 12)) → ¬ M.1 4 b = 0 → nw < 120 → Q (.inl (some (.int (nI (ck + 1))))) (sp_add (am_set M 0 6 (nI (ck + 1))) nw (nI b) (nI (ck + 1)) (nI (4 * o + f)) x (if x = 0 then 0 else y))) : am_W kX_write 0 (am_in kX_write [.ref 0, .int a, .int u, .int w, .int x, .int y]) [] M Q := by
  obtain ⟨s1, s2, s3, s4, s5, s6⟩ := hS
  have s26 := s2.1
  have s41 := s4.1
  show am_W kX_write 0 _ [] M Q
  refine am_aload_n d2_0 rfl ?_
  refine am_iload_n d2_1 rfl ?_
  refine am_cv1 15 d2_2 ml2_50 rfl (by decide) sh_0 rfl rfl (Nat.le_of_ble_eq_true rfl) ?_
  refine c_requireBranch (nb := nb) s1 s26 (fun g1 => ?_) (fun g1 => ?_)
  · show am_W 2 5 _ _ _ _
    obtain ⟨b, hb, rfl⟩ := g1
    refine am_iload_n d2_5 rfl ?_
    refine am_cs1 16 d2_6 ml2_85 rfl (by decide) rfl rfl (Nat.le_of_ble_eq_true rfl) ?_
    refine c_requireObject (fun g2 => ?_) (fun g2 => ?_)
    · show am_W 2 9 _ _ _ _
      obtain ⟨o, ho, rfl⟩ := g2
      refine am_iload_n d2_9 rfl ?_
      refine am_cs1 17 d2_10 ml2_88 rfl (by decide) rfl rfl (Nat.le_of_ble_eq_true rfl) ?_
      refine c_requireField (fun g3 => ?_) (fun g3 => ?_)
      · show am_W 2 13 _ _ _ _
        obtain ⟨f, hf, rfl⟩ := g3
        refine am_iload d2_13 rfl ?_
        refine am_iload d2_15 rfl ?_
        refine am_cs2 31 d2_17 ml2_91 rfl (by decide) rfl rfl rfl (Nat.le_of_ble_eq_true rfl) ?_
        refine c_isValue (fun gv => ?_) (fun gv => ?_)
        · show am_W 2 20 _ (.int 1 :: _) _ _
          refine am_ifne 33 d2_20 (by decide) (fun _ => ?_) (fun h => absurd h (by decide))
          refine am_aload_n d2_33 rfl ?_
          refine am_iload_n d2_34 rfl ?_
          refine am_cv1 20 d2_35 ml2_72 rfl (by decide) sh_0 rfl rfl (Nat.le_of_ble_eq_true rfl) ?_
          refine c_requireOpen (b := b) (by omega) (fun g5 => ?_) (fun g5 => ?_)
          · show am_W 2 38 _ _ _ _
            refine am_aload_n d2_38 rfl ?_
            refine am_iconst (nI 1) d2_39 (by decide) ?_
            refine am_cv1 21 d2_40 ml2_100 rfl (by decide) sh_0 rfl rfl (Nat.le_of_ble_eq_true rfl) ?_
            refine c_requireRoomFor (n := 1) (nw := nw) s3 s41 (by decide) (fun g7 => ?_) (fun g7 => ?_)
            · show am_W 2 43 _ _ _ _
              refine am_aload_n d2_43 rfl ?_
              refine am_iload_n d2_44 rfl ?_
              refine am_iload_n d2_45 rfl ?_
              refine am_iload_n d2_46 rfl ?_
              refine am_cs2 32 d2_47 ml2_103 rfl (by decide) rfl rfl rfl (Nat.le_of_ble_eq_true rfl) ?_
              refine c_cellOf (a := o) (b := f) ?_
              show am_W 2 50 _ (.int _ :: _) _ _
              refine am_iload d2_50 rfl ?_
              refine am_iload d2_52 rfl ?_
              refine am_ifne 61 d2_54 (by decide) (fun h54 => ?_) (fun h54 => ?_)
              · refine am_iload d2_61 rfl ?_
                refine am_cv4 24 d2_63 ml2_106 rfl (by decide) sh_0 rfl rfl rfl rfl rfl (Nat.le_of_ble_eq_true rfl) ?_
                refine c_append (ck := ck) (nw := nw) s5 s3 (by omega) ?_
                show am_W 2 66 _ _ _ _
                refine am_aload_n d2_66 rfl ?_
                refine am_geti d2_67 fl2_43 sh_0 rfl ?_
                refine am_iret d2_70 rfl rfl ?_
                have hz := h0 b o f hb rfl ho rfl hf rfl gv g5 (by omega)
                first | (rw [if_pos h54] at hz; exact hz) | (rw [if_neg h54] at hz; exact hz)
              · refine am_iconst 0 d2_57 (by decide) ?_
                refine am_goto 63 d2_58 (by decide) ?_
                refine am_cv4 24 d2_63 ml2_106 rfl (by decide) sh_0 rfl rfl rfl rfl rfl (Nat.le_of_ble_eq_true rfl) ?_
                refine c_append (ck := ck) (nw := nw) s5 s3 (by omega) ?_
                show am_W 2 66 _ _ _ _
                refine am_aload_n d2_66 rfl ?_
                refine am_geti d2_67 fl2_43 sh_0 rfl ?_
                refine am_iret d2_70 rfl rfl ?_
                have hz := h0 b o f hb rfl ho rfl hf rfl gv g5 (by omega)
                first | (rw [if_pos h54] at hz; exact hz) | (rw [if_neg h54] at hz; exact hz)
            · exact am_af_x (by decide) (by decide) (h4 b o f hb rfl ho rfl hf rfl gv g5 (by omega))
          · exact am_af_x (by decide) (by decide) (h3 b o f hb rfl ho rfl hf rfl gv g5)
        · show am_W 2 20 _ (.int 0 :: _) _ _
          refine am_ifne 33 d2_20 (by decide) (fun h => absurd h (by decide)) (fun _ => ?_)
          refine am_thr (x := 1) d2_23 (by decide) (Nat.le_of_ble_eq_true rfl) ?_
          exact h2 b o f hb rfl ho rfl hf rfl gv
      · exact am_af_x (by decide) (by decide) (h1 (fun z => g3 z.2.2))
    · exact am_af_x (by decide) (by decide) (h1 (fun z => g2 z.2.1))
  · exact am_af_x (by decide) (by decide) (h1 (fun z => g1 z.1))
theorem p_read {pn : Nat → Nat} {nb nw ck : Nat} {M : am_M} {Q : am_T} (hS : bpS M pn nb nw ck) {a m u w x : Int32} (h1 : ¬ (ix a nb ∧ ix u 12 ∧ ix w 4) → Q (.inr 0) M) (h2 : ∀ b o f, b < nb → a = nI b → o < 12 → u = nI o → f < 4 → w = nI f → ¬ (bp_rd M b m ∧ ix x 3) → Q (.inr 1) M) (h0 : ∀ b o f, b < nb → a = nI b → o < 12 → u = nI o → f < 4 → w = nI f → bp_rd M b m → ix x 3 → ∀ M', fr [5, 14, 15, 16] M M' → Q (.inl (some (.int (if x = 0 then sp_get (M.1 10) 0 (sp_row (M.1 7) (M.1 8) (M.1 9) pn (M.1 3) nw b m (4 * o + f)) else if x = 1 then sp_get (M.1 11) 0 (sp_row (M.1 7) (M.1 8) (M.1 9) pn (M.1 3) nw b m (4 * o + f)) else sp_get (M.1 8) (-1) (sp_row (M.1 7) (M.1 8) (M.1 9) pn (M.1 3) nw b m (4 * o + f)))))) M') : am_W kX_read 0 (am_in kX_read [.ref 0, .int a, .int m, .int u, .int w, .int x]) [] M Q := by
  obtain ⟨s1, s2, s3, s4, s5, s6⟩ := hS
  have s26 := s2.1
  have s41 := s4.1
  show am_W kX_read 0 _ [] M Q
  refine am_aload_n d3_0 rfl ?_
  refine am_iload_n d3_1 rfl ?_
  refine am_cv1 15 d3_2 ml3_50 rfl (by decide) sh_0 rfl rfl (Nat.le_of_ble_eq_true rfl) ?_
  refine c_requireBranch (nb := nb) s1 s26 (fun g1 => ?_) (fun g1 => ?_)
  · show am_W 3 5 _ _ _ _
    obtain ⟨b, hb, rfl⟩ := g1
    refine am_iload_n d3_5 rfl ?_
    refine am_cs1 16 d3_6 ml3_85 rfl (by decide) rfl rfl (Nat.le_of_ble_eq_true rfl) ?_
    refine c_requireObject (fun g2 => ?_) (fun g2 => ?_)
    · show am_W 3 9 _ _ _ _
      obtain ⟨o, ho, rfl⟩ := g2
      refine am_iload d3_9 rfl ?_
      refine am_cs1 17 d3_11 ml3_88 rfl (by decide) rfl rfl (Nat.le_of_ble_eq_true rfl) ?_
      refine c_requireField (fun g3 => ?_) (fun g3 => ?_)
      · show am_W 3 14 _ _ _ _
        obtain ⟨f, hf, rfl⟩ := g3
        refine am_aload_n d3_14 rfl ?_
        refine am_iload_n d3_15 rfl ?_
        refine am_iload_n d3_16 rfl ?_
        refine am_cv2 19 d3_17 ml3_54 rfl (by decide) sh_0 rfl rfl rfl (Nat.le_of_ble_eq_true rfl) ?_
        refine c_requireReadable (b := b) (by omega) (fun g4 => ?_) (fun g4 => ?_)
        · show am_W 3 20 _ _ _ _
          refine am_iload d3_20 rfl ?_
          refine am_iconst (nI 2) d3_22 (by decide) ?_
          refine am_cs2 18 d3_23 ml3_110 rfl (by decide) rfl rfl rfl (Nat.le_of_ble_eq_true rfl) ?_
          refine c_requireWhat (n := 2) (by decide) (fun g6 => ?_) (fun g6 => ?_)
          · show am_W 3 26 _ _ _ _
            refine am_aload_n d3_26 rfl ?_
            refine am_aload_n d3_27 rfl ?_
            refine am_getr d3_28 fl3_26 sh_0 rfl ?_
            refine am_iload_n d3_31 rfl ?_
            refine am_iload_n d3_32 rfl ?_
            refine am_cv3 23 d3_33 ml3_113 rfl (by decide) sh_0 rfl rfl rfl rfl (Nat.le_of_ble_eq_true rfl) ?_
            refine c_look (v := 13) (Or.inl rfl) s2 s4 s3 hb (rd_pos s2 hb g4) (fun M1 f1 v1 => ?_)
            show am_W 3 36 _ _ _ _
            refine am_iload_n d3_36 rfl ?_
            refine am_iload d3_37 rfl ?_
            refine am_cs2 32 d3_39 ml3_103 rfl (by decide) rfl rfl rfl (Nat.le_of_ble_eq_true rfl) ?_
            refine c_cellOf (a := o) (b := f) ?_
            show am_W 3 42 _ (.int _ :: _) _ _
            refine am_istore d3_42 (Nat.le_of_ble_eq_true rfl) rfl ?_
            refine am_iload d3_44 rfl ?_
            refine am_ifne 60 d3_46 (by decide) (fun h46 => ?_) (fun h46 => ?_)
            · refine am_iload d3_60 rfl ?_
              refine am_iconst 1 d3_62 (by decide) ?_
              refine am_icne 79 d3_63 (by decide) (fun h63 => ?_) (fun h63 => ?_)
              · refine am_aload_n d3_79 rfl ?_
                refine am_getr d3_80 fl3_26 sh_0 rfl ?_
                refine am_getr d3_83 fl3_124 sh_13 rfl ?_
                refine am_iload d3_86 rfl ?_
                refine am_ialdN (4 * o + f) d3_88 sh_16 (by omega) (by decide) ?_
                refine am_iret d3_89 rfl rfl ?_
                have hz := h0 b o f hb rfl ho rfl hf rfl g4 g6 M1 f1
                have hv := v1 (4 * o + f) (by omega)
                first | (rw [if_pos h46, ← hv.1] at hz; exact hz) | (rw [if_neg h46, if_pos h63, ← hv.2.1] at hz; exact hz) | (rw [if_neg h46, if_neg h63, ← hv.2.2] at hz; exact hz)
              · refine am_aload_n d3_66 rfl ?_
                refine am_getr d3_67 fl3_26 sh_0 rfl ?_
                refine am_getr d3_70 fl3_121 sh_13 rfl ?_
                refine am_iload d3_73 rfl ?_
                refine am_ialdN (4 * o + f) d3_75 sh_15 (by omega) (by decide) ?_
                refine am_goto 89 d3_76 (by decide) ?_
                refine am_iret d3_89 rfl rfl ?_
                have hz := h0 b o f hb rfl ho rfl hf rfl g4 g6 M1 f1
                have hv := v1 (4 * o + f) (by omega)
                first | (rw [if_pos h46, ← hv.1] at hz; exact hz) | (rw [if_neg h46, if_pos h63, ← hv.2.1] at hz; exact hz) | (rw [if_neg h46, if_neg h63, ← hv.2.2] at hz; exact hz)
            · refine am_aload_n d3_49 rfl ?_
              refine am_getr d3_50 fl3_26 sh_0 rfl ?_
              refine am_getr d3_53 fl3_117 sh_13 rfl ?_
              refine am_iload d3_56 rfl ?_
              refine am_ialdN (4 * o + f) d3_58 sh_14 (by omega) (by decide) ?_
              refine am_iret d3_59 rfl rfl ?_
              have hz := h0 b o f hb rfl ho rfl hf rfl g4 g6 M1 f1
              have hv := v1 (4 * o + f) (by omega)
              first | (rw [if_pos h46, ← hv.1] at hz; exact hz) | (rw [if_neg h46, if_pos h63, ← hv.2.1] at hz; exact hz) | (rw [if_neg h46, if_neg h63, ← hv.2.2] at hz; exact hz)
          · exact am_af_x (by decide) (by decide) (h2 b o f hb rfl ho rfl hf rfl (fun z => g6 z.2))
        · exact am_af_x (by decide) (by decide) (h2 b o f hb rfl ho rfl hf rfl (fun z => g4 z.1))
      · exact am_af_x (by decide) (by decide) (h1 (fun z => g3 z.2.2))
    · exact am_af_x (by decide) (by decide) (h1 (fun z => g2 z.2.1))
  · exact am_af_x (by decide) (by decide) (h1 (fun z => g1 z.1))
theorem mk_b_fr {M M1 : am_M} {pn : Nat → Nat} {nw b j : Nat} (h : fr [12] M M1) : mk_b M1 pn nw b j = mk_b M pn nw b j := by
  unfold mk_b bp_first
  rw [h.eq 0 (by decide), h.eq 3 (by decide), h.eq 4 (by decide), h.eq 7 (by decide), h.eq 8 (by decide), h.eq 9 (by decide)]
theorem p_history {pn : Nat → Nat} {nb nw ck : Nat} {M : am_M} {Q : am_T} (hS : bpS M pn nb nw ck) {a u w k : Int32} (h1 : ¬ (ix a nb ∧ ix u 12 ∧ ix w 4) → Q (.inr 0) M) (h0 : ∀ b o f, b < nb → a = nI b → o < 12 → u = nI o → f < 4 → w = nI f → ∀ M', fr [5, 12, 14, 15, 16] M M' → Q (.inl (some (.int (sp_kth (fun i => mk_b M pn nw b i && decide (M.1 9 i = nI (4 * o + f))) (M.1 8) k nw nw 0)))) M') : am_W kX_history 0 (am_in kX_history [.ref 0, .int a, .int u, .int w, .int k]) [] M Q := by
  obtain ⟨s1, s2, s3, s4, s5, s6⟩ := hS
  have s26 := s2.1
  have s41 := s4.1
  show am_W kX_history 0 _ [] M Q
  refine am_aload_n d4_0 rfl ?_
  refine am_iload_n d4_1 rfl ?_
  refine am_cv1 15 d4_2 ml4_50 rfl (by decide) sh_0 rfl rfl (Nat.le_of_ble_eq_true rfl) ?_
  refine c_requireBranch (nb := nb) s1 s26 (fun g1 => ?_) (fun g1 => ?_)
  · show am_W 4 5 _ _ _ _
    obtain ⟨b, hb, rfl⟩ := g1
    refine am_iload_n d4_5 rfl ?_
    refine am_cs1 16 d4_6 ml4_85 rfl (by decide) rfl rfl (Nat.le_of_ble_eq_true rfl) ?_
    refine c_requireObject (fun g2 => ?_) (fun g2 => ?_)
    · show am_W 4 9 _ _ _ _
      obtain ⟨o, ho, rfl⟩ := g2
      refine am_iload_n d4_9 rfl ?_
      refine am_cs1 17 d4_10 ml4_88 rfl (by decide) rfl rfl (Nat.le_of_ble_eq_true rfl) ?_
      refine c_requireField (fun g3 => ?_) (fun g3 => ?_)
      · show am_W 4 13 _ _ _ _
        obtain ⟨f, hf, rfl⟩ := g3
        refine am_aload_n d4_13 rfl ?_
        refine am_getr d4_14 fl4_19 sh_0 rfl ?_
        refine am_cv0 108 d4_17 ml4_127 rfl (by decide) sh_6 rfl  (Nat.le_of_ble_eq_true rfl) ?_
        refine c_unmarkAll s3 s41 (fun M1 f1 m1 => ?_)
        show am_W 4 20 _ _ _ _
        refine am_aload_n d4_20 rfl ?_
        refine am_iload_n d4_21 rfl ?_
        refine am_cv1 25 d4_22 ml4_130 rfl (by decide) sh_0 rfl rfl (Nat.le_of_ble_eq_true rfl) ?_
        refine c_markGiven (nb := nb) (nw := nw) (pn := pn) (b := b) (by rw [f1.eq 2 (by decide), f1.eq 3 (by decide)]; exact s2) (by rw [f1.eq 7 (by decide), f1.eq 9 (by decide)]; exact s4) (by rw [f1.eq 6 (by decide)]; exact s3) hb (first_pos (nb := nb) (pn := pn) (by rw [f1.eq 2 (by decide), f1.eq 3 (by decide)]; exact s2) hb) (fun M2 f2 m2 => ?_)
        show am_W 4 25 _ _ _ _
        refine am_aload_n d4_25 rfl ?_
        refine am_getr d4_26 fl4_19 sh_0 rfl ?_
        refine am_iload_n d4_29 rfl ?_
        refine am_iload_n d4_30 rfl ?_
        refine am_cs2 32 d4_31 ml4_103 rfl (by decide) rfl rfl rfl (Nat.le_of_ble_eq_true rfl) ?_
        refine c_cellOf (a := o) (b := f) ?_
        show am_W 4 34 _ (.int _ :: _) _ _
        refine am_iload d4_34 rfl ?_
        refine am_cv2 111 d4_36 ml4_133 rfl (by decide) sh_6 rfl rfl rfl (Nat.le_of_ble_eq_true rfl) ?_
        refine c_momentOfMarked (nw := nw) s41 (by rw [f2.eq 6 (by decide), f1.eq 6 (by decide)]; exact s3) ?_
        show am_W 4 39 _ (.int _ :: _) _ _
        refine am_iret d4_39 rfl rfl ?_
        have hz := h0 b o f hb rfl ho rfl hf rfl M2 ((f1.wk (by simp)).tr f2)
        rw [f2.eq 8 (by decide), f1.eq 8 (by decide), f2.eq 9 (by decide), f1.eq 9 (by decide)]
        rw [sp_kth_congr (f := fun i => !decide (M2.1 12 i = 0) && decide (M.1 9 i = nI (4 * o + f))) (f' := fun i => mk_b M pn nw b i && decide (M.1 9 i = nI (4 * o + f))) (fun i hi => ?_) (fun i hi => rfl) nw 0 (Nat.le_refl _)]
        · exact hz
        · have e := m2 i hi
          rw [m1 i hi, mk_b_fr f1] at e
          show (!decide (M2.1 12 i = 0) && _) = (mk_b M pn nw b i && _)
          rw [e]
          by_cases hm : mk_b M pn nw b i = true
          · simp [hm]
          · simp [hm]
      · exact am_af_x (by decide) (by decide) (h1 (fun z => g3 z.2.2))
    · exact am_af_x (by decide) (by decide) (h1 (fun z => g2 z.2.1))
  · exact am_af_x (by decide) (by decide) (h1 (fun z => g1 z.1))
