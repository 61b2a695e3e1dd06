/-! the model: reading a path -/
def tm (M : am_M) (q : Nat → Nat) (len : Nat) : Prop := M.1 27 14 = nI len ∧ len ≤ 32 ∧ ∀ i, i < len → M.1 37 i = nI (q i) ∧ q i < 127
/-- since M0 the reader stands at i, and r says whether all was right -/
def mp (M0 M : am_M) (i : Nat) (r : Bool) : Prop := fr [27] M0 M ∧ (∀ s, s ≠ 16 → s ≠ 17 → M.1 27 s = M0.1 27 s) ∧ M.1 27 16 = nI i ∧ M.1 27 17 = (if r = true then 1 else 0)
theorem mp.to {M0 M : am_M} {i : Nat} {r : Bool} (h : mp M0 M i r) (j : Nat) : mp M0 (am_set M 27 16 (nI j)) j r := ⟨h.1.set (by simp), fun s h1 h2 => by rw [am_set_self, pk_un h1]; exact h.2.1 s h1 h2, by rw [am_set_self, pk_us], by rw [am_set_self, pk_un (by decide)]; exact h.2.2.2⟩
theorem mp.rt {M0 M : am_M} {i : Nat} {r : Bool} (h : mp M0 M i r) (t : Bool) {v : Int32} (hv : v = if t = true then 1 else 0) : mp M0 (am_set M 27 17 v) i t := ⟨h.1.set (by simp), fun s h1 h2 => by rw [am_set_self, pk_un h2]; exact h.2.1 s h1 h2, by rw [am_set_self, pk_un (by decide)]; exact h.2.2.1, by rw [am_set_self, pk_us]; exact hv⟩
theorem moS_mp {M M' : am_M} {i : Nat} {r : Bool} {pn : Nat → Nat} {nb nw ck : Nat} (h : moS M pn nb nw ck) (c : mp M M' i r) : moS M' pn nb nw ck := by
  unfold moS at h ⊢
  rw [c.2.1 3 (by decide) (by decide), c.2.1 7 (by decide) (by decide), c.2.1 1 (by decide) (by decide), c.1.eq 28 (by decide), c.1.eq 29 (by decide), c.1.eq 31 (by decide), c.1.eq 32 (by decide), c.1.eq 33 (by decide)]
  exact h
theorem mo_row_mp {M M' : am_M} {i : Nat} {r : Bool} {pn : Nat → Nat} {nw b : Nat} {x : Int32} {c : Nat} (h : mp M M' i r) : mo_row M' pn nw b x c = mo_row M pn nw b x c := by
  unfold mo_row
  rw [h.1.eq 29 (by decide), h.1.eq 31 (by decide), h.1.eq 32 (by decide), h.1.eq 33 (by decide)]
theorem ps_ch_lt {M : am_M} {q : Nat → Nat} {len : Nat} (h : tm M q len) (i : Nat) : ps_ch q len i < 127 := by
  by_cases hi : i < len
  · rw [ps_in hi]; exact (h.2.2 i hi).2
  · rw [ps_out hi]; decide
theorem m_peek {M0 M : am_M} {q : Nat → Nat} {len i : Nat} {r : Bool} {Q : am_T} (ht : tm M0 q len) (hp : mp M0 M i r) (hi : i < 2 ^ 20) (hQ : Q (.inl (some (.int (nI (ps_ch q len i))))) M) : am_W kM_peek 0 (am_in kM_peek [.ref 27]) [] M Q := by
  have hl := ht.2.1
  show am_W kM_peek 0 _ [] M Q
  refine am_aload_n d64_0 rfl ?_
  refine am_geti d64_1 fl64_119 sh_27 rfl ?_
  rw [hp.2.2.1]
  refine am_aload_n d64_4 rfl ?_
  refine am_geti d64_5 fl64_116 sh_27 rfl ?_
  rw [hp.2.1 14 (by decide) (by decide), ht.1]
  refine am_icgeN 23 i len d64_8 (by decide) rfl rfl (by omega) (by omega) (fun h8 => ?_) (fun h8 => ?_)
  · refine am_iconst 0 d64_23 (by decide) ?_
    refine am_iret d64_24 rfl rfl ?_
    first | (rw [ps_in h8] at hQ; exact hQ) | (rw [ps_out (by omega)] at hQ; exact hQ)
  · refine am_aload_n d64_11 rfl ?_
    refine am_getr d64_12 fl64_42 sh_27 rfl ?_
    refine am_aload_n d64_15 rfl ?_
    refine am_geti d64_16 fl64_119 sh_27 rfl ?_
    rw [hp.2.2.1]
    refine am_ialdN i d64_19 sh_37 (by omega) (by decide) ?_
    rw [hp.1.eq 37 (by decide), (ht.2.2 i h8).1]
    refine am_goto 24 d64_20 (by decide) ?_
    refine am_iret d64_24 rfl rfl ?_
    first | (rw [ps_in h8] at hQ; exact hQ) | (rw [ps_out (by omega)] at hQ; exact hQ)
theorem m_eats {M0 M : am_M} {q : Nat → Nat} {len i : Nat} {r : Bool} {Q : am_T} (ht : tm M0 q len) (hp : mp M0 M i r) (hi : i < 2 ^ 20) {c : Nat} (hc : c < 127) (h1 : ps_ch q len i = c → ∀ M', mp M0 M' (i + 1) r → Q (.inl (some (.int 1))) M') (h0 : ¬ ps_ch q len i = c → ∀ M', mp M0 M' i r → Q (.inl (some (.int 0))) M') : am_W kM_eats 0 (am_in kM_eats [.ref 27, .int (nI c)]) [] M Q := by
  show am_W kM_eats 0 _ [] M Q
  refine am_aload_n d65_0 rfl ?_
  refine am_cv0 64 d65_1 ml65_122 rfl (by decide) sh_27 rfl  (Nat.le_of_ble_eq_true rfl) ?_
  refine m_peek ht hp hi ?_
  show am_W 65 4 _ (.int _ :: _) _ _
  refine am_iload_n d65_4 rfl ?_
  refine am_icne 12 d65_5 (by decide) (fun h => ?_) (fun h => ?_)
  · have hne : ¬ ps_ch q len i = c := fun z => h (by rw [z])
    refine am_iconst 0 d65_12 (by decide) ?_
    refine am_istore_n d65_13 (Nat.le_of_ble_eq_true rfl) rfl ?_
    refine am_aload_n d65_14 rfl ?_
    refine am_iload_n d65_15 rfl ?_
    refine am_ifeq 28 d65_16 (by decide) (fun _ => ?_) (fun h => absurd h (by decide))
    refine am_aload_n d65_28 rfl ?_
    refine am_geti d65_29 fl65_119 sh_27 rfl ?_
    rw [hp.2.2.1]
    refine am_put d65_32 fl65_119 sh_27 rfl rfl rfl rfl ?_
    refine am_iload_n d65_35 rfl ?_
    refine am_iret d65_36 rfl (by decide) ?_
    first | exact h1 heq _ (hp.to (i + 1)) | exact h0 hne _ (hp.to i)
  · have heq : ps_ch q len i = c := (nI_eq (by have := ps_ch_lt ht i; omega) (by omega)).mp h
    refine am_iconst 1 d65_8 (by decide) ?_
    refine am_goto 13 d65_9 (by decide) ?_
    refine am_istore_n d65_13 (Nat.le_of_ble_eq_true rfl) rfl ?_
    refine am_aload_n d65_14 rfl ?_
    refine am_iload_n d65_15 rfl ?_
    refine am_ifeq 28 d65_16 (by decide) (fun h => absurd h (by decide)) (fun _ => ?_)
    refine am_aload_n d65_19 rfl ?_
    refine am_geti d65_20 fl65_119 sh_27 rfl ?_
    rw [hp.2.2.1]
    refine am_iconst 1 d65_23 (by decide) ?_
    refine am_iadd d65_24 ?_
    rw [nI_1]
    refine am_goto 32 d65_25 (by decide) ?_
    refine am_put d65_32 fl65_119 sh_27 rfl rfl rfl rfl ?_
    refine am_iload_n d65_35 rfl ?_
    refine am_iret d65_36 rfl (by decide) ?_
    first | exact h1 heq _ (hp.to (i + 1)) | exact h0 hne _ (hp.to i)
theorem m_digit {M0 M : am_M} {q : Nat → Nat} {len i : Nat} {r : Bool} {Q : am_T} (ht : tm M0 q len) (hp : mp M0 M i r) (hi : i < 2 ^ 20) {k : Nat} (hk : k < 10) (h1 : r = true → 48 ≤ ps_ch q len i → ps_ch q len i ≤ 48 + k → ∀ M', mp M0 M' (i + 1) true → Q (.inl (some (.int (nI (ps_ch q len i - 48))))) M') (h0 : ¬ (r = true ∧ 48 ≤ ps_ch q len i ∧ ps_ch q len i ≤ 48 + k) → ∀ M', mp M0 M' (i + 1) false → Q (.inl (some (.int 0))) M') : am_W kM_digit 0 (am_in kM_digit [.ref 27, .int (nI k)]) [] M Q := by
  have hl := ps_ch_lt ht i
  show am_W kM_digit 0 _ [] M Q
  refine am_aload_n d66_0 rfl ?_
  refine am_cv0 64 d66_1 ml66_122 rfl (by decide) sh_27 rfl  (Nat.le_of_ble_eq_true rfl) ?_
  refine m_peek ht hp hi ?_
  show am_W 66 4 _ (.int _ :: _) _ _
  refine am_bipush (nI 48) d66_4 (by decide) ?_
  refine am_isub d66_6 ?_
  by_cases h48 : 48 ≤ ps_ch q len i
  · rw [pk_sub h48]
    refine am_istore_n d66_7 (Nat.le_of_ble_eq_true rfl) rfl ?_
    refine am_aload_n d66_8 rfl ?_
    refine am_aload_n d66_9 rfl ?_
    refine am_geti d66_10 fl66_126 sh_27 rfl ?_
    rw [hp.2.2.2]
    by_cases hr : r = true
    · rw [if_pos hr]
      refine am_ifeq 29 d66_13 (by decide) (fun h => absurd h (by decide)) (fun _ => ?_)
      refine am_iload_n d66_16 rfl ?_
      refine am_iflt 29 d66_17 (by decide) (fun h => absurd h (nI_pos (by omega))) (fun _ => ?_)
      refine am_iload_n d66_20 rfl ?_
      refine am_iload_n d66_21 rfl ?_
      refine am_icgt 29 d66_22 (by decide) (fun h => ?_) (fun h => ?_)
      · have hm : ¬ ps_ch q len i ≤ 48 + k := fun z => absurd h (nI_nlt (by omega) (by omega))
        refine am_iconst 0 d66_29 (by decide) ?_
        refine am_put d66_30 fl66_126 sh_27 rfl rfl (by decide) (by decide) ?_
        refine am_aload_n d66_33 rfl ?_
        refine am_dup d66_34 rfl ?_
        refine am_geti d66_35 fl66_119 sh_27 rfl ?_
        rw [am_set_self, pk_un (by decide), hp.2.2.1]
        refine am_iconst 1 d66_38 (by decide) ?_
        refine am_iadd d66_39 ?_
        rw [nI_1]
        refine am_put d66_40 fl66_119 sh_27 rfl rfl rfl rfl ?_
        refine am_aload_n d66_43 rfl ?_
        refine am_geti d66_44 fl66_126 sh_27 rfl ?_
        show am_W 66 47 _ (.int 0 :: _) _ _
        refine am_ifeq 54 d66_47 (by decide) (fun _ => ?_) (fun h => absurd h (by decide))
        refine am_iconst 0 d66_54 (by decide) ?_
        refine am_iret d66_55 rfl rfl ?_
        first | exact h1 hr h48 hm _ ((hp.rt true rfl).to (i + 1)) | exact h0 (fun z => hm z.2.2) _ ((hp.rt false rfl).to (i + 1)) | exact h0 (fun z => h48 z.2.1) _ ((hp.rt false rfl).to (i + 1)) | exact h0 (fun z => hr z.1) _ ((hp.rt false rfl).to (i + 1))
      · have hm : ps_ch q len i ≤ 48 + k := Classical.byContradiction (fun z => h (nI_lt (by omega) (by omega)))
        refine am_iconst 1 d66_25 (by decide) ?_
        refine am_goto 30 d66_26 (by decide) ?_
        refine am_put d66_30 fl66_126 sh_27 rfl rfl (by decide) (by decide) ?_
        refine am_aload_n d66_33 rfl ?_
        refine am_dup d66_34 rfl ?_
        refine am_geti d66_35 fl66_119 sh_27 rfl ?_
        rw [am_set_self, pk_un (by decide), hp.2.2.1]
        refine am_iconst 1 d66_38 (by decide) ?_
        refine am_iadd d66_39 ?_
        rw [nI_1]
        refine am_put d66_40 fl66_119 sh_27 rfl rfl rfl rfl ?_
        refine am_aload_n d66_43 rfl ?_
        refine am_geti d66_44 fl66_126 sh_27 rfl ?_
        show am_W 66 47 _ (.int 1 :: _) _ _
        refine am_ifeq 54 d66_47 (by decide) (fun h => absurd h (by decide)) (fun _ => ?_)
        refine am_iload_n d66_50 rfl ?_
        refine am_goto 55 d66_51 (by decide) ?_
        refine am_iret d66_55 rfl rfl ?_
        first | exact h1 hr h48 hm _ ((hp.rt true rfl).to (i + 1)) | exact h0 (fun z => hm z.2.2) _ ((hp.rt false rfl).to (i + 1)) | exact h0 (fun z => h48 z.2.1) _ ((hp.rt false rfl).to (i + 1)) | exact h0 (fun z => hr z.1) _ ((hp.rt false rfl).to (i + 1))
    · rw [if_neg hr]
      refine am_ifeq 29 d66_13 (by decide) (fun _ => ?_) (fun h => absurd rfl h)
      refine am_iconst 0 d66_29 (by decide) ?_
      refine am_put d66_30 fl66_126 sh_27 rfl rfl (by decide) (by decide) ?_
      refine am_aload_n d66_33 rfl ?_
      refine am_dup d66_34 rfl ?_
      refine am_geti d66_35 fl66_119 sh_27 rfl ?_
      rw [am_set_self, pk_un (by decide), hp.2.2.1]
      refine am_iconst 1 d66_38 (by decide) ?_
      refine am_iadd d66_39 ?_
      rw [nI_1]
      refine am_put d66_40 fl66_119 sh_27 rfl rfl rfl rfl ?_
      refine am_aload_n d66_43 rfl ?_
      refine am_geti d66_44 fl66_126 sh_27 rfl ?_
      show am_W 66 47 _ (.int 0 :: _) _ _
      refine am_ifeq 54 d66_47 (by decide) (fun _ => ?_) (fun h => absurd h (by decide))
      refine am_iconst 0 d66_54 (by decide) ?_
      refine am_iret d66_55 rfl rfl ?_
      first | exact h1 hr h48 hm _ ((hp.rt true rfl).to (i + 1)) | exact h0 (fun z => hm z.2.2) _ ((hp.rt false rfl).to (i + 1)) | exact h0 (fun z => h48 z.2.1) _ ((hp.rt false rfl).to (i + 1)) | exact h0 (fun z => hr z.1) _ ((hp.rt false rfl).to (i + 1))
  · skip
    refine am_istore_n d66_7 (Nat.le_of_ble_eq_true rfl) rfl ?_
    refine am_aload_n d66_8 rfl ?_
    refine am_aload_n d66_9 rfl ?_
    refine am_geti d66_10 fl66_126 sh_27 rfl ?_
    rw [hp.2.2.2]
    by_cases hr : r = true
    · rw [if_pos hr]
      refine am_ifeq 29 d66_13 (by decide) (fun h => absurd h (by decide)) (fun _ => ?_)
      refine am_iload_n d66_16 rfl ?_
      refine am_iflt 29 d66_17 (by decide) (fun _ => ?_) (fun h => absurd (pk_sneg (by decide) (by omega)) h)
      refine am_iconst 0 d66_29 (by decide) ?_
      refine am_put d66_30 fl66_126 sh_27 rfl rfl (by decide) (by decide) ?_
      refine am_aload_n d66_33 rfl ?_
      refine am_dup d66_34 rfl ?_
      refine am_geti d66_35 fl66_119 sh_27 rfl ?_
      rw [am_set_self, pk_un (by decide), hp.2.2.1]
      refine am_iconst 1 d66_38 (by decide) ?_
      refine am_iadd d66_39 ?_
      rw [nI_1]
      refine am_put d66_40 fl66_119 sh_27 rfl rfl rfl rfl ?_
      refine am_aload_n d66_43 rfl ?_
      refine am_geti d66_44 fl66_126 sh_27 rfl ?_
      show am_W 66 47 _ (.int 0 :: _) _ _
      refine am_ifeq 54 d66_47 (by decide) (fun _ => ?_) (fun h => absurd h (by decide))
      refine am_iconst 0 d66_54 (by decide) ?_
      refine am_iret d66_55 rfl rfl ?_
      first | exact h1 hr h48 hm _ ((hp.rt true rfl).to (i + 1)) | exact h0 (fun z => hm z.2.2) _ ((hp.rt false rfl).to (i + 1)) | exact h0 (fun z => h48 z.2.1) _ ((hp.rt false rfl).to (i + 1)) | exact h0 (fun z => hr z.1) _ ((hp.rt false rfl).to (i + 1))
    · rw [if_neg hr]
      refine am_ifeq 29 d66_13 (by decide) (fun _ => ?_) (fun h => absurd rfl h)
      refine am_iconst 0 d66_29 (by decide) ?_
      refine am_put d66_30 fl66_126 sh_27 rfl rfl (by decide) (by decide) ?_
      refine am_aload_n d66_33 rfl ?_
      refine am_dup d66_34 rfl ?_
      refine am_geti d66_35 fl66_119 sh_27 rfl ?_
      rw [am_set_self, pk_un (by decide), hp.2.2.1]
      refine am_iconst 1 d66_38 (by decide) ?_
      refine am_iadd d66_39 ?_
      rw [nI_1]
      refine am_put d66_40 fl66_119 sh_27 rfl rfl rfl rfl ?_
      refine am_aload_n d66_43 rfl ?_
      refine am_geti d66_44 fl66_126 sh_27 rfl ?_
      show am_W 66 47 _ (.int 0 :: _) _ _
      refine am_ifeq 54 d66_47 (by decide) (fun _ => ?_) (fun h => absurd h (by decide))
      refine am_iconst 0 d66_54 (by decide) ?_
      refine am_iret d66_55 rfl rfl ?_
      first | exact h1 hr h48 hm _ ((hp.rt true rfl).to (i + 1)) | exact h0 (fun z => hm z.2.2) _ ((hp.rt false rfl).to (i + 1)) | exact h0 (fun z => h48 z.2.1) _ ((hp.rt false rfl).to (i + 1)) | exact h0 (fun z => hr z.1) _ ((hp.rt false rfl).to (i + 1))
theorem m_isDigit {M0 M : am_M} {q : Nat → Nat} {len i : Nat} {r : Bool} {Q : am_T} (ht : tm M0 q len) (hp : mp M0 M i r) (hi : i < 2 ^ 20) (h1 : 48 ≤ ps_ch q len i ∧ ps_ch q len i < 58 → Q (.inl (some (.int 1))) M) (h0 : ¬ (48 ≤ ps_ch q len i ∧ ps_ch q len i < 58) → Q (.inl (some (.int 0))) M) : am_W kM_isDigit 0 (am_in kM_isDigit [.ref 27]) [] M Q := by
  have hl := ps_ch_lt ht i
  show am_W kM_isDigit 0 _ [] M Q
  refine am_aload_n d67_0 rfl ?_
  refine am_cv0 64 d67_1 ml67_122 rfl (by decide) sh_27 rfl  (Nat.le_of_ble_eq_true rfl) ?_
  refine m_peek ht hp hi ?_
  show am_W 67 4 _ (.int _ :: _) _ _
  refine am_bipush (nI 48) d67_4 (by decide) ?_
  refine am_iclt 22 d67_6 (by decide) (fun h6 => ?_) (fun h6 => ?_)
  · refine am_iconst 0 d67_22 (by decide) ?_
    refine am_iret d67_23 rfl (by decide) ?_
    first | exact h1 ⟨Classical.byContradiction (fun z => h6 (nI_lt (by omega) (by decide))), Classical.byContradiction (fun z => h15 (nI_lt (by omega) (by omega)))⟩ | exact h0 (fun z => absurd h15 (nI_nlt (by omega) (by omega))) | exact h0 (fun z => absurd h6 (nI_nlt (by omega) (by omega)))
  · refine am_aload_n d67_9 rfl ?_
    refine am_cv0 64 d67_10 ml67_122 rfl (by decide) sh_27 rfl  (Nat.le_of_ble_eq_true rfl) ?_
    refine m_peek ht hp hi ?_
    show am_W 67 13 _ (.int _ :: _) _ _
    refine am_bipush (nI 57) d67_13 (by decide) ?_
    refine am_icgt 22 d67_15 (by decide) (fun h15 => ?_) (fun h15 => ?_)
    · refine am_iconst 0 d67_22 (by decide) ?_
      refine am_iret d67_23 rfl (by decide) ?_
      first | exact h1 ⟨Classical.byContradiction (fun z => h6 (nI_lt (by omega) (by decide))), Classical.byContradiction (fun z => h15 (nI_lt (by omega) (by omega)))⟩ | exact h0 (fun z => absurd h15 (nI_nlt (by omega) (by omega))) | exact h0 (fun z => absurd h6 (nI_nlt (by omega) (by omega)))
    · refine am_iconst 1 d67_18 (by decide) ?_
      refine am_goto 23 d67_19 (by decide) ?_
      refine am_iret d67_23 rfl (by decide) ?_
      first | exact h1 ⟨Classical.byContradiction (fun z => h6 (nI_lt (by omega) (by decide))), Classical.byContradiction (fun z => h15 (nI_lt (by omega) (by omega)))⟩ | exact h0 (fun z => absurd h15 (nI_nlt (by omega) (by omega))) | exact h0 (fun z => absurd h6 (nI_nlt (by omega) (by omega)))
/-- from pc 16 on, all right so far: d digits may follow -/
theorem m_num_t {M0 : am_M} {q : Nat → Nat} {len : Nat} {Q : am_T} (ht : tm M0 q len) (mn : Int32) : ∀ d, d ≤ 3 → ∀ (M : am_M) (i a : Nat), mp M0 M i true → i < 2 ^ 19 + d → (∀ M' , mp M0 M' (ps_num q len (3 - d) i a).2 true → Q (.inl (some (.int (if mn = 0 then nI (ps_num q len (3 - d) i a).1 else 0 - nI (ps_num q len (3 - d) i a).1)))) M') → am_W kM_number 16 [.ref 27, .int mn, .int (nI a), .int (nI d)] [] M Q := by
  refine am_loop 3 (fun d hd ih => ?_)
  intro M i a hp hi hq
  have ex : ∀ v : Nat, (∀ M', mp M0 M' i true → Q (.inl (some (.int (if mn = 0 then nI v else 0 - nI v)))) M') → am_W kM_number 46 [.ref 27, .int mn, .int (nI v), .int (nI d)] [] M Q := by
    intro v hq
    have hz := hq M hp
    refine am_iload_n d68_46 rfl ?_
    refine am_ifeq 56 d68_47 (by decide) (fun h47 => ?_) (fun h47 => ?_)
    · refine am_iload_n d68_56 rfl ?_
      refine am_iret d68_57 rfl rfl ?_
      first | (rw [if_pos h47] at hz; exact hz) | (rw [if_neg h47] at hz; exact hz)
    · refine am_iconst 0 d68_50 (by decide) ?_
      refine am_iload_n d68_51 rfl ?_
      refine am_isub d68_52 ?_
      refine am_goto 57 d68_53 (by decide) ?_
      refine am_iret d68_57 rfl rfl ?_
      first | (rw [if_pos h47] at hz; exact hz) | (rw [if_neg h47] at hz; exact hz)
  refine am_iload_n d68_16 rfl ?_
  refine am_iconst (nI 3) d68_17 (by decide) ?_
  refine am_icgeN 46 d 3 d68_18 (by decide) rfl rfl (by omega) (by decide) (fun h => ?_) (fun h18 => ?_)
  · obtain rfl : d = 3 := by omega
    exact ex a hq
  · obtain ⟨e, he⟩ : ∃ e, 3 - d = e + 1 := ⟨3 - d - 1, by omega⟩
    have he2 : 3 - (d + 1) = e := by omega
    rw [he] at hq
    refine am_aload_n d68_21 rfl ?_
    refine am_cv0 67 d68_22 ml68_136 rfl (by decide) sh_27 rfl (Nat.le_of_ble_eq_true rfl) ?_
    refine m_isDigit ht hp (by omega) (fun gd => ?_) (fun gd => ?_)
    · show am_W 68 25 _ (.int 1 :: _) _ _
      refine am_ifeq 46 d68_25 (by decide) (fun h => absurd h (by decide)) (fun _ => ?_)
      refine am_bipush (nI 10) d68_28 (by decide) ?_
      refine am_iload_n d68_30 rfl ?_
      refine am_mulN d68_31 ?_
      refine am_aload_n d68_32 rfl ?_
      refine am_bipush (nI 9) d68_33 (by decide) ?_
      refine am_cv1 66 d68_35 ml68_133 rfl (by decide) sh_27 rfl rfl (Nat.le_of_ble_eq_true rfl) ?_
      refine m_digit ht hp (by omega) (k := 9) (by decide) (fun _ _ _ M1 p1 => ?_) (fun z => absurd ⟨rfl, gd.1, by omega⟩ z)
      show am_W 68 38 _ (.int _ :: _) _ _
      refine am_addN d68_38 ?_
      refine am_istore_n d68_39 (Nat.le_of_ble_eq_true rfl) rfl ?_
      refine am_incN d d68_40 rfl rfl ?_
      refine am_goto 16 d68_43 (by decide) ?_
      refine ih h18 M1 (i + 1) _ p1 (by omega) ?_
      rw [he2]
      simp only [ps_num] at hq
      rw [if_pos gd] at hq
      exact hq
    · show am_W 68 25 _ (.int 0 :: _) _ _
      refine am_ifeq 46 d68_25 (by decide) (fun _ => ?_) (fun h => absurd rfl h)
      simp only [ps_num] at hq
      rw [if_neg gd] at hq
      exact ex a hq
/-- the same when something was wrong -/
theorem m_num_f {M0 : am_M} {q : Nat → Nat} {len : Nat} {Q : am_T} (ht : tm M0 q len) (mn : Int32) : ∀ d, d ≤ 3 → ∀ (M : am_M) (i : Nat) (a : Int32), mp M0 M i false → i < 2 ^ 19 + d → (∀ M' j v, j < 2 ^ 19 + 3 → mp M0 M' j false → Q (.inl (some (.int v))) M') → am_W kM_number 16 [.ref 27, .int mn, .int a, .int (nI d)] [] M Q := by
  refine am_loop 3 (fun d hd ih => ?_)
  intro M i a hp hi hq
  have ex : am_W kM_number 46 [.ref 27, .int mn, .int a, .int (nI d)] [] M Q := by
    refine am_iload_n d68_46 rfl ?_
    refine am_ifeq 56 d68_47 (by decide) (fun h47 => ?_) (fun h47 => ?_)
    · refine am_iload_n d68_56 rfl ?_
      refine am_iret d68_57 rfl rfl ?_
      exact hq M i _ (by omega) hp
    · refine am_iconst 0 d68_50 (by decide) ?_
      refine am_iload_n d68_51 rfl ?_
      refine am_isub d68_52 ?_
      refine am_goto 57 d68_53 (by decide) ?_
      refine am_iret d68_57 rfl rfl ?_
      exact hq M i _ (by omega) hp
  refine am_iload_n d68_16 rfl ?_
  refine am_iconst (nI 3) d68_17 (by decide) ?_
  refine am_icgeN 46 d 3 d68_18 (by decide) rfl rfl (by omega) (by decide) (fun h => ?_) (fun h18 => ?_)
  · exact ex
  · refine am_aload_n d68_21 rfl ?_
    refine am_cv0 67 d68_22 ml68_136 rfl (by decide) sh_27 rfl (Nat.le_of_ble_eq_true rfl) ?_
    refine m_isDigit ht hp (by omega) (fun gd => ?_) (fun gd => ?_)
    · show am_W 68 25 _ (.int 1 :: _) _ _
      refine am_ifeq 46 d68_25 (by decide) (fun h => absurd h (by decide)) (fun _ => ?_)
      refine am_bipush (nI 10) d68_28 (by decide) ?_
      refine am_iload_n d68_30 rfl ?_
      refine am_imul d68_31 ?_
      refine am_aload_n d68_32 rfl ?_
      refine am_bipush (nI 9) d68_33 (by decide) ?_
      refine am_cv1 66 d68_35 ml68_133 rfl (by decide) sh_27 rfl rfl (Nat.le_of_ble_eq_true rfl) ?_
      refine m_digit ht hp (by omega) (k := 9) (by decide) (fun z => absurd z (by decide)) (fun z M1 p1 => ?_)
      show am_W 68 38 _ (.int _ :: _) _ _
      refine am_iadd d68_38 ?_
      refine am_istore_n d68_39 (Nat.le_of_ble_eq_true rfl) rfl ?_
      refine am_incN d d68_40 rfl rfl ?_
      refine am_goto 16 d68_43 (by decide) ?_
      exact ih h18 M1 (i + 1) _ p1 (by omega) hq
    · show am_W 68 25 _ (.int 0 :: _) _ _
      refine am_ifeq 46 d68_25 (by decide) (fun _ => ?_) (fun h => absurd rfl h)
      exact ex
theorem m_number {M0 M : am_M} {q : Nat → Nat} {len i : Nat} {r : Bool} {Q : am_T} (ht : tm M0 q len) (hp : mp M0 M i r) (hi : i < 2 ^ 18) (h1 : r = true → ¬ (ps_num q len 4 (ps_j q len i) 0).2 = ps_j q len i → ∀ M', mp M0 M' (ps_num q len 4 (ps_j q len i) 0).2 true → Q (.inl (some (.int (ps_sgn q len i (ps_num q len 4 (ps_j q len i) 0).1)))) M') (h0 : ¬ (r = true ∧ ¬ (ps_num q len 4 (ps_j q len i) 0).2 = ps_j q len i) → ∀ M' j v, j < 2 ^ 19 + 3 → mp M0 M' j false → Q (.inl (some (.int v))) M') : am_W kM_number 0 (am_in kM_number [.ref 27]) [] M Q := by
  have go : ∀ (mn : Int32) (j : Nat) (M1 : am_M), ps_j q len i = j → (if mn = 0 then ¬ ps_ch q len i = 45 else ps_ch q len i = 45) → mp M0 M1 j r → j ≤ i + 1 → am_W kM_number 7 [.ref 27, .int mn, .null, .null] [] M1 Q := by
    intro mn j M1 ej hmn p1 hj
    rw [ej] at h1 h0
    have hu : ps_num q len 4 j 0 = if 48 ≤ ps_ch q len j ∧ ps_ch q len j < 58 then ps_num q len 3 (j + 1) (10 * 0 + (ps_ch q len j - 48)) else (0, j) := rfl
    refine am_aload_n d68_7 rfl ?_
    refine am_bipush (nI 9) d68_8 (by decide) ?_
    refine am_cv1 66 d68_10 ml68_133 rfl (by decide) sh_27 rfl rfl (Nat.le_of_ble_eq_true rfl) ?_
    refine m_digit ht p1 (by omega) (k := 9) (by decide) (fun hr ha hb M2 p2 => ?_) (fun z M2 p2 => ?_)
    · show am_W 68 13 _ (.int _ :: _) _ _
      refine am_istore_n d68_13 (Nat.le_of_ble_eq_true rfl) rfl ?_
      refine am_iconst (nI 0) d68_14 (by decide) ?_
      refine am_istore_n d68_15 (Nat.le_of_ble_eq_true rfl) rfl ?_
      refine m_num_t ht mn 0 (by decide) M2 (j + 1) _ p2 (by omega) ?_
      rw [if_pos ⟨ha, by omega⟩, Nat.mul_zero, Nat.zero_add] at hu
      rw [hu] at h1
      have hge := ps_num_ge (q := q) (len := len) 3 (j + 1) (ps_ch q len j - 48)
      intro M' p'
      have hz := h1 hr (by omega) M' p'
      unfold ps_sgn at hz
      by_cases h0' : mn = 0
      · rw [if_pos h0'] at hmn ⊢
        rw [if_neg hmn] at hz
        exact hz
      · rw [if_neg h0'] at hmn ⊢
        rw [if_pos hmn] at hz
        rw [Int32.zero_sub]
        exact hz
    · show am_W 68 13 _ (.int _ :: _) _ _
      refine am_istore_n d68_13 (Nat.le_of_ble_eq_true rfl) rfl ?_
      refine am_iconst (nI 0) d68_14 (by decide) ?_
      refine am_istore_n d68_15 (Nat.le_of_ble_eq_true rfl) rfl ?_
      refine m_num_f ht mn 0 (by decide) M2 (j + 1) _ p2 (by omega) (h0 (fun w => z ⟨w.1, ?_⟩))
      have hw := w.2
      rw [hu] at hw
      refine Classical.byContradiction (fun nz => hw ?_)
      rw [if_neg (fun y => nz ⟨y.1, by omega⟩)]
  show am_W kM_number 0 _ [] M Q
  refine am_aload_n d68_0 rfl ?_
  refine am_bipush (nI 45) d68_1 (by decide) ?_
  refine am_cv1 65 d68_3 ml68_130 rfl (by decide) sh_27 rfl rfl (Nat.le_of_ble_eq_true rfl) ?_
  refine m_eats ht hp (by omega) (c := 45) (by decide) (fun ge M1 p1 => ?_) (fun ge M1 p1 => ?_)
  · show am_W 68 6 _ (.int 1 :: _) _ _
    refine am_istore_n d68_6 (Nat.le_of_ble_eq_true rfl) rfl ?_
    exact go 1 (i + 1) M1 (by unfold ps_j; rw [if_pos ge]) (by rw [if_neg (by decide)]; exact ge) p1 (by omega)
  · show am_W 68 6 _ (.int 0 :: _) _ _
    refine am_istore_n d68_6 (Nat.le_of_ble_eq_true rfl) rfl ?_
    exact go 0 i M1 (by unfold ps_j; rw [if_neg ge]) (by rw [if_pos rfl]; exact ge) p1 (by omega)
