/-! Branches.limitSight -/
/-- what is known of the branches' parents and forks -/
def bp_P (par fk : Nat → Int32) (pn : Nat → Nat) (nb : Nat) : Prop := nb ≤ 6 ∧ (∀ b, 0 < b → b < nb → pn b < b) ∧ (∀ b, 0 < b → b < nb → par b = nI (pn b)) ∧ ∀ b, b < nb → 0 ≤ fk b
/-- how far the limits are set: from branch h, at moment u, on -/
def ls_I (b : Nat) (m : Int32) (M0 : am_M) (pn : Nat → Nat) (c : Nat) (M : am_M) (h : Nat) (u : Int32) : Prop :=
  fr [5] M0 M ∧ (∀ j, c < j → M.1 5 j = mt_f pn (M0.1 3) b b m j ∨ 6 ≤ j) ∧ h ≤ c ∧ M.1 5 h = u ∧ 0 ≤ u ∧ (∀ j, j ≤ c → j ≠ h → M.1 5 j = -1) ∧ ∀ j, j ≤ c → mt_f pn (M0.1 3) b b m j = mt_f pn (M0.1 3) h h u j
set_option maxHeartbeats 1000000 in
theorem c_limitSight {b nb : Nat} {m : Int32} {pn : Nat → Nat} {M : am_M} {Q : am_T} (hB : bp_P (M.1 2) (M.1 3) pn nb) (hb : b < nb) (hm : 0 ≤ m) (hQ : ∀ M', fr [5] M M' → (∀ j, j < 6 → M'.1 5 j = mt_f pn (M.1 3) b b m j) → Q (.inl none) M') : am_W kB_limitSight 0 (am_in kB_limitSight [.ref 1, .int (nI b), .int m]) [] M Q := by
  obtain ⟨h6, hpn, hpar, hfk⟩ := hB
  have hb6 : b < 6 := by omega
  have hdec : ∀ {c : Nat}, 0 < c → nI c + Int32.ofInt (-1) = nI (c - 1) := fun {c} h => by
    obtain ⟨c', rfl⟩ : ∃ c', c = c' + 1 := ⟨c - 1, by omega⟩
    exact pk_m1 c'
  have loop : ∀ c, c ≤ b → ∀ (M1 : am_M) (h : Nat) (u : Int32), ls_I b m M pn c M1 h u → am_W kB_limitSight 17 [.ref 1, .int (nI b), .int m, .int (nI c)] [] M1 Q := by
    intro c
    induction c using Nat.strongRecOn with
    | _ c ih =>
    intro hcb M1 h u I
    have hend : c = 0 → Q (.inl none) M1 := by
      intro hc
      subst hc
      obtain ⟨i1, i2, i3, i4, i5, i6, i7⟩ := I
      refine hQ M1 i1 (fun j hj => ?_)
      by_cases h0 : j = 0
      · subst h0
        obtain rfl : h = 0 := by omega
        rw [i4, i7 0 (Nat.le_refl _), mt_f_self]
      · exact (i2 j (by omega)).resolve_right (by omega)
    have skip : 0 < c → h ≠ c → ls_I b m M pn (c - 1) M1 h u := by
      intro h0 hne
      obtain ⟨i1, i2, i3, i4, i5, i6, i7⟩ := I
      refine ⟨i1, fun j hj => ?_, by omega, i4, i5, fun j hj => i6 j (by omega), fun j hj => i7 j (by omega)⟩
      by_cases hjc : j = c
      · subst hjc
        refine Or.inl ?_
        rw [i6 j (Nat.le_refl _) (fun z => hne z.symm), i7 j (Nat.le_refl _)]
        exact (mt_f_above hpn _ _ _ _ (by omega) (Nat.le_refl _) (by omega)).symm
      · exact i2 j (by omega)
    have take : 0 < c → h = c → ls_I b m M pn (c - 1) (am_set M1 5 (pn c) (mt_min u (M.1 3 c))) (pn c) (mt_min u (M.1 3 c)) := by
      intro h0 he
      subst he
      obtain ⟨i1, i2, i3, i4, i5, i6, i7⟩ := I
      have hp := hpn h h0 (by omega)
      refine ⟨i1.set (by decide), fun j hj => ?_, by omega, by rw [am_set_self]; simp [upd], mt_min_pos i5 (hfk h (by omega)), fun j hj hne => ?_, fun j hj => ?_⟩
      · rw [am_set_self]
        unfold upd
        rw [if_neg (by omega)]
        by_cases hjc : j = h
        · subst hjc
          refine Or.inl ?_
          rw [i4, i7 j (Nat.le_refl _), mt_f_self]
        · exact i2 j (by omega)
      · rw [am_set_self]
        unfold upd
        rw [if_neg hne]
        exact i6 j (by omega) (by omega)
      · rw [i7 j (by omega)]
        exact mt_f_down hpn (by omega) h0 (by omega)
    have e2 : M1.1 2 = M.1 2 := I.1.eq 2 (by decide)
    have e3 : M1.1 3 = M.1 3 := I.1.eq 3 (by decide)
    have hu : M1.1 5 h = u := I.2.2.2.1
    have hu0 : 0 ≤ u := I.2.2.2.2.1
    have hz : ∀ j, j ≤ c → j ≠ h → M1.1 5 j = -1 := I.2.2.2.2.2.1
    refine am_iload_n d79_17 rfl ?_
    refine am_ifle 63 d79_18 (by decide) (fun h18 => ?_) (fun h18 => ?_)
    · have hc0 : c = 0 := Classical.byContradiction (fun z => absurd h18 (nI_nle (Nat.pos_of_ne_zero z) (by omega)))
      refine am_vret d79_63 rfl ?_
      exact hend hc0
    · have hc0 : 0 < c := Nat.pos_of_ne_zero (fun z => h18 (by rw [z]; decide))
      refine am_aload_n d79_21 rfl ?_
      refine am_getr d79_22 fl79_22 sh_1 rfl ?_
      refine am_iload_n d79_25 rfl ?_
      refine am_ialdN c d79_26 sh_5 (by omega) (by decide) ?_
      refine am_iconst (-1) d79_27 (by decide) ?_
      refine am_iceq 57 d79_28 (by decide) (fun h28 => ?_) (fun h28 => ?_)
      · have hne : h ≠ c := fun z => mt_pos_ne hu0 (by rw [← hu, z]; exact h28)
        refine am_iinc (nI (c - 1)) d79_57 rfl (hdec hc0) rfl ?_
        refine am_goto 17 d79_60 (by decide) ?_
        exact ih (c - 1) (by omega) (by omega) M1 h u (skip hc0 hne)
      · have hch : h = c := Classical.byContradiction (fun z => h28 (hz c (Nat.le_refl _) (fun q => z q.symm)))
        refine am_aload_n d79_31 rfl ?_
        refine am_getr d79_32 fl79_22 sh_1 rfl ?_
        refine am_aload_n d79_35 rfl ?_
        refine am_getr d79_36 fl79_9 sh_1 rfl ?_
        refine am_iload_n d79_39 rfl ?_
        refine am_ialdN c d79_40 sh_2 (by omega) (by decide) ?_
        refine am_aload_n d79_41 rfl ?_
        refine am_getr d79_42 fl79_22 sh_1 rfl ?_
        refine am_iload_n d79_45 rfl ?_
        refine am_ialdN c d79_46 sh_5 (by omega) (by decide) ?_
        refine am_aload_n d79_47 rfl ?_
        refine am_getr d79_48 fl79_15 sh_1 rfl ?_
        refine am_iload_n d79_51 rfl ?_
        refine am_ialdN c d79_52 sh_3 (by omega) (by decide) ?_
        refine am_min d79_53 (by decide) (by decide) (Nat.le_of_ble_eq_true rfl) ?_
        refine am_iastE (pn c) (by rw [e2]; exact hpar c hc0 (by omega)) d79_56 sh_5 (by have := hpn c hc0 (by omega); omega) (by decide) ?_
        refine am_iinc (nI (c - 1)) d79_57 rfl (hdec hc0) rfl ?_
        refine am_goto 17 d79_60 (by decide) ?_
        have ht := take hc0 hch
        have hval : (if M1.1 3 c < M1.1 5 c then M1.1 3 c else M1.1 5 c) = mt_min u (M.1 3 c) := by rw [e3, ← hch, hu]; rfl
        rw [hval]
        exact ih (c - 1) (by omega) (by omega) _ _ _ ht
  have start : ls_I b m M pn b (am_set (am_fill M 5 6 (-1)) 5 b m) b m := by
    refine ⟨(am_fill_fr fr.rf (by decide)).set (by decide), fun j hj => ?_, Nat.le_refl _, by rw [am_set_self]; simp [upd], hm, fun j hj hne => ?_, fun j hj => rfl⟩
    · by_cases h : j < 6
      · refine Or.inl ?_
        rw [am_set_self]
        unfold upd
        rw [if_neg (by omega), am_fill_self h]
        exact (mt_f_above hpn _ _ _ _ hb (Nat.le_refl _) hj).symm
      · exact Or.inr (by omega)
    · rw [am_set_self]
      unfold upd
      rw [if_neg hne]
      exact am_fill_self (by omega)
  show am_W kB_limitSight 0 [.ref 1, .int (nI b), .int m, .null] [] M Q
  refine am_aload_n d79_0 rfl ?_
  refine am_getr d79_1 fl79_22 sh_1 rfl ?_
  refine am_iconst (-1) d79_4 (by decide) ?_
  refine am_cs2 129 d79_5 ml79_38 rfl (by decide) rfl rfl rfl (Nat.le_of_ble_eq_true rfl) ?_
  refine c_fill sh_5 (by decide) ?_
  show am_W 79 8 _ _ _ _
  refine am_aload_n d79_8 rfl ?_
  refine am_getr d79_9 fl79_22 sh_1 rfl ?_
  refine am_iload_n d79_12 rfl ?_
  refine am_iload_n d79_13 rfl ?_
  refine am_iastN b d79_14 sh_5 hb6 (by decide) ?_
  refine am_iload_n d79_15 rfl ?_
  refine am_istore_n d79_16 (Nat.le_of_ble_eq_true rfl) rfl ?_
  exact loop b (Nat.le_refl _) _ b m start
