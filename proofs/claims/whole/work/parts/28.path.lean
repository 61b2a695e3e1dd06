/-! Path: comparisons, steps, the whole text -/
theorem c_takeComparison {v f : Nat} {M0 M : am_M} {q : Nat → Nat} {len i : Nat} {s : Int32} {Q : am_T} (hv : bv v) (hf : f < 4) (ht : tx M0 q len) (hp : pm M0 M i s) (hi : i < 2 ^ 28)
    (hQ1 : ∀ M' r, ps_cmp (M0.1 (v + 1)) (M0.1 (v + 2)) q len s f i = some r → pm M0 M' r.2 r.1 → Q (.inl (some (.int 1))) M') (hQ0 : ∀ M' j t, ps_cmp (M0.1 (v + 1)) (M0.1 (v + 2)) q len s f i = none → pm M0 M' j t → Q (.inl (some (.int 0))) M') : am_W kP_takeComparison 0 (am_in kP_takeComparison [.ref 25, .ref v, .int (nI f)]) [] M Q := by
  have htx := ht
  obtain ⟨t1, t2, t3⟩ := ht
  have v13 : v ≤ 21 := by rcases hv with rfl | rfl | rfl <;> decide
  have cont : ∀ (M1 : am_M) (c : Nat), c < 127 → pm M0 M1 (i + 1) s → ps_ch q len i = c → (c = 60 ∨ c = 61 ∨ c = 62) → am_W kP_takeComparison 25 [.ref 25, .ref v, .int (nI f), .int (nI c), .null] [] M1 Q := by
    intro M1 c hc p1 hch hcc
    refine am_aload_n d89_25 rfl ?_
    refine am_cv0 90 d89_26 ml89_72 rfl (by decide) sh_25 rfl (Nat.le_of_ble_eq_true rfl) ?_
    refine c_takeNumber htx p1 (by omega) (fun M2 p2 => ?_)
    show am_W 89 29 _ (.int _ :: _) _ _
    refine am_istore d89_29 (Nat.le_of_ble_eq_true rfl) rfl ?_
    refine am_iload d89_31 rfl ?_
    refine am_sipush 10000 d89_33 (by decide) ?_
    have hu : ps_cmp (M0.1 (v + 1)) (M0.1 (v + 2)) q len s f i = (if (ps_num q len 4 (ps_j q len (i + 1)) 0).2 = ps_j q len (i + 1) then none else if ps_ch q len (ps_num q len 4 (ps_j q len (i + 1)) 0).2 = 93 then some (sp_num (M0.1 (v + 1)) (M0.1 (v + 2)) s f (nI (ps_ch q len i)) (ps_sgn q len (i + 1) (ps_num q len 4 (ps_j q len (i + 1)) 0).1), (ps_num q len 4 (ps_j q len (i + 1)) 0).2 + 1) else none) := by
      unfold ps_cmp
      rw [if_pos (by rw [hch]; exact hcc)]
    have hb := ps_num_ge (q := q) (len := len) 4 (ps_j q len (i + 1)) 0
    have hjb : ps_j q len (i + 1) ≤ i + 2 := by unfold ps_j; split <;> omega
    by_cases hd : (ps_num q len 4 (ps_j q len (i + 1)) 0).2 = ps_j q len (i + 1)
    · rw [if_pos hd] at hu
      refine am_iceq 48 d89_36 (by decide) (fun _ => ?_) (fun h => absurd (if_pos hd) h)
      refine am_iconst 0 d89_48 (by decide) ?_
      exact am_iret d89_49 rfl (by decide) (hQ0 _ _ _ hu p2)
    · rw [if_neg hd] at hu
      rw [if_neg hd]
      refine am_iceq 48 d89_36 (by decide) (fun h => absurd h (ps_sgn_ne ps_num4)) (fun _ => ?_)
      refine am_aload_n d89_39 rfl ?_
      refine am_bipush (nI 93) d89_40 (by decide) ?_
      refine am_cv1 92 d89_42 ml89_58 rfl (by decide) sh_25 rfl rfl (Nat.le_of_ble_eq_true rfl) ?_
      refine c_takes htx p2 (by omega) (by decide) (fun g1 g2 M3 p3 => ?_) (fun g0 => ?_)
      · show am_W 89 45 _ (.int 1 :: _) _ _
        have hc93 : ps_ch q len (ps_num q len 4 (ps_j q len (i + 1)) 0).2 = 93 := by rw [ps_in g1]; exact g2
        rw [if_pos hc93] at hu
        refine am_ifne 50 d89_45 (by decide) (fun _ => ?_) (fun h => absurd h (by decide))
        refine am_aload_n d89_50 rfl ?_
        refine am_aload_n d89_51 rfl ?_
        refine am_aload_n d89_52 rfl ?_
        refine am_geti d89_53 fl89_22 sh_25 rfl ?_
        refine am_iload_n d89_56 rfl ?_
        refine am_iload_n d89_57 rfl ?_
        refine am_iload d89_58 rfl ?_
        refine am_cv4 100 d89_60 ml89_76 rfl (by decide) (bv_0 hv) rfl rfl rfl rfl rfl (Nat.le_of_ble_eq_true rfl) ?_
        refine c_withNumber hv hf ?_
        show am_W 89 63 _ (.int _ :: _) _ _
        refine am_put d89_63 fl89_22 sh_25 rfl rfl rfl rfl ?_
        refine am_iconst 1 d89_66 (by decide) ?_
        refine am_iret d89_67 rfl (by decide) (hQ1 _ _ hu ?_)
        rw [p3.2.2.2, p3.1.eq (v + 1) (by simp; omega), p3.1.eq (v + 2) (by simp; omega), hch]
        exact p3.st _
      · show am_W 89 45 _ (.int 0 :: _) _ _
        have hc93 : ¬ ps_ch q len (ps_num q len 4 (ps_j q len (i + 1)) 0).2 = 93 := by
          intro z
          by_cases h : (ps_num q len 4 (ps_j q len (i + 1)) 0).2 < len
          · exact g0 ⟨h, by rw [← ps_in (q := q) h]; exact z⟩
          · rw [ps_out h] at z; cases z
        rw [if_neg hc93] at hu
        refine am_ifne 50 d89_45 (by decide) (fun h => absurd rfl h) (fun _ => ?_)
        refine am_iconst 0 d89_48 (by decide) ?_
        exact am_iret d89_49 rfl (by decide) (hQ0 _ _ _ hu p2)
  have sgn : ∀ (M1 : am_M) (c j : Nat), c < 127 → pm M0 M1 j s → ps_ch q len i = c → ((c = 60 ∨ c = 61 ∨ c = 62) → j = i + 1) → am_W kP_takeComparison 5 [.ref 25, .ref v, .int (nI f), .int (nI c), .null] [] M1 Q := by
    intro M1 c j hc p1 hch hj
    refine am_iload_n d89_5 rfl ?_
    refine am_bipush (nI 60) d89_6 (by decide) ?_
    refine am_iceq 25 d89_8 (by decide) (fun h => ?_) (fun h8 => ?_)
    · have hc0 : c = 60 := (nI_eq (by omega) (by decide)).mp h
      have hj := hj (Or.inl hc0)
      subst hj
      exact cont M1 c hc p1 hch (Or.inl hc0)
    refine am_iload_n d89_11 rfl ?_
    refine am_bipush (nI 61) d89_12 (by decide) ?_
    refine am_iceq 25 d89_14 (by decide) (fun h => ?_) (fun h14 => ?_)
    · have hc0 : c = 61 := (nI_eq (by omega) (by decide)).mp h
      have hj := hj (Or.inr (Or.inl hc0))
      subst hj
      exact cont M1 c hc p1 hch (Or.inr (Or.inl hc0))
    refine am_iload_n d89_17 rfl ?_
    refine am_bipush (nI 62) d89_18 (by decide) ?_
    refine am_iceq 25 d89_20 (by decide) (fun h => ?_) (fun h20 => ?_)
    · have hc0 : c = 62 := (nI_eq (by omega) (by decide)).mp h
      have hj := hj (Or.inr (Or.inr hc0))
      subst hj
      exact cont M1 c hc p1 hch (Or.inr (Or.inr hc0))
    refine am_iconst 0 d89_23 (by decide) ?_
    refine am_iret d89_24 rfl (by decide) (hQ0 _ _ _ ?_ p1)
    unfold ps_cmp
    rw [if_neg]
    rw [hch]
    rintro (z | z | z)
    · exact h8 (by rw [z])
    · exact h14 (by rw [z])
    · exact h20 (by rw [z])
  show am_W kP_takeComparison 0 _ [] M Q
  refine am_aload_n d89_0 rfl ?_
  refine am_cv0 91 d89_1 ml89_37 rfl (by decide) sh_25 rfl (Nat.le_of_ble_eq_true rfl) ?_
  refine c_next htx hp (by omega) (fun g1 M1 p1 => ?_) (fun g0 => ?_)
  · show am_W 89 4 _ (.int _ :: _) _ _
    refine am_istore_n d89_4 (Nat.le_of_ble_eq_true rfl) rfl ?_
    exact sgn M1 (q i) (i + 1) (t3 i g1).2 p1 (ps_in g1) (fun _ => rfl)
  · show am_W 89 4 _ (.int _ :: _) _ _
    refine am_istore_n d89_4 (Nat.le_of_ble_eq_true rfl) rfl ?_
    exact sgn M 0 i (by decide) hp (ps_out (by omega)) (fun z => by omega)
theorem c_takeStep {v : Nat} {M0 M : am_M} {q : Nat → Nat} {len i : Nat} {s : Int32} {Q : am_T} (hv : bv v) (ht : tx M0 q len) (hp : pm M0 M i s) (hi : i < len)
    (hQ1 : ∀ M' r, ps_step (M0.1 (v + 1)) (M0.1 (v + 2)) q len s i = some r → pm M0 M' r.2 r.1 → Q (.inl (some (.int 1))) M') (hQ0 : ∀ M' j t, ps_step (M0.1 (v + 1)) (M0.1 (v + 2)) q len s i = none → pm M0 M' j t → Q (.inl (some (.int 0))) M') : am_W kP_takeStep 0 (am_in kP_takeStep [.ref 25, .ref v]) [] M Q := by
  have htx := ht
  obtain ⟨t1, t2, t3⟩ := ht
  have v13 : v ≤ 21 := by rcases hv with rfl | rfl | rfl <;> decide
  have hci : ps_ch q len i = q i := ps_in hi
  have hqi := (t3 i hi).2
  have bad : ∀ (M1 : am_M) (j : Nat) (x y : Value), ps_step (M0.1 (v + 1)) (M0.1 (v + 2)) q len s i = none → pm M0 M1 j s → am_W kP_takeStep 22 [.ref 25, .ref v, x, y] [] M1 Q := by
    intro M1 j x y hu p1
    refine am_iconst 0 d86_22 (by decide) ?_
    exact am_iret d86_23 rfl (by decide) (hQ0 _ _ _ hu p1)
  have good : ∀ (M1 : am_M) (f : Nat), f < 4 → ps_ch q len (i + 1) = f + 48 → pm M0 M1 (i + 2) s → am_W kP_takeStep 24 [.ref 25, .ref v, .int (nI (q i)), .int (nI f)] [] M1 Q := by
    intro M1 f hf hcf p1
    have hu : ps_step (M0.1 (v + 1)) (M0.1 (v + 2)) q len s i = (if q i = 46 then some (ps_mv (fun t => sp_refd (M0.1 (v + 1)) (M0.1 (v + 2)) t f) q len s (i + 2)) else if q i = 94 then some (ps_mv (fun t => sp_refg (M0.1 (v + 1)) (M0.1 (v + 2)) t f) q len s (i + 2)) else if q i = 91 then ps_cmp (M0.1 (v + 1)) (M0.1 (v + 2)) q len s f (i + 2) else if q i = 63 then some (sp_non (M0.1 (v + 1)) s f, i + 2) else none) := by
      unfold ps_step
      rw [if_pos (by omega), hci, hcf, Nat.add_sub_cancel]
    have mv : ∀ fw : Int32, (fw = 0 → q i = 94) → (¬ fw = 0 → q i = 46) → am_W kP_takeStep 49 [.ref 25, .ref v, .int (nI (q i)), .int (nI f)] [.int fw, .ref v, .ref 25] M1 Q := by
      intro fw h1 h2
      refine am_iload_n d86_49 rfl ?_
      refine am_cv3 87 d86_50 ml86_45 rfl (by decide) sh_25 rfl rfl rfl rfl (Nat.le_of_ble_eq_true rfl) ?_
      refine c_move hv hf htx p1 (by omega) (fun M2 p2 => ?_)
      show am_W 86 53 _ _ _ _
      refine am_iconst 1 d86_53 (by decide) ?_
      refine am_iret d86_54 rfl (by decide) ?_
      by_cases hfw : fw = 0
      · have h94 := h1 hfw
        rw [if_neg (by omega), if_pos h94] at hu
        refine hQ1 _ _ hu ?_
        simp only [if_pos hfw] at p2
        exact p2
      · have h46 := h2 hfw
        rw [if_pos h46] at hu
        refine hQ1 _ _ hu ?_
        simp only [if_neg hfw] at p2
        exact p2
    refine am_iload_n d86_24 rfl ?_
    refine am_bipush (nI 46) d86_25 (by decide) ?_
    refine am_iceq 36 d86_27 (by decide) (fun h => ?_) (fun h27 => ?_)
    · have h46 : q i = 46 := (nI_eq (by omega) (by decide)).mp h
      refine am_aload_n d86_36 rfl ?_
      refine am_aload_n d86_37 rfl ?_
      refine am_iload_n d86_38 rfl ?_
      refine am_bipush (nI 46) d86_39 (by decide) ?_
      refine am_icne 48 d86_41 (by decide) (fun z => absurd h z) (fun _ => ?_)
      refine am_iconst 1 d86_44 (by decide) ?_
      refine am_goto 49 d86_45 (by decide) ?_
      exact mv 1 (fun z => absurd z (by decide)) (fun _ => h46)
    have n46 : ¬ q i = 46 := fun z => h27 (by rw [z])
    rw [if_neg n46] at hu
    refine am_iload_n d86_30 rfl ?_
    refine am_bipush (nI 94) d86_31 (by decide) ?_
    refine am_icne 55 d86_33 (by decide) (fun h33 => ?_) (fun h => ?_)
    · have n94 : ¬ q i = 94 := fun z => h33 (by rw [z])
      rw [if_neg n94] at hu
      refine am_iload_n d86_55 rfl ?_
      refine am_bipush (nI 91) d86_56 (by decide) ?_
      refine am_icne 68 d86_58 (by decide) (fun h58 => ?_) (fun h => ?_)
      · have n91 : ¬ q i = 91 := fun z => h58 (by rw [z])
        rw [if_neg n91] at hu
        refine am_iload_n d86_68 rfl ?_
        refine am_bipush (nI 63) d86_69 (by decide) ?_
        refine am_icne 89 d86_71 (by decide) (fun h71 => ?_) (fun h => ?_)
        · have n63 : ¬ q i = 63 := fun z => h71 (by rw [z])
          rw [if_neg n63] at hu
          refine am_iconst 0 d86_89 (by decide) ?_
          exact am_iret d86_90 rfl (by decide) (hQ0 _ _ _ hu p1)
        · have h63 : q i = 63 := (nI_eq (by omega) (by decide)).mp h
          rw [if_pos h63] at hu
          refine am_aload_n d86_74 rfl ?_
          refine am_aload_n d86_75 rfl ?_
          refine am_aload_n d86_76 rfl ?_
          refine am_geti d86_77 fl86_22 sh_25 rfl ?_
          refine am_iload_n d86_80 rfl ?_
          refine am_cv2 101 d86_81 ml86_53 rfl (by decide) (bv_0 hv) rfl rfl rfl (Nat.le_of_ble_eq_true rfl) ?_
          refine c_withNothing hv hf ?_
          show am_W 86 84 _ (.int _ :: _) _ _
          refine am_put d86_84 fl86_22 sh_25 rfl rfl rfl rfl ?_
          refine am_iconst 1 d86_87 (by decide) ?_
          refine am_iret d86_88 rfl (by decide) (hQ1 _ _ hu ?_)
          rw [p1.2.2.2, p1.1.eq (v + 1) (by simp; omega)]
          exact p1.st _
      · have h91 : q i = 91 := (nI_eq (by omega) (by decide)).mp h
        rw [if_pos h91] at hu
        refine am_aload_n d86_61 rfl ?_
        refine am_aload_n d86_62 rfl ?_
        refine am_iload_n d86_63 rfl ?_
        refine am_cv2 89 d86_64 ml86_49 rfl (by decide) sh_25 rfl rfl rfl (Nat.le_of_ble_eq_true rfl) ?_
        refine c_takeComparison hv hf htx p1 (by omega) (fun M2 r hr p2 => ?_) (fun M2 j t hr p2 => ?_)
        · show am_W 86 67 _ (.int 1 :: _) _ _
          exact am_iret d86_67 rfl (by decide) (hQ1 _ _ (hu.trans hr) p2)
        · show am_W 86 67 _ (.int 0 :: _) _ _
          exact am_iret d86_67 rfl (by decide) (hQ0 _ _ _ (hu.trans hr) p2)
    · have h94 : q i = 94 := (nI_eq (by omega) (by decide)).mp h
      refine am_aload_n d86_36 rfl ?_
      refine am_aload_n d86_37 rfl ?_
      refine am_iload_n d86_38 rfl ?_
      refine am_bipush (nI 46) d86_39 (by decide) ?_
      refine am_icne 48 d86_41 (by decide) (fun _ => ?_) (fun z => absurd z h27)
      refine am_iconst 0 d86_48 (by decide) ?_
      have hu2 := hu
      exact mv 0 (fun _ => h94) (fun z => absurd rfl z)
  have noU : ¬ (48 ≤ ps_ch q len (i + 1) ∧ ps_ch q len (i + 1) < 52) → ps_step (M0.1 (v + 1)) (M0.1 (v + 2)) q len s i = none := fun z => by unfold ps_step; rw [if_neg z]
  show am_W kP_takeStep 0 _ [] M Q
  refine am_aload_n d86_0 rfl ?_
  refine am_cv0 91 d86_1 ml86_37 rfl (by decide) sh_25 rfl (Nat.le_of_ble_eq_true rfl) ?_
  refine c_next htx hp (by omega) (fun _ M1 p1 => ?_) (fun g0 => absurd hi (by omega))
  show am_W 86 4 _ (.int _ :: _) _ _
  refine am_istore_n d86_4 (Nat.le_of_ble_eq_true rfl) rfl ?_
  refine am_aload_n d86_5 rfl ?_
  refine am_cv0 91 d86_6 ml86_37 rfl (by decide) sh_25 rfl (Nat.le_of_ble_eq_true rfl) ?_
  refine c_next htx p1 (by omega) (fun g1 M2 p2 => ?_) (fun g0 => ?_)
  · show am_W 86 9 _ (.int _ :: _) _ _
    have hq1 := (t3 _ g1).2
    have hc1 : ps_ch q len (i + 1) = q (i + 1) := ps_in g1
    refine am_bipush (nI 48) d86_9 (by decide) ?_
    refine am_isub d86_11 ?_
    by_cases h48 : 48 ≤ q (i + 1)
    · rw [pk_sub h48]
      refine am_istore_n d86_12 (Nat.le_of_ble_eq_true rfl) rfl ?_
      refine am_iload_n d86_13 rfl ?_
      refine am_iflt 22 d86_14 (by decide) (fun h => absurd h (nI_pos (by omega))) (fun _ => ?_)
      refine am_iload_n d86_17 rfl ?_
      refine am_iconst (nI 4) d86_18 (by decide) ?_
      refine am_icltN 24 (q (i + 1) - 48) 4 d86_19 (by decide) rfl rfl (by omega) (by decide) (fun h19 => ?_) (fun h19 => ?_)
      · exact good M2 _ h19 (by rw [hc1]; omega) p2
      · exact bad M2 _ _ _ (noU (by rw [hc1]; omega)) p2
    · refine am_istore_n d86_12 (Nat.le_of_ble_eq_true rfl) rfl ?_
      refine am_iload_n d86_13 rfl ?_
      refine am_iflt 22 d86_14 (by decide) (fun _ => ?_) (fun h => absurd (pk_sneg (by decide) (by omega)) h)
      exact bad M2 _ _ _ (noU (by rw [hc1]; omega)) p2
  · show am_W 86 9 _ (.int _ :: _) _ _
    refine am_bipush (nI 48) d86_9 (by decide) ?_
    refine am_isub d86_11 ?_
    refine am_istore_n d86_12 (Nat.le_of_ble_eq_true rfl) rfl ?_
    refine am_iload_n d86_13 rfl ?_
    refine am_iflt 22 d86_14 (by decide) (fun _ => ?_) (fun h => absurd (by decide) h)
    exact bad M1 _ _ _ (noU (by rw [ps_out (by omega)]; omega)) p1
theorem c_takeStart {M0 M : am_M} {q : Nat → Nat} {len : Nat} {s : Int32} {Q : am_T} (ht : tx M0 q len) (hp : pm M0 M 0 s)
    (hQ1 : ∀ M' t, ps_start q len = some t → pm M0 M' 1 t → Q (.inl (some (.int 1))) M') (hQ0 : ∀ M' j, ps_start q len = none → pm M0 M' j s → Q (.inl (some (.int 0))) M') : am_W kP_takeStart 0 (am_in kP_takeStart [.ref 25]) [] M Q := by
  have htx := ht
  obtain ⟨t1, t2, t3⟩ := ht
  have main : ∀ (M1 : am_M) (c j : Nat), c < 127 → ps_ch q len 0 = c → pm M0 M1 j s → (c ≠ 0 → j = 1) → am_W kP_takeStart 5 [.ref 25, .int (nI c)] [] M1 Q := by
    intro M1 c j hc hch p1 hj
    refine am_iload_n d85_5 rfl ?_
    refine am_bipush (nI 42) d85_6 (by decide) ?_
    refine am_icne 20 d85_8 (by decide) (fun h8 => ?_) (fun h => ?_)
    · have n42 : ¬ c = 42 := fun z => h8 (by rw [z])
      refine am_iload_n d85_20 rfl ?_
      refine am_bipush (nI 97) d85_21 (by decide) ?_
      refine am_isub d85_23 ?_
      refine am_cs1 30 d85_24 ml85_41 rfl (by decide) rfl rfl (Nat.le_of_ble_eq_true rfl) ?_
      refine c_isObject (fun hx => ?_) (fun hx => ?_)
      · show am_W 85 27 _ (.int 1 :: _) _ _
        have hr : 97 ≤ c ∧ c < 109 := by
          obtain ⟨j, h1, h2⟩ := hx
          by_cases h97 : 97 ≤ c
          · rw [pk_sub h97] at h2
            have := (nI_eq (by omega) (by omega)).mp h2
            omega
          · exact absurd (pk_sneg (a := c) (b := 97) (by decide) (by omega)) (by rw [h2]; exact nI_pos (by omega))
        have hj1 : j = 1 := hj (by omega)
        subst hj1
        refine am_ifne 32 d85_27 (by decide) (fun _ => ?_) (fun h => absurd h (by decide))
        refine am_aload_n d85_32 rfl ?_
        refine am_iconst 1 d85_33 (by decide) ?_
        refine am_iload_n d85_34 rfl ?_
        refine am_bipush (nI 97) d85_35 (by decide) ?_
        refine am_isub d85_37 ?_
        refine am_ishl d85_38 ?_
        refine am_put d85_39 fl85_22 sh_25 rfl rfl rfl rfl ?_
        refine am_iconst 1 d85_42 (by decide) ?_
        refine am_iret d85_43 rfl (by decide) (hQ1 _ _ ?_ (p1.st _))
        unfold ps_start
        rw [hch, if_neg n42, if_pos hr, pk_sub hr.1]
      · show am_W 85 27 _ (.int 0 :: _) _ _
        have hr : ¬ (97 ≤ c ∧ c < 109) := by
          intro z
          exact hx ⟨c - 97, by omega, by rw [pk_sub z.1]⟩
        refine am_ifne 32 d85_27 (by decide) (fun h => absurd rfl h) (fun _ => ?_)
        refine am_iconst 0 d85_30 (by decide) ?_
        refine am_iret d85_31 rfl (by decide) (hQ0 _ _ ?_ p1)
        unfold ps_start
        rw [hch, if_neg n42, if_neg hr]
    · have h42 : c = 42 := (nI_eq (by omega) (by decide)).mp h
      have hj1 : j = 1 := hj (by omega)
      subst hj1
      refine am_aload_n d85_11 rfl ?_
      refine am_sipush 4095 d85_12 (by decide) ?_
      refine am_put d85_15 fl85_22 sh_25 rfl rfl rfl rfl ?_
      refine am_iconst 1 d85_18 (by decide) ?_
      refine am_iret d85_19 rfl (by decide) (hQ1 _ _ ?_ (p1.st _))
      unfold ps_start
      rw [hch, if_pos h42]
  show am_W kP_takeStart 0 _ [] M Q
  refine am_aload_n d85_0 rfl ?_
  refine am_cv0 91 d85_1 ml85_37 rfl (by decide) sh_25 rfl (Nat.le_of_ble_eq_true rfl) ?_
  refine c_next htx hp (by decide) (fun g1 M1 p1 => ?_) (fun g0 => ?_)
  · show am_W 85 4 _ (.int _ :: _) _ _
    refine am_istore_n d85_4 (Nat.le_of_ble_eq_true rfl) rfl ?_
    exact main M1 (q 0) 1 (t3 0 g1).2 (ps_in g1) p1 (fun _ => rfl)
  · show am_W 85 4 _ (.int _ :: _) _ _
    refine am_istore_n d85_4 (Nat.le_of_ble_eq_true rfl) rfl ?_
    exact main M 0 0 (by decide) (ps_out (by omega)) hp (fun z => absurd rfl z)
theorem c_follow {v : Nat} {M : am_M} {q : Nat → Nat} {len : Nat} {Q : am_T} (hv : bv v) (ht : tx M q len) (hQ : ∀ M', fr [25] M M' → M'.1 25 1 = M.1 25 1 → Q (.inl (some (.int (ps_find (M.1 (v + 1)) (M.1 (v + 2)) q len)))) M') : am_W kP_follow 0 (am_in kP_follow [.ref 25, .ref v]) [] M Q := by
  have htx := ht
  obtain ⟨t1, t2, t3⟩ := ht
  have loop : ∀ d, d ≤ 32 → ∀ (M1 : am_M) (s : Int32) (i : Nat), pm M M1 i s → i < 2 ^ 20 → (∀ M', fr [25] M M' → M'.1 25 1 = M.1 25 1 → Q (.inl (some (.int (ps_run (ps_step (M.1 (v + 1)) (M.1 (v + 2)) q len) len (32 - d) s i)))) M') → am_W kP_follow 16 [.ref 25, .ref v, .int (nI d)] [] M1 Q := by
    refine am_loop 32 (fun d hd ih => ?_)
    intro M1 s i p1 hi hq
    have el : M1.1 25 1 = nI len := p1.2.1.trans t1
    have ea : M1.1 25 2 = nI i := p1.2.2.1
    have fin : ps_run (ps_step (M.1 (v + 1)) (M.1 (v + 2)) q len) len (32 - d) s i = s → am_W kP_follow 49 [.ref 25, .ref v, .int (nI d)] [] M1 Q := by
      intro he
      rw [he] at hq
      refine am_aload_n d84_49 rfl ?_
      refine am_geti d84_50 fl84_22 sh_25 rfl ?_
      refine am_iret d84_53 rfl rfl ?_
      rw [p1.2.2.2]
      exact hq M1 p1.1 p1.2.1
    refine am_iload_n d84_16 rfl ?_
    refine am_bipush (nI 32) d84_17 (by decide) ?_
    refine am_icgeN 49 d 32 d84_19 (by decide) rfl rfl (by omega) (by decide) (fun h19 => ?_) (fun h19 => ?_)
    · exact fin (by rw [show 32 - d = 0 by omega]; rfl)
    · have hs : 32 - d = (32 - (d + 1)) + 1 := by omega
      refine am_aload_n d84_22 rfl ?_
      refine am_geti d84_23 fl84_19 sh_25 rfl ?_
      rw [ea]
      refine am_aload_n d84_26 rfl ?_
      refine am_geti d84_27 fl84_15 sh_25 rfl ?_
      rw [el]
      refine am_icgeN 49 i len d84_30 (by decide) rfl rfl (by omega) (by omega) (fun h30 => ?_) (fun h30 => ?_)
      · exact fin (by rw [hs]; simp only [ps_run]; rw [if_neg (by omega)])
      · refine am_aload_n d84_33 rfl ?_
        refine am_aload_n d84_34 rfl ?_
        refine am_cv1 86 d84_35 ml84_33 rfl (by decide) sh_25 rfl rfl (Nat.le_of_ble_eq_true rfl) ?_
        refine c_takeStep hv htx p1 h30 (fun M2 r hr p2 => ?_) (fun M2 j t hr p2 => ?_)
        · show am_W 84 38 _ (.int 1 :: _) _ _
          refine am_ifne 43 d84_38 (by decide) (fun _ => ?_) (fun h => absurd h (by decide))
          refine am_incN d d84_43 rfl rfl ?_
          refine am_goto 16 d84_46 (by decide) ?_
          refine ih h19 M2 r.1 r.2 p2 (ps_step_le h30 t2 hr) ?_
          rw [hs] at hq
          simp only [ps_run] at hq
          rw [if_pos h30, hr] at hq
          exact hq
        · show am_W 84 38 _ (.int 0 :: _) _ _
          refine am_ifne 43 d84_38 (by decide) (fun h => absurd rfl h) (fun _ => ?_)
          refine am_iconst (-1) d84_41 (by decide) ?_
          refine am_iret d84_42 rfl rfl ?_
          rw [hs] at hq
          simp only [ps_run] at hq
          rw [if_pos h30, hr] at hq
          exact hq M2 p2.1 p2.2.1
  show am_W kP_follow 0 _ [] M Q
  refine am_aload_n d84_0 rfl ?_
  refine am_iconst 0 d84_1 (by decide) ?_
  refine am_put d84_2 fl84_19 sh_25 rfl rfl rfl rfl ?_
  have p0 : pm M (am_set M 25 2 0) 0 (M.1 25 3) := ⟨fr.rf.set (by decide), rfl, rfl, rfl⟩
  refine am_aload_n d84_5 rfl ?_
  refine am_cv0 85 d84_6 ml84_29 rfl (by decide) sh_25 rfl (Nat.le_of_ble_eq_true rfl) ?_
  refine c_takeStart htx p0 (fun M1 t hr p1 => ?_) (fun M1 j hr p1 => ?_)
  · show am_W 84 9 _ (.int 1 :: _) _ _
    refine am_ifne 14 d84_9 (by decide) (fun _ => ?_) (fun h => absurd h (by decide))
    refine am_iconst (nI 0) d84_14 (by decide) ?_
    refine am_istore_n d84_15 (Nat.le_of_ble_eq_true rfl) rfl ?_
    refine loop 0 (by decide) M1 t 1 p1 (by decide) ?_
    unfold ps_find at hQ
    rw [hr] at hQ
    exact hQ
  · show am_W 84 9 _ (.int 0 :: _) _ _
    refine am_ifne 14 d84_9 (by decide) (fun h => absurd rfl h) (fun _ => ?_)
    refine am_iconst (-1) d84_12 (by decide) ?_
    refine am_iret d84_13 rfl rfl ?_
    unfold ps_find at hQ
    rw [hr] at hQ
    exact hQ M1 p1.1 p1.2.1
