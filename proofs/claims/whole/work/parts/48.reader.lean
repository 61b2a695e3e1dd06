/-! the model: steps of a path, find, reach -/
theorem b12_it {g : Int32 → Int32} (hg : ∀ t, b12 t → b12 (g t)) : ∀ n s, b12 s → b12 (it (fun t => t ||| g t) n s) := by
  intro n
  induction n with
  | zero => intro s hs; exact hs
  | succ n ih => intro s hs; exact ih _ (b12_or hs (hg s hs))
theorem b12_clo {g : Int32 → Int32} (hg : ∀ t, b12 t → b12 (g t)) (h0 : g 0 = 0) {s : Int32} (hs : b12 s) : b12 (ps_clo g s) := by
  rw [← clo_13 hg h0 hs]
  exact b12_it hg 12 _ (b12_or hs (hg s hs))
theorem b12_step {kd vl : Nat → Int32} (hk : kv12 kd vl) {q : Nat → Nat} {len i : Nat} {s : Int32} {w : Int32 × Nat} (hs : b12 s) (h : ps_step kd vl q len s i = some w) : b12 w.1 := by
  unfold ps_step at h
  split at h
  · split at h
    · cases h; unfold ps_mv; split
      · exact b12_clo (g := fun t => sp_refd kd vl t (ps_ch q len (i + 1) - 48)) (fun t _ => b12_refd hk) refd_0 hs
      · exact b12_refd hk
    · split at h
      · cases h; unfold ps_mv; split
        · exact b12_clo (g := fun t => sp_refg kd vl t (ps_ch q len (i + 1) - 48)) (fun t _ => b12_refg) refg_0 hs
        · exact b12_refg
      · split at h
        · unfold ps_cmp at h
          split at h
          · split at h
            · cases h
            · split at h
              · cases h; exact b12_num
              · cases h
          · cases h
        · split at h
          · cases h; exact b12_non
          · cases h
  · cases h
theorem m_along {pn : Nat → Nat} {nb nw ck : Nat} {M0 M : am_M} {i b f : Nat} {r : Bool} {s x : Int32} {Q : am_T} (hS : moS M0 pn nb nw ck) (hp : mp M0 M i r) (hb : b < nb) (hf : f < 4) (hQ : Q (.inl (some (.int (sp_refd (fun c => sp_get (M0.1 34) 0 (mo_row M0 pn nw b x c)) (fun c => sp_get (M0.1 35) 0 (mo_row M0 pn nw b x c)) s f)))) M) : am_W kM_along 0 (am_in kM_along [.ref 27, .int s, .int (nI f), .int (nI b), .int x]) [] M Q := by
  refine m_along0 (moS_mp hS hp) hb hf ?_
  have e := al_eq (kd := (fun c => sp_get (M0.1 34) 0 (mo_row M0 pn nw b x c))) (vl := (fun c => sp_get (M0.1 35) 0 (mo_row M0 pn nw b x c))) (s := s) (f := f) 12
  simp only [mo_row_mp hp, hp.1.eq 34 (by decide), hp.1.eq 35 (by decide)]
  have e2 : sp_or (sp_isin s) (fun o => sp_tg (fun c => sp_get (M0.1 34) 0 (mo_row M0 pn nw b x c)) (fun c => sp_get (M0.1 35) 0 (mo_row M0 pn nw b x c)) (4 * o + f)) 12 = sp_refd (fun c => sp_get (M0.1 34) 0 (mo_row M0 pn nw b x c)) (fun c => sp_get (M0.1 35) 0 (mo_row M0 pn nw b x c)) s f := rfl
  rw [e2] at e
  rw [← e] at hQ
  exact hQ
theorem m_against {pn : Nat → Nat} {nb nw ck : Nat} {M0 M : am_M} {i b f : Nat} {r : Bool} {s x : Int32} {Q : am_T} (hS : moS M0 pn nb nw ck) (hp : mp M0 M i r) (hb : b < nb) (hf : f < 4) (hQ : Q (.inl (some (.int (sp_refg (fun c => sp_get (M0.1 34) 0 (mo_row M0 pn nw b x c)) (fun c => sp_get (M0.1 35) 0 (mo_row M0 pn nw b x c)) s f)))) M) : am_W kM_against 0 (am_in kM_against [.ref 27, .int s, .int (nI f), .int (nI b), .int x]) [] M Q := by
  refine m_against0 (moS_mp hS hp) hb hf ?_
  have e := ag_eq (kd := (fun c => sp_get (M0.1 34) 0 (mo_row M0 pn nw b x c))) (vl := (fun c => sp_get (M0.1 35) 0 (mo_row M0 pn nw b x c))) (s := s) (f := f)
  simp only [mo_row_mp hp, hp.1.eq 34 (by decide), hp.1.eq 35 (by decide)]
  rw [← e] at hQ
  exact hQ
/-- the move by a field, forward or back -/
def mvg (kd vl : Nat → Int32) (bk : Int32) (f : Nat) (t : Int32) : Int32 := if bk = 0 then sp_refd kd vl t f else sp_refg kd vl t f
theorem m_follow_c {pn : Nat → Nat} {nb nw ck : Nat} {M0 M : am_M} {q : Nat → Nat} {len i b f : Nat} {r : Bool} {s x bk : Int32} {Q : am_T} (hS : moS M0 pn nb nw ck) (ht : tm M0 q len) (hp : mp M0 M i r) (hi : i < 2 ^ 18) (hb : b < nb) (hf : f < 4) (h1 : ps_ch q len i = 126 → ∀ M', mp M0 M' (i + 1) r → Q (.inl (some (.int (it (fun t => t ||| (mvg (fun c => sp_get (M0.1 34) 0 (mo_row M0 pn nw b x c)) (fun c => sp_get (M0.1 35) 0 (mo_row M0 pn nw b x c)) bk f) t) 12 (s ||| (mvg (fun c => sp_get (M0.1 34) 0 (mo_row M0 pn nw b x c)) (fun c => sp_get (M0.1 35) 0 (mo_row M0 pn nw b x c)) bk f) s))))) M') (h0 : ¬ ps_ch q len i = 126 → ∀ M', mp M0 M' i r → Q (.inl (some (.int ((mvg (fun c => sp_get (M0.1 34) 0 (mo_row M0 pn nw b x c)) (fun c => sp_get (M0.1 35) 0 (mo_row M0 pn nw b x c)) bk f) s)))) M') : am_W kM_follow 7 [.ref 27, .int s, .int bk, .int (nI b), .int x, .int (nI f), .null, .null, .null] [] M Q := by
  have loop : ∀ (M1 : am_M) (j : Nat) (y : Int32), mp M0 M1 j r → Q (.inl (some (.int (it (fun t => t ||| (mvg (fun c => sp_get (M0.1 34) 0 (mo_row M0 pn nw b x c)) (fun c => sp_get (M0.1 35) 0 (mo_row M0 pn nw b x c)) bk f) t) 12 (s ||| (mvg (fun c => sp_get (M0.1 34) 0 (mo_row M0 pn nw b x c)) (fun c => sp_get (M0.1 35) 0 (mo_row M0 pn nw b x c)) bk f) s))))) M1 → ∀ d, d ≤ 12 → am_W kM_follow 57 [.ref 27, .int s, .int bk, .int (nI b), .int x, .int (nI f), .int y, .int (it (fun t => t ||| (mvg (fun c => sp_get (M0.1 34) 0 (mo_row M0 pn nw b x c)) (fun c => sp_get (M0.1 35) 0 (mo_row M0 pn nw b x c)) bk f) t) d (s ||| (mvg (fun c => sp_get (M0.1 34) 0 (mo_row M0 pn nw b x c)) (fun c => sp_get (M0.1 35) 0 (mo_row M0 pn nw b x c)) bk f) s)), .int (nI d)] [] M1 Q := by
    intro M1 j y p1 h1
    have fin1 : ∀ d, d < 12 → (d < 12 → am_W kM_follow 57 [.ref 27, .int s, .int bk, .int (nI b), .int x, .int (nI f), .int y, .int (it (fun t => t ||| (mvg (fun c => sp_get (M0.1 34) 0 (mo_row M0 pn nw b x c)) (fun c => sp_get (M0.1 35) 0 (mo_row M0 pn nw b x c)) bk f) t) (d + 1) (s ||| (mvg (fun c => sp_get (M0.1 34) 0 (mo_row M0 pn nw b x c)) (fun c => sp_get (M0.1 35) 0 (mo_row M0 pn nw b x c)) bk f) s)), .int (nI (d + 1))] [] M1 Q) → bk = 0 → am_W kM_follow 57 [.ref 27, .int s, .int bk, .int (nI b), .int x, .int (nI f), .int y, .int (it (fun t => t ||| (mvg (fun c => sp_get (M0.1 34) 0 (mo_row M0 pn nw b x c)) (fun c => sp_get (M0.1 35) 0 (mo_row M0 pn nw b x c)) bk f) t) d (s ||| (mvg (fun c => sp_get (M0.1 34) 0 (mo_row M0 pn nw b x c)) (fun c => sp_get (M0.1 35) 0 (mo_row M0 pn nw b x c)) bk f) s) ||| sp_refd (fun c => sp_get (M0.1 34) 0 (mo_row M0 pn nw b x c)) (fun c => sp_get (M0.1 35) 0 (mo_row M0 pn nw b x c)) (it (fun t => t ||| (mvg (fun c => sp_get (M0.1 34) 0 (mo_row M0 pn nw b x c)) (fun c => sp_get (M0.1 35) 0 (mo_row M0 pn nw b x c)) bk f) t) d (s ||| (mvg (fun c => sp_get (M0.1 34) 0 (mo_row M0 pn nw b x c)) (fun c => sp_get (M0.1 35) 0 (mo_row M0 pn nw b x c)) bk f) s)) f), .int (nI (d + 1))] [] M1 Q := by
      intro d hd ih hb0
      have hz := ih hd
      rw [it_s] at hz
      have e9 : ∀ t, (mvg (fun c => sp_get (M0.1 34) 0 (mo_row M0 pn nw b x c)) (fun c => sp_get (M0.1 35) 0 (mo_row M0 pn nw b x c)) bk f) t = sp_refd (fun c => sp_get (M0.1 34) 0 (mo_row M0 pn nw b x c)) (fun c => sp_get (M0.1 35) 0 (mo_row M0 pn nw b x c)) t f := fun t => if_pos hb0
      simp only [e9] at hz ⊢
      exact hz
    have fin2 : ∀ d, d < 12 → (d < 12 → am_W kM_follow 57 [.ref 27, .int s, .int bk, .int (nI b), .int x, .int (nI f), .int y, .int (it (fun t => t ||| (mvg (fun c => sp_get (M0.1 34) 0 (mo_row M0 pn nw b x c)) (fun c => sp_get (M0.1 35) 0 (mo_row M0 pn nw b x c)) bk f) t) (d + 1) (s ||| (mvg (fun c => sp_get (M0.1 34) 0 (mo_row M0 pn nw b x c)) (fun c => sp_get (M0.1 35) 0 (mo_row M0 pn nw b x c)) bk f) s)), .int (nI (d + 1))] [] M1 Q) → ¬ bk = 0 → am_W kM_follow 57 [.ref 27, .int s, .int bk, .int (nI b), .int x, .int (nI f), .int y, .int (it (fun t => t ||| (mvg (fun c => sp_get (M0.1 34) 0 (mo_row M0 pn nw b x c)) (fun c => sp_get (M0.1 35) 0 (mo_row M0 pn nw b x c)) bk f) t) d (s ||| (mvg (fun c => sp_get (M0.1 34) 0 (mo_row M0 pn nw b x c)) (fun c => sp_get (M0.1 35) 0 (mo_row M0 pn nw b x c)) bk f) s) ||| sp_refg (fun c => sp_get (M0.1 34) 0 (mo_row M0 pn nw b x c)) (fun c => sp_get (M0.1 35) 0 (mo_row M0 pn nw b x c)) (it (fun t => t ||| (mvg (fun c => sp_get (M0.1 34) 0 (mo_row M0 pn nw b x c)) (fun c => sp_get (M0.1 35) 0 (mo_row M0 pn nw b x c)) bk f) t) d (s ||| (mvg (fun c => sp_get (M0.1 34) 0 (mo_row M0 pn nw b x c)) (fun c => sp_get (M0.1 35) 0 (mo_row M0 pn nw b x c)) bk f) s)) f), .int (nI (d + 1))] [] M1 Q := by
      intro d hd ih hb0
      have hz := ih hd
      rw [it_s] at hz
      have e9 : ∀ t, (mvg (fun c => sp_get (M0.1 34) 0 (mo_row M0 pn nw b x c)) (fun c => sp_get (M0.1 35) 0 (mo_row M0 pn nw b x c)) bk f) t = sp_refg (fun c => sp_get (M0.1 34) 0 (mo_row M0 pn nw b x c)) (fun c => sp_get (M0.1 35) 0 (mo_row M0 pn nw b x c)) t f := fun t => if_neg hb0
      simp only [e9] at hz ⊢
      exact hz
    refine am_loop 12 (fun d hd ih => ?_)
    refine am_iload d69_57 rfl ?_
    refine am_bipush (nI 12) d69_59 (by decide) ?_
    refine am_icgeN 104 d 12 d69_61 (by decide) rfl rfl (by omega) (by decide) (fun h61 => ?_) (fun h61 => ?_)
    · refine am_iload d69_104 rfl ?_
      refine am_iret d69_106 rfl rfl ?_
      obtain rfl : d = 12 := by omega
      exact h1
    · refine am_iload d69_64 rfl ?_
      refine am_iload_n d69_66 rfl ?_
      refine am_ifeq 84 d69_67 (by decide) (fun h67 => ?_) (fun h67 => ?_)
      · refine am_aload_n d69_84 rfl ?_
        refine am_iload d69_85 rfl ?_
        refine am_iload d69_87 rfl ?_
        refine am_iload_n d69_89 rfl ?_
        refine am_iload d69_90 rfl ?_
        refine am_cv4 59 d69_92 ml69_112 rfl (by decide) sh_27 rfl rfl rfl rfl rfl (Nat.le_of_ble_eq_true rfl) ?_
        refine m_along hS p1 hb hf ?_
        show am_W 69 95 _ (.int _ :: _) _ _
        refine am_ior d69_95 ?_
        refine am_istore d69_96 (Nat.le_of_ble_eq_true rfl) rfl ?_
        refine am_incN d d69_98 rfl rfl ?_
        refine am_goto 57 d69_101 (by decide) ?_
        first | exact fin2 d h61 ih h67 | exact fin1 d h61 ih h67
      · refine am_aload_n d69_70 rfl ?_
        refine am_iload d69_71 rfl ?_
        refine am_iload d69_73 rfl ?_
        refine am_iload_n d69_75 rfl ?_
        refine am_iload d69_76 rfl ?_
        refine am_cv4 60 d69_78 ml69_140 rfl (by decide) sh_27 rfl rfl rfl rfl rfl (Nat.le_of_ble_eq_true rfl) ?_
        refine m_against hS p1 hb hf ?_
        show am_W 69 81 _ (.int _ :: _) _ _
        refine am_goto 95 d69_81 (by decide) ?_
        refine am_ior d69_95 ?_
        refine am_istore d69_96 (Nat.le_of_ble_eq_true rfl) rfl ?_
        refine am_incN d d69_98 rfl rfl ?_
        refine am_goto 57 d69_101 (by decide) ?_
        first | exact fin2 d h61 ih h67 | exact fin1 d h61 ih h67
  have mid : ∀ y, y = (mvg (fun c => sp_get (M0.1 34) 0 (mo_row M0 pn nw b x c)) (fun c => sp_get (M0.1 35) 0 (mo_row M0 pn nw b x c)) bk f) s → am_W kM_follow 34 [.ref 27, .int s, .int bk, .int (nI b), .int x, .int (nI f), .null, .null, .null] [.int y] M Q := by
    intro y hy
    subst hy
    refine am_istore d69_34 (Nat.le_of_ble_eq_true rfl) rfl ?_
    refine am_aload_n d69_36 rfl ?_
    refine am_bipush (nI 126) d69_37 (by decide) ?_
    refine am_cv1 65 d69_39 ml69_130 rfl (by decide) sh_27 rfl rfl (Nat.le_of_ble_eq_true rfl) ?_
    refine m_eats ht hp (by omega) (c := 126) (by decide) (fun ge M2 p2 => ?_) (fun ge M2 p2 => ?_)
    · show am_W 69 42 _ (.int 1 :: _) _ _
      refine am_ifne 48 d69_42 (by decide) (fun _ => ?_) (fun h => absurd h (by decide))
      refine am_iload_n d69_48 rfl ?_
      refine am_iload d69_49 rfl ?_
      refine am_ior d69_51 ?_
      refine am_istore d69_52 (Nat.le_of_ble_eq_true rfl) rfl ?_
      refine am_iconst (nI 0) d69_54 (by decide) ?_
      refine am_istore d69_55 (Nat.le_of_ble_eq_true rfl) rfl ?_
      exact loop M2 (i + 1) _ p2 (h1 ge M2 p2) 0 (by decide)
    · show am_W 69 42 _ (.int 0 :: _) _ _
      refine am_ifne 48 d69_42 (by decide) (fun h => absurd rfl h) (fun _ => ?_)
      refine am_iload d69_45 rfl ?_
      exact am_iret d69_47 rfl rfl (h0 ge M2 p2)
  refine am_iload_n d69_7 rfl ?_
  refine am_ifeq 24 d69_8 (by decide) (fun h8 => ?_) (fun h8 => ?_)
  · refine am_aload_n d69_24 rfl ?_
    refine am_iload_n d69_25 rfl ?_
    refine am_iload d69_26 rfl ?_
    refine am_iload_n d69_28 rfl ?_
    refine am_iload d69_29 rfl ?_
    refine am_cv4 59 d69_31 ml69_112 rfl (by decide) sh_27 rfl rfl rfl rfl rfl (Nat.le_of_ble_eq_true rfl) ?_
    refine m_along hS hp hb hf ?_
    show am_W 69 34 _ (.int _ :: _) _ _
    first | exact mid _ (if_neg h8).symm | exact mid _ (if_pos h8).symm
  · refine am_aload_n d69_11 rfl ?_
    refine am_iload_n d69_12 rfl ?_
    refine am_iload d69_13 rfl ?_
    refine am_iload_n d69_15 rfl ?_
    refine am_iload d69_16 rfl ?_
    refine am_cv4 60 d69_18 ml69_140 rfl (by decide) sh_27 rfl rfl rfl rfl rfl (Nat.le_of_ble_eq_true rfl) ?_
    refine m_against hS hp hb hf ?_
    show am_W 69 21 _ (.int _ :: _) _ _
    refine am_goto 34 d69_21 (by decide) ?_
    first | exact mid _ (if_neg h8).symm | exact mid _ (if_pos h8).symm
theorem m_follow {pn : Nat → Nat} {nb nw ck : Nat} {M0 M : am_M} {q : Nat → Nat} {len i b : Nat} {r : Bool} {s x : Int32} {Q : am_T} (hS : moS M0 pn nb nw ck) (ht : tm M0 q len) (hp : mp M0 M i r) (hi : i < 2 ^ 17) (hb : b < nb) {bk : Int32} (hk : kv12 (fun c => sp_get (M0.1 34) 0 (mo_row M0 pn nw b x c)) (fun c => sp_get (M0.1 35) 0 (mo_row M0 pn nw b x c))) (hs : b12 s) (h1 : r = true → 48 ≤ ps_ch q len i ∧ ps_ch q len i < 52 → ∀ M', mp M0 M' (ps_mv (mvg (fun c => sp_get (M0.1 34) 0 (mo_row M0 pn nw b x c)) (fun c => sp_get (M0.1 35) 0 (mo_row M0 pn nw b x c)) bk (ps_ch q len i - 48)) q len s (i + 1)).2 true → Q (.inl (some (.int (ps_mv (mvg (fun c => sp_get (M0.1 34) 0 (mo_row M0 pn nw b x c)) (fun c => sp_get (M0.1 35) 0 (mo_row M0 pn nw b x c)) bk (ps_ch q len i - 48)) q len s (i + 1)).1))) M') (h0 : ¬ (r = true ∧ 48 ≤ ps_ch q len i ∧ ps_ch q len i < 52) → ∀ M' j v, j < 2 ^ 19 + 10 → mp M0 M' j false → Q (.inl (some (.int v))) M') : am_W kM_follow 0 (am_in kM_follow [.ref 27, .int s, .int bk, .int (nI b), .int x]) [] M Q := by
  show am_W kM_follow 0 _ [] M Q
  refine am_aload_n d69_0 rfl ?_
  refine am_iconst (nI 3) d69_1 (by decide) ?_
  refine am_cv1 66 d69_2 ml69_133 rfl (by decide) sh_27 rfl rfl (Nat.le_of_ble_eq_true rfl) ?_
  refine m_digit ht hp (by omega) (k := 3) (by decide) (fun hr ha hc M1 p1 => ?_) (fun z M1 p1 => ?_)
  · show am_W 69 5 _ (.int _ :: _) _ _
    refine am_istore d69_5 (Nat.le_of_ble_eq_true rfl) rfl ?_
    have hg : ∀ t, b12 t → b12 (mvg (fun c => sp_get (M0.1 34) 0 (mo_row M0 pn nw b x c)) (fun c => sp_get (M0.1 35) 0 (mo_row M0 pn nw b x c)) bk (ps_ch q len i - 48) t) := fun t _ => by
      unfold mvg
      split
      · exact b12_refd hk
      · exact b12_refg
    have hg0 : mvg (fun c => sp_get (M0.1 34) 0 (mo_row M0 pn nw b x c)) (fun c => sp_get (M0.1 35) 0 (mo_row M0 pn nw b x c)) bk (ps_ch q len i - 48) 0 = 0 := by
      unfold mvg
      split
      · exact refd_0
      · exact refg_0
    refine m_follow_c hS ht p1 (by omega) hb (by omega) (fun ge M2 p2 => ?_) (fun ge M2 p2 => ?_)
    · have hz := h1 hr ⟨ha, by omega⟩ M2
      unfold ps_mv at hz
      rw [if_pos ge, ← clo_13 hg hg0 hs] at hz
      exact hz p2
    · have hz := h1 hr ⟨ha, by omega⟩ M2
      unfold ps_mv at hz
      rw [if_neg ge] at hz
      exact hz p2
  · show am_W 69 5 _ (.int _ :: _) _ _
    refine am_istore d69_5 (Nat.le_of_ble_eq_true rfl) rfl ?_
    refine m_follow_c (f := 0) hS ht p1 (by omega) hb (by decide) (fun ge M2 p2 => ?_) (fun ge M2 p2 => ?_)
    · exact h0 (fun w => z ⟨w.1, w.2.1, by omega⟩) M2 _ _ (by omega) p2
    · exact h0 (fun w => z ⟨w.1, w.2.1, by omega⟩) M2 _ _ (by omega) p2
theorem m_empty {pn : Nat → Nat} {nb nw ck : Nat} {M0 M : am_M} {q : Nat → Nat} {len i b : Nat} {r : Bool} {s x : Int32} {Q : am_T} (hS : moS M0 pn nb nw ck) (ht : tm M0 q len) (hp : mp M0 M i r) (hi : i < 2 ^ 17) (hb : b < nb) (h1 : r = true → 48 ≤ ps_ch q len i ∧ ps_ch q len i < 52 → ∀ M', mp M0 M' (i + 1) true → Q (.inl (some (.int (sp_non (fun c => sp_get (M0.1 34) 0 (mo_row M0 pn nw b x c)) s (ps_ch q len i - 48))))) M') (h0 : ¬ (r = true ∧ 48 ≤ ps_ch q len i ∧ ps_ch q len i < 52) → ∀ M' j v, j < 2 ^ 19 + 10 → mp M0 M' j false → Q (.inl (some (.int v))) M') : am_W kM_empty 0 (am_in kM_empty [.ref 27, .int s, .int (nI b), .int x]) [] M Q := by
  have loop : ∀ (M1 : am_M) (j f : Nat) (r : Bool), f < 4 → mp M0 M1 j r → Q (.inl (some (.int (sp_or (fun o => decide ((fun c => sp_get (M0.1 34) 0 (mo_row M0 pn nw b x c)) (4 * o + f) = 0)) (fun o => s &&& (1 : Int32) <<< (nI o &&& 31)) 12)))) M1 → ∀ o, o ≤ 12 → am_W kM_empty 13 [.ref 27, .int s, .int (nI b), .int x, .int (nI f), .int (sp_or (fun o => decide ((fun c => sp_get (M0.1 34) 0 (mo_row M0 pn nw b x c)) (4 * o + f) = 0)) (fun o => s &&& (1 : Int32) <<< (nI o &&& 31)) o), .int (nI o)] [] M1 Q := by
    intro M1 j f r hf p1 hq
    refine am_loop 12 (fun o ho ih => ?_)
    refine am_iload d71_13 rfl ?_
    refine am_bipush (nI 12) d71_15 (by decide) ?_
    refine am_icgeN 62 o 12 d71_17 (by decide) rfl rfl (by omega) (by decide) (fun h17 => ?_) (fun h17 => ?_)
    · refine am_iload d71_62 rfl ?_
      refine am_iret d71_64 rfl rfl ?_
      obtain rfl : o = 12 := by omega
      exact hq
    · refine am_aload_n d71_20 rfl ?_
      refine am_aload_n d71_21 rfl ?_
      refine am_iload_n d71_22 rfl ?_
      refine am_iload_n d71_23 rfl ?_
      refine am_iconst (nI 4) d71_24 (by decide) ?_
      refine am_iload d71_25 rfl ?_
      refine am_mulN d71_27 ?_
      refine am_iload d71_28 rfl ?_
      refine am_addN d71_30 ?_
      refine am_cv3 39 d71_31 ml71_75 rfl (by decide) sh_27 rfl rfl rfl rfl (Nat.le_of_ble_eq_true rfl) ?_
      refine m_latest (moS_mp hS p1) hb ?_
      rw [mo_row_mp p1]
      show am_W 71 34 _ (.int _ :: _) _ _
      refine am_cv1 40 d71_34 ml71_65 rfl (by decide) sh_27 rfl rfl (Nat.le_of_ble_eq_true rfl) ?_
      refine m_kindOf (r := (mo_row M0 pn nw b x (4 * o + f))) (fun i hi => by have := mo_row_lt hi; have := hS.2.2.2.1.1; omega) ?_
      rw [p1.1.eq 34 (by decide)]
      show am_W 71 37 _ (.int _ :: _) _ _
      refine am_ifne 52 d71_37 (by decide) (fun h37 => ?_) (fun h37 => ?_)
      · refine am_iload d71_52 rfl ?_
        refine am_istore d71_54 (Nat.le_of_ble_eq_true rfl) rfl ?_
        refine am_incN o d71_56 rfl rfl ?_
        refine am_goto 13 d71_59 (by decide) ?_
        first | (have hz := ih h17; rw [sp_or_t (c := (fun o => decide ((fun c => sp_get (M0.1 34) 0 (mo_row M0 pn nw b x c)) (4 * o + f) = 0))) (g := (fun o => s &&& (1 : Int32) <<< (nI o &&& 31))) (n := o) (decide_eq_true h37)] at hz; exact hz) | (have hz := ih h17; rw [sp_or_f (c := (fun o => decide ((fun c => sp_get (M0.1 34) 0 (mo_row M0 pn nw b x c)) (4 * o + f) = 0))) (g := (fun o => s &&& (1 : Int32) <<< (nI o &&& 31))) (n := o) (fun z => h37 (of_decide_eq_true z))] at hz; exact hz)
      · refine am_iload d71_40 rfl ?_
        refine am_iload_n d71_42 rfl ?_
        refine am_iconst 1 d71_43 (by decide) ?_
        refine am_iload d71_44 rfl ?_
        refine am_ishl d71_46 ?_
        refine am_iand d71_47 ?_
        refine am_ior d71_48 ?_
        refine am_goto 54 d71_49 (by decide) ?_
        refine am_istore d71_54 (Nat.le_of_ble_eq_true rfl) rfl ?_
        refine am_incN o d71_56 rfl rfl ?_
        refine am_goto 13 d71_59 (by decide) ?_
        first | (have hz := ih h17; rw [sp_or_t (c := (fun o => decide ((fun c => sp_get (M0.1 34) 0 (mo_row M0 pn nw b x c)) (4 * o + f) = 0))) (g := (fun o => s &&& (1 : Int32) <<< (nI o &&& 31))) (n := o) (decide_eq_true h37)] at hz; exact hz) | (have hz := ih h17; rw [sp_or_f (c := (fun o => decide ((fun c => sp_get (M0.1 34) 0 (mo_row M0 pn nw b x c)) (4 * o + f) = 0))) (g := (fun o => s &&& (1 : Int32) <<< (nI o &&& 31))) (n := o) (fun z => h37 (of_decide_eq_true z))] at hz; exact hz)
  show am_W kM_empty 0 _ [] M Q
  refine am_aload_n d71_0 rfl ?_
  refine am_iconst (nI 3) d71_1 (by decide) ?_
  refine am_cv1 66 d71_2 ml71_133 rfl (by decide) sh_27 rfl rfl (Nat.le_of_ble_eq_true rfl) ?_
  refine m_digit ht hp (by omega) (k := 3) (by decide) (fun hr ha hc M1 p1 => ?_) (fun z M1 p1 => ?_)
  · show am_W 71 5 _ (.int _ :: _) _ _
    refine am_istore d71_5 (Nat.le_of_ble_eq_true rfl) rfl ?_
    refine am_iconst 0 d71_7 (by decide) ?_
    refine am_istore d71_8 (Nat.le_of_ble_eq_true rfl) rfl ?_
    refine am_iconst (nI 0) d71_10 (by decide) ?_
    refine am_istore d71_11 (Nat.le_of_ble_eq_true rfl) rfl ?_
    refine loop M1 _ (ps_ch q len i - 48) _ (by omega) p1 ?_ 0 (by decide)
    rw [se_eq 12 (Nat.le_refl _)]
    exact h1 hr ⟨ha, by omega⟩ M1 p1
  · show am_W 71 5 _ (.int _ :: _) _ _
    refine am_istore d71_5 (Nat.le_of_ble_eq_true rfl) rfl ?_
    refine am_iconst 0 d71_7 (by decide) ?_
    refine am_istore d71_8 (Nat.le_of_ble_eq_true rfl) rfl ?_
    refine am_iconst (nI 0) d71_10 (by decide) ?_
    refine am_istore d71_11 (Nat.le_of_ble_eq_true rfl) rfl ?_
    exact loop M1 _ 0 _ (by decide) p1 (h0 (fun w => z ⟨w.1, w.2.1, by omega⟩) M1 _ _ (by omega) p1) 0 (by decide)
def fcm (v sg n : Int32) : Bool := if sg = 60 then decide (v < n) else if sg = 61 then decide (v = n) else decide (n < v)
theorem fcm_eq {v n : Int32} {sg : Nat} (h : sg = 60 ∨ sg = 61 ∨ sg = 62) : fcm v (nI sg) n = sp_cmp v (nI sg) n := by
  unfold fcm sp_cmp
  rcases h with rfl | rfl | rfl
  · rw [if_pos (by decide), if_pos (by decide)]
  · rw [if_neg (by decide), if_pos (by decide), if_neg (by decide), if_neg (by decide)]
  · rw [if_neg (by decide), if_neg (by decide), if_neg (by decide), if_pos (by decide)]
theorem m_filter_l {pn : Nat → Nat} {nb nw ck : Nat} {M0 M1 : am_M} {j b f : Nat} {r : Bool} {s x sg nv : Int32} {Q : am_T} (hS : moS M0 pn nb nw ck) (p1 : mp M0 M1 j r) (hb : b < nb) (hf : f < 4) (hq : Q (.inl (some (.int (sp_or (fun o => decide ((fun c => sp_get (M0.1 34) 0 (mo_row M0 pn nw b x c)) (4 * o + f) = 1) && fcm ((fun c => sp_get (M0.1 35) 0 (mo_row M0 pn nw b x c)) (4 * o + f)) sg nv) (fun o => s &&& (1 : Int32) <<< (nI o &&& 31)) 12)))) M1) : ∀ o, o ≤ 12 → ∀ y9 y10 y11 : Value, am_W kM_filter 107 [.ref 27, .int s, .int (nI b), .int x, .int (nI f), .int sg, .int nv, .int (sp_or (fun o => decide ((fun c => sp_get (M0.1 34) 0 (mo_row M0 pn nw b x c)) (4 * o + f) = 1) && fcm ((fun c => sp_get (M0.1 35) 0 (mo_row M0 pn nw b x c)) (4 * o + f)) sg nv) (fun o => s &&& (1 : Int32) <<< (nI o &&& 31)) o), .int (nI o), y9, y10, y11] [] M1 Q := by
  refine am_loop 12 (fun o ho ih => ?_)
  intro y9 y10 y11
  refine am_iload d70_107 rfl ?_
  refine am_bipush (nI 12) d70_109 (by decide) ?_
  refine am_icgeN 222 o 12 d70_111 (by decide) rfl rfl (by omega) (by decide) (fun h111 => ?_) (fun h111 => ?_)
  · refine am_iload d70_222 rfl ?_
    refine am_iret d70_224 rfl rfl ?_
    obtain rfl : o = 12 := by omega
    exact hq
  · refine am_aload_n d70_114 rfl ?_
    refine am_iload_n d70_115 rfl ?_
    refine am_iload_n d70_116 rfl ?_
    refine am_iconst (nI 4) d70_117 (by decide) ?_
    refine am_iload d70_118 rfl ?_
    refine am_mulN d70_120 ?_
    refine am_iload d70_121 rfl ?_
    refine am_addN d70_123 ?_
    refine am_cv3 39 d70_124 ml70_75 rfl (by decide) sh_27 rfl rfl rfl rfl (Nat.le_of_ble_eq_true rfl) ?_
    refine m_latest (moS_mp hS p1) hb ?_
    rw [mo_row_mp p1]
    show am_W 70 127 _ (.int _ :: _) _ _
    refine am_istore d70_127 (Nat.le_of_ble_eq_true rfl) rfl ?_
    refine am_aload_n d70_129 rfl ?_
    refine am_iload d70_130 rfl ?_
    refine am_cv1 41 d70_132 ml70_68 rfl (by decide) sh_27 rfl rfl (Nat.le_of_ble_eq_true rfl) ?_
    refine m_valueOf (r := (mo_row M0 pn nw b x (4 * o + f))) (fun i hi => by have := mo_row_lt hi; have := hS.2.2.2.1.1; omega) ?_
    rw [p1.1.eq 35 (by decide)]
    show am_W 70 135 _ (.int _ :: _) _ _
    refine am_istore d70_135 (Nat.le_of_ble_eq_true rfl) rfl ?_
    refine am_aload_n d70_137 rfl ?_
    refine am_iload d70_138 rfl ?_
    refine am_cv1 40 d70_140 ml70_65 rfl (by decide) sh_27 rfl rfl (Nat.le_of_ble_eq_true rfl) ?_
    refine m_kindOf (r := (mo_row M0 pn nw b x (4 * o + f))) (fun i hi => by have := mo_row_lt hi; have := hS.2.2.2.1.1; omega) ?_
    rw [p1.1.eq 34 (by decide)]
    show am_W 70 143 _ (.int _ :: _) _ _
    refine am_iconst 1 d70_143 (by decide) ?_
    refine am_icne 192 d70_144 (by decide) (fun h144 => ?_) (fun h144 => ?_)
    · refine am_iconst 0 d70_192 (by decide) ?_
      refine am_istore d70_193 (Nat.le_of_ble_eq_true rfl) rfl ?_
      refine am_iload d70_195 rfl ?_
      refine am_ifeq 212 d70_197 (by decide) (fun _ => ?_) (fun h => absurd h (by decide))
      refine am_iload d70_212 rfl ?_
      refine am_istore d70_214 (Nat.le_of_ble_eq_true rfl) rfl ?_
      refine am_incN o d70_216 rfl rfl ?_
      refine am_goto 107 d70_219 (by decide) ?_
      try (have h159 := Int32.not_le.mp h158)
      try (have h186 := Int32.not_le.mp h185)
      first | (have hz := ih h111 (.int (lt_v (mo_row M0 pn nw b x (4 * o + f)))) (.int (sp_get (M0.1 35) 0 (mo_row M0 pn nw b x (4 * o + f)))) (.int 1); rw [sp_or_t (c := (fun o => decide ((fun c => sp_get (M0.1 34) 0 (mo_row M0 pn nw b x c)) (4 * o + f) = 1) && fcm ((fun c => sp_get (M0.1 35) 0 (mo_row M0 pn nw b x c)) (4 * o + f)) sg nv)) (g := (fun o => s &&& (1 : Int32) <<< (nI o &&& 31))) (n := o) (by simp [fcm, *])] at hz; exact hz) | (have hz := ih h111 (.int (lt_v (mo_row M0 pn nw b x (4 * o + f)))) (.int (sp_get (M0.1 35) 0 (mo_row M0 pn nw b x (4 * o + f)))) (.int 0); rw [sp_or_f (c := (fun o => decide ((fun c => sp_get (M0.1 34) 0 (mo_row M0 pn nw b x c)) (4 * o + f) = 1) && fcm ((fun c => sp_get (M0.1 35) 0 (mo_row M0 pn nw b x c)) (4 * o + f)) sg nv)) (g := (fun o => s &&& (1 : Int32) <<< (nI o &&& 31))) (n := o) (fun z => absurd z (by simp [fcm, *]))] at hz; exact hz)
    · refine am_iload d70_147 rfl ?_
      refine am_bipush 60 d70_149 (by decide) ?_
      refine am_icne 164 d70_151 (by decide) (fun h151 => ?_) (fun h151 => ?_)
      · refine am_iload d70_164 rfl ?_
        refine am_bipush 61 d70_166 (by decide) ?_
        refine am_icne 181 d70_168 (by decide) (fun h168 => ?_) (fun h168 => ?_)
        · refine am_iload d70_181 rfl ?_
          refine am_iload d70_183 rfl ?_
          refine am_icle 192 d70_185 (by decide) (fun h185 => ?_) (fun h185 => ?_)
          · refine am_iconst 0 d70_192 (by decide) ?_
            refine am_istore d70_193 (Nat.le_of_ble_eq_true rfl) rfl ?_
            refine am_iload d70_195 rfl ?_
            refine am_ifeq 212 d70_197 (by decide) (fun _ => ?_) (fun h => absurd h (by decide))
            refine am_iload d70_212 rfl ?_
            refine am_istore d70_214 (Nat.le_of_ble_eq_true rfl) rfl ?_
            refine am_incN o d70_216 rfl rfl ?_
            refine am_goto 107 d70_219 (by decide) ?_
            try (have h159 := Int32.not_le.mp h158)
            try (have h186 := Int32.not_le.mp h185)
            first | (have hz := ih h111 (.int (lt_v (mo_row M0 pn nw b x (4 * o + f)))) (.int (sp_get (M0.1 35) 0 (mo_row M0 pn nw b x (4 * o + f)))) (.int 1); rw [sp_or_t (c := (fun o => decide ((fun c => sp_get (M0.1 34) 0 (mo_row M0 pn nw b x c)) (4 * o + f) = 1) && fcm ((fun c => sp_get (M0.1 35) 0 (mo_row M0 pn nw b x c)) (4 * o + f)) sg nv)) (g := (fun o => s &&& (1 : Int32) <<< (nI o &&& 31))) (n := o) (by simp [fcm, *])] at hz; exact hz) | (have hz := ih h111 (.int (lt_v (mo_row M0 pn nw b x (4 * o + f)))) (.int (sp_get (M0.1 35) 0 (mo_row M0 pn nw b x (4 * o + f)))) (.int 0); rw [sp_or_f (c := (fun o => decide ((fun c => sp_get (M0.1 34) 0 (mo_row M0 pn nw b x c)) (4 * o + f) = 1) && fcm ((fun c => sp_get (M0.1 35) 0 (mo_row M0 pn nw b x c)) (4 * o + f)) sg nv)) (g := (fun o => s &&& (1 : Int32) <<< (nI o &&& 31))) (n := o) (fun z => absurd z (by simp [fcm, *]))] at hz; exact hz)
          · refine am_iconst 1 d70_188 (by decide) ?_
            refine am_goto 193 d70_189 (by decide) ?_
            refine am_istore d70_193 (Nat.le_of_ble_eq_true rfl) rfl ?_
            refine am_iload d70_195 rfl ?_
            refine am_ifeq 212 d70_197 (by decide) (fun h => absurd h (by decide)) (fun _ => ?_)
            refine am_iload d70_200 rfl ?_
            refine am_iload_n d70_202 rfl ?_
            refine am_iconst 1 d70_203 (by decide) ?_
            refine am_iload d70_204 rfl ?_
            refine am_ishl d70_206 ?_
            refine am_iand d70_207 ?_
            refine am_ior d70_208 ?_
            refine am_goto 214 d70_209 (by decide) ?_
            refine am_istore d70_214 (Nat.le_of_ble_eq_true rfl) rfl ?_
            refine am_incN o d70_216 rfl rfl ?_
            refine am_goto 107 d70_219 (by decide) ?_
            try (have h159 := Int32.not_le.mp h158)
            try (have h186 := Int32.not_le.mp h185)
            first | (have hz := ih h111 (.int (lt_v (mo_row M0 pn nw b x (4 * o + f)))) (.int (sp_get (M0.1 35) 0 (mo_row M0 pn nw b x (4 * o + f)))) (.int 1); rw [sp_or_t (c := (fun o => decide ((fun c => sp_get (M0.1 34) 0 (mo_row M0 pn nw b x c)) (4 * o + f) = 1) && fcm ((fun c => sp_get (M0.1 35) 0 (mo_row M0 pn nw b x c)) (4 * o + f)) sg nv)) (g := (fun o => s &&& (1 : Int32) <<< (nI o &&& 31))) (n := o) (by simp [fcm, *])] at hz; exact hz) | (have hz := ih h111 (.int (lt_v (mo_row M0 pn nw b x (4 * o + f)))) (.int (sp_get (M0.1 35) 0 (mo_row M0 pn nw b x (4 * o + f)))) (.int 0); rw [sp_or_f (c := (fun o => decide ((fun c => sp_get (M0.1 34) 0 (mo_row M0 pn nw b x c)) (4 * o + f) = 1) && fcm ((fun c => sp_get (M0.1 35) 0 (mo_row M0 pn nw b x c)) (4 * o + f)) sg nv)) (g := (fun o => s &&& (1 : Int32) <<< (nI o &&& 31))) (n := o) (fun z => absurd z (by simp [fcm, *]))] at hz; exact hz)
        · refine am_iload d70_171 rfl ?_
          refine am_iload d70_173 rfl ?_
          refine am_icne 192 d70_175 (by decide) (fun h175 => ?_) (fun h175 => ?_)
          · refine am_iconst 0 d70_192 (by decide) ?_
            refine am_istore d70_193 (Nat.le_of_ble_eq_true rfl) rfl ?_
            refine am_iload d70_195 rfl ?_
            refine am_ifeq 212 d70_197 (by decide) (fun _ => ?_) (fun h => absurd h (by decide))
            refine am_iload d70_212 rfl ?_
            refine am_istore d70_214 (Nat.le_of_ble_eq_true rfl) rfl ?_
            refine am_incN o d70_216 rfl rfl ?_
            refine am_goto 107 d70_219 (by decide) ?_
            try (have h159 := Int32.not_le.mp h158)
            try (have h186 := Int32.not_le.mp h185)
            first | (have hz := ih h111 (.int (lt_v (mo_row M0 pn nw b x (4 * o + f)))) (.int (sp_get (M0.1 35) 0 (mo_row M0 pn nw b x (4 * o + f)))) (.int 1); rw [sp_or_t (c := (fun o => decide ((fun c => sp_get (M0.1 34) 0 (mo_row M0 pn nw b x c)) (4 * o + f) = 1) && fcm ((fun c => sp_get (M0.1 35) 0 (mo_row M0 pn nw b x c)) (4 * o + f)) sg nv)) (g := (fun o => s &&& (1 : Int32) <<< (nI o &&& 31))) (n := o) (by simp [fcm, *])] at hz; exact hz) | (have hz := ih h111 (.int (lt_v (mo_row M0 pn nw b x (4 * o + f)))) (.int (sp_get (M0.1 35) 0 (mo_row M0 pn nw b x (4 * o + f)))) (.int 0); rw [sp_or_f (c := (fun o => decide ((fun c => sp_get (M0.1 34) 0 (mo_row M0 pn nw b x c)) (4 * o + f) = 1) && fcm ((fun c => sp_get (M0.1 35) 0 (mo_row M0 pn nw b x c)) (4 * o + f)) sg nv)) (g := (fun o => s &&& (1 : Int32) <<< (nI o &&& 31))) (n := o) (fun z => absurd z (by simp [fcm, *]))] at hz; exact hz)
          · refine am_goto 188 d70_178 (by decide) ?_
            refine am_iconst 1 d70_188 (by decide) ?_
            refine am_goto 193 d70_189 (by decide) ?_
            refine am_istore d70_193 (Nat.le_of_ble_eq_true rfl) rfl ?_
            refine am_iload d70_195 rfl ?_
            refine am_ifeq 212 d70_197 (by decide) (fun h => absurd h (by decide)) (fun _ => ?_)
            refine am_iload d70_200 rfl ?_
            refine am_iload_n d70_202 rfl ?_
            refine am_iconst 1 d70_203 (by decide) ?_
            refine am_iload d70_204 rfl ?_
            refine am_ishl d70_206 ?_
            refine am_iand d70_207 ?_
            refine am_ior d70_208 ?_
            refine am_goto 214 d70_209 (by decide) ?_
            refine am_istore d70_214 (Nat.le_of_ble_eq_true rfl) rfl ?_
            refine am_incN o d70_216 rfl rfl ?_
            refine am_goto 107 d70_219 (by decide) ?_
            try (have h159 := Int32.not_le.mp h158)
            try (have h186 := Int32.not_le.mp h185)
            first | (have hz := ih h111 (.int (lt_v (mo_row M0 pn nw b x (4 * o + f)))) (.int (sp_get (M0.1 35) 0 (mo_row M0 pn nw b x (4 * o + f)))) (.int 1); rw [sp_or_t (c := (fun o => decide ((fun c => sp_get (M0.1 34) 0 (mo_row M0 pn nw b x c)) (4 * o + f) = 1) && fcm ((fun c => sp_get (M0.1 35) 0 (mo_row M0 pn nw b x c)) (4 * o + f)) sg nv)) (g := (fun o => s &&& (1 : Int32) <<< (nI o &&& 31))) (n := o) (by simp [fcm, *])] at hz; exact hz) | (have hz := ih h111 (.int (lt_v (mo_row M0 pn nw b x (4 * o + f)))) (.int (sp_get (M0.1 35) 0 (mo_row M0 pn nw b x (4 * o + f)))) (.int 0); rw [sp_or_f (c := (fun o => decide ((fun c => sp_get (M0.1 34) 0 (mo_row M0 pn nw b x c)) (4 * o + f) = 1) && fcm ((fun c => sp_get (M0.1 35) 0 (mo_row M0 pn nw b x c)) (4 * o + f)) sg nv)) (g := (fun o => s &&& (1 : Int32) <<< (nI o &&& 31))) (n := o) (fun z => absurd z (by simp [fcm, *]))] at hz; exact hz)
      · refine am_iload d70_154 rfl ?_
        refine am_iload d70_156 rfl ?_
        refine am_icge 192 d70_158 (by decide) (fun h158 => ?_) (fun h158 => ?_)
        · refine am_iconst 0 d70_192 (by decide) ?_
          refine am_istore d70_193 (Nat.le_of_ble_eq_true rfl) rfl ?_
          refine am_iload d70_195 rfl ?_
          refine am_ifeq 212 d70_197 (by decide) (fun _ => ?_) (fun h => absurd h (by decide))
          refine am_iload d70_212 rfl ?_
          refine am_istore d70_214 (Nat.le_of_ble_eq_true rfl) rfl ?_
          refine am_incN o d70_216 rfl rfl ?_
          refine am_goto 107 d70_219 (by decide) ?_
          try (have h159 := Int32.not_le.mp h158)
          try (have h186 := Int32.not_le.mp h185)
          first | (have hz := ih h111 (.int (lt_v (mo_row M0 pn nw b x (4 * o + f)))) (.int (sp_get (M0.1 35) 0 (mo_row M0 pn nw b x (4 * o + f)))) (.int 1); rw [sp_or_t (c := (fun o => decide ((fun c => sp_get (M0.1 34) 0 (mo_row M0 pn nw b x c)) (4 * o + f) = 1) && fcm ((fun c => sp_get (M0.1 35) 0 (mo_row M0 pn nw b x c)) (4 * o + f)) sg nv)) (g := (fun o => s &&& (1 : Int32) <<< (nI o &&& 31))) (n := o) (by simp [fcm, *])] at hz; exact hz) | (have hz := ih h111 (.int (lt_v (mo_row M0 pn nw b x (4 * o + f)))) (.int (sp_get (M0.1 35) 0 (mo_row M0 pn nw b x (4 * o + f)))) (.int 0); rw [sp_or_f (c := (fun o => decide ((fun c => sp_get (M0.1 34) 0 (mo_row M0 pn nw b x c)) (4 * o + f) = 1) && fcm ((fun c => sp_get (M0.1 35) 0 (mo_row M0 pn nw b x c)) (4 * o + f)) sg nv)) (g := (fun o => s &&& (1 : Int32) <<< (nI o &&& 31))) (n := o) (fun z => absurd z (by simp [fcm, *]))] at hz; exact hz)
        · refine am_goto 188 d70_161 (by decide) ?_
          refine am_iconst 1 d70_188 (by decide) ?_
          refine am_goto 193 d70_189 (by decide) ?_
          refine am_istore d70_193 (Nat.le_of_ble_eq_true rfl) rfl ?_
          refine am_iload d70_195 rfl ?_
          refine am_ifeq 212 d70_197 (by decide) (fun h => absurd h (by decide)) (fun _ => ?_)
          refine am_iload d70_200 rfl ?_
          refine am_iload_n d70_202 rfl ?_
          refine am_iconst 1 d70_203 (by decide) ?_
          refine am_iload d70_204 rfl ?_
          refine am_ishl d70_206 ?_
          refine am_iand d70_207 ?_
          refine am_ior d70_208 ?_
          refine am_goto 214 d70_209 (by decide) ?_
          refine am_istore d70_214 (Nat.le_of_ble_eq_true rfl) rfl ?_
          refine am_incN o d70_216 rfl rfl ?_
          refine am_goto 107 d70_219 (by decide) ?_
          try (have h159 := Int32.not_le.mp h158)
          try (have h186 := Int32.not_le.mp h185)
          first | (have hz := ih h111 (.int (lt_v (mo_row M0 pn nw b x (4 * o + f)))) (.int (sp_get (M0.1 35) 0 (mo_row M0 pn nw b x (4 * o + f)))) (.int 1); rw [sp_or_t (c := (fun o => decide ((fun c => sp_get (M0.1 34) 0 (mo_row M0 pn nw b x c)) (4 * o + f) = 1) && fcm ((fun c => sp_get (M0.1 35) 0 (mo_row M0 pn nw b x c)) (4 * o + f)) sg nv)) (g := (fun o => s &&& (1 : Int32) <<< (nI o &&& 31))) (n := o) (by simp [fcm, *])] at hz; exact hz) | (have hz := ih h111 (.int (lt_v (mo_row M0 pn nw b x (4 * o + f)))) (.int (sp_get (M0.1 35) 0 (mo_row M0 pn nw b x (4 * o + f)))) (.int 0); rw [sp_or_f (c := (fun o => decide ((fun c => sp_get (M0.1 34) 0 (mo_row M0 pn nw b x c)) (4 * o + f) = 1) && fcm ((fun c => sp_get (M0.1 35) 0 (mo_row M0 pn nw b x c)) (4 * o + f)) sg nv)) (g := (fun o => s &&& (1 : Int32) <<< (nI o &&& 31))) (n := o) (fun z => absurd z (by simp [fcm, *]))] at hz; exact hz)
theorem m_filter {pn : Nat → Nat} {nb nw ck : Nat} {M0 M : am_M} {q : Nat → Nat} {len i b : Nat} {r : Bool} {s x : Int32} {Q : am_T} (hS : moS M0 pn nb nw ck) (ht : tm M0 q len) (hp : mp M0 M i r) (hi : i < 2 ^ 17) (hb : b < nb) (h1 : r = true → 48 ≤ ps_ch q len i ∧ ps_ch q len i < 52 → ∀ w, ps_cmp (fun c => sp_get (M0.1 34) 0 (mo_row M0 pn nw b x c)) (fun c => sp_get (M0.1 35) 0 (mo_row M0 pn nw b x c)) q len s (ps_ch q len i - 48) (i + 1) = some w → ∀ M', mp M0 M' w.2 true → Q (.inl (some (.int w.1))) M') (h0 : ¬ (r = true ∧ 48 ≤ ps_ch q len i ∧ ps_ch q len i < 52 ∧ ¬ ps_cmp (fun c => sp_get (M0.1 34) 0 (mo_row M0 pn nw b x c)) (fun c => sp_get (M0.1 35) 0 (mo_row M0 pn nw b x c)) q len s (ps_ch q len i - 48) (i + 1) = none) → ∀ M' j v, j < 2 ^ 19 + 10 → mp M0 M' j false → Q (.inl (some (.int v))) M') : am_W kM_filter 0 (am_in kM_filter [.ref 27, .int s, .int (nI b), .int x]) [] M Q := by
  have fin : ∀ (M1 : am_M) (f j : Nat) (r1 : Bool) (sg nv : Int32), f < 4 → mp M0 M1 j r1 → j < 2 ^ 19 + 5 → (r1 = true → ps_ch q len j = 93 → ∀ M', mp M0 M' (j + 1) true → Q (.inl (some (.int (sp_or (fun o => decide ((fun c => sp_get (M0.1 34) 0 (mo_row M0 pn nw b x c)) (4 * o + f) = 1) && fcm ((fun c => sp_get (M0.1 35) 0 (mo_row M0 pn nw b x c)) (4 * o + f)) sg nv) (fun o => s &&& (1 : Int32) <<< (nI o &&& 31)) 12)))) M') → (¬ (r1 = true ∧ ps_ch q len j = 93) → ∀ M', mp M0 M' (j + 1) false → Q (.inl (some (.int (sp_or (fun o => decide ((fun c => sp_get (M0.1 34) 0 (mo_row M0 pn nw b x c)) (4 * o + f) = 1) && fcm ((fun c => sp_get (M0.1 35) 0 (mo_row M0 pn nw b x c)) (4 * o + f)) sg nv) (fun o => s &&& (1 : Int32) <<< (nI o &&& 31)) 12)))) M') → am_W kM_filter 66 [.ref 27, .int s, .int (nI b), .int x, .int (nI f), .int sg, .int nv, .null, .null, .null, .null, .null] [] M1 Q := by
    intro M1 f j r1 sg nv hf p1 hj k1 k0
    have tail : ∀ (v : Int32) (t : Bool), v = (if t = true then 1 else 0) → vp_nar .boolean v = v → narrow .boolean (.int v) = .int v → fits .boolean (.int v) = true → (∀ M', mp M0 M' (j + 1) t → Q (.inl (some (.int (sp_or (fun o => decide ((fun c => sp_get (M0.1 34) 0 (mo_row M0 pn nw b x c)) (4 * o + f) = 1) && fcm ((fun c => sp_get (M0.1 35) 0 (mo_row M0 pn nw b x c)) (4 * o + f)) sg nv) (fun o => s &&& (1 : Int32) <<< (nI o &&& 31)) 12)))) M') → am_W kM_filter 88 [.ref 27, .int s, .int (nI b), .int x, .int (nI f), .int sg, .int nv, .null, .null, .null, .null, .null] [.int v, .ref 27] M1 Q := by
      intro v t hv e1 e2 e3 hq
      refine am_put d70_88 fl70_126 sh_27 rfl rfl e2 e3 ?_
      refine am_aload_n d70_91 rfl ?_
      refine am_dup d70_92 rfl ?_
      refine am_geti d70_93 fl70_119 sh_27 rfl ?_
      rw [am_set_self, pk_un (by decide), p1.2.2.1]
      refine am_iconst 1 d70_96 (by decide) ?_
      refine am_iadd d70_97 ?_
      rw [nI_1]
      refine am_put d70_98 fl70_119 sh_27 rfl rfl rfl rfl ?_
      refine am_iconst 0 d70_101 (by decide) ?_
      refine am_istore d70_102 (Nat.le_of_ble_eq_true rfl) rfl ?_
      refine am_iconst (nI 0) d70_104 (by decide) ?_
      refine am_istore d70_105 (Nat.le_of_ble_eq_true rfl) rfl ?_
      have p2 := (p1.rt t hv).to (j + 1)
      exact m_filter_l hS p2 hb hf (hq _ p2) 0 (by decide) _ _ _
    refine am_aload_n d70_66 rfl ?_
    refine am_aload_n d70_67 rfl ?_
    refine am_geti d70_68 fl70_126 sh_27 rfl ?_
    rw [p1.2.2.2]
    by_cases hr : r1 = true
    · rw [if_pos hr]
      refine am_ifeq 87 d70_71 (by decide) (fun h => absurd h (by decide)) (fun _ => ?_)
      refine am_aload_n d70_74 rfl ?_
      refine am_cv0 64 d70_75 ml70_122 rfl (by decide) sh_27 rfl (Nat.le_of_ble_eq_true rfl) ?_
      refine m_peek ht p1 (by omega) ?_
      show am_W 70 78 _ (.int _ :: _) _ _
      refine am_bipush (nI 93) d70_78 (by decide) ?_
      refine am_icne 87 d70_80 (by decide) (fun h => ?_) (fun h => ?_)
      · refine am_iconst 0 d70_87 (by decide) ?_
        exact tail 0 false rfl (by decide) (by decide) (by decide) (k0 (fun z => h (by rw [z.2])))
      · refine am_iconst 1 d70_83 (by decide) ?_
        refine am_goto 88 d70_84 (by decide) ?_
        exact tail 1 true rfl (by decide) (by decide) (by decide) (k1 hr ((nI_eq (by have := ps_ch_lt ht j; omega) (by decide)).mp h))
    · rw [if_neg hr]
      refine am_ifeq 87 d70_71 (by decide) (fun _ => ?_) (fun h => absurd rfl h)
      refine am_iconst 0 d70_87 (by decide) ?_
      exact tail 0 false rfl (by decide) (by decide) (by decide) (k0 (fun z => hr z.1))
  have main : ∀ (M1 : am_M) (f : Nat) (r1 : Bool), f < 4 → mp M0 M1 (i + 1) r1 → (r1 = true → f = ps_ch q len i - 48 ∧ r = true ∧ 48 ≤ ps_ch q len i ∧ ps_ch q len i < 52) → (¬ r1 = true → ¬ (r = true ∧ 48 ≤ ps_ch q len i ∧ ps_ch q len i < 52)) → am_W kM_filter 5 [.ref 27, .int s, .int (nI b), .int x, .null, .null, .null, .null, .null, .null, .null, .null] [.int (nI f)] M1 Q := by
    intro M1 f r1 hf p1 hg1 hg0
    have hl := ps_ch_lt ht (i + 1)
    have after : ∀ (v : Int32) (t : Bool), v = (if t = true then 1 else 0) → narrow .boolean (.int v) = .int v → fits .boolean (.int v) = true → (t = true ↔ r1 = true ∧ (ps_ch q len (i + 1) = 60 ∨ ps_ch q len (i + 1) = 61 ∨ ps_ch q len (i + 1) = 62)) → am_W kM_filter 47 [.ref 27, .int s, .int (nI b), .int x, .int (nI f), .int (nI (ps_ch q len (i + 1))), .null, .null, .null, .null, .null, .null] [.int v, .ref 27] M1 Q := by
      intro v t hv e2 e3 htt
      refine am_put d70_47 fl70_126 sh_27 rfl rfl e2 e3 ?_
      refine am_aload_n d70_50 rfl ?_
      refine am_dup d70_51 rfl ?_
      refine am_geti d70_52 fl70_119 sh_27 rfl ?_
      rw [am_set_self, pk_un (by decide), p1.2.2.1]
      refine am_iconst 1 d70_55 (by decide) ?_
      refine am_iadd d70_56 ?_
      rw [nI_1]
      refine am_put d70_57 fl70_119 sh_27 rfl rfl rfl rfl ?_
      have p2 := (p1.rt t hv).to (i + 1 + 1)
      refine am_aload_n d70_60 rfl ?_
      refine am_cv0 68 d70_61 ml70_143 rfl (by decide) sh_27 rfl (Nat.le_of_ble_eq_true rfl) ?_
      refine m_number ht p2 (by omega) (fun ht1 hnum M3 p3 => ?_) (fun hnum M3 j v3 hj p3 => ?_)
      · show am_W 70 64 _ (.int _ :: _) _ _
        refine am_istore d70_64 (Nat.le_of_ble_eq_true rfl) rfl ?_
        obtain ⟨hr1, hsg⟩ := htt.mp ht1
        obtain ⟨hfe, hr, hd⟩ := hg1 hr1
        have hge := ps_num_ge (q := q) (len := len) 4 (ps_j q len (i + 1 + 1)) 0
        have hjb : ps_j q len (i + 1 + 1) ≤ i + 3 := by unfold ps_j; split <;> omega
        have hu : ps_cmp (fun c => sp_get (M0.1 34) 0 (mo_row M0 pn nw b x c)) (fun c => sp_get (M0.1 35) 0 (mo_row M0 pn nw b x c)) q len s (ps_ch q len i - 48) (i + 1) = (if ps_ch q len (ps_num q len 4 (ps_j q len (i + 1 + 1)) 0).2 = 93 then some (sp_num (fun c => sp_get (M0.1 34) 0 (mo_row M0 pn nw b x c)) (fun c => sp_get (M0.1 35) 0 (mo_row M0 pn nw b x c)) s (ps_ch q len i - 48) (nI (ps_ch q len (i + 1))) (ps_sgn q len (i + 1 + 1) (ps_num q len 4 (ps_j q len (i + 1 + 1)) 0).1), (ps_num q len 4 (ps_j q len (i + 1 + 1)) 0).2 + 1) else none) := by
          unfold ps_cmp
          rw [if_pos hsg, if_neg hnum]
        refine fin M3 f _ true _ _ hf p3 (by omega) (fun _ h93 M4 p4 => ?_) (fun h93 M4 p4 => ?_)
        · rw [if_pos h93] at hu
          have hz := h1 hr hd _ hu M4 p4
          subst hfe
          have e : sp_num (fun c => sp_get (M0.1 34) 0 (mo_row M0 pn nw b x c)) (fun c => sp_get (M0.1 35) 0 (mo_row M0 pn nw b x c)) s (ps_ch q len i - 48) (nI (ps_ch q len (i + 1))) (ps_sgn q len (i + 1 + 1) (ps_num q len 4 (ps_j q len (i + 1 + 1)) 0).1) = sp_or (fun o => decide ((fun c => sp_get (M0.1 34) 0 (mo_row M0 pn nw b x c)) (4 * o + (ps_ch q len i - 48)) = 1) && fcm ((fun c => sp_get (M0.1 35) 0 (mo_row M0 pn nw b x c)) (4 * o + (ps_ch q len i - 48))) (nI (ps_ch q len (i + 1))) (ps_sgn q len (i + 1 + 1) (ps_num q len 4 (ps_j q len (i + 1 + 1)) 0).1)) (fun o => s &&& (1 : Int32) <<< (nI o &&& 31)) 12 := by
            rw [se_eq 12 (Nat.le_refl _)]
            refine sp_or_congr (fun o _ => ?_) (fun _ _ => rfl)
            show (_ && _ && _) = (_ && (_ && _))
            rw [fcm_eq hsg, Bool.and_assoc]
          rw [← e]
          exact hz
        · refine h0 (fun z => z.2.2.2 ?_) M4 _ _ (by omega) p4
          rw [hu, if_neg (fun y => h93 ⟨rfl, y⟩)]
      · show am_W 70 64 _ (.int _ :: _) _ _
        refine am_istore d70_64 (Nat.le_of_ble_eq_true rfl) rfl ?_
        have hbad : ¬ (r = true ∧ 48 ≤ ps_ch q len i ∧ ps_ch q len i < 52 ∧ ¬ ps_cmp (fun c => sp_get (M0.1 34) 0 (mo_row M0 pn nw b x c)) (fun c => sp_get (M0.1 35) 0 (mo_row M0 pn nw b x c)) q len s (ps_ch q len i - 48) (i + 1) = none) := by
          rintro ⟨z1, z2a, z2b, z3⟩
          have z2 := And.intro z2a z2b
          refine z3 ?_
          unfold ps_cmp
          by_cases hsg : ps_ch q len (i + 1) = 60 ∨ ps_ch q len (i + 1) = 61 ∨ ps_ch q len (i + 1) = 62
          · rw [if_pos hsg]
            by_cases hr1 : r1 = true
            · by_cases hnn : (ps_num q len 4 (ps_j q len (i + 1 + 1)) 0).2 = ps_j q len (i + 1 + 1)
              · rw [if_pos hnn]
              · exact absurd ⟨htt.mpr ⟨hr1, hsg⟩, hnn⟩ hnum
            · exact absurd ⟨z1, z2⟩ (hg0 hr1)
          · rw [if_neg hsg]
        refine fin M3 f _ false _ _ hf p3 (by omega) (fun z => absurd z (by decide)) (fun _ M4 p4 => ?_)
        exact h0 hbad M4 _ _ (by omega) p4
    refine am_istore d70_5 (Nat.le_of_ble_eq_true rfl) rfl ?_
    refine am_aload_n d70_7 rfl ?_
    refine am_cv0 64 d70_8 ml70_122 rfl (by decide) sh_27 rfl (Nat.le_of_ble_eq_true rfl) ?_
    refine m_peek ht p1 (by omega) ?_
    show am_W 70 11 _ (.int _ :: _) _ _
    refine am_istore d70_11 (Nat.le_of_ble_eq_true rfl) rfl ?_
    refine am_aload_n d70_13 rfl ?_
    refine am_aload_n d70_14 rfl ?_
    refine am_geti d70_15 fl70_126 sh_27 rfl ?_
    rw [p1.2.2.2]
    have no : ¬ (r1 = true ∧ (ps_ch q len (i + 1) = 60 ∨ ps_ch q len (i + 1) = 61 ∨ ps_ch q len (i + 1) = 62)) → am_W kM_filter 46 [.ref 27, .int s, .int (nI b), .int x, .int (nI f), .int (nI (ps_ch q len (i + 1))), .null, .null, .null, .null, .null, .null] [.ref 27] M1 Q := by
      intro hno
      refine am_iconst 0 d70_46 (by decide) ?_
      exact after 0 false rfl (by decide) (by decide) ⟨fun z => (by cases z), fun z => absurd z hno⟩
    have ye : (r1 = true ∧ (ps_ch q len (i + 1) = 60 ∨ ps_ch q len (i + 1) = 61 ∨ ps_ch q len (i + 1) = 62)) → am_W kM_filter 42 [.ref 27, .int s, .int (nI b), .int x, .int (nI f), .int (nI (ps_ch q len (i + 1))), .null, .null, .null, .null, .null, .null] [.ref 27] M1 Q := by
      intro hye
      refine am_iconst 1 d70_42 (by decide) ?_
      refine am_goto 47 d70_43 (by decide) ?_
      exact after 1 true rfl (by decide) (by decide) ⟨fun _ => hye, fun _ => rfl⟩
    by_cases hr : r1 = true
    · rw [if_pos hr]
      refine am_ifeq 46 d70_18 (by decide) (fun h => absurd h (by decide)) (fun _ => ?_)
      refine am_iload d70_21 rfl ?_
      refine am_bipush (nI 60) d70_23 (by decide) ?_
      refine am_iceq 42 d70_25 (by decide) (fun h => ?_) (fun h25 => ?_)
      · exact ye ⟨hr, Or.inl ((nI_eq (by omega) (by decide)).mp h)⟩
      refine am_iload d70_28 rfl ?_
      refine am_bipush (nI 61) d70_30 (by decide) ?_
      refine am_iceq 42 d70_32 (by decide) (fun h => ?_) (fun h32 => ?_)
      · exact ye ⟨hr, Or.inr (Or.inl ((nI_eq (by omega) (by decide)).mp h))⟩
      refine am_iload d70_35 rfl ?_
      refine am_bipush (nI 62) d70_37 (by decide) ?_
      refine am_icne 46 d70_39 (by decide) (fun h39 => ?_) (fun h => ?_)
      · refine no (fun z => ?_)
        rcases z.2 with e | e | e
        · exact h25 (by rw [e])
        · exact h32 (by rw [e])
        · exact h39 (by rw [e])
      · exact ye ⟨hr, Or.inr (Or.inr ((nI_eq (by omega) (by decide)).mp h))⟩
    · rw [if_neg hr]
      refine am_ifeq 46 d70_18 (by decide) (fun _ => ?_) (fun h => absurd rfl h)
      exact no (fun z => hr z.1)
  show am_W kM_filter 0 _ [] M Q
  refine am_aload_n d70_0 rfl ?_
  refine am_iconst (nI 3) d70_1 (by decide) ?_
  refine am_cv1 66 d70_2 ml70_133 rfl (by decide) sh_27 rfl rfl (Nat.le_of_ble_eq_true rfl) ?_
  refine m_digit ht hp (by omega) (k := 3) (by decide) (fun hr ha hc M1 p1 => ?_) (fun z M1 p1 => ?_)
  · show am_W 70 5 _ (.int _ :: _) _ _
    exact main M1 _ true (by omega) p1 (fun _ => ⟨rfl, hr, ha, by omega⟩) (fun z => absurd rfl z)
  · show am_W 70 5 _ (.int _ :: _) _ _
    exact main M1 0 false (by decide) p1 (fun z => (by cases z)) (fun _ w => z ⟨w.1, w.2.1, by omega⟩)
