/-! what the tables say of the calls -/
theorem am_K_all {k : Nat} (hk : k < 130) : (k == kL_law || am_kchk k) = true := by
  by_cases h0 : k < 5
  · exact List.all_eq_true.mp am_K_0 k (List.mem_range'_1.mpr ⟨by omega, by omega⟩)
  by_cases h1 : k < 10
  · exact List.all_eq_true.mp am_K_1 k (List.mem_range'_1.mpr ⟨by omega, by omega⟩)
  by_cases h2 : k < 15
  · exact List.all_eq_true.mp am_K_2 k (List.mem_range'_1.mpr ⟨by omega, by omega⟩)
  by_cases h3 : k < 20
  · exact List.all_eq_true.mp am_K_3 k (List.mem_range'_1.mpr ⟨by omega, by omega⟩)
  by_cases h4 : k < 25
  · exact List.all_eq_true.mp am_K_4 k (List.mem_range'_1.mpr ⟨by omega, by omega⟩)
  by_cases h5 : k < 30
  · exact List.all_eq_true.mp am_K_5 k (List.mem_range'_1.mpr ⟨by omega, by omega⟩)
  by_cases h6 : k < 35
  · exact List.all_eq_true.mp am_K_6 k (List.mem_range'_1.mpr ⟨by omega, by omega⟩)
  by_cases h7 : k < 40
  · exact List.all_eq_true.mp am_K_7 k (List.mem_range'_1.mpr ⟨by omega, by omega⟩)
  by_cases h8 : k < 45
  · exact List.all_eq_true.mp am_K_8 k (List.mem_range'_1.mpr ⟨by omega, by omega⟩)
  by_cases h9 : k < 50
  · exact List.all_eq_true.mp am_K_9 k (List.mem_range'_1.mpr ⟨by omega, by omega⟩)
  by_cases h10 : k < 55
  · exact List.all_eq_true.mp am_K_10 k (List.mem_range'_1.mpr ⟨by omega, by omega⟩)
  by_cases h11 : k < 60
  · exact List.all_eq_true.mp am_K_11 k (List.mem_range'_1.mpr ⟨by omega, by omega⟩)
  by_cases h12 : k < 65
  · exact List.all_eq_true.mp am_K_12 k (List.mem_range'_1.mpr ⟨by omega, by omega⟩)
  by_cases h13 : k < 70
  · exact List.all_eq_true.mp am_K_13 k (List.mem_range'_1.mpr ⟨by omega, by omega⟩)
  by_cases h14 : k < 75
  · exact List.all_eq_true.mp am_K_14 k (List.mem_range'_1.mpr ⟨by omega, by omega⟩)
  by_cases h15 : k < 80
  · exact List.all_eq_true.mp am_K_15 k (List.mem_range'_1.mpr ⟨by omega, by omega⟩)
  by_cases h16 : k < 85
  · exact List.all_eq_true.mp am_K_16 k (List.mem_range'_1.mpr ⟨by omega, by omega⟩)
  by_cases h17 : k < 90
  · exact List.all_eq_true.mp am_K_17 k (List.mem_range'_1.mpr ⟨by omega, by omega⟩)
  by_cases h18 : k < 95
  · exact List.all_eq_true.mp am_K_18 k (List.mem_range'_1.mpr ⟨by omega, by omega⟩)
  by_cases h19 : k < 100
  · exact List.all_eq_true.mp am_K_19 k (List.mem_range'_1.mpr ⟨by omega, by omega⟩)
  by_cases h20 : k < 105
  · exact List.all_eq_true.mp am_K_20 k (List.mem_range'_1.mpr ⟨by omega, by omega⟩)
  by_cases h21 : k < 110
  · exact List.all_eq_true.mp am_K_21 k (List.mem_range'_1.mpr ⟨by omega, by omega⟩)
  by_cases h22 : k < 115
  · exact List.all_eq_true.mp am_K_22 k (List.mem_range'_1.mpr ⟨by omega, by omega⟩)
  by_cases h23 : k < 120
  · exact List.all_eq_true.mp am_K_23 k (List.mem_range'_1.mpr ⟨by omega, by omega⟩)
  by_cases h24 : k < 125
  · exact List.all_eq_true.mp am_K_24 k (List.mem_range'_1.mpr ⟨by omega, by omega⟩)
  by_cases h25 : k < 130
  · exact List.all_eq_true.mp am_K_25 k (List.mem_range'_1.mpr ⟨by omega, by omega⟩)
  omega
theorem am_mth_in {k ix kc : Nat} (h : am_mth k ix = some kc) : (Cond.methodLink (am_y k).cls ix (am_y kc) ∈ am_tbl ∨ ∃ host, Cond.methodLinkNest (am_y k).cls ix (am_y kc) host ∈ am_tbl) ∧ am_kchk kc = true := by
  unfold am_mth at h
  cases he : am_MT.find? (fun e => e.1 == am_oc k && e.2.1 == ix) with
  | none => rw [he] at h; cases h
  | some e =>
    rw [he] at h
    have h1 := List.find?_some he
    have h2 := List.all_eq_true.mp am_MT_ok e (List.mem_of_find?_eq_some he)
    simp only [Bool.and_eq_true, beq_iff_eq, decide_eq_true_eq] at h1 h2
    obtain ⟨⟨⟨g1, g2⟩, g3⟩, g4⟩ := h2
    obtain ⟨e0, e1, e2, e3, e4⟩ := e
    dsimp only at h1 g1 g2 g3 g4
    cases h
    obtain ⟨rfl, rfl⟩ := h1
    refine ⟨?_, ?_⟩
    · have hm := am_in_t g1 g2
      unfold am_lcw at hm
      dsimp only at hm
      by_cases hz : e3 = 0
      · rw [if_pos hz] at hm; exact Or.inl hm
      · rw [if_neg hz] at hm; exact Or.inr ⟨_, hm⟩
    · have h5 := am_K_all g3
      rw [Bool.or_eq_true, beq_iff_eq] at h5
      exact h5.resolve_left g4
theorem am_mth_v {k ix kc c : Nat} (h : am_mth k ix = some kc) (hc : am_rc kc = some c) : am_cd kc ∈ am_tbl ∧ (Cond.methodLink (am_y k).cls ix (am_y kc) ∈ am_tbl ∨ ∃ host, Cond.methodLinkNest (am_y k).cls ix (am_y kc) host ∈ am_tbl) ∧ Cond.instanceMethod (am_y kc) ∈ am_tbl ∧ Cond.selects (am_y kc).cls (am_y kc) (am_y kc) ∈ am_tbl ∧
    ((am_y kc).cls ≠ "java/lang/invoke/MethodHandle" ∧ (am_y kc).cls ≠ "java/lang/invoke/VarHandle") ∧ (parseMethodDescriptor (am_y kc).desc).map (fun d => d.parameters.length + 1) = some (am_na kc) ∧ am_na kc ≤ am_nL kc ∧ (∃ T N, am_cl[c]? = some ((am_y kc).cls, T, N)) ∧ plainName (am_y kc).cls = true := by
  obtain ⟨h1, h2⟩ := am_mth_in h
  unfold am_kchk am_isw am_plus at h2
  rw [hc] at h2
  simp only [Bool.and_eq_true, decide_eq_true_eq] at h2
  obtain ⟨⟨⟨⟨⟨⟨⟨⟨⟨⟨g1, g2⟩, g3⟩, g4⟩, ⟨g5, g6⟩, g7⟩, g8⟩, g9⟩, g10⟩, g11⟩, g12⟩, g13⟩ := h2
  exact ⟨am_in_t g1 g2, h1, am_in_t g3 g4, am_in_t g5 rfl, ⟨g9, g10⟩, g11, g12, ⟨(am_q c).2.1, (am_q c).2.2, by rw [am_q_of g7, ← g6]⟩, g13⟩
theorem am_mth_s {k ix kc : Nat} (h : am_mth k ix = some kc) (hc : am_rc kc = none) : am_cd kc ∈ am_tbl ∧ (Cond.methodLink (am_y k).cls ix (am_y kc) ∈ am_tbl ∨ ∃ host, Cond.methodLinkNest (am_y k).cls ix (am_y kc) host ∈ am_tbl) ∧ Cond.static (am_y kc) ∈ am_tbl ∧ Cond.initialized (am_y kc).cls ∈ am_tbl ∧
    ((am_y kc).cls ≠ "java/lang/invoke/MethodHandle" ∧ (am_y kc).cls ≠ "java/lang/invoke/VarHandle") ∧ (parseMethodDescriptor (am_y kc).desc).map (fun d => d.parameters.length) = some (am_na kc) ∧ am_na kc ≤ am_nL kc ∧ plainName (am_y kc).cls = true := by
  obtain ⟨h1, h2⟩ := am_mth_in h
  unfold am_kchk am_isw am_plus at h2
  rw [hc] at h2
  simp only [Bool.and_eq_true, decide_eq_true_eq] at h2
  obtain ⟨⟨⟨⟨⟨⟨⟨⟨⟨⟨g1, g2⟩, g3⟩, g4⟩, -⟩, g8⟩, g9⟩, g10⟩, g11⟩, g12⟩, g13⟩ := h2
  exact ⟨am_in_t g1 g2, h1, am_in_t g3 g4, am_in_t g8 rfl, ⟨g9, g10⟩, g11, g12, g13⟩
def am_mcw (e : Nat × Nat × Nat × Nat) : Cond := .methodLink (am_on.getD e.1 "BranchedPast$Branches") e.2.1 (if e.2.2.1 = 1 then Lib.Math.max.name else Lib.Math.min.name)
set_option maxRecDepth 100000 in
theorem am_MX_ok : (am_MX.all fun e => decide (lw_tbl[e.2.2.2]? = some (am_mcw e))) = true := by decide +kernel
set_option maxRecDepth 100000 in
theorem am_MP_ok : lw_tbl[am_MP.getD 0 0]? = some (.static Lib.Math.max.name) ∧ lw_tbl[am_MP.getD 1 0]? = some (.static Lib.Math.min.name) ∧ lw_tbl[am_MP.getD 2 0]? = some (.code Lib.Math.max.name Lib.Math.max.code 2 (some .int)) ∧ lw_tbl[am_MP.getD 3 0]? = some (.code Lib.Math.min.name Lib.Math.min.code 2 (some .int)) ∧ lw_tbl[am_MP.getD 4 0]? = some (.initialized "java/lang/Math") := by decide +kernel
theorem am_mx_in {k ix : Nat} {b : Bool} (h : am_mx k ix = some b) : Cond.methodLink (am_y k).cls ix (if b = true then Lib.Math.max.name else Lib.Math.min.name) ∈ am_tbl := by
  unfold am_mx at h
  cases he : am_MX.find? (fun e => e.1 == am_oc k && e.2.1 == ix) with
  | none => rw [he] at h; cases h
  | some e =>
    rw [he] at h
    have h1 := List.find?_some he
    have h2 := List.all_eq_true.mp am_MX_ok e (List.mem_of_find?_eq_some he)
    simp only [Bool.and_eq_true, beq_iff_eq, decide_eq_true_eq] at h1 h2
    obtain ⟨e0, e1, e2, e3⟩ := e
    dsimp only at h1 h2
    cases h
    obtain ⟨rfl, rfl⟩ := h1
    have hm := am_in_t h2 rfl
    unfold am_mcw at hm
    dsimp only at hm
    by_cases hz : e2 = 1
    · rw [if_pos hz] at hm; rw [if_pos (by simp [hz])]; exact hm
    · rw [if_neg hz] at hm; rw [if_neg (by simp [hz])]; exact hm
theorem am_mx_t {k ix : Nat} (h : am_mx k ix = some true) : Cond.methodLink (am_y k).cls ix Lib.Math.max.name ∈ am_tbl ∧ Cond.static Lib.Math.max.name ∈ am_tbl ∧ Cond.initialized "java/lang/Math" ∈ am_tbl ∧ Cond.code Lib.Math.max.name Lib.Math.max.code 2 (some .int) ∈ am_tbl :=
  ⟨am_mx_in h, am_in_t am_MP_ok.1 rfl, am_in_t am_MP_ok.2.2.2.2 rfl, am_in_t am_MP_ok.2.2.1 rfl⟩
theorem am_mx_f {k ix : Nat} (h : am_mx k ix = some false) : Cond.methodLink (am_y k).cls ix Lib.Math.min.name ∈ am_tbl ∧ Cond.static Lib.Math.min.name ∈ am_tbl ∧ Cond.initialized "java/lang/Math" ∈ am_tbl ∧ Cond.code Lib.Math.min.name Lib.Math.min.code 2 (some .int) ∈ am_tbl :=
  ⟨am_mx_in h, am_in_t am_MP_ok.2.1 rfl, am_in_t am_MP_ok.2.2.2.2 rfl, am_in_t am_MP_ok.2.2.2.1 rfl⟩
theorem am_nL_le (k : Nat) : am_nL k ≤ 15 := by
  unfold am_nL
  rw [List.getD_eq_getElem?_getD]
  cases h : am_nLl[k]? with
  | none => exact Nat.zero_le _
  | some n =>
    have h1 : am_nLl.all (fun n => decide (n ≤ 15)) = true := by decide +kernel
    exact decide_eq_true_eq.mp (List.all_eq_true.mp h1 n (List.mem_of_getElem? h))
