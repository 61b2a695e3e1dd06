/-! bits of sets; closures; the model's sets are the class's -/
def tb (s : Int32) (j : Nat) : Bool := s.toBitVec.getLsbD j
theorem tb_ext {s t : Int32} (h : ∀ j, j < 32 → tb s j = tb t j) : s = t := by
  apply Int32.toBitVec_inj.mp
  exact BitVec.eq_of_getLsbD_eq (fun j hj => h j hj)
theorem tb_or (s t : Int32) (j : Nat) : tb (s ||| t) j = (tb s j || tb t j) := by
  show (s.toBitVec ||| t.toBitVec).getLsbD j = _
  exact BitVec.getLsbD_or
theorem tb_and (s t : Int32) (j : Nat) : tb (s &&& t) j = (tb s j && tb t j) := by
  show (s.toBitVec &&& t.toBitVec).getLsbD j = _
  exact BitVec.getLsbD_and
theorem bt_0 (j : Nat) : tb 0 j = false := by
  show (0#32).getLsbD j = false
  exact BitVec.getLsbD_zero
theorem sm_nI : ∀ j, j < 32 → ((nI j).toBitVec.smod 32).toNat = j := by decide
theorem nI_31 {j : Nat} (h : j < 32) : nI j &&& 31 = nI j := by
  rw [pk_andN (by omega) 5 (by decide), Nat.mod_eq_of_lt (by omega)]
theorem bt_1 {o : Nat} (ho : o < 32) (j : Nat) : tb ((1 : Int32) <<< (nI o &&& 31)) j = decide (j = o) := by
  rw [nI_31 ho]
  have h := pk_shl 1 (nI o) o (sm_nI o ho)
  have h1 : ((1 : Int32) <<< nI o).toBitVec.toNat = 2 ^ o := by
    rw [h]
    have : (1 : Int32).toBitVec.toNat = 1 := by decide
    rw [this, Nat.one_mul, Nat.mod_eq_of_lt (Nat.pow_lt_pow_right (by decide) ho)]
  show ((1 : Int32) <<< nI o).toBitVec.getLsbD j = _
  unfold BitVec.getLsbD
  rw [h1, Nat.testBit_two_pow]
  by_cases hj : o = j
  · simp [hj]
  · simp [hj]; omega
theorem tb_in {s : Int32} {o : Nat} (ho : o < 32) : sp_isin s o = tb s o := by
  unfold sp_isin
  rw [nI_31 ho]
  have h0 : tb (s >>> nI o) 0 = tb s o := by
    show (s.toBitVec.sshiftRight (((nI o).toBitVec.smod 32).toNat)).getLsbD 0 = _
    rw [sm_nI o ho, BitVec.getLsbD_sshiftRight]
    simp [ho]
    rfl
  rw [pk_and (s >>> nI o) (m := 1) 1 (by decide), ← h0]
  show decide (nI ((s >>> nI o).toBitVec.toNat % 2) = nI 1) = (s >>> nI o).toBitVec.toNat.testBit 0
  rw [Nat.testBit_zero]
  generalize (s >>> nI o).toBitVec.toNat = X
  by_cases h : X % 2 = 1
  · simp [h]
  · have : X % 2 = 0 := by omega
    rw [this]
    decide
/-- a set of the 12 objects -/
def b12 (s : Int32) : Prop := ∀ j, 12 ≤ j → tb s j = false
theorem b12_0 : b12 0 := fun j _ => bt_0 j
theorem b12_1 {o : Nat} (h : o < 12) : b12 ((1 : Int32) <<< (nI o &&& 31)) := fun j hj => by
  rw [bt_1 (by omega)]
  simp
  omega
theorem b12_or {s t : Int32} (h1 : b12 s) (h2 : b12 t) : b12 (s ||| t) := fun j hj => by rw [tb_or, h1 j hj, h2 j hj]; rfl
theorem b12_a : b12 4095 := fun j hj => by
  show (4095#32).getLsbD j = false
  by_cases h : j < 32
  · have : ∀ j, j < 32 → 12 ≤ j → (4095#32).getLsbD j = false := by decide
    exact this j h hj
  · exact BitVec.getLsbD_of_ge _ _ (by omega)
theorem b12_sp {c : Nat → Bool} {g : Nat → Int32} {n : Nat} (h : ∀ i, i < n → c i = true → b12 (g i)) : b12 (sp_or c g n) := by
  induction n with
  | zero => exact b12_0
  | succ n ih =>
    by_cases hc : c n = true
    · rw [sp_or_t hc]; exact b12_or (ih (fun i hi => h i (by omega))) (h n (by omega) hc)
    · rw [sp_or_f hc]; exact ih (fun i hi => h i (by omega))
def kv12 (kd vl : Nat → Int32) : Prop := ∀ c, kd c = 2 → ∃ j, j < 12 ∧ vl c = nI j
theorem b12_refd {kd vl : Nat → Int32} {s : Int32} {f : Nat} (h : kv12 kd vl) : b12 (sp_refd kd vl s f) := b12_sp (fun o _ _ => by
  show b12 (sp_tg kd vl (4 * o + f))
  unfold sp_tg
  split
  next h2 => obtain ⟨j, hj, e⟩ := h _ h2; rw [e]; exact b12_1 hj
  next => exact b12_0)
theorem b12_refg {kd vl : Nat → Int32} {s : Int32} {f : Nat} : b12 (sp_refg kd vl s f) := b12_sp (fun _ h _ => b12_1 h)
theorem b12_num {kd vl : Nat → Int32} {s sg b : Int32} {f : Nat} : b12 (sp_num kd vl s f sg b) := b12_sp (fun _ h _ => b12_1 h)
theorem b12_non {kd : Nat → Int32} {s : Int32} {f : Nat} : b12 (sp_non kd s f) := b12_sp (fun _ h _ => b12_1 h)
theorem or_self0 (s : Int32) : s ||| 0 = s := tb_ext (fun j _ => by rw [tb_or, bt_0, Bool.or_false])
theorem al_eq {kd vl : Nat → Int32} {s : Int32} {f : Nat} : ∀ n, sp_or (fun o => sp_isin s o && decide (kd (4 * o + f) = 2)) (fun o => (1 : Int32) <<< (vl (4 * o + f) &&& 31)) n = sp_or (sp_isin s) (fun o => sp_tg kd vl (4 * o + f)) n := by
  intro n
  induction n with
  | zero => rfl
  | succ n ih =>
    simp only [sp_or, ih]
    by_cases h : sp_isin s n = true
    · by_cases h2 : kd (4 * n + f) = 2
      · simp [h, h2, sp_tg]
      · simp [h, h2, sp_tg, or_self0]
    · simp [h]
theorem tg_eq {kd vl : Nat → Int32} {s : Int32} {c : Nat} : (decide (kd c = 2) && decide ((s >>> (vl c &&& 31)) &&& 1 = 1)) = !decide (sp_tg kd vl c &&& s = 0) := by
  unfold sp_tg
  by_cases h2 : kd c = 2
  · obtain ⟨j, hj, e⟩ := pk_andE (vl c) (m := 31) 5 (by decide)
    have e1 : vl c &&& 31 = nI j &&& 31 := by rw [e, nI_31 hj]
    rw [if_pos h2, e1]
    have h3 : decide ((s >>> (nI j &&& 31)) &&& 1 = 1) = tb s j := tb_in hj
    rw [h3]
    simp only [h2, decide_true, Bool.true_and]
    by_cases h4 : tb s j = true
    · rw [h4]
      have : ¬ (1 : Int32) <<< (nI j &&& 31) &&& s = 0 := fun z => by
        have h5 := congrArg (fun t => tb t j) z
        simp only [tb_and, bt_1 hj, h4, bt_0] at h5
        simp at h5
      simp [this]
    · have : (1 : Int32) <<< (nI j &&& 31) &&& s = 0 := tb_ext (fun i _ => by
        rw [tb_and, bt_1 hj, bt_0]
        by_cases hi : i = j
        · subst hi; simp at h4; simp [h4]
        · simp [hi])
      simp at h4
      simp [this, h4]
  · have h0 : (0 : Int32) &&& s = 0 := tb_ext (fun i _ => by rw [tb_and, bt_0]; rfl)
    rw [if_neg h2, h0]
    simp [h2]
theorem ag_eq {kd vl : Nat → Int32} {s : Int32} {f : Nat} : sp_or (fun o => decide (kd (4 * o + f) = 2) && decide ((s >>> (vl (4 * o + f) &&& 31)) &&& 1 = 1)) (fun o => (1 : Int32) <<< (nI o &&& 31)) 12 = sp_refg kd vl s f := sp_or_congr (fun _ _ => tg_eq) (fun _ _ => rfl)
theorem se_eq {p : Nat → Bool} {s : Int32} : ∀ n, n ≤ 12 → sp_or p (fun o => s &&& (1 : Int32) <<< (nI o &&& 31)) n = sp_or (fun o => sp_isin s o && p o) (fun o => (1 : Int32) <<< (nI o &&& 31)) n := by
  intro n
  induction n with
  | zero => intro _; rfl
  | succ n ih =>
    intro hn
    simp only [sp_or, ih (by omega)]
    by_cases hp : p n = true
    · by_cases h : sp_isin s n = true
      · have e : s &&& (1 : Int32) <<< (nI n &&& 31) = (1 : Int32) <<< (nI n &&& 31) := tb_ext (fun i _ => by
          rw [tb_and, bt_1 (by omega)]
          by_cases hi : i = n
          · subst hi; rw [← tb_in (by omega), h]; rfl
          · simp [hi])
        simp [hp, h, e]
      · have e : s &&& (1 : Int32) <<< (nI n &&& 31) = 0 := tb_ext (fun i _ => by
          rw [tb_and, bt_1 (by omega), bt_0]
          by_cases hi : i = n
          · subst hi; rw [← tb_in (by omega)]; simp at h; simp [h]
          · simp [hi])
        simp [hp, h, e, or_self0]
    · simp [hp]
/-! closures -/
def it (g : Int32 → Int32) : Nat → Int32 → Int32
  | 0, s => s
  | n + 1, s => it g n (g s)
theorem it_s (g : Int32 → Int32) : ∀ n s, it g (n + 1) s = g (it g n s) := by
  intro n
  induction n with
  | zero => intro s; rfl
  | succ n ih => intro s; exact ih (g s)
theorem it_fix {g : Int32 → Int32} {s : Int32} (h : g s = s) : ∀ n, it g n s = s := by
  intro n
  induction n with
  | zero => rfl
  | succ n ih => rw [it_s, ih, h]
theorem clo_it {g : Int32 → Int32} : ∀ d s old, (s = old → g s = s) → sp_clo g d s old = it g d s := by
  intro d
  induction d with
  | zero => intro s old _; rfl
  | succ d ih =>
    intro s old h
    simp only [sp_clo]
    split
    next he => exact (it_fix (h he) (d + 1)).symm
    next he => exact ih (g s) s (fun z => by rw [z, z])
theorem sp_cnt_lt {f g : Nat → Bool} (h : ∀ i, f i = true → g i = true) {j : Nat} : ∀ n, j < n → ¬ f j = true → g j = true → sp_cnt f n < sp_cnt g n := by
  have le : ∀ n, sp_cnt f n ≤ sp_cnt g n := by
    intro n
    induction n with
    | zero => exact Nat.le_refl _
    | succ n ih =>
      by_cases hf : f n = true
      · rw [← sp_cnt_t hf, ← sp_cnt_t (h n hf)]; omega
      · rw [← sp_cnt_f hf]; exact Nat.le_trans ih (sp_cnt_mono g n (n + 1) (by omega))
  intro n
  induction n with
  | zero => intro hj; omega
  | succ n ih =>
    intro hj hf hg
    by_cases hjn : j = n
    · subst hjn
      rw [← sp_cnt_f hf, ← sp_cnt_t hg]
      have := le j
      omega
    · have := ih (by omega) hf hg
      by_cases hfn : f n = true
      · rw [← sp_cnt_t hfn, ← sp_cnt_t (h n hfn)]; omega
      · rw [← sp_cnt_f hfn]; exact Nat.lt_of_lt_of_le this (sp_cnt_mono g n (n + 1) (by omega))
theorem sp_cnt_all {f : Nat → Bool} : ∀ n, n ≤ sp_cnt f n → ∀ j, j < n → f j = true := by
  intro n
  induction n with
  | zero => intro _ j hj; omega
  | succ n ih =>
    intro h j hj
    by_cases hf : f n = true
    · rw [← sp_cnt_t hf] at h
      by_cases hjn : j = n
      · subst hjn; exact hf
      · exact ih (by omega) j (by omega)
    · rw [← sp_cnt_f hf] at h
      have := sp_cnt_le f n
      omega
theorem it_12 {g : Int32 → Int32} (hg : ∀ t, b12 t → b12 (g t)) {s : Int32} (hs : b12 s) : (it (fun t => t ||| g t) 12 s) ||| g (it (fun t => t ||| g t) 12 s) = it (fun t => t ||| g t) 12 s := by
  have hb : ∀ n, b12 (it (fun t => t ||| g t) n s) := by
    intro n
    induction n with
    | zero => exact hs
    | succ n ih => rw [it_s]; exact b12_or ih (hg _ ih)
  have key : ∀ n, (it (fun t => t ||| g t) n s) ||| g (it (fun t => t ||| g t) n s) = it (fun t => t ||| g t) n s ∨ n ≤ sp_cnt (tb (it (fun t => t ||| g t) n s)) 12 := by
    intro n
    induction n with
    | zero => right; exact Nat.zero_le _
    | succ n ih =>
      rw [it_s]
      rcases ih with h | h
      · left; simp only [h]
      · by_cases he : (it (fun t => t ||| g t) n s) ||| g (it (fun t => t ||| g t) n s) = it (fun t => t ||| g t) n s
        · left; simp only [he]
        · right
          refine Nat.lt_of_le_of_lt h ?_
          have hex : ∃ j, j < 12 ∧ ¬ tb (it (fun t => t ||| g t) n s) j = true ∧ tb (g (it (fun t => t ||| g t) n s)) j = true := by
            refine Classical.byContradiction (fun z => he (tb_ext (fun j _ => ?_)))
            rw [tb_or]
            by_cases hj : 12 ≤ j
            · rw [hb n j hj, hg _ (hb n) j hj]; rfl
            · by_cases h1 : tb (it (fun t => t ||| g t) n s) j = true
              · rw [h1]; rfl
              · by_cases h2 : tb (g (it (fun t => t ||| g t) n s)) j = true
                · exact absurd ⟨j, by omega, h1, h2⟩ z
                · simp at h2; rw [h2, Bool.or_false]
          obtain ⟨j, hj, h1, h2⟩ := hex
          refine sp_cnt_lt (fun i hi => ?_) 12 hj h1 ?_
          · rw [tb_or, hi]; rfl
          · rw [tb_or, h2, Bool.or_true]
  rcases key 12 with h | h
  · exact h
  · refine tb_ext (fun j _ => ?_)
    rw [tb_or]
    by_cases hj : 12 ≤ j
    · rw [hb 12 j hj, hg _ (hb 12) j hj]; rfl
    · rw [sp_cnt_all 12 h j (by omega)]; rfl
theorem clo_13 {g : Int32 → Int32} (hg : ∀ t, b12 t → b12 (g t)) (h0 : g 0 = 0) {s : Int32} (hs : b12 s) : it (fun t => t ||| g t) 12 (s ||| g s) = ps_clo g s := by
  unfold ps_clo
  rw [clo_it 12 s 0 (fun z => by rw [z, h0]; exact or_self0 0)]
  have h1 : it (fun t => t ||| g t) 12 (s ||| g s) = it (fun t => t ||| g t) 13 s := rfl
  rw [h1, it_s]
  exact it_12 hg hs
theorem sp_or_none {c : Nat → Bool} {g : Nat → Int32} {n : Nat} (h : ∀ i, i < n → ¬ c i = true) : sp_or c g n = 0 := by
  induction n with
  | zero => rfl
  | succ n ih => rw [sp_or_f (h n (by omega))]; exact ih (fun i hi => h i (by omega))
theorem refd_0 {kd vl : Nat → Int32} {f : Nat} : sp_refd kd vl 0 f = 0 := sp_or_none (fun i hi => by rw [tb_in (by omega), bt_0]; simp)
theorem refg_0 {kd vl : Nat → Int32} {f : Nat} : sp_refg kd vl 0 f = 0 := sp_or_none (fun i hi => by
  have h0 : sp_tg kd vl (4 * i + f) &&& 0 = 0 := tb_ext (fun j _ => by rw [tb_and, bt_0, Bool.and_false])
  simp [h0])
