/-! what ties the class's ways to the model's -/
theorem i32_m1 {u : Int32} (h : 0 ≤ u) : -1 ≤ u := Int32.le_trans (by decide) h
theorem mt_f_fk {pn : Nat → Nat} {fk : Nat → Int32} {nb : Nat} (hp : ∀ b, 0 < b → b < nb → pn b < b) (hf : ∀ b, b < nb → 0 ≤ fk b) {b j : Nat} {m : Int32} (hb : b < nb) (hj : j ≠ b) (hm : 0 ≤ m) : mt_f pn fk b b m j ≤ fk b := by
  rcases Nat.lt_or_ge j b with h | h
  · rw [mt_f_down hp hb (by omega) h]
    have h1 := hp b (by omega) hb
    exact Int32.le_trans (mt_f_le hp hf _ _ _ _ (by omega) (Nat.le_refl _) (mt_min_pos hm (hf b hb))) mt_min_le2
  · rw [mt_f_above hp _ _ _ _ hb (Nat.le_refl _) (by omega)]
    exact i32_m1 (hf b hb)
/-- the rows are in order -/
def iv (wb wm : Nat → Int32) (pn : Nat → Nat) (fk : Nat → Int32) (nb nw : Nat) (ck : Int32) : Prop := (∀ i, i < nw → 0 < wm i ∧ wm i ≤ ck ∧ fk (wb i).toNatClampNeg < wm i) ∧ (∀ i j, i < j → j < nw → wm i < wm j) ∧ (∀ b, b < nb → fk b ≤ ck) ∧ ∀ b, 0 < b → b < nb → fk (pn b) ≤ fk b
theorem iv_inj {wb wm : Nat → Int32} {pn : Nat → Nat} {fk : Nat → Int32} {nb nw : Nat} {ck : Int32} (h : iv wb wm pn fk nb nw ck) {i j : Nat} (hi : i < nw) (hj : j < nw) (e : wm i = wm j) : i = j := by
  rcases Nat.lt_trichotomy i j with h1 | h1 | h1
  · have := h.2.1 i j h1 hj
    rw [e] at this
    exact absurd this Int32.lt_irrefl
  · exact h1
  · have := h.2.1 j i h1 hi
    rw [e] at this
    exact absurd this Int32.lt_irrefl
theorem gv_eq {wb wm wc : Nat → Int32} {pn : Nat → Nat} {fk : Nat → Int32} {nb nw : Nat} {ck : Int32} (hp : ∀ b, 0 < b → b < nb → pn b < b) (hf : ∀ b, b < nb → 0 ≤ fk b) (hR : bp_R wb wc nb nw) (h : iv wb wm pn fk nb nw ck) (h6 : nb ≤ 6) {b j c : Nat} (hb : b < nb) (hj : j < nw) (hc : wc j = nI c) {first : Int32} (hf0 : fk b ≤ first) (hfc : first ≤ ck) :
    (¬ (if wm j ≤ first then first else wm j) < first ∧ (if wm j ≤ first then first else wm j) ≤ ck ∧ sp_row wb wm wc pn fk nw b (if wm j ≤ first then first else wm j) c = some j) ↔ (wm j = sp_get wm (-1) (sp_row wb wm wc pn fk nw b first c) ∨ (wb j = nI b ∧ first < wm j)) := by
  have f0 : 0 ≤ first := Int32.le_trans (hf b hb) hf0
  obtain ⟨j1, j2, j3⟩ := h.1 j hj
  have nm1 : ¬ wm j = -1 := fun z => by rw [z] at j1; exact absurd j1 (by decide)
  by_cases hle : wm j ≤ first
  · rw [if_pos hle]
    constructor
    · rintro ⟨_, _, e⟩
      left
      rw [e]
      rfl
    · rintro (e | ⟨_, e⟩)
      · refine ⟨Int32.lt_irrefl, hfc, ?_⟩
        cases hr : sp_row wb wm wc pn fk nw b first c with
        | none => rw [hr] at e; exact absurd e nm1
        | some i =>
          rw [hr] at e
          rw [iv_inj h hj (sp_last_lt hr).1 e]
      · exact absurd hle (Int32.not_le.mpr e)
  · rw [if_neg hle]
    have hlt := Int32.not_le.mp hle
    have p0 : 0 ≤ wm j := Int32.le_of_lt j1
    constructor
    · rintro ⟨_, _, e⟩
      right
      refine ⟨?_, hlt⟩
      have hin := (sp_last_lt e).2
      unfold sp_in at hin
      simp only [Bool.and_eq_true, decide_eq_true_eq] at hin
      obtain ⟨bj, hbj, eb⟩ := (hR.2 j hj).1
      rw [eb, nI_clamp (by omega)] at hin
      by_cases hbb : bj = b
      · rw [eb, hbb]
      · have := mt_f_fk hp hf (m := wm j) hb hbb p0
        exact absurd (Int32.le_trans (Int32.le_trans hin.2 this) hf0) hle
    · rintro (e | ⟨e, _⟩)
      · exfalso
        cases hr : sp_row wb wm wc pn fk nw b first c with
        | none => rw [hr] at e; exact nm1 e
        | some i =>
          rw [hr] at e
          have hin := (sp_last_lt hr).2
          unfold sp_in at hin
          simp only [Bool.and_eq_true, decide_eq_true_eq] at hin
          have := mt_f_le hp hf b b first ((wb i).toNatClampNeg) hb (Nat.le_refl _) f0
          have e2 : wm j = wm i := e
          rw [e2] at hle
          exact hle (Int32.le_trans hin.2 this)
      · refine ⟨Int32.not_lt.mpr (Int32.le_of_lt hlt), j2, ?_⟩
        refine sp_last_of hj ?_ (fun i h1 h2 z => ?_)
        · unfold sp_in
          rw [e, nI_clamp (by omega), mt_f_self, hc]
          simp
        · unfold sp_in at z
          simp only [Bool.and_eq_true, decide_eq_true_eq] at z
          have h3 := h.2.1 j i h1 h2
          have h4 := mt_f_le hp hf b b (wm j) ((wb i).toNatClampNeg) hb (Nat.le_refl _) p0
          exact absurd (Int32.le_trans z.2 h4) (Int32.not_le.mpr h3)
/-! meeting -/
theorem mt_min_T (u f : Int32) : (mt_min u f).toInt = min u.toInt f.toInt := by
  unfold mt_min
  split
  next h => rw [Int32.lt_iff_toInt_lt] at h; omega
  next h => rw [Int32.lt_iff_toInt_lt] at h; omega
section MEET
variable {pn : Nat → Nat} {fk : Nat → Int32} {nb : Nat}
theorem on_l_gt (hp : ∀ b, 0 < b → b < nb → pn b < b) {a : Nat} : ∀ n b, b ≤ n → b < nb → b < a → on_l pn b b a = false := by
  intro n
  induction n with
  | zero => intro b h _ h2
            obtain rfl : b = 0 := by omega
            exact on_l_z (by omega)
  | succ n ih =>
    intro b h hb h2
    by_cases h0 : b = 0
    · subst h0; exact on_l_z (by omega)
    · rw [on_l_down hp hb (by omega) (by omega)]
      have := hp b (by omega) hb
      exact ih _ (by omega) (by omega) (by omega)
theorem lca_on (hp : ∀ b, 0 < b → b < nb → pn b < b) {t : Nat} (ht : t < nb) : ∀ n a, a ≤ n → a < nb → on_l pn a a (lca pn a a t) = true ∧ on_l pn t t (lca pn a a t) = true ∧ lca pn a a t ≤ a := by
  intro n
  induction n with
  | zero => intro a h ha
            obtain rfl : a = 0 := by omega
            exact ⟨on_l_self _ _, on_l_0 hp t t (Nat.le_refl _) ht, Nat.le_refl _⟩
  | succ n ih =>
    intro a h ha
    by_cases h0 : a = 0
    · subst h0; exact ⟨on_l_self _ _, on_l_0 hp t t (Nat.le_refl _) ht, Nat.le_refl _⟩
    · by_cases ho : on_l pn t t a = true
      · rw [lca_t ho]; exact ⟨on_l_self _ _, ho, Nat.le_refl _⟩
      · rw [lca_f hp ht ha (by omega) ho]
        have hlt := hp a (by omega) ha
        obtain ⟨i1, i2, i3⟩ := ih (pn a) (by omega) (by omega)
        refine ⟨?_, i2, by omega⟩
        rw [on_l_down hp ha (by omega) (by omega)]
        exact i1
theorem lca_tt (hp : ∀ b, 0 < b → b < nb → pn b < b) {t t' : Nat} (ht : t < nb) (ht' : t' < nb) : ∀ n a, a ≤ n → a < nb → (∀ x, x ≤ a → on_l pn t t x = on_l pn t' t' x) → lca pn a a t = lca pn a a t' := by
  intro n
  induction n with
  | zero => intro a h ha _
            obtain rfl : a = 0 := by omega
            rfl
  | succ n ih =>
    intro a h ha hx
    by_cases h0 : a = 0
    · subst h0; rfl
    · have hlt := hp a (by omega) ha
      by_cases ho : on_l pn t t a = true
      · rw [lca_t ho, lca_t (by rw [← hx a (Nat.le_refl _)]; exact ho)]
      · rw [lca_f hp ht ha (by omega) ho, lca_f hp ht' ha (by omega) (by rw [← hx a (Nat.le_refl _)]; exact ho)]
        exact ih (pn a) (by omega) (by omega) (fun x h1 => hx x (by omega))
theorem lf_ind (hp : ∀ b, 0 < b → b < nb → pn b < b) {b c : Nat} {w w' : Int32} (hb : b < nb) (hne : b ≠ c) (ho : on_l pn b b c = true) : lf pn fk b b c w = lf pn fk b b c w' := by
  have h0 : 0 < b := by
    rcases Nat.eq_zero_or_pos b with h | h
    · subst h; rw [on_l_z hne] at ho; cases ho
    · exact h
  rw [lf_down hp hb hne h0 ho, lf_down hp hb hne h0 ho]
theorem lf_le (hp : ∀ b, 0 < b → b < nb → pn b < b) (hm : ∀ b, 0 < b → b < nb → fk (pn b) ≤ fk b) {c : Nat} : ∀ n b, b ≤ n → b < nb → b ≠ c → on_l pn b b c = true → ∀ w, lf pn fk b b c w ≤ fk b := by
  intro n
  induction n with
  | zero => intro b h hb hne ho w
            obtain rfl : b = 0 := by omega
            rw [on_l_z hne] at ho; cases ho
  | succ n ih =>
    intro b h hb hne ho w
    have h0 : 0 < b := by
      rcases Nat.eq_zero_or_pos b with h | h
      · subst h; rw [on_l_z hne] at ho; cases ho
      · exact h
    have hlt := hp b h0 hb
    rw [lf_down hp hb hne h0 ho]
    rw [on_l_down hp hb hne h0] at ho
    by_cases hpc : pn b = c
    · rw [hpc, lf_self]; exact Int32.le_refl _
    · exact Int32.le_trans (ih (pn b) (by omega) (by omega) hpc ho _) (hm b h0 hb)
theorem lf_bd (hp : ∀ b, 0 < b → b < nb → pn b < b) {ck : Int32} (h0 : ∀ b, b < nb → 0 ≤ fk b) (h1 : ∀ b, b < nb → fk b ≤ ck) {c : Nat} : ∀ n b, b ≤ n → b < nb → on_l pn b b c = true → ∀ w, 0 ≤ w → w ≤ ck → 0 ≤ lf pn fk b b c w ∧ lf pn fk b b c w ≤ ck := by
  intro n
  induction n with
  | zero => intro b h hb ho w w0 w1
            obtain rfl : b = 0 := by omega
            exact ⟨w0, w1⟩
  | succ n ih =>
    intro b h hb ho w w0 w1
    by_cases hne : b = c
    · subst hne; rw [lf_self]; exact ⟨w0, w1⟩
    · have hpos : 0 < b := by
        rcases Nat.eq_zero_or_pos b with h | h
        · subst h; rw [on_l_z hne] at ho; cases ho
        · exact h
      have hlt := hp b hpos hb
      rw [lf_down hp hb hne hpos ho]
      rw [on_l_down hp hb hne hpos] at ho
      exact ih (pn b) (by omega) (by omega) ho _ (h0 b hb) (h1 b hb)
theorem meet_eq (hp : ∀ b, 0 < b → b < nb → pn b < b) (hm : ∀ b, 0 < b → b < nb → fk (pn b) ≤ fk b) : ∀ d a b (m : Int32), a < nb → b < nb → a + b ≤ d → sp_meet pn fk d m a b = mt_min (mt_min m (lf pn fk a a (lca pn a a b) m)) (lf pn fk b b (lca pn a a b) m) := by
  have idem : ∀ m : Int32, mt_min (mt_min m m) m = m := fun m => by
    apply Int32.toInt_inj.mp
    rw [mt_min_T, mt_min_T]
    omega
  intro d
  induction d with
  | zero =>
    intro a b m ha hb h
    obtain rfl : a = 0 := by omega
    obtain rfl : b = 0 := by omega
    exact (idem m).symm
  | succ d ih =>
    intro a b m ha hb h
    simp only [sp_meet]
    by_cases hab : a = b
    · subst hab
      rw [if_pos rfl, lca_t (on_l_self _ _), lf_self, idem]
    · rw [if_neg hab]
      by_cases hlt : a < b
      · rw [if_pos hlt]
        have hpb := hp b (by omega) hb
        have hl : lca pn a a b = lca pn a a (pn b) := lca_tt hp hb (by omega) a a (Nat.le_refl _) ha (fun x hx => on_l_down hp hb (by omega) (by omega))
        obtain ⟨c1, c2, c3⟩ := lca_on hp (t := pn b) (by omega) a a (Nat.le_refl _) ha
        have c2' : on_l pn b b (lca pn a a (pn b)) = true := by rw [on_l_down hp hb (by omega) (by omega)]; exact c2
        rw [ih a (pn b) _ ha (by omega) (by omega), hl, lf_down hp hb (by omega) (by omega) c2' (w := m)]
        generalize lca pn a a (pn b) = c at *
        apply Int32.toInt_inj.mp
        simp only [mt_min_T]
        by_cases hac : a = c
        · subst hac
          rw [lf_self, lf_self]
          by_cases hbc : pn b = a
          · rw [hbc, lf_self, lf_self]
            simp only [mt_min_T]
            omega
          · have e1 := lf_ind (fk := fk) hp (by omega) hbc c2 (w := mt_min m (fk b)) (w' := fk b)
            have e2 := lf_le hp hm (pn b) (pn b) (Nat.le_refl _) (by omega) hbc c2 (fk b)
            have e3 := Int32.le_trans e2 (hm b (by omega) hb)
            rw [Int32.le_iff_toInt_le] at e3
            rw [e1]
            simp only [mt_min_T]
            omega
        · rw [lf_ind (fk := fk) hp ha hac c1 (w := mt_min m (fk b)) (w' := m)]
          by_cases hbc : pn b = c
          · rw [hbc, lf_self, lf_self]
            simp only [mt_min_T]
            omega
          · have e1 := lf_ind (fk := fk) hp (by omega) hbc c2 (w := mt_min m (fk b)) (w' := fk b)
            have e2 := lf_le hp hm (pn b) (pn b) (Nat.le_refl _) (by omega) hbc c2 (fk b)
            have e3 := Int32.le_trans e2 (hm b (by omega) hb)
            rw [Int32.le_iff_toInt_le] at e3
            rw [e1]
            omega
      · rw [if_neg hlt]
        have hpa := hp a (by omega) ha
        have hl : lca pn a a b = lca pn (pn a) (pn a) b := lca_f hp hb ha (by omega) (by rw [on_l_gt hp b b (Nat.le_refl _) hb (by omega)]; decide)
        obtain ⟨c1, c2, c3⟩ := lca_on hp hb (pn a) (pn a) (Nat.le_refl _) (by omega)
        have c1' : on_l pn a a (lca pn (pn a) (pn a) b) = true := by rw [on_l_down hp ha (by omega) (by omega)]; exact c1
        rw [ih (pn a) b _ (by omega) hb (by omega), hl, lf_down hp ha (by omega) (by omega) c1' (w := m)]
        generalize lca pn (pn a) (pn a) b = c at *
        apply Int32.toInt_inj.mp
        simp only [mt_min_T]
        by_cases hbc : b = c
        · subst hbc
          rw [lf_self, lf_self]
          by_cases hac : pn a = b
          · rw [hac, lf_self, lf_self]
            simp only [mt_min_T]
            omega
          · have e1 := lf_ind (fk := fk) hp (by omega) hac c1 (w := mt_min m (fk a)) (w' := fk a)
            have e2 := lf_le hp hm (pn a) (pn a) (Nat.le_refl _) (by omega) hac c1 (fk a)
            have e3 := Int32.le_trans e2 (hm a (by omega) ha)
            rw [Int32.le_iff_toInt_le] at e3
            rw [e1]
            simp only [mt_min_T]
            omega
        · rw [lf_ind (fk := fk) hp hb hbc c2 (w := mt_min m (fk a)) (w' := m)]
          by_cases hac : pn a = c
          · rw [hac, lf_self, lf_self]
            simp only [mt_min_T]
            omega
          · have e1 := lf_ind (fk := fk) hp (by omega) hac c1 (w := mt_min m (fk a)) (w' := fk a)
            have e2 := lf_le hp hm (pn a) (pn a) (Nat.le_refl _) (by omega) hac c1 (fk a)
            have e3 := Int32.le_trans e2 (hm a (by omega) ha)
            rw [Int32.le_iff_toInt_le] at e3
            rw [e1]
            omega
theorem meet_mo (hp : ∀ b, 0 < b → b < nb → pn b < b) (hm : ∀ b, 0 < b → b < nb → fk (pn b) ≤ fk b) (h0 : ∀ b, b < nb → 0 ≤ fk b) {ck : Int32} (hck : 0 ≤ ck) (h1 : ∀ b, b < nb → fk b ≤ ck) (h6 : nb ≤ 6) {a b : Nat} (ha : a < nb) (hb : b < nb) : sp_meet pn fk 12 ck a b = mo_meet pn fk ck a b := by
  rw [meet_eq hp hm 12 a b ck ha hb (by omega)]
  obtain ⟨c1, c2, c3⟩ := lca_on hp hb a a (Nat.le_refl _) ha
  obtain ⟨_, l1⟩ := lf_bd hp h0 h1 a a (Nat.le_refl _) ha c1 ck hck (Int32.le_refl _)
  obtain ⟨_, l2⟩ := lf_bd hp h0 h1 b b (Nat.le_refl _) hb c2 ck hck (Int32.le_refl _)
  unfold mo_meet
  rw [Int32.le_iff_toInt_le] at l1 l2
  apply Int32.toInt_inj.mp
  rw [mt_min_T, mt_min_T]
  split
  next h => rw [Int32.le_iff_toInt_le] at h; omega
  next h => rw [Int32.le_iff_toInt_le] at h; omega
theorem mo_meet_bd (hp : ∀ b, 0 < b → b < nb → pn b < b) (h0 : ∀ b, b < nb → 0 ≤ fk b) {ck : Int32} (hck : 0 ≤ ck) (h1 : ∀ b, b < nb → fk b ≤ ck) {a b : Nat} (ha : a < nb) (hb : b < nb) : 0 ≤ mo_meet pn fk ck a b ∧ mo_meet pn fk ck a b ≤ ck := by
  obtain ⟨c1, c2, c3⟩ := lca_on hp hb a a (Nat.le_refl _) ha
  have l1 := lf_bd hp h0 h1 a a (Nat.le_refl _) ha c1 ck hck (Int32.le_refl _)
  have l2 := lf_bd hp h0 h1 b b (Nat.le_refl _) hb c2 ck hck (Int32.le_refl _)
  unfold mo_meet
  split
  · exact l2
  · exact l1
/-- at a moment not behind the forks on the way, a line shows what the shared line shows -/
theorem see_up (hp : ∀ b, 0 < b → b < nb → pn b < b) (hm : ∀ b, 0 < b → b < nb → fk (pn b) ≤ fk b) {c j : Nat} {met w : Int32} (hw : 0 < w) (hj : fk j < w) : ∀ n a, a ≤ n → a < nb → on_l pn a a c = true → (∀ v, a ≠ c → met ≤ lf pn fk a a c v) → (w ≤ mt_f pn fk a a met j ↔ w ≤ mt_f pn fk c c met j) := by
  have m1 : ¬ w ≤ -1 := fun z => absurd (Int32.lt_of_lt_of_le hw z) (by decide)
  intro n
  induction n with
  | zero => intro a h ha ho _
            obtain rfl : a = 0 := by omega
            have : 0 = c := Classical.byContradiction (fun z => by rw [on_l_z z] at ho; cases ho)
            rw [this]
  | succ n ih =>
    intro a h ha ho hmet
    by_cases hac : a = c
    · rw [hac]
    · have hpos : 0 < a := by
        rcases Nat.eq_zero_or_pos a with h | h
        · subst h; rw [on_l_z hac] at ho; cases ho
        · exact h
      have hlt := hp a hpos ha
      have hca : c < a := by
        refine Classical.byContradiction (fun z => ?_)
        rw [on_l_gt hp a a (Nat.le_refl _) ha (by omega)] at ho
        cases ho
      have hfa : met ≤ fk a := Int32.le_trans (hmet met hac) (lf_le hp hm a a (Nat.le_refl _) ha hac ho met)
      have hcn : c < nb := by omega
      have ho2 := ho
      rw [on_l_down hp ha hac hpos] at ho2
      rcases Nat.lt_trichotomy j a with h1 | h1 | h1
      · rw [mt_f_down hp ha hpos h1]
        have emin : mt_min met (fk a) = met := by unfold mt_min; rw [if_neg (Int32.not_lt.mpr hfa)]
        rw [emin]
        refine ih (pn a) (by omega) (by omega) ho2 (fun v hne => ?_)
        have := hmet v hac
        rw [lf_down hp ha hac hpos ho, lf_ind (fk := fk) hp (by omega) hne ho2 (w := fk a) (w' := v)] at this
        exact this
      · subst h1
        rw [mt_f_self, mt_f_above hp _ _ _ _ hcn (Nat.le_refl _) hca]
        exact ⟨fun z => absurd (Int32.le_trans z hfa) (Int32.not_le.mpr hj), fun z => absurd z m1⟩
      · rw [mt_f_above hp _ _ _ _ ha (Nat.le_refl _) h1, mt_f_above hp _ _ _ _ hcn (Nat.le_refl _) (by omega)]
theorem row_met {wb wm wc : Nat → Int32} {nw : Nat} {ck : Int32} (hp : ∀ b, 0 < b → b < nb → pn b < b) (h : iv wb wm pn fk nb nw ck) {a b c : Nat} (ha : a < nb) (hb : b < nb) : sp_row wb wm wc pn fk nw a (mo_meet pn fk ck a b) c = sp_row wb wm wc pn fk nw b (mo_meet pn fk ck a b) c := by
  obtain ⟨c1, c2, c3⟩ := lca_on hp hb a a (Nat.le_refl _) ha
  have hm := h.2.2.2
  have q1 : ∀ v, a ≠ lca pn a a b → mo_meet pn fk ck a b ≤ lf pn fk a a (lca pn a a b) v := fun v hne => by
    rw [lf_ind (fk := fk) hp ha hne c1 (w := v) (w' := ck)]
    unfold mo_meet
    split
    next h => exact h
    next => exact Int32.le_refl _
  have q2 : ∀ v, b ≠ lca pn a a b → mo_meet pn fk ck a b ≤ lf pn fk b b (lca pn a a b) v := fun v hne => by
    rw [lf_ind (fk := fk) hp hb hne c2 (w := v) (w' := ck)]
    unfold mo_meet
    split
    next => exact Int32.le_refl _
    next h => exact Int32.le_of_lt (Int32.not_le.mp h)
  refine sp_last_congr (fun i hi => ?_)
  obtain ⟨w0, _, wf⟩ := h.1 i hi
  unfold sp_in
  congr 1
  have e1 := see_up hp hm w0 wf a a (Nat.le_refl _) ha c1 q1
  have e2 := see_up hp hm w0 wf b b (Nat.le_refl _) hb c2 q2
  exact decide_eq_decide.mpr (e1.trans e2.symm)
end MEET
