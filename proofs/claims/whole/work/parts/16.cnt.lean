/-! counting, the k-th one, or-ing, moving rows together -/
def sp_cnt (f : Nat → Bool) : Nat → Nat
  | 0 => 0
  | n + 1 => if f n = true then sp_cnt f n + 1 else sp_cnt f n
theorem sp_cnt_t {f : Nat → Bool} {n : Nat} (h : f n = true) : sp_cnt f n + 1 = sp_cnt f (n + 1) := by simp [sp_cnt, h]
theorem sp_cnt_f {f : Nat → Bool} {n : Nat} (h : ¬ f n = true) : sp_cnt f n = sp_cnt f (n + 1) := by simp [sp_cnt, h]
theorem sp_cnt_le (f : Nat → Bool) (n : Nat) : sp_cnt f n ≤ n := by
  induction n with
  | zero => exact Nat.le_refl _
  | succ n ih => simp only [sp_cnt]; split <;> omega
theorem sp_cnt_congr {f g : Nat → Bool} {n : Nat} (h : ∀ i, i < n → f i = g i) : sp_cnt f n = sp_cnt g n := by
  induction n with
  | zero => rfl
  | succ n ih => simp only [sp_cnt]; rw [h n (by omega), ih (fun i hi => h i (by omega))]
/-- r rows are left of n, s were seen: g of the k-th one with f, else -1 -/
def sp_kth (f : Nat → Bool) (g : Nat → Int32) (k : Int32) (n : Nat) : Nat → Nat → Int32
  | 0, _ => -1
  | r + 1, s => if f (n - (r + 1)) = true then (if nI s = k then g (n - (r + 1)) else sp_kth f g k n r (s + 1)) else sp_kth f g k n r s
theorem sp_kth_congr {f f' : Nat → Bool} {g g' : Nat → Int32} {k : Int32} {n : Nat} (hf : ∀ i, i < n → f i = f' i) (hg : ∀ i, i < n → g i = g' i) : ∀ r s, r ≤ n → sp_kth f g k n r s = sp_kth f' g' k n r s := by
  intro r
  induction r with
  | zero => intro s _; rfl
  | succ r ih =>
    intro s hr
    simp only [sp_kth]
    rw [hf _ (by omega), hg _ (by omega), ih _ (by omega), ih _ (by omega)]
theorem sp_kth_t {f : Nat → Bool} {g : Nat → Int32} {k : Int32} {n i s : Nat} (hi : i < n) (h : f i = true) (hs : nI s = k) : sp_kth f g k n (n - i) s = g i := by
  obtain ⟨r, hr⟩ : ∃ r, n - i = r + 1 := ⟨n - i - 1, by omega⟩
  rw [hr]
  simp only [sp_kth]
  rw [show n - (r + 1) = i by omega, if_pos h, if_pos hs]
theorem sp_kth_n {f : Nat → Bool} {g : Nat → Int32} {k : Int32} {n i s : Nat} (hi : i < n) (h : f i = true) (hs : ¬ nI s = k) : sp_kth f g k n (n - i) s = sp_kth f g k n (n - (i + 1)) (s + 1) := by
  obtain ⟨r, hr⟩ : ∃ r, n - i = r + 1 := ⟨n - i - 1, by omega⟩
  rw [hr, show n - (i + 1) = r by omega]
  simp only [sp_kth]
  rw [show n - (r + 1) = i by omega, if_pos h, if_neg hs]
theorem sp_kth_f {f : Nat → Bool} {g : Nat → Int32} {k : Int32} {n i s : Nat} (hi : i < n) (h : ¬ f i = true) : sp_kth f g k n (n - i) s = sp_kth f g k n (n - (i + 1)) s := by
  obtain ⟨r, hr⟩ : ∃ r, n - i = r + 1 := ⟨n - i - 1, by omega⟩
  rw [hr, show n - (i + 1) = r by omega]
  simp only [sp_kth]
  rw [show n - (r + 1) = i by omega, if_neg h]
def sp_or (c : Nat → Bool) (g : Nat → Int32) : Nat → Int32
  | 0 => 0
  | n + 1 => if c n = true then sp_or c g n ||| g n else sp_or c g n
theorem sp_or_t {c : Nat → Bool} {g : Nat → Int32} {n : Nat} (h : c n = true) : sp_or c g (n + 1) = sp_or c g n ||| g n := by simp [sp_or, h]
theorem sp_or_f {c : Nat → Bool} {g : Nat → Int32} {n : Nat} (h : ¬ c n = true) : sp_or c g (n + 1) = sp_or c g n := by simp [sp_or, h]
theorem sp_or_congr {c c' : Nat → Bool} {g g' : Nat → Int32} {n : Nat} (hc : ∀ i, i < n → c i = c' i) (hg : ∀ i, i < n → g i = g' i) : sp_or c g n = sp_or c' g' n := by
  induction n with
  | zero => rfl
  | succ n ih => simp only [sp_or]; rw [hc n (by omega), hg n (by omega), ih (fun i hi => hc i (by omega)) (fun i hi => hg i (by omega))]
/-- the rows with 'keep' moved together -/
def sp_cp (keep : Nat → Bool) (a : Nat → Int32) : Nat → (Nat → Int32)
  | 0 => a
  | i + 1 => if keep i = true then upd (sp_cp keep a i) (sp_cnt keep i) (sp_cp keep a i i) else sp_cp keep a i
theorem sp_cp_t {keep : Nat → Bool} {a : Nat → Int32} {i : Nat} (h : keep i = true) : sp_cp keep a (i + 1) = upd (sp_cp keep a i) (sp_cnt keep i) (sp_cp keep a i i) := by simp [sp_cp, h]
theorem sp_cp_f {keep : Nat → Bool} {a : Nat → Int32} {i : Nat} (h : ¬ keep i = true) : sp_cp keep a (i + 1) = sp_cp keep a i := by simp [sp_cp, h]
theorem sp_cp_congr {f g : Nat → Bool} {a : Nat → Int32} {n : Nat} (h : ∀ i, i < n → f i = g i) : sp_cp f a n = sp_cp g a n := by
  induction n with
  | zero => rfl
  | succ n ih =>
    have ih := ih (fun i hi => h i (by omega))
    have hc := sp_cnt_congr (f := f) (g := g) (n := n) (fun i hi => h i (by omega))
    by_cases hf : f n = true
    · rw [sp_cp_t hf, sp_cp_t (by rw [← h n (by omega)]; exact hf), ih, hc]
    · rw [sp_cp_f hf, sp_cp_f (by rw [← h n (by omega)]; exact hf), ih]
section AMI
variable {k pc : Nat} {L st r : List Value} {M : am_M} {Q : am_T}
theorem am_incE {j : Nat} (a b : Nat) {L' : List Value} (hab : a + 1 = b) (d : decode (am_bytes k) pc = .ok (.iinc j 1, 3)) (hl : L[j]? = some (.int (nI a))) (hL : L.set j (.int (nI b)) = L') (h : am_W k (pc + 3) L' st M Q) : am_W k pc L st M Q := by
  subst hab; exact am_incN a d hl hL h
end AMI
