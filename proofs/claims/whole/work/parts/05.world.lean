/-! the abstract machine's values, locals and memory on the real one -/
def am_v (ad : Nat → Nat) : Value → Value
  | .ref p => .ref (ad p)
  | v => v
def am_al (ad : Nat → Nat) (L : List Value) : List (Nat × Value) := (List.range L.length).filterMap fun i => (L[i]?).bind fun v => if am_ok v = true then some (i, am_v ad v) else none
def am_L (ad : Nat → Nat) (ls : Array Slot) (nL : Nat) (L : List Value) : Prop := L.length = nL ∧ lv_has ls nL (am_al ad L)
theorem am_al_in {ad : Nat → Nat} {L : List Value} {i : Nat} {v : Value} (h : L[i]? = some v) (hv : am_ok v = true) : (i, am_v ad v) ∈ am_al ad L := by
  refine List.mem_filterMap.mpr ⟨i, List.mem_range.mpr (List.getElem?_eq_some_iff.mp h).1, ?_⟩
  rw [h]
  show (if am_ok v = true then some (i, am_v ad v) else none) = _
  rw [if_pos hv]
theorem am_al_of {ad : Nat → Nat} {L : List Value} {q : Nat × Value} (h : q ∈ am_al ad L) : ∃ v, L[q.1]? = some v ∧ am_ok v = true ∧ q.2 = am_v ad v := by
  obtain ⟨i, -, h⟩ := List.mem_filterMap.mp h
  cases hv : L[i]? with
  | none => rw [hv] at h; cases h
  | some v =>
    rw [hv] at h
    have h : (if am_ok v = true then some (i, am_v ad v) else none) = some q := h
    split at h
    next hok => cases h; exact ⟨v, hv, hok, rfl⟩
    next => cases h
theorem am_ok_cat {ad : Nat → Nat} {v : Value} (h : am_ok v = true) : (am_v ad v).category = 1 := by
  cases v <;> first | rfl | cases h
theorem am_L.at {ad : Nat → Nat} {ls : Array Slot} {nL : Nat} {L : List Value} (h : am_L ad ls nL L) {i : Nat} {v : Value} (hi : L[i]? = some v) (hv : am_ok v = true) : ls[i]? = some (.val (am_v ad v)) := h.2.2.2 _ (am_al_in hi hv)
theorem am_L.put {ad : Nat → Nat} {ls ls' : Array Slot} {nL : Nat} {L : List Value} (h : am_L ad ls nL L) {i : Nat} {v : Value} (hv : am_ok v = true)
    (h' : lv_has ls' nL ((i, am_v ad v) :: (am_al ad L).filter (fun q => !(q.1 == i) && !(q.1 + 1 == i && q.2.category == 2)))) : am_L ad ls' nL (L.set i v) := by
  refine ⟨by rw [List.length_set]; exact h.1, h'.1, h'.2.1, fun q hq => ?_⟩
  obtain ⟨w, h1, h2, h3⟩ := am_al_of hq
  by_cases hi : q.1 = i
  · have h4 : w = v := by
      rw [hi] at h1
      by_cases hl : i < L.length
      · rw [List.getElem?_set_self hl] at h1; exact (Option.some.inj h1).symm
      · rw [List.getElem?_eq_none (by rw [List.length_set]; omega)] at h1; cases h1
    have h5 : q = (i, am_v ad v) := by rw [← hi, ← h4, ← h3]
    rw [h5]
    exact h'.2.2 _ List.mem_cons_self
  · rw [List.getElem?_set_ne (fun z => hi z.symm)] at h1
    refine h'.2.2 q (List.mem_cons_of_mem _ (List.mem_filter.mpr ⟨?_, ?_⟩))
    · have := am_al_in (ad := ad) h1 h2
      rw [← h3] at this
      exact this
    · have hc : q.2.category = 1 := by rw [h3]; exact am_ok_cat h2
      simp [hi, hc]
theorem am_lvargs {ad : Nat → Nat} (as : List Value) (n : Nat) : (∀ v ∈ as, am_ok v = true) → ∀ (j : Nat) (q : Nat × Value), q ∈ (List.range n).filterMap (fun i => ((as ++ List.replicate (n - as.length) Value.null)[i]?).bind fun v => if am_ok v = true then some (i + j, am_v ad v) else none) → q ∈ lv_args j (as.map (am_v ad)) := by
  induction as generalizing n with
  | nil =>
    intro _ j q hq
    obtain ⟨i, -, h⟩ := List.mem_filterMap.mp hq
    cases hv : ([] ++ List.replicate (n - ([] : List Value).length) Value.null)[i]? with
    | none => rw [hv] at h; cases h
    | some v =>
      rw [hv] at h
      have : v = .null := List.eq_of_mem_replicate (by simpa using List.mem_of_getElem? hv)
      subst this
      cases h
  | cons a as ih =>
    intro hok j q hq
    obtain ⟨i, hi, h⟩ := List.mem_filterMap.mp hq
    have hi := List.mem_range.mp hi
    have ha := hok a List.mem_cons_self
    show q ∈ (j, am_v ad a) :: lv_args (if (am_v ad a).category = 2 then j + 2 else j + 1) (as.map (am_v ad))
    rw [if_neg (by rw [am_ok_cat ha]; decide)]
    cases i with
    | zero =>
      have h : (if am_ok a = true then some (0 + j, am_v ad a) else none) = some q := h
      rw [if_pos ha] at h
      cases h
      rw [Nat.zero_add]
      exact List.mem_cons_self
    | succ i =>
      refine List.mem_cons_of_mem _ (ih (n - 1) (fun v hv => hok v (List.mem_cons_of_mem _ hv)) (j + 1) q (List.mem_filterMap.mpr ⟨i, List.mem_range.mpr (by omega), ?_⟩))
      rw [← h]
      have e1 : (a :: as ++ List.replicate (n - (a :: as).length) Value.null)[i + 1]? = (as ++ List.replicate (n - 1 - as.length) Value.null)[i]? := by
        rw [List.cons_append, List.getElem?_cons_succ, List.length_cons, show n - (as.length + 1) = n - 1 - as.length by omega]
      rw [e1]
      congr 1
      funext v
      rw [show i + 1 + j = i + (j + 1) by omega]
theorem am_entry {ad : Nat → Nat} {k : Nat} {as : List Value} (hok : ∀ v ∈ as, am_ok v = true) (hn : as.length ≤ am_nL k) {ls : Array Slot} (h : lv_has ls (am_nL k) (lv_args 0 (as.map (am_v ad)))) : am_L ad ls (am_nL k) (am_in k as) := by
  have hl : (am_in k as).length = am_nL k := by unfold am_in; rw [List.length_append, List.length_replicate]; omega
  refine ⟨hl, h.1, h.2.1, fun q hq => h.2.2 q ?_⟩
  refine am_lvargs as (am_nL k) hok 0 q ?_
  unfold am_al at hq
  rw [hl] at hq
  exact hq
theorem am_lgsl {ad : Nat → Nat} {as : List Value} (hok : ∀ v ∈ as, am_ok v = true) : (lg_sl (as.map (am_v ad))).length = as.length := by
  induction as with
  | nil => rfl
  | cons a as ih =>
    have h1 := ih (fun v hv => hok v (List.mem_cons_of_mem _ hv))
    have h2 := hok a List.mem_cons_self
    unfold lg_sl at h1 ⊢
    rw [List.map_cons, List.flatMap_cons, List.length_append, h1, List.length_cons]
    have : am_v ad a = am_v ad a := rfl
    cases a <;> first | (cases h2; done) | (simp [am_v, Value.category]; omega) | (simp [am_v]; omega)
def am_cell (ad : Nat → Nat) (cA : FieldType → ClassId) (M : am_M) (p : Nat) : am_Sh → va_E
  | .inl (.long, n) => .inl (cA .long, n, .inr (.inl (M.2.1 p)))
  | .inl (ty, n) => .inl (cA ty, n, .inl (M.1 p))
  | .inr (c, fs) => .inr (c, (List.range fs.length).map fun f => am_v ad (am_fv M p f (fs.getD f none)))
def am_w (ad : Nat → Nat) (cA : FieldType → ClassId) (M : am_M) : va_W := am_shl.zipIdx.map fun q => (ad q.2, am_cell ad cA M q.2 q.1)
theorem am_w_get {ad : Nat → Nat} {cA : FieldType → ClassId} {M : am_M} (p : Nat) : (am_w ad cA M)[p]? = (am_sh p).map fun s => (ad p, am_cell ad cA M p s) := by
  unfold am_w am_sh
  rw [List.getElem?_map, List.getElem?_zipIdx]
  cases am_shl[p]? <;> simp
theorem am_w_at {ad : Nat → Nat} {cA : FieldType → ClassId} {M : am_M} {p : Nat} {s : am_Sh} (h : am_sh p = some s) : (am_w ad cA M)[p]? = some (ad p, am_cell ad cA M p s) := by rw [am_w_get, h]; rfl
theorem am_w_len {ad : Nat → Nat} {cA : FieldType → ClassId} {M : am_M} : (am_w ad cA M).length = am_shl.length := by simp [am_w]
/-- two memories that agree but for a place give worlds that agree but for a place -/
theorem am_w_up {ad : Nat → Nat} {cA : FieldType → ClassId} {M M' : am_M} {p : Nat} {s : am_Sh} (h : am_sh p = some s) (h1 : ∀ q, q ≠ p → M'.1 q = M.1 q) (h2 : ∀ q, q ≠ p → M'.2.1 q = M.2.1 q) : (am_w ad cA M).set p (ad p, am_cell ad cA M' p s) = am_w ad cA M' := by
  apply List.ext_getElem?
  intro q
  by_cases hq : q = p
  · subst hq
    have hl : q < (am_w ad cA M).length := by rw [am_w_len]; exact (List.getElem?_eq_some_iff.mp h).1
    rw [List.getElem?_set_self hl, am_w_at h]
  · rw [List.getElem?_set_ne (fun z => hq z.symm), am_w_get, am_w_get]
    cases am_sh q with
    | none => rfl
    | some t =>
      have : am_cell ad cA M q t = am_cell ad cA M' q t := by
        have e1 := h1 q hq
        have e2 := h2 q hq
        rcases t with ⟨ty, n⟩ | ⟨c, fs⟩
        · cases ty <;> simp [am_cell, e1, e2]
        · simp only [am_cell]
          congr 2
          apply List.map_congr_left
          intro f _
          cases fs.getD f none <;> simp [am_fv, e1]
      simp [this]
theorem am_w_addr {ad : Nat → Nat} {cA : FieldType → ClassId} {M M' : am_M} {p : Nat} {q : Nat × va_E} (h : (am_w ad cA M)[p]? = some q) : ∃ q', (am_w ad cA M')[p]? = some q' ∧ q'.1 = q.1 := by
  rw [am_w_get] at h ⊢
  cases hs : am_sh p with
  | none => rw [hs] at h; cases h
  | some s => rw [hs] at h; cases h; exact ⟨_, rfl, rfl⟩
theorem am_D {ad : Nat → Nat} {cA : FieldType → ClassId} {M M' : am_M} {A : Nat → Prop} (h : va_D A (am_w ad cA M)) : va_D A (am_w ad cA M') := by
  refine ⟨fun i j x y hi hj hxy => ?_, fun p q hp => ?_⟩
  · obtain ⟨x', h1, h2⟩ := am_w_addr (M' := M) hi
    obtain ⟨y', h3, h4⟩ := am_w_addr (M' := M) hj
    exact h.1 i j x' y' h1 h3 (h2.trans (hxy.trans h4.symm))
  · obtain ⟨q', h1, h2⟩ := am_w_addr (M' := M) hp
    rw [← h2]
    exact h.2 p q' h1
theorem am_A {ad : Nat → Nat} {cA : FieldType → ClassId} {M M' : am_M} {n q : Nat} (h : va_A (am_w ad cA M) n q) : va_A (am_w ad cA M') n q := by
  rcases h with ⟨k, e, h⟩ | h
  · obtain ⟨⟨a, e'⟩, h1, h2⟩ := am_w_addr (M' := M') h
    have h2 : a = q := h2
    subst h2
    exact Or.inl ⟨k, e', h1⟩
  · exact Or.inr h
def am_tys (cA : FieldType → ClassId) : List (ClassId × FieldType) := [(cA .int, .int), (cA .boolean, .boolean), (cA .char, .char), (cA .long, .long)]
