/-! rows with a place that is known to be a number; loops; memories that agree but for some places -/
section AME
variable {k pc : Nat} {L st r : List Value} {M : am_M} {Q : am_T}
theorem am_ialdE (i : Nat) {x : Int32} {p n : Nat} (hx : x = nI i) (d : decode (am_bytes k) pc = .ok (.iaload, 1)) (hs : am_sh p = some (.inl (.int, n))) (hi : i < n) (hn : n < 2 ^ 31) (h : am_W k (pc + 1) L (.int (M.1 p i) :: r) M Q) : am_W k pc L (.int x :: .ref p :: r) M Q := by
  subst hx; exact am_ialdN i d hs hi hn h
theorem am_zaldE (i : Nat) {x : Int32} {p n : Nat} (hx : x = nI i) (d : decode (am_bytes k) pc = .ok (.baload, 1)) (hs : am_sh p = some (.inl (.boolean, n))) (hi : i < n) (hn : n < 2 ^ 31) (h : am_W k (pc + 1) L (.int (M.1 p i) :: r) M Q) : am_W k pc L (.int x :: .ref p :: r) M Q := by
  subst hx; exact am_zaldN i d hs hi hn h
theorem am_caldE (i : Nat) {x : Int32} {p n : Nat} (hx : x = nI i) (d : decode (am_bytes k) pc = .ok (.caload, 1)) (hs : am_sh p = some (.inl (.char, n))) (hi : i < n) (hn : n < 2 ^ 31) (h : am_W k (pc + 1) L (.int (M.1 p i) :: r) M Q) : am_W k pc L (.int x :: .ref p :: r) M Q := by
  subst hx; exact am_caldN i d hs hi hn h
theorem am_iastE (i : Nat) {x v : Int32} {p n : Nat} (hx : x = nI i) (d : decode (am_bytes k) pc = .ok (.iastore, 1)) (hs : am_sh p = some (.inl (.int, n))) (hi : i < n) (hn : n < 2 ^ 31) (h : am_W k (pc + 1) L r (am_set M p i v) Q) : am_W k pc L (.int v :: .int x :: .ref p :: r) M Q := by
  subst hx; exact am_iastN i d hs hi hn h
theorem am_zastE (i : Nat) {x v : Int32} (w : Int32) {p n : Nat} (hx : x = nI i) (d : decode (am_bytes k) pc = .ok (.bastore, 1)) (hs : am_sh p = some (.inl (.boolean, n))) (hi : i < n) (hn : n < 2 ^ 31) (hv : vp_nar .boolean v = w) (h : am_W k (pc + 1) L r (am_set M p i w) Q) : am_W k pc L (.int v :: .int x :: .ref p :: r) M Q := by
  subst hx; exact am_zastN i w d hs hi hn hv h
theorem am_castE (i : Nat) {x v : Int32} (w : Int32) {p n : Nat} (hx : x = nI i) (d : decode (am_bytes k) pc = .ok (.castore, 1)) (hs : am_sh p = some (.inl (.char, n))) (hi : i < n) (hn : n < 2 ^ 31) (hv : vp_nar .char v = w) (h : am_W k (pc + 1) L r (am_set M p i w) Q) : am_W k pc L (.int v :: .int x :: .ref p :: r) M Q := by
  subst hx; exact am_castN i w d hs hi hn hv h
theorem am_saldE (i : Nat) {x : Int32} (hx : x = nI i) (d : decode (am_bytes k) pc = .ok (.iaload, 1)) (hi : i < M.2.2.2.1) (hn : M.2.2.2.1 < 2 ^ 31) (h : am_W k (pc + 1) L (.int (M.2.2.2.2 i) :: r) M Q) : am_W k pc L (.int x :: .ref am_SC :: r) M Q := by
  subst hx; exact am_saldN i d hi hn h
end AME
theorem am_loop {P : Nat → Prop} (n : Nat) (hs : ∀ i, i ≤ n → (i < n → P (i + 1)) → P i) : ∀ i, i ≤ n → P i := by
  have key : ∀ d i, i ≤ n → n - i = d → P i := by
    intro d
    induction d with
    | zero => intro i h1 h2; exact hs i h1 (fun h => absurd h (by omega))
    | succ d ih => intro i h1 h2; exact hs i h1 (fun h => ih (i + 1) (by omega) (by omega))
  exact fun i h => key _ i h rfl
/-- the two memories agree but for the places S -/
def fr (S : List Nat) (M M' : am_M) : Prop := (∀ p, p ∉ S → M'.1 p = M.1 p) ∧ M'.2 = M.2
theorem fr.rf {S : List Nat} {M : am_M} : fr S M M := ⟨fun _ _ => rfl, rfl⟩
theorem fr.tr {S : List Nat} {M M' M2 : am_M} (h1 : fr S M M') (h2 : fr S M' M2) : fr S M M2 := ⟨fun p hp => (h2.1 p hp).trans (h1.1 p hp), h2.2.trans h1.2⟩
theorem fr.wk {S S' : List Nat} {M M' : am_M} (h : fr S M M') (hs : ∀ p ∈ S, p ∈ S') : fr S' M M' := ⟨fun p hp => h.1 p (fun z => hp (hs p z)), h.2⟩
theorem fr.set {S : List Nat} {M M' : am_M} {p i : Nat} {x : Int32} (h : fr S M M') (hp : p ∈ S) : fr S M (am_set M' p i x) := ⟨fun q hq => by rw [am_set_ne (fun z => hq (by rw [z]; exact hp))]; exact h.1 q hq, h.2⟩
theorem fr.eq {S : List Nat} {M M' : am_M} (h : fr S M M') (p : Nat) (hp : p ∉ S) : M'.1 p = M.1 p := h.1 p hp
def am_fill (M : am_M) (p n : Nat) (x : Int32) : am_M := (va_up M.1 p (fun i => if i < n then x else M.1 p i), M.2)
theorem am_fill_self {M : am_M} {p n : Nat} {x : Int32} {i : Nat} (h : i < n) : (am_fill M p n x).1 p i = x := by
  show va_up M.1 p _ p i = x
  rw [va_up_self, if_pos h]
theorem am_fill_ne {M : am_M} {p q n : Nat} {x : Int32} (h : q ≠ p) : (am_fill M p n x).1 q = M.1 q := va_up_ne _ _ h
theorem am_fill_fr {S : List Nat} {M M' : am_M} {p n : Nat} {x : Int32} (h : fr S M M') (hp : p ∈ S) : fr S M (am_fill M' p n x) := ⟨fun q hq => by rw [am_fill_ne (fun z => hq (by rw [z]; exact hp))]; exact h.1 q hq, h.2⟩
theorem am_fill_0 {M : am_M} {p : Nat} {x : Int32} : am_fill M p 0 x = M := by
  have : va_up M.1 p (fun i => if i < 0 then x else M.1 p i) = M.1 := by
    funext q
    by_cases h : q = p
    · subst h; rw [va_up_self]; funext i; simp
    · rw [va_up_ne _ _ h]
  show (va_up M.1 p (fun i => if i < 0 then x else M.1 p i), M.2) = M
  rw [this]
theorem am_fill_s {M : am_M} {p i : Nat} {x : Int32} : am_set (am_fill M p i x) p i x = am_fill M p (i + 1) x := by
  have : va_up (am_fill M p i x).1 p (upd ((am_fill M p i x).1 p) i x) = va_up M.1 p (fun j => if j < i + 1 then x else M.1 p j) := by
    funext q
    by_cases h : q = p
    · subst h
      rw [va_up_self, va_up_self]
      funext j
      unfold upd
      by_cases hj : j = i
      · rw [if_pos hj, if_pos (by omega)]
      · rw [if_neg hj]
        show va_up M.1 q (fun j => if j < i then x else M.1 q j) q j = _
        rw [va_up_self]
        by_cases h2 : j < i
        · rw [if_pos h2, if_pos (by omega)]
        · rw [if_neg h2, if_neg (by omega)]
    · rw [va_up_ne _ _ h, va_up_ne _ _ h, am_fill_ne h]
  show (_, _) = (_, _)
  rw [this]
  rfl
