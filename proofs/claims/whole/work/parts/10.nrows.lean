/-! rows on places and counters that are natural numbers -/
section AMN
variable {k pc : Nat} {L st r : List Value} {M : am_M} {Q : am_T}
theorem am_ialdN (i : Nat) {p n : Nat} (d : decode (am_bytes k) pc = .ok (.iaload, 1)) (hs : am_sh p = some (.inl (.int, n))) (hi : i < n) (hn : n < 2 ^ 31) (h : am_W k (pc + 1) L (.int (M.1 p i) :: r) M Q) : am_W k pc L (.int (nI i) :: .ref p :: r) M Q :=
  am_iald d hs (vp_in_nI hi hn) (by rw [nI_clamp (by omega)]; exact h)
theorem am_zaldN (i : Nat) {p n : Nat} (d : decode (am_bytes k) pc = .ok (.baload, 1)) (hs : am_sh p = some (.inl (.boolean, n))) (hi : i < n) (hn : n < 2 ^ 31) (h : am_W k (pc + 1) L (.int (M.1 p i) :: r) M Q) : am_W k pc L (.int (nI i) :: .ref p :: r) M Q :=
  am_zald d hs (vp_in_nI hi hn) (by rw [nI_clamp (by omega)]; exact h)
theorem am_caldN (i : Nat) {p n : Nat} (d : decode (am_bytes k) pc = .ok (.caload, 1)) (hs : am_sh p = some (.inl (.char, n))) (hi : i < n) (hn : n < 2 ^ 31) (h : am_W k (pc + 1) L (.int (M.1 p i) :: r) M Q) : am_W k pc L (.int (nI i) :: .ref p :: r) M Q :=
  am_cald d hs (vp_in_nI hi hn) (by rw [nI_clamp (by omega)]; exact h)
theorem am_saldN (i : Nat) (d : decode (am_bytes k) pc = .ok (.iaload, 1)) (hi : i < M.2.2.2.1) (hn : M.2.2.2.1 < 2 ^ 31) (h : am_W k (pc + 1) L (.int (M.2.2.2.2 i) :: r) M Q) : am_W k pc L (.int (nI i) :: .ref am_SC :: r) M Q :=
  am_sald d (vp_in_nI hi hn) (by rw [nI_clamp (by omega)]; exact h)
theorem am_iastN (i : Nat) {v : Int32} {p n : Nat} (d : decode (am_bytes k) pc = .ok (.iastore, 1)) (hs : am_sh p = some (.inl (.int, n))) (hi : i < n) (hn : n < 2 ^ 31) (h : am_W k (pc + 1) L r (am_set M p i v) Q) : am_W k pc L (.int v :: .int (nI i) :: .ref p :: r) M Q :=
  am_iast d hs (vp_in_nI hi hn) (by rw [nI_clamp (by omega)]; exact h)
theorem am_zastN (i : Nat) {v : Int32} (w : Int32) {p n : Nat} (d : decode (am_bytes k) pc = .ok (.bastore, 1)) (hs : am_sh p = some (.inl (.boolean, n))) (hi : i < n) (hn : n < 2 ^ 31) (hv : vp_nar .boolean v = w) (h : am_W k (pc + 1) L r (am_set M p i w) Q) : am_W k pc L (.int v :: .int (nI i) :: .ref p :: r) M Q :=
  am_zast d hs (vp_in_nI hi hn) (by rw [nI_clamp (by omega), hv]; exact h)
theorem am_castN (i : Nat) {v : Int32} (w : Int32) {p n : Nat} (d : decode (am_bytes k) pc = .ok (.castore, 1)) (hs : am_sh p = some (.inl (.char, n))) (hi : i < n) (hn : n < 2 ^ 31) (hv : vp_nar .char v = w) (h : am_W k (pc + 1) L r (am_set M p i w) Q) : am_W k pc L (.int v :: .int (nI i) :: .ref p :: r) M Q :=
  am_cast d hs (vp_in_nI hi hn) (by rw [nI_clamp (by omega), hv]; exact h)
theorem am_incN {j : Nat} (i : Nat) {L' : List Value} (d : decode (am_bytes k) pc = .ok (.iinc j 1, 3)) (hl : L[j]? = some (.int (nI i))) (hL : L.set j (.int (nI (i + 1))) = L') (h : am_W k (pc + 3) L' st M Q) : am_W k pc L st M Q :=
  am_iinc (nI (i + 1)) d hl (nI_1 i) hL h
theorem am_addN {a b : Nat} (d : decode (am_bytes k) pc = .ok (.iadd, 1)) (h : am_W k (pc + 1) L (.int (nI (a + b)) :: r) M Q) : am_W k pc L (.int (nI b) :: .int (nI a) :: r) M Q := am_iadd d (by rw [nI_add]; exact h)
theorem am_mulN {a b : Nat} (d : decode (am_bytes k) pc = .ok (.imul, 1)) (h : am_W k (pc + 1) L (.int (nI (a * b)) :: r) M Q) : am_W k pc L (.int (nI b) :: .int (nI a) :: r) M Q := am_imul d (by rw [pk_mul]; exact h)
theorem am_icgeN {x y : Int32} {off : Int} (t a b : Nat) (d : decode (am_bytes k) pc = .ok (.if_icmp .ge off, 3)) (ht : (pc : Int) + off = t) (hx : x = nI a) (hy : y = nI b) (ha : a < 2 ^ 31) (hb : b < 2 ^ 31) (kt : b ≤ a → am_W k t L r M Q) (kf : a < b → am_W k (pc + 3) L r M Q) : am_W k pc L (.int y :: .int x :: r) M Q := by
  subst hx hy
  exact am_icge t d ht (fun q => kt ((nI_leI hb ha).mp q)) (fun q => kf (Nat.lt_of_not_le (fun z => q ((nI_leI hb ha).mpr z))))
theorem am_icltN {x y : Int32} {off : Int} (t a b : Nat) (d : decode (am_bytes k) pc = .ok (.if_icmp .lt off, 3)) (ht : (pc : Int) + off = t) (hx : x = nI a) (hy : y = nI b) (ha : a < 2 ^ 31) (hb : b < 2 ^ 31) (kt : a < b → am_W k t L r M Q) (kf : b ≤ a → am_W k (pc + 3) L r M Q) : am_W k pc L (.int y :: .int x :: r) M Q := by
  subst hx hy
  exact am_iclt t d ht (fun q => kt ((nI_ltI ha hb).mp q)) (fun q => kf (Nat.le_of_not_lt (fun z => q ((nI_ltI ha hb).mpr z))))
/-- a call's answer goes back to the caller -/
theorem am_af_v {v : Option Value} (h : am_W k (pc + 3) L (v.toList ++ r) M Q) : am_af am_W k pc L r Q (.inl v) M := h
/-- an exception that isn't caught goes on -/
theorem am_af_x {x : Nat} (h1 : am_hd k pc x = none) (h2 : am_et k = []) (h : Q (.inr x) M) : am_af am_W k pc L r Q (.inr x) M := by
  show (match am_hd k pc x with | none => am_et k = [] ∧ Q (.inr x) M | some v => 0 < M.2.2.1 ∧ Q (.inl (some (.int v))) (am_pay M))
  rw [h1]
  exact ⟨h2, h⟩
/-- .. and one that is caught -/
theorem am_af_c {x : Nat} {v : Int32} (h1 : am_hd k pc x = some v) (hb : 0 < M.2.2.1) (h : Q (.inl (some (.int v))) (am_pay M)) : am_af am_W k pc L r Q (.inr x) M := by
  show (match am_hd k pc x with | none => am_et k = [] ∧ Q (.inr x) M | some v => 0 < M.2.2.1 ∧ Q (.inl (some (.int v))) (am_pay M))
  rw [h1]
  exact ⟨hb, h⟩
end AMN
/-- the memory after a write -/
theorem am_set_self {M : am_M} {p i : Nat} {x : Int32} : (am_set M p i x).1 p = upd (M.1 p) i x := va_up_self _ _ _
theorem am_set_ne {M : am_M} {p q i : Nat} {x : Int32} (h : q ≠ p) : (am_set M p i x).1 q = M.1 q := va_up_ne _ _ h
theorem am_set_2 {M : am_M} {p i : Nat} {x : Int32} : (am_set M p i x).2 = M.2 := rfl
