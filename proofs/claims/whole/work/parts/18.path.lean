/-! paths: what the text says; q: its characters, by number -/
def ps_ch (q : Nat → Nat) (len i : Nat) : Nat := if i < len then q i else 0
def ps_clo (g : Int32 → Int32) (s : Int32) : Int32 := sp_clo (fun t => t ||| g t) 12 s 0
/-- up to d digits from j on: the number, and where they end -/
def ps_num (q : Nat → Nat) (len : Nat) : Nat → Nat → Nat → Nat × Nat
  | 0, j, a => (a, j)
  | d + 1, j, a => if 48 ≤ ps_ch q len j ∧ ps_ch q len j < 58 then ps_num q len d (j + 1) (10 * a + (ps_ch q len j - 48)) else (a, j)
/-- where a number's digits begin -/
def ps_j (q : Nat → Nat) (len i : Nat) : Nat := if ps_ch q len i = 45 then i + 1 else i
def ps_sgn (q : Nat → Nat) (len i a : Nat) : Int32 := if ps_ch q len i = 45 then -nI a else nI a
/-- a comparison, its sign at i -/
def ps_cmp (kd vl : Nat → Int32) (q : Nat → Nat) (len : Nat) (s : Int32) (f i : Nat) : Option (Int32 × Nat) :=
  if ps_ch q len i = 60 ∨ ps_ch q len i = 61 ∨ ps_ch q len i = 62 then
    if (ps_num q len 4 (ps_j q len (i + 1)) 0).2 = ps_j q len (i + 1) then none
    else if ps_ch q len (ps_num q len 4 (ps_j q len (i + 1)) 0).2 = 93 then
      some (sp_num kd vl s f (nI (ps_ch q len i)) (ps_sgn q len (i + 1) (ps_num q len 4 (ps_j q len (i + 1)) 0).1), (ps_num q len 4 (ps_j q len (i + 1)) 0).2 + 1)
    else none
  else none
/-- a move by g, the place behind the digit at i -/
def ps_mv (g : Int32 → Int32) (q : Nat → Nat) (len : Nat) (s : Int32) (i : Nat) : Int32 × Nat := if ps_ch q len i = 126 then (ps_clo g s, i + 1) else (g s, i)
def ps_step (kd vl : Nat → Int32) (q : Nat → Nat) (len : Nat) (s : Int32) (i : Nat) : Option (Int32 × Nat) :=
  if 48 ≤ ps_ch q len (i + 1) ∧ ps_ch q len (i + 1) < 52 then
    if ps_ch q len i = 46 then some (ps_mv (fun t => sp_refd kd vl t (ps_ch q len (i + 1) - 48)) q len s (i + 2))
    else if ps_ch q len i = 94 then some (ps_mv (fun t => sp_refg kd vl t (ps_ch q len (i + 1) - 48)) q len s (i + 2))
    else if ps_ch q len i = 91 then ps_cmp kd vl q len s (ps_ch q len (i + 1) - 48) (i + 2)
    else if ps_ch q len i = 63 then some (sp_non kd s (ps_ch q len (i + 1) - 48), i + 2)
    else none
  else none
def ps_run (step : Int32 → Nat → Option (Int32 × Nat)) (len : Nat) : Nat → Int32 → Nat → Int32
  | 0, s, _ => s
  | d + 1, s, i => if i < len then (match step s i with
      | none => -1
      | some r => ps_run step len d r.1 r.2) else s
def ps_start (q : Nat → Nat) (len : Nat) : Option Int32 :=
  if ps_ch q len 0 = 42 then some 4095 else if 97 ≤ ps_ch q len 0 ∧ ps_ch q len 0 < 109 then some ((1 : Int32) <<< (nI (ps_ch q len 0 - 97) &&& 31)) else none
def ps_find (kd vl : Nat → Int32) (q : Nat → Nat) (len : Nat) : Int32 := match ps_start q len with
  | none => -1
  | some s => ps_run (ps_step kd vl q len) len 32 s 1
theorem ps_in {q : Nat → Nat} {len i : Nat} (h : i < len) : ps_ch q len i = q i := if_pos h
theorem ps_out {q : Nat → Nat} {len i : Nat} (h : ¬ i < len) : ps_ch q len i = 0 := if_neg h
/-- the text: its length, its characters -/
def tx (M : am_M) (q : Nat → Nat) (len : Nat) : Prop := M.1 25 1 = nI len ∧ len ≤ 32 ∧ ∀ i, i < len → M.1 26 i = nI (q i) ∧ q i < 127
/-- since M the path stands at j with the set s -/
def pm (M M' : am_M) (j : Nat) (s : Int32) : Prop := fr [25] M M' ∧ M'.1 25 1 = M.1 25 1 ∧ M'.1 25 2 = nI j ∧ M'.1 25 3 = s
theorem pm.at {M M' : am_M} {j : Nat} {s : Int32} (h : pm M M' j s) (i : Nat) : pm M (am_set M' 25 2 (nI i)) i s := ⟨h.1.set (by decide), h.2.1, rfl, h.2.2.2⟩
theorem pm.st {M M' : am_M} {j : Nat} {s : Int32} (h : pm M M' j s) (t : Int32) : pm M (am_set M' 25 3 t) j t := ⟨h.1.set (by decide), h.2.1, h.2.2.1, rfl⟩
