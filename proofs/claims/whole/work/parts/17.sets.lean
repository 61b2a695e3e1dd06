/-! meeting; sets of objects -/
def sp_meet (pn : Nat → Nat) (fk : Nat → Int32) : Nat → Int32 → Nat → Nat → Int32
  | 0, m, _, _ => m
  | d + 1, m, a, b => if a = b then m else if a < b then sp_meet pn fk d (mt_min m (fk b)) a (pn b) else sp_meet pn fk d (mt_min m (fk a)) (pn a) b
/-- the object that a field leads to, as a set -/
def sp_tg (kd vl : Nat → Int32) (c : Nat) : Int32 := if kd c = 2 then (1 : Int32) <<< (vl c &&& 31) else 0
def sp_isin (s : Int32) (o : Nat) : Bool := decide ((s >>> (nI o &&& 31)) &&& 1 = 1)
def sp_refd (kd vl : Nat → Int32) (s : Int32) (f : Nat) : Int32 := sp_or (sp_isin s) (fun o => sp_tg kd vl (4 * o + f)) 12
def sp_refg (kd vl : Nat → Int32) (s : Int32) (f : Nat) : Int32 := sp_or (fun o => !decide (sp_tg kd vl (4 * o + f) &&& s = 0)) (fun o => (1 : Int32) <<< (nI o &&& 31)) 12
def sp_cmp (x s y : Int32) : Bool := if s = 60 then decide (x < y) else if s = 62 then decide (y < x) else decide (x = y)
def sp_num (kd vl : Nat → Int32) (s : Int32) (f : Nat) (sg b : Int32) : Int32 := sp_or (fun o => sp_isin s o && decide (kd (4 * o + f) = 1) && sp_cmp (vl (4 * o + f)) sg b) (fun o => (1 : Int32) <<< (nI o &&& 31)) 12
def sp_non (kd : Nat → Int32) (s : Int32) (f : Nat) : Int32 := sp_or (fun o => sp_isin s o && decide (kd (4 * o + f) = 0)) (fun o => (1 : Int32) <<< (nI o &&& 31)) 12
/-- round by round until nothing is new, d rounds at most -/
def sp_clo (step : Int32 → Int32) : Nat → Int32 → Int32 → Int32
  | 0, s, _ => s
  | d + 1, s, old => if s = old then s else sp_clo step d (step s) s
def sp_fld (g : Int32 → Nat → Int32) : Nat → Int32 → Int32
  | 0, s => s
  | f + 1, s => sp_fld g f s ||| g (sp_fld g f s) f
