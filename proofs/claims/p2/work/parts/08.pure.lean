/-! the class's methods as functions -/
def stnd (st ca ak cb bk : Nat → Int32) (ga gb : Nat → Int64) (key : Int32) : Nat → Int64
  | 0 => 0
  | i + 1 => if st i = 2 ∨ st i = 3 then (if ca i ≠ 0 ∧ ak i = key then ga i else if cb i ≠ 0 ∧ bk i = key then gb i else stnd st ca ak cb bk ga gb key i) else stnd st ca ak cb bk ga gb key i
/-- the least open call from k on, below e; n tells how many are looked at -/
def lstO (st : Nat → Int32) (e : Nat) : Nat → Nat → Int32
  | 0, _ => -1
  | n + 1, k => if k < e then (if st k = 0 then nI k else lstO st e n (k + 1)) else -1
def fails (oc : Nat → Int32) (e : Nat) : Nat → Nat → Int32 → Int32
  | 0, _, r => r
  | n + 1, k, r => if k < e then fails oc e n (k + 1) (if oc k = 2 then r + 1 else r) else r
