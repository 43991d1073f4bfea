def stnd (st ca ak cb bk : Nat → Int32) (ga gb : Nat → Int64) (key : Int32) : Nat → Int64
  | 0 => 0
  | i + 1 => if st i = 2 ∨ st i = 3 then (if ca i ≠ 0 ∧ ak i = key then ga i else if cb i ≠ 0 ∧ bk i = key then gb i else stnd st ca ak cb bk ga gb key i) else stnd st ca ak cb bk ga gb key i
def lstO (st : Nat → Int32) (e : Nat) : Nat → Nat → Int32
  | 0, _ => -1
  | n + 1, k => if k < e then (if st k = 0 then nI k else lstO st e n (k + 1)) else -1
def fails (oc : Nat → Int32) (e : Nat) : Nat → Nat → Int32 → Int32
  | 0, _, r => r
  | n + 1, k, r => if k < e then fails oc e n (k + 1) (if oc k = 2 then r + 1 else r) else r
def wOut (op : Int32) (x y c : Int64) : Int32 := if op = 0 then 1 else if op = 1 then 1 else if op = 2 then (if x < c ∨ c < 0 then 2 else 1) else if op = 3 then (if x < c then 2 else 1) else if op = 4 then 1 else if x = y then 1 else 2
def wChA (op a b : Int32) (x c : Int64) : Int32 := if op = 2 then (if (x < c ∨ c < 0) ∨ a = b then 0 else 1) else if op = 4 then 1 else 0
def wChB (op a b : Int32) (x y c : Int64) : Int32 := if op = 0 then 1 else if op = 1 then 1 else if op = 2 then (if (x < c ∨ c < 0) ∨ a = b then 0 else 1) else if op = 3 then 0 else if op = 4 then 1 else if x = y then 1 else 0
def wGA (op : Int32) (x y c : Int64) : Int64 := if op = 2 then x - c else y
def wGB (op : Int32) (x y c : Int64) : Int64 := if op = 0 then c else if op = 1 then y + x + c else if op = 2 then y + c else if op = 4 then x else c
theorem upd_upd (f : Nat → Int32) (k : Nat) (a b : Int32) : upd (upd f k a) k b = upd f k b := by
  funext j; unfold upd; by_cases h : j = k <;> simp [h]
theorem updL_updL (f : Nat → Int64) (k : Nat) (a b : Int64) : vp_updL (vp_updL f k a) k b = vp_updL f k b := by
  funext j; unfold vp_updL; by_cases h : j = k <;> simp [h]
theorem upd_s (f : Nat → Int32) (k : Nat) (a : Int32) : upd f k a k = a := by simp [upd]
theorem sw4 (x : Int32) : x = 0 ∨ x = 1 ∨ x = 2 ∨ x = 3 ∨ x = 4 ∨ (¬ x = 0 ∧ ¬ x = 1 ∧ ¬ x = 2 ∧ ¬ x = 3 ∧ ¬ x = 4 ∧ (x.toInt < 0 ∨ 4 < x.toInt)) := by
  by_cases h0 : x = 0
  · exact Or.inl h0
  by_cases h1 : x = 1
  · exact Or.inr (Or.inl h1)
  by_cases h2 : x = 2
  · exact Or.inr (Or.inr (Or.inl h2))
  by_cases h3 : x = 3
  · exact Or.inr (Or.inr (Or.inr (Or.inl h3)))
  by_cases h4 : x = 4
  · exact Or.inr (Or.inr (Or.inr (Or.inr (Or.inl h4))))
  refine Or.inr (Or.inr (Or.inr (Or.inr (Or.inr ⟨h0, h1, h2, h3, h4, ?_⟩))))
  have g0 : x.toInt ≠ 0 := fun h => h0 (Int32.toInt_inj.mp h)
  have g1 : x.toInt ≠ 1 := fun h => h1 (Int32.toInt_inj.mp h)
  have g2 : x.toInt ≠ 2 := fun h => h2 (Int32.toInt_inj.mp h)
  have g3 : x.toInt ≠ 3 := fun h => h3 (Int32.toInt_inj.mp h)
  have g4 : x.toInt ≠ 4 := fun h => h4 (Int32.toInt_inj.mp h)
  omega
theorem sw2 (x : Int32) : x = 0 ∨ x = 1 ∨ x = 2 ∨ (¬ x = 0 ∧ ¬ x = 1 ∧ ¬ x = 2 ∧ (x.toInt < 0 ∨ 2 < x.toInt)) := by
  by_cases h0 : x = 0
  · exact Or.inl h0
  by_cases h1 : x = 1
  · exact Or.inr (Or.inl h1)
  by_cases h2 : x = 2
  · exact Or.inr (Or.inr (Or.inl h2))
  refine Or.inr (Or.inr (Or.inr ⟨h0, h1, h2, ?_⟩))
  have g0 : x.toInt ≠ 0 := fun h => h0 (Int32.toInt_inj.mp h)
  have g1 : x.toInt ≠ 1 := fun h => h1 (Int32.toInt_inj.mp h)
  have g2 : x.toInt ≠ 2 := fun h => h2 (Int32.toInt_inj.mp h)
  omega
