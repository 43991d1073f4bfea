abbrev QcL (post : Int64 → Prop) (D : va_G) (A : Nat → Prop) (ws' : va_W) : Array Value → State → Outcome → State → Prop := va_Ql (fun r (_ : Unit) => post r) (fun _ t => va_P D vwCl ws' t.heap ∧ va_D A ws') A
def sm1 (f g : Nat → Int64) : Nat → Nat → Int32 → Int32
  | 0, _, b => b
  | n + 1, k, b => if k < 8 then sm1 f g n (k + 1) (if b = 0 then 0 else if f k = g k then 1 else 0) else b
def sm2 (f g : Nat → Int32) (en : Nat) : Nat → Nat → Int32 → Int32
  | 0, _, b => b
  | n + 1, k, b => if k < en then sm2 f g en n (k + 1) (if b = 0 then 0 else if f k = g k then 1 else 0) else b
theorem b01_nar {b : Int32} (h : b = 0 ∨ b = 1) : narrow .boolean (.int b) = .int b := by
  rcases h with z | z <;> rw [z] <;> decide
