theorem wi_natm {v : Int32} {n : Nat} (hn : n < 2 ^ 30) (h : ¬ wi v 0 (nI n - 1) = 0) : ∃ j : Nat, j < n ∧ v = nI j := by
  cases n with
  | zero =>
    obtain ⟨h1, h2⟩ := wi_t h
    have h3 := Int32.le_trans h1 h2
    exact absurd h3 (by decide)
  | succ n =>
    rw [nI_pred] at h
    obtain ⟨j, hj, e⟩ := wi_nat (n := n) (nI_toInt (by omega)) h
    exact ⟨j, by omega, e⟩
theorem wi_natn {v : Int32} {n : Nat} (hn : n < 2 ^ 30) (h : ¬ wi v 0 (nI n) = 0) : ∃ j : Nat, j ≤ n ∧ v = nI j := wi_nat (n := n) (nI_toInt (by omega)) h
theorem wi_nat1 {v hi : Int32} {n : Nat} (hM : hi.toInt = n) (h : ¬ wi v 1 hi = 0) : ∃ j : Nat, (1 ≤ j ∧ j ≤ n) ∧ v = nI j := by
  obtain ⟨h1, h2⟩ := wi_t h
  rw [Int32.le_iff_toInt_le] at h1
  have h0 : (1 : Int32).toInt = 1 := by decide
  obtain ⟨j, hj, e⟩ := nI_of2 hM (by rw [Int32.lt_iff_toInt_lt, Int32.toInt_zero]; omega) h2
  refine ⟨j, ⟨?_, hj⟩, e⟩
  rw [e] at h1
  have hlt : (hi.toInt : Int) < 2 ^ 31 := Int32.toInt_lt hi
  rw [nI_toInt (by omega)] at h1
  omega
theorem wi_b (v lo hi : Int32) : wi v lo hi = 0 ∨ wi v lo hi = 1 := by
  unfold wi
  by_cases h1 : lo ≤ v
  · by_cases h2 : v ≤ hi
    · rw [if_pos h1, if_pos h2]; exact Or.inr rfl
    · rw [if_pos h1, if_neg h2]; exact Or.inl rfl
  · rw [if_neg h1]; exact Or.inl rfl
theorem lk_b (S S' : Int32 → Int64) (r : Int32) (hr : r = 0 ∨ r = 1) : ∀ n k, lkK S S' r n k = 0 ∨ lkK S S' r n k = 1
  | 0, _ => hr
  | n + 1, k => by
    unfold lkK
    by_cases h : k ≤ 7
    · by_cases h2 : S (nI k) = S' (nI k)
      · rw [if_pos h, if_pos h2]; exact lk_b S S' r hr n (k + 1)
      · rw [if_pos h, if_neg h2]; exact Or.inl rfl
    · rw [if_neg h]; exact hr
theorem lko_b (oc oc' : Nat → Int32) (cl : Nat) : ∀ n k, lkO oc oc' cl n k = 0 ∨ lkO oc oc' cl n k = 1
  | 0, _ => Or.inr rfl
  | n + 1, k => by
    unfold lkO
    by_cases h : k < cl
    · by_cases h2 : oc k = oc' k
      · rw [if_pos h, if_pos h2]; exact lko_b oc oc' cl n (k + 1)
      · rw [if_pos h, if_neg h2]; exact Or.inl rfl
    · rw [if_neg h]; exact Or.inr rfl
def callG (xo xa xb xc xs : Int32) : Prop := ¬ wi xo 0 5 = 0 ∧ ¬ wi xa 0 7 = 0 ∧ ¬ wi xb 0 7 = 0 ∧ ¬ wi xc (-1000000) 1000000 = 0 ∧ ¬ wi xs 1 9 = 0
def trnI : Option Nat → Int32
  | none => -1
  | some w => nI w
theorem x_dec1 {j : Nat} (h : 0 < j) : nI j + Int32.ofInt (-1) = nI (j - 1) := by
  cases j with
  | zero => exact absurd h (by omega)
  | succ i => rw [x_dec]; exact nI_pred i
theorem nI_z {j : Nat} (h : j < 2 ^ 31) (e : nI j = 0) : j = 0 := by
  rcases Nat.eq_zero_or_pos j with z | z
  · exact z
  · exact absurd e (nI_ne0 z h)
