def plF (ig : Nat → Int32) (wk : Nat) : Nat → Nat → List Nat
  | 0, _ => []
  | f + 1, w => if w < wk then (if ig w = 0 then w :: plF ig wk f (w + 1) else plF ig wk f (w + 1)) else []
theorem trn_pl (ig : Nat → Int32) (wk : Nat) : ∀ f w j, trn ig wk f w j = (plF ig wk f w)[j]?
  | 0, _, _ => by simp [trn, plF]
  | f + 1, w, j => by
    unfold trn plF
    by_cases h : w < wk
    · by_cases h2 : ig w = 0
      · rw [if_pos h, if_pos h, if_pos h2, if_pos h2]
        cases j with
        | zero => simp
        | succ j => simp [trn_pl ig wk f (w + 1) j]
      · rw [if_pos h, if_pos h, if_neg h2, if_neg h2]
        exact trn_pl ig wk f (w + 1) j
    · rw [if_neg h, if_neg h]; simp
theorem pl_len (ig : Nat → Int32) (wk : Nat) : ∀ f w, w ≤ wk → wk < w + f → (plF ig wk f w).length + cntN ig w = cntN ig wk
  | 0, w, h1, h2 => absurd h2 (by omega)
  | f + 1, w, h1, h2 => by
    unfold plF
    by_cases h : w < wk
    · rw [if_pos h]
      have ih := pl_len ig wk f (w + 1) (by omega) (by omega)
      by_cases h3 : ig w = 0
      · have : cntN ig (w + 1) = cntN ig w + 1 := by show cntN ig w + _ = _; rw [if_pos h3]
        rw [if_pos h3, List.length_cons]; omega
      · have : cntN ig (w + 1) = cntN ig w := by show cntN ig w + _ = _; rw [if_neg h3]; rfl
        rw [if_neg h3]; omega
    · rw [if_neg h]
      have : w = wk := by omega
      subst this
      simp
theorem pl_in (ig : Nat → Int32) (wk : Nat) : ∀ f w v, v ∈ plF ig wk f w → w ≤ v ∧ v < wk ∧ ig v = 0
  | 0, _, _, h => by simp [plF] at h
  | f + 1, w, v, h => by
    unfold plF at h
    by_cases h1 : w < wk
    · rw [if_pos h1] at h
      by_cases h2 : ig w = 0
      · rw [if_pos h2] at h
        rcases List.mem_cons.mp h with z | z
        · subst z; exact ⟨Nat.le_refl _, h1, h2⟩
        · have := pl_in ig wk f (w + 1) v z
          exact ⟨by omega, this.2⟩
      · rw [if_neg h2] at h
        have := pl_in ig wk f (w + 1) v h
        exact ⟨by omega, this.2⟩
    · rw [if_neg h1] at h; simp at h
theorem pl_upd (ig : Nat → Int32) (wk u : Nat) : ∀ f w, plF (upd ig u 1) wk f w = (plF ig wk f w).filter (fun v => decide (v ≠ u))
  | 0, _ => by simp [plF]
  | f + 1, w => by
    unfold plF
    by_cases h1 : w < wk
    · rw [if_pos h1, if_pos h1, pl_upd ig wk u f (w + 1)]
      by_cases hu : w = u
      · subst hu
        rw [upd_s, if_neg (by decide)]
        by_cases h2 : ig w = 0
        · rw [if_pos h2]; simp
        · rw [if_neg h2]
      · rw [upd_ne hu]
        by_cases h2 : ig w = 0
        · rw [if_pos h2, if_pos h2]; simp [hu]
        · rw [if_neg h2, if_neg h2]
    · rw [if_neg h1, if_neg h1]; simp
def holdsL (f : Nat → Int32) (l : List Nat) : Prop := ∀ j v, l[j]? = some v → f j = nI v
theorem dsm_L {lf u : Nat} (hu : u < 16) : ∀ (n k : Nat) (f : Nat → Int32) (l1 l2 : List Nat), l1.length ≤ k → k + l2.length = lf → l2.length < n → (∀ v ∈ l2, v < 16) → holdsL f l1 → (∀ j v, l2[j]? = some v → f (k + j) = nI v) →
    (dsm lf (nI u) n k l1.length f).2 = (l1 ++ l2.filter (fun v => decide (v ≠ u))).length ∧ holdsL (dsm lf (nI u) n k l1.length f).1 (l1 ++ l2.filter (fun v => decide (v ≠ u)))
  | 0, k, f, l1, l2, h1, h2, h3, h4, h5, h6 => absurd h3 (by omega)
  | n + 1, k, f, l1, [], h1, h2, h3, h4, h5, h6 => by
    have hk : ¬ k < lf := by simp at h2; omega
    unfold dsm
    rw [if_neg hk]
    simpa using h5
  | n + 1, k, f, l1, v :: l2, h1, h2, h3, h4, h5, h6 => by
    have hk : k < lf := by simp at h2; omega
    have hv : f k = nI v := h6 0 v rfl
    have hv16 : v < 16 := h4 v List.mem_cons_self
    simp only [List.length_cons] at h2 h3
    unfold dsm
    rw [if_pos hk]
    by_cases e : f k = nI u
    · have hvu : v = u := (nI_eq (by omega) (by omega)).mp (hv.symm.trans e)
      rw [if_pos e]
      have ih := dsm_L (lf := lf) (u := u) hu n (k + 1) f l1 l2 (by omega) (by omega) (by omega) (fun w hw => h4 w (List.mem_cons_of_mem _ hw)) h5 (fun j w hj => by rw [show k + 1 + j = k + (j + 1) by omega]; exact h6 (j + 1) w hj)
      simpa [hvu] using ih
    · have hvu : v ≠ u := fun z => e (by rw [hv, z])
      rw [if_neg e]
      have ih := dsm_L (lf := lf) (u := u) hu n (k + 1) (upd f l1.length (f k)) (l1 ++ [v]) l2 (by simp; omega) (by omega) (by omega) (fun w hw => h4 w (List.mem_cons_of_mem _ hw))
        (fun j w hj => by
          by_cases hj1 : j < l1.length
          · rw [List.getElem?_append_left hj1] at hj
            rw [upd_ne (by omega)]; exact h5 j w hj
          · rw [List.getElem?_append_right (by omega)] at hj
            have hz : j - l1.length < 1 := (List.getElem?_eq_some_iff.mp hj).1
            have hjl : j = l1.length := by omega
            subst hjl
            rw [Nat.sub_self] at hj
            cases hj
            rw [upd_s]; exact hv)
        (fun j w hj => by rw [upd_ne (by omega), show k + 1 + j = k + (j + 1) by omega]; exact h6 (j + 1) w hj)
      rw [show (l1 ++ [v]).length = l1.length + 1 by simp] at ih
      simpa [hvu] using ih
