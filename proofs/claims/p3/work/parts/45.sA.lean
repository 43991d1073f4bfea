def SK (ak bk st ca cb se ya yb : Nat → Int32) (ga gb za zb : Nat → Int64) (i : Nat) : Prop :=
  st i = se i ∧ (st i = 0 ∨ st i = 1 ∨ st i = 2 ∨ st i = 3) ∧ ((st i = 2 ∨ st i = 3) → ca i = ya i ∧ cb i = yb i ∧ (ca i ≠ 0 → ga i = za i) ∧ (cb i ≠ 0 → gb i = zb i) ∧ (ca i ≠ 0 → cb i ≠ 0 → ak i = bk i → ga i = gb i))
theorem stnd_rds {ak bk st ca cb se ya yb : Nat → Int32} {ga gb za zb : Nat → Int64} {key : Int32} : ∀ k, (∀ i, i < k → SK ak bk st ca cb se ya yb ga gb za zb i) → stnd st ca ak cb bk ga gb key k = rds se ya ak yb bk za zb key k
  | 0, _ => rfl
  | i + 1, h => by
    have ih := stnd_rds (key := key) i (fun j hj => h j (by omega))
    obtain ⟨h1, h2, h3⟩ := h i (by omega)
    unfold stnd rds
    by_cases he : st i = 2 ∨ st i = 3
    · obtain ⟨e1, e2, e3, e4, e5⟩ := h3 he
      have hs : ¬ se i < 2 := by
        rw [← h1]
        rcases he with z | z <;> rw [z] <;> decide
      rw [if_pos he, if_neg hs, ← e1, ← e2, ih]
      by_cases hA : ca i ≠ 0 ∧ ak i = key
      · rw [if_pos hA]
        by_cases hB : cb i ≠ 0 ∧ bk i = key
        · rw [if_pos hB, e5 hA.1 hB.1 (hA.2.trans hB.2.symm), e4 hB.1]
        · rw [if_neg hB, if_pos hA, e3 hA.1]
      · rw [if_neg hA]
        by_cases hB : cb i ≠ 0 ∧ bk i = key
        · rw [if_pos hB, if_pos hB, e4 hB.1]
        · rw [if_neg hB, if_neg hB, if_neg hA]
    · have hs : se i < 2 := by
        rw [← h1]
        rcases h2 with z | z | z | z
        · rw [z]; decide
        · rw [z]; decide
        · exact absurd (Or.inl z) he
        · exact absurd (Or.inr z) he
      rw [if_neg he, if_pos hs, ih]
theorem amB_stnd {ak bk st ca cb se ya yb : Nat → Int32} {ga gb za zb am : Nat → Int64} {k : Nat} (hS : SK ak bk st ca cb se ya yb ga gb za zb k) (hk : st k = 3) (ha : ∃ a, a < 8 ∧ ak k = nI a) (hb : ∃ b, b < 8 ∧ bk k = nI b)
    (hr : ∀ key, key < 8 → am (8 * k + key) = stnd st ca ak cb bk ga gb (nI key) k) : ∀ key, key < 8 → amB am ya yb ak bk za zb k (8 * (k + 1) + key) = stnd st ca ak cb bk ga gb (nI key) (k + 1) := by
  intro key hkey
  obtain ⟨a, ha8, ea⟩ := ha
  obtain ⟨b, hb8, eb⟩ := hb
  obtain ⟨-, -, h3⟩ := hS
  obtain ⟨e1, e2, e3, e4, e5⟩ := h3 (Or.inr hk)
  have ea2 : (ak k).toNatClampNeg = a := by rw [ea]; exact nI_clamp (by omega)
  have eb2 : (bk k).toNatClampNeg = b := by rw [eb]; exact nI_clamp (by omega)
  have hcp : cpyTo am (8 * k) 8 (8 * (k + 1) + key) = am (8 * k + key) := by
    unfold cpyTo
    rw [if_pos (by omega)]
    congr 1
    omega
  have hak : ak k = nI key ↔ a = key := by rw [ea]; exact nI_eq (by omega) (by omega)
  have hbk : bk k = nI key ↔ b = key := by rw [eb]; exact nI_eq (by omega) (by omega)
  unfold stnd
  rw [if_pos (Or.inr hk)]
  have hA0 : amA am ya yb ak bk za zb k (8 * (k + 1) + key) = if ca k ≠ 0 ∧ ak k = nI key then ga k else am (8 * k + key) := by
    unfold amA
    by_cases hc : ya k = 0
    · rw [if_pos hc, hcp, if_neg (fun z => z.1 (e1.trans hc))]
    · have hc2 : ca k ≠ 0 := fun z => hc (e1.symm.trans z)
      rw [if_neg hc, ea2]
      unfold vp_updL
      by_cases hq : a = key
      · rw [if_pos (by omega), if_pos ⟨hc2, hak.mpr hq⟩, e3 hc2]
      · rw [if_neg (by omega), if_neg (fun z => hq (hak.mp z.2)), hcp]
  unfold amB
  by_cases hc : yb k = 0
  · have hn : ¬ (cb k ≠ 0 ∧ bk k = nI key) := fun z => z.1 (e2.trans hc)
    rw [if_pos hc, hA0, if_neg hn, hr key hkey]
  · have hc2 : cb k ≠ 0 := fun z => hc (e2.symm.trans z)
    rw [if_neg hc, eb2]
    unfold vp_updL
    by_cases hq : b = key
    · rw [if_pos (by omega)]
      by_cases hA : ca k ≠ 0 ∧ ak k = nI key
      · rw [if_pos hA, ← e4 hc2, e5 hA.1 hc2 (hA.2.trans (hbk.mpr hq).symm)]
      · rw [if_neg hA, if_pos ⟨hc2, hbk.mpr hq⟩, e4 hc2]
    · rw [if_neg (by omega), hA0, hr key hkey, if_neg (fun z => hq (hbk.mp z.2) : ¬ (cb k ≠ 0 ∧ bk k = nI key))]
theorem stnd_congr {ak bk st ca cb st' ca' cb' : Nat → Int32} {ga gb ga' gb' : Nat → Int64} {key : Int32} : ∀ k, (∀ i, i < k → st i = st' i ∧ ca i = ca' i ∧ cb i = cb' i ∧ ga i = ga' i ∧ gb i = gb' i) → stnd st ca ak cb bk ga gb key k = stnd st' ca' ak cb' bk ga' gb' key k
  | 0, _ => rfl
  | i + 1, h => by
    obtain ⟨h1, h2, h3, h4, h5⟩ := h i (by omega)
    unfold stnd
    rw [h1, h2, h3, h4, h5, stnd_congr i (fun j hj => h j (by omega))]
def PRs (pr ig : Nat → Int32) (lf wk : Nat) : Prop := lf = cntN ig wk ∧ ∀ j, j < lf → ∃ w, trn ig wk 17 0 j = some w ∧ w < wk ∧ ig w = 0 ∧ pr j = nI w
