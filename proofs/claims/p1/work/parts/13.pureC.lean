def WFc (cl : Nat) : CS → Prop
  | (kp, tk, bg, an, dm, uw, mu, id_, st, sl, ra, rb, ca, cb, ga, gb, oc, tb, fb, ka, eb, sd, lf, pr, ho, be) => kp ≤ cl ∧ lf ≤ 16 ∧ (∀ i, i < lf → ∃ w, w < 16 ∧ pr i = nI w) ∧ (∀ w, w < 16 → ho w = -1 ∨ ∃ k, k < 40 ∧ ho w = nI k)
theorem dsm_ok {lf : Nat} {w : Int32} {P : Int32 → Prop} : ∀ (n k t : Nat) (f : Nat → Int32), t ≤ k → k ≤ lf → (∀ i, i < lf → P (f i)) → (dsm lf w n k t f).2 ≤ lf ∧ ∀ i, i < lf → P ((dsm lf w n k t f).1 i)
  | 0, k, t, f, h1, h2, h3 => ⟨by show t ≤ lf; omega, h3⟩
  | n + 1, k, t, f, h1, h2, h3 => by
    unfold dsm
    by_cases h : k < lf
    · by_cases h4 : f k = w
      · rw [if_pos h, if_pos h4]
        exact dsm_ok n (k + 1) t f (by omega) (by omega) h3
      · rw [if_pos h, if_neg h4]
        refine dsm_ok n (k + 1) (t + 1) _ (by omega) (by omega) (fun i hi => ?_)
        unfold upd
        by_cases h5 : i = t
        · rw [if_pos h5]; exact h3 k h
        · rw [if_neg h5]; exact h3 i hi
    · rw [if_neg h]
      exact ⟨by show t ≤ lf; omega, h3⟩
theorem ho_upd {ho : Nat → Int32} {w : Nat} {x : Int32} (h : ∀ w, w < 16 → ho w = -1 ∨ ∃ k, k < 40 ∧ ho w = nI k) (hx : x = -1 ∨ ∃ k, k < 40 ∧ x = nI k) : ∀ v, v < 16 → upd ho w x v = -1 ∨ ∃ k, k < 40 ∧ upd ho w x v = nI k := by
  intro v hv
  unfold upd
  by_cases h5 : v = w
  · rw [if_pos h5]; exact hx
  · rw [if_neg h5]; exact h v hv
theorem WF_takeCall {cl rm w : Nat} {ak bk sk gn : Nat → Int32} (hcl : cl ≤ 40) : ∀ {c : CS}, WFc cl c → WFc cl (takeCallF cl rm ak bk sk gn w c) := by
  rintro ⟨kp, tk, bg, an, dm, uw, mu, id_, st, sl, ra, rb, ca, cb, ga, gb, oc, tb, fb, ka, eb, sd, lf, pr, ho, be⟩ ⟨h1, h2, h3, h4⟩
  unfold takeCallF
  dsimp only
  rcases hls : lsN st (min cl (kp + rm)) 41 kp with _ | j
  · exact ⟨h1, h2, h3, h4⟩
  · have hj := lsN_in hls
    dsimp only
    by_cases h : be w + 1 = gn w
    · rw [if_pos h]
      have hd := dsm_ok (lf := lf) (w := nI w) (P := fun x => ∃ w, w < 16 ∧ x = nI w) 17 0 0 pr (Nat.le_refl _) (Nat.zero_le _) h3
      exact ⟨h1, Nat.le_trans hd.1 h2, fun i hi => hd.2 i (Nat.lt_of_lt_of_le hi hd.1), h4⟩
    · rw [if_neg h]
      exact ⟨h1, h2, h3, ho_upd h4 (Or.inr ⟨j, by omega, rfl⟩)⟩
theorem WF_step {cl k w : Nat} {ak bk ok ck : Nat → Int32} : ∀ {c : CS}, WFc cl c → WFc cl (stepF ak bk ok ck k w c) := by
  rintro ⟨kp, tk, bg, an, dm, uw, mu, id_, st, sl, ra, rb, ca, cb, ga, gb, oc, tb, fb, ka, eb, sd, lf, pr, ho, be⟩ ⟨h1, h2, h3, h4⟩
  unfold stepF
  dsimp only
  by_cases h : 0 < sl k - 1
  · rw [if_pos h]; exact ⟨h1, h2, h3, h4⟩
  · rw [if_neg h]; exact ⟨h1, h2, h3, ho_upd h4 (Or.inl rfl)⟩
theorem WF_takeTurn {cl rm w : Nat} {ak bk sk gn ok ck : Nat → Int32} (hcl : cl ≤ 40) : ∀ {c : CS}, WFc cl c → WFc cl (takeTurnF cl rm ak bk sk gn ok ck w c) := by
  rintro ⟨kp, tk, bg, an, dm, uw, mu, id_, st, sl, ra, rb, ca, cb, ga, gb, oc, tb, fb, ka, eb, sd, lf, pr, ho, be⟩ hc
  unfold takeTurnF
  dsimp only
  by_cases h : ho w = -1
  · rw [if_pos h]; exact WF_takeCall hcl hc
  · rw [if_neg h]; exact WF_step hc
theorem WF_keep {cl : Nat} {ak bk : Nat → Int32} : ∀ (n : Nat) {c : CS}, WFc cl c → WFc cl (keepF cl ak bk n c) := by
  intro n
  induction n with
  | zero => intro c hc; exact hc
  | succ n ih =>
    rintro ⟨kp, tk, bg, an, dm, uw, mu, id_, st, sl, ra, rb, ca, cb, ga, gb, oc, tb, fb, ka, eb, sd, lf, pr, ho, be⟩ ⟨h1, h2, h3, h4⟩
    unfold keepF
    by_cases h : kp < cl ∧ st kp = 2
    · rw [if_pos h]
      by_cases h5 : ra kp = stnd st ca ak cb bk ga gb (ak kp) kp ∧ rb kp = stnd st ca ak cb bk ga gb (bk kp) kp
      · rw [if_pos h5]; exact ih ⟨h.1, h2, h3, h4⟩
      · rw [if_neg h5]; exact ⟨h1, h2, h3, h4⟩
    · rw [if_neg h]; exact ⟨h1, h2, h3, h4⟩
theorem if01_t {p : Prop} [Decidable p] (h : (if p then (0 : Int32) else 1) = 0) : p := by
  by_cases hp : p
  · exact hp
  · rw [if_neg hp] at h; exact absurd h (by decide)
theorem if01_f {p : Prop} [Decidable p] (h : ¬ (if p then (0 : Int32) else 1) = 0) : ¬ p := by
  intro hp
  rw [if_pos hp] at h
  exact absurd rfl h
def lkK (S S' : Int32 → Int64) (rest : Int32) : Nat → Nat → Int32
  | 0, _ => rest
  | n + 1, k => if k ≤ 7 then (if S (nI k) = S' (nI k) then lkK S S' rest n (k + 1) else 0) else rest
def lkO (oc oc' : Nat → Int32) (cl : Nat) : Nat → Nat → Int32
  | 0, _ => 1
  | n + 1, k => if k < cl then (if oc k = oc' k then lkO oc oc' cl n (k + 1) else 0) else 1
theorem WF_prep {cl wk : Nat} {seed : Int32} (hwk : wk ≤ 16) : ∀ {c : CS}, (match c with | (kp, tk, bg, an, dm, uw, mu, id_, st, sl, ra, rb, ca, cb, ga, gb, oc, tb, fb, ka, eb, sd, lf, pr, ho, be) => ∀ w, w < 16 → ho w = -1 ∨ ∃ k, k < 40 ∧ ho w = nI k) → WFc cl (prepF wk seed c) := by
  rintro ⟨kp, tk, bg, an, dm, uw, mu, id_, st, sl, ra, rb, ca, cb, ga, gb, oc, tb, fb, ka, eb, sd, lf, pr, ho, be⟩ h4
  refine ⟨Nat.zero_le _, hwk, fun i hi => ⟨i, by omega, by unfold mapTo; rw [if_pos hi]⟩, fun w hw => ?_⟩
  unfold fillTo
  by_cases h : w < wk
  · rw [if_pos h]; exact Or.inl rfl
  · rw [if_neg h]; exact h4 w hw
theorem sw6 (x : Int32) : x = 0 ∨ x = 1 ∨ x = 2 ∨ x = 3 ∨ x = 4 ∨ x = 5 ∨ x = 6 ∨ (¬ x = 0 ∧ ¬ x = 1 ∧ ¬ x = 2 ∧ ¬ x = 3 ∧ ¬ x = 4 ∧ ¬ x = 5 ∧ ¬ x = 6 ∧ (x.toInt < 0 ∨ 6 < x.toInt)) := by
  by_cases h0 : x = 0
  · exact Or.inl h0
  by_cases h1 : x = 1
  · exact Or.inr (Or.inl h1)
  by_cases h2 : x = 2
  · exact Or.inr (Or.inr (Or.inl h2))
  by_cases h3 : x = 3
  · exact Or.inr (Or.inr (Or.inr (Or.inl h3)))
  by_cases h4 : x = 4
  · exact Or.inr (Or.inr (Or.inr (Or.inr (Or.inl h4))))
  by_cases h5 : x = 5
  · exact Or.inr (Or.inr (Or.inr (Or.inr (Or.inr (Or.inl h5)))))
  by_cases h6 : x = 6
  · exact Or.inr (Or.inr (Or.inr (Or.inr (Or.inr (Or.inr (Or.inl h6))))))
  refine Or.inr (Or.inr (Or.inr (Or.inr (Or.inr (Or.inr (Or.inr ⟨h0, h1, h2, h3, h4, h5, h6, ?_⟩))))))
  have g0 : x.toInt ≠ 0 := fun h => h0 (Int32.toInt_inj.mp h)
  have g1 : x.toInt ≠ 1 := fun h => h1 (Int32.toInt_inj.mp h)
  have g2 : x.toInt ≠ 2 := fun h => h2 (Int32.toInt_inj.mp h)
  have g3 : x.toInt ≠ 3 := fun h => h3 (Int32.toInt_inj.mp h)
  have g4 : x.toInt ≠ 4 := fun h => h4 (Int32.toInt_inj.mp h)
  have g5 : x.toInt ≠ 5 := fun h => h5 (Int32.toInt_inj.mp h)
  have g6 : x.toInt ≠ 6 := fun h => h6 (Int32.toInt_inj.mp h)
  omega
