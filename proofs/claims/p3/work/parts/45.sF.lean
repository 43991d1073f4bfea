abbrev VW : Type := Nat × (Nat → Nat → Int64) × (Nat → Nat → Int32) × (Nat → Int32)
def csTk : CS → Int32
  | (kp, tk, bg, an, dm, uw, mu, id_, st, sl, ra, rb, ca, cb, ga, gb, oc, tb, fb, ka, eb, sd, lf, pr, ho, be) => tk
def VCc (cl : Nat) (ak bk : Nat → Int32) (V : VW) : CS → Prop
  | (kp, tk, bg, an, dm, uw, mu, id_, st, sl, ra, rb, ca, cb, ga, gb, oc, tb, fb, ka, eb, sd, lf, pr, ho, be) => V.1 = cl ∧ (∀ k, k ≤ cl → ∀ key, key < 8 → stnd st ca ak cb bk ga gb (nI key) k = V.2.1 k key) ∧ (∀ k, k < cl → oc k = V.2.2.1 0 k ∧ tb k = V.2.2.1 1 k ∧ fb k = V.2.2.1 2 k ∧ ka k = V.2.2.1 3 k ∧ eb k = V.2.2.1 4 k) ∧ nI cl = V.2.2.2 0 ∧ tk = V.2.2.2 1 ∧ bg = V.2.2.2 2 ∧ an = V.2.2.2 3 ∧ dm = V.2.2.2 4 ∧ mu = V.2.2.2 5 ∧ id_ = V.2.2.2 6 ∧ fails oc cl 41 0 0 = V.2.2.2 7
def VMm (cl : Nat) (V : VW) : MS → Prop
  | (td, se, nb, nf, nk, nw, nv, xa, xb, ya, yb, za, zb, am, cf, sf, bf, ig) => V.1 = cl ∧ (∀ k, k ≤ cl → ∀ key, key < 8 → am (8 * k + key) = V.2.1 k key) ∧ (∀ k, k < cl → nv k = V.2.2.1 0 k ∧ nb k = V.2.2.1 1 k ∧ nf k = V.2.2.1 2 k ∧ nk k = V.2.2.1 3 k ∧ nw k = V.2.2.1 4 k) ∧ ∀ j, j < 8 → td j = V.2.2.2 j
theorem fails_c2 {oc nv : Nat → Int32} {en : Nat} (h : ∀ k, k < en → oc k = nv k) : ∀ (f k : Nat), k ≤ en → en < k + f → fails oc en f k (c2 nv k) = c2 nv en
  | 0, k, h1, h2 => absurd h2 (by omega)
  | f + 1, k, h1, h2 => by
    unfold fails
    by_cases hk : k < en
    · rw [if_pos hk]
      have ih := fails_c2 h f (k + 1) (by omega) (by omega)
      have e9 : (if oc k = 2 then c2 nv k + 1 else c2 nv k) = c2 nv (k + 1) := by
        show _ = c2 nv k + _
        rw [h k hk]
        by_cases z : nv k = 2
        · rw [if_pos z, if_pos z]
        · rw [if_neg z, if_neg z]; exact (Int32.add_zero _).symm
      rw [e9]; exact ih
    · rw [if_neg hk]
      have : k = en := by omega
      rw [this]
theorem view_ex {n wk t : Nat} {ak bk sk : Nat → Int32} {sd0 : Int32} (hn : n ≤ 40) : ∀ {c : CS} {m : MS}, RR n wk ak bk sk t n sd0 c m → ∃ V, VCc n ak bk V c ∧ VMm n V m ∧ csTk c = m.1 1 := by
  rintro ⟨kp, tk, bg, an, dm, uw, mu, id_, st, sl, ra, rb, ca, cb, ga, gb, oc, tb, fb, ka, eb, sd, lf, pr, ho, be⟩ ⟨td, se, nb, nf, nk, nw, nv, xa, xb, ya, yb, za, zb, am, cf, sf, bf, ig⟩ ⟨⟨h1, h2, hK, ⟨s1, s2, s3, s4, s5, s6, s7⟩, hP, h5⟩, h6⟩
  have h1 : kp = n := h1
  subst h1
  obtain ⟨k1, k2, k3, k4, k5, k6, k7, k8⟩ := hK
  refine ⟨(kp, fun k key => am (8 * k + key), fun i => match i with | 0 => nv | 1 => nb | 2 => nf | 3 => nk | _ => nw, td), ⟨rfl, fun k hk key hkey => (k5 k hk key hkey).symm, fun k hk => ?_, s7.symm, s1, s2, k6, s3, s4, s5, ?_⟩, ⟨rfl, fun k hk key hkey => rfl, fun k hk => ⟨rfl, rfl, rfl, rfl, rfl⟩, fun j hj => rfl⟩, s1⟩
  · obtain ⟨p1, p2, p3, p4, p5, p6, p7⟩ := hP k hk
    have hz : st k ≠ 0 := by rw [k4 k hk]; decide
    exact ⟨p2, p1, p6 (p7 hz).1, k7 k hk, p3⟩
  · show fails oc kp 41 0 0 = td 7
    rw [k8]
    exact fails_c2 (fun k hk => (hP k hk).2.1) 41 0 (Nat.zero_le _) (by omega)
theorem run_both {n wk rm : Nat} {ak bk sk gn ok ck : Nat → Int32} {seed : Int32} (hn : n ≤ 40) (hwk : wk ≤ 16) (hsk : ∀ i, i < n → ∃ j, 1 ≤ j ∧ j ≤ 9 ∧ sk i = nI j) (hak : ∀ i, i < n → ∃ a, a < 8 ∧ ak i = nI a) (hbk : ∀ i, i < n → ∃ a, a < 8 ∧ bk i = nI a) (hw1 : 1 ≤ wk) : ∀ {c0 c1 : CS} {m0 : MS} {q1 : Int32 × MS}, runF n rm ak bk sk gn ok ck wk seed c0 = c1 → rRun n wk rm ok ak bk ck sk gn seed m0 = q1 →
    (csKp c1 = n ∧ q1.1 = 1 ∧ ∃ V, VCc n ak bk V c1 ∧ VMm n V q1.2 ∧ csTk c1 = q1.2.1 1) ∨ (csKp c1 ≠ n ∧ q1.1 = 0) := by
  rintro ⟨kp, tk, bg, an, dm, uw, mu, id_, st, sl, ra, rb, ca, cb, ga, gb, oc, tb, fb, ka, eb, sd, lf, pr, ho, be⟩ c1 ⟨td, se, nb, nf, nk, nw, nv, xa, xb, ya, yb, za, zb, am, cf, sf, bf, ig⟩ q1 h1 h2
  rcases run_sim (rm := rm) (gn := gn) (ok := ok) (ck := ck) (seed := seed) hn hwk hsk hak hbk hw1 kp tk bg an dm uw mu id_ st sl ra rb ca cb ga gb oc tb fb ka eb sd lf pr ho be td se nb nf nk nw nv xa xb ya yb za zb am cf sf bf ig with ⟨e1, t1, sd1, e2, e3⟩ | ⟨e1, e2⟩
  · rw [h2] at e1 e3
    rw [h1] at e3
    exact Or.inl ⟨(RR_kp e3).1, e1, view_ex hn e3⟩
  · rw [h2] at e1
    rw [h1] at e2
    exact Or.inr ⟨by omega, e1⟩
theorem lkK_t {S S' : Int32 → Int64} {rest : Int32} : ∀ (f k : Nat), 8 < k + f → (∀ j, k ≤ j → j < 8 → S (nI j) = S' (nI j)) → lkK S S' rest f k = rest
  | 0, _, _, _ => rfl
  | f + 1, k, hf, h => by
    unfold lkK
    by_cases hk : k ≤ 7
    · rw [if_pos hk, if_pos (h k (Nat.le_refl _) (by omega))]
      exact lkK_t f (k + 1) (by omega) (fun j hj => h j (by omega))
    · rw [if_neg hk]
theorem lkK_f {S S' : Int32 → Int64} {rest : Int32} {j : Nat} (hj : j < 8) (hne : S (nI j) ≠ S' (nI j)) : ∀ (f k : Nat), 8 < k + f → k ≤ j → lkK S S' rest f k = 0
  | 0, k, hf, h => absurd hf (by omega)
  | f + 1, k, hf, h => by
    unfold lkK
    rw [if_pos (show k ≤ 7 by omega)]
    by_cases e : k = j
    · subst e; rw [if_neg hne]
    · by_cases h2 : S (nI k) = S' (nI k)
      · rw [if_pos h2]; exact lkK_f hj hne f (k + 1) (by omega) (by omega)
      · rw [if_neg h2]
theorem lkO_t {oc oc' : Nat → Int32} {cl : Nat} : ∀ (f k : Nat), (∀ j, k ≤ j → j < cl → oc j = oc' j) → lkO oc oc' cl f k = 1
  | 0, _, _ => rfl
  | f + 1, k, h => by
    unfold lkO
    by_cases hk : k < cl
    · rw [if_pos hk, if_pos (h k (Nat.le_refl _) hk)]
      exact lkO_t f (k + 1) (fun j hj => h j (by omega))
    · rw [if_neg hk]
theorem lkO_f {oc oc' : Nat → Int32} {cl j : Nat} (hj : j < cl) (hne : oc j ≠ oc' j) : ∀ (f k : Nat), cl < k + f → k ≤ j → lkO oc oc' cl f k = 0
  | 0, k, hf, h => absurd hf (by omega)
  | f + 1, k, hf, h => by
    unfold lkO
    rw [if_pos (show k < cl by omega)]
    by_cases e : k = j
    · subst e; rw [if_neg hne]
    · by_cases h2 : oc k = oc' k
      · rw [if_pos h2]; exact lkO_f hj hne f (k + 1) (by omega) (by omega)
      · rw [if_neg h2]
theorem sm1_t {f g : Nat → Int64} : ∀ (n k : Nat), (∀ j, j < 8 → f j = g j) → sm1 f g n k 1 = 1
  | 0, _, _ => rfl
  | n + 1, k, h => by
    unfold sm1
    by_cases hk : k < 8
    · rw [if_pos hk, if_neg (by decide), if_pos (h k hk)]; exact sm1_t n (k + 1) h
    · rw [if_neg hk]
theorem sm1_0 {f g : Nat → Int64} : ∀ (n k : Nat), sm1 f g n k 0 = 0
  | 0, _ => rfl
  | n + 1, k => by
    unfold sm1
    by_cases hk : k < 8
    · rw [if_pos hk, if_pos rfl]; exact sm1_0 n (k + 1)
    · rw [if_neg hk]
theorem sm1_f {f g : Nat → Int64} {j : Nat} (hj : j < 8) (hne : f j ≠ g j) : ∀ (n k : Nat) (b : Int32), 8 < k + n → k ≤ j → sm1 f g n k b = 0
  | 0, k, b, hf, h => absurd hf (by omega)
  | n + 1, k, b, hf, h => by
    unfold sm1
    rw [if_pos (show k < 8 by omega)]
    by_cases e : k = j
    · subst e
      by_cases hb : b = 0
      · rw [if_pos hb]; exact sm1_0 n (k + 1)
      · rw [if_neg hb, if_neg hne]; exact sm1_0 n (k + 1)
    · exact sm1_f hj hne n (k + 1) _ (by omega) (by omega)
theorem sm2_t {f g : Nat → Int32} {en : Nat} : ∀ (n k : Nat), (∀ j, j < en → f j = g j) → sm2 f g en n k 1 = 1
  | 0, _, _ => rfl
  | n + 1, k, h => by
    unfold sm2
    by_cases hk : k < en
    · rw [if_pos hk, if_neg (by decide), if_pos (h k hk)]; exact sm2_t n (k + 1) h
    · rw [if_neg hk]
theorem sm2_0 {f g : Nat → Int32} {en : Nat} : ∀ (n k : Nat), sm2 f g en n k 0 = 0
  | 0, _ => rfl
  | n + 1, k => by
    unfold sm2
    by_cases hk : k < en
    · rw [if_pos hk, if_pos rfl]; exact sm2_0 n (k + 1)
    · rw [if_neg hk]
theorem sm2_f {f g : Nat → Int32} {en j : Nat} (hj : j < en) (hne : f j ≠ g j) : ∀ (n k : Nat) (b : Int32), en < k + n → k ≤ j → sm2 f g en n k b = 0
  | 0, k, b, hf, h => absurd hf (by omega)
  | n + 1, k, b, hf, h => by
    unfold sm2
    rw [if_pos (show k < en by omega)]
    by_cases e : k = j
    · subst e
      by_cases hb : b = 0
      · rw [if_pos hb]; exact sm2_0 n (k + 1)
      · rw [if_neg hb, if_neg hne]; exact sm2_0 n (k + 1)
    · exact sm2_f hj hne n (k + 1) _ (by omega) (by omega)
theorem map_lt {α : Type} {f g : Nat → α} {k j : Nat} (h : j < k) : mapTo f k g j = g j := by unfold mapTo; rw [if_pos h]
def lkC (n : Nat) (ak bk : Nat → Int32) : CS → CS → Int32
  | (kp1, tk1, bg1, an1, dm1, uw1, mu1, id_1, st1, sl1, ra1, rb1, ca1, cb1, ga1, gb1, oc1, tb1, fb1, ka1, eb1, sd1, lf1, pr1, ho1, be1), (kp3, tk3, bg3, an3, dm3, uw3, mu3, id_3, st3, sl3, ra3, rb3, ca3, cb3, ga3, gb3, oc3, tb3, fb3, ka3, eb3, sd3, lf3, pr3, ho3, be3) => lkK (fun x => stnd st1 ca1 ak cb1 bk ga1 gb1 x n) (fun x => stnd st3 ca3 ak cb3 bk ga3 gb3 x n) (lkO oc1 oc3 n 41 0) 9 0
def smM (n : Nat) (f : Nat → Int32) (g : Nat → Int64) : MS → MS → Int32
  | (td1, se1, nb1, nf1, nk1, nw1, nv1, xa1, xb1, ya1, yb1, za1, zb1, am1, cf1, sf1, bf1, ig1), (td3, se3, nb3, nf3, nk3, nw3, nv3, xa3, xb3, ya3, yb3, za3, zb3, am3, cf3, sf3, bf3, ig3) => sm2 (mapTo f n nv1) nv3 n 41 0 (sm1 (mapTo g 8 (fun j => am1 (8 * n + j))) (fun j => am3 (8 * n + j)) 9 0 1)
theorem same_eq {n : Nat} {ak bk : Nat → Int32} {V V3 : VW} {f : Nat → Int32} {g : Nat → Int64} (hn : n ≤ 40) : ∀ {c1 c3 : CS} {m1 m3 : MS}, VCc n ak bk V c1 → VMm n V m1 → VCc n ak bk V3 c3 → VMm n V3 m3 → lkC n ak bk c1 c3 = smM n f g m1 m3 := by
  rintro ⟨kp1, tk1, bg1, an1, dm1, uw1, mu1, id_1, st1, sl1, ra1, rb1, ca1, cb1, ga1, gb1, oc1, tb1, fb1, ka1, eb1, sd1, lf1, pr1, ho1, be1⟩ ⟨kp3, tk3, bg3, an3, dm3, uw3, mu3, id_3, st3, sl3, ra3, rb3, ca3, cb3, ga3, gb3, oc3, tb3, fb3, ka3, eb3, sd3, lf3, pr3, ho3, be3⟩ ⟨td1, se1, nb1, nf1, nk1, nw1, nv1, xa1, xb1, ya1, yb1, za1, zb1, am1, cf1, sf1, bf1, ig1⟩ ⟨td3, se3, nb3, nf3, nk3, nw3, nv3, xa3, xb3, ya3, yb3, za3, zb3, am3, cf3, sf3, bf3, ig3⟩ hC hM hC3 hM3
  obtain ⟨-, a1, a2, -⟩ := hC
  obtain ⟨-, b1, b2, -⟩ := hM
  obtain ⟨-, d1, d2, -⟩ := hC3
  obtain ⟨-, e1, e2, -⟩ := hM3
  have q1 : ∀ j, j < 8 → stnd st1 ca1 ak cb1 bk ga1 gb1 (nI j) n = am1 (8 * n + j) := fun j hj => (a1 n (Nat.le_refl _) j hj).trans (b1 n (Nat.le_refl _) j hj).symm
  have q3 : ∀ j, j < 8 → stnd st3 ca3 ak cb3 bk ga3 gb3 (nI j) n = am3 (8 * n + j) := fun j hj => (d1 n (Nat.le_refl _) j hj).trans (e1 n (Nat.le_refl _) j hj).symm
  have o1 : ∀ j, j < n → oc1 j = nv1 j := fun j hj => (a2 j hj).1.trans (b2 j hj).1.symm
  have o3 : ∀ j, j < n → oc3 j = nv3 j := fun j hj => (d2 j hj).1.trans (e2 j hj).1.symm
  show lkK (fun x => stnd st1 ca1 ak cb1 bk ga1 gb1 x n) (fun x => stnd st3 ca3 ak cb3 bk ga3 gb3 x n) (lkO oc1 oc3 n 41 0) 9 0 = sm2 (mapTo f n nv1) nv3 n 41 0 (sm1 (mapTo g 8 (fun j => am1 (8 * n + j))) (fun j => am3 (8 * n + j)) 9 0 1)
  by_cases hA : ∀ j, j < 8 → am1 (8 * n + j) = am3 (8 * n + j)
  · rw [lkK_t 9 0 (by decide) (fun j _ hj => by show stnd st1 ca1 ak cb1 bk ga1 gb1 (nI j) n = stnd st3 ca3 ak cb3 bk ga3 gb3 (nI j) n; rw [q1 j hj, q3 j hj]; exact hA j hj), sm1_t 9 0 (fun j hj => by rw [map_lt hj]; exact hA j hj)]
    by_cases hO : ∀ j, j < n → nv1 j = nv3 j
    · rw [lkO_t 41 0 (fun j _ hj => by rw [o1 j hj, o3 j hj]; exact hO j hj), sm2_t 41 0 (fun j hj => by rw [map_lt hj]; exact hO j hj)]
    · obtain ⟨j, hj⟩ := Classical.not_forall.mp hO
      obtain ⟨hj1, hj2⟩ := Classical.not_imp.mp hj
      rw [lkO_f hj1 (by rw [o1 j hj1, o3 j hj1]; exact hj2) 41 0 (by omega) (Nat.zero_le _), sm2_f hj1 (by rw [map_lt hj1]; exact hj2) 41 0 1 (by omega) (Nat.zero_le _)]
  · obtain ⟨j, hj⟩ := Classical.not_forall.mp hA
    obtain ⟨hj1, hj2⟩ := Classical.not_imp.mp hj
    rw [lkK_f hj1 (by show stnd st1 ca1 ak cb1 bk ga1 gb1 (nI j) n ≠ stnd st3 ca3 ak cb3 bk ga3 gb3 (nI j) n; rw [q1 j hj1, q3 j hj1]; exact hj2) 9 0 (by decide) (Nat.zero_le _), sm1_f hj1 (by rw [map_lt hj1]; exact hj2) 9 0 1 (by decide) (Nat.zero_le _), sm2_0]
