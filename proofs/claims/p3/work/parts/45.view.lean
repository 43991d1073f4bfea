def okR (R : RC) : Prop := R.1 ≤ 40 ∧ ∀ w, w < 16 → R.2.2.1 10 w = -1 ∨ ∃ k, k < 40 ∧ R.2.2.1 10 w = nI k
def okB (n : Nat) (Bk : Nat → Nat → Int32) : Prop := (∀ i, i < n → ∃ a, a < 8 ∧ Bk 1 i = nI a) ∧ (∀ i, i < n → ∃ a, a < 8 ∧ Bk 2 i = nI a) ∧ (∀ i, i < n → ∃ j, 1 ≤ j ∧ j ≤ 9 ∧ Bk 4 i = nI j)
def VCr (n : Nat) (Bk : Nat → Nat → Int32) (V : VW) (R : RC) : Prop := R.1 ≤ n ∧ VCc R.1 (Bk 1) (Bk 2) V (0, R.2.1 0, R.2.1 3, R.2.1 4, R.2.1 5, R.2.1 6, R.2.1 7, R.2.1 8, R.2.2.1 0, R.2.2.1 1, R.2.2.2 0, R.2.2.2 1, R.2.2.1 2, R.2.2.1 3, R.2.2.2 2, R.2.2.2 3, R.2.2.1 4, R.2.2.1 5, R.2.2.1 6, R.2.2.1 7, R.2.2.1 8, 0, 0, R.2.2.1 9, R.2.2.1 10, R.2.2.1 11)
def mkB (F : Nat → Nat → Int32) : Nat → Nat → Int32 := fun k => match k with | 0 => F 2 | 1 => F 3 | 2 => F 4 | 3 => F 5 | 4 => F 6 | 5 => F 7 | _ => fun _ => 0
def VMr (V : VW) (F : Nat → Nat → Int32) (G : Nat → Nat → Int64) : Prop := V.1 ≤ 40 ∧ F 11 0 = nI V.1 ∧ (∀ k, k ≤ V.1 → ∀ key, key < 8 → G 17 (8 * k + key) = V.2.1 k key) ∧ (∀ k, k < V.1 → F 16 k = V.2.2.1 0 k ∧ F 12 k = V.2.2.1 1 k ∧ F 13 k = V.2.2.1 2 k ∧ F 14 k = V.2.2.1 3 k ∧ F 15 k = V.2.2.1 4 k) ∧ ∀ j, j < 8 → F 11 j = V.2.2.2 j
def ansA (hv : Int32) (V : VW) (key : Int32) : Int64 := if hv = 0 then 0 else if wi key 0 7 = 0 then 0 else V.2.1 V.1 key.toNatClampNeg
def ansB (hv : Int32) (V : VW) (v key : Int32) : Int64 := if wi v 0 (if hv = 0 then 40 else nI V.1) = 0 then -2 else if wi key 0 7 = 0 then -2 else if hv = 0 then -3 else V.2.1 v.toNatClampNeg key.toNatClampNeg
def ansO (n : Nat) (hv : Int32) (V : VW) (k : Int32) : Int32 := if wi k 0 (nI n - 1) = 0 then -2 else if hv = 0 then 0 else if nI V.1 ≤ k then 0 else V.2.2.1 0 k.toNatClampNeg
def ansF (n : Nat) (hv : Int32) (V : VW) (k w : Int32) : Int32 := if wi k 0 (nI n - 1) = 0 then -2 else if wi w 0 3 = 0 then -2 else if hv = 0 then -1 else if nI V.1 ≤ k then -1 else if w = 0 then V.2.2.1 1 k.toNatClampNeg else if w = 1 then V.2.2.1 2 k.toNatClampNeg else if w = 2 then V.2.2.1 3 k.toNatClampNeg else V.2.2.1 4 k.toNatClampNeg
def ansT (hv : Int32) (V : VW) (w : Int32) : Int32 := if wi w 0 7 = 0 then -2 else if hv = 0 then -3 else V.2.2.2 w.toNatClampNeg
theorem wi_m {a j : Nat} (ha : a < 2 ^ 30) (hj : j < 2 ^ 30) : wi (nI j) 0 (nI a - 1) = 0 ↔ nI a ≤ nI j := by
  rw [i_le, nI_toInt (by omega), nI_toInt (by omega)]
  constructor
  · intro h
    rcases Nat.lt_or_ge j a with z | z
    · refine absurd h (fun h => wi_f h ?_ ?_)
      · rw [i_le, nI_toInt (by omega)]; have : (0 : Int32).toInt = 0 := by decide
        omega
      · obtain ⟨i, rfl⟩ : ∃ i, a = i + 1 := ⟨a - 1, by omega⟩
        rw [nI_pred, i_le, nI_toInt (by omega), nI_toInt (by omega)]; omega
    · omega
  · intro h
    rcases wi_b (nI j) 0 (nI a - 1) with z | z
    · exact z
    · obtain ⟨i, hi, e⟩ := wi_natm ha (v := nI j) (by rw [z]; decide)
      have e9 : j = i := (nI_eq (a := j) (b := i) (by omega) (by omega)).mp e
      omega
theorem stnd_kc {ak bk ak' bk' st ca cb : Nat → Int32} {ga gb : Nat → Int64} {key : Int32} : ∀ k, (∀ i, i < k → ak i = ak' i ∧ bk i = bk' i) → stnd st ca ak cb bk ga gb key k = stnd st ca ak' cb bk' ga gb key k
  | 0, _ => rfl
  | i + 1, h => by
    obtain ⟨h1, h2⟩ := h i (by omega)
    unfold stnd
    rw [h1, h2, stnd_kc i (fun j hj => h j (by omega))]
theorem VCr_call {n : Nat} {Bk : Nat → Nat → Int32} {V : VW} {R : RC} {xo xa xb xc xs : Int32} (h : VCr n Bk V R) : VCr (n + 1) (updB Bk n xo xa xb xc xs) V R := by
  obtain ⟨h1, v1, v2, v3⟩ := h
  refine ⟨by omega, v1, fun k hk key hkey => ?_, v3⟩
  rw [← v2 k hk key hkey]
  exact stnd_kc k (fun i hi => ⟨show upd (Bk 1) n xa i = Bk 1 i from upd_ne (by omega), show upd (Bk 2) n xb i = Bk 2 i from upd_ne (by omega)⟩)
theorem VCr_run {n cl rm : Nat} {Bk : Nat → Nat → Int32} {V : VW} (hcl : cl ≤ n) : ∀ {c : CS}, VCc cl (Bk 1) (Bk 2) V c → VCr n Bk V (rcOf cl rm c) := by
  rintro ⟨kp, tk, bg, an, dm, uw, mu, id_, st, sl, ra, rb, ca, cb, ga, gb, oc, tb, fb, ka, eb, sd, lf, pr, ho, be⟩ h
  exact ⟨hcl, h⟩
theorem VMr_run {cl : Nat} {V : VW} {F : Nat → Nat → Int32} {G : Nat → Nat → Int64} (hcl : cl ≤ 40) : ∀ {m : MS}, m.1 0 = nI cl → VMm cl V m → VMr V (resF cl (fOf F m)) (resG cl (gOf G m)) := by
  rintro ⟨td, se, nb, nf, nk, nw, nv, xa, xb, ya, yb, za, zb, am, cf, sf, bf, ig⟩ h0 ⟨v1, v2, v3, v4⟩
  have h0 : td 0 = nI cl := h0
  refine ⟨by rw [v1]; exact hcl, ?_, fun k hk key hkey => ?_, fun k hk => ?_, fun j hj => ?_⟩
  · show mapTo (F 11) 8 td 0 = _
    rw [map_lt (by decide), v1]; exact h0
  · rw [v1] at hk
    show mapTo (G 17) (8 * cl + 8) am (8 * k + key) = _
    rw [map_lt (by omega)]; exact v2 k hk key hkey
  · rw [v1] at hk
    obtain ⟨w0, w1, w2, w3, w4⟩ := v3 k hk
    exact ⟨(map_lt hk).trans w0, (map_lt hk).trans w1, (map_lt hk).trans w2, (map_lt hk).trans w3, (map_lt hk).trans w4⟩
  · exact (map_lt hj).trans (v4 j hj)
theorem mkB_0 : (fun _ _ => 0) = mkB (fun _ _ => 0) := by
  funext k
  match k with
  | 0 => rfl
  | 1 => rfl
  | 2 => rfl
  | 3 => rfl
  | 4 => rfl
  | 5 => rfl
  | k + 6 => rfl
theorem mkB_eq {F F' : Nat → Nat → Int32} (h2 : F 2 = F' 2) (h3 : F 3 = F' 3) (h4 : F 4 = F' 4) (h5 : F 5 = F' 5) (h6 : F 6 = F' 6) (h7 : F 7 = F' 7) : mkB F = mkB F' := by
  funext k
  match k with
  | 0 => exact h2
  | 1 => exact h3
  | 2 => exact h4
  | 3 => exact h5
  | 4 => exact h6
  | 5 => exact h7
  | k + 6 => rfl
theorem mkB_call {F : Nat → Nat → Int32} {n : Nat} {xo xa xb xc xs : Int32} : updB (mkB F) n xo xa xb xc xs = mkB (updM F n xo xa xb xc xs) := by
  funext k
  match k with
  | 0 => rfl
  | 1 => rfl
  | 2 => rfl
  | 3 => rfl
  | 4 => rfl
  | 5 => rfl
  | k + 6 => rfl
theorem mkB_gone {F : Nat → Nat → Int32} {w : Nat} {v : Int32} : updG (mkB F) w v = mkB (updMG F w v) := by
  funext k
  match k with
  | 0 => rfl
  | 1 => rfl
  | 2 => rfl
  | 3 => rfl
  | 4 => rfl
  | 5 => rfl
  | k + 6 => rfl
theorem mkB_fOf {F : Nat → Nat → Int32} : ∀ {m : MS}, mkB (fOf F m) = mkB F := by
  rintro ⟨td, se, nb, nf, nk, nw, nv, xa, xb, ya, yb, za, zb, am, cf, sf, bf, ig⟩
  exact mkB_eq rfl rfl rfl rfl rfl rfl
theorem told_c {n : Nat} {Bk : Nat → Nat → Int32} {hv w : Int32} {V : VW} {RL : RC} (h : hv ≠ 0 → VCr n Bk V RL) : (if wi w 0 7 = 0 then -2 else if hv = 0 then -3 else if w = 0 then nI RL.1 else if w = 1 then (RL.2.1 0) else if w = 2 then (RL.2.1 3) else if w = 3 then (RL.2.1 4) else if w = 4 then (RL.2.1 5) else if w = 5 then (RL.2.1 7) else if w = 6 then (RL.2.1 8) else fails (RL.2.2.1 4) RL.1 41 0 0) = ansT hv V w := by
  unfold ansT
  by_cases h1 : wi w 0 7 = 0
  · rw [if_pos h1, if_pos h1]
  rw [if_neg h1, if_neg h1]
  by_cases h2 : hv = 0
  · rw [if_pos h2, if_pos h2]
  rw [if_neg h2, if_neg h2]
  obtain ⟨-, -, -, -, t0, t1, t2, t3, t4, t5, t6, t7⟩ := h h2
  obtain ⟨j, hj, rfl⟩ := wi_nat (n := 7) (by decide) h1
  rw [nI_clamp (by omega)]
  rcases (show j = 0 ∨ j = 1 ∨ j = 2 ∨ j = 3 ∨ j = 4 ∨ j = 5 ∨ j = 6 ∨ j = 7 by omega) with rfl | rfl | rfl | rfl | rfl | rfl | rfl | rfl
  · rw [if_pos (by decide)]; exact t0
  · rw [if_neg (by decide), if_pos (by decide)]; exact t1
  · rw [if_neg (by decide), if_neg (by decide), if_pos (by decide)]; exact t2
  · rw [if_neg (by decide), if_neg (by decide), if_neg (by decide), if_pos (by decide)]; exact t3
  · rw [if_neg (by decide), if_neg (by decide), if_neg (by decide), if_neg (by decide), if_pos (by decide)]; exact t4
  · rw [if_neg (by decide), if_neg (by decide), if_neg (by decide), if_neg (by decide), if_neg (by decide), if_pos (by decide)]; exact t5
  · rw [if_neg (by decide), if_neg (by decide), if_neg (by decide), if_neg (by decide), if_neg (by decide), if_neg (by decide), if_pos (by decide)]; exact t6
  · rw [if_neg (by decide), if_neg (by decide), if_neg (by decide), if_neg (by decide), if_neg (by decide), if_neg (by decide), if_neg (by decide)]; exact t7
theorem out_c {n : Nat} {Bk : Nat → Nat → Int32} {hv k : Int32} {V : VW} {RL : RC} (hn : n ≤ 40) (hr : RL.1 ≤ 40) (h : hv ≠ 0 → VCr n Bk V RL) : (if wi k 0 (nI n - 1) = 0 then -2 else if hv = 0 then 0 else if wi k 0 (nI RL.1 - 1) = 0 then 0 else (RL.2.2.1 4) k.toNatClampNeg) = ansO n hv V k := by
  unfold ansO
  by_cases h1 : wi k 0 (nI n - 1) = 0
  · rw [if_pos h1, if_pos h1]
  rw [if_neg h1, if_neg h1]
  by_cases h2 : hv = 0
  · rw [if_pos h2, if_pos h2]
  rw [if_neg h2, if_neg h2]
  obtain ⟨-, v1, -, v3, -⟩ := h h2
  obtain ⟨j, hj, rfl⟩ := wi_natm (n := n) (by omega) h1
  have e9 := wi_m (a := RL.1) (j := j) (by omega) (by omega)
  rw [nI_clamp (by omega), v1]
  by_cases h3 : nI RL.1 ≤ nI j
  · rw [if_pos h3, if_pos (e9.mpr h3)]
  · rw [if_neg h3, if_neg (fun z => h3 (e9.mp z))]
    have hlt : j < RL.1 := by
      rw [i_le, nI_toInt (by omega), nI_toInt (by omega)] at h3
      omega
    exact (v3 j hlt).1
theorem of_c {n : Nat} {Bk : Nat → Nat → Int32} {hv k w : Int32} {V : VW} {RL : RC} (hn : n ≤ 40) (hr : RL.1 ≤ 40) (h : hv ≠ 0 → VCr n Bk V RL) : (if wi k 0 (nI n - 1) = 0 then -2 else if wi w 0 3 = 0 then -2 else if hv = 0 then -1 else if wi k 0 (nI RL.1 - 1) = 0 then -1 else if w = 0 then (RL.2.2.1 5) k.toNatClampNeg else if w = 1 then (RL.2.2.1 6) k.toNatClampNeg else if w = 2 then (RL.2.2.1 7) k.toNatClampNeg else (RL.2.2.1 8) k.toNatClampNeg) = ansF n hv V k w := by
  unfold ansF
  by_cases h1 : wi k 0 (nI n - 1) = 0
  · rw [if_pos h1, if_pos h1]
  rw [if_neg h1, if_neg h1]
  by_cases h0 : wi w 0 3 = 0
  · rw [if_pos h0, if_pos h0]
  rw [if_neg h0, if_neg h0]
  by_cases h2 : hv = 0
  · rw [if_pos h2, if_pos h2]
  rw [if_neg h2, if_neg h2]
  obtain ⟨-, v1, -, v3, -⟩ := h h2
  obtain ⟨j, hj, rfl⟩ := wi_natm (n := n) (by omega) h1
  have e9 := wi_m (a := RL.1) (j := j) (by omega) (by omega)
  rw [nI_clamp (by omega), v1]
  by_cases h3 : nI RL.1 ≤ nI j
  · rw [if_pos h3, if_pos (e9.mpr h3)]
  · rw [if_neg h3, if_neg (fun z => h3 (e9.mp z))]
    have hlt : j < RL.1 := by
      rw [i_le, nI_toInt (by omega), nI_toInt (by omega)] at h3
      omega
    obtain ⟨-, w1, w2, w3, w4⟩ := v3 j hlt
    have w1 : RL.2.2.1 5 j = V.2.2.1 1 j := w1
    have w2 : RL.2.2.1 6 j = V.2.2.1 2 j := w2
    have w3 : RL.2.2.1 7 j = V.2.2.1 3 j := w3
    have w4 : RL.2.2.1 8 j = V.2.2.1 4 j := w4
    rw [w1, w2, w3, w4]
theorem amt_c {n : Nat} {Bk : Nat → Nat → Int32} {hv key : Int32} {V : VW} {RL : RC} (h : hv ≠ 0 → VCr n Bk V RL) : (if hv = 0 then 0 else if wi key 0 7 = 0 then 0 else stnd (RL.2.2.1 0) (RL.2.2.1 2) (Bk 1) (RL.2.2.1 3) (Bk 2) (RL.2.2.2 2) (RL.2.2.2 3) key RL.1) = ansA hv V key := by
  unfold ansA
  by_cases h2 : hv = 0
  · rw [if_pos h2, if_pos h2]
  rw [if_neg h2, if_neg h2]
  by_cases h1 : wi key 0 7 = 0
  · rw [if_pos h1, if_pos h1]
  rw [if_neg h1, if_neg h1]
  obtain ⟨-, v1, v2, -⟩ := h h2
  obtain ⟨j, hj, rfl⟩ := wi_nat (n := 7) (by decide) h1
  rw [nI_clamp (by omega), v1]
  exact v2 RL.1 (Nat.le_refl _) j (by omega)
theorem beh_c {n : Nat} {Bk : Nat → Nat → Int32} {hv v key : Int32} {V : VW} {RL : RC} (hr : RL.1 ≤ 40) (h : hv ≠ 0 → VCr n Bk V RL) : (if wi v 0 (if hv = 0 then 40 else nI RL.1) = 0 then -2 else if wi key 0 7 = 0 then -2 else if hv = 0 then -3 else stnd (RL.2.2.1 0) (RL.2.2.1 2) (Bk 1) (RL.2.2.1 3) (Bk 2) (RL.2.2.2 2) (RL.2.2.2 3) key v.toNatClampNeg) = ansB hv V v key := by
  unfold ansB
  by_cases h2 : hv = 0
  · rw [if_pos h2, if_pos h2, if_pos h2, if_pos h2]
  rw [if_neg h2, if_neg h2, if_neg h2, if_neg h2]
  obtain ⟨-, v1, v2, -⟩ := h h2
  rw [v1]
  by_cases h3 : wi v 0 (nI RL.1) = 0
  · rw [if_pos h3, if_pos h3]
  rw [if_neg h3, if_neg h3]
  by_cases h1 : wi key 0 7 = 0
  · rw [if_pos h1, if_pos h1]
  rw [if_neg h1, if_neg h1]
  obtain ⟨j, hj, rfl⟩ := wi_nat (n := 7) (by decide) h1
  obtain ⟨i, hi, rfl⟩ := wi_natn (n := RL.1) (by omega) h3
  rw [nI_clamp (by omega), nI_clamp (by omega)]
  exact v2 i hi j (by omega)
theorem told_m {hs w : Int32} {V : VW} {F : Nat → Nat → Int32} {G : Nat → Nat → Int64} (h : hs ≠ 0 → VMr V F G) : (if wi w 0 7 = 0 then -2 else if hs = 0 then -3 else (F 11) w.toNatClampNeg) = ansT hs V w := by
  unfold ansT
  by_cases h1 : wi w 0 7 = 0
  · rw [if_pos h1, if_pos h1]
  rw [if_neg h1, if_neg h1]
  by_cases h2 : hs = 0
  · rw [if_pos h2, if_pos h2]
  rw [if_neg h2, if_neg h2]
  obtain ⟨-, -, -, -, t⟩ := h h2
  obtain ⟨j, hj, rfl⟩ := wi_nat (n := 7) (by decide) h1
  rw [nI_clamp (by omega)]
  exact t j (by omega)
theorem out_m {n : Nat} {hs k : Int32} {V : VW} {F : Nat → Nat → Int32} {G : Nat → Nat → Int64} (hn : n ≤ 40) (h : hs ≠ 0 → VMr V F G) : (if wi k 0 (nI n - 1) = 0 then -2 else if hs = 0 then 0 else if (F 11) 0 ≤ k then 0 else (F 16) k.toNatClampNeg) = ansO n hs V k := by
  unfold ansO
  by_cases h1 : wi k 0 (nI n - 1) = 0
  · rw [if_pos h1, if_pos h1]
  rw [if_neg h1, if_neg h1]
  by_cases h2 : hs = 0
  · rw [if_pos h2, if_pos h2]
  rw [if_neg h2, if_neg h2]
  obtain ⟨v0, v1, -, v3, -⟩ := h h2
  obtain ⟨j, hj, rfl⟩ := wi_natm (n := n) (by omega) h1
  rw [nI_clamp (by omega), v1]
  by_cases h3 : nI V.1 ≤ nI j
  · rw [if_pos h3, if_pos h3]
  · rw [if_neg h3, if_neg h3]
    have hlt : j < V.1 := by
      rw [i_le, nI_toInt (by omega), nI_toInt (by omega)] at h3
      omega
    exact (v3 j hlt).1
theorem of_m {n : Nat} {hs k w : Int32} {V : VW} {F : Nat → Nat → Int32} {G : Nat → Nat → Int64} (hn : n ≤ 40) (h : hs ≠ 0 → VMr V F G) : (if wi k 0 (nI n - 1) = 0 then -2 else if wi w 0 3 = 0 then -2 else if hs = 0 then -1 else if (F 11) 0 ≤ k then -1 else if w = 0 then (F 12) k.toNatClampNeg else if w = 1 then (F 13) k.toNatClampNeg else if w = 2 then (F 14) k.toNatClampNeg else (F 15) k.toNatClampNeg) = ansF n hs V k w := by
  unfold ansF
  by_cases h1 : wi k 0 (nI n - 1) = 0
  · rw [if_pos h1, if_pos h1]
  rw [if_neg h1, if_neg h1]
  by_cases h0 : wi w 0 3 = 0
  · rw [if_pos h0, if_pos h0]
  rw [if_neg h0, if_neg h0]
  by_cases h2 : hs = 0
  · rw [if_pos h2, if_pos h2]
  rw [if_neg h2, if_neg h2]
  obtain ⟨v0, v1, -, v3, -⟩ := h h2
  obtain ⟨j, hj, rfl⟩ := wi_natm (n := n) (by omega) h1
  rw [nI_clamp (by omega), v1]
  by_cases h3 : nI V.1 ≤ nI j
  · rw [if_pos h3, if_pos h3]
  · rw [if_neg h3, if_neg h3]
    have hlt : j < V.1 := by
      rw [i_le, nI_toInt (by omega), nI_toInt (by omega)] at h3
      omega
    obtain ⟨-, w1, w2, w3, w4⟩ := v3 j hlt
    rw [w1, w2, w3, w4]
theorem cl_V {cl : Nat} {V : VW} {F : Nat → Nat → Int32} {G : Nat → Nat → Int64} (hcl : cl ≤ 40) (hfg : F 11 0 = nI cl) (h : VMr V F G) : cl = V.1 := (nI_eq (a := cl) (b := V.1) (by omega) (by have := h.1; omega)).mp (hfg.symm.trans h.2.1)
theorem amt_m {cl : Nat} {hs key : Int32} {V : VW} {F : Nat → Nat → Int32} {G : Nat → Nat → Int64} (hcl : cl ≤ 40) (hfg : F 11 0 = nI cl) (h : hs ≠ 0 → VMr V F G) : (if hs = 0 then 0 else if wi key 0 7 = 0 then 0 else (G 17) (8 * cl + key.toNatClampNeg)) = ansA hs V key := by
  unfold ansA
  by_cases h2 : hs = 0
  · rw [if_pos h2, if_pos h2]
  rw [if_neg h2, if_neg h2]
  by_cases h1 : wi key 0 7 = 0
  · rw [if_pos h1, if_pos h1]
  rw [if_neg h1, if_neg h1]
  have e9 := cl_V hcl hfg (h h2)
  obtain ⟨v0, v1, v2, -⟩ := h h2
  obtain ⟨j, hj, rfl⟩ := wi_nat (n := 7) (by decide) h1
  rw [nI_clamp (by omega), e9]
  exact v2 V.1 (Nat.le_refl _) j (by omega)
theorem beh_m {hs v key : Int32} {V : VW} {F : Nat → Nat → Int32} {G : Nat → Nat → Int64} (h : hs ≠ 0 → VMr V F G) : (if wi v 0 (if hs = 0 then 40 else (F 11) 0) = 0 then -2 else if wi key 0 7 = 0 then -2 else if hs = 0 then -3 else (G 17) (8 * v.toNatClampNeg + key.toNatClampNeg)) = ansB hs V v key := by
  unfold ansB
  by_cases h2 : hs = 0
  · rw [if_pos h2, if_pos h2, if_pos h2, if_pos h2]
  rw [if_neg h2, if_neg h2, if_neg h2, if_neg h2]
  obtain ⟨v0, v1, v2, -⟩ := h h2
  rw [v1]
  by_cases h3 : wi v 0 (nI V.1) = 0
  · rw [if_pos h3, if_pos h3]
  rw [if_neg h3, if_neg h3]
  by_cases h1 : wi key 0 7 = 0
  · rw [if_pos h1, if_pos h1]
  rw [if_neg h1, if_neg h1]
  obtain ⟨j, hj, rfl⟩ := wi_nat (n := 7) (by decide) h1
  obtain ⟨i, hi, rfl⟩ := wi_natn (n := V.1) (by omega) h3
  rw [nI_clamp (by omega), nI_clamp (by omega)]
  exact v2 i hi j (by omega)
def RuC (n : Nat) (Bk : Nat → Nat → Int32) (xc xw seed xr r : Int32) (P : Prop) (Q : VW → Prop) : Prop := (¬ (¬ wi xc 0 (nI n) = 0 ∧ ¬ wi xw 1 16 = 0 ∧ ¬ wi xr 1 40 = 0) ∧ r = -2 ∧ P) ∨ ((¬ wi xc 0 (nI n) = 0 ∧ ¬ wi xw 1 16 = 0 ∧ ¬ wi xr 1 40 = 0) ∧ ∃ (cl wk rm : Nat) (c0 c1 : CS), cl ≤ n ∧ 1 ≤ wk ∧ wk ≤ 16 ∧ rm ≤ 40 ∧ xc = nI cl ∧ xw = nI wk ∧ xr = nI rm ∧ runF cl rm (Bk 1) (Bk 2) (Bk 4) (Bk 5) (Bk 0) (Bk 3) wk seed c0 = c1 ∧ ((csKp c1 = cl ∧ r = csTk c1 ∧ ∀ V, VCc cl (Bk 1) (Bk 2) V c1 → Q V) ∨ (csKp c1 ≠ cl ∧ r = -5 ∧ P)))
def RuM (n : Nat) (Bk : Nat → Nat → Int32) (xc xw seed xr r : Int32) (P : Prop) (Q : VW → Prop) : Prop := (¬ (¬ wi xc 0 (nI n) = 0 ∧ ¬ wi xw 1 16 = 0 ∧ ¬ wi xr 1 40 = 0) ∧ r = -2 ∧ P) ∨ ((¬ wi xc 0 (nI n) = 0 ∧ ¬ wi xw 1 16 = 0 ∧ ¬ wi xr 1 40 = 0) ∧ ∃ (cl wk rm : Nat) (m0 : MS) (q1 : Int32 × MS), cl ≤ n ∧ 1 ≤ wk ∧ wk ≤ 16 ∧ rm ≤ 40 ∧ xc = nI cl ∧ xw = nI wk ∧ xr = nI rm ∧ rRun cl wk rm (Bk 0) (Bk 1) (Bk 2) (Bk 3) (Bk 4) (Bk 5) seed m0 = q1 ∧ ((q1.1 = 1 ∧ r = q1.2.1 1 ∧ ∀ V, VMm cl V q1.2 → Q V) ∨ (q1.1 = 0 ∧ r = -5 ∧ P)))
theorem run_match {n : Nat} {Bk : Nat → Nat → Int32} {xc xw seed xr r r' : Int32} {P P' : Prop} {Q Q' : VW → Prop} (hn : n ≤ 40) (hB : okB n Bk) (h : RuC n Bk xc xw seed xr r P Q) (h' : RuM n Bk xc xw seed xr r' P' Q') : r = r' ∧ ((P ∧ P') ∨ ∃ V, Q V ∧ Q' V) := by
  rcases h with ⟨g, e, p⟩ | ⟨g, cl, wk, rm, c0, c1, a1, a2, a3, a4, a5, a6, a7, a8, a9⟩
  · rcases h' with ⟨g', e', p'⟩ | ⟨g', -⟩
    · exact ⟨e.trans e'.symm, Or.inl ⟨p, p'⟩⟩
    · exact absurd g' g
  · rcases h' with ⟨g', e', p'⟩ | ⟨g', cl', wk', rm', m0, q1, b1, b2, b3, b4, b5, b6, b7, b8, b9⟩
    · exact absurd g g'
    · obtain rfl : cl = cl' := (nI_eq (a := cl) (b := cl') (by omega) (by omega)).mp (a5.symm.trans b5)
      obtain rfl : wk = wk' := (nI_eq (a := wk) (b := wk') (by omega) (by omega)).mp (a6.symm.trans b6)
      obtain rfl : rm = rm' := (nI_eq (a := rm) (b := rm') (by omega) (by omega)).mp (a7.symm.trans b7)
      rcases run_both (show cl ≤ 40 by omega) a3 (fun i hi => hB.2.2 i (by omega)) (fun i hi => hB.1 i (by omega)) (fun i hi => hB.2.1 i (by omega)) a2 a8 b8 with ⟨k1, k2, V, k3, k4, k5⟩ | ⟨k1, k2⟩
      · rcases a9 with ⟨x1, x2, x3⟩ | ⟨x1, -⟩
        · rcases b9 with ⟨y1, y2, y3⟩ | ⟨y1, -⟩
          · exact ⟨by rw [x2, y2]; exact k5, Or.inr ⟨V, x3 V k3, y3 V k4⟩⟩
          · rw [k2] at y1; exact absurd y1 (by decide)
        · exact absurd k1 x1
      · rcases a9 with ⟨x1, -⟩ | ⟨x1, x2, x3⟩
        · exact absurd x1 k1
        · rcases b9 with ⟨y1, -⟩ | ⟨y1, y2, y3⟩
          · rw [k2] at y1; exact absurd y1 (by decide)
          · exact ⟨x2.trans y2.symm, Or.inl ⟨x3, y3⟩⟩
def SmC (n : Nat) (Bk : Nat → Nat → Int32) (xw seed yw seed2 r : Int32) : Prop := (¬ (¬ wi xw 1 16 = 0 ∧ ¬ wi yw 1 16 = 0) ∧ r = 0) ∨ ((¬ wi xw 1 16 = 0 ∧ ¬ wi yw 1 16 = 0) ∧ ∃ (wk wk2 : Nat) (c0 c0' c1 c3 : CS), 1 ≤ wk ∧ wk ≤ 16 ∧ 1 ≤ wk2 ∧ wk2 ≤ 16 ∧ xw = nI wk ∧ yw = nI wk2 ∧ runF n 40 (Bk 1) (Bk 2) (Bk 4) (Bk 5) (Bk 0) (Bk 3) wk seed c0 = c1 ∧ runF n 40 (Bk 1) (Bk 2) (Bk 4) (Bk 5) (Bk 0) (Bk 3) wk2 seed2 c0' = c3 ∧ ((csKp c1 ≠ n ∧ r = 0) ∨ (csKp c3 ≠ n ∧ r = 0) ∨ (csKp c1 = n ∧ csKp c3 = n ∧ r = lkC n (Bk 1) (Bk 2) c1 c3)))
def SmM (n : Nat) (Bk : Nat → Nat → Int32) (xw seed yw seed2 r : Int32) : Prop := (¬ (¬ wi xw 1 16 = 0 ∧ ¬ wi yw 1 16 = 0) ∧ r = 0) ∨ ((¬ wi xw 1 16 = 0 ∧ ¬ wi yw 1 16 = 0) ∧ ∃ (wk wk2 : Nat) (m0 m0' : MS) (q1 q3 : Int32 × MS) (f : Nat → Int32) (g : Nat → Int64), 1 ≤ wk ∧ wk ≤ 16 ∧ 1 ≤ wk2 ∧ wk2 ≤ 16 ∧ xw = nI wk ∧ yw = nI wk2 ∧ rRun n wk 40 (Bk 0) (Bk 1) (Bk 2) (Bk 3) (Bk 4) (Bk 5) seed m0 = q1 ∧ rRun n wk2 40 (Bk 0) (Bk 1) (Bk 2) (Bk 3) (Bk 4) (Bk 5) seed2 m0' = q3 ∧ ((q1.1 = 0 ∧ r = 0) ∨ (q3.1 = 0 ∧ r = 0) ∨ (q1.1 = 1 ∧ q3.1 = 1 ∧ r = smM n f g q1.2 q3.2)))
theorem same_match {n : Nat} {Bk : Nat → Nat → Int32} {xw seed yw seed2 r r' : Int32} (hn : n ≤ 40) (hB : okB n Bk) (h : SmC n Bk xw seed yw seed2 r) (h' : SmM n Bk xw seed yw seed2 r') : r = r' := by
  rcases h with ⟨g, e⟩ | ⟨g, wk, wk2, c0, c0', c1, c3, a1, a2, a3, a4, a5, a6, a7, a8, a9⟩
  · rcases h' with ⟨g', e'⟩ | ⟨g', -⟩
    · exact e.trans e'.symm
    · exact absurd g' g
  · rcases h' with ⟨g', e'⟩ | ⟨g', wk', wk2', m0, m0', q1, q3, f, ge, b1, b2, b3, b4, b5, b6, b7, b8, b9⟩
    · exact absurd g g'
    · obtain rfl : wk = wk' := (nI_eq (a := wk) (b := wk') (by omega) (by omega)).mp (a5.symm.trans b5)
      obtain rfl : wk2 = wk2' := (nI_eq (a := wk2) (b := wk2') (by omega) (by omega)).mp (a6.symm.trans b6)
      have r1 := run_both hn a2 hB.2.2 hB.1 hB.2.1 a1 a7 b7
      have r3 := run_both hn a4 hB.2.2 hB.1 hB.2.1 a3 a8 b8
      rcases r1 with ⟨k1, k2, V, k3, k4, k5⟩ | ⟨k1, k2⟩
      · rcases r3 with ⟨l1, l2, V3, l3, l4, l5⟩ | ⟨l1, l2⟩
        · rcases a9 with ⟨x1, -⟩ | ⟨x1, -⟩ | ⟨-, -, x3⟩
          · exact absurd k1 x1
          · exact absurd l1 x1
          · rcases b9 with ⟨y1, -⟩ | ⟨y1, -⟩ | ⟨-, -, y3⟩
            · rw [k2] at y1; exact absurd y1 (by decide)
            · rw [l2] at y1; exact absurd y1 (by decide)
            · rw [x3, y3]; exact same_eq hn k3 k4 l3 l4
        · rcases a9 with ⟨x1, -⟩ | ⟨-, x2⟩ | ⟨-, x2, -⟩
          · exact absurd k1 x1
          · rcases b9 with ⟨y1, -⟩ | ⟨-, y2⟩ | ⟨-, y1, -⟩
            · rw [k2] at y1; exact absurd y1 (by decide)
            · exact x2.trans y2.symm
            · rw [l2] at y1; exact absurd y1 (by decide)
          · exact absurd x2 l1
      · have x2 : r = 0 := by
          rcases a9 with ⟨-, x2⟩ | ⟨-, x2⟩ | ⟨x1, -⟩
          · exact x2
          · exact x2
          · exact absurd x1 k1
        have y2 : r' = 0 := by
          rcases b9 with ⟨-, y2⟩ | ⟨-, y2⟩ | ⟨y1, -⟩
          · exact y2
          · exact y2
          · rw [k2] at y1; exact absurd y1 (by decide)
        exact x2.trans y2.symm
