theorem upd_ne {f : Nat → Int32} {k j : Nat} {x : Int32} (h : j ≠ k) : upd f k x j = f j := by simp [upd, h]
def rTick0 : MS → MS
  | (td, se, nb, nf, nk, nw, nv, xa, xb, ya, yb, za, zb, am, cf, sf, bf, ig) => (upd td 1 (td 1 + 1), se, nb, nf, nk, nw, nv, xa, xb, ya, yb, za, zb, am, cf, sf, bf, ig)
def rW (wk : Nat) (sd : Int32) : MS → Nat
  | (td, se, nb, nf, nk, nw, nv, xa, xb, ya, yb, za, zb, am, cf, sf, bf, ig) => (trn ig wk 17 0 (turnI sd (wk - (td 4).toNatClampNeg))).getD 0
def rTurn (n rm rd : Nat) (mo ma mb mk mt mg : Nat → Int32) (w : Nat) (tick : Int32) : MS → MS
  | (td, se, nb, nf, nk, nw, nv, xa, xb, ya, yb, za, zb, am, cf, sf, bf, ig) => if cf w = -1 then (match lsN se (min n (rd + rm)) 41 rd with
    | none => (upd td 6 (td 6 + 1), se, nb, nf, nk, nw, nv, xa, xb, ya, yb, za, zb, am, cf, sf, bf, ig)
    | some k => rTake ma mb mg w k tick (td, se, nb, nf, nk, nw, nv, xa, xb, ya, yb, za, zb, am, cf, sf, bf, ig)) else rStep mo ma mb mk mt w (cf w).toNatClampNeg (td, se, nb, nf, nk, nw, nv, xa, xb, ya, yb, za, zb, am, cf, sf, bf, ig)
def rMost (n : Nat) : MS → MS
  | (td, se, nb, nf, nk, nw, nv, xa, xb, ya, yb, za, zb, am, cf, sf, bf, ig) => (upd td 5 (if td 5 < uwC se n 41 0 0 then uwC se n 41 0 0 else td 5), se, nb, nf, nk, nw, nv, xa, xb, ya, yb, za, zb, am, cf, sf, bf, ig)
def rTk (n wk rm : Nat) (mo ma mb mk mt mg : Nat → Int32) (sd : Int32) (rd : Nat) (c : MS) : Nat × MS := rKeep n ma mb (c.1 1 + 1) 41 rd (rTurn n rm rd mo ma mb mk mt mg (rW wk (nxs sd) (rTick0 c)) (c.1 1 + 1) (rTick0 c))
def rGo (n wk rm : Nat) (mo ma mb mk mt mg : Nat → Int32) : Nat → Int32 → Nat → MS → Int32 × MS
  | 0, _, _, c => (0, c)
  | f + 1, sd, rd, c => if rd < n then (if c.1 1 = 30000 then (0, c) else if (rMost n (rTk n wk rm mo ma mb mk mt mg sd rd c).2).1 4 = nI wk then (0, rMost n (rTk n wk rm mo ma mb mk mt mg sd rd c).2) else rGo n wk rm mo ma mb mk mt mg f (nxs sd) (rTk n wk rm mo ma mb mk mt mg sd rd c).1 (rMost n (rTk n wk rm mo ma mb mk mt mg sd rd c).2)) else (1, c)
theorem rGo_s (n wk rm : Nat) (mo ma mb mk mt mg : Nat → Int32) (f : Nat) (sd : Int32) (rd : Nat) (c : MS) : rGo n wk rm mo ma mb mk mt mg (f + 1) sd rd c = if rd < n then (if c.1 1 = 30000 then (0, c) else if (rMost n (rTk n wk rm mo ma mb mk mt mg sd rd c).2).1 4 = nI wk then (0, rMost n (rTk n wk rm mo ma mb mk mt mg sd rd c).2) else rGo n wk rm mo ma mb mk mt mg f (nxs sd) (rTk n wk rm mo ma mb mk mt mg sd rd c).1 (rMost n (rTk n wk rm mo ma mb mk mt mg sd rd c).2)) else (1, c) := rfl
def rRun (n wk rm : Nat) (mo ma mb mk mt mg : Nat → Int32) (seed : Int32) (c : MS) : Int32 × MS := rGo n wk rm mo ma mb mk mt mg 30001 seed 0 (rBegin n wk c)
def WFm (n wk rd : Nat) : MS → Prop
  | (td, se, nb, nf, nk, nw, nv, xa, xb, ya, yb, za, zb, am, cf, sf, bf, ig) => rd ≤ n ∧ (∀ w, w < 16 → cf w = -1 ∨ ∃ k, k < 40 ∧ cf w = nI k) ∧ (∃ d, td 4 = nI d ∧ d + cntN ig wk = wk) ∧ (∃ t, td 1 = nI t ∧ t ≤ 30000)
theorem cnt_le (ig : Nat → Int32) : ∀ w, cntN ig w ≤ w
  | 0 => Nat.le_refl _
  | w + 1 => by
    have := cnt_le ig w
    unfold cntN
    split <;> omega
theorem cnt_mono (ig : Nat → Int32) {a b : Nat} (h : a ≤ b) : cntN ig a ≤ cntN ig b := by
  induction b with
  | zero => have : a = 0 := by omega
            subst this; exact Nat.le_refl _
  | succ b ih =>
    by_cases hab : a = b + 1
    · subst hab; exact Nat.le_refl _
    · have := ih (by omega)
      show cntN ig a ≤ cntN ig b + _
      omega
theorem cnt_upd_lt (ig : Nat → Int32) (w : Nat) (x : Int32) : ∀ v, v ≤ w → cntN (upd ig w x) v = cntN ig v
  | 0, _ => rfl
  | v + 1, h => by
    unfold cntN
    rw [cnt_upd_lt ig w x v (by omega), upd_ne (by omega)]
theorem cnt_upd (ig : Nat → Int32) (w : Nat) (h0 : ig w = 0) : ∀ v, w < v → cntN (upd ig w 1) v + 1 = cntN ig v
  | 0, h => absurd h (by omega)
  | v + 1, h => by
    unfold cntN
    by_cases hv : w = v
    · subst hv
      rw [cnt_upd_lt ig w 1 w (Nat.le_refl _), upd_s, h0]
      simp
    · have := cnt_upd ig w h0 v (by omega)
      rw [upd_ne (by omega)]
      omega
theorem trn_ok (ig : Nat → Int32) (wk : Nat) : ∀ (f w j : Nat), w ≤ wk → wk < w + f → j + cntN ig w < cntN ig wk → ∃ v, trn ig wk f w j = some v ∧ v < wk ∧ ig v = 0
  | 0, w, j, h1, h2, h3 => absurd h2 (by omega)
  | f + 1, w, j, h1, h2, h3 => by
    have hw : w < wk := by
      rcases Nat.lt_or_ge w wk with z | z
      · exact z
      · have : w = wk := by omega
        subst this
        omega
    unfold trn
    rw [if_pos hw]
    by_cases hg : ig w = 0
    · rw [if_pos hg]
      by_cases hj : j = 0
      · rw [if_pos hj]; exact ⟨w, rfl, hw, hg⟩
      · rw [if_neg hj]
        refine trn_ok ig wk f (w + 1) (j - 1) hw (by omega) ?_
        have : cntN ig (w + 1) = cntN ig w + 1 := by show cntN ig w + _ = _; rw [if_pos hg]
        omega
    · rw [if_neg hg]
      refine trn_ok ig wk f (w + 1) j hw (by omega) ?_
      have : cntN ig (w + 1) = cntN ig w := by show cntN ig w + _ = _; rw [if_neg hg]; rfl
      omega
theorem cf_upd {cf : Nat → Int32} {w : Nat} {x : Int32} (h : ∀ w, w < 16 → cf w = -1 ∨ ∃ k, k < 40 ∧ cf w = nI k) (hx : x = -1 ∨ ∃ k, k < 40 ∧ x = nI k) : ∀ v, v < 16 → upd cf w x v = -1 ∨ ∃ k, k < 40 ∧ upd cf w x v = nI k := ho_upd h hx
theorem WFm_tick {n wk rd : Nat} : ∀ {c : MS} {t : Nat}, WFm n wk rd c → c.1 1 = nI t → t < 30000 → WFm n wk rd (rTick0 c) := by
  rintro ⟨td, se, nb, nf, nk, nw, nv, xa, xb, ya, yb, za, zb, am, cf, sf, bf, ig⟩ t ⟨h1, h2, ⟨d, h3, h4⟩, h5⟩ ht hl
  refine ⟨h1, h2, ⟨d, ?_, h4⟩, ⟨t + 1, ?_, by omega⟩⟩
  · rw [upd_ne (by decide)]; exact h3
  · show upd td 1 (td 1 + 1) 1 = _
    rw [upd_s]
    have ht : td 1 = nI t := ht
    rw [ht]; exact nI_1 t
theorem WFm_turn {n wk rm rd w : Nat} {mo ma mb mk mt mg : Nat → Int32} {tick : Int32} (hn : n ≤ 40) (hw : w < wk) : ∀ {c : MS}, (match c with | (td, se, nb, nf, nk, nw, nv, xa, xb, ya, yb, za, zb, am, cf, sf, bf, ig) => ig w = 0) → WFm n wk rd c → WFm n wk rd (rTurn n rm rd mo ma mb mk mt mg w tick c) := by
  rintro ⟨td, se, nb, nf, nk, nw, nv, xa, xb, ya, yb, za, zb, am, cf, sf, bf, ig⟩ hg ⟨h1, h2, ⟨d, h3, h4⟩, ⟨t, h5, h6⟩⟩
  have hg : ig w = 0 := hg
  unfold rTurn
  dsimp only
  by_cases hc : cf w = -1
  · rw [if_pos hc]
    rcases hls : lsN se (min n (rd + rm)) 41 rd with _ | k
    · refine ⟨h1, h2, ⟨d, ?_, h4⟩, ⟨t, ?_, h6⟩⟩
      · rw [upd_ne (by decide)]; exact h3
      · rw [upd_ne (by decide)]; exact h5
    · have hj := lsN_in hls
      dsimp only
      unfold rTake
      dsimp only
      by_cases hb : bf w + 1 = mg w
      · rw [if_pos hb]
        refine ⟨h1, h2, ⟨d + 1, ?_, ?_⟩, ⟨t, ?_, h6⟩⟩
        · rw [upd_s, upd_ne (by decide), h3]; exact nI_1 d
        · have := cnt_upd ig w hg wk hw
          omega
        · rw [upd_ne (by decide), upd_ne (by decide)]; exact h5
      · rw [if_neg hb]
        refine ⟨h1, cf_upd h2 (Or.inr ⟨k, by omega, rfl⟩), ⟨d, ?_, h4⟩, ⟨t, ?_, h6⟩⟩
        · rw [upd_ne (by decide)]; exact h3
        · rw [upd_ne (by decide)]; exact h5
  · rw [if_neg hc]
    unfold rStep
    dsimp only
    by_cases hs : sf w + 1 = mt (cf w).toNatClampNeg
    · rw [if_pos hs]; exact ⟨h1, cf_upd h2 (Or.inl rfl), ⟨d, h3, h4⟩, ⟨t, h5, h6⟩⟩
    · rw [if_neg hs]; exact ⟨h1, h2, ⟨d, h3, h4⟩, ⟨t, h5, h6⟩⟩
theorem WFm_keep {n wk : Nat} {ma mb : Nat → Int32} {tick : Int32} : ∀ (f rd : Nat) {c : MS}, WFm n wk rd c → WFm n wk (rKeep n ma mb tick f rd c).1 (rKeep n ma mb tick f rd c).2 := by
  intro f
  induction f with
  | zero => intro rd c hc; exact hc
  | succ f ih =>
    rintro rd ⟨td, se, nb, nf, nk, nw, nv, xa, xb, ya, yb, za, zb, am, cf, sf, bf, ig⟩ ⟨h1, h2, ⟨d, h3, h4⟩, ⟨t, h5, h6⟩⟩
    unfold rKeep
    by_cases h : rd < n ∧ se rd = 2
    · rw [if_pos h]
      by_cases h7 : xa rd = am (8 * rd + (ma rd).toNatClampNeg) ∧ xb rd = am (8 * rd + (mb rd).toNatClampNeg)
      · rw [if_pos h7]
        refine ih _ ⟨h.1, h2, ⟨d, ?_, h4⟩, ⟨t, ?_, h6⟩⟩
        · rw [upd_ne (by decide)]; exact h3
        · rw [upd_ne (by decide)]; exact h5
      · rw [if_neg h7]
        refine ⟨h1, h2, ⟨d, ?_, h4⟩, ⟨t, ?_, h6⟩⟩
        · rw [upd_ne (by decide)]; exact h3
        · rw [upd_ne (by decide)]; exact h5
    · rw [if_neg h]; exact ⟨h1, h2, ⟨d, h3, h4⟩, ⟨t, h5, h6⟩⟩
theorem WFm_most {n wk rd : Nat} : ∀ {c : MS}, WFm n wk rd c → WFm n wk rd (rMost n c) := by
  rintro ⟨td, se, nb, nf, nk, nw, nv, xa, xb, ya, yb, za, zb, am, cf, sf, bf, ig⟩ ⟨h1, h2, ⟨d, h3, h4⟩, ⟨t, h5, h6⟩⟩
  refine ⟨h1, h2, ⟨d, ?_, h4⟩, ⟨t, ?_, h6⟩⟩
  · rw [upd_ne (by decide)]; exact h3
  · rw [upd_ne (by decide)]; exact h5
theorem cnt_fill (ig : Nat → Int32) (wk : Nat) : ∀ v, v ≤ wk → cntN (fillTo ig wk 0) v = v
  | 0, _ => rfl
  | v + 1, h => by
    unfold cntN
    rw [cnt_fill ig wk v (by omega)]
    have : fillTo ig wk 0 v = 0 := by unfold fillTo; rw [if_pos (by omega)]
    rw [if_pos this]
theorem WFm_begin {n wk : Nat} : ∀ {c : MS}, (match c with | (td, se, nb, nf, nk, nw, nv, xa, xb, ya, yb, za, zb, am, cf, sf, bf, ig) => ∀ w, w < 16 → cf w = -1 ∨ ∃ k, k < 40 ∧ cf w = nI k) → WFm n wk 0 (rBegin n wk c) := by
  rintro ⟨td, se, nb, nf, nk, nw, nv, xa, xb, ya, yb, za, zb, am, cf, sf, bf, ig⟩ h
  refine ⟨Nat.zero_le _, fun w hw => ?_, ⟨0, ?_, ?_⟩, ⟨0, ?_, by decide⟩⟩
  · unfold fillTo
    by_cases h9 : w < wk
    · rw [if_pos h9]; exact Or.inl rfl
    · rw [if_neg h9]; exact h w hw
  · rw [upd_ne (by decide)]; rfl
  · rw [cnt_fill ig wk wk (Nat.le_refl _)]; omega
  · rw [upd_ne (by decide)]; rfl
theorem turn_td1 {n rm rd w : Nat} {mo ma mb mk mt mg : Nat → Int32} {tick : Int32} : ∀ {c r : MS}, rTurn n rm rd mo ma mb mk mt mg w tick c = r → r.1 1 = c.1 1 := by
  rintro ⟨td, se, nb, nf, nk, nw, nv, xa, xb, ya, yb, za, zb, am, cf, sf, bf, ig⟩ r rfl
  unfold rTurn
  dsimp only
  by_cases hc : cf w = -1
  · rw [if_pos hc]
    rcases hls : lsN se (min n (rd + rm)) 41 rd with _ | k
    · show upd td 6 (td 6 + 1) 1 = td 1
      exact upd_ne (by decide)
    · dsimp only
      unfold rTake
      dsimp only
      by_cases hb : bf w + 1 = mg w
      · rw [if_pos hb]
        show upd (upd td 2 (td 2 + 1)) 4 (upd td 2 (td 2 + 1) 4 + 1) 1 = td 1
        rw [upd_ne (by decide), upd_ne (by decide)]
      · rw [if_neg hb]; rfl
  · rw [if_neg hc]
    unfold rStep
    dsimp only
    by_cases hs : sf w + 1 = mt (cf w).toNatClampNeg
    · rw [if_pos hs]
    · rw [if_neg hs]
theorem keep_td1 {n : Nat} {ma mb : Nat → Int32} {tick : Int32} : ∀ (f rd : Nat) {c : MS} {r : Nat × MS}, rKeep n ma mb tick f rd c = r → r.2.1 1 = c.1 1 := by
  intro f
  induction f with
  | zero => intro rd c r h; subst h; rfl
  | succ f ih =>
    rintro rd ⟨td, se, nb, nf, nk, nw, nv, xa, xb, ya, yb, za, zb, am, cf, sf, bf, ig⟩ r rfl
    unfold rKeep
    by_cases h : rd < n ∧ se rd = 2
    · rw [if_pos h]
      by_cases h7 : xa rd = am (8 * rd + (ma rd).toNatClampNeg) ∧ xb rd = am (8 * rd + (mb rd).toNatClampNeg)
      · rw [if_pos h7]
        refine (ih _ rfl).trans ?_
        show upd td 7 (td 7 + (if nv rd = 2 then 1 else 0)) 1 = td 1
        exact upd_ne (by decide)
      · rw [if_neg h7]; rfl
    · rw [if_neg h]
