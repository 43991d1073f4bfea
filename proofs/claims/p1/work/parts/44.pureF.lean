theorem WF_go {cl rm : Nat} {ak bk sk gn ok ck : Nat → Int32} (hcl : cl ≤ 40) : ∀ (n t : Nat) {c : CS}, WFc cl c → WFc cl (goF cl rm ak bk sk gn ok ck n t c) := by
  intro n
  induction n with
  | zero => intro t c hc; exact hc
  | succ n ih =>
    rintro t ⟨kp, tk, bg, an, dm, uw, mu, id_, st, sl, ra, rb, ca, cb, ga, gb, oc, tb, fb, ka, eb, sd, lf, pr, ho, be⟩ hc
    unfold goF
    split
    · refine ih (t + 1) ?_
      unfold tickF
      have h0 : WFc cl (tick0 t (kp, tk, bg, an, dm, uw, mu, id_, st, sl, ra, rb, ca, cb, ga, gb, oc, tb, fb, ka, eb, sd, lf, pr, ho, be)) := hc
      have h1 := WF_keep (ak := ak) (bk := bk) 41 (WF_takeTurn (rm := rm) (ak := ak) (bk := bk) (sk := sk) (gn := gn) (ok := ok) (ck := ck) (w := tickW (tick0 t (kp, tk, bg, an, dm, uw, mu, id_, st, sl, ra, rb, ca, cb, ga, gb, oc, tb, fb, ka, eb, sd, lf, pr, ho, be))) hcl h0)
      revert h1
      generalize keepF cl ak bk 41 (takeTurnF cl rm ak bk sk gn ok ck (tickW (tick0 t (kp, tk, bg, an, dm, uw, mu, id_, st, sl, ra, rb, ca, cb, ga, gb, oc, tb, fb, ka, eb, sd, lf, pr, ho, be))) (tick0 t (kp, tk, bg, an, dm, uw, mu, id_, st, sl, ra, rb, ca, cb, ga, gb, oc, tb, fb, ka, eb, sd, lf, pr, ho, be))) = c9
      obtain ⟨kp, tk, bg, an, dm, uw, mu, id_, st, sl, ra, rb, ca, cb, ga, gb, oc, tb, fb, ka, eb, sd, lf, pr, ho, be⟩ := c9
      exact fun h => h
    · exact hc
theorem run_WF {cl rm wk : Nat} {ak bk sk gn ok ck : Nat → Int32} {seed : Int32} (hcl : cl ≤ 40) (hwk : wk ≤ 16) {c : CS} (h : match c with | (kp, tk, bg, an, dm, uw, mu, id_, st, sl, ra, rb, ca, cb, ga, gb, oc, tb, fb, ka, eb, sd, lf, pr, ho, be) => ∀ w, w < 16 → ho w = -1 ∨ ∃ k, k < 40 ∧ ho w = nI k) : WFc cl (runF cl rm ak bk sk gn ok ck wk seed c) := WF_go hcl 30001 1 (WF_prep hwk h)
def WG (n : Nat) : MS → Prop
  | (td, se, nb, nf, nk, nw, nv, xa, xb, ya, yb, za, zb, am, cf, sf, bf, ig) => (∀ w, w < 16 → cf w = -1 ∨ ∃ k, k < 40 ∧ cf w = nI k) ∧ td 0 = nI n
theorem WG_turn {n rm rd w : Nat} {mo ma mb mk mt mg : Nat → Int32} {tick : Int32} (hn : n ≤ 40) : ∀ {c : MS}, WG n c → WG n (rTurn n rm rd mo ma mb mk mt mg w tick c) := by
  rintro ⟨td, se, nb, nf, nk, nw, nv, xa, xb, ya, yb, za, zb, am, cf, sf, bf, ig⟩ ⟨h2, h3⟩
  unfold rTurn
  dsimp only
  by_cases hc : cf w = -1
  · rw [if_pos hc]
    rcases hls : lsN se (min n (rd + rm)) 41 rd with _ | k
    · exact ⟨h2, by rw [upd_ne (by decide)]; exact h3⟩
    · have hj := lsN_in hls
      dsimp only
      unfold rTake
      dsimp only
      by_cases hb : bf w + 1 = mg w
      · rw [if_pos hb]
        exact ⟨h2, by rw [upd_ne (by decide), upd_ne (by decide)]; exact h3⟩
      · rw [if_neg hb]
        exact ⟨cf_upd h2 (Or.inr ⟨k, by omega, rfl⟩), by rw [upd_ne (by decide)]; exact h3⟩
  · rw [if_neg hc]
    unfold rStep
    dsimp only
    by_cases hs : sf w + 1 = mt (cf w).toNatClampNeg
    · rw [if_pos hs]; exact ⟨cf_upd h2 (Or.inl rfl), h3⟩
    · rw [if_neg hs]; exact ⟨h2, h3⟩
theorem WG_keep {n : Nat} {ma mb : Nat → Int32} {tick : Int32} : ∀ (f rd : Nat) {c : MS}, WG n c → WG n (rKeep n ma mb tick f rd c).2 := by
  intro f
  induction f with
  | zero => intro rd c hc; exact hc
  | succ f ih =>
    rintro rd ⟨td, se, nb, nf, nk, nw, nv, xa, xb, ya, yb, za, zb, am, cf, sf, bf, ig⟩ ⟨h2, h3⟩
    unfold rKeep
    by_cases h : rd < n ∧ se rd = 2
    · rw [if_pos h]
      by_cases h7 : xa rd = am (8 * rd + (ma rd).toNatClampNeg) ∧ xb rd = am (8 * rd + (mb rd).toNatClampNeg)
      · rw [if_pos h7]
        exact ih _ ⟨h2, by rw [upd_ne (by decide)]; exact h3⟩
      · rw [if_neg h7]
        exact ⟨h2, by rw [upd_ne (by decide)]; exact h3⟩
    · rw [if_neg h]; exact ⟨h2, h3⟩
theorem WG_most {n : Nat} : ∀ {c : MS}, WG n c → WG n (rMost n c) := by
  rintro ⟨td, se, nb, nf, nk, nw, nv, xa, xb, ya, yb, za, zb, am, cf, sf, bf, ig⟩ ⟨h2, h3⟩
  exact ⟨h2, by rw [upd_ne (by decide)]; exact h3⟩
theorem WG_tick {n : Nat} : ∀ {c : MS}, WG n c → WG n (rTick0 c) := by
  rintro ⟨td, se, nb, nf, nk, nw, nv, xa, xb, ya, yb, za, zb, am, cf, sf, bf, ig⟩ ⟨h2, h3⟩
  exact ⟨h2, by rw [upd_ne (by decide)]; exact h3⟩
theorem WG_go {n wk rm : Nat} {mo ma mb mk mt mg : Nat → Int32} (hn : n ≤ 40) : ∀ (f : Nat) (sd : Int32) (rd : Nat) {c : MS}, WG n c → WG n (rGo n wk rm mo ma mb mk mt mg f sd rd c).2 := by
  intro f
  induction f with
  | zero => intro sd rd c hc; exact hc
  | succ f ih =>
    intro sd rd c hc
    rw [rGo_s]
    have h9 : WG n (rMost n (rTk n wk rm mo ma mb mk mt mg sd rd c).2) := WG_most (WG_keep 41 rd (WG_turn hn (WG_tick hc)))
    split
    · split
      · exact hc
      · split
        · exact h9
        · exact ih _ _ h9
    · exact hc
theorem WG_begin {n wk : Nat} : ∀ {c : MS}, (match c with | (td, se, nb, nf, nk, nw, nv, xa, xb, ya, yb, za, zb, am, cf, sf, bf, ig) => ∀ w, w < 16 → cf w = -1 ∨ ∃ k, k < 40 ∧ cf w = nI k) → WG n (rBegin n wk c) := by
  rintro ⟨td, se, nb, nf, nk, nw, nv, xa, xb, ya, yb, za, zb, am, cf, sf, bf, ig⟩ h
  refine ⟨fun w hw => ?_, upd_s _ _ _⟩
  unfold fillTo
  by_cases h9 : w < wk
  · rw [if_pos h9]; exact Or.inl rfl
  · rw [if_neg h9]; exact h w hw
theorem run_WG {n wk rm : Nat} {mo ma mb mk mt mg : Nat → Int32} {seed : Int32} (hn : n ≤ 40) {c : MS} (h : match c with | (td, se, nb, nf, nk, nw, nv, xa, xb, ya, yb, za, zb, am, cf, sf, bf, ig) => ∀ w, w < 16 → cf w = -1 ∨ ∃ k, k < 40 ∧ cf w = nI k) : WG n (rRun n wk rm mo ma mb mk mt mg seed c).2 := WG_go hn 30001 seed 0 (WG_begin h)
theorem go_01 {n wk rm : Nat} {mo ma mb mk mt mg : Nat → Int32} : ∀ (f : Nat) (sd : Int32) (rd : Nat) (c : MS), (rGo n wk rm mo ma mb mk mt mg f sd rd c).1 = 0 ∨ (rGo n wk rm mo ma mb mk mt mg f sd rd c).1 = 1 := by
  intro f
  induction f with
  | zero => intro sd rd c; exact Or.inl rfl
  | succ f ih =>
    intro sd rd c
    rw [rGo_s]
    split
    · split
      · exact Or.inl rfl
      · split
        · exact Or.inl rfl
        · exact ih _ _ _
    · exact Or.inr rfl
