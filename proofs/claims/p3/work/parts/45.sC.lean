def c2 (nv : Nat → Int32) : Nat → Int32
  | 0 => 0
  | k + 1 => c2 nv k + (if nv k = 2 then 1 else 0)
def KR (n : Nat) (ak bk st ra_ ca cb oc ka se ya yb nk td : Nat → Int32) (ra rb ga gb xa xb za zb am : Nat → Int64) (kp : Nat) (an : Int32) : Prop :=
  kp ≤ n ∧ (∀ k, k < n → SK ak bk st ca cb se ya yb ga gb za zb k) ∧ (∀ k, k < n → st k ≠ 0 → ra k = xa k ∧ rb k = xb k) ∧ (∀ k, k < kp → st k = 3) ∧ (∀ k, k ≤ kp → ∀ key, key < 8 → am (8 * k + key) = stnd st ca ak cb bk ga gb (nI key) k) ∧ an = td 3 ∧ (∀ k, k < kp → ka k = nk k) ∧ td 7 = c2 oc kp
theorem SK_upd {ak bk st ca cb se ya yb : Nat → Int32} {ga gb za zb : Nat → Int64} {i j : Nat} {x : Int32} (hx : x = 0 ∨ x = 1 ∨ x = 2 ∨ x = 3) (h : SK ak bk st ca cb se ya yb ga gb za zb j) (h2 : j = i → (x = 2 ∨ x = 3) → st i = 2 ∨ st i = 3) : SK ak bk (upd st i x) ca cb (upd se i x) ya yb ga gb za zb j := by
  by_cases e : j = i
  · subst e
    refine ⟨by rw [upd_s, upd_s], by rw [upd_s]; exact hx, fun hz => ?_⟩
    rw [upd_s] at hz
    exact h.2.2 (h2 rfl hz)
  · refine ⟨by rw [upd_ne e, upd_ne e]; exact h.1, by rw [upd_ne e]; exact h.2.1, fun hz => ?_⟩
    rw [upd_ne e] at hz
    exact h.2.2 hz
theorem stnd_above {ak bk st ca cb : Nat → Int32} {ga gb : Nat → Int64} {key : Int32} {i k : Nat} {x : Int32} (h : k ≤ i) : stnd (upd st i x) ca ak cb bk ga gb key k = stnd st ca ak cb bk ga gb key k := stnd_congr k (fun j hj => ⟨upd_ne (by omega), rfl, rfl, rfl, rfl⟩)
theorem KR_st {n : Nat} {ak bk st u u' ca cb oc ka se ya yb nk td : Nat → Int32} {ra rb ga gb xa xb za zb am : Nat → Int64} {kp : Nat} {an : Int32} (h : KR n ak bk st u ca cb oc ka se ya yb nk td ra rb ga gb xa xb za zb am kp an) : KR n ak bk st u' ca cb oc ka se ya yb nk td ra rb ga gb xa xb za zb am kp an := h
theorem amB_low {am za zb : Nat → Int64} {ya yb ak bk : Nat → Int32} {k j key : Nat} (h : 8 * j + key < 8 * k + 8) : amB am ya yb ak bk za zb k (8 * j + key) = am (8 * j + key) := by
  have h1 : cpyTo am (8 * k) 8 (8 * j + key) = am (8 * j + key) := by unfold cpyTo; rw [if_neg (by omega)]
  have h2 : amA am ya yb ak bk za zb k (8 * j + key) = am (8 * j + key) := by
    unfold amA
    split
    · exact h1
    · unfold vp_updL; rw [if_neg (by omega)]; exact h1
  unfold amB
  split
  · exact h2
  · unfold vp_updL; rw [if_neg (by omega)]; exact h2
theorem keep_sim {n : Nat} {ak bk : Nat → Int32} (hak : ∀ i, i < n → ∃ a, a < 8 ∧ ak i = nI a) (hbk : ∀ i, i < n → ∃ a, a < 8 ∧ bk i = nI a) : ∀ (f : Nat) (kp : Nat) (tk : Int32) (bg : Int32) (an : Int32) (dm : Int32) (uw : Int32) (mu : Int32) (id_ : Int32) (st : Nat → Int32) (sl : Nat → Int32) (ra : Nat → Int64) (rb : Nat → Int64) (ca : Nat → Int32) (cb : Nat → Int32) (ga : Nat → Int64) (gb : Nat → Int64) (oc : Nat → Int32) (tb : Nat → Int32) (fb : Nat → Int32) (ka : Nat → Int32) (eb : Nat → Int32) (sd : Int32) (lf : Nat) (pr : Nat → Int32) (ho : Nat → Int32) (be : Nat → Int32) (td : Nat → Int32) (se : Nat → Int32) (nb : Nat → Int32) (nf : Nat → Int32) (nk : Nat → Int32) (nw : Nat → Int32) (nv : Nat → Int32) (xa : Nat → Int64) (xb : Nat → Int64) (ya : Nat → Int32) (yb : Nat → Int32) (za : Nat → Int64) (zb : Nat → Int64) (am : Nat → Int64) (cf : Nat → Int32) (sf : Nat → Int32) (bf : Nat → Int32) (ig : Nat → Int32), n < kp + f → KR n ak bk st st ca cb nv ka se ya yb nk td ra rb ga gb xa xb za zb am kp an →
    ∃ (kp1 : Nat) (st1 ka1 se1 nk1 td1 : Nat → Int32) (an1 : Int32) (am1 : Nat → Int64), keepF n ak bk f (kp, tk, bg, an, dm, uw, mu, id_, st, sl, ra, rb, ca, cb, ga, gb, oc, tb, fb, ka, eb, sd, lf, pr, ho, be) = (kp1, tk, bg, an1, dm, uw, mu, id_, st1, sl, ra, rb, ca, cb, ga, gb, oc, tb, fb, ka1, eb, sd, lf, pr, ho, be) ∧ rKeep n ak bk tk f kp (td, se, nb, nf, nk, nw, nv, xa, xb, ya, yb, za, zb, am, cf, sf, bf, ig) = (kp1, (td1, se1, nb, nf, nk1, nw, nv, xa, xb, ya, yb, za, zb, am1, cf, sf, bf, ig)) ∧ KR n ak bk st1 st ca cb nv ka1 se1 ya yb nk1 td1 ra rb ga gb xa xb za zb am1 kp1 an1 ∧ (kp1 < n → st1 kp1 ≠ 2) ∧ (∀ j, j ≠ 3 → j ≠ 7 → td1 j = td j) ∧ (∀ k, st k = 1 ↔ st1 k = 1) ∧ (∀ k, st1 k ≠ 0 → st k ≠ 0) := by
  intro f
  induction f with
  | zero => intro kp tk bg an dm uw mu id_ st sl ra rb ca cb ga gb oc tb fb ka eb sd lf pr ho be td se nb nf nk nw nv xa xb ya yb za zb am cf sf bf ig h1 h2; exact absurd h1 (by have := h2.1; omega)
  | succ f ih =>
    intro kp tk bg an dm uw mu id_ st sl ra rb ca cb ga gb oc tb fb ka eb sd lf pr ho be td se nb nf nk nw nv xa xb ya yb za zb am cf sf bf ig h1 hK
    obtain ⟨k1, k2, k3, k4, k5, k6, k7, k8⟩ := id hK
    by_cases hc : kp < n ∧ st kp = 2
    · have hs : se kp = 2 := (k2 kp hc.1).1.symm.trans hc.2
      obtain ⟨r1, r2⟩ := k3 kp hc.1 (by rw [hc.2]; decide)
      obtain ⟨a, ha, ga9⟩ := hak kp hc.1
      obtain ⟨b, hb, gb9⟩ := hbk kp hc.1
      have ea2 : (ak kp).toNatClampNeg = a := by rw [ga9]; exact nI_clamp (by omega)
      have eb2 : (bk kp).toNatClampNeg = b := by rw [gb9]; exact nI_clamp (by omega)
      have qa : am (8 * kp + (ak kp).toNatClampNeg) = stnd st ca ak cb bk ga gb (ak kp) kp := by rw [ea2, k5 kp (Nat.le_refl _) a ha, ga9]
      have qb : am (8 * kp + (bk kp).toNatClampNeg) = stnd st ca ak cb bk ga gb (bk kp) kp := by rw [eb2, k5 kp (Nat.le_refl _) b hb, gb9]
      by_cases hg : ra kp = stnd st ca ak cb bk ga gb (ak kp) kp ∧ rb kp = stnd st ca ak cb bk ga gb (bk kp) kp
      · have hg2 : xa kp = am (8 * kp + (ak kp).toNatClampNeg) ∧ xb kp = am (8 * kp + (bk kp).toNatClampNeg) := by rw [qa, qb, ← r1, ← r2]; exact hg
        have e1 : keepF n ak bk (f + 1) (kp, tk, bg, an, dm, uw, mu, id_, st, sl, ra, rb, ca, cb, ga, gb, oc, tb, fb, ka, eb, sd, lf, pr, ho, be) = keepF n ak bk f (kp + 1, tk, bg, an, dm, uw, mu, id_, upd st kp 3, sl, ra, rb, ca, cb, ga, gb, oc, tb, fb, upd ka kp tk, eb, sd, lf, pr, ho, be) := by simp only [keepF, if_pos hc, if_pos hg]
        have e2 : rKeep n ak bk tk (f + 1) kp (td, se, nb, nf, nk, nw, nv, xa, xb, ya, yb, za, zb, am, cf, sf, bf, ig) = rKeep n ak bk tk f (kp + 1) (upd td 7 (td 7 + (if nv kp = 2 then 1 else 0)), upd se kp 3, nb, nf, upd nk kp tk, nw, nv, xa, xb, ya, yb, za, zb, amB am ya yb ak bk za zb kp, cf, sf, bf, ig) := by simp only [rKeep, if_pos (show kp < n ∧ se kp = 2 from ⟨hc.1, hs⟩), if_pos hg2]
        have hS3 : ∀ k, k < n → SK ak bk (upd st kp 3) ca cb (upd se kp 3) ya yb ga gb za zb k := fun k hk => SK_upd (Or.inr (Or.inr (Or.inr rfl))) (k2 k hk) (fun _ _ => Or.inl hc.2)
        have hN : KR n ak bk (upd st kp 3) st ca cb nv (upd ka kp tk) (upd se kp 3) ya yb (upd nk kp tk) (upd td 7 (td 7 + (if nv kp = 2 then 1 else 0))) ra rb ga gb xa xb za zb (amB am ya yb ak bk za zb kp) (kp + 1) an := by
          refine ⟨hc.1, hS3, fun k hk hz => ?_, fun k hk => ?_, fun k hk key hkey => ?_, ?_, fun k hk => ?_, ?_⟩
          · by_cases e : k = kp
            · subst e; exact ⟨r1, r2⟩
            · rw [upd_ne e] at hz; exact k3 k hk hz
          · by_cases e : k = kp
            · subst e; exact upd_s _ _ _
            · rw [upd_ne e]; exact k4 k (by omega)
          · by_cases e : k = kp + 1
            · subst e
              exact amB_stnd (hS3 kp hc.1) (upd_s _ _ _) ⟨a, ha, ga9⟩ ⟨b, hb, gb9⟩ (fun key hkey => by rw [stnd_above (Nat.le_refl _)]; exact k5 kp (Nat.le_refl _) key hkey) key hkey
            · rw [stnd_above (by omega), ← k5 k (by omega) key hkey]
              exact amB_low (by omega)
          · rw [upd_ne (by decide)]; exact k6
          · by_cases e : k = kp
            · subst e; rw [upd_s, upd_s]
            · rw [upd_ne e, upd_ne e]; exact k7 k (by omega)
          · rw [upd_s, k8]; rfl
        obtain ⟨kp1, st1, ka1, se1, nk1, td1, an1, am1, p1, p2, p3, p4, p5, p6, p7⟩ := ih (kp + 1) tk bg an dm uw mu id_ (upd st kp 3) sl ra rb ca cb ga gb oc tb fb (upd ka kp tk) eb sd lf pr ho be (upd td 7 (td 7 + (if nv kp = 2 then 1 else 0))) (upd se kp 3) nb nf (upd nk kp tk) nw nv xa xb ya yb za zb (amB am ya yb ak bk za zb kp) cf sf bf ig (by omega) (KR_st hN)
        refine ⟨kp1, st1, ka1, se1, nk1, td1, an1, am1, e1.trans p1, e2.trans p2, KR_st p3, p4, fun j h3 h7 => (p5 j h3 h7).trans (upd_ne h7), fun k => ?_, fun k hz => ?_⟩
        · rw [← p6 k]
          by_cases e : k = kp
          · subst e; rw [upd_s, hc.2]; decide
          · rw [upd_ne e]
        · have hz := p7 k hz
          by_cases e : k = kp
          · subst e; rw [hc.2]; decide
          · rw [upd_ne e] at hz; exact hz
      · have hg2 : ¬ (xa kp = am (8 * kp + (ak kp).toNatClampNeg) ∧ xb kp = am (8 * kp + (bk kp).toNatClampNeg)) := by rw [qa, qb, ← r1, ← r2]; exact hg
        refine ⟨kp, upd st kp 0, ka, upd se kp 0, nk, upd td 3 (td 3 + 1), an + 1, am, by simp only [keepF, if_pos hc, if_neg hg], by simp only [rKeep, if_pos (show kp < n ∧ se kp = 2 from ⟨hc.1, hs⟩), if_neg hg2], ?_, fun _ => by rw [upd_s]; decide, fun j h3 _ => upd_ne h3, fun k => ?_, fun k hz => ?_⟩
        · refine ⟨k1, fun k hk => SK_upd (Or.inl rfl) (k2 k hk) (fun _ z => absurd z (by decide)), fun k hk hz => ?_, fun k hk => ?_, fun k hk key hkey => ?_, ?_, k7, ?_⟩
          · by_cases e : k = kp
            · subst e; rw [upd_s] at hz; exact absurd rfl hz
            · rw [upd_ne e] at hz; exact k3 k hk hz
          · rw [upd_ne (by omega)]; exact k4 k hk
          · rw [stnd_above (by omega)]; exact k5 k hk key hkey
          · rw [upd_s, k6]
          · rw [upd_ne (by decide)]; exact k8
        · by_cases e : k = kp
          · subst e; rw [upd_s, hc.2]; decide
          · rw [upd_ne e]
        · by_cases e : k = kp
          · subst e; rw [upd_s] at hz; exact absurd rfl hz
          · rw [upd_ne e] at hz; exact hz
    · have hs : ¬ (kp < n ∧ se kp = 2) := fun z => hc ⟨z.1, (k2 kp z.1).1.trans z.2⟩
      exact ⟨kp, st, ka, se, nk, td, an, am, by simp only [keepF, if_neg hc], by simp only [rKeep, if_neg hs], KR_st hK, fun h z => hc ⟨h, z⟩, fun _ _ _ => rfl, fun _ => Iff.rfl, fun _ h => h⟩
