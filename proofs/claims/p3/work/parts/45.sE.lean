def RR (n wk : Nat) (ak bk sk : Nat → Int32) (t rd : Nat) (sd0 : Int32) (c : CS) (m : MS) : Prop := RT n wk ak bk sk t t rd sd0 c m ∧ (rd < n → csSt c rd ≠ 2)
theorem HDs_st {n wk : Nat} {sk st st' sl ho be cf sf bf : Nat → Int32} (hs : ∀ k, st k = 1 → st' k = 1) (h : HDs n wk sk st sl ho be cf sf bf) : HDs n wk sk st' sl ho be cf sf bf := by
  obtain ⟨hA, hU⟩ := h
  refine ⟨fun v hv => ?_, hU⟩
  obtain ⟨b1, b2, b3⟩ := hA v hv
  refine ⟨b1, b2, ?_⟩
  rcases b3 with y | ⟨k, a, f, z1, z2, z3, z4⟩
  · exact Or.inl y
  · exact Or.inr ⟨k, a, f, z1, z2, hs k z3, z4⟩
theorem pl_all {ig : Nat → Int32} {wk : Nat} (h : ∀ i, i < wk → ig i = 0) : ∀ f w j v, (plF ig wk f w)[j]? = some v → v = w + j
  | 0, w, j, v, z => by simp [plF] at z
  | f + 1, w, j, v, z => by
    unfold plF at z
    by_cases h1 : w < wk
    · rw [if_pos h1, if_pos (h w h1)] at z
      cases j with
      | zero => simp at z; omega
      | succ j =>
        rw [List.getElem?_cons_succ] at z
        have := pl_all h f (w + 1) j v z
        omega
    · rw [if_neg h1] at z; simp at z
theorem tick_sim {n wk rm t rd : Nat} {ak bk sk gn ok ck : Nat → Int32} {sd0 : Int32} (hn : n ≤ 40) (hwk : wk ≤ 16) (hsk : ∀ i, i < n → ∃ j, 1 ≤ j ∧ j ≤ 9 ∧ sk i = nI j) (hak : ∀ i, i < n → ∃ a, a < 8 ∧ ak i = nI a) (hbk : ∀ i, i < n → ∃ a, a < 8 ∧ bk i = nI a) (ht : t < 30000) (kp : Nat) (tk : Int32) (bg : Int32) (an : Int32) (dm : Int32) (uw : Int32) (mu : Int32) (id_ : Int32) (st : Nat → Int32) (sl : Nat → Int32) (ra : Nat → Int64) (rb : Nat → Int64) (ca : Nat → Int32) (cb : Nat → Int32) (ga : Nat → Int64) (gb : Nat → Int64) (oc : Nat → Int32) (tb : Nat → Int32) (fb : Nat → Int32) (ka : Nat → Int32) (eb : Nat → Int32) (sd : Int32) (lf : Nat) (pr : Nat → Int32) (ho : Nat → Int32) (be : Nat → Int32) (td : Nat → Int32) (se : Nat → Int32) (nb : Nat → Int32) (nf : Nat → Int32) (nk : Nat → Int32) (nw : Nat → Int32) (nv : Nat → Int32) (xa : Nat → Int64) (xb : Nat → Int64) (ya : Nat → Int32) (yb : Nat → Int32) (za : Nat → Int64) (zb : Nat → Int64) (am : Nat → Int64) (cf : Nat → Int32) (sf : Nat → Int32) (bf : Nat → Int32) (ig : Nat → Int32) (hrd : rd < n) (hlf : 0 < lf) (hR : RR n wk ak bk sk t rd sd0 (kp, tk, bg, an, dm, uw, mu, id_, st, sl, ra, rb, ca, cb, ga, gb, oc, tb, fb, ka, eb, sd, lf, pr, ho, be) (td, se, nb, nf, nk, nw, nv, xa, xb, ya, yb, za, zb, am, cf, sf, bf, ig)) :
    RR n wk ak bk sk (t + 1) (rTk n wk rm ok ak bk ck sk gn sd0 rd (td, se, nb, nf, nk, nw, nv, xa, xb, ya, yb, za, zb, am, cf, sf, bf, ig)).1 (nxs sd0) (tickF n rm ak bk sk gn ok ck (t + 1) (kp, tk, bg, an, dm, uw, mu, id_, st, sl, ra, rb, ca, cb, ga, gb, oc, tb, fb, ka, eb, sd, lf, pr, ho, be)) (rMost n (rTk n wk rm ok ak bk ck sk gn sd0 rd (td, se, nb, nf, nk, nw, nv, xa, xb, ya, yb, za, zb, am, cf, sf, bf, ig)).2) ∧ (csLf (tickF n rm ak bk sk gn ok ck (t + 1) (kp, tk, bg, an, dm, uw, mu, id_, st, sl, ra, rb, ca, cb, ga, gb, oc, tb, fb, ka, eb, sd, lf, pr, ho, be)) = lf ∨ (rTk n wk rm ok ak bk ck sk gn sd0 rd (td, se, nb, nf, nk, nw, nv, xa, xb, ya, yb, za, zb, am, cf, sf, bf, ig)).1 < n) := by
  obtain ⟨hRT, hst⟩ := hR
  obtain ⟨h1, h2, hK, ⟨s1, s2, s3, s4, s5, s6, s7⟩, hP, hW, hH, hU⟩ := hRT
  have h1 : kp = rd := h1
  have h2 : sd = sd0 := h2
  subst h1
  subst h2
  obtain ⟨w1, w2, d, w3, w4⟩ := id hW
  have hlt : turnI (nxs sd) lf < (plF ig wk 17 0).length := by rw [← w1]; exact Nat.mod_lt _ hlf
  obtain ⟨v, hv⟩ : ∃ v, (plF ig wk 17 0)[turnI (nxs sd) lf]? = some v := ⟨_, List.getElem?_eq_getElem hlt⟩
  have hpi := pl_in ig wk 17 0 v (List.mem_of_getElem? hv)
  have hpr : pr (turnI (nxs sd) lf) = nI v := w2 _ _ hv
  have hd4 : (td 4).toNatClampNeg = d := by rw [← s3, w3]; exact nI_clamp (by omega)
  have ht1 : td 1 + 1 = nI (t + 1) := by rw [s6]; exact nI_1 t
  have hW1 : tickW (tick0 (t + 1) (kp, tk, bg, an, dm, uw, mu, id_, st, sl, ra, rb, ca, cb, ga, gb, oc, tb, fb, ka, eb, sd, lf, pr, ho, be)) = v := by
    show (pr (turnI (nxs sd) lf)).toNatClampNeg = v
    rw [hpr]; exact nI_clamp (by omega)
  have hW2 : rW wk (nxs sd) (rTick0 (td, se, nb, nf, nk, nw, nv, xa, xb, ya, yb, za, zb, am, cf, sf, bf, ig)) = v := by
    show (trn ig wk 17 0 (turnI (nxs sd) (wk - (upd td 1 (td 1 + 1) 4).toNatClampNeg))).getD 0 = v
    rw [upd_ne (by decide), hd4, show wk - d = lf by omega, trn_pl, hv]; rfl
  have hR0 : RT n wk ak bk sk (t + 1) t kp (nxs sd) (kp, nI (t + 1), bg, an, dm, uw, mu, id_, st, sl, ra, rb, ca, cb, ga, gb, oc, tb, fb, ka, eb, nxs sd, lf, pr, ho, be) (upd td 1 (td 1 + 1), se, nb, nf, nk, nw, nv, xa, xb, ya, yb, za, zb, am, cf, sf, bf, ig) := by
    refine ⟨rfl, rfl, KR_td hK (upd_ne (by decide)) (upd_ne (by decide)), ⟨?_, ?_, ?_, ?_, ?_, ?_, ?_⟩, hP, hW, hH, hU⟩
    · rw [upd_s, ht1]
    · rw [upd_ne (by decide)]; exact s2
    · rw [upd_ne (by decide)]; exact s3
    · rw [upd_ne (by decide)]; exact s4
    · rw [upd_ne (by decide)]; exact s5
    · rw [upd_s, ht1]
    · rw [upd_ne (by decide)]; exact s7
  have hT := turn_sim (rm := rm) (gn := gn) (ok := ok) (ck := ck) hn hwk hpi.2.1 ht hsk kp (nI (t + 1)) bg an dm uw mu id_ st sl ra rb ca cb ga gb oc tb fb ka eb (nxs sd) lf pr ho be (upd td 1 (td 1 + 1)) se nb nf nk nw nv xa xb ya yb za zb am cf sf bf ig hpi.2.2 hst hR0
  have hE1 : tickF n rm ak bk sk gn ok ck (t + 1) (kp, tk, bg, an, dm, uw, mu, id_, st, sl, ra, rb, ca, cb, ga, gb, oc, tb, fb, ka, eb, sd, lf, pr, ho, be) = tickE (keepF n ak bk 41 (takeTurnF n rm ak bk sk gn ok ck v (kp, nI (t + 1), bg, an, dm, uw, mu, id_, st, sl, ra, rb, ca, cb, ga, gb, oc, tb, fb, ka, eb, nxs sd, lf, pr, ho, be))) := by
    show tickE (keepF n ak bk 41 (takeTurnF n rm ak bk sk gn ok ck (tickW (tick0 (t + 1) (kp, tk, bg, an, dm, uw, mu, id_, st, sl, ra, rb, ca, cb, ga, gb, oc, tb, fb, ka, eb, sd, lf, pr, ho, be))) (tick0 (t + 1) (kp, tk, bg, an, dm, uw, mu, id_, st, sl, ra, rb, ca, cb, ga, gb, oc, tb, fb, ka, eb, sd, lf, pr, ho, be)))) = _
    rw [hW1]; first | done | rfl
  have hE2 : rTk n wk rm ok ak bk ck sk gn sd kp (td, se, nb, nf, nk, nw, nv, xa, xb, ya, yb, za, zb, am, cf, sf, bf, ig) = rKeep n ak bk (nI (t + 1)) 41 kp (rTurn n rm kp ok ak bk ck sk gn v (nI (t + 1)) (upd td 1 (td 1 + 1), se, nb, nf, nk, nw, nv, xa, xb, ya, yb, za, zb, am, cf, sf, bf, ig)) := by
    show rKeep n ak bk (td 1 + 1) 41 kp (rTurn n rm kp ok ak bk ck sk gn (rW wk (nxs sd) (rTick0 (td, se, nb, nf, nk, nw, nv, xa, xb, ya, yb, za, zb, am, cf, sf, bf, ig))) (td 1 + 1) (rTick0 (td, se, nb, nf, nk, nw, nv, xa, xb, ya, yb, za, zb, am, cf, sf, bf, ig))) = _
    rw [hW2]
    show rKeep n ak bk (td 1 + 1) 41 kp (rTurn n rm kp ok ak bk ck sk gn v (td 1 + 1) (upd td 1 (td 1 + 1), se, nb, nf, nk, nw, nv, xa, xb, ya, yb, za, zb, am, cf, sf, bf, ig)) = _
    rw [ht1]
  rw [hE1, hE2]
  revert hT
  generalize takeTurnF n rm ak bk sk gn ok ck v (kp, nI (t + 1), bg, an, dm, uw, mu, id_, st, sl, ra, rb, ca, cb, ga, gb, oc, tb, fb, ka, eb, nxs sd, lf, pr, ho, be) = c1
  generalize rTurn n rm kp ok ak bk ck sk gn v (nI (t + 1)) (upd td 1 (td 1 + 1), se, nb, nf, nk, nw, nv, xa, xb, ya, yb, za, zb, am, cf, sf, bf, ig) = m1
  obtain ⟨kp1, tk1, bg1, an1, dm1, uw1, mu1, id_1, st1, sl1, ra1, rb1, ca1, cb1, ga1, gb1, oc1, tb1, fb1, ka1, eb1, sd1, lf1, pr1, ho1, be1⟩ := c1
  obtain ⟨td1, se1, nb1, nf1, nk1, nw1, nv1, xa1, xb1, ya1, yb1, za1, zb1, am1, cf1, sf1, bf1, ig1⟩ := m1
  rintro ⟨⟨g1, g2, gK, ⟨u1, u2, u3, u4, u5, u6, u7⟩, gP, gW, gH, gU⟩, hor⟩
  have g1 : kp1 = kp := g1
  subst g1
  have hk1 : tk1 = nI (t + 1) := u1.trans u6
  subst hk1
  obtain ⟨kp2, st2, ka2, se2, nk2, td2, an2, am2, p1, p2, p3, p4, p5, p6, p7⟩ := keep_sim hak hbk 41 kp1 (nI (t + 1)) bg1 an1 dm1 uw1 mu1 id_1 st1 sl1 ra1 rb1 ca1 cb1 ga1 gb1 oc1 tb1 fb1 ka1 eb1 sd1 lf1 pr1 ho1 be1 td1 se1 nb1 nf1 nk1 nw1 nv1 xa1 xb1 ya1 yb1 za1 zb1 am1 cf1 sf1 bf1 ig1 (by omega) gK
  have hor2 : csLf (kp1, nI (t + 1), bg1, an1, dm1, uw1, mu1, id_1, st1, sl1, ra1, rb1, ca1, cb1, ga1, gb1, oc1, tb1, fb1, ka1, eb1, sd1, lf1, pr1, ho1, be1) = lf ∨ kp2 < n := by
    rcases hor with z | ⟨z1, z2⟩
    · exact Or.inl z
    · have hz : ¬ (kp1 < n ∧ se1 kp1 = 2) := fun q => z2 ((gK.2.1 kp1 q.1).1.trans q.2)
      have p9 : rKeep n ak bk (nI (t + 1)) 41 kp1 (td1, se1, nb1, nf1, nk1, nw1, nv1, xa1, xb1, ya1, yb1, za1, zb1, am1, cf1, sf1, bf1, ig1) = (kp1, (td1, se1, nb1, nf1, nk1, nw1, nv1, xa1, xb1, ya1, yb1, za1, zb1, am1, cf1, sf1, bf1, ig1)) := by simp only [rKeep, if_neg hz]
      rw [p2] at p9
      have e9 : kp2 = kp1 := congrArg Prod.fst p9
      rw [e9]; exact Or.inr z1
  rw [p1, p2]
  have hcn : cnt1 st1 n = cnt1 st2 n := cnt1_congr n (fun i _ => p6 i)
  have huw : uwC se2 n 41 0 0 = uw1 := by
    have h0 := uwC_cnt se2 n 41 0 (Nat.zero_le _) (by omega)
    have e9 : cnt1 se2 n = cnt1 st2 n := cnt1_congr n (fun i hi => by rw [(p3.2.1 i hi).1])
    rw [gU, hcn, ← e9]; exact h0
  refine ⟨⟨⟨rfl, g2, KR_td (KR_st p3) (upd_ne (by decide)) (upd_ne (by decide)), ⟨?_, ?_, ?_, ?_, ?_, ?_, ?_⟩, PCs_st p7 gP, gW, HDs_st (fun k => (p6 k).mp) gH, by rw [gU, hcn]⟩, p4⟩, hor2⟩
  · rw [upd_ne (by decide), p5 1 (by decide) (by decide)]; exact u6.symm
  · rw [upd_ne (by decide), p5 2 (by decide) (by decide)]; exact u2
  · rw [upd_ne (by decide), p5 4 (by decide) (by decide)]; exact u3
  · rw [upd_s, huw, p5 5 (by decide) (by decide), ← u4]
  · rw [upd_ne (by decide), p5 6 (by decide) (by decide)]; exact u5
  · rw [upd_ne (by decide), p5 1 (by decide) (by decide)]; exact u6
  · rw [upd_ne (by decide), p5 0 (by decide) (by decide)]; exact u7
theorem goF_stop {n rm : Nat} {ak bk sk gn ok ck : Nat → Int32} : ∀ (f t : Nat) (c : CS), ¬ (t ≤ 30000 ∧ csKp c < n ∧ 0 < csLf c) → goF n rm ak bk sk gn ok ck f t c = c
  | 0, _, _, _ => rfl
  | f + 1, t, (kp, tk, bg, an, dm, uw, mu, id_, st, sl, ra, rb, ca, cb, ga, gb, oc, tb, fb, ka, eb, sd, lf, pr, ho, be), h => by
    unfold goF
    exact if_neg h
theorem goF_go {n rm : Nat} {ak bk sk gn ok ck : Nat → Int32} (f t : Nat) : ∀ (c : CS), (t ≤ 30000 ∧ csKp c < n ∧ 0 < csLf c) → goF n rm ak bk sk gn ok ck (f + 1) t c = goF n rm ak bk sk gn ok ck f (t + 1) (tickF n rm ak bk sk gn ok ck t c) := by
  rintro ⟨kp, tk, bg, an, dm, uw, mu, id_, st, sl, ra, rb, ca, cb, ga, gb, oc, tb, fb, ka, eb, sd, lf, pr, ho, be⟩ h
  conv => lhs; unfold goF
  exact if_pos h
theorem RR_kp {n wk t rd : Nat} {ak bk sk : Nat → Int32} {sd0 : Int32} : ∀ {c : CS} {m : MS}, RR n wk ak bk sk t rd sd0 c m → csKp c = rd ∧ rd ≤ n ∧ m.1 1 = nI t := by
  rintro ⟨kp, tk, bg, an, dm, uw, mu, id_, st, sl, ra, rb, ca, cb, ga, gb, oc, tb, fb, ka, eb, sd, lf, pr, ho, be⟩ ⟨td, se, nb, nf, nk, nw, nv, xa, xb, ya, yb, za, zb, am, cf, sf, bf, ig⟩ ⟨⟨h1, h2, hK, ⟨s1, s2, s3, s4, s5, s6, s7⟩, h5⟩, h6⟩
  have h1 : kp = rd := h1
  subst h1
  exact ⟨rfl, hK.1, s6⟩
theorem RR_gone {n wk t rd : Nat} {ak bk sk : Nat → Int32} {sd0 : Int32} (hwk : wk ≤ 16) : ∀ {c : CS} {m : MS}, RR n wk ak bk sk t rd sd0 c m → (m.1 4 = nI wk ↔ csLf c = 0) := by
  rintro ⟨kp, tk, bg, an, dm, uw, mu, id_, st, sl, ra, rb, ca, cb, ga, gb, oc, tb, fb, ka, eb, sd, lf, pr, ho, be⟩ ⟨td, se, nb, nf, nk, nw, nv, xa, xb, ya, yb, za, zb, am, cf, sf, bf, ig⟩ ⟨⟨h1, h2, hK, ⟨s1, s2, s3, s4, s5, s6, s7⟩, h5, ⟨w1, w2, d, w3, w4⟩, h7⟩, h6⟩
  show td 4 = nI wk ↔ lf = 0
  rw [← s3, w3]
  constructor
  · intro z
    have := (nI_eq (a := d) (b := wk) (by omega) (by omega)).mp z
    omega
  · intro z
    rw [show d = wk by omega]
theorem go_sim {n wk rm : Nat} {ak bk sk gn ok ck : Nat → Int32} (hn : n ≤ 40) (hwk : wk ≤ 16) (hsk : ∀ i, i < n → ∃ j, 1 ≤ j ∧ j ≤ 9 ∧ sk i = nI j) (hak : ∀ i, i < n → ∃ a, a < 8 ∧ ak i = nI a) (hbk : ∀ i, i < n → ∃ a, a < 8 ∧ bk i = nI a) : ∀ (f t rd : Nat) (sd0 : Int32) (c : CS) (m : MS), f + t = 30001 → t ≤ 30000 → RR n wk ak bk sk t rd sd0 c m → (rd < n → 0 < csLf c) →
    ((rGo n wk rm ok ak bk ck sk gn f sd0 rd m).1 = 1 ∧ ∃ t1 sd1, t1 ≤ 30000 ∧ RR n wk ak bk sk t1 n sd1 (goF n rm ak bk sk gn ok ck f (t + 1) c) (rGo n wk rm ok ak bk ck sk gn f sd0 rd m).2) ∨ ((rGo n wk rm ok ak bk ck sk gn f sd0 rd m).1 = 0 ∧ csKp (goF n rm ak bk sk gn ok ck f (t + 1) c) < n) := by
  intro f
  induction f with
  | zero => intro t rd sd0 c m h1 h2; exact absurd h1 (by omega)
  | succ f ih =>
    intro t rd sd0 c m h1 h2 hR hlf
    obtain ⟨hkp, hle, ht1⟩ := RR_kp hR
    rw [rGo_s]
    by_cases hrd : rd < n
    · rw [if_pos hrd]
      by_cases h3 : t = 30000
      · have e9 : m.1 1 = 30000 := by rw [ht1, h3]; rfl
        rw [if_pos e9, goF_stop (f + 1) (t + 1) c (by omega)]
        exact Or.inr ⟨rfl, by rw [hkp]; exact hrd⟩
      · have e9 : ¬ m.1 1 = 30000 := by rw [ht1]; exact fun z => h3 ((nI_eq (a := t) (b := 30000) (by omega) (by decide)).mp z)
        rw [if_neg e9, goF_go f (t + 1) c ⟨by omega, by omega, hlf hrd⟩]
        have hT : RR n wk ak bk sk (t + 1) (rTk n wk rm ok ak bk ck sk gn sd0 rd m).1 (nxs sd0) (tickF n rm ak bk sk gn ok ck (t + 1) c) (rMost n (rTk n wk rm ok ak bk ck sk gn sd0 rd m).2) ∧ (csLf (tickF n rm ak bk sk gn ok ck (t + 1) c) = csLf c ∨ (rTk n wk rm ok ak bk ck sk gn sd0 rd m).1 < n) := by
          have hl := hlf hrd
          obtain ⟨kp, tk, bg, an, dm, uw, mu, id_, st, sl, ra, rb, ca, cb, ga, gb, oc, tb, fb, ka, eb, sd, lf, pr, ho, be⟩ := c
          obtain ⟨td, se, nb, nf, nk, nw, nv, xa, xb, ya, yb, za, zb, am, cf, sf, bf, ig⟩ := m
          exact tick_sim hn hwk hsk hak hbk (by omega) kp tk bg an dm uw mu id_ st sl ra rb ca cb ga gb oc tb fb ka eb sd lf pr ho be td se nb nf nk nw nv xa xb ya yb za zb am cf sf bf ig hrd hl hR
        revert hT
        generalize rMost n (rTk n wk rm ok ak bk ck sk gn sd0 rd m).2 = m2
        generalize (rTk n wk rm ok ak bk ck sk gn sd0 rd m).1 = rd1
        generalize tickF n rm ak bk sk gn ok ck (t + 1) c = c1
        rintro ⟨hR1, hor⟩
        by_cases h5 : m2.1 4 = nI wk
        · rw [if_pos h5]
          have hl0 := (RR_gone hwk hR1).mp h5
          have hl := hlf hrd
          rcases hor with z | z
          · exact absurd z (by omega)
          · rw [goF_stop f (t + 1 + 1) c1 (by omega)]
            exact Or.inr ⟨rfl, by rw [(RR_kp hR1).1]; exact z⟩
        · rw [if_neg h5]
          exact ih (t + 1) rd1 (nxs sd0) c1 m2 (by omega) (by omega) hR1 (fun _ => Nat.pos_of_ne_zero (fun z => h5 ((RR_gone hwk hR1).mpr z)))
    · have e9 : rd = n := by omega
      rw [if_neg hrd, goF_stop (f + 1) (t + 1) c (by omega)]
      rw [e9] at hR
      exact Or.inl ⟨rfl, t, sd0, h2, hR⟩
theorem fill_lt {α : Type} {f : Nat → α} {k j : Nat} {v : α} (h : j < k) : fillTo f k v j = v := by unfold fillTo; rw [if_pos h]
theorem run_sim {n wk rm : Nat} {ak bk sk gn ok ck : Nat → Int32} {seed : Int32} (hn : n ≤ 40) (hwk : wk ≤ 16) (hsk : ∀ i, i < n → ∃ j, 1 ≤ j ∧ j ≤ 9 ∧ sk i = nI j) (hak : ∀ i, i < n → ∃ a, a < 8 ∧ ak i = nI a) (hbk : ∀ i, i < n → ∃ a, a < 8 ∧ bk i = nI a) (hw1 : 1 ≤ wk) (kp : Nat) (tk : Int32) (bg : Int32) (an : Int32) (dm : Int32) (uw : Int32) (mu : Int32) (id_ : Int32) (st : Nat → Int32) (sl : Nat → Int32) (ra : Nat → Int64) (rb : Nat → Int64) (ca : Nat → Int32) (cb : Nat → Int32) (ga : Nat → Int64) (gb : Nat → Int64) (oc : Nat → Int32) (tb : Nat → Int32) (fb : Nat → Int32) (ka : Nat → Int32) (eb : Nat → Int32) (sd : Int32) (lf : Nat) (pr : Nat → Int32) (ho : Nat → Int32) (be : Nat → Int32) (td : Nat → Int32) (se : Nat → Int32) (nb : Nat → Int32) (nf : Nat → Int32) (nk : Nat → Int32) (nw : Nat → Int32) (nv : Nat → Int32) (xa : Nat → Int64) (xb : Nat → Int64) (ya : Nat → Int32) (yb : Nat → Int32) (za : Nat → Int64) (zb : Nat → Int64) (am : Nat → Int64) (cf : Nat → Int32) (sf : Nat → Int32) (bf : Nat → Int32) (ig : Nat → Int32) :
    ((rRun n wk rm ok ak bk ck sk gn seed (td, se, nb, nf, nk, nw, nv, xa, xb, ya, yb, za, zb, am, cf, sf, bf, ig)).1 = 1 ∧ ∃ t1 sd1, t1 ≤ 30000 ∧ RR n wk ak bk sk t1 n sd1 (runF n rm ak bk sk gn ok ck wk seed (kp, tk, bg, an, dm, uw, mu, id_, st, sl, ra, rb, ca, cb, ga, gb, oc, tb, fb, ka, eb, sd, lf, pr, ho, be)) (rRun n wk rm ok ak bk ck sk gn seed (td, se, nb, nf, nk, nw, nv, xa, xb, ya, yb, za, zb, am, cf, sf, bf, ig)).2) ∨ ((rRun n wk rm ok ak bk ck sk gn seed (td, se, nb, nf, nk, nw, nv, xa, xb, ya, yb, za, zb, am, cf, sf, bf, ig)).1 = 0 ∧ csKp (runF n rm ak bk sk gn ok ck wk seed (kp, tk, bg, an, dm, uw, mu, id_, st, sl, ra, rb, ca, cb, ga, gb, oc, tb, fb, ka, eb, sd, lf, pr, ho, be)) < n) := by
  refine go_sim hn hwk hsk hak hbk 30001 0 0 seed (prepF wk seed (kp, tk, bg, an, dm, uw, mu, id_, st, sl, ra, rb, ca, cb, ga, gb, oc, tb, fb, ka, eb, sd, lf, pr, ho, be)) (rBegin n wk (td, se, nb, nf, nk, nw, nv, xa, xb, ya, yb, za, zb, am, cf, sf, bf, ig)) rfl (by omega) ?_ (fun _ => hw1)
  have hig : ∀ i, i < wk → fillTo ig wk (0 : Int32) i = 0 := fun i hi => fill_lt hi
  have hl := pl_len (fillTo ig wk 0) wk 17 0 (Nat.zero_le _) (by omega)
  rw [cnt_fill ig wk wk (Nat.le_refl _), cnt_fill ig wk 0 (Nat.zero_le _)] at hl
  have h40 : ∀ k, k < n → fillTo st 40 (0 : Int32) k = 0 := fun k hk => fill_lt (by omega)
  refine ⟨⟨rfl, rfl, ⟨Nat.zero_le _, fun k hk => ⟨?_, Or.inl (h40 k hk), fun z => ?_⟩, fun k hk z => absurd (h40 k hk) z, fun k hk => absurd hk (by omega), fun k hk key hkey => ?_, ?_, fun k hk => absurd hk (by omega), ?_⟩, ⟨?_, ?_, ?_, ?_, ?_, ?_, ?_⟩, fun k hk => ⟨?_, ?_, ?_, ⟨0, Nat.le_refl _, ?_⟩, ?_, fun z => absurd (fill_lt hk) z, fun z => absurd (h40 k hk) z⟩, ⟨?_, fun j v hj => ?_, 0, rfl, Nat.zero_add _⟩, ⟨fun w hw => ⟨?_, ?_, Or.inl (fill_lt hw)⟩, fun w v hw hv _ z => absurd (fill_lt hw) z⟩, ?_⟩, fun hz => ?_⟩
  · rw [h40 k hk, fill_lt hk]
  · rw [h40 k hk] at z; exact absurd z (by decide)
  · obtain rfl : k = 0 := by omega
    exact fill_lt (by omega)
  · rw [upd_ne (by decide), fill_lt (by decide)]
  · rw [upd_ne (by decide), fill_lt (by decide)]; rfl
  · rw [upd_ne (by decide), fill_lt (by decide)]
  · rw [upd_ne (by decide), fill_lt (by decide)]
  · rw [upd_ne (by decide), fill_lt (by decide)]
  · rw [upd_ne (by decide), fill_lt (by decide)]
  · rw [upd_ne (by decide), fill_lt (by decide)]
  · rw [upd_ne (by decide), fill_lt (by decide)]; rfl
  · exact upd_s _ _ _
  · rw [fill_lt (show k < 40 by omega), fill_lt hk]
  · rw [fill_lt (show k < 40 by omega), fill_lt hk]
  · rw [fill_lt (show k < 40 by omega), fill_lt hk]
  · exact fill_lt hk
  · rw [fill_lt hk, fill_lt hk]
  · omega
  · have e9 := pl_all hig 17 0 j v hj
    have e8 := (List.getElem?_eq_some_iff.mp hj).1
    unfold mapTo
    rw [if_pos (by omega), show v = j by omega]
  · rw [fill_lt hw, fill_lt hw]
  · rw [fill_lt hw, fill_lt hw]
  · rw [cnt1_0 n h40]; rfl
  · show fillTo st 40 (0 : Int32) 0 ≠ 2
    rw [fill_lt (by decide)]; decide
