abbrev CS : Type := Nat × Int32 × Int32 × Int32 × Int32 × Int32 × Int32 × Int32 × (Nat → Int32) × (Nat → Int32) × (Nat → Int64) × (Nat → Int64) × (Nat → Int32) × (Nat → Int32) × (Nat → Int64) × (Nat → Int64) × (Nat → Int32) × (Nat → Int32) × (Nat → Int32) × (Nat → Int32) × (Nat → Int32) × Int32 × Nat × (Nat → Int32) × (Nat → Int32) × (Nat → Int32)
def lsN (st : Nat → Int32) (en : Nat) : Nat → Nat → Option Nat
  | 0, _ => none
  | n + 1, k => if k < en then (if st k = 0 then some k else lsN st en n (k + 1)) else none
theorem lsN_O (st : Nat → Int32) (en : Nat) : ∀ n k, lstO st en n k = (match lsN st en n k with | none => -1 | some j => nI j)
  | 0, _ => rfl
  | n + 1, k => by
    unfold lstO lsN
    by_cases h : k < en
    · by_cases h2 : st k = 0
      · simp [h, h2]
      · simp [h, h2, lsN_O st en n (k + 1)]
    · simp [h]
theorem lsN_in {st : Nat → Int32} {en : Nat} : ∀ {n k j : Nat}, lsN st en n k = some j → k ≤ j ∧ j < en ∧ st j = 0
  | 0, _, _, h => by simp [lsN] at h
  | n + 1, k, j, h => by
    unfold lsN at h
    by_cases h1 : k < en
    · by_cases h2 : st k = 0
      · simp [h1, h2] at h
        subst h
        exact ⟨Nat.le_refl _, h1, h2⟩
      · simp [h1, h2] at h
        have := lsN_in h
        exact ⟨by omega, this.2⟩
    · simp [h1] at h
def dsm (lf : Nat) (w : Int32) : Nat → Nat → Nat → (Nat → Int32) → (Nat → Int32) × Nat
  | 0, _, t, f => (f, t)
  | n + 1, k, t, f => if k < lf then (if f k = w then dsm lf w n (k + 1) t f else dsm lf w n (k + 1) (t + 1) (upd f t (f k))) else (f, t)
def takeCallF (cl rm : Nat) (ak bk sk gn : Nat → Int32) (w : Nat) : CS → CS
  | (kp, tk, bg, an, dm, uw, mu, id_, st, sl, ra, rb, ca, cb, ga, gb, oc, tb, fb, ka, eb, sd, lf, pr, ho, be) =>
    match lsN st (min cl (kp + rm)) 41 kp with
    | none => (kp, tk, bg, an, dm, uw, mu, id_ + 1, st, sl, ra, rb, ca, cb, ga, gb, oc, tb, fb, ka, eb, sd, lf, pr, ho, be)
    | some j =>
      if be w + 1 = gn w then (kp, tk, bg + 1, an, dm + 1, uw, mu, id_, st, sl, ra, rb, ca, cb, ga, gb, oc, upd tb j (tb j + 1), (if tb j = 0 then upd fb j tk else fb), ka, eb, sd, (dsm lf (nI w) 17 0 0 pr).2, (dsm lf (nI w) 17 0 0 pr).1, ho, upd be w (be w + 1))
      else (kp, tk, bg + 1, an, dm, uw + 1, mu, id_, upd st j 1, upd sl j (sk j), vp_updL ra j (stnd (upd st j 1) ca ak cb bk ga gb (ak j) j), vp_updL rb j (stnd (upd st j 1) ca ak cb bk ga gb (bk j) j), ca, cb, ga, gb, oc, upd tb j (tb j + 1), (if tb j = 0 then upd fb j tk else fb), ka, eb, sd, lf, pr, upd ho w (nI j), upd be w (be w + 1))
def stepF (ak bk ok ck : Nat → Int32) (k w : Nat) : CS → CS
  | (kp, tk, bg, an, dm, uw, mu, id_, st, sl, ra, rb, ca, cb, ga, gb, oc, tb, fb, ka, eb, sd, lf, pr, ho, be) =>
    if 0 < sl k - 1 then (kp, tk, bg, an, dm, uw, mu, id_, st, upd sl k (sl k - 1), ra, rb, ca, cb, ga, gb, oc, tb, fb, ka, eb, sd, lf, pr, ho, be)
    else (kp, tk, bg, an, dm, uw - 1, mu, id_, upd st k 2, upd sl k (sl k - 1), ra, rb, upd ca k (wChA (ok k) (ak k) (bk k) (ra k) (Int32.toInt64 (ck k))), upd cb k (wChB (ok k) (ak k) (bk k) (ra k) (rb k) (Int32.toInt64 (ck k))), (if (wChA (ok k) (ak k) (bk k) (ra k) (Int32.toInt64 (ck k))) = 1 then vp_updL ga k (wGA (ok k) (ra k) (rb k) (Int32.toInt64 (ck k))) else ga), (if (wChB (ok k) (ak k) (bk k) (ra k) (rb k) (Int32.toInt64 (ck k))) = 1 then vp_updL gb k (wGB (ok k) (ra k) (rb k) (Int32.toInt64 (ck k))) else gb), upd oc k (wOut (ok k) (ra k) (rb k) (Int32.toInt64 (ck k))), tb, fb, ka, upd eb k (nI w), sd, lf, pr, upd ho w (-1), be)
def takeTurnF (cl rm : Nat) (ak bk sk gn ok ck : Nat → Int32) (w : Nat) : CS → CS
  | (kp, tk, bg, an, dm, uw, mu, id_, st, sl, ra, rb, ca, cb, ga, gb, oc, tb, fb, ka, eb, sd, lf, pr, ho, be) => if ho w = -1 then takeCallF cl rm ak bk sk gn w (kp, tk, bg, an, dm, uw, mu, id_, st, sl, ra, rb, ca, cb, ga, gb, oc, tb, fb, ka, eb, sd, lf, pr, ho, be) else stepF ak bk ok ck (ho w).toNatClampNeg w (kp, tk, bg, an, dm, uw, mu, id_, st, sl, ra, rb, ca, cb, ga, gb, oc, tb, fb, ka, eb, sd, lf, pr, ho, be)
def keepF (cl : Nat) (ak bk : Nat → Int32) : Nat → CS → CS
  | 0, c => c
  | n + 1, (kp, tk, bg, an, dm, uw, mu, id_, st, sl, ra, rb, ca, cb, ga, gb, oc, tb, fb, ka, eb, sd, lf, pr, ho, be) =>
    if kp < cl ∧ st kp = 2 then
      if ra kp = stnd st ca ak cb bk ga gb (ak kp) kp ∧ rb kp = stnd st ca ak cb bk ga gb (bk kp) kp then keepF cl ak bk n (kp + 1, tk, bg, an, dm, uw, mu, id_, upd st kp 3, sl, ra, rb, ca, cb, ga, gb, oc, tb, fb, upd ka kp tk, eb, sd, lf, pr, ho, be)
      else (kp, tk, bg, an + 1, dm, uw, mu, id_, upd st kp 0, sl, ra, rb, ca, cb, ga, gb, oc, tb, fb, ka, eb, sd, lf, pr, ho, be)
    else (kp, tk, bg, an, dm, uw, mu, id_, st, sl, ra, rb, ca, cb, ga, gb, oc, tb, fb, ka, eb, sd, lf, pr, ho, be)
def nxs (sd : Int32) : Int32 := sd * 1103515245 + 12345
def turnI (sd : Int32) (n : Nat) : Nat := (sd.toBitVec.toNat / 2 ^ 16) % n
def tick0 (t : Nat) : CS → CS
  | (kp, tk, bg, an, dm, uw, mu, id_, st, sl, ra, rb, ca, cb, ga, gb, oc, tb, fb, ka, eb, sd, lf, pr, ho, be) => (kp, nI t, bg, an, dm, uw, mu, id_, st, sl, ra, rb, ca, cb, ga, gb, oc, tb, fb, ka, eb, nxs sd, lf, pr, ho, be)
def tickW : CS → Nat
  | (kp, tk, bg, an, dm, uw, mu, id_, st, sl, ra, rb, ca, cb, ga, gb, oc, tb, fb, ka, eb, sd, lf, pr, ho, be) => (pr (turnI sd lf)).toNatClampNeg
def tickE : CS → CS
  | (kp, tk, bg, an, dm, uw, mu, id_, st, sl, ra, rb, ca, cb, ga, gb, oc, tb, fb, ka, eb, sd, lf, pr, ho, be) => (kp, tk, bg, an, dm, uw, (if mu < uw then uw else mu), id_, st, sl, ra, rb, ca, cb, ga, gb, oc, tb, fb, ka, eb, sd, lf, pr, ho, be)
def tickF (cl rm : Nat) (ak bk sk gn ok ck : Nat → Int32) (t : Nat) (c : CS) : CS := tickE (keepF cl ak bk 41 (takeTurnF cl rm ak bk sk gn ok ck (tickW (tick0 t c)) (tick0 t c)))
def goF (cl rm : Nat) (ak bk sk gn ok ck : Nat → Int32) : Nat → Nat → CS → CS
  | 0, _, c => c
  | n + 1, t, (kp, tk, bg, an, dm, uw, mu, id_, st, sl, ra, rb, ca, cb, ga, gb, oc, tb, fb, ka, eb, sd, lf, pr, ho, be) => if t ≤ 30000 ∧ kp < cl ∧ 0 < lf then goF cl rm ak bk sk gn ok ck n (t + 1) (tickF cl rm ak bk sk gn ok ck t (kp, tk, bg, an, dm, uw, mu, id_, st, sl, ra, rb, ca, cb, ga, gb, oc, tb, fb, ka, eb, sd, lf, pr, ho, be)) else (kp, tk, bg, an, dm, uw, mu, id_, st, sl, ra, rb, ca, cb, ga, gb, oc, tb, fb, ka, eb, sd, lf, pr, ho, be)
def prepF (wk : Nat) (seed : Int32) : CS → CS
  | (kp, tk, bg, an, dm, uw, mu, id_, st, sl, ra, rb, ca, cb, ga, gb, oc, tb, fb, ka, eb, sd, lf, pr, ho, be) => (0, 0, 0, 0, 0, 0, 0, 0, fillTo st 40 0, sl, ra, rb, ca, cb, ga, gb, fillTo oc 40 0, fillTo tb 40 0, fillTo fb 40 (-1), fillTo ka 40 (-1), fillTo eb 40 (-1), seed, wk, mapTo pr wk nI, fillTo ho wk (-1), fillTo be wk 0)
def runF (cl rm : Nat) (ak bk sk gn ok ck : Nat → Int32) (wk : Nat) (seed : Int32) (c : CS) : CS := goF cl rm ak bk sk gn ok ck 30001 1 (prepF wk seed c)
theorem x_ushr16 (x : Int32) : (x.toUInt32 >>> ((16 : Int32).toUInt32 &&& Int32.toUInt32 31)).toInt32 = nI (x.toBitVec.toNat / 2 ^ 16) := by
  have h1 := pk_ushr x 16 16 (by decide)
  have hlt : x.toBitVec.toNat / 2 ^ 16 < 2 ^ 32 := Nat.lt_of_le_of_lt (Nat.div_le_self _ _) x.toBitVec.isLt
  have h2 := pk_tn hlt
  apply Int32.toBitVec_inj.mp
  apply BitVec.eq_of_toNat_eq
  rw [h1, h2]
theorem ushr_lt (x : Int32) : x.toBitVec.toNat / 2 ^ 16 < 2 ^ 31 := by
  have := x.toBitVec.isLt
  omega
theorem nI_ne_m1 {j : Nat} (h : j < 2 ^ 31) : ¬ nI j = -1 := by
  intro q
  have a := nI_toInt h
  rw [q] at a
  have : (-1 : Int32).toInt = -1 := by decide
  omega
theorem min_I {a b : Nat} (ha : a < 2 ^ 31) (hb : b < 2 ^ 31) : (if nI b < nI a then nI b else nI a) = nI (min a b) := by
  by_cases h : b < a
  · rw [if_pos (nI_lt h ha), Nat.min_eq_right (Nat.le_of_lt h)]
  · rw [if_neg (nI_nlt (Nat.le_of_not_lt h) hb), Nat.min_eq_left (Nat.le_of_not_lt h)]
