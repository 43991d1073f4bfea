theorem vL_s (f : Nat → Int64) (k : Nat) (a : Int64) : vp_updL f k a k = a := by simp [vp_updL]
theorem vL_ne {f : Nat → Int64} {k j : Nat} {x : Int64} (h : j ≠ k) : vp_updL f k x j = f j := by simp [vp_updL, h]
theorem nI_s1 (a : Nat) : nI (a + 1) - 1 = nI a := by rw [← nI_1]; exact Int32.add_sub_cancel _ _
theorem c2_upd {nv : Nat → Int32} {k : Nat} {x : Int32} : ∀ j, j ≤ k → c2 (upd nv k x) j = c2 nv j
  | 0, _ => rfl
  | j + 1, h => by
    unfold c2
    rw [c2_upd j (by omega), upd_ne (by omega)]
theorem lsN_congr {st se : Nat → Int32} {en : Nat} (h : ∀ i, i < en → st i = se i) : ∀ n k, lsN st en n k = lsN se en n k
  | 0, _ => rfl
  | n + 1, k => by
    unfold lsN
    by_cases h1 : k < en
    · rw [if_pos h1, if_pos h1, h k h1, lsN_congr h n (k + 1)]
    · rw [if_neg h1, if_neg h1]
theorem wChA_01 (op a b : Int32) (x c : Int64) : wChA op a b x c = 0 ∨ (wChA op a b x c = 1 ∧ ((op = 2 ∧ a ≠ b) ∨ op = 4)) := by
  unfold wChA
  by_cases h2 : op = 2
  · rw [if_pos h2]
    by_cases h : (x < c ∨ c < 0) ∨ a = b
    · rw [if_pos h]; exact Or.inl rfl
    · rw [if_neg h]; exact Or.inr ⟨rfl, Or.inl ⟨h2, fun e => h (Or.inr e)⟩⟩
  · rw [if_neg h2]
    by_cases h4 : op = 4
    · rw [if_pos h4]; exact Or.inr ⟨rfl, Or.inr h4⟩
    · rw [if_neg h4]; exact Or.inl rfl
theorem wChB_01 (op a b : Int32) (x y c : Int64) : wChB op a b x y c = 0 ∨ (wChB op a b x y c = 1 ∧ op ≠ 3) := by
  unfold wChB
  by_cases h0 : op = 0
  · rw [if_pos h0]; exact Or.inr ⟨rfl, by rw [h0]; decide⟩
  rw [if_neg h0]
  by_cases h1 : op = 1
  · rw [if_pos h1]; exact Or.inr ⟨rfl, by rw [h1]; decide⟩
  rw [if_neg h1]
  by_cases h2 : op = 2
  · rw [if_pos h2]
    by_cases h : (x < c ∨ c < 0) ∨ a = b
    · rw [if_pos h]; exact Or.inl rfl
    · rw [if_neg h]; exact Or.inr ⟨rfl, by rw [h2]; decide⟩
  rw [if_neg h2]
  by_cases h3 : op = 3
  · rw [if_pos h3]; exact Or.inl rfl
  rw [if_neg h3]
  by_cases h4 : op = 4
  · rw [if_pos h4]; exact Or.inr ⟨rfl, h3⟩
  rw [if_neg h4]
  by_cases h5 : x = y
  · rw [if_pos h5]; exact Or.inr ⟨rfl, h3⟩
  · rw [if_neg h5]; exact Or.inl rfl
theorem wGA_4 (x y c : Int64) : wGA 4 x y c = y := by unfold wGA; rw [if_neg (by decide)]
theorem wGB_4 (x y c : Int64) : wGB 4 x y c = x := by unfold wGB; rw [if_neg (by decide), if_neg (by decide), if_neg (by decide), if_pos rfl]
theorem iteL {P : Prop} [Decidable P] {f : Nat → Int64} {k i : Nat} {x : Int64} (h : i ≠ k) : (if P then vp_updL f k x else f) i = f i := by
  split
  · exact vL_ne h
  · rfl
theorem iteL2 {P : Prop} [Decidable P] {f : Nat → Int64} {k i : Nat} {x : Int64} (h : i ≠ k) : (if P then f else vp_updL f k x) i = f i := by
  split
  · rfl
  · exact vL_ne h
theorem SK_work {ak bk st ca cb se ya yb : Nat → Int32} {ga gb za zb ra rb xa xb : Nat → Int64} {k i : Nat} {op : Int32} {cc : Int64} (h : SK ak bk st ca cb se ya yb ga gb za zb i) (hr : ra k = xa k ∧ rb k = xb k) (heq : ak k = bk k → ra k = rb k) :
    SK ak bk (upd st k 2) (upd ca k (wChA op (ak k) (bk k) (ra k) cc)) (upd cb k (wChB op (ak k) (bk k) (ra k) (rb k) cc)) (upd se k 2) (upd ya k (wChA op (ak k) (bk k) (xa k) cc)) (upd yb k (wChB op (ak k) (bk k) (xa k) (xb k) cc)) (if wChA op (ak k) (bk k) (ra k) cc = 1 then vp_updL ga k (wGA op (ra k) (rb k) cc) else ga) (if wChB op (ak k) (bk k) (ra k) (rb k) cc = 1 then vp_updL gb k (wGB op (ra k) (rb k) cc) else gb) (if op = 2 ∨ op = 4 then vp_updL za k (wGA op (xa k) (xb k) cc) else za) (if op = 3 then zb else vp_updL zb k (wGB op (xa k) (xb k) cc)) i := by
  rw [← hr.1, ← hr.2]
  by_cases e : i = k
  · subst e
    refine ⟨by rw [upd_s, upd_s], by rw [upd_s]; exact Or.inr (Or.inr (Or.inl rfl)), fun _ => ?_⟩
    simp only [upd_s]
    refine ⟨trivial, trivial, fun z => ?_, fun z => ?_, fun z1 z2 z3 => ?_⟩
    · rcases wChA_01 op (ak i) (bk i) (ra i) cc with hA | ⟨hA, hA2⟩
      · exact absurd hA z
      · rw [if_pos hA, if_pos (show op = 2 ∨ op = 4 from hA2.elim (fun q => Or.inl q.1) Or.inr), vL_s, vL_s]
    · rcases wChB_01 op (ak i) (bk i) (ra i) (rb i) cc with hB | ⟨hB, hB3⟩
      · exact absurd hB z
      · rw [if_pos hB, if_neg hB3, vL_s, vL_s]
    · rcases wChA_01 op (ak i) (bk i) (ra i) cc with hA | ⟨hA, hA2 | h4⟩
      · exact absurd hA z1
      · exact absurd z3 hA2.2
      · rcases wChB_01 op (ak i) (bk i) (ra i) (rb i) cc with hB | ⟨hB, hB3⟩
        · exact absurd hB z2
        · rw [if_pos hA, if_pos hB, vL_s, vL_s, h4, wGA_4, wGB_4]
          exact (heq z3).symm
  · refine ⟨by rw [upd_ne e, upd_ne e]; exact h.1, by rw [upd_ne e]; exact h.2.1, fun hz => ?_⟩
    rw [upd_ne e] at hz
    rw [upd_ne e, upd_ne e, upd_ne e, upd_ne e, iteL e, iteL e, iteL e, iteL2 e]
    exact h.2.2 hz
def cnt1 (se : Nat → Int32) : Nat → Nat
  | 0 => 0
  | k + 1 => cnt1 se k + (if se k = 1 then 1 else 0)
theorem uwC_cnt (se : Nat → Int32) (en : Nat) : ∀ (f k : Nat), k ≤ en → en < k + f → uwC se en f k (nI (cnt1 se k)) = nI (cnt1 se en)
  | 0, k, h1, h2 => absurd h2 (by omega)
  | f + 1, k, h1, h2 => by
    unfold uwC
    by_cases h : k < en
    · rw [if_pos h]
      have ih := uwC_cnt se en f (k + 1) (by omega) (by omega)
      have e9 : nI (cnt1 se k) + (if se k = 1 then (1 : Int32) else 0) = nI (cnt1 se (k + 1)) := by
        show _ = nI (cnt1 se k + _)
        by_cases h1 : se k = 1
        · rw [if_pos h1, if_pos h1]; exact nI_1 _
        · rw [if_neg h1, if_neg h1]; exact Int32.add_zero _
      rw [e9]; exact ih
    · rw [if_neg h]
      have : k = en := by omega
      rw [this]
theorem cnt1_congr {se se' : Nat → Int32} : ∀ k, (∀ i, i < k → (se i = 1 ↔ se' i = 1)) → cnt1 se k = cnt1 se' k
  | 0, _ => rfl
  | k + 1, h => by
    unfold cnt1
    rw [cnt1_congr k (fun i hi => h i (by omega))]
    by_cases h1 : se k = 1
    · rw [if_pos h1, if_pos ((h k (by omega)).mp h1)]
    · rw [if_neg h1, if_neg (fun z => h1 ((h k (by omega)).mpr z))]
theorem cnt1_up {se : Nat → Int32} {j : Nat} (h0 : ¬ se j = 1) : ∀ k, j < k → cnt1 (upd se j 1) k = cnt1 se k + 1
  | 0, h => absurd h (by omega)
  | k + 1, h => by
    unfold cnt1
    by_cases e : k = j
    · subst e
      rw [upd_s, if_pos rfl, if_neg h0, cnt1_congr (se' := se) k (fun i hi => by rw [upd_ne (by omega)])]
    · rw [cnt1_up h0 k (by omega), upd_ne e]; omega
theorem cnt1_dn {se : Nat → Int32} {j : Nat} {x : Int32} (hx : ¬ x = 1) (h0 : se j = 1) : ∀ k, j < k → cnt1 se k = cnt1 (upd se j x) k + 1
  | 0, h => absurd h (by omega)
  | k + 1, h => by
    unfold cnt1
    by_cases e : k = j
    · subst e
      rw [upd_s, if_pos h0, if_neg hx, cnt1_congr (se := upd se k x) (se' := se) k (fun i hi => by rw [upd_ne (by omega)])]
    · rw [cnt1_dn hx h0 k (by omega), upd_ne e]; omega
theorem cnt1_0 {se : Nat → Int32} : ∀ k, (∀ i, i < k → se i = 0) → cnt1 se k = 0
  | 0, _ => rfl
  | k + 1, h => by
    unfold cnt1
    rw [cnt1_0 k (fun i hi => h i (by omega)), h k (by omega), if_neg (by decide)]
def PCs (n q : Nat) (ak bk tb fb oc eb nb nf nv nw st : Nat → Int32) (ra rb : Nat → Int64) : Prop := ∀ k, k < n → tb k = nb k ∧ oc k = nv k ∧ eb k = nw k ∧ (∃ j, j ≤ q ∧ nb k = nI j) ∧ (nf k = 0 ↔ nb k = 0) ∧ (nb k ≠ 0 → fb k = nf k) ∧ (st k ≠ 0 → nb k ≠ 0 ∧ (ak k = bk k → ra k = rb k))
def WHs (wk lf : Nat) (pr ig : Nat → Int32) (dm : Int32) : Prop := lf = (plF ig wk 17 0).length ∧ holdsL pr (plF ig wk 17 0) ∧ ∃ d, dm = nI d ∧ d + lf = wk
def HDs (n wk : Nat) (sk st sl ho be cf sf bf : Nat → Int32) : Prop := (∀ w, w < wk → ho w = cf w ∧ be w = bf w ∧ (ho w = -1 ∨ ∃ k j f, k < n ∧ ho w = nI k ∧ st k = 1 ∧ sk k = nI j ∧ j ≤ 9 ∧ f < j ∧ sf w = nI f ∧ sl k = nI (j - f))) ∧ (∀ w v, w < wk → v < wk → ho w = ho v → ho w ≠ -1 → w = v)
theorem PCs_mono {n q q' : Nat} {ak bk tb fb oc eb nb nf nv nw st : Nat → Int32} {ra rb : Nat → Int64} (hq : q ≤ q') (h : PCs n q ak bk tb fb oc eb nb nf nv nw st ra rb) : PCs n q' ak bk tb fb oc eb nb nf nv nw st ra rb := fun k hk => by
  obtain ⟨h1, h2, h3, ⟨j, h4, h5⟩, h6⟩ := h k hk
  exact ⟨h1, h2, h3, ⟨j, by omega, h5⟩, h6⟩
theorem PCs_st {n q : Nat} {ak bk tb fb oc eb nb nf nv nw st st' : Nat → Int32} {ra rb : Nat → Int64} (hs : ∀ k, st' k ≠ 0 → st k ≠ 0) (h : PCs n q ak bk tb fb oc eb nb nf nv nw st ra rb) : PCs n q ak bk tb fb oc eb nb nf nv nw st' ra rb := fun k hk => by
  obtain ⟨h1, h2, h3, h4, h5, h6, h7⟩ := h k hk
  exact ⟨h1, h2, h3, h4, h5, h6, fun z => h7 (hs k z)⟩
theorem PCs_take {n q j : Nat} {ak bk tb fb oc eb nb nf nv nw st st' : Nat → Int32} {ra rb ra' rb' : Nat → Int64} (hq : q < 30000) (h : PCs n q ak bk tb fb oc eb nb nf nv nw st ra rb) (hst : ∀ i, i ≠ j → st' i = st i ∧ ra' i = ra i ∧ rb' i = rb i) (hj : st' j ≠ 0 → ak j = bk j → ra' j = rb' j) :
    PCs n (q + 1) ak bk (upd tb j (tb j + 1)) (if tb j = 0 then upd fb j (nI (q + 1)) else fb) oc eb (upd nb j (nb j + 1)) (upd nf j (if nf j = 0 then nI (q + 1) else nf j)) nv nw st' ra' rb' := fun k hk => by
  obtain ⟨h1, h2, h3, ⟨a, h4, h5⟩, h6, h7, h8⟩ := h k hk
  by_cases e : k = j
  · subst e
    have hn1 : nb k + 1 = nI (a + 1) := by rw [h5]; exact nI_1 a
    have hz1 : nb k + 1 ≠ 0 := by rw [hn1]; exact fun z => absurd (nI_z (by omega) z) (by omega)
    have hz2 : nI (q + 1) ≠ 0 := fun z => absurd (nI_z (by omega) z) (by omega)
    simp only [upd_s]
    refine ⟨by rw [h1], h2, h3, ⟨a + 1, by omega, hn1⟩, ⟨fun z => ?_, fun z => absurd z hz1⟩, fun _ => ?_, fun z => ⟨hz1, hj z⟩⟩
    · by_cases h0 : nf k = 0
      · rw [if_pos h0] at z; exact absurd z hz2
      · rw [if_neg h0] at z; exact absurd z h0
    · by_cases h0 : nf k = 0
      · rw [if_pos h0, if_pos (h1.trans (h6.mp h0)), upd_s]
      · have hb : nb k ≠ 0 := fun z => h0 (h6.mpr z)
        rw [if_neg h0, if_neg (fun z => hb (h1.symm.trans z))]
        exact h7 hb
  · obtain ⟨g1, g2, g3⟩ := hst k e
    rw [upd_ne e, upd_ne e, upd_ne e, g1, g2, g3]
    refine ⟨h1, h2, h3, ⟨a, by omega, h5⟩, h6, fun z => ?_, h8⟩
    by_cases h0 : tb j = 0
    · rw [if_pos h0, upd_ne e]; exact h7 z
    · rw [if_neg h0]; exact h7 z
theorem PCs_end {n q k : Nat} {ak bk tb fb oc eb nb nf nv nw st : Nat → Int32} {ra rb : Nat → Int64} {x y : Int32} (h : PCs n q ak bk tb fb oc eb nb nf nv nw st ra rb) (h1 : st k ≠ 0) : PCs n q ak bk tb fb (upd oc k x) (upd eb k y) nb nf (upd nv k x) (upd nw k y) (upd st k 2) ra rb := fun i hi => by
  obtain ⟨g1, g2, g3, g4, g5, g6, g7⟩ := h i hi
  by_cases e : i = k
  · subst e
    exact ⟨g1, by rw [upd_s, upd_s], by rw [upd_s, upd_s], g4, g5, g6, fun _ => g7 h1⟩
  · exact ⟨g1, by rw [upd_ne e, upd_ne e]; exact g2, by rw [upd_ne e, upd_ne e]; exact g3, g4, g5, g6, fun z => g7 (by rw [upd_ne e] at z; exact z)⟩
theorem HDs_take {n wk w j : Nat} {sk st sl ho be cf sf bf : Nat → Int32} (h : HDs n wk sk st sl ho be cf sf bf) (hn : n ≤ 40) (hj : j < n) (h0 : st j = 0) (hsj : ∃ a, 1 ≤ a ∧ a ≤ 9 ∧ sk j = nI a) : HDs n wk sk (upd st j 1) (upd sl j (sk j)) (upd ho w (nI j)) (upd be w (be w + 1)) (upd cf w (nI j)) (upd sf w 0) (upd bf w (bf w + 1)) := by
  obtain ⟨hA, hU⟩ := h
  have hx : ∀ v, v < wk → ho v ≠ nI j := by
    intro v hv z
    rcases (hA v hv).2.2 with y | ⟨k, a, f, y1, y2, y3, -⟩
    · exact nI_ne_m1 (by omega) (z.symm.trans y)
    · have e : k = j := (nI_eq (a := k) (b := j) (by omega) (by omega)).mp (y2.symm.trans z)
      rw [e, h0] at y3
      exact absurd y3 (by decide)
  refine ⟨fun v hv => ?_, fun u v hu hv z1 z2 => ?_⟩
  · by_cases e : v = w
    · subst e
      obtain ⟨a, a1, a2, a3⟩ := hsj
      exact ⟨by rw [upd_s, upd_s], by rw [upd_s, upd_s, (hA v hv).2.1], Or.inr ⟨j, a, 0, hj, upd_s _ _ _, upd_s _ _ _, a3, a2, a1, upd_s _ _ _, by rw [upd_s]; exact a3⟩⟩
    · obtain ⟨b1, b2, b3⟩ := hA v hv
      refine ⟨by rw [upd_ne e, upd_ne e]; exact b1, by rw [upd_ne e, upd_ne e]; exact b2, ?_⟩
      rw [upd_ne e, upd_ne e]
      rcases b3 with y | ⟨k, a, f, y1, y2, y3, y4⟩
      · exact Or.inl y
      · have hk : k ≠ j := fun z => by rw [z, h0] at y3; exact absurd y3 (by decide)
        exact Or.inr ⟨k, a, f, y1, y2, by rw [upd_ne hk]; exact y3, by rw [upd_ne hk]; exact y4⟩
  · by_cases eu : u = w
    · by_cases ev : v = w
      · exact eu.trans ev.symm
      · rw [eu, upd_s, upd_ne ev] at z1
        exact absurd z1.symm (hx v hv)
    · by_cases ev : v = w
      · rw [ev, upd_s, upd_ne eu] at z1
        exact absurd z1 (hx u hu)
      · rw [upd_ne eu, upd_ne ev] at z1
        rw [upd_ne eu] at z2
        exact hU u v hu hv z1 z2
theorem HDs_go {n wk w : Nat} {sk st sl ho be cf sf bf : Nat → Int32} (h : HDs n wk sk st sl ho be cf sf bf) : HDs n wk sk st sl ho (upd be w (be w + 1)) cf sf (upd bf w (bf w + 1)) := by
  obtain ⟨hA, hU⟩ := h
  refine ⟨fun v hv => ?_, hU⟩
  obtain ⟨b1, b2, b3⟩ := hA v hv
  refine ⟨b1, ?_, b3⟩
  by_cases e : v = w
  · subst e; rw [upd_s, upd_s, b2]
  · rw [upd_ne e, upd_ne e]; exact b2
theorem HDs_step {n wk w k a f : Nat} {sk st sl ho be cf sf bf : Nat → Int32} (h : HDs n wk sk st sl ho be cf sf bf) (hn : n ≤ 40) (hw : w < wk) (hk : k < n) (hho : ho w = nI k) (hst : st k = 1) (y4 : sk k = nI a) (y5 : a ≤ 9) (y6 : f + 1 < a) (y7 : sf w = nI f) (y8 : sl k = nI (a - f)) : HDs n wk sk st (upd sl k (sl k - 1)) ho be cf (upd sf w (sf w + 1)) bf := by
  obtain ⟨hA, hU⟩ := h
  refine ⟨fun v hv => ?_, hU⟩
  by_cases e : v = w
  · subst e
    obtain ⟨b1, b2, -⟩ := hA v hv
    exact ⟨b1, b2, Or.inr ⟨k, a, f + 1, hk, hho, hst, y4, y5, y6, by rw [upd_s, y7]; exact nI_1 f, by rw [upd_s, y8, show a - f = (a - (f + 1)) + 1 by omega]; exact nI_s1 _⟩⟩
  · obtain ⟨b1, b2, b3⟩ := hA v hv
    refine ⟨b1, b2, ?_⟩
    rw [upd_ne e]
    rcases b3 with y | ⟨k', a', f', z1, z2, z3, z4, z5, z6, z7, z8⟩
    · exact Or.inl y
    · have hkk : k' ≠ k := fun z => e (hU v w hv hw (by rw [z2, z, hho]) (by rw [z2]; exact nI_ne_m1 (by omega)))
      exact Or.inr ⟨k', a', f', z1, z2, z3, z4, z5, z6, z7, by rw [upd_ne hkk]; exact z8⟩
theorem HDs_end {n wk w k : Nat} {x y : Int32} {sk st sl ho be cf sf bf : Nat → Int32} (h : HDs n wk sk st sl ho be cf sf bf) (hn : n ≤ 40) (hw : w < wk) (hho : ho w = nI k) : HDs n wk sk (upd st k 2) (upd sl k x) (upd ho w (-1)) be (upd cf w (-1)) (upd sf w y) bf := by
  obtain ⟨hA, hU⟩ := h
  refine ⟨fun v hv => ?_, fun u v hu hv z1 z2 => ?_⟩
  · obtain ⟨b1, b2, b3⟩ := hA v hv
    by_cases e : v = w
    · subst e
      exact ⟨by rw [upd_s, upd_s], b2, Or.inl (upd_s _ _ _)⟩
    · refine ⟨by rw [upd_ne e, upd_ne e]; exact b1, b2, ?_⟩
      rw [upd_ne e, upd_ne e]
      rcases b3 with y | ⟨k', a', f', z1, z2, z3, z4, z5, z6, z7, z8⟩
      · exact Or.inl y
      · have hkk : k' ≠ k := fun z => e (hU v w hv hw (by rw [z2, z, hho]) (by rw [z2]; exact nI_ne_m1 (by omega)))
        exact Or.inr ⟨k', a', f', z1, z2, by rw [upd_ne hkk]; exact z3, z4, z5, z6, z7, by rw [upd_ne hkk]; exact z8⟩
  · by_cases eu : u = w
    · rw [eu, upd_s] at z2; exact absurd rfl z2
    · by_cases ev : v = w
      · rw [ev, upd_s] at z1; exact absurd z1 z2
      · rw [upd_ne eu, upd_ne ev] at z1
        rw [upd_ne eu] at z2
        exact hU u v hu hv z1 z2
theorem WHs_go {wk lf w : Nat} {pr ig : Nat → Int32} {dm : Int32} (h : WHs wk lf pr ig dm) (hwk : wk ≤ 16) (hw : w < wk) (hg : ig w = 0) : WHs wk (dsm lf (nI w) 17 0 0 pr).2 (dsm lf (nI w) 17 0 0 pr).1 (upd ig w 1) (dm + 1) := by
  obtain ⟨h1, h2, d, h3, h4⟩ := h
  have hl := pl_len ig wk 17 0 (Nat.zero_le _) (by omega)
  have hl' := pl_len (upd ig w 1) wk 17 0 (Nat.zero_le _) (by omega)
  have hc := cnt_upd ig w hg wk hw
  have e0 : cntN ig 0 = 0 := rfl
  have e1 : cntN (upd ig w 1) 0 = 0 := rfl
  have hd := dsm_L (lf := lf) (u := w) (by omega) 17 0 pr [] (plF ig wk 17 0) (Nat.le_refl _) (by omega) (by omega) (fun v hv => by have := pl_in ig wk 17 0 v hv; omega) (fun j v z => by simp at z) (fun j v z => by rw [Nat.zero_add]; exact h2 j v z)
  rw [List.nil_append, ← pl_upd ig wk w 17 0] at hd
  obtain ⟨q1, q2⟩ := hd
  refine ⟨q1, q2, d + 1, by rw [h3]; exact nI_1 d, ?_⟩
  have q1 : (dsm lf (nI w) 17 0 0 pr).2 = (plF (upd ig w 1) wk 17 0).length := q1
  rw [q1]
  omega
theorem KR_td {n : Nat} {ak bk st u ca cb oc ka se ya yb nk td td' : Nat → Int32} {ra rb ga gb xa xb za zb am : Nat → Int64} {kp : Nat} {an : Int32} (h : KR n ak bk st u ca cb oc ka se ya yb nk td ra rb ga gb xa xb za zb am kp an) (h3 : td' 3 = td 3) (h7 : td' 7 = td 7) : KR n ak bk st u ca cb oc ka se ya yb nk td' ra rb ga gb xa xb za zb am kp an := by
  obtain ⟨k1, k2, k3, k4, k5, k6, k7, k8⟩ := h
  exact ⟨k1, k2, k3, k4, k5, k6.trans h3.symm, k7, h7.trans k8⟩
theorem KR_take {n j : Nat} {ak bk st u ca cb oc ka se ya yb nk td : Nat → Int32} {ra rb ga gb xa xb za zb am : Nat → Int64} {kp : Nat} {an : Int32} (h : KR n ak bk st u ca cb oc ka se ya yb nk td ra rb ga gb xa xb za zb am kp an) (hj : kp ≤ j) (hjn : j < n) : KR n ak bk (upd st j 1) u ca cb oc ka (upd se j 1) ya yb nk td (vp_updL ra j (stnd (upd st j 1) ca ak cb bk ga gb (ak j) j)) (vp_updL rb j (stnd (upd st j 1) ca ak cb bk ga gb (bk j) j)) ga gb (vp_updL xa j (rds (upd se j 1) ya ak yb bk za zb (ak j) j)) (vp_updL xb j (rds (upd se j 1) ya ak yb bk za zb (bk j) j)) za zb am kp an := by
  obtain ⟨k1, k2, k3, k4, k5, k6, k7, k8⟩ := h
  have hS : ∀ k, k < n → SK ak bk (upd st j 1) ca cb (upd se j 1) ya yb ga gb za zb k := fun k hk => SK_upd (Or.inr (Or.inl rfl)) (k2 k hk) (fun _ z => absurd z (by decide))
  refine ⟨k1, hS, fun k hk hz => ?_, fun k hk => ?_, fun k hk key hkey => ?_, k6, k7, k8⟩
  · by_cases e : k = j
    · subst e
      rw [vL_s, vL_s, vL_s, vL_s]
      exact ⟨stnd_rds k (fun i hi => hS i (by omega)), stnd_rds k (fun i hi => hS i (by omega))⟩
    · rw [vL_ne e, vL_ne e, vL_ne e, vL_ne e]
      rw [upd_ne e] at hz
      exact k3 k hk hz
  · rw [upd_ne (by omega)]; exact k4 k hk
  · rw [stnd_above (by omega)]; exact k5 k hk key hkey
theorem KR_work {n k : Nat} {ak bk st u ca cb oc ka se ya yb nk td : Nat → Int32} {ra rb ga gb xa xb za zb am : Nat → Int64} {kp : Nat} {an op y : Int32} {cc : Int64} (h : KR n ak bk st u ca cb oc ka se ya yb nk td ra rb ga gb xa xb za zb am kp an) (hk : k < n) (hst : st k = 1) (heq : ak k = bk k → ra k = rb k) :
    KR n ak bk (upd st k 2) u (upd ca k (wChA op (ak k) (bk k) (ra k) cc)) (upd cb k (wChB op (ak k) (bk k) (ra k) (rb k) cc)) (upd oc k y) ka (upd se k 2) (upd ya k (wChA op (ak k) (bk k) (xa k) cc)) (upd yb k (wChB op (ak k) (bk k) (xa k) (xb k) cc)) nk td ra rb (if wChA op (ak k) (bk k) (ra k) cc = 1 then vp_updL ga k (wGA op (ra k) (rb k) cc) else ga) (if wChB op (ak k) (bk k) (ra k) (rb k) cc = 1 then vp_updL gb k (wGB op (ra k) (rb k) cc) else gb) xa xb (if op = 2 ∨ op = 4 then vp_updL za k (wGA op (xa k) (xb k) cc) else za) (if op = 3 then zb else vp_updL zb k (wGB op (xa k) (xb k) cc)) am kp an := by
  obtain ⟨k1, k2, k3, k4, k5, k6, k7, k8⟩ := h
  have hkp : kp ≤ k := by
    rcases Nat.lt_or_ge k kp with z | z
    · have := k4 k z
      rw [hst] at this
      exact absurd this (by decide)
    · exact z
  have h0 : st k ≠ 0 := by rw [hst]; decide
  refine ⟨k1, fun i hi => SK_work (k2 i hi) (k3 k hk h0) heq, fun i hi hz => k3 i hi ?_, fun i hi => ?_, fun i hi key hkey => ?_, k6, k7, ?_⟩
  · by_cases e : i = k
    · subst e; exact h0
    · rw [upd_ne e] at hz; exact hz
  · rw [upd_ne (by omega)]; exact k4 i hi
  · rw [k5 i hi key hkey]
    exact stnd_congr i (fun j hj => ⟨(upd_ne (by omega)).symm, (upd_ne (by omega)).symm, (upd_ne (by omega)).symm, (iteL (by omega)).symm, (iteL (by omega)).symm⟩)
  · rw [c2_upd kp hkp]; exact k8
def csLf : CS → Nat
  | (kp, tk, bg, an, dm, uw, mu, id_, st, sl, ra, rb, ca, cb, ga, gb, oc, tb, fb, ka, eb, sd, lf, pr, ho, be) => lf
def csKp : CS → Nat
  | (kp, tk, bg, an, dm, uw, mu, id_, st, sl, ra, rb, ca, cb, ga, gb, oc, tb, fb, ka, eb, sd, lf, pr, ho, be) => kp
def csSt : CS → Nat → Int32
  | (kp, tk, bg, an, dm, uw, mu, id_, st, sl, ra, rb, ca, cb, ga, gb, oc, tb, fb, ka, eb, sd, lf, pr, ho, be) => st
def RT (n wk : Nat) (ak bk sk : Nat → Int32) (t q rd : Nat) (sd0 : Int32) : CS → MS → Prop
  | (kp, tk, bg, an, dm, uw, mu, id_, st, sl, ra, rb, ca, cb, ga, gb, oc, tb, fb, ka, eb, sd, lf, pr, ho, be), (td, se, nb, nf, nk, nw, nv, xa, xb, ya, yb, za, zb, am, cf, sf, bf, ig) => kp = rd ∧ sd = sd0 ∧ KR n ak bk st st ca cb nv ka se ya yb nk td ra rb ga gb xa xb za zb am kp an ∧ (tk = td 1 ∧ bg = td 2 ∧ dm = td 4 ∧ mu = td 5 ∧ id_ = td 6 ∧ td 1 = nI t ∧ td 0 = nI n) ∧ PCs n q ak bk tb fb oc eb nb nf nv nw st ra rb ∧ WHs wk lf pr ig dm ∧ HDs n wk sk st sl ho be cf sf bf ∧ uw = nI (cnt1 st n)
theorem turn_sim {n wk rm w t rd : Nat} {ak bk sk gn ok ck : Nat → Int32} {sd0 : Int32} (hn : n ≤ 40) (hwk : wk ≤ 16) (hw : w < wk) (ht : t < 30000) (hsk : ∀ i, i < n → ∃ j, 1 ≤ j ∧ j ≤ 9 ∧ sk i = nI j) (kp : Nat) (tk : Int32) (bg : Int32) (an : Int32) (dm : Int32) (uw : Int32) (mu : Int32) (id_ : Int32) (st : Nat → Int32) (sl : Nat → Int32) (ra : Nat → Int64) (rb : Nat → Int64) (ca : Nat → Int32) (cb : Nat → Int32) (ga : Nat → Int64) (gb : Nat → Int64) (oc : Nat → Int32) (tb : Nat → Int32) (fb : Nat → Int32) (ka : Nat → Int32) (eb : Nat → Int32) (sd : Int32) (lf : Nat) (pr : Nat → Int32) (ho : Nat → Int32) (be : Nat → Int32) (td : Nat → Int32) (se : Nat → Int32) (nb : Nat → Int32) (nf : Nat → Int32) (nk : Nat → Int32) (nw : Nat → Int32) (nv : Nat → Int32) (xa : Nat → Int64) (xb : Nat → Int64) (ya : Nat → Int32) (yb : Nat → Int32) (za : Nat → Int64) (zb : Nat → Int64) (am : Nat → Int64) (cf : Nat → Int32) (sf : Nat → Int32) (bf : Nat → Int32) (ig : Nat → Int32) (hg : ig w = 0) (hst : rd < n → st rd ≠ 2) (hR : RT n wk ak bk sk (t + 1) t rd sd0 (kp, tk, bg, an, dm, uw, mu, id_, st, sl, ra, rb, ca, cb, ga, gb, oc, tb, fb, ka, eb, sd, lf, pr, ho, be) (td, se, nb, nf, nk, nw, nv, xa, xb, ya, yb, za, zb, am, cf, sf, bf, ig)) :
    RT n wk ak bk sk (t + 1) (t + 1) rd sd0 (takeTurnF n rm ak bk sk gn ok ck w (kp, tk, bg, an, dm, uw, mu, id_, st, sl, ra, rb, ca, cb, ga, gb, oc, tb, fb, ka, eb, sd, lf, pr, ho, be)) (rTurn n rm rd ok ak bk ck sk gn w (nI (t + 1)) (td, se, nb, nf, nk, nw, nv, xa, xb, ya, yb, za, zb, am, cf, sf, bf, ig)) ∧ (csLf (takeTurnF n rm ak bk sk gn ok ck w (kp, tk, bg, an, dm, uw, mu, id_, st, sl, ra, rb, ca, cb, ga, gb, oc, tb, fb, ka, eb, sd, lf, pr, ho, be)) = lf ∨ (rd < n ∧ csSt (takeTurnF n rm ak bk sk gn ok ck w (kp, tk, bg, an, dm, uw, mu, id_, st, sl, ra, rb, ca, cb, ga, gb, oc, tb, fb, ka, eb, sd, lf, pr, ho, be)) rd ≠ 2)) := by
  obtain ⟨h1, h2, hK, ⟨s1, s2, s3, s4, s5, s6, s7⟩, hP, hW, hH, hU⟩ := hR
  have h1 : kp = rd := h1
  subst h1
  obtain ⟨hho, hbe, hh⟩ := hH.1 w hw
  have htk : tk = nI (t + 1) := s1.trans s6
  have hls : lsN se (min n (kp + rm)) 41 kp = lsN st (min n (kp + rm)) 41 kp := lsN_congr (fun i hi => ((hK.2.1 i (by omega)).1).symm) 41 kp
  unfold takeTurnF rTurn
  dsimp only
  by_cases hc : ho w = -1
  · have hc2 : cf w = -1 := hho.symm.trans hc
    rw [if_pos hc, if_pos hc2, hls]
    unfold takeCallF
    dsimp only
    rcases hq : lsN st (min n (kp + rm)) 41 kp with _ | j
    · dsimp only
      exact ⟨⟨rfl, h2, KR_td hK (upd_ne (by decide)) (upd_ne (by decide)), ⟨by rw [upd_ne (by decide)]; exact s1, by rw [upd_ne (by decide)]; exact s2, by rw [upd_ne (by decide)]; exact s3, by rw [upd_ne (by decide)]; exact s4, by rw [upd_s, s5], by rw [upd_ne (by decide)]; exact s6, by rw [upd_ne (by decide)]; exact s7⟩, PCs_mono (by omega) hP, hW, hH, hU⟩, Or.inl rfl⟩
    · obtain ⟨j1, j2, j3⟩ := lsN_in hq
      have hjn : j < n := by omega
      dsimp only
      unfold rTake
      dsimp only
      by_cases hb : be w + 1 = gn w
      · have hb2 : bf w + 1 = gn w := by rw [← hbe]; exact hb
        rw [if_pos hb, if_pos hb2, htk]
        refine ⟨⟨rfl, h2, KR_td hK (by rw [upd_ne (by decide), upd_ne (by decide)]) (by rw [upd_ne (by decide), upd_ne (by decide)]), ⟨?_, ?_, ?_, ?_, ?_, ?_, ?_⟩, PCs_take ht hP (fun i _ => ⟨rfl, rfl, rfl⟩) (fun z => absurd j3 z), WHs_go hW hwk hw hg, HDs_go hH, hU⟩, Or.inr ⟨by omega, hst (by omega)⟩⟩
        · rw [upd_ne (by decide), upd_ne (by decide)]; exact s6.symm
        · rw [upd_ne (by decide), upd_s, s2]
        · rw [upd_s, upd_ne (by decide), s3]
        · rw [upd_ne (by decide), upd_ne (by decide)]; exact s4
        · rw [upd_ne (by decide), upd_ne (by decide)]; exact s5
        · rw [upd_ne (by decide), upd_ne (by decide)]; exact s6
        · rw [upd_ne (by decide), upd_ne (by decide)]; exact s7
      · have hb2 : ¬ bf w + 1 = gn w := by rw [← hbe]; exact hb
        rw [if_neg hb, if_neg hb2, htk]
        refine ⟨⟨rfl, h2, KR_td (KR_st (KR_take hK j1 hjn)) (upd_ne (by decide)) (upd_ne (by decide)), ⟨?_, ?_, ?_, ?_, ?_, ?_, ?_⟩, PCs_take ht hP (fun i hi => ⟨upd_ne hi, vL_ne hi, vL_ne hi⟩) (fun _ z => by rw [vL_s, vL_s, z]), hW, HDs_take hH hn hjn j3 (hsk j hjn), ?_⟩, Or.inl rfl⟩
        · rw [upd_ne (by decide)]; exact s6.symm
        · rw [upd_s, s2]
        · rw [upd_ne (by decide)]; exact s3
        · rw [upd_ne (by decide)]; exact s4
        · rw [upd_ne (by decide)]; exact s5
        · rw [upd_ne (by decide)]; exact s6
        · rw [upd_ne (by decide)]; exact s7
        · rw [cnt1_up (by rw [j3]; decide) n hjn, hU]; exact nI_1 _
  · rcases hh with z | ⟨k, a, f, y1, y2, y3, y4, y5, y6, y7, y8⟩
    · exact absurd z hc
    have hc2 : ¬ cf w = -1 := fun z => hc (hho.trans z)
    have hk1 : (ho w).toNatClampNeg = k := by rw [y2]; exact nI_clamp (by omega)
    have hk2 : (cf w).toNatClampNeg = k := by rw [← hho]; exact hk1
    have h0 : st k ≠ 0 := by rw [y3]; decide
    have hsl : sl k - 1 = nI (a - f - 1) := by rw [y8, show a - f = (a - f - 1) + 1 by omega]; exact nI_s1 _
    have hsf : sf w + 1 = nI (f + 1) := by rw [y7]; exact nI_1 f
    rw [if_neg hc, if_neg hc2, hk1, hk2]
    unfold stepF rStep
    dsimp only
    by_cases hl : f + 1 = a
    · have q1 : ¬ 0 < sl k - 1 := by rw [hsl, show a - f - 1 = 0 by omega]; decide
      have q2 : sf w + 1 = sk k := by rw [hsf, y4, hl]
      rw [if_neg q1, if_pos q2]
      obtain ⟨r1, r2⟩ := hK.2.2.1 k y1 h0
      have ho9 : wOut (ok k) (xa k) (xb k) (Int32.toInt64 (ck k)) = wOut (ok k) (ra k) (rb k) (Int32.toInt64 (ck k)) := by rw [r1, r2]
      rw [ho9]
      refine ⟨⟨rfl, h2, KR_st (KR_work hK y1 y3 ((hP k y1).2.2.2.2.2.2 h0).2), ⟨s1, s2, s3, s4, s5, s6, s7⟩, PCs_mono (by omega) (PCs_end hP h0), hW, HDs_end hH hn hw y2, ?_⟩, Or.inl rfl⟩
      rw [hU, cnt1_dn (x := 2) (by decide) y3 n y1]
      exact nI_s1 _
    · have q1 : 0 < sl k - 1 := by rw [hsl]; exact nI_lt (a := 0) (by omega) (by omega)
      have q2 : ¬ sf w + 1 = sk k := by
        rw [hsf, y4]
        exact fun z => hl ((nI_eq (a := f + 1) (b := a) (by omega) (by omega)).mp z)
      rw [if_pos q1, if_neg q2]
      exact ⟨⟨rfl, h2, hK, ⟨s1, s2, s3, s4, s5, s6, s7⟩, PCs_mono (by omega) hP, hW, HDs_step hH hn hw y1 y2 y3 y4 y5 (by omega) y7 y8, hU⟩, Or.inl rfl⟩
