def CI (cI cJ cZ : ClassId) (x n : Nat) (Bk : Nat → Nat → Int32) (hv : Int32) (V : VW) (wc : va_W) : Prop := ∃ (hB : Nat) (b qL qS qX : Nat → Nat) (rd rr : Int32) (RL RS RX : RC), n ≤ 40 ∧ (hv ≠ 0 → VCr n Bk V RL) ∧ okR RL ∧ okR RS ∧ okR RX ∧ wc = cW cI cJ cZ x hB b qL qS qX n Bk hv rd rr RL RS RX
def CR (n : Nat) (Bk : Nat → Nat → Int32) (xo xa xb xc xs : Int32) (r : Int32) (n1 : Nat) (B1 : Nat → Nat → Int32) : Prop := (callG xo xa xb xc xs ∧ n < 40 ∧ r = nI n ∧ n1 = n + 1 ∧ B1 = updB Bk n xo xa xb xc xs) ∨ (callG xo xa xb xc xs ∧ ¬ n < 40 ∧ r = -4 ∧ n1 = n ∧ B1 = Bk) ∨ (¬ callG xo xa xb xc xs ∧ r = -2 ∧ n1 = n ∧ B1 = Bk)
theorem CR_eq {n : Nat} {Bk : Nat → Nat → Int32} {xo xa xb xc xs r r' : Int32} {n1 n2 : Nat} {B1 B2 : Nat → Nat → Int32} (h : CR n Bk xo xa xb xc xs r n1 B1) (h' : CR n Bk xo xa xb xc xs r' n2 B2) : r = r' ∧ n1 = n2 ∧ B1 = B2 := by
  rcases h with ⟨a1, a2, a3, a4, a5⟩ | ⟨a1, a2, a3, a4, a5⟩ | ⟨a1, a3, a4, a5⟩ <;> rcases h' with ⟨b1, b2, b3, b4, b5⟩ | ⟨b1, b2, b3, b4, b5⟩ | ⟨b1, b3, b4, b5⟩ <;> first | exact ⟨a3.trans b3.symm, a4.trans b4.symm, a5.trans b5.symm⟩ | exact absurd a2 b2 | exact absurd b2 a2 | exact absurd a1 b1 | exact absurd b1 a1
set_option maxHeartbeats 1000000 in
set_option maxRecDepth 100000 in
theorem A_call (l : Launch) (D : va_G) (cI cJ cZ : ClassId) (sz x n : Nat) (Bk : Nat → Nat → Int32) (hv : Int32) (V : VW) (wc : va_W) (hC : CI cI cJ cZ x n Bk hv V wc) (xo xa xb xc xs : Int32) : Met l yX4_call wsX4_call ({ frames := 2, cells := 0, slots := 0, locals := 48 }) (PcRW [.ref x, .int xo, .int xa, .int xb, .int xc, .int xs] sz D cI cJ cZ wc) (QaI (fun r w9 => ∃ n1 B1, CR n Bk xo xa xb xc xs r n1 B1 ∧ CI cI cJ cZ x n1 B1 hv V w9) D (va_A wc sz)) 0 0 (va_A wc sz) := by
  obtain ⟨hB, b, qL, qS, qX, rd, rr, RL, RS, RX, hn, hV, oL, oS, oX, rfl⟩ := hC
  by_cases hg : callG xo xa xb xc xs
  · by_cases h40 : n < 40
    · exact to_QaI (fun r hr => ⟨n + 1, updB Bk n xo xa xb xc xs, Or.inl ⟨hg, h40, hr, rfl, rfl⟩, hB, b, qL, qS, qX, _, _, _, _, _, by omega, fun z => VCr_call (hV z), oL, oS, oX, rfl⟩) (L_call_ok l D cI cJ cZ sz x hB b qL qS qX n Bk hv rd rr RL RS RX h40 xo xa xb xc xs hg)
    · obtain rfl : n = 40 := by omega
      exact to_QaI (fun r hr => ⟨40, Bk, Or.inr (Or.inl ⟨hg, h40, hr, rfl, rfl⟩), ⟨hB, b, qL, qS, qX, _, _, _, _, _, hn, hV, oL, oS, oX, rfl⟩⟩) (L_call_full l D cI cJ cZ sz x hB b qL qS qX Bk hv rd rr RL RS RX xo xa xb xc xs hg)
  · exact to_QaI (fun r hr => ⟨n, Bk, Or.inr (Or.inr ⟨hg, hr, rfl, rfl⟩), ⟨hB, b, qL, qS, qX, _, _, _, _, _, hn, hV, oL, oS, oX, rfl⟩⟩) (L_call_bad l D cI cJ cZ sz x hB b qL qS qX n Bk hv rd rr RL RS RX xo xa xb xc xs hg)
set_option maxHeartbeats 1000000 in
set_option maxRecDepth 100000 in
theorem A_clear (l : Launch) (D : va_G) (cI cJ cZ : ClassId) (sz x n : Nat) (Bk : Nat → Nat → Int32) (hv : Int32) (V : VW) (wc : va_W) (hC : CI cI cJ cZ x n Bk hv V wc)  : Met l yX4_clear wsX4_clear ({ frames := 0, cells := 0, slots := 0, locals := 0 }) (PcRW [.ref x] sz D cI cJ cZ wc) (QaI (fun r w9 => r = nI n ∧ CI cI cJ cZ x 0 Bk 0 V w9) D (va_A wc sz)) 0 0 (va_A wc sz) := by
  obtain ⟨hB, b, qL, qS, qX, rd, rr, RL, RS, RX, hn, hV, oL, oS, oX, rfl⟩ := hC
  exact to_QaI (fun r hr => ⟨hr, hB, b, qL, qS, qX, _, _, _, _, _, by omega, fun z => absurd rfl z, oL, oS, oX, rfl⟩) (L_clear l D cI cJ cZ sz x hB b qL qS qX n Bk hv rd rr RL RS RX)
def GR (Bk : Nat → Nat → Int32) (w v : Int32) (r : Int32) (B1 : Nat → Nat → Int32) : Prop := ((¬ wi w 0 15 = 0 ∧ ¬ wi v 0 99 = 0) ∧ ∃ j, j < 16 ∧ w = nI j ∧ r = Bk 5 j ∧ B1 = updG Bk j v) ∨ (¬ (¬ wi w 0 15 = 0 ∧ ¬ wi v 0 99 = 0) ∧ r = -2 ∧ B1 = Bk)
theorem GR_eq {Bk B1 B2 : Nat → Nat → Int32} {w v r r' : Int32} (h : GR Bk w v r B1) (h' : GR Bk w v r' B2) : r = r' ∧ B1 = B2 := by
  rcases h with ⟨a1, j, a2, a3, a4, a5⟩ | ⟨a1, a4, a5⟩ <;> rcases h' with ⟨b1, k, b2, b3, b4, b5⟩ | ⟨b1, b4, b5⟩
  · have e : j = k := (nI_eq (a := j) (b := k) (by omega) (by omega)).mp (a3.symm.trans b3)
    subst e
    exact ⟨a4.trans b4.symm, a5.trans b5.symm⟩
  · exact absurd a1 b1
  · exact absurd b1 a1
  · exact ⟨a4.trans b4.symm, a5.trans b5.symm⟩
set_option maxHeartbeats 1000000 in
set_option maxRecDepth 100000 in
theorem A_gone (l : Launch) (D : va_G) (cI cJ cZ : ClassId) (sz x n : Nat) (Bk : Nat → Nat → Int32) (hv : Int32) (V : VW) (wc : va_W) (hC : CI cI cJ cZ x n Bk hv V wc) (w v : Int32) : Met l yX4_gone wsX4_gone ({ frames := 1, cells := 0, slots := 0, locals := 22 }) (PcRW [.ref x, .int w, .int v] sz D cI cJ cZ wc) (QaI (fun r w9 => ∃ B1, GR Bk w v r B1 ∧ CI cI cJ cZ x n B1 hv V w9) D (va_A wc sz)) 0 0 (va_A wc sz) := by
  obtain ⟨hB, b, qL, qS, qX, rd, rr, RL, RS, RX, hn, hV, oL, oS, oX, rfl⟩ := hC
  by_cases hg : ¬ wi w 0 15 = 0 ∧ ¬ wi v 0 99 = 0
  · obtain ⟨j, hj, rfl⟩ := wi_nat (n := 15) (by decide) hg.1
    exact to_QaI (fun r hr => ⟨updG Bk j v, Or.inl ⟨hg, j, by omega, rfl, hr, rfl⟩, hB, b, qL, qS, qX, _, _, _, _, _, hn, fun z => hV z, oL, oS, oX, rfl⟩) (L_gone_ok l D cI cJ cZ sz x hB b qL qS qX n Bk hv rd rr RL RS RX j (by omega) v hg)
  · exact to_QaI (fun r hr => ⟨Bk, Or.inr ⟨hg, hr, rfl⟩, ⟨hB, b, qL, qS, qX, _, _, _, _, _, hn, hV, oL, oS, oX, rfl⟩⟩) (L_gone_bad l D cI cJ cZ sz x hB b qL qS qX n Bk hv rd rr RL RS RX w v hg)
set_option maxHeartbeats 1000000 in
set_option maxRecDepth 100000 in
theorem A_count (l : Launch) (D : va_G) (cI cJ cZ : ClassId) (sz x n : Nat) (Bk : Nat → Nat → Int32) (hv : Int32) (V : VW) (wc : va_W) (hC : CI cI cJ cZ x n Bk hv V wc) (w : Int32) : Met l yX4_count wsX4_count ({ frames := 0, cells := 0, slots := 0, locals := 0 }) (PcRW [.ref x, .int w] sz D cI cJ cZ wc) (QaI (fun _ w9 => CI cI cJ cZ x n Bk hv V w9) D (va_A wc sz)) 0 0 (va_A wc sz) := by
  obtain ⟨hB, b, qL, qS, qX, rd, rr, RL, RS, RX, hn, hV, oL, oS, oX, rfl⟩ := hC
  exact to_QaI (fun r hr => ⟨hB, b, qL, qS, qX, _, _, _, _, _, hn, hV, oL, oS, oX, rfl⟩) (L_count l D cI cJ cZ sz x hB b qL qS qX n Bk hv rd rr RL RS RX w)
set_option maxHeartbeats 1000000 in
set_option maxRecDepth 100000 in
theorem A_told (l : Launch) (D : va_G) (cI cJ cZ : ClassId) (sz x n : Nat) (Bk : Nat → Nat → Int32) (hv : Int32) (V : VW) (wc : va_W) (hC : CI cI cJ cZ x n Bk hv V wc) (w : Int32) : Met l yX4_told wsX4_told ({ frames := 2, cells := 0, slots := 0, locals := 44 }) (PcRW [.ref x, .int w] sz D cI cJ cZ wc) (QaI (fun r w9 => r = ansT hv V w ∧ CI cI cJ cZ x n Bk hv V w9) D (va_A wc sz)) 0 0 (va_A wc sz) := by
  obtain ⟨hB, b, qL, qS, qX, rd, rr, RL, RS, RX, hn, hV, oL, oS, oX, rfl⟩ := hC
  exact to_QaI (fun r hr => ⟨hr.trans (told_c hV), ⟨hB, b, qL, qS, qX, _, _, _, _, _, hn, hV, oL, oS, oX, rfl⟩⟩) (L_told l D cI cJ cZ sz x hB b qL qS qX n Bk hv rd rr RL RS RX oL.1 w)
set_option maxHeartbeats 1000000 in
set_option maxRecDepth 100000 in
theorem A_outcome (l : Launch) (D : va_G) (cI cJ cZ : ClassId) (sz x n : Nat) (Bk : Nat → Nat → Int32) (hv : Int32) (V : VW) (wc : va_W) (hC : CI cI cJ cZ x n Bk hv V wc) (k : Int32) : Met l yX4_outcome wsX4_outcome ({ frames := 2, cells := 0, slots := 0, locals := 43 }) (PcRW [.ref x, .int k] sz D cI cJ cZ wc) (QaI (fun r w9 => r = ansO n hv V k ∧ CI cI cJ cZ x n Bk hv V w9) D (va_A wc sz)) 0 0 (va_A wc sz) := by
  obtain ⟨hB, b, qL, qS, qX, rd, rr, RL, RS, RX, hn, hV, oL, oS, oX, rfl⟩ := hC
  exact to_QaI (fun r hr => ⟨hr.trans (out_c hn oL.1 hV), ⟨hB, b, qL, qS, qX, _, _, _, _, _, hn, hV, oL, oS, oX, rfl⟩⟩) (L_outcome l D cI cJ cZ sz x hB b qL qS qX n Bk hv rd rr RL RS RX k oL.1)
set_option maxHeartbeats 1000000 in
set_option maxRecDepth 100000 in
theorem A_of (l : Launch) (D : va_G) (cI cJ cZ : ClassId) (sz x n : Nat) (Bk : Nat → Nat → Int32) (hv : Int32) (V : VW) (wc : va_W) (hC : CI cI cJ cZ x n Bk hv V wc) (k w : Int32) : Met l yX4_of wsX4_of ({ frames := 2, cells := 0, slots := 0, locals := 43 }) (PcRW [.ref x, .int k, .int w] sz D cI cJ cZ wc) (QaI (fun r w9 => r = ansF n hv V k w ∧ CI cI cJ cZ x n Bk hv V w9) D (va_A wc sz)) 0 0 (va_A wc sz) := by
  obtain ⟨hB, b, qL, qS, qX, rd, rr, RL, RS, RX, hn, hV, oL, oS, oX, rfl⟩ := hC
  exact to_QaI (fun r hr => ⟨hr.trans (of_c hn oL.1 hV), ⟨hB, b, qL, qS, qX, _, _, _, _, _, hn, hV, oL, oS, oX, rfl⟩⟩) (L_of l D cI cJ cZ sz x hB b qL qS qX n Bk hv rd rr RL RS RX k w oL.1)
set_option maxHeartbeats 1000000 in
set_option maxRecDepth 100000 in
theorem A_amount (l : Launch) (D : va_G) (cI cJ cZ : ClassId) (sz x n : Nat) (Bk : Nat → Nat → Int32) (hv : Int32) (V : VW) (wc : va_W) (hC : CI cI cJ cZ x n Bk hv V wc) (key : Int32) : Met l yX4_amount wsX4_amount ({ frames := 2, cells := 0, slots := 0, locals := 44 }) (PcRW [.ref x, .int key] sz D cI cJ cZ wc) (QaL (fun r w9 => r = ansA hv V key ∧ CI cI cJ cZ x n Bk hv V w9) D (va_A wc sz)) 0 0 (va_A wc sz) := by
  obtain ⟨hB, b, qL, qS, qX, rd, rr, RL, RS, RX, hn, hV, oL, oS, oX, rfl⟩ := hC
  exact to_QaL (fun r hr => ⟨hr.trans (amt_c hV), ⟨hB, b, qL, qS, qX, _, _, _, _, _, hn, hV, oL, oS, oX, rfl⟩⟩) (L_amount l D cI cJ cZ sz x hB b qL qS qX n Bk hv rd rr RL RS RX oL.1 key)
set_option maxHeartbeats 1000000 in
set_option maxRecDepth 100000 in
theorem A_behind (l : Launch) (D : va_G) (cI cJ cZ : ClassId) (sz x n : Nat) (Bk : Nat → Nat → Int32) (hv : Int32) (V : VW) (wc : va_W) (hC : CI cI cJ cZ x n Bk hv V wc) (v key : Int32) : Met l yX4_behind wsX4_behind ({ frames := 2, cells := 0, slots := 0, locals := 44 }) (PcRW [.ref x, .int v, .int key] sz D cI cJ cZ wc) (QaL (fun r w9 => r = ansB hv V v key ∧ CI cI cJ cZ x n Bk hv V w9) D (va_A wc sz)) 0 0 (va_A wc sz) := by
  obtain ⟨hB, b, qL, qS, qX, rd, rr, RL, RS, RX, hn, hV, oL, oS, oX, rfl⟩ := hC
  exact to_QaL (fun r hr => ⟨hr.trans (beh_c oL.1 hV), ⟨hB, b, qL, qS, qX, _, _, _, _, _, hn, hV, oL, oS, oX, rfl⟩⟩) (L_behind l D cI cJ cZ sz x hB b qL qS qX n Bk hv rd rr RL RS RX oL.1 v key)
set_option maxHeartbeats 1000000 in
set_option maxRecDepth 100000 in
theorem A_run (l : Launch) (D : va_G) (cI cJ cZ : ClassId) (sz x n : Nat) (Bk : Nat → Nat → Int32) (hv : Int32) (V : VW) (wc : va_W) (hC : CI cI cJ cZ x n Bk hv V wc) (xc xw seed xr : Int32) : Met l yX4_run wsX4_run ({ frames := 6, cells := 0, slots := 0, locals := 146 }) (PcRW [.ref x, .int xc, .int xw, .int seed, .int xr] sz D cI cJ cZ wc) (QaI (fun r w9 => RuC n Bk xc xw seed xr r (CI cI cJ cZ x n Bk hv V w9) (fun V1 => CI cI cJ cZ x n Bk 1 V1 w9)) D (va_A wc sz)) 0 0 (va_A wc sz) := by
  obtain ⟨hB, b, qL, qS, qX, rd, rr, RL, RS, RX, hn, hV, oL, oS, oX, rfl⟩ := hC
  by_cases hg : ¬ wi xc 0 (nI n) = 0 ∧ ¬ wi xw 1 16 = 0 ∧ ¬ wi xr 1 40 = 0
  · obtain ⟨cl, hcl, rfl⟩ := wi_natn (n := n) (by omega) hg.1
    obtain ⟨wk, hwk, rfl⟩ := wi_nat1 (n := 16) (by decide) hg.2.1
    obtain ⟨rm, hrm, rfl⟩ := wi_nat1 (n := 40) (by decide) hg.2.2
    obtain ⟨c1, hc1⟩ : ∃ c1, runF cl rm (Bk 1) (Bk 2) (Bk 4) (Bk 5) (Bk 0) (Bk 3) wk seed (0, 0, 0, 0, 0, 0, 0, 0, (RS.2.2.1 0), (RS.2.2.1 1), (RS.2.2.2 0), (RS.2.2.2 1), (RS.2.2.1 2), (RS.2.2.1 3), (RS.2.2.2 2), (RS.2.2.2 3), (RS.2.2.1 4), (RS.2.2.1 5), (RS.2.2.1 6), (RS.2.2.1 7), (RS.2.2.1 8), 0, 0, (RS.2.2.1 9), (RS.2.2.1 10), (RS.2.2.1 11)) = c1 := ⟨_, rfl⟩
    have hwf : WFc cl c1 := by rw [← hc1]; exact run_WF (by omega) hwk.2 oS.2
    obtain ⟨kp1, tk1, bg1, an1, dm1, uw1, mu1, id_1, st1, sl1, ra1, rb1, ca1, cb1, ga1, gb1, oc1, tb1, fb1, ka1, eb1, sd1, lf1, pr1, ho1, be1⟩ := c1
    by_cases hk : kp1 = cl
    · exact to_QaI (fun r hr => Or.inr ⟨hg, cl, wk, rm, _, _, hcl, hwk.1, hwk.2, hrm.2, rfl, rfl, rfl, hc1, Or.inl ⟨hk, hr, fun V1 hV1 => ⟨hB, b, qS, qL, qX, _, _, _, _, _, hn, fun _ => VCr_run hcl hV1, ⟨by show cl ≤ 40; omega, hwf.2.2.2⟩, oL, oX, rfl⟩⟩⟩) (L_run_ok l D cI cJ cZ sz x hB b qL qS qX n Bk hv rd rr RL RS RX cl rm wk seed kp1 tk1 bg1 an1 dm1 uw1 mu1 id_1 st1 sl1 ra1 rb1 ca1 cb1 ga1 gb1 oc1 tb1 fb1 ka1 eb1 sd1 lf1 pr1 ho1 be1 hn (by omega) hrm.2 hwk oS.2 hc1 hg hk)
    · exact to_QaI (fun r hr => Or.inr ⟨hg, cl, wk, rm, _, _, hcl, hwk.1, hwk.2, hrm.2, rfl, rfl, rfl, hc1, Or.inr ⟨hk, hr, hB, b, qL, qS, qX, _, _, _, _, _, hn, hV, oL, ⟨by show cl ≤ 40; omega, hwf.2.2.2⟩, oX, rfl⟩⟩) (L_run_ref l D cI cJ cZ sz x hB b qL qS qX n Bk hv rd rr RL RS RX cl rm wk seed kp1 tk1 bg1 an1 dm1 uw1 mu1 id_1 st1 sl1 ra1 rb1 ca1 cb1 ga1 gb1 oc1 tb1 fb1 ka1 eb1 sd1 lf1 pr1 ho1 be1 hn (by omega) hrm.2 hwk oS.2 hc1 hg hk)
  · exact to_QaI (fun r hr => Or.inl ⟨hg, hr, ⟨hB, b, qL, qS, qX, _, _, _, _, _, hn, hV, oL, oS, oX, rfl⟩⟩) (L_run_bad l D cI cJ cZ sz x hB b qL qS qX n Bk hv rd rr RL RS RX xc xw seed xr hg)
set_option maxHeartbeats 1000000 in
set_option maxRecDepth 100000 in
theorem A_same (l : Launch) (D : va_G) (cI cJ cZ : ClassId) (sz x n : Nat) (Bk : Nat → Nat → Int32) (hv : Int32) (V : VW) (wc : va_W) (hC : CI cI cJ cZ x n Bk hv V wc) (xw seed yw seed2 : Int32) : Met l yX4_same wsX4_same ({ frames := 6, cells := 0, slots := 0, locals := 146 }) (PcRW [.ref x, .int xw, .int seed, .int yw, .int seed2] sz D cI cJ cZ wc) (QaI (fun r w9 => SmC n Bk xw seed yw seed2 r ∧ CI cI cJ cZ x n Bk hv V w9) D (va_A wc sz)) 0 0 (va_A wc sz) := by
  obtain ⟨hB, b, qL, qS, qX, rd, rr, RL, RS, RX, hn, hV, oL, oS, oX, rfl⟩ := hC
  by_cases hg : ¬ wi xw 1 16 = 0 ∧ ¬ wi yw 1 16 = 0
  · obtain ⟨wk, hwk, rfl⟩ := wi_nat1 (n := 16) (by decide) hg.1
    obtain ⟨wk2, hwk2, rfl⟩ := wi_nat1 (n := 16) (by decide) hg.2
    obtain ⟨c1, hc1⟩ : ∃ c1, runF n 40 (Bk 1) (Bk 2) (Bk 4) (Bk 5) (Bk 0) (Bk 3) wk seed (0, 0, 0, 0, 0, 0, 0, 0, (RS.2.2.1 0), (RS.2.2.1 1), (RS.2.2.2 0), (RS.2.2.2 1), (RS.2.2.1 2), (RS.2.2.1 3), (RS.2.2.2 2), (RS.2.2.2 3), (RS.2.2.1 4), (RS.2.2.1 5), (RS.2.2.1 6), (RS.2.2.1 7), (RS.2.2.1 8), 0, 0, (RS.2.2.1 9), (RS.2.2.1 10), (RS.2.2.1 11)) = c1 := ⟨_, rfl⟩
    obtain ⟨c3, hc3⟩ : ∃ c3, runF n 40 (Bk 1) (Bk 2) (Bk 4) (Bk 5) (Bk 0) (Bk 3) wk2 seed2 (0, 0, 0, 0, 0, 0, 0, 0, (RX.2.2.1 0), (RX.2.2.1 1), (RX.2.2.2 0), (RX.2.2.2 1), (RX.2.2.1 2), (RX.2.2.1 3), (RX.2.2.2 2), (RX.2.2.2 3), (RX.2.2.1 4), (RX.2.2.1 5), (RX.2.2.1 6), (RX.2.2.1 7), (RX.2.2.1 8), 0, 0, (RX.2.2.1 9), (RX.2.2.1 10), (RX.2.2.1 11)) = c3 := ⟨_, rfl⟩
    have hwf1 : WFc n c1 := by rw [← hc1]; exact run_WF hn hwk.2 oS.2
    have hwf3 : WFc n c3 := by rw [← hc3]; exact run_WF hn hwk2.2 oX.2
    obtain ⟨kp1, tk1, bg1, an1, dm1, uw1, mu1, id_1, st1, sl1, ra1, rb1, ca1, cb1, ga1, gb1, oc1, tb1, fb1, ka1, eb1, sd1, lf1, pr1, ho1, be1⟩ := c1
    obtain ⟨kp3, tk3, bg3, an3, dm3, uw3, mu3, id_3, st3, sl3, ra3, rb3, ca3, cb3, ga3, gb3, oc3, tb3, fb3, ka3, eb3, sd3, lf3, pr3, ho3, be3⟩ := c3
    by_cases hk : kp1 = n
    · by_cases hk3 : kp3 = n
      · exact to_QaI (fun r hr => ⟨Or.inr ⟨hg, wk, wk2, _, _, _, _, hwk.1, hwk.2, hwk2.1, hwk2.2, rfl, rfl, hc1, hc3, Or.inr (Or.inr ⟨hk, hk3, hr⟩)⟩, hB, b, qL, qS, qX, _, _, _, _, _, hn, hV, oL, ⟨hn, hwf1.2.2.2⟩, ⟨hn, hwf3.2.2.2⟩, rfl⟩) (L_same_ok l D cI cJ cZ sz x hB b qL qS qX n Bk hv rd rr RL RS RX wk wk2 seed seed2 kp1 tk1 bg1 an1 dm1 uw1 mu1 id_1 st1 sl1 ra1 rb1 ca1 cb1 ga1 gb1 oc1 tb1 fb1 ka1 eb1 sd1 lf1 pr1 ho1 be1 kp3 tk3 bg3 an3 dm3 uw3 mu3 id_3 st3 sl3 ra3 rb3 ca3 cb3 ga3 gb3 oc3 tb3 fb3 ka3 eb3 sd3 lf3 pr3 ho3 be3 hn hwk hwk2 oS.2 oX.2 hc1 hc3 hg hk hk3)
      · exact to_QaI (fun r hr => ⟨Or.inr ⟨hg, wk, wk2, _, _, _, _, hwk.1, hwk.2, hwk2.1, hwk2.2, rfl, rfl, hc1, hc3, Or.inr (Or.inl ⟨hk3, hr⟩)⟩, hB, b, qL, qS, qX, _, _, _, _, _, hn, hV, oL, ⟨hn, hwf1.2.2.2⟩, ⟨hn, hwf3.2.2.2⟩, rfl⟩) (L_same_r2 l D cI cJ cZ sz x hB b qL qS qX n Bk hv rd rr RL RS RX wk wk2 seed seed2 kp1 tk1 bg1 an1 dm1 uw1 mu1 id_1 st1 sl1 ra1 rb1 ca1 cb1 ga1 gb1 oc1 tb1 fb1 ka1 eb1 sd1 lf1 pr1 ho1 be1 kp3 tk3 bg3 an3 dm3 uw3 mu3 id_3 st3 sl3 ra3 rb3 ca3 cb3 ga3 gb3 oc3 tb3 fb3 ka3 eb3 sd3 lf3 pr3 ho3 be3 hn hwk hwk2 oS.2 oX.2 hc1 hc3 hg hk hk3)
    · exact to_QaI (fun r hr => ⟨Or.inr ⟨hg, wk, wk2, _, _, _, _, hwk.1, hwk.2, hwk2.1, hwk2.2, rfl, rfl, hc1, hc3, Or.inl ⟨hk, hr⟩⟩, hB, b, qL, qS, qX, _, _, _, _, _, hn, hV, oL, ⟨hn, hwf1.2.2.2⟩, oX, rfl⟩) (L_same_r1 l D cI cJ cZ sz x hB b qL qS qX n Bk hv rd rr RL RS RX wk wk2 seed seed2 kp1 tk1 bg1 an1 dm1 uw1 mu1 id_1 st1 sl1 ra1 rb1 ca1 cb1 ga1 gb1 oc1 tb1 fb1 ka1 eb1 sd1 lf1 pr1 ho1 be1 kp3 tk3 bg3 an3 dm3 uw3 mu3 id_3 st3 sl3 ra3 rb3 ca3 cb3 ga3 gb3 oc3 tb3 fb3 ka3 eb3 sd3 lf3 pr3 ho3 be3 hn hwk hwk2 oS.2 oX.2 hc1 hc3 hg hk)
  · exact to_QaI (fun r hr => ⟨Or.inl ⟨hg, hr⟩, ⟨hB, b, qL, qS, qX, _, _, _, _, _, hn, hV, oL, oS, oX, rfl⟩⟩) (L_same_bad l D cI cJ cZ sz x hB b qL qS qX n Bk hv rd rr RL RS RX xw seed yw seed2 hg)
