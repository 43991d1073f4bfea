def MI (cI cJ cZ : ClassId) (y n : Nat) (Bk : Nat → Nat → Int32) (hs : Int32) (V : VW) (wm : va_W) : Prop := ∃ (d : Nat → Nat) (th ru rf : Int32) (F : Nat → Nat → Int32) (G : Nat → Nat → Int64), n ≤ 40 ∧ Bk = mkB F ∧ (∀ w, w < 16 → F 32 w = -1 ∨ ∃ k, k < 40 ∧ F 32 w = nI k) ∧ okB n (mkB F) ∧ (∃ cl, cl ≤ 40 ∧ F 11 0 = nI cl) ∧ (hs ≠ 0 → VMr V F G) ∧ wm = mW cI cJ cZ y d th n ru rf hs F G
theorem upd_k8 {f : Nat → Int32} {n : Nat} {x : Int32} (h : ∀ i, i < n → ∃ a, a < 8 ∧ f i = nI a) (hx : ∃ a, a < 8 ∧ x = nI a) : ∀ i, i < n + 1 → ∃ a, a < 8 ∧ upd f n x i = nI a := by
  intro i hi
  by_cases h1 : i = n
  · subst h1; rw [upd_s]; exact hx
  · rw [upd_ne h1]; exact h i (by omega)
theorem upd_k9 {f : Nat → Int32} {n : Nat} {x : Int32} (h : ∀ i, i < n → ∃ j, 1 ≤ j ∧ j ≤ 9 ∧ f i = nI j) (hx : ∃ j, 1 ≤ j ∧ j ≤ 9 ∧ x = nI j) : ∀ i, i < n + 1 → ∃ j, 1 ≤ j ∧ j ≤ 9 ∧ upd f n x i = nI j := by
  intro i hi
  by_cases h1 : i = n
  · subst h1; rw [upd_s]; exact hx
  · rw [upd_ne h1]; exact h i (by omega)
theorem k8_of {v : Int32} (h : ¬ wi v 0 7 = 0) : ∃ a, a < 8 ∧ v = nI a := by
  obtain ⟨j, hj, e⟩ := wi_nat (n := 7) (by decide) h
  exact ⟨j, by omega, e⟩
theorem k9_of {v : Int32} (h : ¬ wi v 1 9 = 0) : ∃ j, 1 ≤ j ∧ j ≤ 9 ∧ v = nI j := by
  obtain ⟨j, hj, e⟩ := wi_nat1 (n := 9) (by decide) h
  exact ⟨j, hj.1, hj.2, e⟩
theorem okB_call {F : Nat → Nat → Int32} {n : Nat} {xo xa xb xc xs : Int32} (h : okB n (mkB F)) (hg : callG xo xa xb xc xs) : okB (n + 1) (mkB (updM F n xo xa xb xc xs)) := ⟨upd_k8 (f := F 3) h.1 (k8_of hg.2.1), upd_k8 (f := F 4) h.2.1 (k8_of hg.2.2.1), upd_k9 (f := F 6) h.2.2 (k9_of hg.2.2.2.2)⟩
theorem VMr_f {V : VW} {F : Nat → Nat → Int32} {G : Nat → Nat → Int64} : ∀ {m : MS}, VMr V F G → VMr V (fOf F m) (gOf G m) := by
  rintro ⟨td, se, nb, nf, nk, nw, nv, xa, xb, ya, yb, za, zb, am, cf, sf, bf, ig⟩ h
  exact h
set_option maxHeartbeats 1000000 in
set_option maxRecDepth 100000 in
theorem B_call (l : Launch) (D : va_G) (cI cJ cZ : ClassId) (sz y n0 : Nat) (Bk : Nat → Nat → Int32) (hs : Int32) (V : VW) (wm : va_W) (hM : MI cI cJ cZ y n0 Bk hs V wm) (xo xa xb xc xs : Int32) : Met l yX5_call wsX5_call ({ frames := 1, cells := 0, slots := 0, locals := 22 }) (PcRW [.ref y, .int xo, .int xa, .int xb, .int xc, .int xs] sz D cI cJ cZ wm) (QaI (fun r w9 => ∃ n1 B1, CR n0 Bk xo xa xb xc xs r n1 B1 ∧ MI cI cJ cZ y n1 B1 hs V w9) D (va_A wm sz)) 0 0 (va_A wm sz) := by
  obtain ⟨d, th, ru, rf, F, G, hn, rfl, hcf, hB, ⟨cl, hcl, hfg⟩, hV, rfl⟩ := hM
  by_cases hg : callG xo xa xb xc xs
  · by_cases h40 : n0 < 40
    · exact to_QaI (fun r hr => ⟨n0 + 1, _, Or.inl ⟨hg, h40, hr, rfl, rfl⟩, d, _, _, _, updM F n0 xo xa xb xc xs, G, by omega, mkB_call, hcf, okB_call hB hg, ⟨cl, hcl, hfg⟩, fun z => hV z, rfl⟩) (Q_call_ok l D cI cJ cZ sz y d th n0 ru rf hs F G h40 xo xa xb xc xs hg)
    · obtain rfl : n0 = 40 := by omega
      exact to_QaI (fun r hr => ⟨40, _, Or.inr (Or.inl ⟨hg, h40, hr, rfl, rfl⟩), ⟨d, _, _, _, F, G, hn, rfl, hcf, hB, ⟨cl, hcl, hfg⟩, hV, rfl⟩⟩) (Q_call_full l D cI cJ cZ sz y d th ru rf hs F G xo xa xb xc xs hg)
  · exact to_QaI (fun r hr => ⟨n0, _, Or.inr (Or.inr ⟨hg, hr, rfl, rfl⟩), ⟨d, _, _, _, F, G, hn, rfl, hcf, hB, ⟨cl, hcl, hfg⟩, hV, rfl⟩⟩) (Q_call_bad l D cI cJ cZ sz y d th n0 ru rf hs F G xo xa xb xc xs hg)
set_option maxHeartbeats 1000000 in
set_option maxRecDepth 100000 in
theorem B_clear (l : Launch) (D : va_G) (cI cJ cZ : ClassId) (sz y n0 : Nat) (Bk : Nat → Nat → Int32) (hs : Int32) (V : VW) (wm : va_W) (hM : MI cI cJ cZ y n0 Bk hs V wm)  : Met l yX5_clear wsX5_clear ({ frames := 0, cells := 0, slots := 0, locals := 0 }) (PcRW [.ref y] sz D cI cJ cZ wm) (QaI (fun r w9 => r = nI n0 ∧ MI cI cJ cZ y 0 Bk 0 V w9) D (va_A wm sz)) 0 0 (va_A wm sz) := by
  obtain ⟨d, th, ru, rf, F, G, hn, rfl, hcf, hB, ⟨cl, hcl, hfg⟩, hV, rfl⟩ := hM
  exact to_QaI (fun r hr => ⟨hr, d, _, _, _, F, G, by omega, rfl, hcf, ⟨fun i hi => absurd hi (by omega), fun i hi => absurd hi (by omega), fun i hi => absurd hi (by omega)⟩, ⟨cl, hcl, hfg⟩, fun z => absurd rfl z, rfl⟩) (Q_clear l D cI cJ cZ sz y d th n0 ru rf hs F G)
set_option maxHeartbeats 1000000 in
set_option maxRecDepth 100000 in
theorem B_gone (l : Launch) (D : va_G) (cI cJ cZ : ClassId) (sz y n0 : Nat) (Bk : Nat → Nat → Int32) (hs : Int32) (V : VW) (wm : va_W) (hM : MI cI cJ cZ y n0 Bk hs V wm) (w v : Int32) : Met l yX5_gone wsX5_gone ({ frames := 1, cells := 0, slots := 0, locals := 22 }) (PcRW [.ref y, .int w, .int v] sz D cI cJ cZ wm) (QaI (fun r w9 => ∃ B1, GR Bk w v r B1 ∧ MI cI cJ cZ y n0 B1 hs V w9) D (va_A wm sz)) 0 0 (va_A wm sz) := by
  obtain ⟨d, th, ru, rf, F, G, hn, rfl, hcf, hB, ⟨cl, hcl, hfg⟩, hV, rfl⟩ := hM
  by_cases hg : ¬ wi w 0 15 = 0 ∧ ¬ wi v 0 99 = 0
  · obtain ⟨j, hj, rfl⟩ := wi_nat (n := 15) (by decide) hg.1
    exact to_QaI (fun r hr => ⟨_, Or.inl ⟨hg, j, by omega, rfl, hr, rfl⟩, d, _, _, _, updMG F j v, G, hn, mkB_gone, hcf, hB, ⟨cl, hcl, hfg⟩, fun z => hV z, rfl⟩) (Q_gone_ok l D cI cJ cZ sz y d th n0 ru rf hs F G j (by omega) v hg)
  · exact to_QaI (fun r hr => ⟨_, Or.inr ⟨hg, hr, rfl⟩, ⟨d, _, _, _, F, G, hn, rfl, hcf, hB, ⟨cl, hcl, hfg⟩, hV, rfl⟩⟩) (Q_gone_bad l D cI cJ cZ sz y d th n0 ru rf hs F G w v hg)
set_option maxHeartbeats 1000000 in
set_option maxRecDepth 100000 in
theorem B_count (l : Launch) (D : va_G) (cI cJ cZ : ClassId) (sz y n0 : Nat) (Bk : Nat → Nat → Int32) (hs : Int32) (V : VW) (wm : va_W) (hM : MI cI cJ cZ y n0 Bk hs V wm) (w : Int32) : Met l yX5_count wsX5_count ({ frames := 0, cells := 0, slots := 0, locals := 0 }) (PcRW [.ref y, .int w] sz D cI cJ cZ wm) (QaI (fun _ w9 => MI cI cJ cZ y n0 Bk hs V w9) D (va_A wm sz)) 0 0 (va_A wm sz) := by
  obtain ⟨d, th, ru, rf, F, G, hn, rfl, hcf, hB, ⟨cl, hcl, hfg⟩, hV, rfl⟩ := hM
  exact to_QaI (fun r hr => ⟨d, _, _, _, F, G, hn, rfl, hcf, hB, ⟨cl, hcl, hfg⟩, hV, rfl⟩) (Q_count l D cI cJ cZ sz y d th n0 ru rf hs F G w)
set_option maxHeartbeats 1000000 in
set_option maxRecDepth 100000 in
theorem B_told (l : Launch) (D : va_G) (cI cJ cZ : ClassId) (sz y n0 : Nat) (Bk : Nat → Nat → Int32) (hs : Int32) (V : VW) (wm : va_W) (hM : MI cI cJ cZ y n0 Bk hs V wm) (w : Int32) : Met l yX5_told wsX5_told ({ frames := 1, cells := 0, slots := 0, locals := 22 }) (PcRW [.ref y, .int w] sz D cI cJ cZ wm) (QaI (fun r w9 => r = ansT hs V w ∧ MI cI cJ cZ y n0 Bk hs V w9) D (va_A wm sz)) 0 0 (va_A wm sz) := by
  obtain ⟨d, th, ru, rf, F, G, hn, rfl, hcf, hB, ⟨cl, hcl, hfg⟩, hV, rfl⟩ := hM
  exact to_QaI (fun r hr => ⟨hr.trans (told_m hV), ⟨d, _, _, _, F, G, hn, rfl, hcf, hB, ⟨cl, hcl, hfg⟩, hV, rfl⟩⟩) (Q_told l D cI cJ cZ sz y d th n0 ru rf hs F G w)
set_option maxHeartbeats 1000000 in
set_option maxRecDepth 100000 in
theorem B_outcome (l : Launch) (D : va_G) (cI cJ cZ : ClassId) (sz y n0 : Nat) (Bk : Nat → Nat → Int32) (hs : Int32) (V : VW) (wm : va_W) (hM : MI cI cJ cZ y n0 Bk hs V wm) (k : Int32) : Met l yX5_outcome wsX5_outcome ({ frames := 1, cells := 0, slots := 0, locals := 22 }) (PcRW [.ref y, .int k] sz D cI cJ cZ wm) (QaI (fun r w9 => r = ansO n0 hs V k ∧ MI cI cJ cZ y n0 Bk hs V w9) D (va_A wm sz)) 0 0 (va_A wm sz) := by
  obtain ⟨d, th, ru, rf, F, G, hn, rfl, hcf, hB, ⟨cl, hcl, hfg⟩, hV, rfl⟩ := hM
  exact to_QaI (fun r hr => ⟨hr.trans (out_m hn hV), ⟨d, _, _, _, F, G, hn, rfl, hcf, hB, ⟨cl, hcl, hfg⟩, hV, rfl⟩⟩) (Q_outcome l D cI cJ cZ sz y d th n0 ru rf hs F G k hn)
set_option maxHeartbeats 1000000 in
set_option maxRecDepth 100000 in
theorem B_of (l : Launch) (D : va_G) (cI cJ cZ : ClassId) (sz y n0 : Nat) (Bk : Nat → Nat → Int32) (hs : Int32) (V : VW) (wm : va_W) (hM : MI cI cJ cZ y n0 Bk hs V wm) (k w : Int32) : Met l yX5_of wsX5_of ({ frames := 1, cells := 0, slots := 0, locals := 22 }) (PcRW [.ref y, .int k, .int w] sz D cI cJ cZ wm) (QaI (fun r w9 => r = ansF n0 hs V k w ∧ MI cI cJ cZ y n0 Bk hs V w9) D (va_A wm sz)) 0 0 (va_A wm sz) := by
  obtain ⟨d, th, ru, rf, F, G, hn, rfl, hcf, hB, ⟨cl, hcl, hfg⟩, hV, rfl⟩ := hM
  exact to_QaI (fun r hr => ⟨hr.trans (of_m hn hV), ⟨d, _, _, _, F, G, hn, rfl, hcf, hB, ⟨cl, hcl, hfg⟩, hV, rfl⟩⟩) (Q_of l D cI cJ cZ sz y d th n0 ru rf hs F G k w hn)
set_option maxHeartbeats 1000000 in
set_option maxRecDepth 100000 in
theorem B_amount (l : Launch) (D : va_G) (cI cJ cZ : ClassId) (sz y n0 : Nat) (Bk : Nat → Nat → Int32) (hs : Int32) (V : VW) (wm : va_W) (hM : MI cI cJ cZ y n0 Bk hs V wm) (key : Int32) : Met l yX5_amount wsX5_amount ({ frames := 1, cells := 0, slots := 0, locals := 22 }) (PcRW [.ref y, .int key] sz D cI cJ cZ wm) (QaL (fun r w9 => r = ansA hs V key ∧ MI cI cJ cZ y n0 Bk hs V w9) D (va_A wm sz)) 0 0 (va_A wm sz) := by
  obtain ⟨d, th, ru, rf, F, G, hn, rfl, hcf, hB, ⟨cl, hcl, hfg⟩, hV, rfl⟩ := hM
  exact to_QaL (fun r hr => ⟨hr.trans (amt_m hcl hfg hV), ⟨d, _, _, _, F, G, hn, rfl, hcf, hB, ⟨cl, hcl, hfg⟩, hV, rfl⟩⟩) (Q_amount l D cI cJ cZ sz y d th n0 ru rf hs F G cl key hcl hfg)
set_option maxHeartbeats 1000000 in
set_option maxRecDepth 100000 in
theorem B_behind (l : Launch) (D : va_G) (cI cJ cZ : ClassId) (sz y n0 : Nat) (Bk : Nat → Nat → Int32) (hs : Int32) (V : VW) (wm : va_W) (hM : MI cI cJ cZ y n0 Bk hs V wm) (v key : Int32) : Met l yX5_behind wsX5_behind ({ frames := 1, cells := 0, slots := 0, locals := 22 }) (PcRW [.ref y, .int v, .int key] sz D cI cJ cZ wm) (QaL (fun r w9 => r = ansB hs V v key ∧ MI cI cJ cZ y n0 Bk hs V w9) D (va_A wm sz)) 0 0 (va_A wm sz) := by
  obtain ⟨d, th, ru, rf, F, G, hn, rfl, hcf, hB, ⟨cl, hcl, hfg⟩, hV, rfl⟩ := hM
  exact to_QaL (fun r hr => ⟨hr.trans (beh_m hV), ⟨d, _, _, _, F, G, hn, rfl, hcf, hB, ⟨cl, hcl, hfg⟩, hV, rfl⟩⟩) (Q_behind l D cI cJ cZ sz y d th n0 ru rf hs F G cl v key hcl hfg)
set_option maxHeartbeats 1000000 in
set_option maxRecDepth 100000 in
theorem B_run (l : Launch) (D : va_G) (cI cJ cZ : ClassId) (sz y n0 : Nat) (Bk : Nat → Nat → Int32) (hs : Int32) (V : VW) (wm : va_W) (hM : MI cI cJ cZ y n0 Bk hs V wm) (xc xw seed xr : Int32) : Met l yX5_run wsX5_run ({ frames := 3, cells := 0, slots := 0, locals := 79 }) (PcRW [.ref y, .int xc, .int xw, .int seed, .int xr] sz D cI cJ cZ wm) (QaI (fun r w9 => okB n0 Bk ∧ RuM n0 Bk xc xw seed xr r (MI cI cJ cZ y n0 Bk hs V w9) (fun V1 => MI cI cJ cZ y n0 Bk 1 V1 w9)) D (va_A wm sz)) 0 0 (va_A wm sz) := by
  obtain ⟨d, th, ru, rf, F, G, hn, rfl, hcf, hB, ⟨cl, hcl, hfg⟩, hV, rfl⟩ := hM
  by_cases hg : ¬ wi xc 0 (nI n0) = 0 ∧ ¬ wi xw 1 16 = 0 ∧ ¬ wi xr 1 40 = 0
  · obtain ⟨n, hn1, rfl⟩ := wi_natn (n := n0) (by omega) hg.1
    obtain ⟨wk, hwk, rfl⟩ := wi_nat1 (n := 16) (by decide) hg.2.1
    obtain ⟨rm, hrm, rfl⟩ := wi_nat1 (n := 40) (by decide) hg.2.2
    obtain ⟨q1, hq1⟩ : ∃ q1, rRun n wk rm (F 2) (F 3) (F 4) (F 5) (F 6) (F 7) seed ((F 18), (F 19), (F 20), (F 21), (F 22), (F 23), (F 24), (G 25), (G 26), (F 27), (F 28), (G 29), (G 30), (G 31), (F 32), (F 33), (F 34), (F 35)) = q1 := ⟨_, rfl⟩
    have hwg : WG n q1.2 := by rw [← hq1]; exact run_WG (by omega) hcf
    have h01 : q1.1 = 0 ∨ q1.1 = 1 := by rw [← hq1]; exact go_01 _ _ _ _
    obtain ⟨res, td1, se1, nb1, nf1, nk1, nw1, nv1, xa1, xb1, ya1, yb1, za1, zb1, am1, cf1, sf1, bf1, ig1⟩ := q1
    rcases h01 with z | z
    · obtain rfl : res = 0 := z
      exact to_QaI (fun r hr => ⟨hB, Or.inr ⟨hg, n, wk, rm, _, _, hn1, hwk.1, hwk.2, hrm.2, rfl, rfl, rfl, hq1, Or.inr ⟨rfl, hr, d, _, _, _, fOf F (td1, se1, nb1, nf1, nk1, nw1, nv1, xa1, xb1, ya1, yb1, za1, zb1, am1, cf1, sf1, bf1, ig1), gOf G (td1, se1, nb1, nf1, nk1, nw1, nv1, xa1, xb1, ya1, yb1, za1, zb1, am1, cf1, sf1, bf1, ig1), hn, mkB_fOf.symm, hwg.1, hB, ⟨cl, hcl, hfg⟩, fun z => VMr_f (hV z), rfl⟩⟩⟩) (Q_run_ref l D cI cJ cZ sz y d th n0 ru rf hs F G n wk rm seed td1 se1 nb1 nf1 nk1 nw1 nv1 xa1 xb1 ya1 yb1 za1 zb1 am1 cf1 sf1 bf1 ig1 (by omega) hwk hrm.2 hcf (fun i hi => hB.1 i (by omega)) (fun i hi => hB.2.1 i (by omega)) hq1 hg)
    · obtain rfl : res = 1 := z
      exact to_QaI (fun r hr => ⟨hB, Or.inr ⟨hg, n, wk, rm, _, _, hn1, hwk.1, hwk.2, hrm.2, rfl, rfl, rfl, hq1, Or.inl ⟨rfl, hr, fun V1 hV1 => ⟨d, _, _, _, resF n (fOf F (td1, se1, nb1, nf1, nk1, nw1, nv1, xa1, xb1, ya1, yb1, za1, zb1, am1, cf1, sf1, bf1, ig1)), resG n (gOf G (td1, se1, nb1, nf1, nk1, nw1, nv1, xa1, xb1, ya1, yb1, za1, zb1, am1, cf1, sf1, bf1, ig1)), hn, mkB_eq rfl rfl rfl rfl rfl rfl, hwg.1, hB, ⟨n, by omega, (map_lt (by decide)).trans hwg.2⟩, fun _ => VMr_run (by omega) hwg.2 hV1, rfl⟩⟩⟩⟩) (Q_run_ok l D cI cJ cZ sz y d th n0 ru rf hs F G n wk rm seed td1 se1 nb1 nf1 nk1 nw1 nv1 xa1 xb1 ya1 yb1 za1 zb1 am1 cf1 sf1 bf1 ig1 (by omega) hwk hrm.2 hcf (fun i hi => hB.1 i (by omega)) (fun i hi => hB.2.1 i (by omega)) hq1 hg)
  · exact to_QaI (fun r hr => ⟨hB, Or.inl ⟨hg, hr, ⟨d, _, _, _, F, G, hn, rfl, hcf, hB, ⟨cl, hcl, hfg⟩, hV, rfl⟩⟩⟩) (Q_run_bad l D cI cJ cZ sz y d th n0 ru rf hs F G xc xw seed xr hg)
set_option maxHeartbeats 1000000 in
set_option maxRecDepth 100000 in
theorem B_same (l : Launch) (D : va_G) (cI cJ cZ : ClassId) (sz y n0 : Nat) (Bk : Nat → Nat → Int32) (hs : Int32) (V : VW) (wm : va_W) (hM : MI cI cJ cZ y n0 Bk hs V wm) (xw seed yw seed2 : Int32) : Met l yX5_same wsX5_same ({ frames := 3, cells := 0, slots := 0, locals := 79 }) (PcRW [.ref y, .int xw, .int seed, .int yw, .int seed2] sz D cI cJ cZ wm) (QaI (fun r w9 => okB n0 Bk ∧ SmM n0 Bk xw seed yw seed2 r ∧ MI cI cJ cZ y n0 Bk hs V w9) D (va_A wm sz)) 0 0 (va_A wm sz) := by
  obtain ⟨d, th, ru, rf, F, G, hn, rfl, hcf, hB, ⟨cl, hcl, hfg⟩, hV, rfl⟩ := hM
  by_cases hg : ¬ wi xw 1 16 = 0 ∧ ¬ wi yw 1 16 = 0
  · obtain ⟨wk, hwk, rfl⟩ := wi_nat1 (n := 16) (by decide) hg.1
    obtain ⟨wk2, hwk2, rfl⟩ := wi_nat1 (n := 16) (by decide) hg.2
    obtain ⟨q1, hq1⟩ : ∃ q1, rRun n0 wk 40 (F 2) (F 3) (F 4) (F 5) (F 6) (F 7) seed ((F 18), (F 19), (F 20), (F 21), (F 22), (F 23), (F 24), (G 25), (G 26), (F 27), (F 28), (G 29), (G 30), (G 31), (F 32), (F 33), (F 34), (F 35)) = q1 := ⟨_, rfl⟩
    have hwg1 : WG n0 q1.2 := by rw [← hq1]; exact run_WG hn hcf
    have h01 : q1.1 = 0 ∨ q1.1 = 1 := by rw [← hq1]; exact go_01 _ _ _ _
    obtain ⟨res, td1, se1, nb1, nf1, nk1, nw1, nv1, xa1, xb1, ya1, yb1, za1, zb1, am1, cf1, sf1, bf1, ig1⟩ := q1
    obtain ⟨q3, hq3⟩ : ∃ q3, rRun n0 wk2 40 (F 2) (F 3) (F 4) (F 5) (F 6) (F 7) seed2 (td1, se1, nb1, nf1, nk1, nw1, nv1, xa1, xb1, ya1, yb1, za1, zb1, am1, cf1, sf1, bf1, ig1) = q3 := ⟨_, rfl⟩
    have hwg3 : WG n0 q3.2 := by rw [← hq3]; exact run_WG hn hwg1.1
    have h03 : q3.1 = 0 ∨ q3.1 = 1 := by rw [← hq3]; exact go_01 _ _ _ _
    obtain ⟨res3, td3, se3, nb3, nf3, nk3, nw3, nv3, xa3, xb3, ya3, yb3, za3, zb3, am3, cf3, sf3, bf3, ig3⟩ := q3
    rcases h01 with z | z
    · obtain rfl : res = 0 := z
      exact to_QaI (fun r hr => ⟨hB, Or.inr ⟨hg, wk, wk2, _, _, _, _, F 37, G 36, hwk.1, hwk.2, hwk2.1, hwk2.2, rfl, rfl, hq1, hq3, Or.inl ⟨rfl, hr⟩⟩, d, _, _, _, fOf F (td1, se1, nb1, nf1, nk1, nw1, nv1, xa1, xb1, ya1, yb1, za1, zb1, am1, cf1, sf1, bf1, ig1), gOf G (td1, se1, nb1, nf1, nk1, nw1, nv1, xa1, xb1, ya1, yb1, za1, zb1, am1, cf1, sf1, bf1, ig1), hn, mkB_fOf.symm, hwg1.1, hB, ⟨cl, hcl, hfg⟩, fun z => VMr_f (hV z), rfl⟩) (Q_same_r1 l D cI cJ cZ sz y d th n0 ru rf hs F G wk wk2 seed seed2 td1 se1 nb1 nf1 nk1 nw1 nv1 xa1 xb1 ya1 yb1 za1 zb1 am1 cf1 sf1 bf1 ig1 td3 se3 nb3 nf3 nk3 nw3 nv3 xa3 xb3 ya3 yb3 za3 zb3 am3 cf3 sf3 bf3 ig3 hn hwk hwk2 hcf hwg1.1 hB.1 hB.2.1 hg hq1)
    · obtain rfl : res = 1 := z
      rcases h03 with z3 | z3
      · obtain rfl : res3 = 0 := z3
        exact to_QaI (fun r hr => ⟨hB, Or.inr ⟨hg, wk, wk2, _, _, _, _, F 37, G 36, hwk.1, hwk.2, hwk2.1, hwk2.2, rfl, rfl, hq1, hq3, Or.inr (Or.inl ⟨rfl, hr⟩)⟩, d, _, _, _, ownF n0 nv1 (fOf F (td3, se3, nb3, nf3, nk3, nw3, nv3, xa3, xb3, ya3, yb3, za3, zb3, am3, cf3, sf3, bf3, ig3)), ownG n0 am1 (gOf G (td3, se3, nb3, nf3, nk3, nw3, nv3, xa3, xb3, ya3, yb3, za3, zb3, am3, cf3, sf3, bf3, ig3)), hn, mkB_eq rfl rfl rfl rfl rfl rfl, hwg3.1, hB, ⟨cl, hcl, hfg⟩, fun z => hV z, rfl⟩) (Q_same_r2 l D cI cJ cZ sz y d th n0 ru rf hs F G wk wk2 seed seed2 td1 se1 nb1 nf1 nk1 nw1 nv1 xa1 xb1 ya1 yb1 za1 zb1 am1 cf1 sf1 bf1 ig1 td3 se3 nb3 nf3 nk3 nw3 nv3 xa3 xb3 ya3 yb3 za3 zb3 am3 cf3 sf3 bf3 ig3 hn hwk hwk2 hcf hwg1.1 hB.1 hB.2.1 hg hq1 hq3)
      · obtain rfl : res3 = 1 := z3
        exact to_QaI (fun r hr => ⟨hB, Or.inr ⟨hg, wk, wk2, _, _, _, _, F 37, G 36, hwk.1, hwk.2, hwk2.1, hwk2.2, rfl, rfl, hq1, hq3, Or.inr (Or.inr ⟨rfl, rfl, hr⟩)⟩, d, _, _, _, ownF n0 nv1 (fOf F (td3, se3, nb3, nf3, nk3, nw3, nv3, xa3, xb3, ya3, yb3, za3, zb3, am3, cf3, sf3, bf3, ig3)), ownG n0 am1 (gOf G (td3, se3, nb3, nf3, nk3, nw3, nv3, xa3, xb3, ya3, yb3, za3, zb3, am3, cf3, sf3, bf3, ig3)), hn, mkB_eq rfl rfl rfl rfl rfl rfl, hwg3.1, hB, ⟨cl, hcl, hfg⟩, fun z => hV z, rfl⟩) (Q_same_ok l D cI cJ cZ sz y d th n0 ru rf hs F G wk wk2 seed seed2 td1 se1 nb1 nf1 nk1 nw1 nv1 xa1 xb1 ya1 yb1 za1 zb1 am1 cf1 sf1 bf1 ig1 td3 se3 nb3 nf3 nk3 nw3 nv3 xa3 xb3 ya3 yb3 za3 zb3 am3 cf3 sf3 bf3 ig3 hn hwk hwk2 hcf hwg1.1 hB.1 hB.2.1 hg hq1 hq3)
  · exact to_QaI (fun r hr => ⟨hB, Or.inl ⟨hg, hr⟩, ⟨d, _, _, _, F, G, hn, rfl, hcf, hB, ⟨cl, hcl, hfg⟩, hV, rfl⟩⟩) (Q_same_bad l D cI cJ cZ sz y d th n0 ru rf hs F G xw seed yw seed2 hg)
theorem CI_0 {cI cJ cZ : ClassId} {x n : Nat} {Bk : Nat → Nat → Int32} {hv : Int32} {V : VW} {wc : va_W} (h : CI cI cJ cZ x n Bk hv V wc) : n ≤ 40 ∧ ∃ fs, wc[0]? = some (x, .inr (4, fs)) := by
  obtain ⟨hB, b, qL, qS, qX, rd, rr, RL, RS, RX, hn, hV, oL, oS, oX, rfl⟩ := h
  exact ⟨hn, _, rfl⟩
theorem MI_0 {cI cJ cZ : ClassId} {y n : Nat} {Bk : Nat → Nat → Int32} {hs : Int32} {V : VW} {wm : va_W} (h : MI cI cJ cZ y n Bk hs V wm) : ∃ fs, wm[0]? = some (y, .inr (5, fs)) := by
  obtain ⟨d, th, ru, rf, F, G, hn, hbk, hcf, hB, hfg, hV, rfl⟩ := h
  exact ⟨_, rfl⟩
theorem run_law {cI cJ cZ : ClassId} {x y n : Nat} {Bk : Nat → Nat → Int32} {hv : Int32} {V : VW} {xc xw seed xr r r' : Int32} {wc wm : va_W} (hn : n ≤ 40) (h : RuC n Bk xc xw seed xr r (CI cI cJ cZ x n Bk hv V wc) (fun V1 => CI cI cJ cZ x n Bk 1 V1 wc)) (h' : okB n Bk ∧ RuM n Bk xc xw seed xr r' (MI cI cJ cZ y n Bk hv V wm) (fun V1 => MI cI cJ cZ y n Bk 1 V1 wm)) : r = r' ∧ ∃ hv1 V1, CI cI cJ cZ x n Bk hv1 V1 wc ∧ MI cI cJ cZ y n Bk hv1 V1 wm := by
  obtain ⟨e, q⟩ := run_match hn h'.1 h h'.2
  rcases q with q | ⟨V1, q⟩
  · exact ⟨e, hv, V, q⟩
  · exact ⟨e, 1, V1, q⟩
