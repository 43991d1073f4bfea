set_option maxHeartbeats 4000000 in
set_option maxRecDepth 100000 in
theorem m_turnOf (l : Launch) (D : va_G) (cI cJ cZ : ClassId) (y d2 d3 d4 d5 d6 d7 d11 d12 d13 d14 d15 d16 d17 d18 d19 d20 d21 d22 d23 d24 d25 d26 d27 d28 d29 d30 d31 d32 d33 d34 d35 d36 d37 : Nat) (th ru rf hs : Int32) (ig : Nat → Int32) (n : Nat) (j0 wk : Nat) (hj0 : j0 < 65536) (hwk : wk ≤ 16) : Met l yX5_turnOf wsX5_turnOf ({ frames := 0, cells := 0, slots := 0, locals := 0 }) (PcRO [.ref y, .int (nI j0), .int (nI wk)] D cI cJ cZ [(y, .inr (5, [.int th, .int (nI n), .ref d2, .ref d3, .ref d4, .ref d5, .ref d6, .ref d7, .int ru, .int rf, .int hs, .ref d11, .ref d12, .ref d13, .ref d14, .ref d15, .ref d16, .ref d17, .ref d18, .ref d19, .ref d20, .ref d21, .ref d22, .ref d23, .ref d24, .ref d25, .ref d26, .ref d27, .ref d28, .ref d29, .ref d30, .ref d31, .ref d32, .ref d33, .ref d34, .ref d35, .ref d36, .ref d37])), (d35, .inl (cZ, 16, .inl ig))]) (vp_Si (fun r => r = trnI (trn ig wk 17 0 j0))) 0 0 noF := by
  refine Met.ofW (cc := cX5_turnOf) (maxL := 5) (ret := some .int) (by decide) rfl ?_
  intro p e s m args below meth c s₁ B hml hv
  obtain ⟨rfl, hP, hE⟩ := hv
  have hx := B.exec
  have hb := B.bytes
  have hr := B.returns
  have hts := atoms_spec (ws := wsX5_turnOf) B.pre
  have hown : s.vm.findClass RX5 = some m.cls := findClass_of_methodNamed B.named
  have hlocks := B.notSynchronized
  have hK := hE.1
  have hl := lv_entry ([.ref y, .int (nI j0), .int (nI wk)]) (n := 5) (Nat.le_of_ble_eq_true rfl)
  rw [lg_entry_eq]
  generalize (lg_sl ([.ref y, .int (nI j0), .int (nI wk)]) ++ List.replicate (5 - (lg_sl ([.ref y, .int (nI j0), .int (nI wk)])).length) Slot.unset).toArray = ls at hl ⊢
  have hl : lv_has ls 5 [(0, .ref y), (1, .int (nI j0)), (2, .int (nI wk))] := hl
  have hinX5 : ∀ w ∈ u_ws RX5 TX5 38, w ∈ wsX5_turnOf := fun _ h => List.mem_cons_of_mem _ (List.mem_append_right _ h)
  refine lv_iload_n hx hb dX5_turnOf_0 rfl (lv_at hl 1 rfl) ?_
  refine lv_istore_n (lv' := [(3, .int (nI j0)), (0, .ref y), (1, .int (nI j0)), (2, .int (nI wk))]) hx hb dX5_turnOf_1 rfl hl (by decide) rfl (fun ls hl => ?_)
  refine lv_iconst (v := 0) hx hb dX5_turnOf_2 (by decide) ?_
  refine lv_istore (lv' := [(4, .int 0), (3, .int (nI j0)), (0, .ref y), (1, .int (nI j0)), (2, .int (nI wk))]) hx hb dX5_turnOf_3 hl (by decide) rfl (fun ls hl => ?_)
  have loop5 : ∀ (n : Nat) (w j : Nat), (w ≤ wk) → (j < 65536) → (17 ≤ w + n) → (trn ig wk 17 0 j0 = trn ig wk n w j) → ∀ (ls : Array Slot), lv_has ls 5 [(4, .int (nI w)), (3, .int (nI j)), (0, .ref y), (1, .int (nI j0)), (2, .int (nI wk))] → W p l e (headSpec wsX5_turnOf ({ frames := 0, cells := 0, slots := 0, locals := 0 })).room s m ([.ref y, .int (nI j0), .int (nI wk)].toArray) below meth c s.heap [] 0 0 (MQ below (vp_Si (fun r => r = trnI (trn ig wk 17 0 j0))) ([.ref y, .int (nI j0), .int (nI wk)].toArray) s 0 0 noF) (F0 m 5 ls []) := by
    intro n
    induction n with
    | zero =>
      intro w j hw hj hf hinv
      exact absurd hf (by omega)
    | succ n ih5 =>
      intro w j hw hj hf hinv ls hl
      refine lv_iload hx hb dX5_turnOf_5 (lv_at hl 0 rfl) ?_
      refine lv_iload_n hx hb dX5_turnOf_7 rfl (lv_at hl 4 rfl) ?_
      refine lv_icmp_ge (tgt := 37) hx hb dX5_turnOf_8 (by decide) (fun c8 => ?_) (fun c8 => ?_)
      · refine lv_iconst (v := (-1)) hx hb dX5_turnOf_37 (by decide) ?_
        exact W.iret hx hb hr (fun t ht hW => ⟨_, rfl, by rw [hinv]; simp [trn, show ¬ w < wk from fun z => absurd c8 (nI_ge z (by omega)), trnI], ht⟩) (fun q h => by cases h) dX5_turnOf_38
      · have g8 : w < wk := Nat.lt_of_not_le (fun z => c8 (nI_le z (by omega)))
        refine lv_aload_n hx hb dX5_turnOf_11 rfl (lv_at hl 2 rfl) ?_
        refine va_get (D := D) (ci := 5) (v := .ref d35) (C := RX5) (T := TX5) (N := 38) hx hb hts hinX5 hown hK hP 0 rfl rfl 35 (by decide) (hts (.fieldLink RX5 102 "LedgerSharesModel" "isGone" "[Z") (List.mem_of_getElem? (i := 1) rfl)) (fun _ h9 => h9) rfl dX5_turnOf_12 ?_
        refine lv_iload hx hb dX5_turnOf_15 (lv_at hl 0 rfl) ?_
        refine x_zald hx hb hE hP 1 rfl (w) (by omega) (by decide) (rfl) dX5_turnOf_17 ?_
        refine lv_if_ne (tgt := 31) hx hb dX5_turnOf_18 (by decide) (fun c18 => ?_) (fun c18 => ?_)
        · refine lv_iinc (v := nI (w + 1)) (lv' := [(4, .int (nI (w + 1))), (3, .int (nI j)), (0, .ref y), (1, .int (nI j0)), (2, .int (nI wk))]) hx hb dX5_turnOf_31 hl (k := 0) rfl (nI_1 w) (by decide) rfl (fun ls hl => ?_)
          refine lv_goto (tgt := 5) hx hb dX5_turnOf_34 (by decide) ?_
          exact ih5 (w + 1) j (by omega) (by omega) (by omega) (by rw [hinv]; simp [trn, g8, c18]) ls (lv_sub hl [0, 1, 2, 3, 4] rfl)
        · refine lv_iload_n hx hb dX5_turnOf_21 rfl (lv_at hl 1 rfl) ?_
          refine lv_if_ne (tgt := 28) hx hb dX5_turnOf_22 (by decide) (fun c22 => ?_) (fun c22 => ?_)
          · have g22 : j ≠ 0 := fun z => c22 (by rw [z]; rfl)
            refine lv_iinc (v := nI (j - 1)) (lv' := [(3, .int (nI (j - 1))), (4, .int (nI w)), (0, .ref y), (1, .int (nI j0)), (2, .int (nI wk))]) hx hb dX5_turnOf_28 hl (k := 1) rfl (x_dec1 (Nat.pos_of_ne_zero g22)) (by decide) rfl (fun ls hl => ?_)
            refine lv_iinc (v := nI (w + 1)) (lv' := [(4, .int (nI (w + 1))), (3, .int (nI (j - 1))), (0, .ref y), (1, .int (nI j0)), (2, .int (nI wk))]) hx hb dX5_turnOf_31 hl (k := 1) rfl (nI_1 w) (by decide) rfl (fun ls hl => ?_)
            refine lv_goto (tgt := 5) hx hb dX5_turnOf_34 (by decide) ?_
            exact ih5 (w + 1) (j - 1) (by omega) (by omega) (by omega) (by rw [hinv]; simp [trn, g8, c18, g22]) ls (lv_sub hl [0, 1, 2, 3, 4] rfl)
          · refine lv_iload hx hb dX5_turnOf_25 (lv_at hl 0 rfl) ?_
            exact W.iret hx hb hr (fun t ht hW => ⟨_, rfl, by rw [hinv]; simp [trn, g8, c18, show j = 0 from nI_z (by omega) c22, trnI], ht⟩) (fun q h => by cases h) dX5_turnOf_27
  exact loop5 17 0 j0 (by omega) (by omega) (by omega) rfl ls (lv_sub hl [0, 1, 2, 3, 4] rfl)
set_option maxHeartbeats 4000000 in
set_option maxRecDepth 100000 in
theorem m_openOne (l : Launch) (D : va_G) (cI cJ cZ : ClassId) (y d2 d3 d4 d5 d6 d7 d11 d12 d13 d14 d15 d16 d17 d18 d19 d20 d21 d22 d23 d24 d25 d26 d27 d28 d29 d30 d31 d32 d33 d34 d35 d36 d37 : Nat) (th ru rf hs : Int32) (se : Nat → Int32) (n : Nat) (a en : Nat) (ha : a ≤ 40) (he : en ≤ 40) : Met l yX5_openOne wsX5_openOne ({ frames := 0, cells := 0, slots := 0, locals := 0 }) (PcRO [.ref y, .int (nI a), .int (nI en)] D cI cJ cZ [(y, .inr (5, [.int th, .int (nI n), .ref d2, .ref d3, .ref d4, .ref d5, .ref d6, .ref d7, .int ru, .int rf, .int hs, .ref d11, .ref d12, .ref d13, .ref d14, .ref d15, .ref d16, .ref d17, .ref d18, .ref d19, .ref d20, .ref d21, .ref d22, .ref d23, .ref d24, .ref d25, .ref d26, .ref d27, .ref d28, .ref d29, .ref d30, .ref d31, .ref d32, .ref d33, .ref d34, .ref d35, .ref d36, .ref d37])), (d19, .inl (cI, 40, .inl se))]) (vp_Si (fun r => r = lstO se en 41 a)) 0 0 noF := by
  refine Met.ofW (cc := cX5_openOne) (maxL := 4) (ret := some .int) (by decide) rfl ?_
  intro p e s m args below meth c s₁ B hml hv
  obtain ⟨rfl, hP, hE⟩ := hv
  have hx := B.exec
  have hb := B.bytes
  have hr := B.returns
  have hts := atoms_spec (ws := wsX5_openOne) B.pre
  have hown : s.vm.findClass RX5 = some m.cls := findClass_of_methodNamed B.named
  have hlocks := B.notSynchronized
  have hK := hE.1
  have hl := lv_entry ([.ref y, .int (nI a), .int (nI en)]) (n := 4) (Nat.le_of_ble_eq_true rfl)
  rw [lg_entry_eq]
  generalize (lg_sl ([.ref y, .int (nI a), .int (nI en)]) ++ List.replicate (4 - (lg_sl ([.ref y, .int (nI a), .int (nI en)])).length) Slot.unset).toArray = ls at hl ⊢
  have hl : lv_has ls 4 [(0, .ref y), (1, .int (nI a)), (2, .int (nI en))] := hl
  have hinX5 : ∀ w ∈ u_ws RX5 TX5 38, w ∈ wsX5_openOne := fun _ h => List.mem_cons_of_mem _ (List.mem_append_right _ h)
  refine lv_iload_n hx hb dX5_openOne_0 rfl (lv_at hl 1 rfl) ?_
  refine lv_istore_n (lv' := [(3, .int (nI a)), (0, .ref y), (1, .int (nI a)), (2, .int (nI en))]) hx hb dX5_openOne_1 rfl hl (by decide) rfl (fun ls hl => ?_)
  have loop2 : ∀ (n : Nat) (k : Nat), (k ≤ 40) → (41 ≤ k + n) → (lstO se en 41 a = lstO se en n k) → ∀ (ls : Array Slot), lv_has ls 4 [(3, .int (nI k)), (0, .ref y), (1, .int (nI a)), (2, .int (nI en))] → W p l e (headSpec wsX5_openOne ({ frames := 0, cells := 0, slots := 0, locals := 0 })).room s m ([.ref y, .int (nI a), .int (nI en)].toArray) below meth c s.heap [] 0 0 (MQ below (vp_Si (fun r => r = lstO se en 41 a)) ([.ref y, .int (nI a), .int (nI en)].toArray) s 0 0 noF) (F0 m 2 ls []) := by
    intro n
    induction n with
    | zero =>
      intro k hk hf hinv
      exact absurd hf (by omega)
    | succ n ih2 =>
      intro k hk hf hinv ls hl
      refine lv_iload_n hx hb dX5_openOne_2 rfl (lv_at hl 0 rfl) ?_
      refine lv_iload_n hx hb dX5_openOne_3 rfl (lv_at hl 3 rfl) ?_
      refine lv_icmp_ge (tgt := 24) hx hb dX5_openOne_4 (by decide) (fun c4 => ?_) (fun c4 => ?_)
      · refine lv_iconst (v := (-1)) hx hb dX5_openOne_24 (by decide) ?_
        exact W.iret hx hb hr (fun t ht hW => ⟨_, rfl, by rw [hinv]; simp [lstO, show ¬ k < en from fun z => absurd c4 (nI_ge z (by omega))], ht⟩) (fun q h => by cases h) dX5_openOne_25
      · have g4 : k < en := Nat.lt_of_not_le (fun z => c4 (nI_le z (by omega)))
        refine lv_aload_n hx hb dX5_openOne_7 rfl (lv_at hl 1 rfl) ?_
        refine va_get (D := D) (ci := 5) (v := .ref d19) (C := RX5) (T := TX5) (N := 38) hx hb hts hinX5 hown hK hP 0 rfl rfl 19 (by decide) (hts (.fieldLink RX5 53 "LedgerSharesModel" "state" "[I") (List.mem_of_getElem? (i := 1) rfl)) (fun _ h9 => h9) rfl dX5_openOne_8 ?_
        refine lv_iload_n hx hb dX5_openOne_11 rfl (lv_at hl 0 rfl) ?_
        refine x_iald hx hb hE hP 1 rfl (k) (by omega) (by decide) (rfl) dX5_openOne_12 ?_
        refine lv_if_ne (tgt := 18) hx hb dX5_openOne_13 (by decide) (fun c13 => ?_) (fun c13 => ?_)
        · refine lv_iinc (v := nI (k + 1)) (lv' := [(3, .int (nI (k + 1))), (0, .ref y), (1, .int (nI a)), (2, .int (nI en))]) hx hb dX5_openOne_18 hl (k := 0) rfl (nI_1 k) (by decide) rfl (fun ls hl => ?_)
          refine lv_goto (tgt := 2) hx hb dX5_openOne_21 (by decide) ?_
          exact ih2 (k + 1) (by omega) (by omega) (by rw [hinv]; simp [lstO, g4, c13]) ls (lv_sub hl [0, 1, 2, 3] rfl)
        · refine lv_iload_n hx hb dX5_openOne_16 rfl (lv_at hl 0 rfl) ?_
          exact W.iret hx hb hr (fun t ht hW => ⟨_, rfl, by rw [hinv]; simp [lstO, g4, c13], ht⟩) (fun q h => by cases h) dX5_openOne_17
  exact loop2 41 a ha (by omega) rfl ls (lv_sub hl [0, 1, 2, 3] rfl)
set_option maxHeartbeats 4000000 in
set_option maxRecDepth 100000 in
theorem m_underWay (l : Launch) (D : va_G) (cI cJ cZ : ClassId) (y d2 d3 d4 d5 d6 d7 d11 d12 d13 d14 d15 d16 d17 d18 d19 d20 d21 d22 d23 d24 d25 d26 d27 d28 d29 d30 d31 d32 d33 d34 d35 d36 d37 : Nat) (th ru rf hs : Int32) (se : Nat → Int32) (n : Nat) (en : Nat) (he : en ≤ 40) : Met l yX5_underWay wsX5_underWay ({ frames := 0, cells := 0, slots := 0, locals := 0 }) (PcRO [.ref y, .int (nI en)] D cI cJ cZ [(y, .inr (5, [.int th, .int (nI n), .ref d2, .ref d3, .ref d4, .ref d5, .ref d6, .ref d7, .int ru, .int rf, .int hs, .ref d11, .ref d12, .ref d13, .ref d14, .ref d15, .ref d16, .ref d17, .ref d18, .ref d19, .ref d20, .ref d21, .ref d22, .ref d23, .ref d24, .ref d25, .ref d26, .ref d27, .ref d28, .ref d29, .ref d30, .ref d31, .ref d32, .ref d33, .ref d34, .ref d35, .ref d36, .ref d37])), (d19, .inl (cI, 40, .inl se))]) (vp_Si (fun r => r = uwC se en 41 0 0)) 0 0 noF := by
  refine Met.ofW (cc := cX5_underWay) (maxL := 4) (ret := some .int) (by decide) rfl ?_
  intro p e s m args below meth c s₁ B hml hv
  obtain ⟨rfl, hP, hE⟩ := hv
  have hx := B.exec
  have hb := B.bytes
  have hr := B.returns
  have hts := atoms_spec (ws := wsX5_underWay) B.pre
  have hown : s.vm.findClass RX5 = some m.cls := findClass_of_methodNamed B.named
  have hlocks := B.notSynchronized
  have hK := hE.1
  have hl := lv_entry ([.ref y, .int (nI en)]) (n := 4) (Nat.le_of_ble_eq_true rfl)
  rw [lg_entry_eq]
  generalize (lg_sl ([.ref y, .int (nI en)]) ++ List.replicate (4 - (lg_sl ([.ref y, .int (nI en)])).length) Slot.unset).toArray = ls at hl ⊢
  have hl : lv_has ls 4 [(0, .ref y), (1, .int (nI en))] := hl
  have hinX5 : ∀ w ∈ u_ws RX5 TX5 38, w ∈ wsX5_underWay := fun _ h => List.mem_cons_of_mem _ (List.mem_append_right _ h)
  refine lv_iconst (v := 0) hx hb dX5_underWay_0 (by decide) ?_
  refine lv_istore_n (lv' := [(2, .int 0), (0, .ref y), (1, .int (nI en))]) hx hb dX5_underWay_1 rfl hl (by decide) rfl (fun ls hl => ?_)
  refine lv_iconst (v := 0) hx hb dX5_underWay_2 (by decide) ?_
  refine lv_istore_n (lv' := [(3, .int 0), (2, .int 0), (0, .ref y), (1, .int (nI en))]) hx hb dX5_underWay_3 rfl hl (by decide) rfl (fun ls hl => ?_)
  have loop4 : ∀ (n : Nat) (k : Nat) (r : Int32), (k ≤ 40) → (41 ≤ k + n) → (uwC se en 41 0 0 = uwC se en n k r) → ∀ (ls : Array Slot), lv_has ls 4 [(3, .int (nI k)), (2, .int r), (0, .ref y), (1, .int (nI en))] → W p l e (headSpec wsX5_underWay ({ frames := 0, cells := 0, slots := 0, locals := 0 })).room s m ([.ref y, .int (nI en)].toArray) below meth c s.heap [] 0 0 (MQ below (vp_Si (fun r => r = uwC se en 41 0 0)) ([.ref y, .int (nI en)].toArray) s 0 0 noF) (F0 m 4 ls []) := by
    intro n
    induction n with
    | zero =>
      intro k r hk hf hinv
      exact absurd hf (by omega)
    | succ n ih4 =>
      intro k r hk hf hinv ls hl
      refine lv_iload_n hx hb dX5_underWay_4 rfl (lv_at hl 0 rfl) ?_
      refine lv_iload_n hx hb dX5_underWay_5 rfl (lv_at hl 3 rfl) ?_
      refine lv_icmp_ge (tgt := 33) hx hb dX5_underWay_6 (by decide) (fun c6 => ?_) (fun c6 => ?_)
      · refine lv_iload_n hx hb dX5_underWay_33 rfl (lv_at hl 1 rfl) ?_
        exact W.iret hx hb hr (fun t ht hW => ⟨_, rfl, by rw [hinv]; simp [uwC, show ¬ k < en from fun z => absurd c6 (nI_ge z (by omega))], ht⟩) (fun q h => by cases h) dX5_underWay_34
      · have g6 : k < en := Nat.lt_of_not_le (fun z => c6 (nI_le z (by omega)))
        refine lv_iload_n hx hb dX5_underWay_9 rfl (lv_at hl 1 rfl) ?_
        refine lv_aload_n hx hb dX5_underWay_10 rfl (lv_at hl 2 rfl) ?_
        refine va_get (D := D) (ci := 5) (v := .ref d19) (C := RX5) (T := TX5) (N := 38) hx hb hts hinX5 hown hK hP 0 rfl rfl 19 (by decide) (hts (.fieldLink RX5 53 "LedgerSharesModel" "state" "[I") (List.mem_of_getElem? (i := 1) rfl)) (fun _ h9 => h9) rfl dX5_underWay_11 ?_
        refine lv_iload_n hx hb dX5_underWay_14 rfl (lv_at hl 0 rfl) ?_
        refine x_iald hx hb hE hP 1 rfl (k) (by omega) (by decide) (rfl) dX5_underWay_15 ?_
        refine lv_iconst (v := 1) hx hb dX5_underWay_16 (by decide) ?_
        refine lv_icmp_ne (tgt := 24) hx hb dX5_underWay_17 (by decide) (fun c17 => ?_) (fun c17 => ?_)
        · refine lv_iconst (v := 0) hx hb dX5_underWay_24 (by decide) ?_
          refine lv_iadd hx hb dX5_underWay_25 ?_
          refine lv_istore_n (lv' := [(2, .int (r + 0)), (3, .int (nI k)), (0, .ref y), (1, .int (nI en))]) hx hb dX5_underWay_26 rfl hl (by decide) rfl (fun ls hl => ?_)
          refine lv_iinc (v := nI (k + 1)) (lv' := [(3, .int (nI (k + 1))), (2, .int (r + 0)), (0, .ref y), (1, .int (nI en))]) hx hb dX5_underWay_27 hl (k := 1) rfl (nI_1 k) (by decide) rfl (fun ls hl => ?_)
          refine lv_goto (tgt := 4) hx hb dX5_underWay_30 (by decide) ?_
          exact ih4 (k + 1) (r + 0) (by omega) (by omega) (by rw [hinv]; simp only [uwC, if_pos g6, if_neg c17]) ls (lv_sub hl [0, 1, 2, 3] rfl)
        · refine lv_iconst (v := 1) hx hb dX5_underWay_20 (by decide) ?_
          refine lv_goto (tgt := 25) hx hb dX5_underWay_21 (by decide) ?_
          refine lv_iadd hx hb dX5_underWay_25 ?_
          refine lv_istore_n (lv' := [(2, .int (r + 1)), (3, .int (nI k)), (0, .ref y), (1, .int (nI en))]) hx hb dX5_underWay_26 rfl hl (by decide) rfl (fun ls hl => ?_)
          refine lv_iinc (v := nI (k + 1)) (lv' := [(3, .int (nI (k + 1))), (2, .int (r + 1)), (0, .ref y), (1, .int (nI en))]) hx hb dX5_underWay_27 hl (k := 1) rfl (nI_1 k) (by decide) rfl (fun ls hl => ?_)
          refine lv_goto (tgt := 4) hx hb dX5_underWay_30 (by decide) ?_
          exact ih4 (k + 1) (r + 1) (by omega) (by omega) (by rw [hinv]; simp only [uwC, if_pos g6, if_pos c17]) ls (lv_sub hl [0, 1, 2, 3] rfl)
  exact loop4 41 0 0 (by omega) (by omega) rfl ls (lv_sub hl [0, 1, 2, 3] rfl)
