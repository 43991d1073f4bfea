set_option maxHeartbeats 4000000 in
set_option maxRecDepth 100000 in
theorem k_call_bad (l : Launch) (D : va_G) (cI cJ cZ : ClassId) (sz : Nat) (x hB uX uL u : Nat) (hv rd rr : Int32) (b1 b2 b3 b4 b5 b6 : Nat) (ok ak bk ck sk : Nat → Int32) (bz : Int32) (xo xa xb xc xs : Int32) (hg : ¬ callG xo xa xb xc xs) : Met l yX4_call wsX4_call ({ frames := 2, cells := 0, slots := 0, locals := 48 }) (PcRW [.ref x, .int xo, .int xa, .int xb, .int xc, .int xs] sz D cI cJ cZ [(x, .inr (4, [.ref hB, .ref uX, .ref uL, .ref u, .int hv, .int rd, .int rr])), (hB, .inr (0, [.int bz, .ref b1, .ref b2, .ref b3, .ref b4, .ref b5, .ref b6])), (b1, .inl (cI, 40, .inl ok)), (b2, .inl (cI, 40, .inl ak)), (b3, .inl (cI, 40, .inl bk)), (b4, .inl (cI, 40, .inl ck)), (b5, .inl (cI, 40, .inl sk))]) (QcI (fun r => r = -2) D (va_A [(x, .inr (4, [.ref hB, .ref uX, .ref uL, .ref u, .int hv, .int rd, .int rr])), (hB, .inr (0, [.int bz, .ref b1, .ref b2, .ref b3, .ref b4, .ref b5, .ref b6])), (b1, .inl (cI, 40, .inl ok)), (b2, .inl (cI, 40, .inl ak)), (b3, .inl (cI, 40, .inl bk)), (b4, .inl (cI, 40, .inl ck)), (b5, .inl (cI, 40, .inl sk))] sz) [(x, .inr (4, [.ref hB, .ref uX, .ref uL, .ref u, .int hv, .int rd, .int rr])), (hB, .inr (0, [.int bz, .ref b1, .ref b2, .ref b3, .ref b4, .ref b5, .ref b6])), (b1, .inl (cI, 40, .inl ok)), (b2, .inl (cI, 40, .inl ak)), (b3, .inl (cI, 40, .inl bk)), (b4, .inl (cI, 40, .inl ck)), (b5, .inl (cI, 40, .inl sk))]) 0 0 (va_A [(x, .inr (4, [.ref hB, .ref uX, .ref uL, .ref u, .int hv, .int rd, .int rr])), (hB, .inr (0, [.int bz, .ref b1, .ref b2, .ref b3, .ref b4, .ref b5, .ref b6])), (b1, .inl (cI, 40, .inl ok)), (b2, .inl (cI, 40, .inl ak)), (b3, .inl (cI, 40, .inl bk)), (b4, .inl (cI, 40, .inl ck)), (b5, .inl (cI, 40, .inl sk))] sz) := by
  refine Met.ofW (cc := cX4_call) (maxL := 6) (ret := some .int) (by decide) rfl ?_
  intro p e s m args below meth c s₁ B hml hv
  obtain ⟨rfl, hsz, hP, hE, hD0⟩ := hv
  have hx := B.exec
  have hb := B.bytes
  have hr := B.returns
  have hts := atoms_spec (ws := wsX4_call) B.pre
  have hown : s.vm.findClass RX4 = some m.cls := findClass_of_methodNamed B.named
  have hlocks := B.notSynchronized
  have hK := hE.1
  subst hsz
  have hD := hD0.self (sz := s.heap.size)
  generalize hAe : va_A [(x, .inr (4, [.ref hB, .ref uX, .ref uL, .ref u, .int hv, .int rd, .int rr])), (hB, .inr (0, [.int bz, .ref b1, .ref b2, .ref b3, .ref b4, .ref b5, .ref b6])), (b1, .inl (cI, 40, .inl ok)), (b2, .inl (cI, 40, .inl ak)), (b3, .inl (cI, 40, .inl bk)), (b4, .inl (cI, 40, .inl ck)), (b5, .inl (cI, 40, .inl sk))] s.heap.size = A at hD ⊢
  have hA : ∀ q : Nat, s.heap.size ≤ q → A q := fun q h => by rw [← hAe]; exact Or.inr h
  have hS : va_S A s.heap s.heap [] := va_S.rf
  have hl := lv_entry ([.ref x, .int xo, .int xa, .int xb, .int xc, .int xs]) (n := 6) (Nat.le_of_ble_eq_true rfl)
  rw [lg_entry_eq]
  generalize (lg_sl ([.ref x, .int xo, .int xa, .int xb, .int xc, .int xs]) ++ List.replicate (6 - (lg_sl ([.ref x, .int xo, .int xa, .int xb, .int xc, .int xs])).length) Slot.unset).toArray = ls at hl ⊢
  have hl : lv_has ls 6 [(0, .ref x), (1, .int xo), (2, .int xa), (3, .int xb), (4, .int xc), (5, .int xs)] := hl
  have hinX4 : ∀ w ∈ u_ws RX4 TX4 7, w ∈ wsX4_call := fun _ h => List.mem_cons_of_mem _ (List.mem_append_left _ (List.mem_append_right _ h))
  refine lv_iload_n hx hb dX4_call_0 rfl (lv_at hl 1 rfl) ?_
  refine lv_iconst (v := 0) hx hb dX4_call_1 (by decide) ?_
  refine lv_iconst (v := 5) hx hb dX4_call_2 (by decide) ?_
  refine vp_callSi (va_Run.run (va_runS (As := [.int xo, .int 0, .int 5]) (rest := []) ⟨hx, hb, hml, hown, hts⟩ (k_within l D cI cJ cZ xo 0 5) (cwS 3 hts gX4_call_X4_within rfl rfl rfl (by decide +kernel) ⟨Nat.le_of_ble_eq_true rfl, Nat.le_of_ble_eq_true rfl⟩) ⟨bl_ro, fun U hU hW => ⟨rfl, by rw [hU]; exact (hP.sub (ws' := []) [] rfl), hE.warm2 hW⟩⟩ rfl rfl hl.1 rfl (lv_room (Nat.le_of_ble_eq_true rfl)) dX4_call_3 ⟨Nat.zero_le _, Nat.zero_le _⟩)) (fun r3 hr3 => ?_)
  refine lv_if_eq (tgt := 29) hx hb dX4_call_6 (by decide) (fun c6 => ?_) (fun c6 => ?_)
  · refine lv_bipush (v := (-2)) hx hb dX4_call_29 (by decide) ?_
    exact W.iret hx hb hr (fun t ht hW => ⟨⟨_, (), rfl, rfl, by rw [ht]; exact hP, by exact hD⟩, hS.F ht⟩) hS.2.2 dX4_call_31
  · refine lv_iload_n hx hb dX4_call_9 rfl (lv_at hl 2 rfl) ?_
    refine lv_iconst (v := 0) hx hb dX4_call_10 (by decide) ?_
    refine lv_bipush (v := 7) hx hb dX4_call_11 (by decide) ?_
    refine vp_callSi (va_Run.run (va_runS (As := [.int xa, .int 0, .int 7]) (rest := []) ⟨hx, hb, hml, hown, hts⟩ (k_within l D cI cJ cZ xa 0 7) (cwS 3 hts gX4_call_X4_within rfl rfl rfl (by decide +kernel) ⟨Nat.le_of_ble_eq_true rfl, Nat.le_of_ble_eq_true rfl⟩) ⟨bl_ro, fun U hU hW => ⟨rfl, by rw [hU]; exact (hP.sub (ws' := []) [] rfl), hE.warm2 hW⟩⟩ rfl rfl hl.1 rfl (lv_room (Nat.le_of_ble_eq_true rfl)) dX4_call_13 ⟨Nat.zero_le _, Nat.zero_le _⟩)) (fun r13 hr13 => ?_)
    refine lv_if_eq (tgt := 29) hx hb dX4_call_16 (by decide) (fun c16 => ?_) (fun c16 => ?_)
    · refine lv_bipush (v := (-2)) hx hb dX4_call_29 (by decide) ?_
      exact W.iret hx hb hr (fun t ht hW => ⟨⟨_, (), rfl, rfl, by rw [ht]; exact hP, by exact hD⟩, hS.F ht⟩) hS.2.2 dX4_call_31
    · refine lv_iload_n hx hb dX4_call_19 rfl (lv_at hl 3 rfl) ?_
      refine lv_iconst (v := 0) hx hb dX4_call_20 (by decide) ?_
      refine lv_bipush (v := 7) hx hb dX4_call_21 (by decide) ?_
      refine vp_callSi (va_Run.run (va_runS (As := [.int xb, .int 0, .int 7]) (rest := []) ⟨hx, hb, hml, hown, hts⟩ (k_within l D cI cJ cZ xb 0 7) (cwS 3 hts gX4_call_X4_within rfl rfl rfl (by decide +kernel) ⟨Nat.le_of_ble_eq_true rfl, Nat.le_of_ble_eq_true rfl⟩) ⟨bl_ro, fun U hU hW => ⟨rfl, by rw [hU]; exact (hP.sub (ws' := []) [] rfl), hE.warm2 hW⟩⟩ rfl rfl hl.1 rfl (lv_room (Nat.le_of_ble_eq_true rfl)) dX4_call_23 ⟨Nat.zero_le _, Nat.zero_le _⟩)) (fun r23 hr23 => ?_)
      refine lv_if_ne (tgt := 32) hx hb dX4_call_26 (by decide) (fun c26 => ?_) (fun c26 => ?_)
      · refine lv_iload hx hb dX4_call_32 (lv_at hl 4 rfl) ?_
        refine lv_ldc hx hb hown (hts (.constant RX4 35 (-1000000)) (List.mem_of_getElem? (i := 1) rfl)) dX4_call_34 ?_
        refine lv_ldc hx hb hown (hts (.constant RX4 36 (1000000)) (List.mem_of_getElem? (i := 2) rfl)) dX4_call_36 ?_
        refine vp_callSi (va_Run.run (va_runS (As := [.int xc, .int ((-1000000)), .int 1000000]) (rest := []) ⟨hx, hb, hml, hown, hts⟩ (k_within l D cI cJ cZ xc ((-1000000)) 1000000) (cwS 3 hts gX4_call_X4_within rfl rfl rfl (by decide +kernel) ⟨Nat.le_of_ble_eq_true rfl, Nat.le_of_ble_eq_true rfl⟩) ⟨bl_ro, fun U hU hW => ⟨rfl, by rw [hU]; exact (hP.sub (ws' := []) [] rfl), hE.warm2 hW⟩⟩ rfl rfl hl.1 rfl (lv_room (Nat.le_of_ble_eq_true rfl)) dX4_call_38 ⟨Nat.zero_le _, Nat.zero_le _⟩)) (fun r38 hr38 => ?_)
        refine lv_if_eq (tgt := 55) hx hb dX4_call_41 (by decide) (fun c41 => ?_) (fun c41 => ?_)
        · refine lv_bipush (v := (-2)) hx hb dX4_call_55 (by decide) ?_
          exact W.iret hx hb hr (fun t ht hW => ⟨⟨_, (), rfl, rfl, by rw [ht]; exact hP, by exact hD⟩, hS.F ht⟩) hS.2.2 dX4_call_57
        · refine lv_iload hx hb dX4_call_44 (lv_at hl 5 rfl) ?_
          refine lv_iconst (v := 1) hx hb dX4_call_46 (by decide) ?_
          refine lv_bipush (v := 9) hx hb dX4_call_47 (by decide) ?_
          refine vp_callSi (va_Run.run (va_runS (As := [.int xs, .int 1, .int 9]) (rest := []) ⟨hx, hb, hml, hown, hts⟩ (k_within l D cI cJ cZ xs 1 9) (cwS 3 hts gX4_call_X4_within rfl rfl rfl (by decide +kernel) ⟨Nat.le_of_ble_eq_true rfl, Nat.le_of_ble_eq_true rfl⟩) ⟨bl_ro, fun U hU hW => ⟨rfl, by rw [hU]; exact (hP.sub (ws' := []) [] rfl), hE.warm2 hW⟩⟩ rfl rfl hl.1 rfl (lv_room (Nat.le_of_ble_eq_true rfl)) dX4_call_49 ⟨Nat.zero_le _, Nat.zero_le _⟩)) (fun r49 hr49 => ?_)
          refine lv_if_ne (tgt := 58) hx hb dX4_call_52 (by decide) (fun c52 => ?_) (fun c52 => ?_)
          · exact absurd ⟨fun z => c6 (hr3.trans z), fun z => c16 (hr13.trans z), fun z => c26 (hr23.trans z), fun z => c41 (hr38.trans z), fun z => c52 (hr49.trans z)⟩ hg
          · refine lv_bipush (v := (-2)) hx hb dX4_call_55 (by decide) ?_
            exact W.iret hx hb hr (fun t ht hW => ⟨⟨_, (), rfl, rfl, by rw [ht]; exact hP, by exact hD⟩, hS.F ht⟩) hS.2.2 dX4_call_57
      · refine lv_bipush (v := (-2)) hx hb dX4_call_29 (by decide) ?_
        exact W.iret hx hb hr (fun t ht hW => ⟨⟨_, (), rfl, rfl, by rw [ht]; exact hP, by exact hD⟩, hS.F ht⟩) hS.2.2 dX4_call_31
set_option maxHeartbeats 4000000 in
set_option maxRecDepth 100000 in
theorem k_call_ok (l : Launch) (D : va_G) (cI cJ cZ : ClassId) (sz : Nat) (x hB uX uL u : Nat) (hv rd rr : Int32) (b1 b2 b3 b4 b5 b6 : Nat) (ok ak bk ck sk : Nat → Int32) (n : Nat) (hn : n < 40) (xo xa xb xc xs : Int32) (hg : callG xo xa xb xc xs) : Met l yX4_call wsX4_call ({ frames := 2, cells := 0, slots := 0, locals := 48 }) (PcRW [.ref x, .int xo, .int xa, .int xb, .int xc, .int xs] sz D cI cJ cZ [(x, .inr (4, [.ref hB, .ref uX, .ref uL, .ref u, .int hv, .int rd, .int rr])), (hB, .inr (0, [.int (nI n), .ref b1, .ref b2, .ref b3, .ref b4, .ref b5, .ref b6])), (b1, .inl (cI, 40, .inl ok)), (b2, .inl (cI, 40, .inl ak)), (b3, .inl (cI, 40, .inl bk)), (b4, .inl (cI, 40, .inl ck)), (b5, .inl (cI, 40, .inl sk))]) (QcI (fun r => r = nI n) D (va_A [(x, .inr (4, [.ref hB, .ref uX, .ref uL, .ref u, .int hv, .int rd, .int rr])), (hB, .inr (0, [.int (nI n), .ref b1, .ref b2, .ref b3, .ref b4, .ref b5, .ref b6])), (b1, .inl (cI, 40, .inl ok)), (b2, .inl (cI, 40, .inl ak)), (b3, .inl (cI, 40, .inl bk)), (b4, .inl (cI, 40, .inl ck)), (b5, .inl (cI, 40, .inl sk))] sz) [(x, .inr (4, [.ref hB, .ref uX, .ref uL, .ref u, .int hv, .int rd, .int rr])), (hB, .inr (0, [.int (nI (n + 1)), .ref b1, .ref b2, .ref b3, .ref b4, .ref b5, .ref b6])), (b1, .inl (cI, 40, .inl (upd ok n xo))), (b2, .inl (cI, 40, .inl (upd ak n xa))), (b3, .inl (cI, 40, .inl (upd bk n xb))), (b4, .inl (cI, 40, .inl (upd ck n xc))), (b5, .inl (cI, 40, .inl (upd sk n xs)))]) 0 0 (va_A [(x, .inr (4, [.ref hB, .ref uX, .ref uL, .ref u, .int hv, .int rd, .int rr])), (hB, .inr (0, [.int (nI n), .ref b1, .ref b2, .ref b3, .ref b4, .ref b5, .ref b6])), (b1, .inl (cI, 40, .inl ok)), (b2, .inl (cI, 40, .inl ak)), (b3, .inl (cI, 40, .inl bk)), (b4, .inl (cI, 40, .inl ck)), (b5, .inl (cI, 40, .inl sk))] sz) := by
  refine Met.ofW (cc := cX4_call) (maxL := 6) (ret := some .int) (by decide) rfl ?_
  intro p e s m args below meth c s₁ B hml hv
  obtain ⟨rfl, hsz, hP, hE, hD0⟩ := hv
  have hx := B.exec
  have hb := B.bytes
  have hr := B.returns
  have hts := atoms_spec (ws := wsX4_call) B.pre
  have hown : s.vm.findClass RX4 = some m.cls := findClass_of_methodNamed B.named
  have hlocks := B.notSynchronized
  have hK := hE.1
  subst hsz
  have hD := hD0.self (sz := s.heap.size)
  generalize hAe : va_A [(x, .inr (4, [.ref hB, .ref uX, .ref uL, .ref u, .int hv, .int rd, .int rr])), (hB, .inr (0, [.int (nI n), .ref b1, .ref b2, .ref b3, .ref b4, .ref b5, .ref b6])), (b1, .inl (cI, 40, .inl ok)), (b2, .inl (cI, 40, .inl ak)), (b3, .inl (cI, 40, .inl bk)), (b4, .inl (cI, 40, .inl ck)), (b5, .inl (cI, 40, .inl sk))] s.heap.size = A at hD ⊢
  have hA : ∀ q : Nat, s.heap.size ≤ q → A q := fun q h => by rw [← hAe]; exact Or.inr h
  have hS : va_S A s.heap s.heap [] := va_S.rf
  have hl := lv_entry ([.ref x, .int xo, .int xa, .int xb, .int xc, .int xs]) (n := 6) (Nat.le_of_ble_eq_true rfl)
  rw [lg_entry_eq]
  generalize (lg_sl ([.ref x, .int xo, .int xa, .int xb, .int xc, .int xs]) ++ List.replicate (6 - (lg_sl ([.ref x, .int xo, .int xa, .int xb, .int xc, .int xs])).length) Slot.unset).toArray = ls at hl ⊢
  have hl : lv_has ls 6 [(0, .ref x), (1, .int xo), (2, .int xa), (3, .int xb), (4, .int xc), (5, .int xs)] := hl
  have hinX4 : ∀ w ∈ u_ws RX4 TX4 7, w ∈ wsX4_call := fun _ h => List.mem_cons_of_mem _ (List.mem_append_left _ (List.mem_append_right _ h))
  refine lv_iload_n hx hb dX4_call_0 rfl (lv_at hl 1 rfl) ?_
  refine lv_iconst (v := 0) hx hb dX4_call_1 (by decide) ?_
  refine lv_iconst (v := 5) hx hb dX4_call_2 (by decide) ?_
  refine vp_callSi (va_Run.run (va_runS (As := [.int xo, .int 0, .int 5]) (rest := []) ⟨hx, hb, hml, hown, hts⟩ (k_within l D cI cJ cZ xo 0 5) (cwS 3 hts gX4_call_X4_within rfl rfl rfl (by decide +kernel) ⟨Nat.le_of_ble_eq_true rfl, Nat.le_of_ble_eq_true rfl⟩) ⟨bl_ro, fun U hU hW => ⟨rfl, by rw [hU]; exact (hP.sub (ws' := []) [] rfl), hE.warm2 hW⟩⟩ rfl rfl hl.1 rfl (lv_room (Nat.le_of_ble_eq_true rfl)) dX4_call_3 ⟨Nat.zero_le _, Nat.zero_le _⟩)) (fun r3 hr3 => ?_)
  refine lv_if_eq (tgt := 29) hx hb dX4_call_6 (by decide) (fun c6 => ?_) (fun c6 => ?_)
  · exact absurd (hr3.symm.trans c6) hg.1
  · refine lv_iload_n hx hb dX4_call_9 rfl (lv_at hl 2 rfl) ?_
    refine lv_iconst (v := 0) hx hb dX4_call_10 (by decide) ?_
    refine lv_bipush (v := 7) hx hb dX4_call_11 (by decide) ?_
    refine vp_callSi (va_Run.run (va_runS (As := [.int xa, .int 0, .int 7]) (rest := []) ⟨hx, hb, hml, hown, hts⟩ (k_within l D cI cJ cZ xa 0 7) (cwS 3 hts gX4_call_X4_within rfl rfl rfl (by decide +kernel) ⟨Nat.le_of_ble_eq_true rfl, Nat.le_of_ble_eq_true rfl⟩) ⟨bl_ro, fun U hU hW => ⟨rfl, by rw [hU]; exact (hP.sub (ws' := []) [] rfl), hE.warm2 hW⟩⟩ rfl rfl hl.1 rfl (lv_room (Nat.le_of_ble_eq_true rfl)) dX4_call_13 ⟨Nat.zero_le _, Nat.zero_le _⟩)) (fun r13 hr13 => ?_)
    refine lv_if_eq (tgt := 29) hx hb dX4_call_16 (by decide) (fun c16 => ?_) (fun c16 => ?_)
    · exact absurd (hr13.symm.trans c16) hg.2.1
    · refine lv_iload_n hx hb dX4_call_19 rfl (lv_at hl 3 rfl) ?_
      refine lv_iconst (v := 0) hx hb dX4_call_20 (by decide) ?_
      refine lv_bipush (v := 7) hx hb dX4_call_21 (by decide) ?_
      refine vp_callSi (va_Run.run (va_runS (As := [.int xb, .int 0, .int 7]) (rest := []) ⟨hx, hb, hml, hown, hts⟩ (k_within l D cI cJ cZ xb 0 7) (cwS 3 hts gX4_call_X4_within rfl rfl rfl (by decide +kernel) ⟨Nat.le_of_ble_eq_true rfl, Nat.le_of_ble_eq_true rfl⟩) ⟨bl_ro, fun U hU hW => ⟨rfl, by rw [hU]; exact (hP.sub (ws' := []) [] rfl), hE.warm2 hW⟩⟩ rfl rfl hl.1 rfl (lv_room (Nat.le_of_ble_eq_true rfl)) dX4_call_23 ⟨Nat.zero_le _, Nat.zero_le _⟩)) (fun r23 hr23 => ?_)
      refine lv_if_ne (tgt := 32) hx hb dX4_call_26 (by decide) (fun c26 => ?_) (fun c26 => ?_)
      · refine lv_iload hx hb dX4_call_32 (lv_at hl 4 rfl) ?_
        refine lv_ldc hx hb hown (hts (.constant RX4 35 (-1000000)) (List.mem_of_getElem? (i := 1) rfl)) dX4_call_34 ?_
        refine lv_ldc hx hb hown (hts (.constant RX4 36 (1000000)) (List.mem_of_getElem? (i := 2) rfl)) dX4_call_36 ?_
        refine vp_callSi (va_Run.run (va_runS (As := [.int xc, .int ((-1000000)), .int 1000000]) (rest := []) ⟨hx, hb, hml, hown, hts⟩ (k_within l D cI cJ cZ xc ((-1000000)) 1000000) (cwS 3 hts gX4_call_X4_within rfl rfl rfl (by decide +kernel) ⟨Nat.le_of_ble_eq_true rfl, Nat.le_of_ble_eq_true rfl⟩) ⟨bl_ro, fun U hU hW => ⟨rfl, by rw [hU]; exact (hP.sub (ws' := []) [] rfl), hE.warm2 hW⟩⟩ rfl rfl hl.1 rfl (lv_room (Nat.le_of_ble_eq_true rfl)) dX4_call_38 ⟨Nat.zero_le _, Nat.zero_le _⟩)) (fun r38 hr38 => ?_)
        refine lv_if_eq (tgt := 55) hx hb dX4_call_41 (by decide) (fun c41 => ?_) (fun c41 => ?_)
        · exact absurd (hr38.symm.trans c41) hg.2.2.2.1
        · refine lv_iload hx hb dX4_call_44 (lv_at hl 5 rfl) ?_
          refine lv_iconst (v := 1) hx hb dX4_call_46 (by decide) ?_
          refine lv_bipush (v := 9) hx hb dX4_call_47 (by decide) ?_
          refine vp_callSi (va_Run.run (va_runS (As := [.int xs, .int 1, .int 9]) (rest := []) ⟨hx, hb, hml, hown, hts⟩ (k_within l D cI cJ cZ xs 1 9) (cwS 3 hts gX4_call_X4_within rfl rfl rfl (by decide +kernel) ⟨Nat.le_of_ble_eq_true rfl, Nat.le_of_ble_eq_true rfl⟩) ⟨bl_ro, fun U hU hW => ⟨rfl, by rw [hU]; exact (hP.sub (ws' := []) [] rfl), hE.warm2 hW⟩⟩ rfl rfl hl.1 rfl (lv_room (Nat.le_of_ble_eq_true rfl)) dX4_call_49 ⟨Nat.zero_le _, Nat.zero_le _⟩)) (fun r49 hr49 => ?_)
          refine lv_if_ne (tgt := 58) hx hb dX4_call_52 (by decide) (fun c52 => ?_) (fun c52 => ?_)
          · refine lv_aload_n hx hb dX4_call_58 rfl (lv_at hl 0 rfl) ?_
            refine va_get (D := D) (ci := 4) (v := .ref hB) (C := RX4) (T := TX4) (N := 7) hx hb hts hinX4 hown hK hP 0 rfl rfl 0 (by decide) (hts (.fieldLink RX4 10 "LedgerShares" "book" "LLedgerShares$Book;") (List.mem_of_getElem? (i := 3) rfl)) (fun _ h9 => h9) rfl dX4_call_59 ?_
            refine lv_iload_n hx hb dX4_call_62 rfl (lv_at hl 1 rfl) ?_
            refine lv_iload_n hx hb dX4_call_63 rfl (lv_at hl 2 rfl) ?_
            refine lv_iload_n hx hb dX4_call_64 rfl (lv_at hl 3 rfl) ?_
            refine lv_iload hx hb dX4_call_65 (lv_at hl 4 rfl) ?_
            refine lv_iload hx hb dX4_call_67 (lv_at hl 5 rfl) ?_
            refine x_calli (wc := [(hB, .inr (0, [.int (nI n), .ref b1, .ref b2, .ref b3, .ref b4, .ref b5, .ref b6])), (b1, .inl (cI, 40, .inl ok)), (b2, .inl (cI, 40, .inl ak)), (b3, .inl (cI, 40, .inl bk)), (b4, .inl (cI, 40, .inl ck)), (b5, .inl (cI, 40, .inl sk))]) (wc' := [(hB, .inr (0, [.int (nI (n + 1)), .ref b1, .ref b2, .ref b3, .ref b4, .ref b5, .ref b6])), (b1, .inl (cI, 40, .inl (upd ok n xo))), (b2, .inl (cI, 40, .inl (upd ak n xa))), (b3, .inl (cI, 40, .inl (upd bk n xb))), (b4, .inl (cI, 40, .inl (upd ck n xc))), (b5, .inl (cI, 40, .inl (upd sk n xs)))]) (wr := [(x, .inr (4, [.ref hB, .ref uX, .ref uL, .ref u, .int hv, .int rd, .int rr]))]) (ws' := [(x, .inr (4, [.ref hB, .ref uX, .ref uL, .ref u, .int hv, .int rd, .int rr])), (hB, .inr (0, [.int (nI (n + 1)), .ref b1, .ref b2, .ref b3, .ref b4, .ref b5, .ref b6])), (b1, .inl (cI, 40, .inl (upd ok n xo))), (b2, .inl (cI, 40, .inl (upd ak n xa))), (b3, .inl (cI, 40, .inl (upd bk n xb))), (b4, .inl (cI, 40, .inl (upd ck n xc))), (b5, .inl (cI, 40, .inl (upd sk n xs)))]) hP hD hS hA [1, 2, 3, 4, 5, 6] [0] rfl rfl (by decide) (by decide) [0, 1, 2, 3, 4, 5, 6] (by decide) rfl (va_runV (As := [.int xo, .int xa, .int xb, .int xc, .int xs]) (rest := []) ⟨hx, hb, hml, hown, hts⟩ (k_enter l D cI cJ cZ s.heap.size hB b1 b2 b3 b4 b5 b6 ok ak bk ck sk n hn xo xa xb xc xs) (cwV 5 hts gX4_call_X0_enter rfl rfl rfl (by decide +kernel) ⟨Nat.le_of_ble_eq_true rfl, Nat.le_of_ble_eq_true rfl⟩) ⟨bl_rw, va_recv hK (hP.sub (ws' := [(hB, .inr (0, [.int (nI n), .ref b1, .ref b2, .ref b3, .ref b4, .ref b5, .ref b6])), (b1, .inl (cI, 40, .inl ok)), (b2, .inl (cI, 40, .inl ak)), (b3, .inl (cI, 40, .inl bk)), (b4, .inl (cI, 40, .inl ck)), (b5, .inl (cI, 40, .inl sk))]) [1, 2, 3, 4, 5, 6] rfl) (ci := 0) (q0 := 0) rfl rfl, fun U hU hW => ⟨rfl, by rw [hU], by rw [hU]; exact (hP.sub (ws' := [(hB, .inr (0, [.int (nI n), .ref b1, .ref b2, .ref b3, .ref b4, .ref b5, .ref b6])), (b1, .inl (cI, 40, .inl ok)), (b2, .inl (cI, 40, .inl ak)), (b3, .inl (cI, 40, .inl bk)), (b4, .inl (cI, 40, .inl ck)), (b5, .inl (cI, 40, .inl sk))]) [1, 2, 3, 4, 5, 6] rfl), hE.warm2 hW, (hD.sub (ws' := [(hB, .inr (0, [.int (nI n), .ref b1, .ref b2, .ref b3, .ref b4, .ref b5, .ref b6])), (b1, .inl (cI, 40, .inl ok)), (b2, .inl (cI, 40, .inl ak)), (b3, .inl (cI, 40, .inl bk)), (b4, .inl (cI, 40, .inl ck)), (b5, .inl (cI, 40, .inl sk))]) [1, 2, 3, 4, 5, 6] (by decide) rfl).weaken (fun _ _ _ _ => trivial)⟩⟩ rfl rfl hl.1 rfl (lv_room (Nat.le_of_ble_eq_true rfl)) dX4_call_69 ⟨Nat.zero_le _, Nat.zero_le _⟩) (fun r69 hr69 H locs hP hD hS => ?_)
            exact W.iret hx hb hr (fun t ht hW => ⟨⟨_, (), rfl, hr69, by rw [ht]; exact hP, by exact hD⟩, hS.F ht⟩) hS.2.2 dX4_call_72
          · exact absurd (hr49.symm.trans c52) hg.2.2.2.2
      · exact absurd (hr23.symm.trans c26) hg.2.2.1
set_option maxHeartbeats 4000000 in
set_option maxRecDepth 100000 in
theorem k_call_full (l : Launch) (D : va_G) (cI cJ cZ : ClassId) (sz : Nat) (x hB uX uL u : Nat) (hv rd rr : Int32) (b1 b2 b3 b4 b5 b6 : Nat) (ok ak bk ck sk : Nat → Int32) (xo xa xb xc xs : Int32) (hg : callG xo xa xb xc xs) : Met l yX4_call wsX4_call ({ frames := 2, cells := 0, slots := 0, locals := 48 }) (PcRW [.ref x, .int xo, .int xa, .int xb, .int xc, .int xs] sz D cI cJ cZ [(x, .inr (4, [.ref hB, .ref uX, .ref uL, .ref u, .int hv, .int rd, .int rr])), (hB, .inr (0, [.int (nI 40), .ref b1, .ref b2, .ref b3, .ref b4, .ref b5, .ref b6])), (b1, .inl (cI, 40, .inl ok)), (b2, .inl (cI, 40, .inl ak)), (b3, .inl (cI, 40, .inl bk)), (b4, .inl (cI, 40, .inl ck)), (b5, .inl (cI, 40, .inl sk))]) (QcI (fun r => r = -4) D (va_A [(x, .inr (4, [.ref hB, .ref uX, .ref uL, .ref u, .int hv, .int rd, .int rr])), (hB, .inr (0, [.int (nI 40), .ref b1, .ref b2, .ref b3, .ref b4, .ref b5, .ref b6])), (b1, .inl (cI, 40, .inl ok)), (b2, .inl (cI, 40, .inl ak)), (b3, .inl (cI, 40, .inl bk)), (b4, .inl (cI, 40, .inl ck)), (b5, .inl (cI, 40, .inl sk))] sz) [(x, .inr (4, [.ref hB, .ref uX, .ref uL, .ref u, .int hv, .int rd, .int rr])), (hB, .inr (0, [.int (nI 40), .ref b1, .ref b2, .ref b3, .ref b4, .ref b5, .ref b6])), (b1, .inl (cI, 40, .inl ok)), (b2, .inl (cI, 40, .inl ak)), (b3, .inl (cI, 40, .inl bk)), (b4, .inl (cI, 40, .inl ck)), (b5, .inl (cI, 40, .inl sk))]) 0 0 (va_A [(x, .inr (4, [.ref hB, .ref uX, .ref uL, .ref u, .int hv, .int rd, .int rr])), (hB, .inr (0, [.int (nI 40), .ref b1, .ref b2, .ref b3, .ref b4, .ref b5, .ref b6])), (b1, .inl (cI, 40, .inl ok)), (b2, .inl (cI, 40, .inl ak)), (b3, .inl (cI, 40, .inl bk)), (b4, .inl (cI, 40, .inl ck)), (b5, .inl (cI, 40, .inl sk))] sz) := by
  refine Met.ofW (cc := cX4_call) (maxL := 6) (ret := some .int) (by decide) rfl ?_
  intro p e s m args below meth c s₁ B hml hv
  obtain ⟨rfl, hsz, hP, hE, hD0⟩ := hv
  have hx := B.exec
  have hb := B.bytes
  have hr := B.returns
  have hts := atoms_spec (ws := wsX4_call) B.pre
  have hown : s.vm.findClass RX4 = some m.cls := findClass_of_methodNamed B.named
  have hlocks := B.notSynchronized
  have hK := hE.1
  subst hsz
  have hD := hD0.self (sz := s.heap.size)
  generalize hAe : va_A [(x, .inr (4, [.ref hB, .ref uX, .ref uL, .ref u, .int hv, .int rd, .int rr])), (hB, .inr (0, [.int (nI 40), .ref b1, .ref b2, .ref b3, .ref b4, .ref b5, .ref b6])), (b1, .inl (cI, 40, .inl ok)), (b2, .inl (cI, 40, .inl ak)), (b3, .inl (cI, 40, .inl bk)), (b4, .inl (cI, 40, .inl ck)), (b5, .inl (cI, 40, .inl sk))] s.heap.size = A at hD ⊢
  have hA : ∀ q : Nat, s.heap.size ≤ q → A q := fun q h => by rw [← hAe]; exact Or.inr h
  have hS : va_S A s.heap s.heap [] := va_S.rf
  have hl := lv_entry ([.ref x, .int xo, .int xa, .int xb, .int xc, .int xs]) (n := 6) (Nat.le_of_ble_eq_true rfl)
  rw [lg_entry_eq]
  generalize (lg_sl ([.ref x, .int xo, .int xa, .int xb, .int xc, .int xs]) ++ List.replicate (6 - (lg_sl ([.ref x, .int xo, .int xa, .int xb, .int xc, .int xs])).length) Slot.unset).toArray = ls at hl ⊢
  have hl : lv_has ls 6 [(0, .ref x), (1, .int xo), (2, .int xa), (3, .int xb), (4, .int xc), (5, .int xs)] := hl
  have hinX4 : ∀ w ∈ u_ws RX4 TX4 7, w ∈ wsX4_call := fun _ h => List.mem_cons_of_mem _ (List.mem_append_left _ (List.mem_append_right _ h))
  refine lv_iload_n hx hb dX4_call_0 rfl (lv_at hl 1 rfl) ?_
  refine lv_iconst (v := 0) hx hb dX4_call_1 (by decide) ?_
  refine lv_iconst (v := 5) hx hb dX4_call_2 (by decide) ?_
  refine vp_callSi (va_Run.run (va_runS (As := [.int xo, .int 0, .int 5]) (rest := []) ⟨hx, hb, hml, hown, hts⟩ (k_within l D cI cJ cZ xo 0 5) (cwS 3 hts gX4_call_X4_within rfl rfl rfl (by decide +kernel) ⟨Nat.le_of_ble_eq_true rfl, Nat.le_of_ble_eq_true rfl⟩) ⟨bl_ro, fun U hU hW => ⟨rfl, by rw [hU]; exact (hP.sub (ws' := []) [] rfl), hE.warm2 hW⟩⟩ rfl rfl hl.1 rfl (lv_room (Nat.le_of_ble_eq_true rfl)) dX4_call_3 ⟨Nat.zero_le _, Nat.zero_le _⟩)) (fun r3 hr3 => ?_)
  refine lv_if_eq (tgt := 29) hx hb dX4_call_6 (by decide) (fun c6 => ?_) (fun c6 => ?_)
  · exact absurd (hr3.symm.trans c6) hg.1
  · refine lv_iload_n hx hb dX4_call_9 rfl (lv_at hl 2 rfl) ?_
    refine lv_iconst (v := 0) hx hb dX4_call_10 (by decide) ?_
    refine lv_bipush (v := 7) hx hb dX4_call_11 (by decide) ?_
    refine vp_callSi (va_Run.run (va_runS (As := [.int xa, .int 0, .int 7]) (rest := []) ⟨hx, hb, hml, hown, hts⟩ (k_within l D cI cJ cZ xa 0 7) (cwS 3 hts gX4_call_X4_within rfl rfl rfl (by decide +kernel) ⟨Nat.le_of_ble_eq_true rfl, Nat.le_of_ble_eq_true rfl⟩) ⟨bl_ro, fun U hU hW => ⟨rfl, by rw [hU]; exact (hP.sub (ws' := []) [] rfl), hE.warm2 hW⟩⟩ rfl rfl hl.1 rfl (lv_room (Nat.le_of_ble_eq_true rfl)) dX4_call_13 ⟨Nat.zero_le _, Nat.zero_le _⟩)) (fun r13 hr13 => ?_)
    refine lv_if_eq (tgt := 29) hx hb dX4_call_16 (by decide) (fun c16 => ?_) (fun c16 => ?_)
    · exact absurd (hr13.symm.trans c16) hg.2.1
    · refine lv_iload_n hx hb dX4_call_19 rfl (lv_at hl 3 rfl) ?_
      refine lv_iconst (v := 0) hx hb dX4_call_20 (by decide) ?_
      refine lv_bipush (v := 7) hx hb dX4_call_21 (by decide) ?_
      refine vp_callSi (va_Run.run (va_runS (As := [.int xb, .int 0, .int 7]) (rest := []) ⟨hx, hb, hml, hown, hts⟩ (k_within l D cI cJ cZ xb 0 7) (cwS 3 hts gX4_call_X4_within rfl rfl rfl (by decide +kernel) ⟨Nat.le_of_ble_eq_true rfl, Nat.le_of_ble_eq_true rfl⟩) ⟨bl_ro, fun U hU hW => ⟨rfl, by rw [hU]; exact (hP.sub (ws' := []) [] rfl), hE.warm2 hW⟩⟩ rfl rfl hl.1 rfl (lv_room (Nat.le_of_ble_eq_true rfl)) dX4_call_23 ⟨Nat.zero_le _, Nat.zero_le _⟩)) (fun r23 hr23 => ?_)
      refine lv_if_ne (tgt := 32) hx hb dX4_call_26 (by decide) (fun c26 => ?_) (fun c26 => ?_)
      · refine lv_iload hx hb dX4_call_32 (lv_at hl 4 rfl) ?_
        refine lv_ldc hx hb hown (hts (.constant RX4 35 (-1000000)) (List.mem_of_getElem? (i := 1) rfl)) dX4_call_34 ?_
        refine lv_ldc hx hb hown (hts (.constant RX4 36 (1000000)) (List.mem_of_getElem? (i := 2) rfl)) dX4_call_36 ?_
        refine vp_callSi (va_Run.run (va_runS (As := [.int xc, .int ((-1000000)), .int 1000000]) (rest := []) ⟨hx, hb, hml, hown, hts⟩ (k_within l D cI cJ cZ xc ((-1000000)) 1000000) (cwS 3 hts gX4_call_X4_within rfl rfl rfl (by decide +kernel) ⟨Nat.le_of_ble_eq_true rfl, Nat.le_of_ble_eq_true rfl⟩) ⟨bl_ro, fun U hU hW => ⟨rfl, by rw [hU]; exact (hP.sub (ws' := []) [] rfl), hE.warm2 hW⟩⟩ rfl rfl hl.1 rfl (lv_room (Nat.le_of_ble_eq_true rfl)) dX4_call_38 ⟨Nat.zero_le _, Nat.zero_le _⟩)) (fun r38 hr38 => ?_)
        refine lv_if_eq (tgt := 55) hx hb dX4_call_41 (by decide) (fun c41 => ?_) (fun c41 => ?_)
        · exact absurd (hr38.symm.trans c41) hg.2.2.2.1
        · refine lv_iload hx hb dX4_call_44 (lv_at hl 5 rfl) ?_
          refine lv_iconst (v := 1) hx hb dX4_call_46 (by decide) ?_
          refine lv_bipush (v := 9) hx hb dX4_call_47 (by decide) ?_
          refine vp_callSi (va_Run.run (va_runS (As := [.int xs, .int 1, .int 9]) (rest := []) ⟨hx, hb, hml, hown, hts⟩ (k_within l D cI cJ cZ xs 1 9) (cwS 3 hts gX4_call_X4_within rfl rfl rfl (by decide +kernel) ⟨Nat.le_of_ble_eq_true rfl, Nat.le_of_ble_eq_true rfl⟩) ⟨bl_ro, fun U hU hW => ⟨rfl, by rw [hU]; exact (hP.sub (ws' := []) [] rfl), hE.warm2 hW⟩⟩ rfl rfl hl.1 rfl (lv_room (Nat.le_of_ble_eq_true rfl)) dX4_call_49 ⟨Nat.zero_le _, Nat.zero_le _⟩)) (fun r49 hr49 => ?_)
          refine lv_if_ne (tgt := 58) hx hb dX4_call_52 (by decide) (fun c52 => ?_) (fun c52 => ?_)
          · refine lv_aload_n hx hb dX4_call_58 rfl (lv_at hl 0 rfl) ?_
            refine va_get (D := D) (ci := 4) (v := .ref hB) (C := RX4) (T := TX4) (N := 7) hx hb hts hinX4 hown hK hP 0 rfl rfl 0 (by decide) (hts (.fieldLink RX4 10 "LedgerShares" "book" "LLedgerShares$Book;") (List.mem_of_getElem? (i := 3) rfl)) (fun _ h9 => h9) rfl dX4_call_59 ?_
            refine lv_iload_n hx hb dX4_call_62 rfl (lv_at hl 1 rfl) ?_
            refine lv_iload_n hx hb dX4_call_63 rfl (lv_at hl 2 rfl) ?_
            refine lv_iload_n hx hb dX4_call_64 rfl (lv_at hl 3 rfl) ?_
            refine lv_iload hx hb dX4_call_65 (lv_at hl 4 rfl) ?_
            refine lv_iload hx hb dX4_call_67 (lv_at hl 5 rfl) ?_
            refine x_calli (wc := [(hB, .inr (0, [.int (nI 40), .ref b1, .ref b2, .ref b3, .ref b4, .ref b5, .ref b6])), (b1, .inl (cI, 40, .inl ok)), (b2, .inl (cI, 40, .inl ak)), (b3, .inl (cI, 40, .inl bk)), (b4, .inl (cI, 40, .inl ck)), (b5, .inl (cI, 40, .inl sk))]) (wc' := [(hB, .inr (0, [.int (nI 40), .ref b1, .ref b2, .ref b3, .ref b4, .ref b5, .ref b6])), (b1, .inl (cI, 40, .inl ok)), (b2, .inl (cI, 40, .inl ak)), (b3, .inl (cI, 40, .inl bk)), (b4, .inl (cI, 40, .inl ck)), (b5, .inl (cI, 40, .inl sk))]) (wr := [(x, .inr (4, [.ref hB, .ref uX, .ref uL, .ref u, .int hv, .int rd, .int rr]))]) (ws' := [(x, .inr (4, [.ref hB, .ref uX, .ref uL, .ref u, .int hv, .int rd, .int rr])), (hB, .inr (0, [.int (nI 40), .ref b1, .ref b2, .ref b3, .ref b4, .ref b5, .ref b6])), (b1, .inl (cI, 40, .inl ok)), (b2, .inl (cI, 40, .inl ak)), (b3, .inl (cI, 40, .inl bk)), (b4, .inl (cI, 40, .inl ck)), (b5, .inl (cI, 40, .inl sk))]) hP hD hS hA [1, 2, 3, 4, 5, 6] [0] rfl rfl (by decide) (by decide) [0, 1, 2, 3, 4, 5, 6] (by decide) rfl (va_runV (As := [.int xo, .int xa, .int xb, .int xc, .int xs]) (rest := []) ⟨hx, hb, hml, hown, hts⟩ (k_enterF l D cI cJ cZ s.heap.size hB b1 b2 b3 b4 b5 b6 ok ak bk ck sk xo xa xb xc xs) (cwV 5 hts gX4_call_X0_enter rfl rfl rfl (by decide +kernel) ⟨Nat.le_of_ble_eq_true rfl, Nat.le_of_ble_eq_true rfl⟩) ⟨bl_rw, va_recv hK (hP.sub (ws' := [(hB, .inr (0, [.int (nI 40), .ref b1, .ref b2, .ref b3, .ref b4, .ref b5, .ref b6])), (b1, .inl (cI, 40, .inl ok)), (b2, .inl (cI, 40, .inl ak)), (b3, .inl (cI, 40, .inl bk)), (b4, .inl (cI, 40, .inl ck)), (b5, .inl (cI, 40, .inl sk))]) [1, 2, 3, 4, 5, 6] rfl) (ci := 0) (q0 := 0) rfl rfl, fun U hU hW => ⟨rfl, by rw [hU], by rw [hU]; exact (hP.sub (ws' := [(hB, .inr (0, [.int (nI 40), .ref b1, .ref b2, .ref b3, .ref b4, .ref b5, .ref b6])), (b1, .inl (cI, 40, .inl ok)), (b2, .inl (cI, 40, .inl ak)), (b3, .inl (cI, 40, .inl bk)), (b4, .inl (cI, 40, .inl ck)), (b5, .inl (cI, 40, .inl sk))]) [1, 2, 3, 4, 5, 6] rfl), hE.warm2 hW, (hD.sub (ws' := [(hB, .inr (0, [.int (nI 40), .ref b1, .ref b2, .ref b3, .ref b4, .ref b5, .ref b6])), (b1, .inl (cI, 40, .inl ok)), (b2, .inl (cI, 40, .inl ak)), (b3, .inl (cI, 40, .inl bk)), (b4, .inl (cI, 40, .inl ck)), (b5, .inl (cI, 40, .inl sk))]) [1, 2, 3, 4, 5, 6] (by decide) rfl).weaken (fun _ _ _ _ => trivial)⟩⟩ rfl rfl hl.1 rfl (lv_room (Nat.le_of_ble_eq_true rfl)) dX4_call_69 ⟨Nat.zero_le _, Nat.zero_le _⟩) (fun r69 hr69 H locs hP hD hS => ?_)
            exact W.iret hx hb hr (fun t ht hW => ⟨⟨_, (), rfl, hr69, by rw [ht]; exact hP, by exact hD⟩, hS.F ht⟩) hS.2.2 dX4_call_72
          · exact absurd (hr49.symm.trans c52) hg.2.2.2.2
      · exact absurd (hr23.symm.trans c26) hg.2.2.1
set_option maxHeartbeats 4000000 in
set_option maxRecDepth 100000 in
theorem k_clear (l : Launch) (D : va_G) (cI cJ cZ : ClassId) (sz : Nat) (x hB uX uL u : Nat) (hv rd rr : Int32) (b1 b2 b3 b4 b5 b6 : Nat) (bz : Int32) : Met l yX4_clear wsX4_clear ({ frames := 0, cells := 0, slots := 0, locals := 0 }) (PcRW [.ref x] sz D cI cJ cZ [(x, .inr (4, [.ref hB, .ref uX, .ref uL, .ref u, .int hv, .int rd, .int rr])), (hB, .inr (0, [.int bz, .ref b1, .ref b2, .ref b3, .ref b4, .ref b5, .ref b6]))]) (QcI (fun r => r = bz) D (va_A [(x, .inr (4, [.ref hB, .ref uX, .ref uL, .ref u, .int hv, .int rd, .int rr])), (hB, .inr (0, [.int bz, .ref b1, .ref b2, .ref b3, .ref b4, .ref b5, .ref b6]))] sz) [(x, .inr (4, [.ref hB, .ref uX, .ref uL, .ref u, .int 0, .int 0, .int 0])), (hB, .inr (0, [.int 0, .ref b1, .ref b2, .ref b3, .ref b4, .ref b5, .ref b6]))]) 0 0 (va_A [(x, .inr (4, [.ref hB, .ref uX, .ref uL, .ref u, .int hv, .int rd, .int rr])), (hB, .inr (0, [.int bz, .ref b1, .ref b2, .ref b3, .ref b4, .ref b5, .ref b6]))] sz) := by
  refine Met.ofW (cc := cX4_clear) (maxL := 2) (ret := some .int) (by decide) rfl ?_
  intro p e s m args below meth c s₁ B hml hv
  obtain ⟨rfl, hsz, hP, hE, hD0⟩ := hv
  have hx := B.exec
  have hb := B.bytes
  have hr := B.returns
  have hts := atoms_spec (ws := wsX4_clear) B.pre
  have hown : s.vm.findClass RX4 = some m.cls := findClass_of_methodNamed B.named
  have hlocks := B.notSynchronized
  have hK := hE.1
  subst hsz
  have hD := hD0.self (sz := s.heap.size)
  generalize hAe : va_A [(x, .inr (4, [.ref hB, .ref uX, .ref uL, .ref u, .int hv, .int rd, .int rr])), (hB, .inr (0, [.int bz, .ref b1, .ref b2, .ref b3, .ref b4, .ref b5, .ref b6]))] s.heap.size = A at hD ⊢
  have hA : ∀ q : Nat, s.heap.size ≤ q → A q := fun q h => by rw [← hAe]; exact Or.inr h
  have hS : va_S A s.heap s.heap [] := va_S.rf
  have hl := lv_entry ([.ref x]) (n := 2) (Nat.le_of_ble_eq_true rfl)
  rw [lg_entry_eq]
  generalize (lg_sl ([.ref x]) ++ List.replicate (2 - (lg_sl ([.ref x])).length) Slot.unset).toArray = ls at hl ⊢
  have hl : lv_has ls 2 [(0, .ref x)] := hl
  have hinX0 : ∀ w ∈ u_ws RX0 TX0 7, w ∈ wsX4_clear := fun _ h => List.mem_cons_of_mem _ (List.mem_append_right _ h)
  have hinX4 : ∀ w ∈ u_ws RX4 TX4 7, w ∈ wsX4_clear := fun _ h => List.mem_cons_of_mem _ (List.mem_append_left _ (List.mem_append_right _ h))
  refine lv_aload_n hx hb dX4_clear_0 rfl (lv_at hl 0 rfl) ?_
  refine va_get (D := D) (ci := 4) (v := .ref hB) (C := RX4) (T := TX4) (N := 7) hx hb hts hinX4 hown hK hP 0 rfl rfl 0 (by decide) (hts (.fieldLink RX4 10 "LedgerShares" "book" "LLedgerShares$Book;") (List.mem_of_getElem? (i := 1) rfl)) (fun _ h9 => h9) rfl dX4_clear_1 ?_
  refine va_get (D := D) (ci := 0) (v := .int bz) (C := RX0) (T := TX0) (N := 7) hx hb hts hinX0 hown hK hP 1 rfl rfl 0 (by decide) (hts (.fieldLink RX4 41 "LedgerShares$Book" "size" "I") (List.mem_of_getElem? (i := 2) rfl)) (fun _ h9 => h9) rfl dX4_clear_4 ?_
  refine lv_istore_n (lv' := [(1, .int bz), (0, .ref x)]) hx hb dX4_clear_7 rfl hl (by decide) rfl (fun ls hl => ?_)
  refine lv_aload_n hx hb dX4_clear_8 rfl (lv_at hl 1 rfl) ?_
  refine va_get (D := D) (ci := 4) (v := .ref hB) (C := RX4) (T := TX4) (N := 7) hx hb hts hinX4 hown hK hP 0 rfl rfl 0 (by decide) (hts (.fieldLink RX4 10 "LedgerShares" "book" "LLedgerShares$Book;") (List.mem_of_getElem? (i := 1) rfl)) (fun _ h9 => h9) rfl dX4_clear_9 ?_
  refine lv_iconst (v := 0) hx hb dX4_clear_12 (by decide) ?_
  refine x_put (D := D) (ci := 0) (v := .int 0) (ty := .int) (C := RX0) (T := TX0) (N := 7) hx hb hts hinX0 tyX0 tyX0_ok nmX0 hown hK hP hD hS 1 rfl rfl 0 (by decide) (hts (.fieldLink RX4 41 "LedgerShares$Book" "size" "I") (List.mem_of_getElem? (i := 2) rfl)) rfl (by decide +kernel) (rfl) (rfl) (Nat.le_of_ble_eq_true rfl) (ws' := [(x, .inr (4, [.ref hB, .ref uX, .ref uL, .ref u, .int hv, .int rd, .int rr])), (hB, .inr (0, [.int 0, .ref b1, .ref b2, .ref b3, .ref b4, .ref b5, .ref b6]))]) rfl dX4_clear_13 (fun H locs hP hD hS => ?_)
  refine lv_aload_n hx hb dX4_clear_16 rfl (lv_at hl 1 rfl) ?_
  refine lv_iconst (v := 0) hx hb dX4_clear_17 (by decide) ?_
  refine x_put (D := D) (ci := 4) (v := .int 0) (ty := .boolean) (C := RX4) (T := TX4) (N := 7) hx hb hts hinX4 tyX4 tyX4_ok nmX4 hown hK hP hD hS 0 rfl rfl 4 (by decide) (hts (.fieldLink RX4 45 "LedgerShares" "hasRun" "Z") (List.mem_of_getElem? (i := 3) rfl)) rfl (by decide +kernel) (by decide) (by decide) (Nat.le_of_ble_eq_true rfl) (ws' := [(x, .inr (4, [.ref hB, .ref uX, .ref uL, .ref u, .int 0, .int rd, .int rr])), (hB, .inr (0, [.int 0, .ref b1, .ref b2, .ref b3, .ref b4, .ref b5, .ref b6]))]) rfl dX4_clear_18 (fun H locs hP hD hS => ?_)
  refine lv_aload_n hx hb dX4_clear_21 rfl (lv_at hl 1 rfl) ?_
  refine lv_iconst (v := 0) hx hb dX4_clear_22 (by decide) ?_
  refine x_put (D := D) (ci := 4) (v := .int 0) (ty := .int) (C := RX4) (T := TX4) (N := 7) hx hb hts hinX4 tyX4 tyX4_ok nmX4 hown hK hP hD hS 0 rfl rfl 5 (by decide) (hts (.fieldLink RX4 49 "LedgerShares" "runsDone" "I") (List.mem_of_getElem? (i := 4) rfl)) rfl (by decide +kernel) (rfl) (rfl) (Nat.le_of_ble_eq_true rfl) (ws' := [(x, .inr (4, [.ref hB, .ref uX, .ref uL, .ref u, .int 0, .int 0, .int rr])), (hB, .inr (0, [.int 0, .ref b1, .ref b2, .ref b3, .ref b4, .ref b5, .ref b6]))]) rfl dX4_clear_23 (fun H locs hP hD hS => ?_)
  refine lv_aload_n hx hb dX4_clear_26 rfl (lv_at hl 1 rfl) ?_
  refine lv_iconst (v := 0) hx hb dX4_clear_27 (by decide) ?_
  refine x_put (D := D) (ci := 4) (v := .int 0) (ty := .int) (C := RX4) (T := TX4) (N := 7) hx hb hts hinX4 tyX4 tyX4_ok nmX4 hown hK hP hD hS 0 rfl rfl 6 (by decide) (hts (.fieldLink RX4 52 "LedgerShares" "runsRefused" "I") (List.mem_of_getElem? (i := 5) rfl)) rfl (by decide +kernel) (rfl) (rfl) (Nat.le_of_ble_eq_true rfl) (ws' := [(x, .inr (4, [.ref hB, .ref uX, .ref uL, .ref u, .int 0, .int 0, .int 0])), (hB, .inr (0, [.int 0, .ref b1, .ref b2, .ref b3, .ref b4, .ref b5, .ref b6]))]) rfl dX4_clear_28 (fun H locs hP hD hS => ?_)
  refine lv_iload_n hx hb dX4_clear_31 rfl (lv_at hl 0 rfl) ?_
  exact W.iret hx hb hr (fun t ht hW => ⟨⟨_, (), rfl, rfl, by rw [ht]; exact hP, by exact hD⟩, hS.F ht⟩) hS.2.2 dX4_clear_32
set_option maxHeartbeats 4000000 in
set_option maxRecDepth 100000 in
theorem k_gone_bad (l : Launch) (D : va_G) (cI cJ cZ : ClassId) (sz : Nat) (x hB uX uL u : Nat) (hv rd rr : Int32) (b1 b2 b3 b4 b5 b6 : Nat) (bz : Int32) (gn : Nat → Int32) (w n : Int32) (hg : ¬ (¬ wi w 0 15 = 0 ∧ ¬ wi n 0 99 = 0)) : Met l yX4_gone wsX4_gone ({ frames := 1, cells := 0, slots := 0, locals := 22 }) (PcRW [.ref x, .int w, .int n] sz D cI cJ cZ [(x, .inr (4, [.ref hB, .ref uX, .ref uL, .ref u, .int hv, .int rd, .int rr])), (hB, .inr (0, [.int bz, .ref b1, .ref b2, .ref b3, .ref b4, .ref b5, .ref b6])), (b6, .inl (cI, 16, .inl gn))]) (QcI (fun r => r = -2) D (va_A [(x, .inr (4, [.ref hB, .ref uX, .ref uL, .ref u, .int hv, .int rd, .int rr])), (hB, .inr (0, [.int bz, .ref b1, .ref b2, .ref b3, .ref b4, .ref b5, .ref b6])), (b6, .inl (cI, 16, .inl gn))] sz) [(x, .inr (4, [.ref hB, .ref uX, .ref uL, .ref u, .int hv, .int rd, .int rr])), (hB, .inr (0, [.int bz, .ref b1, .ref b2, .ref b3, .ref b4, .ref b5, .ref b6])), (b6, .inl (cI, 16, .inl gn))]) 0 0 (va_A [(x, .inr (4, [.ref hB, .ref uX, .ref uL, .ref u, .int hv, .int rd, .int rr])), (hB, .inr (0, [.int bz, .ref b1, .ref b2, .ref b3, .ref b4, .ref b5, .ref b6])), (b6, .inl (cI, 16, .inl gn))] sz) := by
  refine Met.ofW (cc := cX4_gone) (maxL := 4) (ret := some .int) (by decide) rfl ?_
  intro p e s m args below meth c s₁ B hml hv
  obtain ⟨rfl, hsz, hP, hE, hD0⟩ := hv
  have hx := B.exec
  have hb := B.bytes
  have hr := B.returns
  have hts := atoms_spec (ws := wsX4_gone) B.pre
  have hown : s.vm.findClass RX4 = some m.cls := findClass_of_methodNamed B.named
  have hlocks := B.notSynchronized
  have hK := hE.1
  subst hsz
  have hD := hD0.self (sz := s.heap.size)
  generalize hAe : va_A [(x, .inr (4, [.ref hB, .ref uX, .ref uL, .ref u, .int hv, .int rd, .int rr])), (hB, .inr (0, [.int bz, .ref b1, .ref b2, .ref b3, .ref b4, .ref b5, .ref b6])), (b6, .inl (cI, 16, .inl gn))] s.heap.size = A at hD ⊢
  have hA : ∀ q : Nat, s.heap.size ≤ q → A q := fun q h => by rw [← hAe]; exact Or.inr h
  have hS : va_S A s.heap s.heap [] := va_S.rf
  have hl := lv_entry ([.ref x, .int w, .int n]) (n := 4) (Nat.le_of_ble_eq_true rfl)
  rw [lg_entry_eq]
  generalize (lg_sl ([.ref x, .int w, .int n]) ++ List.replicate (4 - (lg_sl ([.ref x, .int w, .int n])).length) Slot.unset).toArray = ls at hl ⊢
  have hl : lv_has ls 4 [(0, .ref x), (1, .int w), (2, .int n)] := hl
  have hinX0 : ∀ w ∈ u_ws RX0 TX0 7, w ∈ wsX4_gone := fun _ h => List.mem_cons_of_mem _ (List.mem_append_right _ h)
  have hinX4 : ∀ w ∈ u_ws RX4 TX4 7, w ∈ wsX4_gone := fun _ h => List.mem_cons_of_mem _ (List.mem_append_left _ (List.mem_append_right _ h))
  refine lv_iload_n hx hb dX4_gone_0 rfl (lv_at hl 1 rfl) ?_
  refine lv_iconst (v := 0) hx hb dX4_gone_1 (by decide) ?_
  refine lv_bipush (v := 15) hx hb dX4_gone_2 (by decide) ?_
  refine vp_callSi (va_Run.run (va_runS (As := [.int w, .int 0, .int 15]) (rest := []) ⟨hx, hb, hml, hown, hts⟩ (k_within l D cI cJ cZ w 0 15) (cwS 3 hts gX4_gone_X4_within rfl rfl rfl (by decide +kernel) ⟨Nat.le_of_ble_eq_true rfl, Nat.le_of_ble_eq_true rfl⟩) ⟨bl_ro, fun U hU hW => ⟨rfl, by rw [hU]; exact (hP.sub (ws' := []) [] rfl), hE.warm2 hW⟩⟩ rfl rfl hl.1 rfl (lv_room (Nat.le_of_ble_eq_true rfl)) dX4_gone_4 ⟨Nat.zero_le _, Nat.zero_le _⟩)) (fun r4 hr4 => ?_)
  refine lv_if_eq (tgt := 20) hx hb dX4_gone_7 (by decide) (fun c7 => ?_) (fun c7 => ?_)
  · refine lv_bipush (v := (-2)) hx hb dX4_gone_20 (by decide) ?_
    exact W.iret hx hb hr (fun t ht hW => ⟨⟨_, (), rfl, rfl, by rw [ht]; exact hP, by exact hD⟩, hS.F ht⟩) hS.2.2 dX4_gone_22
  · refine lv_iload_n hx hb dX4_gone_10 rfl (lv_at hl 2 rfl) ?_
    refine lv_iconst (v := 0) hx hb dX4_gone_11 (by decide) ?_
    refine lv_bipush (v := 99) hx hb dX4_gone_12 (by decide) ?_
    refine vp_callSi (va_Run.run (va_runS (As := [.int n, .int 0, .int 99]) (rest := []) ⟨hx, hb, hml, hown, hts⟩ (k_within l D cI cJ cZ n 0 99) (cwS 3 hts gX4_gone_X4_within rfl rfl rfl (by decide +kernel) ⟨Nat.le_of_ble_eq_true rfl, Nat.le_of_ble_eq_true rfl⟩) ⟨bl_ro, fun U hU hW => ⟨rfl, by rw [hU]; exact (hP.sub (ws' := []) [] rfl), hE.warm2 hW⟩⟩ rfl rfl hl.1 rfl (lv_room (Nat.le_of_ble_eq_true rfl)) dX4_gone_14 ⟨Nat.zero_le _, Nat.zero_le _⟩)) (fun r14 hr14 => ?_)
    refine lv_if_ne (tgt := 23) hx hb dX4_gone_17 (by decide) (fun c17 => ?_) (fun c17 => ?_)
    · exact absurd ⟨fun z => c7 (hr4.trans z), fun z => c17 (hr14.trans z)⟩ hg
    · refine lv_bipush (v := (-2)) hx hb dX4_gone_20 (by decide) ?_
      exact W.iret hx hb hr (fun t ht hW => ⟨⟨_, (), rfl, rfl, by rw [ht]; exact hP, by exact hD⟩, hS.F ht⟩) hS.2.2 dX4_gone_22
set_option maxHeartbeats 4000000 in
set_option maxRecDepth 100000 in
theorem k_gone_ok (l : Launch) (D : va_G) (cI cJ cZ : ClassId) (sz : Nat) (x hB uX uL u : Nat) (hv rd rr : Int32) (b1 b2 b3 b4 b5 b6 : Nat) (bz : Int32) (gn : Nat → Int32) (w : Nat) (hw : w < 16) (n : Int32) (hg : ¬ wi (nI w) 0 15 = 0 ∧ ¬ wi n 0 99 = 0) : Met l yX4_gone wsX4_gone ({ frames := 1, cells := 0, slots := 0, locals := 22 }) (PcRW [.ref x, .int (nI w), .int n] sz D cI cJ cZ [(x, .inr (4, [.ref hB, .ref uX, .ref uL, .ref u, .int hv, .int rd, .int rr])), (hB, .inr (0, [.int bz, .ref b1, .ref b2, .ref b3, .ref b4, .ref b5, .ref b6])), (b6, .inl (cI, 16, .inl gn))]) (QcI (fun r => r = gn w) D (va_A [(x, .inr (4, [.ref hB, .ref uX, .ref uL, .ref u, .int hv, .int rd, .int rr])), (hB, .inr (0, [.int bz, .ref b1, .ref b2, .ref b3, .ref b4, .ref b5, .ref b6])), (b6, .inl (cI, 16, .inl gn))] sz) [(x, .inr (4, [.ref hB, .ref uX, .ref uL, .ref u, .int hv, .int rd, .int rr])), (hB, .inr (0, [.int bz, .ref b1, .ref b2, .ref b3, .ref b4, .ref b5, .ref b6])), (b6, .inl (cI, 16, .inl (upd gn w n)))]) 0 0 (va_A [(x, .inr (4, [.ref hB, .ref uX, .ref uL, .ref u, .int hv, .int rd, .int rr])), (hB, .inr (0, [.int bz, .ref b1, .ref b2, .ref b3, .ref b4, .ref b5, .ref b6])), (b6, .inl (cI, 16, .inl gn))] sz) := by
  refine Met.ofW (cc := cX4_gone) (maxL := 4) (ret := some .int) (by decide) rfl ?_
  intro p e s m args below meth c s₁ B hml hv
  obtain ⟨rfl, hsz, hP, hE, hD0⟩ := hv
  have hx := B.exec
  have hb := B.bytes
  have hr := B.returns
  have hts := atoms_spec (ws := wsX4_gone) B.pre
  have hown : s.vm.findClass RX4 = some m.cls := findClass_of_methodNamed B.named
  have hlocks := B.notSynchronized
  have hK := hE.1
  subst hsz
  have hD := hD0.self (sz := s.heap.size)
  generalize hAe : va_A [(x, .inr (4, [.ref hB, .ref uX, .ref uL, .ref u, .int hv, .int rd, .int rr])), (hB, .inr (0, [.int bz, .ref b1, .ref b2, .ref b3, .ref b4, .ref b5, .ref b6])), (b6, .inl (cI, 16, .inl gn))] s.heap.size = A at hD ⊢
  have hA : ∀ q : Nat, s.heap.size ≤ q → A q := fun q h => by rw [← hAe]; exact Or.inr h
  have hS : va_S A s.heap s.heap [] := va_S.rf
  have hl := lv_entry ([.ref x, .int (nI w), .int n]) (n := 4) (Nat.le_of_ble_eq_true rfl)
  rw [lg_entry_eq]
  generalize (lg_sl ([.ref x, .int (nI w), .int n]) ++ List.replicate (4 - (lg_sl ([.ref x, .int (nI w), .int n])).length) Slot.unset).toArray = ls at hl ⊢
  have hl : lv_has ls 4 [(0, .ref x), (1, .int (nI w)), (2, .int n)] := hl
  have hinX0 : ∀ w ∈ u_ws RX0 TX0 7, w ∈ wsX4_gone := fun _ h => List.mem_cons_of_mem _ (List.mem_append_right _ h)
  have hinX4 : ∀ w ∈ u_ws RX4 TX4 7, w ∈ wsX4_gone := fun _ h => List.mem_cons_of_mem _ (List.mem_append_left _ (List.mem_append_right _ h))
  refine lv_iload_n hx hb dX4_gone_0 rfl (lv_at hl 1 rfl) ?_
  refine lv_iconst (v := 0) hx hb dX4_gone_1 (by decide) ?_
  refine lv_bipush (v := 15) hx hb dX4_gone_2 (by decide) ?_
  refine vp_callSi (va_Run.run (va_runS (As := [.int (nI w), .int 0, .int 15]) (rest := []) ⟨hx, hb, hml, hown, hts⟩ (k_within l D cI cJ cZ (nI w) 0 15) (cwS 3 hts gX4_gone_X4_within rfl rfl rfl (by decide +kernel) ⟨Nat.le_of_ble_eq_true rfl, Nat.le_of_ble_eq_true rfl⟩) ⟨bl_ro, fun U hU hW => ⟨rfl, by rw [hU]; exact (hP.sub (ws' := []) [] rfl), hE.warm2 hW⟩⟩ rfl rfl hl.1 rfl (lv_room (Nat.le_of_ble_eq_true rfl)) dX4_gone_4 ⟨Nat.zero_le _, Nat.zero_le _⟩)) (fun r4 hr4 => ?_)
  refine lv_if_eq (tgt := 20) hx hb dX4_gone_7 (by decide) (fun c7 => ?_) (fun c7 => ?_)
  · exact absurd (hr4.symm.trans c7) hg.1
  · refine lv_iload_n hx hb dX4_gone_10 rfl (lv_at hl 2 rfl) ?_
    refine lv_iconst (v := 0) hx hb dX4_gone_11 (by decide) ?_
    refine lv_bipush (v := 99) hx hb dX4_gone_12 (by decide) ?_
    refine vp_callSi (va_Run.run (va_runS (As := [.int n, .int 0, .int 99]) (rest := []) ⟨hx, hb, hml, hown, hts⟩ (k_within l D cI cJ cZ n 0 99) (cwS 3 hts gX4_gone_X4_within rfl rfl rfl (by decide +kernel) ⟨Nat.le_of_ble_eq_true rfl, Nat.le_of_ble_eq_true rfl⟩) ⟨bl_ro, fun U hU hW => ⟨rfl, by rw [hU]; exact (hP.sub (ws' := []) [] rfl), hE.warm2 hW⟩⟩ rfl rfl hl.1 rfl (lv_room (Nat.le_of_ble_eq_true rfl)) dX4_gone_14 ⟨Nat.zero_le _, Nat.zero_le _⟩)) (fun r14 hr14 => ?_)
    refine lv_if_ne (tgt := 23) hx hb dX4_gone_17 (by decide) (fun c17 => ?_) (fun c17 => ?_)
    · refine lv_aload_n hx hb dX4_gone_23 rfl (lv_at hl 0 rfl) ?_
      refine va_get (D := D) (ci := 4) (v := .ref hB) (C := RX4) (T := TX4) (N := 7) hx hb hts hinX4 hown hK hP 0 rfl rfl 0 (by decide) (hts (.fieldLink RX4 10 "LedgerShares" "book" "LLedgerShares$Book;") (List.mem_of_getElem? (i := 1) rfl)) (fun _ h9 => h9) rfl dX4_gone_24 ?_
      refine va_get (D := D) (ci := 0) (v := .ref b6) (C := RX0) (T := TX0) (N := 7) hx hb hts hinX0 hown hK hP 1 rfl rfl 6 (by decide) (hts (.fieldLink RX4 55 "LedgerShares$Book" "goneAt" "[I") (List.mem_of_getElem? (i := 2) rfl)) (fun _ h9 => h9) rfl dX4_gone_27 ?_
      refine lv_iload_n hx hb dX4_gone_30 rfl (lv_at hl 1 rfl) ?_
      refine x_iald hx hb hE hP 2 rfl (w) hw (by decide) (rfl) dX4_gone_31 ?_
      refine lv_istore_n (lv' := [(3, .int (gn w)), (0, .ref x), (1, .int (nI w)), (2, .int n)]) hx hb dX4_gone_32 rfl hl (by decide) rfl (fun ls hl => ?_)
      refine lv_aload_n hx hb dX4_gone_33 rfl (lv_at hl 1 rfl) ?_
      refine va_get (D := D) (ci := 4) (v := .ref hB) (C := RX4) (T := TX4) (N := 7) hx hb hts hinX4 hown hK hP 0 rfl rfl 0 (by decide) (hts (.fieldLink RX4 10 "LedgerShares" "book" "LLedgerShares$Book;") (List.mem_of_getElem? (i := 1) rfl)) (fun _ h9 => h9) rfl dX4_gone_34 ?_
      refine va_get (D := D) (ci := 0) (v := .ref b6) (C := RX0) (T := TX0) (N := 7) hx hb hts hinX0 hown hK hP 1 rfl rfl 6 (by decide) (hts (.fieldLink RX4 55 "LedgerShares$Book" "goneAt" "[I") (List.mem_of_getElem? (i := 2) rfl)) (fun _ h9 => h9) rfl dX4_gone_37 ?_
      refine lv_iload_n hx hb dX4_gone_40 rfl (lv_at hl 2 rfl) ?_
      refine lv_iload_n hx hb dX4_gone_41 rfl (lv_at hl 3 rfl) ?_
      refine x_iast hx hb hE hP hD hS 2 rfl (w) hw (by decide) (rfl) (ws' := [(x, .inr (4, [.ref hB, .ref uX, .ref uL, .ref u, .int hv, .int rd, .int rr])), (hB, .inr (0, [.int bz, .ref b1, .ref b2, .ref b3, .ref b4, .ref b5, .ref b6])), (b6, .inl (cI, 16, .inl (upd gn w n)))]) (rfl) dX4_gone_42 (fun H locs hP hD hS => ?_)
      refine lv_iload_n hx hb dX4_gone_43 rfl (lv_at hl 0 rfl) ?_
      exact W.iret hx hb hr (fun t ht hW => ⟨⟨_, (), rfl, rfl, by rw [ht]; exact hP, by exact hD⟩, hS.F ht⟩) hS.2.2 dX4_gone_44
    · exact absurd (hr14.symm.trans c17) hg.2
set_option maxHeartbeats 4000000 in
set_option maxRecDepth 100000 in
theorem k_isCall (l : Launch) (D : va_G) (cI cJ cZ : ClassId) (x hB uX uL u : Nat) (hv rd rr : Int32) (b1 b2 b3 b4 b5 b6 : Nat) (bz k : Int32) : Met l yX4_isCall wsX4_isCall ({ frames := 1, cells := 0, slots := 0, locals := 22 }) (PcRO [.ref x, .int k] D cI cJ cZ [(x, .inr (4, [.ref hB, .ref uX, .ref uL, .ref u, .int hv, .int rd, .int rr])), (hB, .inr (0, [.int bz, .ref b1, .ref b2, .ref b3, .ref b4, .ref b5, .ref b6]))]) (vp_Si (fun r => r = wi k 0 (bz - 1))) 0 0 noF := by
  refine Met.ofW (cc := cX4_isCall) (maxL := 2) (ret := some .boolean) (by decide) rfl ?_
  intro p e s m args below meth c s₁ B hml hv
  obtain ⟨rfl, hP, hE⟩ := hv
  have hx := B.exec
  have hb := B.bytes
  have hr := B.returns
  have hts := atoms_spec (ws := wsX4_isCall) B.pre
  have hown : s.vm.findClass RX4 = some m.cls := findClass_of_methodNamed B.named
  have hlocks := B.notSynchronized
  have hK := hE.1
  have hl := lv_entry ([.ref x, .int k]) (n := 2) (Nat.le_of_ble_eq_true rfl)
  rw [lg_entry_eq]
  generalize (lg_sl ([.ref x, .int k]) ++ List.replicate (2 - (lg_sl ([.ref x, .int k])).length) Slot.unset).toArray = ls at hl ⊢
  have hl : lv_has ls 2 [(0, .ref x), (1, .int k)] := hl
  have hinX0 : ∀ w ∈ u_ws RX0 TX0 7, w ∈ wsX4_isCall := fun _ h => List.mem_cons_of_mem _ (List.mem_append_right _ h)
  have hinX4 : ∀ w ∈ u_ws RX4 TX4 7, w ∈ wsX4_isCall := fun _ h => List.mem_cons_of_mem _ (List.mem_append_left _ (List.mem_append_right _ h))
  refine lv_iload_n hx hb dX4_isCall_0 rfl (lv_at hl 1 rfl) ?_
  refine lv_iconst (v := 0) hx hb dX4_isCall_1 (by decide) ?_
  refine lv_aload_n hx hb dX4_isCall_2 rfl (lv_at hl 0 rfl) ?_
  refine va_get (D := D) (ci := 4) (v := .ref hB) (C := RX4) (T := TX4) (N := 7) hx hb hts hinX4 hown hK hP 0 rfl rfl 0 (by decide) (hts (.fieldLink RX4 10 "LedgerShares" "book" "LLedgerShares$Book;") (List.mem_of_getElem? (i := 1) rfl)) (fun _ h9 => h9) rfl dX4_isCall_3 ?_
  refine va_get (D := D) (ci := 0) (v := .int bz) (C := RX0) (T := TX0) (N := 7) hx hb hts hinX0 hown hK hP 1 rfl rfl 0 (by decide) (hts (.fieldLink RX4 41 "LedgerShares$Book" "size" "I") (List.mem_of_getElem? (i := 2) rfl)) (fun _ h9 => h9) rfl dX4_isCall_6 ?_
  refine lv_iconst (v := 1) hx hb dX4_isCall_9 (by decide) ?_
  refine lv_isub hx hb dX4_isCall_10 ?_
  refine vp_callSi (va_Run.run (va_runS (As := [.int k, .int 0, .int (bz - 1)]) (rest := []) ⟨hx, hb, hml, hown, hts⟩ (k_within l D cI cJ cZ k 0 (bz - 1)) (cwS 3 hts gX4_isCall_X4_within rfl rfl rfl (by decide +kernel) ⟨Nat.le_of_ble_eq_true rfl, Nat.le_of_ble_eq_true rfl⟩) ⟨bl_ro, fun U hU hW => ⟨rfl, by rw [hU]; exact (hP.sub (ws' := []) [] rfl), hE.warm2 hW⟩⟩ rfl rfl hl.1 rfl (lv_room (Nat.le_of_ble_eq_true rfl)) dX4_isCall_11 ⟨Nat.zero_le _, Nat.zero_le _⟩)) (fun r11 hr11 => ?_)
  exact W.zret hx hb hr (by rw [hr11]; exact wi_nar _ _ _) (fun t ht hW => ⟨_, rfl, hr11, ht⟩) (fun q h => by cases h) dX4_isCall_14
set_option maxHeartbeats 4000000 in
set_option maxRecDepth 100000 in
theorem k_wasIn (l : Launch) (D : va_G) (cI cJ cZ : ClassId) (x hB uX uL u : Nat) (hv rd rr : Int32) (b1 b2 b3 b4 b5 b6 : Nat) (h q1 q2 q3 q4 q5 q6 q7 q8 q9 q10 q11 q12 q13 g : Nat) (cl : Nat) (m1 m2 m3 m4 m5 m6 m7 m8 m9 : Int32) (k : Int32) : Met l yX4_wasInLatest wsX4_wasInLatest ({ frames := 1, cells := 0, slots := 0, locals := 22 }) (PcRO [.ref x, .int k] D cI cJ cZ [(x, .inr (4, [.ref hB, .ref uX, .ref uL, .ref u, .int hv, .int rd, .int rr])), (uL, .inr (2, [.ref hB, .ref h, .ref g, .int (nI cl), .int m1, .int m2, .int m3, .int m4, .int m5, .int m6, .int m7, .int m8, .int m9]))]) (vp_Si (fun r => r = if hv = 0 then 0 else wi k 0 (nI cl - 1))) 0 0 noF := by
  refine Met.ofW (cc := cX4_wasInLatest) (maxL := 2) (ret := some .boolean) (by decide) rfl ?_
  intro p e s m args below meth c s₁ B hml hv
  obtain ⟨rfl, hP, hE⟩ := hv
  have hx := B.exec
  have hb := B.bytes
  have hr := B.returns
  have hts := atoms_spec (ws := wsX4_wasInLatest) B.pre
  have hown : s.vm.findClass RX4 = some m.cls := findClass_of_methodNamed B.named
  have hlocks := B.notSynchronized
  have hK := hE.1
  have hl := lv_entry ([.ref x, .int k]) (n := 2) (Nat.le_of_ble_eq_true rfl)
  rw [lg_entry_eq]
  generalize (lg_sl ([.ref x, .int k]) ++ List.replicate (2 - (lg_sl ([.ref x, .int k])).length) Slot.unset).toArray = ls at hl ⊢
  have hl : lv_has ls 2 [(0, .ref x), (1, .int k)] := hl
  have hinX2 : ∀ w ∈ u_ws RX2 TX2 13, w ∈ wsX4_wasInLatest := fun _ h => List.mem_cons_of_mem _ (List.mem_append_right _ h)
  have hinX4 : ∀ w ∈ u_ws RX4 TX4 7, w ∈ wsX4_wasInLatest := fun _ h => List.mem_cons_of_mem _ (List.mem_append_left _ (List.mem_append_right _ h))
  refine lv_aload_n hx hb dX4_wasInLatest_0 rfl (lv_at hl 0 rfl) ?_
  refine va_get (D := D) (ci := 4) (v := .int hv) (C := RX4) (T := TX4) (N := 7) hx hb hts hinX4 hown hK hP 0 rfl rfl 4 (by decide) (hts (.fieldLink RX4 45 "LedgerShares" "hasRun" "Z") (List.mem_of_getElem? (i := 1) rfl)) (fun _ h9 => h9) rfl dX4_wasInLatest_1 ?_
  refine lv_if_eq (tgt := 28) hx hb dX4_wasInLatest_4 (by decide) (fun c4 => ?_) (fun c4 => ?_)
  · refine lv_iconst (v := 0) hx hb dX4_wasInLatest_28 (by decide) ?_
    exact W.zret hx hb hr (by decide) (fun t ht hW => ⟨_, rfl, by rw [if_pos c4], ht⟩) (fun q h => by cases h) dX4_wasInLatest_29
  · refine lv_iload_n hx hb dX4_wasInLatest_7 rfl (lv_at hl 1 rfl) ?_
    refine lv_iconst (v := 0) hx hb dX4_wasInLatest_8 (by decide) ?_
    refine lv_aload_n hx hb dX4_wasInLatest_9 rfl (lv_at hl 0 rfl) ?_
    refine va_get (D := D) (ci := 4) (v := .ref uL) (C := RX4) (T := TX4) (N := 7) hx hb hts hinX4 hown hK hP 0 rfl rfl 2 (by decide) (hts (.fieldLink RX4 21 "LedgerShares" "latest" "LLedgerShares$Run;") (List.mem_of_getElem? (i := 2) rfl)) (fun _ h9 => h9) rfl dX4_wasInLatest_10 ?_
    refine va_get (D := D) (ci := 2) (v := .int (nI cl)) (C := RX2) (T := TX2) (N := 13) hx hb hts hinX2 hown hK hP 1 rfl rfl 3 (by decide) (hts (.fieldLink RX4 74 "LedgerShares$Run" "calls" "I") (List.mem_of_getElem? (i := 3) rfl)) (fun _ h9 => h9) rfl dX4_wasInLatest_13 ?_
    refine lv_iconst (v := 1) hx hb dX4_wasInLatest_16 (by decide) ?_
    refine lv_isub hx hb dX4_wasInLatest_17 ?_
    refine vp_callSi (va_Run.run (va_runS (As := [.int k, .int 0, .int ((nI cl) - 1)]) (rest := []) ⟨hx, hb, hml, hown, hts⟩ (k_within l D cI cJ cZ k 0 ((nI cl) - 1)) (cwS 3 hts gX4_wasInLatest_X4_within rfl rfl rfl (by decide +kernel) ⟨Nat.le_of_ble_eq_true rfl, Nat.le_of_ble_eq_true rfl⟩) ⟨bl_ro, fun U hU hW => ⟨rfl, by rw [hU]; exact (hP.sub (ws' := []) [] rfl), hE.warm2 hW⟩⟩ rfl rfl hl.1 rfl (lv_room (Nat.le_of_ble_eq_true rfl)) dX4_wasInLatest_18 ⟨Nat.zero_le _, Nat.zero_le _⟩)) (fun r18 hr18 => ?_)
    refine lv_if_eq (tgt := 28) hx hb dX4_wasInLatest_21 (by decide) (fun c21 => ?_) (fun c21 => ?_)
    · refine lv_iconst (v := 0) hx hb dX4_wasInLatest_28 (by decide) ?_
      exact W.zret hx hb hr (by decide) (fun t ht hW => ⟨_, rfl, by rw [if_neg c4]; exact (hr18.symm.trans c21).symm, ht⟩) (fun q h => by cases h) dX4_wasInLatest_29
    · refine lv_iconst (v := 1) hx hb dX4_wasInLatest_24 (by decide) ?_
      refine lv_goto (tgt := 29) hx hb dX4_wasInLatest_25 (by decide) ?_
      exact W.zret hx hb hr (by decide) (fun t ht hW => ⟨_, rfl, by rw [if_neg c4]; exact ((wi_b k 0 (nI cl - 1)).resolve_left (fun z => c21 (hr18.trans z))).symm, ht⟩) (fun q h => by cases h) dX4_wasInLatest_29
set_option maxHeartbeats 4000000 in
set_option maxRecDepth 100000 in
theorem k_count (l : Launch) (D : va_G) (cI cJ cZ : ClassId) (x hB uX uL u : Nat) (hv rd rr : Int32) (b1 b2 b3 b4 b5 b6 : Nat) (bz w : Int32) : Met l yX4_count wsX4_count ({ frames := 0, cells := 0, slots := 0, locals := 0 }) (PcRO [.ref x, .int w] D cI cJ cZ [(x, .inr (4, [.ref hB, .ref uX, .ref uL, .ref u, .int hv, .int rd, .int rr])), (hB, .inr (0, [.int bz, .ref b1, .ref b2, .ref b3, .ref b4, .ref b5, .ref b6]))]) (vp_Si (fun r => r = if w = 0 then bz else if w = 1 then rd else if w = 2 then rr else -2)) 0 0 noF := by
  refine Met.ofW (cc := cX4_count) (maxL := 2) (ret := some .int) (by decide) rfl ?_
  intro p e s m args below meth c s₁ B hml hv
  obtain ⟨rfl, hP, hE⟩ := hv
  have hx := B.exec
  have hb := B.bytes
  have hr := B.returns
  have hts := atoms_spec (ws := wsX4_count) B.pre
  have hown : s.vm.findClass RX4 = some m.cls := findClass_of_methodNamed B.named
  have hlocks := B.notSynchronized
  have hK := hE.1
  have hl := lv_entry ([.ref x, .int w]) (n := 2) (Nat.le_of_ble_eq_true rfl)
  rw [lg_entry_eq]
  generalize (lg_sl ([.ref x, .int w]) ++ List.replicate (2 - (lg_sl ([.ref x, .int w])).length) Slot.unset).toArray = ls at hl ⊢
  have hl : lv_has ls 2 [(0, .ref x), (1, .int w)] := hl
  have hinX0 : ∀ w ∈ u_ws RX0 TX0 7, w ∈ wsX4_count := fun _ h => List.mem_cons_of_mem _ (List.mem_append_right _ h)
  have hinX4 : ∀ w ∈ u_ws RX4 TX4 7, w ∈ wsX4_count := fun _ h => List.mem_cons_of_mem _ (List.mem_append_left _ (List.mem_append_right _ h))
  refine lv_iload_n hx hb dX4_count_0 rfl (lv_at hl 1 rfl) ?_
  rcases sw2 w with e1 | e1 | e1 | ⟨n0, n1, n2, n3⟩
  · refine lv_tableIn (off := 27) (tgt := 28) hx hb dX4_count_1 (by rw [e1]; decide) (by rw [e1]; decide) (by rw [e1]; rfl) (by decide) ?_
    refine lv_aload_n hx hb dX4_count_28 rfl (lv_at hl 0 rfl) ?_
    refine va_get (D := D) (ci := 4) (v := .ref hB) (C := RX4) (T := TX4) (N := 7) hx hb hts hinX4 hown hK hP 0 rfl rfl 0 (by decide) (hts (.fieldLink RX4 10 "LedgerShares" "book" "LLedgerShares$Book;") (List.mem_of_getElem? (i := 1) rfl)) (fun _ h9 => h9) rfl dX4_count_29 ?_
    refine va_get (D := D) (ci := 0) (v := .int bz) (C := RX0) (T := TX0) (N := 7) hx hb hts hinX0 hown hK hP 1 rfl rfl 0 (by decide) (hts (.fieldLink RX4 41 "LedgerShares$Book" "size" "I") (List.mem_of_getElem? (i := 2) rfl)) (fun _ h9 => h9) rfl dX4_count_32 ?_
    exact W.iret hx hb hr (fun t ht hW => ⟨_, rfl, by simp [e1], ht⟩) (fun q h => by cases h) dX4_count_35
  · refine lv_tableIn (off := 35) (tgt := 36) hx hb dX4_count_1 (by rw [e1]; decide) (by rw [e1]; decide) (by rw [e1]; rfl) (by decide) ?_
    refine lv_aload_n hx hb dX4_count_36 rfl (lv_at hl 0 rfl) ?_
    refine va_get (D := D) (ci := 4) (v := .int rd) (C := RX4) (T := TX4) (N := 7) hx hb hts hinX4 hown hK hP 0 rfl rfl 5 (by decide) (hts (.fieldLink RX4 49 "LedgerShares" "runsDone" "I") (List.mem_of_getElem? (i := 3) rfl)) (fun _ h9 => h9) rfl dX4_count_37 ?_
    exact W.iret hx hb hr (fun t ht hW => ⟨_, rfl, by simp [e1], ht⟩) (fun q h => by cases h) dX4_count_40
  · refine lv_tableIn (off := 40) (tgt := 41) hx hb dX4_count_1 (by rw [e1]; decide) (by rw [e1]; decide) (by rw [e1]; rfl) (by decide) ?_
    refine lv_aload_n hx hb dX4_count_41 rfl (lv_at hl 0 rfl) ?_
    refine va_get (D := D) (ci := 4) (v := .int rr) (C := RX4) (T := TX4) (N := 7) hx hb hts hinX4 hown hK hP 0 rfl rfl 6 (by decide) (hts (.fieldLink RX4 52 "LedgerShares" "runsRefused" "I") (List.mem_of_getElem? (i := 4) rfl)) (fun _ h9 => h9) rfl dX4_count_42 ?_
    exact W.iret hx hb hr (fun t ht hW => ⟨_, rfl, by simp [e1], ht⟩) (fun q h => by cases h) dX4_count_45
  · refine lv_tableOut (tgt := 46) hx hb dX4_count_1 (n3) (by decide) ?_
    refine lv_bipush (v := (-2)) hx hb dX4_count_46 (by decide) ?_
    exact W.iret hx hb hr (fun t ht hW => ⟨_, rfl, by simp [n0, n1, n2], ht⟩) (fun q h => by cases h) dX4_count_48
set_option maxHeartbeats 4000000 in
set_option maxRecDepth 100000 in
theorem k_amount (l : Launch) (D : va_G) (cI cJ cZ : ClassId) (x hB uX uL u : Nat) (hv rd rr : Int32) (b1 b2 b3 b4 b5 b6 : Nat) (h q1 q2 q3 q4 q5 q6 q7 q8 q9 q10 q11 q12 q13 g : Nat) (cl : Nat) (m1 m2 m3 m4 m5 m6 m7 m8 m9 : Int32) (st ca cb : Nat → Int32) (ga gb : Nat → Int64) (bz : Int32) (ak bk : Nat → Int32) (hcl : cl ≤ 40) (key : Int32) : Met l yX4_amount wsX4_amount ({ frames := 2, cells := 0, slots := 0, locals := 44 }) (PcRO [.ref x, .int key] D cI cJ cZ [(x, .inr (4, [.ref hB, .ref uX, .ref uL, .ref u, .int hv, .int rd, .int rr])), (uL, .inr (2, [.ref hB, .ref h, .ref g, .int (nI cl), .int m1, .int m2, .int m3, .int m4, .int m5, .int m6, .int m7, .int m8, .int m9])), (h, .inr (3, [.ref hB, .ref q1, .ref q2, .ref q3, .ref q4, .ref q5, .ref q6, .ref q7, .ref q8, .ref q9, .ref q10, .ref q11, .ref q12, .ref q13])), (q1, .inl (cI, 40, .inl st)), (q5, .inl (cZ, 40, .inl ca)), (q6, .inl (cZ, 40, .inl cb)), (q7, .inl (cJ, 40, .inr (.inl ga))), (q8, .inl (cJ, 40, .inr (.inl gb))), (hB, .inr (0, [.int bz, .ref b1, .ref b2, .ref b3, .ref b4, .ref b5, .ref b6])), (b2, .inl (cI, 40, .inl ak)), (b3, .inl (cI, 40, .inl bk))]) (vp_Sl (fun r => r = if hv = 0 then 0 else if wi key 0 7 = 0 then 0 else stnd st ca ak cb bk ga gb key cl)) 0 0 noF := by
  refine Met.ofW (cc := cX4_amount) (maxL := 2) (ret := some .long) (by decide) rfl ?_
  intro p e s m args below meth c s₁ B hml hv
  obtain ⟨rfl, hP, hE⟩ := hv
  have hx := B.exec
  have hb := B.bytes
  have hr := B.returns
  have hts := atoms_spec (ws := wsX4_amount) B.pre
  have hown : s.vm.findClass RX4 = some m.cls := findClass_of_methodNamed B.named
  have hlocks := B.notSynchronized
  have hK := hE.1
  have hl := lv_entry ([.ref x, .int key]) (n := 2) (Nat.le_of_ble_eq_true rfl)
  rw [lg_entry_eq]
  generalize (lg_sl ([.ref x, .int key]) ++ List.replicate (2 - (lg_sl ([.ref x, .int key])).length) Slot.unset).toArray = ls at hl ⊢
  have hl : lv_has ls 2 [(0, .ref x), (1, .int key)] := hl
  have hinX2 : ∀ w ∈ u_ws RX2 TX2 13, w ∈ wsX4_amount := fun _ h => List.mem_cons_of_mem _ (List.mem_append_left _ (List.mem_append_left _ (List.mem_append_right _ h)))
  have hinX4 : ∀ w ∈ u_ws RX4 TX4 7, w ∈ wsX4_amount := fun _ h => List.mem_cons_of_mem _ (List.mem_append_left _ (List.mem_append_left _ (List.mem_append_left _ (List.mem_append_right _ h))))
  refine lv_aload_n hx hb dX4_amount_0 rfl (lv_at hl 0 rfl) ?_
  refine va_get (D := D) (ci := 4) (v := .int hv) (C := RX4) (T := TX4) (N := 7) hx hb hts hinX4 hown hK hP 0 rfl rfl 4 (by decide) (hts (.fieldLink RX4 45 "LedgerShares" "hasRun" "Z") (List.mem_of_getElem? (i := 1) rfl)) (fun _ h9 => h9) rfl dX4_amount_1 ?_
  refine lv_if_eq (tgt := 17) hx hb dX4_amount_4 (by decide) (fun c4 => ?_) (fun c4 => ?_)
  · refine lv_lconst (v := 0) hx hb dX4_amount_17 (by decide) ?_
    exact W.lret hx hb hr (fun t ht hW => ⟨_, rfl, by rw [if_pos c4], ht⟩) (fun q h => by cases h) dX4_amount_18
  · refine lv_iload_n hx hb dX4_amount_7 rfl (lv_at hl 1 rfl) ?_
    refine lv_iconst (v := 0) hx hb dX4_amount_8 (by decide) ?_
    refine lv_bipush (v := 7) hx hb dX4_amount_9 (by decide) ?_
    refine vp_callSi (va_Run.run (va_runS (As := [.int key, .int 0, .int 7]) (rest := []) ⟨hx, hb, hml, hown, hts⟩ (k_within l D cI cJ cZ key 0 7) (cwS 3 hts gX4_amount_X4_within rfl rfl rfl (by decide +kernel) ⟨Nat.le_of_ble_eq_true rfl, Nat.le_of_ble_eq_true rfl⟩) ⟨bl_ro, fun U hU hW => ⟨rfl, by rw [hU]; exact (hP.sub (ws' := []) [] rfl), hE.warm2 hW⟩⟩ rfl rfl hl.1 rfl (lv_room (Nat.le_of_ble_eq_true rfl)) dX4_amount_11 ⟨Nat.zero_le _, Nat.zero_le _⟩)) (fun r11 hr11 => ?_)
    refine lv_if_ne (tgt := 19) hx hb dX4_amount_14 (by decide) (fun c14 => ?_) (fun c14 => ?_)
    · refine lv_aload_n hx hb dX4_amount_19 rfl (lv_at hl 0 rfl) ?_
      refine va_get (D := D) (ci := 4) (v := .ref uL) (C := RX4) (T := TX4) (N := 7) hx hb hts hinX4 hown hK hP 0 rfl rfl 2 (by decide) (hts (.fieldLink RX4 21 "LedgerShares" "latest" "LLedgerShares$Run;") (List.mem_of_getElem? (i := 2) rfl)) (fun _ h9 => h9) rfl dX4_amount_20 ?_
      refine va_get (D := D) (ci := 2) (v := .ref h) (C := RX2) (T := TX2) (N := 13) hx hb hts hinX2 hown hK hP 1 rfl rfl 1 (by decide) (hts (.fieldLink RX4 70 "LedgerShares$Run" "sheet" "LLedgerShares$Sheet;") (List.mem_of_getElem? (i := 3) rfl)) (fun _ h9 => h9) rfl dX4_amount_23 ?_
      refine lv_aload_n hx hb dX4_amount_26 rfl (lv_at hl 0 rfl) ?_
      refine va_get (D := D) (ci := 4) (v := .ref uL) (C := RX4) (T := TX4) (N := 7) hx hb hts hinX4 hown hK hP 0 rfl rfl 2 (by decide) (hts (.fieldLink RX4 21 "LedgerShares" "latest" "LLedgerShares$Run;") (List.mem_of_getElem? (i := 2) rfl)) (fun _ h9 => h9) rfl dX4_amount_27 ?_
      refine va_get (D := D) (ci := 2) (v := .int (nI cl)) (C := RX2) (T := TX2) (N := 13) hx hb hts hinX2 hown hK hP 1 rfl rfl 3 (by decide) (hts (.fieldLink RX4 74 "LedgerShares$Run" "calls" "I") (List.mem_of_getElem? (i := 4) rfl)) (fun _ h9 => h9) rfl dX4_amount_30 ?_
      refine lv_iload_n hx hb dX4_amount_33 rfl (lv_at hl 1 rfl) ?_
      refine vp_callSl (va_Run.run (va_runV (As := [.int (nI cl), .int key]) (rest := []) ⟨hx, hb, hml, hown, hts⟩ (k_standing l D cI cJ cZ h hB q1 q2 q3 q4 q5 q6 q7 q8 q9 q10 q11 q12 q13 st ca cb ga gb b1 b2 b3 b4 b5 b6 bz ak bk key cl hcl) (cwV 2 hts gX4_amount_X3_standing rfl rfl rfl (by decide +kernel) ⟨Nat.le_of_ble_eq_true rfl, Nat.le_of_ble_eq_true rfl⟩) ⟨bl_ro, va_recv hK (hP.sub (ws' := [(h, .inr (3, [.ref hB, .ref q1, .ref q2, .ref q3, .ref q4, .ref q5, .ref q6, .ref q7, .ref q8, .ref q9, .ref q10, .ref q11, .ref q12, .ref q13])), (q1, .inl (cI, 40, .inl st)), (q5, .inl (cZ, 40, .inl ca)), (q6, .inl (cZ, 40, .inl cb)), (q7, .inl (cJ, 40, .inr (.inl ga))), (q8, .inl (cJ, 40, .inr (.inl gb))), (hB, .inr (0, [.int bz, .ref b1, .ref b2, .ref b3, .ref b4, .ref b5, .ref b6])), (b2, .inl (cI, 40, .inl ak)), (b3, .inl (cI, 40, .inl bk))]) [2, 3, 4, 5, 6, 7, 8, 9, 10] rfl) (ci := 3) (q0 := 0) rfl rfl, fun U hU hW => ⟨rfl, by rw [hU]; exact (hP.sub (ws' := [(h, .inr (3, [.ref hB, .ref q1, .ref q2, .ref q3, .ref q4, .ref q5, .ref q6, .ref q7, .ref q8, .ref q9, .ref q10, .ref q11, .ref q12, .ref q13])), (q1, .inl (cI, 40, .inl st)), (q5, .inl (cZ, 40, .inl ca)), (q6, .inl (cZ, 40, .inl cb)), (q7, .inl (cJ, 40, .inr (.inl ga))), (q8, .inl (cJ, 40, .inr (.inl gb))), (hB, .inr (0, [.int bz, .ref b1, .ref b2, .ref b3, .ref b4, .ref b5, .ref b6])), (b2, .inl (cI, 40, .inl ak)), (b3, .inl (cI, 40, .inl bk))]) [2, 3, 4, 5, 6, 7, 8, 9, 10] rfl), hE.warm2 hW⟩⟩ rfl rfl hl.1 rfl (lv_room (Nat.le_of_ble_eq_true rfl)) dX4_amount_34 ⟨Nat.zero_le _, Nat.zero_le _⟩)) (fun r34 hr34 => ?_)
      exact W.lret hx hb hr (fun t ht hW => ⟨_, rfl, by rw [if_neg c4, if_neg (fun z => c14 (hr11.trans z))]; exact hr34, ht⟩) (fun q h => by cases h) dX4_amount_37
    · refine lv_lconst (v := 0) hx hb dX4_amount_17 (by decide) ?_
      exact W.lret hx hb hr (fun t ht hW => ⟨_, rfl, by rw [if_neg c4, if_pos (hr11.symm.trans c14)], ht⟩) (fun q h => by cases h) dX4_amount_18
set_option maxHeartbeats 4000000 in
set_option maxRecDepth 100000 in
theorem k_behind (l : Launch) (D : va_G) (cI cJ cZ : ClassId) (x hB uX uL u : Nat) (hv rd rr : Int32) (b1 b2 b3 b4 b5 b6 : Nat) (h q1 q2 q3 q4 q5 q6 q7 q8 q9 q10 q11 q12 q13 g : Nat) (cl : Nat) (m1 m2 m3 m4 m5 m6 m7 m8 m9 : Int32) (st ca cb : Nat → Int32) (ga gb : Nat → Int64) (bz : Int32) (ak bk : Nat → Int32) (hcl : cl ≤ 40) (n key : Int32) : Met l yX4_behind wsX4_behind ({ frames := 2, cells := 0, slots := 0, locals := 44 }) (PcRO [.ref x, .int n, .int key] D cI cJ cZ [(x, .inr (4, [.ref hB, .ref uX, .ref uL, .ref u, .int hv, .int rd, .int rr])), (uL, .inr (2, [.ref hB, .ref h, .ref g, .int (nI cl), .int m1, .int m2, .int m3, .int m4, .int m5, .int m6, .int m7, .int m8, .int m9])), (h, .inr (3, [.ref hB, .ref q1, .ref q2, .ref q3, .ref q4, .ref q5, .ref q6, .ref q7, .ref q8, .ref q9, .ref q10, .ref q11, .ref q12, .ref q13])), (q1, .inl (cI, 40, .inl st)), (q5, .inl (cZ, 40, .inl ca)), (q6, .inl (cZ, 40, .inl cb)), (q7, .inl (cJ, 40, .inr (.inl ga))), (q8, .inl (cJ, 40, .inr (.inl gb))), (hB, .inr (0, [.int bz, .ref b1, .ref b2, .ref b3, .ref b4, .ref b5, .ref b6])), (b2, .inl (cI, 40, .inl ak)), (b3, .inl (cI, 40, .inl bk))]) (vp_Sl (fun r => r = if wi n 0 (if hv = 0 then 40 else nI cl) = 0 then -2 else if wi key 0 7 = 0 then -2 else if hv = 0 then -3 else stnd st ca ak cb bk ga gb key n.toNatClampNeg)) 0 0 noF := by
  refine Met.ofW (cc := cX4_behind) (maxL := 4) (ret := some .long) (by decide) rfl ?_
  intro p e s m args below meth c s₁ B hml hv
  obtain ⟨rfl, hP, hE⟩ := hv
  have hx := B.exec
  have hb := B.bytes
  have hr := B.returns
  have hts := atoms_spec (ws := wsX4_behind) B.pre
  have hown : s.vm.findClass RX4 = some m.cls := findClass_of_methodNamed B.named
  have hlocks := B.notSynchronized
  have hK := hE.1
  have hl := lv_entry ([.ref x, .int n, .int key]) (n := 4) (Nat.le_of_ble_eq_true rfl)
  rw [lg_entry_eq]
  generalize (lg_sl ([.ref x, .int n, .int key]) ++ List.replicate (4 - (lg_sl ([.ref x, .int n, .int key])).length) Slot.unset).toArray = ls at hl ⊢
  have hl : lv_has ls 4 [(0, .ref x), (1, .int n), (2, .int key)] := hl
  have hinX2 : ∀ w ∈ u_ws RX2 TX2 13, w ∈ wsX4_behind := fun _ h => List.mem_cons_of_mem _ (List.mem_append_left _ (List.mem_append_left _ (List.mem_append_right _ h)))
  have hinX4 : ∀ w ∈ u_ws RX4 TX4 7, w ∈ wsX4_behind := fun _ h => List.mem_cons_of_mem _ (List.mem_append_left _ (List.mem_append_left _ (List.mem_append_left _ (List.mem_append_right _ h))))
  refine lv_aload_n hx hb dX4_behind_0 rfl (lv_at hl 0 rfl) ?_
  refine va_get (D := D) (ci := 4) (v := .int hv) (C := RX4) (T := TX4) (N := 7) hx hb hts hinX4 hown hK hP 0 rfl rfl 4 (by decide) (hts (.fieldLink RX4 45 "LedgerShares" "hasRun" "Z") (List.mem_of_getElem? (i := 1) rfl)) (fun _ h9 => h9) rfl dX4_behind_1 ?_
  refine lv_if_eq (tgt := 17) hx hb dX4_behind_4 (by decide) (fun c4 => ?_) (fun c4 => ?_)
  · refine lv_bipush (v := 40) hx hb dX4_behind_17 (by decide) ?_
    refine lv_istore_n (lv' := [(3, .int 40), (0, .ref x), (1, .int n), (2, .int key)]) hx hb dX4_behind_19 rfl hl (by decide) rfl (fun ls hl => ?_)
    refine lv_iload_n hx hb dX4_behind_20 rfl (lv_at hl 2 rfl) ?_
    refine lv_iconst (v := 0) hx hb dX4_behind_21 (by decide) ?_
    refine lv_iload_n hx hb dX4_behind_22 rfl (lv_at hl 0 rfl) ?_
    refine vp_callSi (va_Run.run (va_runS (As := [.int n, .int 0, .int 40]) (rest := []) ⟨hx, hb, hml, hown, hts⟩ (k_within l D cI cJ cZ n 0 40) (cwS 3 hts gX4_behind_X4_within rfl rfl rfl (by decide +kernel) ⟨Nat.le_of_ble_eq_true rfl, Nat.le_of_ble_eq_true rfl⟩) ⟨bl_ro, fun U hU hW => ⟨rfl, by rw [hU]; exact (hP.sub (ws' := []) [] rfl), hE.warm2 hW⟩⟩ rfl rfl hl.1 rfl (lv_room (Nat.le_of_ble_eq_true rfl)) dX4_behind_23 ⟨Nat.zero_le _, Nat.zero_le _⟩)) (fun r23 hr23 => ?_)
    refine lv_if_eq (tgt := 39) hx hb dX4_behind_26 (by decide) (fun c26 => ?_) (fun c26 => ?_)
    · refine lv_ldc2 hx hb hown (hts (.constantLong RX4 83 (-2)) (List.mem_of_getElem? (i := 4) rfl)) dX4_behind_39 ?_
      exact W.lret hx hb hr (fun t ht hW => ⟨_, rfl, by rw [if_pos c4, if_pos (hr23.symm.trans c26)], ht⟩) (fun q h => by cases h) dX4_behind_42
    · refine lv_iload_n hx hb dX4_behind_29 rfl (lv_at hl 3 rfl) ?_
      refine lv_iconst (v := 0) hx hb dX4_behind_30 (by decide) ?_
      refine lv_bipush (v := 7) hx hb dX4_behind_31 (by decide) ?_
      refine vp_callSi (va_Run.run (va_runS (As := [.int key, .int 0, .int 7]) (rest := []) ⟨hx, hb, hml, hown, hts⟩ (k_within l D cI cJ cZ key 0 7) (cwS 3 hts gX4_behind_X4_within rfl rfl rfl (by decide +kernel) ⟨Nat.le_of_ble_eq_true rfl, Nat.le_of_ble_eq_true rfl⟩) ⟨bl_ro, fun U hU hW => ⟨rfl, by rw [hU]; exact (hP.sub (ws' := []) [] rfl), hE.warm2 hW⟩⟩ rfl rfl hl.1 rfl (lv_room (Nat.le_of_ble_eq_true rfl)) dX4_behind_33 ⟨Nat.zero_le _, Nat.zero_le _⟩)) (fun r33 hr33 => ?_)
      refine lv_if_ne (tgt := 43) hx hb dX4_behind_36 (by decide) (fun c36 => ?_) (fun c36 => ?_)
      · refine lv_aload_n hx hb dX4_behind_43 rfl (lv_at hl 1 rfl) ?_
        refine va_get (D := D) (ci := 4) (v := .int hv) (C := RX4) (T := TX4) (N := 7) hx hb hts hinX4 hown hK hP 0 rfl rfl 4 (by decide) (hts (.fieldLink RX4 45 "LedgerShares" "hasRun" "Z") (List.mem_of_getElem? (i := 1) rfl)) (fun _ h9 => h9) rfl dX4_behind_44 ?_
        refine lv_if_ne (tgt := 54) hx hb dX4_behind_47 (by decide) (fun c47 => ?_) (fun c47 => ?_)
        · exact absurd c4 c47
        · refine lv_ldc2 hx hb hown (hts (.constantLong RX4 85 (-3)) (List.mem_of_getElem? (i := 5) rfl)) dX4_behind_50 ?_
          exact W.lret hx hb hr (fun t ht hW => ⟨_, rfl, by rw [if_pos c4, if_neg (fun z => c26 (hr23.trans z)), if_neg (fun z => c36 (hr33.trans z)), if_pos c4], ht⟩) (fun q h => by cases h) dX4_behind_53
      · refine lv_ldc2 hx hb hown (hts (.constantLong RX4 83 (-2)) (List.mem_of_getElem? (i := 4) rfl)) dX4_behind_39 ?_
        exact W.lret hx hb hr (fun t ht hW => ⟨_, rfl, by rw [if_pos c4, if_neg (fun z => c26 (hr23.trans z)), if_pos (hr33.symm.trans c36)], ht⟩) (fun q h => by cases h) dX4_behind_42
  · refine lv_aload_n hx hb dX4_behind_7 rfl (lv_at hl 0 rfl) ?_
    refine va_get (D := D) (ci := 4) (v := .ref uL) (C := RX4) (T := TX4) (N := 7) hx hb hts hinX4 hown hK hP 0 rfl rfl 2 (by decide) (hts (.fieldLink RX4 21 "LedgerShares" "latest" "LLedgerShares$Run;") (List.mem_of_getElem? (i := 2) rfl)) (fun _ h9 => h9) rfl dX4_behind_8 ?_
    refine va_get (D := D) (ci := 2) (v := .int (nI cl)) (C := RX2) (T := TX2) (N := 13) hx hb hts hinX2 hown hK hP 1 rfl rfl 3 (by decide) (hts (.fieldLink RX4 74 "LedgerShares$Run" "calls" "I") (List.mem_of_getElem? (i := 3) rfl)) (fun _ h9 => h9) rfl dX4_behind_11 ?_
    refine lv_goto (tgt := 19) hx hb dX4_behind_14 (by decide) ?_
    refine lv_istore_n (lv' := [(3, .int (nI cl)), (0, .ref x), (1, .int n), (2, .int key)]) hx hb dX4_behind_19 rfl hl (by decide) rfl (fun ls hl => ?_)
    refine lv_iload_n hx hb dX4_behind_20 rfl (lv_at hl 2 rfl) ?_
    refine lv_iconst (v := 0) hx hb dX4_behind_21 (by decide) ?_
    refine lv_iload_n hx hb dX4_behind_22 rfl (lv_at hl 0 rfl) ?_
    refine vp_callSi (va_Run.run (va_runS (As := [.int n, .int 0, .int (nI cl)]) (rest := []) ⟨hx, hb, hml, hown, hts⟩ (k_within l D cI cJ cZ n 0 (nI cl)) (cwS 3 hts gX4_behind_X4_within rfl rfl rfl (by decide +kernel) ⟨Nat.le_of_ble_eq_true rfl, Nat.le_of_ble_eq_true rfl⟩) ⟨bl_ro, fun U hU hW => ⟨rfl, by rw [hU]; exact (hP.sub (ws' := []) [] rfl), hE.warm2 hW⟩⟩ rfl rfl hl.1 rfl (lv_room (Nat.le_of_ble_eq_true rfl)) dX4_behind_23 ⟨Nat.zero_le _, Nat.zero_le _⟩)) (fun r23 hr23 => ?_)
    refine lv_if_eq (tgt := 39) hx hb dX4_behind_26 (by decide) (fun c26 => ?_) (fun c26 => ?_)
    · refine lv_ldc2 hx hb hown (hts (.constantLong RX4 83 (-2)) (List.mem_of_getElem? (i := 4) rfl)) dX4_behind_39 ?_
      exact W.lret hx hb hr (fun t ht hW => ⟨_, rfl, by rw [if_neg c4, if_pos (hr23.symm.trans c26)], ht⟩) (fun q h => by cases h) dX4_behind_42
    · refine lv_iload_n hx hb dX4_behind_29 rfl (lv_at hl 3 rfl) ?_
      refine lv_iconst (v := 0) hx hb dX4_behind_30 (by decide) ?_
      refine lv_bipush (v := 7) hx hb dX4_behind_31 (by decide) ?_
      refine vp_callSi (va_Run.run (va_runS (As := [.int key, .int 0, .int 7]) (rest := []) ⟨hx, hb, hml, hown, hts⟩ (k_within l D cI cJ cZ key 0 7) (cwS 3 hts gX4_behind_X4_within rfl rfl rfl (by decide +kernel) ⟨Nat.le_of_ble_eq_true rfl, Nat.le_of_ble_eq_true rfl⟩) ⟨bl_ro, fun U hU hW => ⟨rfl, by rw [hU]; exact (hP.sub (ws' := []) [] rfl), hE.warm2 hW⟩⟩ rfl rfl hl.1 rfl (lv_room (Nat.le_of_ble_eq_true rfl)) dX4_behind_33 ⟨Nat.zero_le _, Nat.zero_le _⟩)) (fun r33 hr33 => ?_)
      refine lv_if_ne (tgt := 43) hx hb dX4_behind_36 (by decide) (fun c36 => ?_) (fun c36 => ?_)
      · refine lv_aload_n hx hb dX4_behind_43 rfl (lv_at hl 1 rfl) ?_
        refine va_get (D := D) (ci := 4) (v := .int hv) (C := RX4) (T := TX4) (N := 7) hx hb hts hinX4 hown hK hP 0 rfl rfl 4 (by decide) (hts (.fieldLink RX4 45 "LedgerShares" "hasRun" "Z") (List.mem_of_getElem? (i := 1) rfl)) (fun _ h9 => h9) rfl dX4_behind_44 ?_
        refine lv_if_ne (tgt := 54) hx hb dX4_behind_47 (by decide) (fun c47 => ?_) (fun c47 => ?_)
        · obtain ⟨j, hj, rfl⟩ := wi_natn (n := cl) (by omega) (fun z => c26 (hr23.trans z))
          refine lv_aload_n hx hb dX4_behind_54 rfl (lv_at hl 1 rfl) ?_
          refine va_get (D := D) (ci := 4) (v := .ref uL) (C := RX4) (T := TX4) (N := 7) hx hb hts hinX4 hown hK hP 0 rfl rfl 2 (by decide) (hts (.fieldLink RX4 21 "LedgerShares" "latest" "LLedgerShares$Run;") (List.mem_of_getElem? (i := 2) rfl)) (fun _ h9 => h9) rfl dX4_behind_55 ?_
          refine va_get (D := D) (ci := 2) (v := .ref h) (C := RX2) (T := TX2) (N := 13) hx hb hts hinX2 hown hK hP 1 rfl rfl 1 (by decide) (hts (.fieldLink RX4 70 "LedgerShares$Run" "sheet" "LLedgerShares$Sheet;") (List.mem_of_getElem? (i := 6) rfl)) (fun _ h9 => h9) rfl dX4_behind_58 ?_
          refine lv_iload_n hx hb dX4_behind_61 rfl (lv_at hl 2 rfl) ?_
          refine lv_iload_n hx hb dX4_behind_62 rfl (lv_at hl 3 rfl) ?_
          refine vp_callSl (va_Run.run (va_runV (As := [.int (nI j), .int key]) (rest := []) ⟨hx, hb, hml, hown, hts⟩ (k_standing l D cI cJ cZ h hB q1 q2 q3 q4 q5 q6 q7 q8 q9 q10 q11 q12 q13 st ca cb ga gb b1 b2 b3 b4 b5 b6 bz ak bk key j (by omega)) (cwV 2 hts gX4_behind_X3_standing rfl rfl rfl (by decide +kernel) ⟨Nat.le_of_ble_eq_true rfl, Nat.le_of_ble_eq_true rfl⟩) ⟨bl_ro, va_recv hK (hP.sub (ws' := [(h, .inr (3, [.ref hB, .ref q1, .ref q2, .ref q3, .ref q4, .ref q5, .ref q6, .ref q7, .ref q8, .ref q9, .ref q10, .ref q11, .ref q12, .ref q13])), (q1, .inl (cI, 40, .inl st)), (q5, .inl (cZ, 40, .inl ca)), (q6, .inl (cZ, 40, .inl cb)), (q7, .inl (cJ, 40, .inr (.inl ga))), (q8, .inl (cJ, 40, .inr (.inl gb))), (hB, .inr (0, [.int bz, .ref b1, .ref b2, .ref b3, .ref b4, .ref b5, .ref b6])), (b2, .inl (cI, 40, .inl ak)), (b3, .inl (cI, 40, .inl bk))]) [2, 3, 4, 5, 6, 7, 8, 9, 10] rfl) (ci := 3) (q0 := 0) rfl rfl, fun U hU hW => ⟨rfl, by rw [hU]; exact (hP.sub (ws' := [(h, .inr (3, [.ref hB, .ref q1, .ref q2, .ref q3, .ref q4, .ref q5, .ref q6, .ref q7, .ref q8, .ref q9, .ref q10, .ref q11, .ref q12, .ref q13])), (q1, .inl (cI, 40, .inl st)), (q5, .inl (cZ, 40, .inl ca)), (q6, .inl (cZ, 40, .inl cb)), (q7, .inl (cJ, 40, .inr (.inl ga))), (q8, .inl (cJ, 40, .inr (.inl gb))), (hB, .inr (0, [.int bz, .ref b1, .ref b2, .ref b3, .ref b4, .ref b5, .ref b6])), (b2, .inl (cI, 40, .inl ak)), (b3, .inl (cI, 40, .inl bk))]) [2, 3, 4, 5, 6, 7, 8, 9, 10] rfl), hE.warm2 hW⟩⟩ rfl rfl hl.1 rfl (lv_room (Nat.le_of_ble_eq_true rfl)) dX4_behind_63 ⟨Nat.zero_le _, Nat.zero_le _⟩)) (fun r63 hr63 => ?_)
          exact W.lret hx hb hr (fun t ht hW => ⟨_, rfl, by rw [if_neg c4, if_neg (fun z => c26 (hr23.trans z)), if_neg (fun z => c36 (hr33.trans z)), if_neg c47, nI_clamp (by omega)]; exact hr63, ht⟩) (fun q h => by cases h) dX4_behind_66
        · exact absurd c47 c4
      · refine lv_ldc2 hx hb hown (hts (.constantLong RX4 83 (-2)) (List.mem_of_getElem? (i := 4) rfl)) dX4_behind_39 ?_
        exact W.lret hx hb hr (fun t ht hW => ⟨_, rfl, by rw [if_neg c4, if_neg (fun z => c26 (hr23.trans z)), if_pos (hr33.symm.trans c36)], ht⟩) (fun q h => by cases h) dX4_behind_42
set_option maxHeartbeats 4000000 in
set_option maxRecDepth 100000 in
theorem k_outcome (l : Launch) (D : va_G) (cI cJ cZ : ClassId) (x hB uX uL u : Nat) (hv rd rr : Int32) (b1 b2 b3 b4 b5 b6 : Nat) (h q1 q2 q3 q4 q5 q6 q7 q8 q9 q10 q11 q12 q13 g : Nat) (cl : Nat) (m1 m2 m3 m4 m5 m6 m7 m8 m9 : Int32) (oc : Nat → Int32) (n : Nat) (k : Int32) (hcl : cl ≤ 40) : Met l yX4_outcome wsX4_outcome ({ frames := 2, cells := 0, slots := 0, locals := 43 }) (PcRO [.ref x, .int k] D cI cJ cZ [(x, .inr (4, [.ref hB, .ref uX, .ref uL, .ref u, .int hv, .int rd, .int rr])), (uL, .inr (2, [.ref hB, .ref h, .ref g, .int (nI cl), .int m1, .int m2, .int m3, .int m4, .int m5, .int m6, .int m7, .int m8, .int m9])), (h, .inr (3, [.ref hB, .ref q1, .ref q2, .ref q3, .ref q4, .ref q5, .ref q6, .ref q7, .ref q8, .ref q9, .ref q10, .ref q11, .ref q12, .ref q13])), (q9, .inl (cI, 40, .inl oc)), (hB, .inr (0, [.int (nI n), .ref b1, .ref b2, .ref b3, .ref b4, .ref b5, .ref b6]))]) (vp_Si (fun r => r = if wi k 0 (nI n - 1) = 0 then -2 else if hv = 0 then 0 else if wi k 0 (nI cl - 1) = 0 then 0 else oc k.toNatClampNeg)) 0 0 noF := by
  refine Met.ofW (cc := cX4_outcome) (maxL := 2) (ret := some .int) (by decide) rfl ?_
  intro p e s m args below meth c s₁ B hml hv
  obtain ⟨rfl, hP, hE⟩ := hv
  have hx := B.exec
  have hb := B.bytes
  have hr := B.returns
  have hts := atoms_spec (ws := wsX4_outcome) B.pre
  have hown : s.vm.findClass RX4 = some m.cls := findClass_of_methodNamed B.named
  have hlocks := B.notSynchronized
  have hK := hE.1
  have hl := lv_entry ([.ref x, .int k]) (n := 2) (Nat.le_of_ble_eq_true rfl)
  rw [lg_entry_eq]
  generalize (lg_sl ([.ref x, .int k]) ++ List.replicate (2 - (lg_sl ([.ref x, .int k])).length) Slot.unset).toArray = ls at hl ⊢
  have hl : lv_has ls 2 [(0, .ref x), (1, .int k)] := hl
  have hinX2 : ∀ w ∈ u_ws RX2 TX2 13, w ∈ wsX4_outcome := fun _ h => List.mem_cons_of_mem _ (List.mem_append_left _ (List.mem_append_left _ (List.mem_append_right _ h)))
  have hinX3 : ∀ w ∈ u_ws RX3 TX3 14, w ∈ wsX4_outcome := fun _ h => List.mem_cons_of_mem _ (List.mem_append_left _ (List.mem_append_right _ h))
  have hinX4 : ∀ w ∈ u_ws RX4 TX4 7, w ∈ wsX4_outcome := fun _ h => List.mem_cons_of_mem _ (List.mem_append_left _ (List.mem_append_left _ (List.mem_append_left _ (List.mem_append_right _ h))))
  refine lv_aload_n hx hb dX4_outcome_0 rfl (lv_at hl 0 rfl) ?_
  refine lv_iload_n hx hb dX4_outcome_1 rfl (lv_at hl 1 rfl) ?_
  refine vp_callSi (va_Run.run (va_runV (As := [.int k]) (rest := []) ⟨hx, hb, hml, hown, hts⟩ (k_isCall l D cI cJ cZ x hB uX uL u hv rd rr b1 b2 b3 b4 b5 b6 (nI n) k) (cwV 1 hts gX4_outcome_X4_isCall rfl rfl rfl (by decide +kernel) ⟨Nat.le_of_ble_eq_true rfl, Nat.le_of_ble_eq_true rfl⟩) ⟨bl_ro, va_recv hK (hP.sub (ws' := [(x, .inr (4, [.ref hB, .ref uX, .ref uL, .ref u, .int hv, .int rd, .int rr])), (hB, .inr (0, [.int (nI n), .ref b1, .ref b2, .ref b3, .ref b4, .ref b5, .ref b6]))]) [0, 4] rfl) (ci := 4) (q0 := 0) rfl rfl, fun U hU hW => ⟨rfl, by rw [hU]; exact (hP.sub (ws' := [(x, .inr (4, [.ref hB, .ref uX, .ref uL, .ref u, .int hv, .int rd, .int rr])), (hB, .inr (0, [.int (nI n), .ref b1, .ref b2, .ref b3, .ref b4, .ref b5, .ref b6]))]) [0, 4] rfl), hE.warm2 hW⟩⟩ rfl rfl hl.1 rfl (lv_room (Nat.le_of_ble_eq_true rfl)) dX4_outcome_2 ⟨Nat.zero_le _, Nat.zero_le _⟩)) (fun r2 hr2 => ?_)
  refine lv_if_ne (tgt := 11) hx hb dX4_outcome_5 (by decide) (fun c5 => ?_) (fun c5 => ?_)
  · refine lv_aload_n hx hb dX4_outcome_11 rfl (lv_at hl 0 rfl) ?_
    refine lv_iload_n hx hb dX4_outcome_12 rfl (lv_at hl 1 rfl) ?_
    refine vp_callSi (va_Run.run (va_runV (As := [.int k]) (rest := []) ⟨hx, hb, hml, hown, hts⟩ (k_wasIn l D cI cJ cZ x hB uX uL u hv rd rr b1 b2 b3 b4 b5 b6 h q1 q2 q3 q4 q5 q6 q7 q8 q9 q10 q11 q12 q13 g cl m1 m2 m3 m4 m5 m6 m7 m8 m9 k) (cwV 1 hts gX4_outcome_X4_wasInLatest rfl rfl rfl (by decide +kernel) ⟨Nat.le_of_ble_eq_true rfl, Nat.le_of_ble_eq_true rfl⟩) ⟨bl_ro, va_recv hK (hP.sub (ws' := [(x, .inr (4, [.ref hB, .ref uX, .ref uL, .ref u, .int hv, .int rd, .int rr])), (uL, .inr (2, [.ref hB, .ref h, .ref g, .int (nI cl), .int m1, .int m2, .int m3, .int m4, .int m5, .int m6, .int m7, .int m8, .int m9]))]) [0, 1] rfl) (ci := 4) (q0 := 0) rfl rfl, fun U hU hW => ⟨rfl, by rw [hU]; exact (hP.sub (ws' := [(x, .inr (4, [.ref hB, .ref uX, .ref uL, .ref u, .int hv, .int rd, .int rr])), (uL, .inr (2, [.ref hB, .ref h, .ref g, .int (nI cl), .int m1, .int m2, .int m3, .int m4, .int m5, .int m6, .int m7, .int m8, .int m9]))]) [0, 1] rfl), hE.warm2 hW⟩⟩ rfl rfl hl.1 rfl (lv_room (Nat.le_of_ble_eq_true rfl)) dX4_outcome_13 ⟨Nat.zero_le _, Nat.zero_le _⟩)) (fun r13 hr13 => ?_)
    refine lv_if_eq (tgt := 34) hx hb dX4_outcome_16 (by decide) (fun c16 => ?_) (fun c16 => ?_)
    · refine lv_iconst (v := 0) hx hb dX4_outcome_34 (by decide) ?_
      exact W.iret hx hb hr (fun t ht hW => ⟨_, rfl, by rw [if_neg (fun z => c5 (hr2.trans z))]; by_cases gv : hv = 0; rw [if_pos gv]; rw [if_neg gv, if_pos]; rw [hr13, if_neg gv] at c16; exact c16, ht⟩) (fun q h => by cases h) dX4_outcome_35
    · have gv : ¬ hv = 0 := fun z => c16 (by rw [hr13, if_pos z])
      have gw : ¬ wi k 0 (nI cl - 1) = 0 := fun z => c16 (by rw [hr13, if_neg gv, z])
      obtain ⟨j, hj, rfl⟩ := wi_natm (n := cl) (by omega) gw
      refine lv_aload_n hx hb dX4_outcome_19 rfl (lv_at hl 0 rfl) ?_
      refine va_get (D := D) (ci := 4) (v := .ref uL) (C := RX4) (T := TX4) (N := 7) hx hb hts hinX4 hown hK hP 0 rfl rfl 2 (by decide) (hts (.fieldLink RX4 21 "LedgerShares" "latest" "LLedgerShares$Run;") (List.mem_of_getElem? (i := 1) rfl)) (fun _ h9 => h9) rfl dX4_outcome_20 ?_
      refine va_get (D := D) (ci := 2) (v := .ref h) (C := RX2) (T := TX2) (N := 13) hx hb hts hinX2 hown hK hP 1 rfl rfl 1 (by decide) (hts (.fieldLink RX4 70 "LedgerShares$Run" "sheet" "LLedgerShares$Sheet;") (List.mem_of_getElem? (i := 2) rfl)) (fun _ h9 => h9) rfl dX4_outcome_23 ?_
      refine va_get (D := D) (ci := 3) (v := .ref q9) (C := RX3) (T := TX3) (N := 14) hx hb hts hinX3 hown hK hP 2 rfl rfl 9 (by decide) (hts (.fieldLink RX4 93 "LedgerShares$Sheet" "outcomes" "[I") (List.mem_of_getElem? (i := 3) rfl)) (fun _ h9 => h9) rfl dX4_outcome_26 ?_
      refine lv_iload_n hx hb dX4_outcome_29 rfl (lv_at hl 1 rfl) ?_
      refine x_iald hx hb hE hP 3 rfl (j) (by omega) (by decide) (rfl) dX4_outcome_30 ?_
      refine lv_goto (tgt := 35) hx hb dX4_outcome_31 (by decide) ?_
      exact W.iret hx hb hr (fun t ht hW => ⟨_, rfl, by rw [if_neg (fun z => c5 (hr2.trans z)), if_neg gv, if_neg gw, nI_clamp (by omega)], ht⟩) (fun q h => by cases h) dX4_outcome_35
  · refine lv_bipush (v := (-2)) hx hb dX4_outcome_8 (by decide) ?_
    exact W.iret hx hb hr (fun t ht hW => ⟨_, rfl, by rw [if_pos (hr2.symm.trans c5)], ht⟩) (fun q h => by cases h) dX4_outcome_10
set_option maxHeartbeats 4000000 in
set_option maxRecDepth 100000 in
theorem k_of (l : Launch) (D : va_G) (cI cJ cZ : ClassId) (x hB uX uL u : Nat) (hv rd rr : Int32) (b1 b2 b3 b4 b5 b6 : Nat) (h q1 q2 q3 q4 q5 q6 q7 q8 q9 q10 q11 q12 q13 g : Nat) (cl : Nat) (m1 m2 m3 m4 m5 m6 m7 m8 m9 : Int32) (tb fb ka eb : Nat → Int32) (n : Nat) (k w : Int32) (hcl : cl ≤ 40) : Met l yX4_of wsX4_of ({ frames := 2, cells := 0, slots := 0, locals := 43 }) (PcRO [.ref x, .int k, .int w] D cI cJ cZ [(x, .inr (4, [.ref hB, .ref uX, .ref uL, .ref u, .int hv, .int rd, .int rr])), (uL, .inr (2, [.ref hB, .ref h, .ref g, .int (nI cl), .int m1, .int m2, .int m3, .int m4, .int m5, .int m6, .int m7, .int m8, .int m9])), (h, .inr (3, [.ref hB, .ref q1, .ref q2, .ref q3, .ref q4, .ref q5, .ref q6, .ref q7, .ref q8, .ref q9, .ref q10, .ref q11, .ref q12, .ref q13])), (q10, .inl (cI, 40, .inl tb)), (q11, .inl (cI, 40, .inl fb)), (q12, .inl (cI, 40, .inl ka)), (q13, .inl (cI, 40, .inl eb)), (hB, .inr (0, [.int (nI n), .ref b1, .ref b2, .ref b3, .ref b4, .ref b5, .ref b6]))]) (vp_Si (fun r => r = if wi k 0 (nI n - 1) = 0 then -2 else if wi w 0 3 = 0 then -2 else if hv = 0 then -1 else if wi k 0 (nI cl - 1) = 0 then -1 else if w = 0 then tb k.toNatClampNeg else if w = 1 then fb k.toNatClampNeg else if w = 2 then ka k.toNatClampNeg else eb k.toNatClampNeg)) 0 0 noF := by
  refine Met.ofW (cc := cX4_of) (maxL := 3) (ret := some .int) (by decide) rfl ?_
  intro p e s m args below meth c s₁ B hml hv
  obtain ⟨rfl, hP, hE⟩ := hv
  have hx := B.exec
  have hb := B.bytes
  have hr := B.returns
  have hts := atoms_spec (ws := wsX4_of) B.pre
  have hown : s.vm.findClass RX4 = some m.cls := findClass_of_methodNamed B.named
  have hlocks := B.notSynchronized
  have hK := hE.1
  have hl := lv_entry ([.ref x, .int k, .int w]) (n := 3) (Nat.le_of_ble_eq_true rfl)
  rw [lg_entry_eq]
  generalize (lg_sl ([.ref x, .int k, .int w]) ++ List.replicate (3 - (lg_sl ([.ref x, .int k, .int w])).length) Slot.unset).toArray = ls at hl ⊢
  have hl : lv_has ls 3 [(0, .ref x), (1, .int k), (2, .int w)] := hl
  have hinX2 : ∀ w ∈ u_ws RX2 TX2 13, w ∈ wsX4_of := fun _ h => List.mem_cons_of_mem _ (List.mem_append_left _ (List.mem_append_left _ (List.mem_append_right _ h)))
  have hinX4 : ∀ w ∈ u_ws RX4 TX4 7, w ∈ wsX4_of := fun _ h => List.mem_cons_of_mem _ (List.mem_append_left _ (List.mem_append_left _ (List.mem_append_left _ (List.mem_append_right _ h))))
  refine lv_aload_n hx hb dX4_of_0 rfl (lv_at hl 0 rfl) ?_
  refine lv_iload_n hx hb dX4_of_1 rfl (lv_at hl 1 rfl) ?_
  refine vp_callSi (va_Run.run (va_runV (As := [.int k]) (rest := []) ⟨hx, hb, hml, hown, hts⟩ (k_isCall l D cI cJ cZ x hB uX uL u hv rd rr b1 b2 b3 b4 b5 b6 (nI n) k) (cwV 1 hts gX4_of_X4_isCall rfl rfl rfl (by decide +kernel) ⟨Nat.le_of_ble_eq_true rfl, Nat.le_of_ble_eq_true rfl⟩) ⟨bl_ro, va_recv hK (hP.sub (ws' := [(x, .inr (4, [.ref hB, .ref uX, .ref uL, .ref u, .int hv, .int rd, .int rr])), (hB, .inr (0, [.int (nI n), .ref b1, .ref b2, .ref b3, .ref b4, .ref b5, .ref b6]))]) [0, 7] rfl) (ci := 4) (q0 := 0) rfl rfl, fun U hU hW => ⟨rfl, by rw [hU]; exact (hP.sub (ws' := [(x, .inr (4, [.ref hB, .ref uX, .ref uL, .ref u, .int hv, .int rd, .int rr])), (hB, .inr (0, [.int (nI n), .ref b1, .ref b2, .ref b3, .ref b4, .ref b5, .ref b6]))]) [0, 7] rfl), hE.warm2 hW⟩⟩ rfl rfl hl.1 rfl (lv_room (Nat.le_of_ble_eq_true rfl)) dX4_of_2 ⟨Nat.zero_le _, Nat.zero_le _⟩)) (fun r2 hr2 => ?_)
  refine lv_if_eq (tgt := 17) hx hb dX4_of_5 (by decide) (fun c5 => ?_) (fun c5 => ?_)
  · refine lv_bipush (v := (-2)) hx hb dX4_of_17 (by decide) ?_
    exact W.iret hx hb hr (fun t ht hW => ⟨_, rfl, by rw [if_pos (hr2.symm.trans c5)], ht⟩) (fun q h => by cases h) dX4_of_19
  · refine lv_iload_n hx hb dX4_of_8 rfl (lv_at hl 2 rfl) ?_
    refine lv_iconst (v := 0) hx hb dX4_of_9 (by decide) ?_
    refine lv_iconst (v := 3) hx hb dX4_of_10 (by decide) ?_
    refine vp_callSi (va_Run.run (va_runS (As := [.int w, .int 0, .int 3]) (rest := []) ⟨hx, hb, hml, hown, hts⟩ (k_within l D cI cJ cZ w 0 3) (cwS 3 hts gX4_of_X4_within rfl rfl rfl (by decide +kernel) ⟨Nat.le_of_ble_eq_true rfl, Nat.le_of_ble_eq_true rfl⟩) ⟨bl_ro, fun U hU hW => ⟨rfl, by rw [hU]; exact (hP.sub (ws' := []) [] rfl), hE.warm2 hW⟩⟩ rfl rfl hl.1 rfl (lv_room (Nat.le_of_ble_eq_true rfl)) dX4_of_11 ⟨Nat.zero_le _, Nat.zero_le _⟩)) (fun r11 hr11 => ?_)
    refine lv_if_ne (tgt := 20) hx hb dX4_of_14 (by decide) (fun c14 => ?_) (fun c14 => ?_)
    · refine lv_aload_n hx hb dX4_of_20 rfl (lv_at hl 0 rfl) ?_
      refine lv_iload_n hx hb dX4_of_21 rfl (lv_at hl 1 rfl) ?_
      refine vp_callSi (va_Run.run (va_runV (As := [.int k]) (rest := []) ⟨hx, hb, hml, hown, hts⟩ (k_wasIn l D cI cJ cZ x hB uX uL u hv rd rr b1 b2 b3 b4 b5 b6 h q1 q2 q3 q4 q5 q6 q7 q8 q9 q10 q11 q12 q13 g cl m1 m2 m3 m4 m5 m6 m7 m8 m9 k) (cwV 1 hts gX4_of_X4_wasInLatest rfl rfl rfl (by decide +kernel) ⟨Nat.le_of_ble_eq_true rfl, Nat.le_of_ble_eq_true rfl⟩) ⟨bl_ro, va_recv hK (hP.sub (ws' := [(x, .inr (4, [.ref hB, .ref uX, .ref uL, .ref u, .int hv, .int rd, .int rr])), (uL, .inr (2, [.ref hB, .ref h, .ref g, .int (nI cl), .int m1, .int m2, .int m3, .int m4, .int m5, .int m6, .int m7, .int m8, .int m9]))]) [0, 1] rfl) (ci := 4) (q0 := 0) rfl rfl, fun U hU hW => ⟨rfl, by rw [hU]; exact (hP.sub (ws' := [(x, .inr (4, [.ref hB, .ref uX, .ref uL, .ref u, .int hv, .int rd, .int rr])), (uL, .inr (2, [.ref hB, .ref h, .ref g, .int (nI cl), .int m1, .int m2, .int m3, .int m4, .int m5, .int m6, .int m7, .int m8, .int m9]))]) [0, 1] rfl), hE.warm2 hW⟩⟩ rfl rfl hl.1 rfl (lv_room (Nat.le_of_ble_eq_true rfl)) dX4_of_22 ⟨Nat.zero_le _, Nat.zero_le _⟩)) (fun r22 hr22 => ?_)
      refine lv_if_eq (tgt := 43) hx hb dX4_of_25 (by decide) (fun c25 => ?_) (fun c25 => ?_)
      · refine lv_iconst (v := (-1)) hx hb dX4_of_43 (by decide) ?_
        exact W.iret hx hb hr (fun t ht hW => ⟨_, rfl, by rw [if_neg (fun z => c5 (hr2.trans z)), if_neg (fun z => c14 (hr11.trans z))]; by_cases gv : hv = 0; rw [if_pos gv]; rw [if_neg gv, if_pos]; rw [hr22, if_neg gv] at c25; exact c25, ht⟩) (fun q h => by cases h) dX4_of_44
      · have gv : ¬ hv = 0 := fun z => c25 (by rw [hr22, if_pos z])
        have gw : ¬ wi k 0 (nI cl - 1) = 0 := fun z => c25 (by rw [hr22, if_neg gv, z])
        obtain ⟨j, hj, rfl⟩ := wi_natm (n := cl) (by omega) gw
        refine lv_aload_n hx hb dX4_of_28 rfl (lv_at hl 0 rfl) ?_
        refine va_get (D := D) (ci := 4) (v := .ref uL) (C := RX4) (T := TX4) (N := 7) hx hb hts hinX4 hown hK hP 0 rfl rfl 2 (by decide) (hts (.fieldLink RX4 21 "LedgerShares" "latest" "LLedgerShares$Run;") (List.mem_of_getElem? (i := 1) rfl)) (fun _ h9 => h9) rfl dX4_of_29 ?_
        refine va_get (D := D) (ci := 2) (v := .ref h) (C := RX2) (T := TX2) (N := 13) hx hb hts hinX2 hown hK hP 1 rfl rfl 1 (by decide) (hts (.fieldLink RX4 70 "LedgerShares$Run" "sheet" "LLedgerShares$Sheet;") (List.mem_of_getElem? (i := 2) rfl)) (fun _ h9 => h9) rfl dX4_of_32 ?_
        refine lv_iload_n hx hb dX4_of_35 rfl (lv_at hl 1 rfl) ?_
        refine lv_iload_n hx hb dX4_of_36 rfl (lv_at hl 2 rfl) ?_
        refine vp_callSi (va_Run.run (va_runV (As := [.int (nI j), .int w]) (rest := []) ⟨hx, hb, hml, hown, hts⟩ (k_figure l D cI cJ cZ h hB q1 q2 q3 q4 q5 q6 q7 q8 q9 q10 q11 q12 q13 tb fb ka eb j (by omega) w) (cwV 2 hts gX4_of_X3_figure rfl rfl rfl (by decide +kernel) ⟨Nat.le_of_ble_eq_true rfl, Nat.le_of_ble_eq_true rfl⟩) ⟨bl_ro, va_recv hK (hP.sub (ws' := [(h, .inr (3, [.ref hB, .ref q1, .ref q2, .ref q3, .ref q4, .ref q5, .ref q6, .ref q7, .ref q8, .ref q9, .ref q10, .ref q11, .ref q12, .ref q13])), (q10, .inl (cI, 40, .inl tb)), (q11, .inl (cI, 40, .inl fb)), (q12, .inl (cI, 40, .inl ka)), (q13, .inl (cI, 40, .inl eb))]) [2, 3, 4, 5, 6] rfl) (ci := 3) (q0 := 0) rfl rfl, fun U hU hW => ⟨rfl, by rw [hU]; exact (hP.sub (ws' := [(h, .inr (3, [.ref hB, .ref q1, .ref q2, .ref q3, .ref q4, .ref q5, .ref q6, .ref q7, .ref q8, .ref q9, .ref q10, .ref q11, .ref q12, .ref q13])), (q10, .inl (cI, 40, .inl tb)), (q11, .inl (cI, 40, .inl fb)), (q12, .inl (cI, 40, .inl ka)), (q13, .inl (cI, 40, .inl eb))]) [2, 3, 4, 5, 6] rfl), hE.warm2 hW⟩⟩ rfl rfl hl.1 rfl (lv_room (Nat.le_of_ble_eq_true rfl)) dX4_of_37 ⟨Nat.zero_le _, Nat.zero_le _⟩)) (fun r37 hr37 => ?_)
        refine lv_goto (tgt := 44) hx hb dX4_of_40 (by decide) ?_
        exact W.iret hx hb hr (fun t ht hW => ⟨_, rfl, by rw [if_neg (fun z => c5 (hr2.trans z)), if_neg (fun z => c14 (hr11.trans z)), if_neg gv, if_neg gw, nI_clamp (by omega)]; exact hr37, ht⟩) (fun q h => by cases h) dX4_of_44
    · refine lv_bipush (v := (-2)) hx hb dX4_of_17 (by decide) ?_
      exact W.iret hx hb hr (fun t ht hW => ⟨_, rfl, by rw [if_neg (fun z => c5 (hr2.trans z)), if_pos (hr11.symm.trans c14)], ht⟩) (fun q h => by cases h) dX4_of_19
set_option maxHeartbeats 4000000 in
set_option maxRecDepth 100000 in
theorem k_told (l : Launch) (D : va_G) (cI cJ cZ : ClassId) (x hB uX uL u : Nat) (hv rd rr : Int32) (b1 b2 b3 b4 b5 b6 : Nat) (h q1 q2 q3 q4 q5 q6 q7 q8 q9 q10 q11 q12 q13 g : Nat) (cl : Nat) (tk m1 m2 bg an dm uw mu id_ : Int32) (oc : Nat → Int32) (hcl : cl ≤ 40) (w : Int32) : Met l yX4_told wsX4_told ({ frames := 2, cells := 0, slots := 0, locals := 44 }) (PcRO [.ref x, .int w] D cI cJ cZ [(x, .inr (4, [.ref hB, .ref uX, .ref uL, .ref u, .int hv, .int rd, .int rr])), (uL, .inr (2, [.ref hB, .ref h, .ref g, .int (nI cl), .int tk, .int m1, .int m2, .int bg, .int an, .int dm, .int uw, .int mu, .int id_])), (h, .inr (3, [.ref hB, .ref q1, .ref q2, .ref q3, .ref q4, .ref q5, .ref q6, .ref q7, .ref q8, .ref q9, .ref q10, .ref q11, .ref q12, .ref q13])), (q9, .inl (cI, 40, .inl oc))]) (vp_Si (fun r => r = if wi w 0 7 = 0 then -2 else if hv = 0 then -3 else if w = 0 then nI cl else if w = 1 then tk else if w = 2 then bg else if w = 3 then an else if w = 4 then dm else if w = 5 then mu else if w = 6 then id_ else fails oc cl 41 0 0)) 0 0 noF := by
  refine Met.ofW (cc := cX4_told) (maxL := 2) (ret := some .int) (by decide) rfl ?_
  intro p e s m args below meth c s₁ B hml hv
  obtain ⟨rfl, hP, hE⟩ := hv
  have hx := B.exec
  have hb := B.bytes
  have hr := B.returns
  have hts := atoms_spec (ws := wsX4_told) B.pre
  have hown : s.vm.findClass RX4 = some m.cls := findClass_of_methodNamed B.named
  have hlocks := B.notSynchronized
  have hK := hE.1
  have hl := lv_entry ([.ref x, .int w]) (n := 2) (Nat.le_of_ble_eq_true rfl)
  rw [lg_entry_eq]
  generalize (lg_sl ([.ref x, .int w]) ++ List.replicate (2 - (lg_sl ([.ref x, .int w])).length) Slot.unset).toArray = ls at hl ⊢
  have hl : lv_has ls 2 [(0, .ref x), (1, .int w)] := hl
  have hinX4 : ∀ w ∈ u_ws RX4 TX4 7, w ∈ wsX4_told := fun _ h => List.mem_cons_of_mem _ (List.mem_append_left _ (List.mem_append_left _ (List.mem_append_right _ h)))
  refine lv_iload_n hx hb dX4_told_0 rfl (lv_at hl 1 rfl) ?_
  refine lv_iconst (v := 0) hx hb dX4_told_1 (by decide) ?_
  refine lv_bipush (v := 7) hx hb dX4_told_2 (by decide) ?_
  refine vp_callSi (va_Run.run (va_runS (As := [.int w, .int 0, .int 7]) (rest := []) ⟨hx, hb, hml, hown, hts⟩ (k_within l D cI cJ cZ w 0 7) (cwS 3 hts gX4_told_X4_within rfl rfl rfl (by decide +kernel) ⟨Nat.le_of_ble_eq_true rfl, Nat.le_of_ble_eq_true rfl⟩) ⟨bl_ro, fun U hU hW => ⟨rfl, by rw [hU]; exact (hP.sub (ws' := []) [] rfl), hE.warm2 hW⟩⟩ rfl rfl hl.1 rfl (lv_room (Nat.le_of_ble_eq_true rfl)) dX4_told_4 ⟨Nat.zero_le _, Nat.zero_le _⟩)) (fun r4 hr4 => ?_)
  refine lv_if_ne (tgt := 13) hx hb dX4_told_7 (by decide) (fun c7 => ?_) (fun c7 => ?_)
  · refine lv_aload_n hx hb dX4_told_13 rfl (lv_at hl 0 rfl) ?_
    refine va_get (D := D) (ci := 4) (v := .int hv) (C := RX4) (T := TX4) (N := 7) hx hb hts hinX4 hown hK hP 0 rfl rfl 4 (by decide) (hts (.fieldLink RX4 45 "LedgerShares" "hasRun" "Z") (List.mem_of_getElem? (i := 1) rfl)) (fun _ h9 => h9) rfl dX4_told_14 ?_
    refine lv_if_eq (tgt := 31) hx hb dX4_told_17 (by decide) (fun c17 => ?_) (fun c17 => ?_)
    · refine lv_bipush (v := (-3)) hx hb dX4_told_31 (by decide) ?_
      exact W.iret hx hb hr (fun t ht hW => ⟨_, rfl, by rw [if_neg (fun z => c7 (hr4.trans z)), if_pos c17], ht⟩) (fun q h => by cases h) dX4_told_33
    · refine lv_aload_n hx hb dX4_told_20 rfl (lv_at hl 0 rfl) ?_
      refine va_get (D := D) (ci := 4) (v := .ref uL) (C := RX4) (T := TX4) (N := 7) hx hb hts hinX4 hown hK hP 0 rfl rfl 2 (by decide) (hts (.fieldLink RX4 21 "LedgerShares" "latest" "LLedgerShares$Run;") (List.mem_of_getElem? (i := 2) rfl)) (fun _ h9 => h9) rfl dX4_told_21 ?_
      refine lv_iload_n hx hb dX4_told_24 rfl (lv_at hl 1 rfl) ?_
      refine vp_callSi (va_Run.run (va_runV (As := [.int w]) (rest := []) ⟨hx, hb, hml, hown, hts⟩ (k_total l D cI cJ cZ uL h hB q1 q2 q3 q4 q5 q6 q7 q8 q9 q10 q11 q12 q13 g cl tk m1 m2 bg an dm uw mu id_ oc w hcl) (cwV 1 hts gX4_told_X2_total rfl rfl rfl (by decide +kernel) ⟨Nat.le_of_ble_eq_true rfl, Nat.le_of_ble_eq_true rfl⟩) ⟨bl_ro, va_recv hK (hP.sub (ws' := [(uL, .inr (2, [.ref hB, .ref h, .ref g, .int (nI cl), .int tk, .int m1, .int m2, .int bg, .int an, .int dm, .int uw, .int mu, .int id_])), (h, .inr (3, [.ref hB, .ref q1, .ref q2, .ref q3, .ref q4, .ref q5, .ref q6, .ref q7, .ref q8, .ref q9, .ref q10, .ref q11, .ref q12, .ref q13])), (q9, .inl (cI, 40, .inl oc))]) [1, 2, 3] rfl) (ci := 2) (q0 := 0) rfl rfl, fun U hU hW => ⟨rfl, by rw [hU]; exact (hP.sub (ws' := [(uL, .inr (2, [.ref hB, .ref h, .ref g, .int (nI cl), .int tk, .int m1, .int m2, .int bg, .int an, .int dm, .int uw, .int mu, .int id_])), (h, .inr (3, [.ref hB, .ref q1, .ref q2, .ref q3, .ref q4, .ref q5, .ref q6, .ref q7, .ref q8, .ref q9, .ref q10, .ref q11, .ref q12, .ref q13])), (q9, .inl (cI, 40, .inl oc))]) [1, 2, 3] rfl), hE.warm2 hW⟩⟩ rfl rfl hl.1 rfl (lv_room (Nat.le_of_ble_eq_true rfl)) dX4_told_25 ⟨Nat.zero_le _, Nat.zero_le _⟩)) (fun r25 hr25 => ?_)
      refine lv_goto (tgt := 33) hx hb dX4_told_28 (by decide) ?_
      exact W.iret hx hb hr (fun t ht hW => ⟨_, rfl, by rw [if_neg (fun z => c7 (hr4.trans z)), if_neg c17]; exact hr25, ht⟩) (fun q h => by cases h) dX4_told_33
  · refine lv_bipush (v := (-2)) hx hb dX4_told_10 (by decide) ?_
    exact W.iret hx hb hr (fun t ht hW => ⟨_, rfl, by rw [if_pos (hr4.symm.trans c7)], ht⟩) (fun q h => by cases h) dX4_told_12
