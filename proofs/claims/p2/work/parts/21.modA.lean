set_option maxHeartbeats 4000000 in
set_option maxRecDepth 100000 in
theorem m_call_bad (l : Launch) (D : va_G) (cI cJ cZ : ClassId) (sz : Nat) (y d2 d3 d4 d5 d6 d7 d11 d12 d13 d14 d15 d16 d17 d18 d19 d20 d21 d22 d23 d24 d25 d26 d27 d28 d29 d30 d31 d32 d33 d34 d35 d36 d37 : Nat) (th ru rf hs : Int32) (mo ma mb mk mt : Nat → Int32) (n : Nat) (xo xa_ xb_ xc xs : Int32) (hg : ¬ callG xo xa_ xb_ xc xs) : Met l yX5_call wsX5_call ({ frames := 1, cells := 0, slots := 0, locals := 22 }) (PcRW [.ref y, .int xo, .int xa_, .int xb_, .int xc, .int xs] sz D cI cJ cZ [(y, .inr (5, [.int th, .int (nI n), .ref d2, .ref d3, .ref d4, .ref d5, .ref d6, .ref d7, .int ru, .int rf, .int hs, .ref d11, .ref d12, .ref d13, .ref d14, .ref d15, .ref d16, .ref d17, .ref d18, .ref d19, .ref d20, .ref d21, .ref d22, .ref d23, .ref d24, .ref d25, .ref d26, .ref d27, .ref d28, .ref d29, .ref d30, .ref d31, .ref d32, .ref d33, .ref d34, .ref d35, .ref d36, .ref d37])), (d2, .inl (cI, 40, .inl mo)), (d3, .inl (cI, 40, .inl ma)), (d4, .inl (cI, 40, .inl mb)), (d5, .inl (cI, 40, .inl mk)), (d6, .inl (cI, 40, .inl mt))]) (QcI (fun r => r = -2) D (va_A [(y, .inr (5, [.int th, .int (nI n), .ref d2, .ref d3, .ref d4, .ref d5, .ref d6, .ref d7, .int ru, .int rf, .int hs, .ref d11, .ref d12, .ref d13, .ref d14, .ref d15, .ref d16, .ref d17, .ref d18, .ref d19, .ref d20, .ref d21, .ref d22, .ref d23, .ref d24, .ref d25, .ref d26, .ref d27, .ref d28, .ref d29, .ref d30, .ref d31, .ref d32, .ref d33, .ref d34, .ref d35, .ref d36, .ref d37])), (d2, .inl (cI, 40, .inl mo)), (d3, .inl (cI, 40, .inl ma)), (d4, .inl (cI, 40, .inl mb)), (d5, .inl (cI, 40, .inl mk)), (d6, .inl (cI, 40, .inl mt))] sz) [(y, .inr (5, [.int 0, .int (nI n), .ref d2, .ref d3, .ref d4, .ref d5, .ref d6, .ref d7, .int ru, .int rf, .int hs, .ref d11, .ref d12, .ref d13, .ref d14, .ref d15, .ref d16, .ref d17, .ref d18, .ref d19, .ref d20, .ref d21, .ref d22, .ref d23, .ref d24, .ref d25, .ref d26, .ref d27, .ref d28, .ref d29, .ref d30, .ref d31, .ref d32, .ref d33, .ref d34, .ref d35, .ref d36, .ref d37])), (d2, .inl (cI, 40, .inl mo)), (d3, .inl (cI, 40, .inl ma)), (d4, .inl (cI, 40, .inl mb)), (d5, .inl (cI, 40, .inl mk)), (d6, .inl (cI, 40, .inl mt))]) 0 0 (va_A [(y, .inr (5, [.int th, .int (nI n), .ref d2, .ref d3, .ref d4, .ref d5, .ref d6, .ref d7, .int ru, .int rf, .int hs, .ref d11, .ref d12, .ref d13, .ref d14, .ref d15, .ref d16, .ref d17, .ref d18, .ref d19, .ref d20, .ref d21, .ref d22, .ref d23, .ref d24, .ref d25, .ref d26, .ref d27, .ref d28, .ref d29, .ref d30, .ref d31, .ref d32, .ref d33, .ref d34, .ref d35, .ref d36, .ref d37])), (d2, .inl (cI, 40, .inl mo)), (d3, .inl (cI, 40, .inl ma)), (d4, .inl (cI, 40, .inl mb)), (d5, .inl (cI, 40, .inl mk)), (d6, .inl (cI, 40, .inl mt))] sz) := by
  refine Met.ofW (cc := cX5_call) (maxL := 6) (ret := some .int) (by decide) rfl ?_
  intro p e s m args below meth c s₁ B hml hv
  obtain ⟨rfl, hsz, hP, hE, hD0⟩ := hv
  have hx := B.exec
  have hb := B.bytes
  have hr := B.returns
  have hts := atoms_spec (ws := wsX5_call) B.pre
  have hown : s.vm.findClass RX5 = some m.cls := findClass_of_methodNamed B.named
  have hlocks := B.notSynchronized
  have hK := hE.1
  subst hsz
  have hD := hD0.self (sz := s.heap.size)
  generalize hAe : va_A [(y, .inr (5, [.int th, .int (nI n), .ref d2, .ref d3, .ref d4, .ref d5, .ref d6, .ref d7, .int ru, .int rf, .int hs, .ref d11, .ref d12, .ref d13, .ref d14, .ref d15, .ref d16, .ref d17, .ref d18, .ref d19, .ref d20, .ref d21, .ref d22, .ref d23, .ref d24, .ref d25, .ref d26, .ref d27, .ref d28, .ref d29, .ref d30, .ref d31, .ref d32, .ref d33, .ref d34, .ref d35, .ref d36, .ref d37])), (d2, .inl (cI, 40, .inl mo)), (d3, .inl (cI, 40, .inl ma)), (d4, .inl (cI, 40, .inl mb)), (d5, .inl (cI, 40, .inl mk)), (d6, .inl (cI, 40, .inl mt))] s.heap.size = A at hD ⊢
  have hA : ∀ q : Nat, s.heap.size ≤ q → A q := fun q h => by rw [← hAe]; exact Or.inr h
  have hS : va_S A s.heap s.heap [] := va_S.rf
  have hl := lv_entry ([.ref y, .int xo, .int xa_, .int xb_, .int xc, .int xs]) (n := 6) (Nat.le_of_ble_eq_true rfl)
  rw [lg_entry_eq]
  generalize (lg_sl ([.ref y, .int xo, .int xa_, .int xb_, .int xc, .int xs]) ++ List.replicate (6 - (lg_sl ([.ref y, .int xo, .int xa_, .int xb_, .int xc, .int xs])).length) Slot.unset).toArray = ls at hl ⊢
  have hl : lv_has ls 6 [(0, .ref y), (1, .int xo), (2, .int xa_), (3, .int xb_), (4, .int xc), (5, .int xs)] := hl
  have hinX5 : ∀ w ∈ u_ws RX5 TX5 38, w ∈ wsX5_call := fun _ h => List.mem_cons_of_mem _ (List.mem_append_right _ h)
  refine lv_aload_n hx hb dX5_call_0 rfl (lv_at hl 0 rfl) ?_
  refine lv_iconst (v := 0) hx hb dX5_call_1 (by decide) ?_
  refine x_put (D := D) (ci := 5) (v := .int 0) (ty := .int) (C := RX5) (T := TX5) (N := 38) hx hb hts hinX5 tyX5 tyX5_ok nmX5 hown hK hP hD hS 0 rfl rfl 0 (by decide) (hts (.fieldLink RX5 115 "LedgerSharesModel" "thrown" "I") (List.mem_of_getElem? (i := 1) rfl)) rfl (by decide +kernel) (rfl) (rfl) (Nat.le_of_ble_eq_true rfl) (ws' := [(y, .inr (5, [.int 0, .int (nI n), .ref d2, .ref d3, .ref d4, .ref d5, .ref d6, .ref d7, .int ru, .int rf, .int hs, .ref d11, .ref d12, .ref d13, .ref d14, .ref d15, .ref d16, .ref d17, .ref d18, .ref d19, .ref d20, .ref d21, .ref d22, .ref d23, .ref d24, .ref d25, .ref d26, .ref d27, .ref d28, .ref d29, .ref d30, .ref d31, .ref d32, .ref d33, .ref d34, .ref d35, .ref d36, .ref d37])), (d2, .inl (cI, 40, .inl mo)), (d3, .inl (cI, 40, .inl ma)), (d4, .inl (cI, 40, .inl mb)), (d5, .inl (cI, 40, .inl mk)), (d6, .inl (cI, 40, .inl mt))]) rfl dX5_call_2 (fun H locs hP hD hS => ?_)
  refine lv_iload_n hx hb dX5_call_5 rfl (lv_at hl 1 rfl) ?_
  refine lv_iconst (v := 0) hx hb dX5_call_6 (by decide) ?_
  refine lv_iconst (v := 5) hx hb dX5_call_7 (by decide) ?_
  refine vp_callSi (va_Run.run (va_runS (As := [.int xo, .int 0, .int 5]) (rest := []) ⟨hx, hb, hml, hown, hts⟩ (k_in l D cI cJ cZ xo 0 5) (cwS 3 hts gX5_call_X5_in rfl rfl rfl (by decide +kernel) ⟨Nat.le_of_ble_eq_true rfl, Nat.le_of_ble_eq_true rfl⟩) ⟨bl_ro, fun U hU hW => ⟨rfl, by rw [hU]; exact (hP.sub (ws' := []) [] rfl), hE.warm2 hW⟩⟩ rfl rfl hl.1 rfl (lv_room (Nat.le_of_ble_eq_true rfl)) dX5_call_8 ⟨Nat.zero_le _, Nat.zero_le _⟩)) (fun r8 hr8 => ?_)
  refine lv_if_eq (tgt := 57) hx hb dX5_call_11 (by decide) (fun c11 => ?_) (fun c11 => ?_)
  · refine lv_bipush (v := (-2)) hx hb dX5_call_57 (by decide) ?_
    exact W.iret hx hb hr (fun t ht hW => ⟨⟨_, (), rfl, rfl, by rw [ht]; exact hP, by exact hD⟩, hS.F ht⟩) hS.2.2 dX5_call_59
  · refine lv_iload_n hx hb dX5_call_14 rfl (lv_at hl 2 rfl) ?_
    refine lv_iconst (v := 0) hx hb dX5_call_15 (by decide) ?_
    refine lv_bipush (v := 7) hx hb dX5_call_16 (by decide) ?_
    refine vp_callSi (va_Run.run (va_runS (As := [.int xa_, .int 0, .int 7]) (rest := []) ⟨hx, hb, hml, hown, hts⟩ (k_in l D cI cJ cZ xa_ 0 7) (cwS 3 hts gX5_call_X5_in rfl rfl rfl (by decide +kernel) ⟨Nat.le_of_ble_eq_true rfl, Nat.le_of_ble_eq_true rfl⟩) ⟨bl_ro, fun U hU hW => ⟨rfl, by rw [hU]; exact (hP.sub (ws' := []) [] rfl), hE.warm2 hW⟩⟩ rfl rfl hl.1 rfl (lv_room (Nat.le_of_ble_eq_true rfl)) dX5_call_18 ⟨Nat.zero_le _, Nat.zero_le _⟩)) (fun r18 hr18 => ?_)
    refine lv_if_eq (tgt := 57) hx hb dX5_call_21 (by decide) (fun c21 => ?_) (fun c21 => ?_)
    · refine lv_bipush (v := (-2)) hx hb dX5_call_57 (by decide) ?_
      exact W.iret hx hb hr (fun t ht hW => ⟨⟨_, (), rfl, rfl, by rw [ht]; exact hP, by exact hD⟩, hS.F ht⟩) hS.2.2 dX5_call_59
    · refine lv_iload_n hx hb dX5_call_24 rfl (lv_at hl 3 rfl) ?_
      refine lv_iconst (v := 0) hx hb dX5_call_25 (by decide) ?_
      refine lv_bipush (v := 7) hx hb dX5_call_26 (by decide) ?_
      refine vp_callSi (va_Run.run (va_runS (As := [.int xb_, .int 0, .int 7]) (rest := []) ⟨hx, hb, hml, hown, hts⟩ (k_in l D cI cJ cZ xb_ 0 7) (cwS 3 hts gX5_call_X5_in rfl rfl rfl (by decide +kernel) ⟨Nat.le_of_ble_eq_true rfl, Nat.le_of_ble_eq_true rfl⟩) ⟨bl_ro, fun U hU hW => ⟨rfl, by rw [hU]; exact (hP.sub (ws' := []) [] rfl), hE.warm2 hW⟩⟩ rfl rfl hl.1 rfl (lv_room (Nat.le_of_ble_eq_true rfl)) dX5_call_28 ⟨Nat.zero_le _, Nat.zero_le _⟩)) (fun r28 hr28 => ?_)
      refine lv_if_eq (tgt := 57) hx hb dX5_call_31 (by decide) (fun c31 => ?_) (fun c31 => ?_)
      · refine lv_bipush (v := (-2)) hx hb dX5_call_57 (by decide) ?_
        exact W.iret hx hb hr (fun t ht hW => ⟨⟨_, (), rfl, rfl, by rw [ht]; exact hP, by exact hD⟩, hS.F ht⟩) hS.2.2 dX5_call_59
      · refine lv_iload hx hb dX5_call_34 (lv_at hl 4 rfl) ?_
        refine lv_ldc hx hb hown (hts (.constant RX5 123 (-1000000)) (List.mem_of_getElem? (i := 2) rfl)) dX5_call_36 ?_
        refine lv_ldc hx hb hown (hts (.constant RX5 124 (1000000)) (List.mem_of_getElem? (i := 3) rfl)) dX5_call_38 ?_
        refine vp_callSi (va_Run.run (va_runS (As := [.int xc, .int ((-1000000)), .int 1000000]) (rest := []) ⟨hx, hb, hml, hown, hts⟩ (k_in l D cI cJ cZ xc ((-1000000)) 1000000) (cwS 3 hts gX5_call_X5_in rfl rfl rfl (by decide +kernel) ⟨Nat.le_of_ble_eq_true rfl, Nat.le_of_ble_eq_true rfl⟩) ⟨bl_ro, fun U hU hW => ⟨rfl, by rw [hU]; exact (hP.sub (ws' := []) [] rfl), hE.warm2 hW⟩⟩ rfl rfl hl.1 rfl (lv_room (Nat.le_of_ble_eq_true rfl)) dX5_call_40 ⟨Nat.zero_le _, Nat.zero_le _⟩)) (fun r40 hr40 => ?_)
        refine lv_if_eq (tgt := 57) hx hb dX5_call_43 (by decide) (fun c43 => ?_) (fun c43 => ?_)
        · refine lv_bipush (v := (-2)) hx hb dX5_call_57 (by decide) ?_
          exact W.iret hx hb hr (fun t ht hW => ⟨⟨_, (), rfl, rfl, by rw [ht]; exact hP, by exact hD⟩, hS.F ht⟩) hS.2.2 dX5_call_59
        · refine lv_iload hx hb dX5_call_46 (lv_at hl 5 rfl) ?_
          refine lv_iconst (v := 1) hx hb dX5_call_48 (by decide) ?_
          refine lv_bipush (v := 9) hx hb dX5_call_49 (by decide) ?_
          refine vp_callSi (va_Run.run (va_runS (As := [.int xs, .int 1, .int 9]) (rest := []) ⟨hx, hb, hml, hown, hts⟩ (k_in l D cI cJ cZ xs 1 9) (cwS 3 hts gX5_call_X5_in rfl rfl rfl (by decide +kernel) ⟨Nat.le_of_ble_eq_true rfl, Nat.le_of_ble_eq_true rfl⟩) ⟨bl_ro, fun U hU hW => ⟨rfl, by rw [hU]; exact (hP.sub (ws' := []) [] rfl), hE.warm2 hW⟩⟩ rfl rfl hl.1 rfl (lv_room (Nat.le_of_ble_eq_true rfl)) dX5_call_51 ⟨Nat.zero_le _, Nat.zero_le _⟩)) (fun r51 hr51 => ?_)
          refine lv_if_ne (tgt := 60) hx hb dX5_call_54 (by decide) (fun c54 => ?_) (fun c54 => ?_)
          · exact absurd ⟨fun z => c11 (hr8.trans z), fun z => c21 (hr18.trans z), fun z => c31 (hr28.trans z), fun z => c43 (hr40.trans z), fun z => c54 (hr51.trans z)⟩ hg
          · refine lv_bipush (v := (-2)) hx hb dX5_call_57 (by decide) ?_
            exact W.iret hx hb hr (fun t ht hW => ⟨⟨_, (), rfl, rfl, by rw [ht]; exact hP, by exact hD⟩, hS.F ht⟩) hS.2.2 dX5_call_59
set_option maxHeartbeats 4000000 in
set_option maxRecDepth 100000 in
theorem m_call_ok (l : Launch) (D : va_G) (cI cJ cZ : ClassId) (sz : Nat) (y d2 d3 d4 d5 d6 d7 d11 d12 d13 d14 d15 d16 d17 d18 d19 d20 d21 d22 d23 d24 d25 d26 d27 d28 d29 d30 d31 d32 d33 d34 d35 d36 d37 : Nat) (th ru rf hs : Int32) (mo ma mb mk mt : Nat → Int32) (n : Nat) (hn : n < 40) (xo xa_ xb_ xc xs : Int32) (hg : callG xo xa_ xb_ xc xs) : Met l yX5_call wsX5_call ({ frames := 1, cells := 0, slots := 0, locals := 22 }) (PcRW [.ref y, .int xo, .int xa_, .int xb_, .int xc, .int xs] sz D cI cJ cZ [(y, .inr (5, [.int th, .int (nI n), .ref d2, .ref d3, .ref d4, .ref d5, .ref d6, .ref d7, .int ru, .int rf, .int hs, .ref d11, .ref d12, .ref d13, .ref d14, .ref d15, .ref d16, .ref d17, .ref d18, .ref d19, .ref d20, .ref d21, .ref d22, .ref d23, .ref d24, .ref d25, .ref d26, .ref d27, .ref d28, .ref d29, .ref d30, .ref d31, .ref d32, .ref d33, .ref d34, .ref d35, .ref d36, .ref d37])), (d2, .inl (cI, 40, .inl mo)), (d3, .inl (cI, 40, .inl ma)), (d4, .inl (cI, 40, .inl mb)), (d5, .inl (cI, 40, .inl mk)), (d6, .inl (cI, 40, .inl mt))]) (QcI (fun r => r = nI n) D (va_A [(y, .inr (5, [.int th, .int (nI n), .ref d2, .ref d3, .ref d4, .ref d5, .ref d6, .ref d7, .int ru, .int rf, .int hs, .ref d11, .ref d12, .ref d13, .ref d14, .ref d15, .ref d16, .ref d17, .ref d18, .ref d19, .ref d20, .ref d21, .ref d22, .ref d23, .ref d24, .ref d25, .ref d26, .ref d27, .ref d28, .ref d29, .ref d30, .ref d31, .ref d32, .ref d33, .ref d34, .ref d35, .ref d36, .ref d37])), (d2, .inl (cI, 40, .inl mo)), (d3, .inl (cI, 40, .inl ma)), (d4, .inl (cI, 40, .inl mb)), (d5, .inl (cI, 40, .inl mk)), (d6, .inl (cI, 40, .inl mt))] sz) [(y, .inr (5, [.int 0, .int (nI (n + 1)), .ref d2, .ref d3, .ref d4, .ref d5, .ref d6, .ref d7, .int ru, .int rf, .int hs, .ref d11, .ref d12, .ref d13, .ref d14, .ref d15, .ref d16, .ref d17, .ref d18, .ref d19, .ref d20, .ref d21, .ref d22, .ref d23, .ref d24, .ref d25, .ref d26, .ref d27, .ref d28, .ref d29, .ref d30, .ref d31, .ref d32, .ref d33, .ref d34, .ref d35, .ref d36, .ref d37])), (d2, .inl (cI, 40, .inl (upd mo n xo))), (d3, .inl (cI, 40, .inl (upd ma n xa_))), (d4, .inl (cI, 40, .inl (upd mb n xb_))), (d5, .inl (cI, 40, .inl (upd mk n xc))), (d6, .inl (cI, 40, .inl (upd mt n xs)))]) 0 0 (va_A [(y, .inr (5, [.int th, .int (nI n), .ref d2, .ref d3, .ref d4, .ref d5, .ref d6, .ref d7, .int ru, .int rf, .int hs, .ref d11, .ref d12, .ref d13, .ref d14, .ref d15, .ref d16, .ref d17, .ref d18, .ref d19, .ref d20, .ref d21, .ref d22, .ref d23, .ref d24, .ref d25, .ref d26, .ref d27, .ref d28, .ref d29, .ref d30, .ref d31, .ref d32, .ref d33, .ref d34, .ref d35, .ref d36, .ref d37])), (d2, .inl (cI, 40, .inl mo)), (d3, .inl (cI, 40, .inl ma)), (d4, .inl (cI, 40, .inl mb)), (d5, .inl (cI, 40, .inl mk)), (d6, .inl (cI, 40, .inl mt))] sz) := by
  refine Met.ofW (cc := cX5_call) (maxL := 6) (ret := some .int) (by decide) rfl ?_
  intro p e s m args below meth c s₁ B hml hv
  obtain ⟨rfl, hsz, hP, hE, hD0⟩ := hv
  have hx := B.exec
  have hb := B.bytes
  have hr := B.returns
  have hts := atoms_spec (ws := wsX5_call) B.pre
  have hown : s.vm.findClass RX5 = some m.cls := findClass_of_methodNamed B.named
  have hlocks := B.notSynchronized
  have hK := hE.1
  subst hsz
  have hD := hD0.self (sz := s.heap.size)
  generalize hAe : va_A [(y, .inr (5, [.int th, .int (nI n), .ref d2, .ref d3, .ref d4, .ref d5, .ref d6, .ref d7, .int ru, .int rf, .int hs, .ref d11, .ref d12, .ref d13, .ref d14, .ref d15, .ref d16, .ref d17, .ref d18, .ref d19, .ref d20, .ref d21, .ref d22, .ref d23, .ref d24, .ref d25, .ref d26, .ref d27, .ref d28, .ref d29, .ref d30, .ref d31, .ref d32, .ref d33, .ref d34, .ref d35, .ref d36, .ref d37])), (d2, .inl (cI, 40, .inl mo)), (d3, .inl (cI, 40, .inl ma)), (d4, .inl (cI, 40, .inl mb)), (d5, .inl (cI, 40, .inl mk)), (d6, .inl (cI, 40, .inl mt))] s.heap.size = A at hD ⊢
  have hA : ∀ q : Nat, s.heap.size ≤ q → A q := fun q h => by rw [← hAe]; exact Or.inr h
  have hS : va_S A s.heap s.heap [] := va_S.rf
  have hl := lv_entry ([.ref y, .int xo, .int xa_, .int xb_, .int xc, .int xs]) (n := 6) (Nat.le_of_ble_eq_true rfl)
  rw [lg_entry_eq]
  generalize (lg_sl ([.ref y, .int xo, .int xa_, .int xb_, .int xc, .int xs]) ++ List.replicate (6 - (lg_sl ([.ref y, .int xo, .int xa_, .int xb_, .int xc, .int xs])).length) Slot.unset).toArray = ls at hl ⊢
  have hl : lv_has ls 6 [(0, .ref y), (1, .int xo), (2, .int xa_), (3, .int xb_), (4, .int xc), (5, .int xs)] := hl
  have hinX5 : ∀ w ∈ u_ws RX5 TX5 38, w ∈ wsX5_call := fun _ h => List.mem_cons_of_mem _ (List.mem_append_right _ h)
  refine lv_aload_n hx hb dX5_call_0 rfl (lv_at hl 0 rfl) ?_
  refine lv_iconst (v := 0) hx hb dX5_call_1 (by decide) ?_
  refine x_put (D := D) (ci := 5) (v := .int 0) (ty := .int) (C := RX5) (T := TX5) (N := 38) hx hb hts hinX5 tyX5 tyX5_ok nmX5 hown hK hP hD hS 0 rfl rfl 0 (by decide) (hts (.fieldLink RX5 115 "LedgerSharesModel" "thrown" "I") (List.mem_of_getElem? (i := 1) rfl)) rfl (by decide +kernel) (rfl) (rfl) (Nat.le_of_ble_eq_true rfl) (ws' := [(y, .inr (5, [.int 0, .int (nI n), .ref d2, .ref d3, .ref d4, .ref d5, .ref d6, .ref d7, .int ru, .int rf, .int hs, .ref d11, .ref d12, .ref d13, .ref d14, .ref d15, .ref d16, .ref d17, .ref d18, .ref d19, .ref d20, .ref d21, .ref d22, .ref d23, .ref d24, .ref d25, .ref d26, .ref d27, .ref d28, .ref d29, .ref d30, .ref d31, .ref d32, .ref d33, .ref d34, .ref d35, .ref d36, .ref d37])), (d2, .inl (cI, 40, .inl mo)), (d3, .inl (cI, 40, .inl ma)), (d4, .inl (cI, 40, .inl mb)), (d5, .inl (cI, 40, .inl mk)), (d6, .inl (cI, 40, .inl mt))]) rfl dX5_call_2 (fun H locs hP hD hS => ?_)
  refine lv_iload_n hx hb dX5_call_5 rfl (lv_at hl 1 rfl) ?_
  refine lv_iconst (v := 0) hx hb dX5_call_6 (by decide) ?_
  refine lv_iconst (v := 5) hx hb dX5_call_7 (by decide) ?_
  refine vp_callSi (va_Run.run (va_runS (As := [.int xo, .int 0, .int 5]) (rest := []) ⟨hx, hb, hml, hown, hts⟩ (k_in l D cI cJ cZ xo 0 5) (cwS 3 hts gX5_call_X5_in rfl rfl rfl (by decide +kernel) ⟨Nat.le_of_ble_eq_true rfl, Nat.le_of_ble_eq_true rfl⟩) ⟨bl_ro, fun U hU hW => ⟨rfl, by rw [hU]; exact (hP.sub (ws' := []) [] rfl), hE.warm2 hW⟩⟩ rfl rfl hl.1 rfl (lv_room (Nat.le_of_ble_eq_true rfl)) dX5_call_8 ⟨Nat.zero_le _, Nat.zero_le _⟩)) (fun r8 hr8 => ?_)
  refine lv_if_eq (tgt := 57) hx hb dX5_call_11 (by decide) (fun c11 => ?_) (fun c11 => ?_)
  · exact absurd (hr8.symm.trans c11) hg.1
  · refine lv_iload_n hx hb dX5_call_14 rfl (lv_at hl 2 rfl) ?_
    refine lv_iconst (v := 0) hx hb dX5_call_15 (by decide) ?_
    refine lv_bipush (v := 7) hx hb dX5_call_16 (by decide) ?_
    refine vp_callSi (va_Run.run (va_runS (As := [.int xa_, .int 0, .int 7]) (rest := []) ⟨hx, hb, hml, hown, hts⟩ (k_in l D cI cJ cZ xa_ 0 7) (cwS 3 hts gX5_call_X5_in rfl rfl rfl (by decide +kernel) ⟨Nat.le_of_ble_eq_true rfl, Nat.le_of_ble_eq_true rfl⟩) ⟨bl_ro, fun U hU hW => ⟨rfl, by rw [hU]; exact (hP.sub (ws' := []) [] rfl), hE.warm2 hW⟩⟩ rfl rfl hl.1 rfl (lv_room (Nat.le_of_ble_eq_true rfl)) dX5_call_18 ⟨Nat.zero_le _, Nat.zero_le _⟩)) (fun r18 hr18 => ?_)
    refine lv_if_eq (tgt := 57) hx hb dX5_call_21 (by decide) (fun c21 => ?_) (fun c21 => ?_)
    · exact absurd (hr18.symm.trans c21) hg.2.1
    · refine lv_iload_n hx hb dX5_call_24 rfl (lv_at hl 3 rfl) ?_
      refine lv_iconst (v := 0) hx hb dX5_call_25 (by decide) ?_
      refine lv_bipush (v := 7) hx hb dX5_call_26 (by decide) ?_
      refine vp_callSi (va_Run.run (va_runS (As := [.int xb_, .int 0, .int 7]) (rest := []) ⟨hx, hb, hml, hown, hts⟩ (k_in l D cI cJ cZ xb_ 0 7) (cwS 3 hts gX5_call_X5_in rfl rfl rfl (by decide +kernel) ⟨Nat.le_of_ble_eq_true rfl, Nat.le_of_ble_eq_true rfl⟩) ⟨bl_ro, fun U hU hW => ⟨rfl, by rw [hU]; exact (hP.sub (ws' := []) [] rfl), hE.warm2 hW⟩⟩ rfl rfl hl.1 rfl (lv_room (Nat.le_of_ble_eq_true rfl)) dX5_call_28 ⟨Nat.zero_le _, Nat.zero_le _⟩)) (fun r28 hr28 => ?_)
      refine lv_if_eq (tgt := 57) hx hb dX5_call_31 (by decide) (fun c31 => ?_) (fun c31 => ?_)
      · exact absurd (hr28.symm.trans c31) hg.2.2.1
      · refine lv_iload hx hb dX5_call_34 (lv_at hl 4 rfl) ?_
        refine lv_ldc hx hb hown (hts (.constant RX5 123 (-1000000)) (List.mem_of_getElem? (i := 2) rfl)) dX5_call_36 ?_
        refine lv_ldc hx hb hown (hts (.constant RX5 124 (1000000)) (List.mem_of_getElem? (i := 3) rfl)) dX5_call_38 ?_
        refine vp_callSi (va_Run.run (va_runS (As := [.int xc, .int ((-1000000)), .int 1000000]) (rest := []) ⟨hx, hb, hml, hown, hts⟩ (k_in l D cI cJ cZ xc ((-1000000)) 1000000) (cwS 3 hts gX5_call_X5_in rfl rfl rfl (by decide +kernel) ⟨Nat.le_of_ble_eq_true rfl, Nat.le_of_ble_eq_true rfl⟩) ⟨bl_ro, fun U hU hW => ⟨rfl, by rw [hU]; exact (hP.sub (ws' := []) [] rfl), hE.warm2 hW⟩⟩ rfl rfl hl.1 rfl (lv_room (Nat.le_of_ble_eq_true rfl)) dX5_call_40 ⟨Nat.zero_le _, Nat.zero_le _⟩)) (fun r40 hr40 => ?_)
        refine lv_if_eq (tgt := 57) hx hb dX5_call_43 (by decide) (fun c43 => ?_) (fun c43 => ?_)
        · exact absurd (hr40.symm.trans c43) hg.2.2.2.1
        · refine lv_iload hx hb dX5_call_46 (lv_at hl 5 rfl) ?_
          refine lv_iconst (v := 1) hx hb dX5_call_48 (by decide) ?_
          refine lv_bipush (v := 9) hx hb dX5_call_49 (by decide) ?_
          refine vp_callSi (va_Run.run (va_runS (As := [.int xs, .int 1, .int 9]) (rest := []) ⟨hx, hb, hml, hown, hts⟩ (k_in l D cI cJ cZ xs 1 9) (cwS 3 hts gX5_call_X5_in rfl rfl rfl (by decide +kernel) ⟨Nat.le_of_ble_eq_true rfl, Nat.le_of_ble_eq_true rfl⟩) ⟨bl_ro, fun U hU hW => ⟨rfl, by rw [hU]; exact (hP.sub (ws' := []) [] rfl), hE.warm2 hW⟩⟩ rfl rfl hl.1 rfl (lv_room (Nat.le_of_ble_eq_true rfl)) dX5_call_51 ⟨Nat.zero_le _, Nat.zero_le _⟩)) (fun r51 hr51 => ?_)
          refine lv_if_ne (tgt := 60) hx hb dX5_call_54 (by decide) (fun c54 => ?_) (fun c54 => ?_)
          · refine lv_aload_n hx hb dX5_call_60 rfl (lv_at hl 0 rfl) ?_
            refine va_get (D := D) (ci := 5) (v := .int (nI n)) (C := RX5) (T := TX5) (N := 38) hx hb hts hinX5 hown hK hP 0 rfl rfl 1 (by decide) (hts (.fieldLink RX5 125 "LedgerSharesModel" "calls" "I") (List.mem_of_getElem? (i := 4) rfl)) (fun _ h9 => h9) rfl dX5_call_61 ?_
            refine lv_bipush (v := 40) hx hb dX5_call_64 (by decide) ?_
            refine lv_icmp_ne (tgt := 72) hx hb dX5_call_66 (by decide) (fun c66 => ?_) (fun c66 => absurd ((nI_eq (a := n) (b := 40) (by omega) (by decide)).mp c66) (by omega))
            refine lv_aload_n hx hb dX5_call_72 rfl (lv_at hl 0 rfl) ?_
            refine va_get (D := D) (ci := 5) (v := .ref d2) (C := RX5) (T := TX5) (N := 38) hx hb hts hinX5 hown hK hP 0 rfl rfl 2 (by decide) (hts (.fieldLink RX5 7 "LedgerSharesModel" "ops" "[I") (List.mem_of_getElem? (i := 5) rfl)) (fun _ h9 => h9) rfl dX5_call_73 ?_
            refine lv_aload_n hx hb dX5_call_76 rfl (lv_at hl 0 rfl) ?_
            refine va_get (D := D) (ci := 5) (v := .int (nI n)) (C := RX5) (T := TX5) (N := 38) hx hb hts hinX5 hown hK hP 0 rfl rfl 1 (by decide) (hts (.fieldLink RX5 125 "LedgerSharesModel" "calls" "I") (List.mem_of_getElem? (i := 4) rfl)) (fun _ h9 => h9) rfl dX5_call_77 ?_
            refine lv_iload_n hx hb dX5_call_80 rfl (lv_at hl 1 rfl) ?_
            refine x_iast hx hb hE hP hD hS 1 rfl (n) hn (by decide) (rfl) (ws' := [(y, .inr (5, [.int 0, .int (nI n), .ref d2, .ref d3, .ref d4, .ref d5, .ref d6, .ref d7, .int ru, .int rf, .int hs, .ref d11, .ref d12, .ref d13, .ref d14, .ref d15, .ref d16, .ref d17, .ref d18, .ref d19, .ref d20, .ref d21, .ref d22, .ref d23, .ref d24, .ref d25, .ref d26, .ref d27, .ref d28, .ref d29, .ref d30, .ref d31, .ref d32, .ref d33, .ref d34, .ref d35, .ref d36, .ref d37])), (d2, .inl (cI, 40, .inl (upd mo n xo))), (d3, .inl (cI, 40, .inl ma)), (d4, .inl (cI, 40, .inl mb)), (d5, .inl (cI, 40, .inl mk)), (d6, .inl (cI, 40, .inl mt))]) (rfl) dX5_call_81 (fun H locs hP hD hS => ?_)
            refine lv_aload_n hx hb dX5_call_82 rfl (lv_at hl 0 rfl) ?_
            refine va_get (D := D) (ci := 5) (v := .ref d3) (C := RX5) (T := TX5) (N := 38) hx hb hts hinX5 hown hK hP 0 rfl rfl 3 (by decide) (hts (.fieldLink RX5 13 "LedgerSharesModel" "as" "[I") (List.mem_of_getElem? (i := 6) rfl)) (fun _ h9 => h9) rfl dX5_call_83 ?_
            refine lv_aload_n hx hb dX5_call_86 rfl (lv_at hl 0 rfl) ?_
            refine va_get (D := D) (ci := 5) (v := .int (nI n)) (C := RX5) (T := TX5) (N := 38) hx hb hts hinX5 hown hK hP 0 rfl rfl 1 (by decide) (hts (.fieldLink RX5 125 "LedgerSharesModel" "calls" "I") (List.mem_of_getElem? (i := 4) rfl)) (fun _ h9 => h9) rfl dX5_call_87 ?_
            refine lv_iload_n hx hb dX5_call_90 rfl (lv_at hl 2 rfl) ?_
            refine x_iast hx hb hE hP hD hS 2 rfl (n) hn (by decide) (rfl) (ws' := [(y, .inr (5, [.int 0, .int (nI n), .ref d2, .ref d3, .ref d4, .ref d5, .ref d6, .ref d7, .int ru, .int rf, .int hs, .ref d11, .ref d12, .ref d13, .ref d14, .ref d15, .ref d16, .ref d17, .ref d18, .ref d19, .ref d20, .ref d21, .ref d22, .ref d23, .ref d24, .ref d25, .ref d26, .ref d27, .ref d28, .ref d29, .ref d30, .ref d31, .ref d32, .ref d33, .ref d34, .ref d35, .ref d36, .ref d37])), (d2, .inl (cI, 40, .inl (upd mo n xo))), (d3, .inl (cI, 40, .inl (upd ma n xa_))), (d4, .inl (cI, 40, .inl mb)), (d5, .inl (cI, 40, .inl mk)), (d6, .inl (cI, 40, .inl mt))]) (rfl) dX5_call_91 (fun H locs hP hD hS => ?_)
            refine lv_aload_n hx hb dX5_call_92 rfl (lv_at hl 0 rfl) ?_
            refine va_get (D := D) (ci := 5) (v := .ref d4) (C := RX5) (T := TX5) (N := 38) hx hb hts hinX5 hown hK hP 0 rfl rfl 4 (by decide) (hts (.fieldLink RX5 16 "LedgerSharesModel" "bs" "[I") (List.mem_of_getElem? (i := 7) rfl)) (fun _ h9 => h9) rfl dX5_call_93 ?_
            refine lv_aload_n hx hb dX5_call_96 rfl (lv_at hl 0 rfl) ?_
            refine va_get (D := D) (ci := 5) (v := .int (nI n)) (C := RX5) (T := TX5) (N := 38) hx hb hts hinX5 hown hK hP 0 rfl rfl 1 (by decide) (hts (.fieldLink RX5 125 "LedgerSharesModel" "calls" "I") (List.mem_of_getElem? (i := 4) rfl)) (fun _ h9 => h9) rfl dX5_call_97 ?_
            refine lv_iload_n hx hb dX5_call_100 rfl (lv_at hl 3 rfl) ?_
            refine x_iast hx hb hE hP hD hS 3 rfl (n) hn (by decide) (rfl) (ws' := [(y, .inr (5, [.int 0, .int (nI n), .ref d2, .ref d3, .ref d4, .ref d5, .ref d6, .ref d7, .int ru, .int rf, .int hs, .ref d11, .ref d12, .ref d13, .ref d14, .ref d15, .ref d16, .ref d17, .ref d18, .ref d19, .ref d20, .ref d21, .ref d22, .ref d23, .ref d24, .ref d25, .ref d26, .ref d27, .ref d28, .ref d29, .ref d30, .ref d31, .ref d32, .ref d33, .ref d34, .ref d35, .ref d36, .ref d37])), (d2, .inl (cI, 40, .inl (upd mo n xo))), (d3, .inl (cI, 40, .inl (upd ma n xa_))), (d4, .inl (cI, 40, .inl (upd mb n xb_))), (d5, .inl (cI, 40, .inl mk)), (d6, .inl (cI, 40, .inl mt))]) (rfl) dX5_call_101 (fun H locs hP hD hS => ?_)
            refine lv_aload_n hx hb dX5_call_102 rfl (lv_at hl 0 rfl) ?_
            refine va_get (D := D) (ci := 5) (v := .ref d5) (C := RX5) (T := TX5) (N := 38) hx hb hts hinX5 hown hK hP 0 rfl rfl 5 (by decide) (hts (.fieldLink RX5 19 "LedgerSharesModel" "cs" "[I") (List.mem_of_getElem? (i := 8) rfl)) (fun _ h9 => h9) rfl dX5_call_103 ?_
            refine lv_aload_n hx hb dX5_call_106 rfl (lv_at hl 0 rfl) ?_
            refine va_get (D := D) (ci := 5) (v := .int (nI n)) (C := RX5) (T := TX5) (N := 38) hx hb hts hinX5 hown hK hP 0 rfl rfl 1 (by decide) (hts (.fieldLink RX5 125 "LedgerSharesModel" "calls" "I") (List.mem_of_getElem? (i := 4) rfl)) (fun _ h9 => h9) rfl dX5_call_107 ?_
            refine lv_iload hx hb dX5_call_110 (lv_at hl 4 rfl) ?_
            refine x_iast hx hb hE hP hD hS 4 rfl (n) hn (by decide) (rfl) (ws' := [(y, .inr (5, [.int 0, .int (nI n), .ref d2, .ref d3, .ref d4, .ref d5, .ref d6, .ref d7, .int ru, .int rf, .int hs, .ref d11, .ref d12, .ref d13, .ref d14, .ref d15, .ref d16, .ref d17, .ref d18, .ref d19, .ref d20, .ref d21, .ref d22, .ref d23, .ref d24, .ref d25, .ref d26, .ref d27, .ref d28, .ref d29, .ref d30, .ref d31, .ref d32, .ref d33, .ref d34, .ref d35, .ref d36, .ref d37])), (d2, .inl (cI, 40, .inl (upd mo n xo))), (d3, .inl (cI, 40, .inl (upd ma n xa_))), (d4, .inl (cI, 40, .inl (upd mb n xb_))), (d5, .inl (cI, 40, .inl (upd mk n xc))), (d6, .inl (cI, 40, .inl mt))]) (rfl) dX5_call_112 (fun H locs hP hD hS => ?_)
            refine lv_aload_n hx hb dX5_call_113 rfl (lv_at hl 0 rfl) ?_
            refine va_get (D := D) (ci := 5) (v := .ref d6) (C := RX5) (T := TX5) (N := 38) hx hb hts hinX5 hown hK hP 0 rfl rfl 6 (by decide) (hts (.fieldLink RX5 22 "LedgerSharesModel" "steps" "[I") (List.mem_of_getElem? (i := 9) rfl)) (fun _ h9 => h9) rfl dX5_call_114 ?_
            refine lv_aload_n hx hb dX5_call_117 rfl (lv_at hl 0 rfl) ?_
            refine va_get (D := D) (ci := 5) (v := .int (nI n)) (C := RX5) (T := TX5) (N := 38) hx hb hts hinX5 hown hK hP 0 rfl rfl 1 (by decide) (hts (.fieldLink RX5 125 "LedgerSharesModel" "calls" "I") (List.mem_of_getElem? (i := 4) rfl)) (fun _ h9 => h9) rfl dX5_call_118 ?_
            refine lv_iload hx hb dX5_call_121 (lv_at hl 5 rfl) ?_
            refine x_iast hx hb hE hP hD hS 5 rfl (n) hn (by decide) (rfl) (ws' := [(y, .inr (5, [.int 0, .int (nI n), .ref d2, .ref d3, .ref d4, .ref d5, .ref d6, .ref d7, .int ru, .int rf, .int hs, .ref d11, .ref d12, .ref d13, .ref d14, .ref d15, .ref d16, .ref d17, .ref d18, .ref d19, .ref d20, .ref d21, .ref d22, .ref d23, .ref d24, .ref d25, .ref d26, .ref d27, .ref d28, .ref d29, .ref d30, .ref d31, .ref d32, .ref d33, .ref d34, .ref d35, .ref d36, .ref d37])), (d2, .inl (cI, 40, .inl (upd mo n xo))), (d3, .inl (cI, 40, .inl (upd ma n xa_))), (d4, .inl (cI, 40, .inl (upd mb n xb_))), (d5, .inl (cI, 40, .inl (upd mk n xc))), (d6, .inl (cI, 40, .inl (upd mt n xs)))]) (rfl) dX5_call_123 (fun H locs hP hD hS => ?_)
            refine lv_aload_n hx hb dX5_call_124 rfl (lv_at hl 0 rfl) ?_
            refine lv_dup hx hb dX5_call_125 rfl ?_
            refine va_get (D := D) (ci := 5) (v := .int (nI n)) (C := RX5) (T := TX5) (N := 38) hx hb hts hinX5 hown hK hP 0 rfl rfl 1 (by decide) (hts (.fieldLink RX5 125 "LedgerSharesModel" "calls" "I") (List.mem_of_getElem? (i := 4) rfl)) (fun _ h9 => h9) rfl dX5_call_126 ?_
            refine lv_iconst (v := 1) hx hb dX5_call_129 (by decide) ?_
            refine lv_iadd hx hb dX5_call_130 ?_
            refine x_topi (y := nI (n + 1)) (nI_1 n) ?_
            refine x_put (D := D) (ci := 5) (v := .int (nI (n + 1))) (ty := .int) (C := RX5) (T := TX5) (N := 38) hx hb hts hinX5 tyX5 tyX5_ok nmX5 hown hK hP hD hS 0 rfl rfl 1 (by decide) (hts (.fieldLink RX5 125 "LedgerSharesModel" "calls" "I") (List.mem_of_getElem? (i := 4) rfl)) rfl (by decide +kernel) (rfl) (rfl) (Nat.le_of_ble_eq_true rfl) (ws' := [(y, .inr (5, [.int 0, .int (nI (n + 1)), .ref d2, .ref d3, .ref d4, .ref d5, .ref d6, .ref d7, .int ru, .int rf, .int hs, .ref d11, .ref d12, .ref d13, .ref d14, .ref d15, .ref d16, .ref d17, .ref d18, .ref d19, .ref d20, .ref d21, .ref d22, .ref d23, .ref d24, .ref d25, .ref d26, .ref d27, .ref d28, .ref d29, .ref d30, .ref d31, .ref d32, .ref d33, .ref d34, .ref d35, .ref d36, .ref d37])), (d2, .inl (cI, 40, .inl (upd mo n xo))), (d3, .inl (cI, 40, .inl (upd ma n xa_))), (d4, .inl (cI, 40, .inl (upd mb n xb_))), (d5, .inl (cI, 40, .inl (upd mk n xc))), (d6, .inl (cI, 40, .inl (upd mt n xs)))]) rfl dX5_call_131 (fun H locs hP hD hS => ?_)
            refine lv_aload_n hx hb dX5_call_134 rfl (lv_at hl 0 rfl) ?_
            refine va_get (D := D) (ci := 5) (v := .int (nI (n + 1))) (C := RX5) (T := TX5) (N := 38) hx hb hts hinX5 hown hK hP 0 rfl rfl 1 (by decide) (hts (.fieldLink RX5 125 "LedgerSharesModel" "calls" "I") (List.mem_of_getElem? (i := 4) rfl)) (fun _ h9 => h9) rfl dX5_call_135 ?_
            refine lv_iconst (v := 1) hx hb dX5_call_138 (by decide) ?_
            refine lv_isub hx hb dX5_call_139 ?_
            refine x_topi (y := nI n) (nI_pred n) ?_
            exact W.iret hx hb hr (fun t ht hW => ⟨⟨_, (), rfl, rfl, by rw [ht]; exact hP, by exact hD⟩, hS.F ht⟩) hS.2.2 dX5_call_140
          · exact absurd (hr51.symm.trans c54) hg.2.2.2.2
set_option maxHeartbeats 4000000 in
set_option maxRecDepth 100000 in
theorem m_call_full (l : Launch) (D : va_G) (cI cJ cZ : ClassId) (sz : Nat) (y d2 d3 d4 d5 d6 d7 d11 d12 d13 d14 d15 d16 d17 d18 d19 d20 d21 d22 d23 d24 d25 d26 d27 d28 d29 d30 d31 d32 d33 d34 d35 d36 d37 : Nat) (th ru rf hs : Int32) (mo ma mb mk mt : Nat → Int32) (xo xa_ xb_ xc xs : Int32) (hg : callG xo xa_ xb_ xc xs) : Met l yX5_call wsX5_call ({ frames := 1, cells := 0, slots := 0, locals := 22 }) (PcRW [.ref y, .int xo, .int xa_, .int xb_, .int xc, .int xs] sz D cI cJ cZ [(y, .inr (5, [.int th, .int (nI 40), .ref d2, .ref d3, .ref d4, .ref d5, .ref d6, .ref d7, .int ru, .int rf, .int hs, .ref d11, .ref d12, .ref d13, .ref d14, .ref d15, .ref d16, .ref d17, .ref d18, .ref d19, .ref d20, .ref d21, .ref d22, .ref d23, .ref d24, .ref d25, .ref d26, .ref d27, .ref d28, .ref d29, .ref d30, .ref d31, .ref d32, .ref d33, .ref d34, .ref d35, .ref d36, .ref d37])), (d2, .inl (cI, 40, .inl mo)), (d3, .inl (cI, 40, .inl ma)), (d4, .inl (cI, 40, .inl mb)), (d5, .inl (cI, 40, .inl mk)), (d6, .inl (cI, 40, .inl mt))]) (QcI (fun r => r = -4) D (va_A [(y, .inr (5, [.int th, .int (nI 40), .ref d2, .ref d3, .ref d4, .ref d5, .ref d6, .ref d7, .int ru, .int rf, .int hs, .ref d11, .ref d12, .ref d13, .ref d14, .ref d15, .ref d16, .ref d17, .ref d18, .ref d19, .ref d20, .ref d21, .ref d22, .ref d23, .ref d24, .ref d25, .ref d26, .ref d27, .ref d28, .ref d29, .ref d30, .ref d31, .ref d32, .ref d33, .ref d34, .ref d35, .ref d36, .ref d37])), (d2, .inl (cI, 40, .inl mo)), (d3, .inl (cI, 40, .inl ma)), (d4, .inl (cI, 40, .inl mb)), (d5, .inl (cI, 40, .inl mk)), (d6, .inl (cI, 40, .inl mt))] sz) [(y, .inr (5, [.int 0, .int (nI 40), .ref d2, .ref d3, .ref d4, .ref d5, .ref d6, .ref d7, .int ru, .int rf, .int hs, .ref d11, .ref d12, .ref d13, .ref d14, .ref d15, .ref d16, .ref d17, .ref d18, .ref d19, .ref d20, .ref d21, .ref d22, .ref d23, .ref d24, .ref d25, .ref d26, .ref d27, .ref d28, .ref d29, .ref d30, .ref d31, .ref d32, .ref d33, .ref d34, .ref d35, .ref d36, .ref d37])), (d2, .inl (cI, 40, .inl mo)), (d3, .inl (cI, 40, .inl ma)), (d4, .inl (cI, 40, .inl mb)), (d5, .inl (cI, 40, .inl mk)), (d6, .inl (cI, 40, .inl mt))]) 0 0 (va_A [(y, .inr (5, [.int th, .int (nI 40), .ref d2, .ref d3, .ref d4, .ref d5, .ref d6, .ref d7, .int ru, .int rf, .int hs, .ref d11, .ref d12, .ref d13, .ref d14, .ref d15, .ref d16, .ref d17, .ref d18, .ref d19, .ref d20, .ref d21, .ref d22, .ref d23, .ref d24, .ref d25, .ref d26, .ref d27, .ref d28, .ref d29, .ref d30, .ref d31, .ref d32, .ref d33, .ref d34, .ref d35, .ref d36, .ref d37])), (d2, .inl (cI, 40, .inl mo)), (d3, .inl (cI, 40, .inl ma)), (d4, .inl (cI, 40, .inl mb)), (d5, .inl (cI, 40, .inl mk)), (d6, .inl (cI, 40, .inl mt))] sz) := by
  refine Met.ofW (cc := cX5_call) (maxL := 6) (ret := some .int) (by decide) rfl ?_
  intro p e s m args below meth c s₁ B hml hv
  obtain ⟨rfl, hsz, hP, hE, hD0⟩ := hv
  have hx := B.exec
  have hb := B.bytes
  have hr := B.returns
  have hts := atoms_spec (ws := wsX5_call) B.pre
  have hown : s.vm.findClass RX5 = some m.cls := findClass_of_methodNamed B.named
  have hlocks := B.notSynchronized
  have hK := hE.1
  subst hsz
  have hD := hD0.self (sz := s.heap.size)
  generalize hAe : va_A [(y, .inr (5, [.int th, .int (nI 40), .ref d2, .ref d3, .ref d4, .ref d5, .ref d6, .ref d7, .int ru, .int rf, .int hs, .ref d11, .ref d12, .ref d13, .ref d14, .ref d15, .ref d16, .ref d17, .ref d18, .ref d19, .ref d20, .ref d21, .ref d22, .ref d23, .ref d24, .ref d25, .ref d26, .ref d27, .ref d28, .ref d29, .ref d30, .ref d31, .ref d32, .ref d33, .ref d34, .ref d35, .ref d36, .ref d37])), (d2, .inl (cI, 40, .inl mo)), (d3, .inl (cI, 40, .inl ma)), (d4, .inl (cI, 40, .inl mb)), (d5, .inl (cI, 40, .inl mk)), (d6, .inl (cI, 40, .inl mt))] s.heap.size = A at hD ⊢
  have hA : ∀ q : Nat, s.heap.size ≤ q → A q := fun q h => by rw [← hAe]; exact Or.inr h
  have hS : va_S A s.heap s.heap [] := va_S.rf
  have hl := lv_entry ([.ref y, .int xo, .int xa_, .int xb_, .int xc, .int xs]) (n := 6) (Nat.le_of_ble_eq_true rfl)
  rw [lg_entry_eq]
  generalize (lg_sl ([.ref y, .int xo, .int xa_, .int xb_, .int xc, .int xs]) ++ List.replicate (6 - (lg_sl ([.ref y, .int xo, .int xa_, .int xb_, .int xc, .int xs])).length) Slot.unset).toArray = ls at hl ⊢
  have hl : lv_has ls 6 [(0, .ref y), (1, .int xo), (2, .int xa_), (3, .int xb_), (4, .int xc), (5, .int xs)] := hl
  have hinX5 : ∀ w ∈ u_ws RX5 TX5 38, w ∈ wsX5_call := fun _ h => List.mem_cons_of_mem _ (List.mem_append_right _ h)
  refine lv_aload_n hx hb dX5_call_0 rfl (lv_at hl 0 rfl) ?_
  refine lv_iconst (v := 0) hx hb dX5_call_1 (by decide) ?_
  refine x_put (D := D) (ci := 5) (v := .int 0) (ty := .int) (C := RX5) (T := TX5) (N := 38) hx hb hts hinX5 tyX5 tyX5_ok nmX5 hown hK hP hD hS 0 rfl rfl 0 (by decide) (hts (.fieldLink RX5 115 "LedgerSharesModel" "thrown" "I") (List.mem_of_getElem? (i := 1) rfl)) rfl (by decide +kernel) (rfl) (rfl) (Nat.le_of_ble_eq_true rfl) (ws' := [(y, .inr (5, [.int 0, .int (nI 40), .ref d2, .ref d3, .ref d4, .ref d5, .ref d6, .ref d7, .int ru, .int rf, .int hs, .ref d11, .ref d12, .ref d13, .ref d14, .ref d15, .ref d16, .ref d17, .ref d18, .ref d19, .ref d20, .ref d21, .ref d22, .ref d23, .ref d24, .ref d25, .ref d26, .ref d27, .ref d28, .ref d29, .ref d30, .ref d31, .ref d32, .ref d33, .ref d34, .ref d35, .ref d36, .ref d37])), (d2, .inl (cI, 40, .inl mo)), (d3, .inl (cI, 40, .inl ma)), (d4, .inl (cI, 40, .inl mb)), (d5, .inl (cI, 40, .inl mk)), (d6, .inl (cI, 40, .inl mt))]) rfl dX5_call_2 (fun H locs hP hD hS => ?_)
  refine lv_iload_n hx hb dX5_call_5 rfl (lv_at hl 1 rfl) ?_
  refine lv_iconst (v := 0) hx hb dX5_call_6 (by decide) ?_
  refine lv_iconst (v := 5) hx hb dX5_call_7 (by decide) ?_
  refine vp_callSi (va_Run.run (va_runS (As := [.int xo, .int 0, .int 5]) (rest := []) ⟨hx, hb, hml, hown, hts⟩ (k_in l D cI cJ cZ xo 0 5) (cwS 3 hts gX5_call_X5_in rfl rfl rfl (by decide +kernel) ⟨Nat.le_of_ble_eq_true rfl, Nat.le_of_ble_eq_true rfl⟩) ⟨bl_ro, fun U hU hW => ⟨rfl, by rw [hU]; exact (hP.sub (ws' := []) [] rfl), hE.warm2 hW⟩⟩ rfl rfl hl.1 rfl (lv_room (Nat.le_of_ble_eq_true rfl)) dX5_call_8 ⟨Nat.zero_le _, Nat.zero_le _⟩)) (fun r8 hr8 => ?_)
  refine lv_if_eq (tgt := 57) hx hb dX5_call_11 (by decide) (fun c11 => ?_) (fun c11 => ?_)
  · exact absurd (hr8.symm.trans c11) hg.1
  · refine lv_iload_n hx hb dX5_call_14 rfl (lv_at hl 2 rfl) ?_
    refine lv_iconst (v := 0) hx hb dX5_call_15 (by decide) ?_
    refine lv_bipush (v := 7) hx hb dX5_call_16 (by decide) ?_
    refine vp_callSi (va_Run.run (va_runS (As := [.int xa_, .int 0, .int 7]) (rest := []) ⟨hx, hb, hml, hown, hts⟩ (k_in l D cI cJ cZ xa_ 0 7) (cwS 3 hts gX5_call_X5_in rfl rfl rfl (by decide +kernel) ⟨Nat.le_of_ble_eq_true rfl, Nat.le_of_ble_eq_true rfl⟩) ⟨bl_ro, fun U hU hW => ⟨rfl, by rw [hU]; exact (hP.sub (ws' := []) [] rfl), hE.warm2 hW⟩⟩ rfl rfl hl.1 rfl (lv_room (Nat.le_of_ble_eq_true rfl)) dX5_call_18 ⟨Nat.zero_le _, Nat.zero_le _⟩)) (fun r18 hr18 => ?_)
    refine lv_if_eq (tgt := 57) hx hb dX5_call_21 (by decide) (fun c21 => ?_) (fun c21 => ?_)
    · exact absurd (hr18.symm.trans c21) hg.2.1
    · refine lv_iload_n hx hb dX5_call_24 rfl (lv_at hl 3 rfl) ?_
      refine lv_iconst (v := 0) hx hb dX5_call_25 (by decide) ?_
      refine lv_bipush (v := 7) hx hb dX5_call_26 (by decide) ?_
      refine vp_callSi (va_Run.run (va_runS (As := [.int xb_, .int 0, .int 7]) (rest := []) ⟨hx, hb, hml, hown, hts⟩ (k_in l D cI cJ cZ xb_ 0 7) (cwS 3 hts gX5_call_X5_in rfl rfl rfl (by decide +kernel) ⟨Nat.le_of_ble_eq_true rfl, Nat.le_of_ble_eq_true rfl⟩) ⟨bl_ro, fun U hU hW => ⟨rfl, by rw [hU]; exact (hP.sub (ws' := []) [] rfl), hE.warm2 hW⟩⟩ rfl rfl hl.1 rfl (lv_room (Nat.le_of_ble_eq_true rfl)) dX5_call_28 ⟨Nat.zero_le _, Nat.zero_le _⟩)) (fun r28 hr28 => ?_)
      refine lv_if_eq (tgt := 57) hx hb dX5_call_31 (by decide) (fun c31 => ?_) (fun c31 => ?_)
      · exact absurd (hr28.symm.trans c31) hg.2.2.1
      · refine lv_iload hx hb dX5_call_34 (lv_at hl 4 rfl) ?_
        refine lv_ldc hx hb hown (hts (.constant RX5 123 (-1000000)) (List.mem_of_getElem? (i := 2) rfl)) dX5_call_36 ?_
        refine lv_ldc hx hb hown (hts (.constant RX5 124 (1000000)) (List.mem_of_getElem? (i := 3) rfl)) dX5_call_38 ?_
        refine vp_callSi (va_Run.run (va_runS (As := [.int xc, .int ((-1000000)), .int 1000000]) (rest := []) ⟨hx, hb, hml, hown, hts⟩ (k_in l D cI cJ cZ xc ((-1000000)) 1000000) (cwS 3 hts gX5_call_X5_in rfl rfl rfl (by decide +kernel) ⟨Nat.le_of_ble_eq_true rfl, Nat.le_of_ble_eq_true rfl⟩) ⟨bl_ro, fun U hU hW => ⟨rfl, by rw [hU]; exact (hP.sub (ws' := []) [] rfl), hE.warm2 hW⟩⟩ rfl rfl hl.1 rfl (lv_room (Nat.le_of_ble_eq_true rfl)) dX5_call_40 ⟨Nat.zero_le _, Nat.zero_le _⟩)) (fun r40 hr40 => ?_)
        refine lv_if_eq (tgt := 57) hx hb dX5_call_43 (by decide) (fun c43 => ?_) (fun c43 => ?_)
        · exact absurd (hr40.symm.trans c43) hg.2.2.2.1
        · refine lv_iload hx hb dX5_call_46 (lv_at hl 5 rfl) ?_
          refine lv_iconst (v := 1) hx hb dX5_call_48 (by decide) ?_
          refine lv_bipush (v := 9) hx hb dX5_call_49 (by decide) ?_
          refine vp_callSi (va_Run.run (va_runS (As := [.int xs, .int 1, .int 9]) (rest := []) ⟨hx, hb, hml, hown, hts⟩ (k_in l D cI cJ cZ xs 1 9) (cwS 3 hts gX5_call_X5_in rfl rfl rfl (by decide +kernel) ⟨Nat.le_of_ble_eq_true rfl, Nat.le_of_ble_eq_true rfl⟩) ⟨bl_ro, fun U hU hW => ⟨rfl, by rw [hU]; exact (hP.sub (ws' := []) [] rfl), hE.warm2 hW⟩⟩ rfl rfl hl.1 rfl (lv_room (Nat.le_of_ble_eq_true rfl)) dX5_call_51 ⟨Nat.zero_le _, Nat.zero_le _⟩)) (fun r51 hr51 => ?_)
          refine lv_if_ne (tgt := 60) hx hb dX5_call_54 (by decide) (fun c54 => ?_) (fun c54 => ?_)
          · refine lv_aload_n hx hb dX5_call_60 rfl (lv_at hl 0 rfl) ?_
            refine va_get (D := D) (ci := 5) (v := .int (nI 40)) (C := RX5) (T := TX5) (N := 38) hx hb hts hinX5 hown hK hP 0 rfl rfl 1 (by decide) (hts (.fieldLink RX5 125 "LedgerSharesModel" "calls" "I") (List.mem_of_getElem? (i := 4) rfl)) (fun _ h9 => h9) rfl dX5_call_61 ?_
            refine lv_bipush (v := 40) hx hb dX5_call_64 (by decide) ?_
            refine lv_icmp_ne (tgt := 72) hx hb dX5_call_66 (by decide) (fun c66 => absurd rfl c66) (fun c66 => ?_)
            refine lv_bipush (v := (-4)) hx hb dX5_call_69 (by decide) ?_
            exact W.iret hx hb hr (fun t ht hW => ⟨⟨_, (), rfl, rfl, by rw [ht]; exact hP, by exact hD⟩, hS.F ht⟩) hS.2.2 dX5_call_71
          · exact absurd (hr51.symm.trans c54) hg.2.2.2.2
set_option maxHeartbeats 4000000 in
set_option maxRecDepth 100000 in
theorem m_clear (l : Launch) (D : va_G) (cI cJ cZ : ClassId) (sz : Nat) (y d2 d3 d4 d5 d6 d7 d11 d12 d13 d14 d15 d16 d17 d18 d19 d20 d21 d22 d23 d24 d25 d26 d27 d28 d29 d30 d31 d32 d33 d34 d35 d36 d37 : Nat) (th ru rf hs : Int32) (n : Nat) : Met l yX5_clear wsX5_clear ({ frames := 0, cells := 0, slots := 0, locals := 0 }) (PcRW [.ref y] sz D cI cJ cZ [(y, .inr (5, [.int th, .int (nI n), .ref d2, .ref d3, .ref d4, .ref d5, .ref d6, .ref d7, .int ru, .int rf, .int hs, .ref d11, .ref d12, .ref d13, .ref d14, .ref d15, .ref d16, .ref d17, .ref d18, .ref d19, .ref d20, .ref d21, .ref d22, .ref d23, .ref d24, .ref d25, .ref d26, .ref d27, .ref d28, .ref d29, .ref d30, .ref d31, .ref d32, .ref d33, .ref d34, .ref d35, .ref d36, .ref d37]))]) (QcI (fun r => r = nI n) D (va_A [(y, .inr (5, [.int th, .int (nI n), .ref d2, .ref d3, .ref d4, .ref d5, .ref d6, .ref d7, .int ru, .int rf, .int hs, .ref d11, .ref d12, .ref d13, .ref d14, .ref d15, .ref d16, .ref d17, .ref d18, .ref d19, .ref d20, .ref d21, .ref d22, .ref d23, .ref d24, .ref d25, .ref d26, .ref d27, .ref d28, .ref d29, .ref d30, .ref d31, .ref d32, .ref d33, .ref d34, .ref d35, .ref d36, .ref d37]))] sz) [(y, .inr (5, [.int 0, .int 0, .ref d2, .ref d3, .ref d4, .ref d5, .ref d6, .ref d7, .int ru, .int rf, .int 0, .ref d11, .ref d12, .ref d13, .ref d14, .ref d15, .ref d16, .ref d17, .ref d18, .ref d19, .ref d20, .ref d21, .ref d22, .ref d23, .ref d24, .ref d25, .ref d26, .ref d27, .ref d28, .ref d29, .ref d30, .ref d31, .ref d32, .ref d33, .ref d34, .ref d35, .ref d36, .ref d37]))]) 0 0 (va_A [(y, .inr (5, [.int th, .int (nI n), .ref d2, .ref d3, .ref d4, .ref d5, .ref d6, .ref d7, .int ru, .int rf, .int hs, .ref d11, .ref d12, .ref d13, .ref d14, .ref d15, .ref d16, .ref d17, .ref d18, .ref d19, .ref d20, .ref d21, .ref d22, .ref d23, .ref d24, .ref d25, .ref d26, .ref d27, .ref d28, .ref d29, .ref d30, .ref d31, .ref d32, .ref d33, .ref d34, .ref d35, .ref d36, .ref d37]))] sz) := by
  refine Met.ofW (cc := cX5_clear) (maxL := 2) (ret := some .int) (by decide) rfl ?_
  intro p e s m args below meth c s₁ B hml hv
  obtain ⟨rfl, hsz, hP, hE, hD0⟩ := hv
  have hx := B.exec
  have hb := B.bytes
  have hr := B.returns
  have hts := atoms_spec (ws := wsX5_clear) B.pre
  have hown : s.vm.findClass RX5 = some m.cls := findClass_of_methodNamed B.named
  have hlocks := B.notSynchronized
  have hK := hE.1
  subst hsz
  have hD := hD0.self (sz := s.heap.size)
  generalize hAe : va_A [(y, .inr (5, [.int th, .int (nI n), .ref d2, .ref d3, .ref d4, .ref d5, .ref d6, .ref d7, .int ru, .int rf, .int hs, .ref d11, .ref d12, .ref d13, .ref d14, .ref d15, .ref d16, .ref d17, .ref d18, .ref d19, .ref d20, .ref d21, .ref d22, .ref d23, .ref d24, .ref d25, .ref d26, .ref d27, .ref d28, .ref d29, .ref d30, .ref d31, .ref d32, .ref d33, .ref d34, .ref d35, .ref d36, .ref d37]))] s.heap.size = A at hD ⊢
  have hA : ∀ q : Nat, s.heap.size ≤ q → A q := fun q h => by rw [← hAe]; exact Or.inr h
  have hS : va_S A s.heap s.heap [] := va_S.rf
  have hl := lv_entry ([.ref y]) (n := 2) (Nat.le_of_ble_eq_true rfl)
  rw [lg_entry_eq]
  generalize (lg_sl ([.ref y]) ++ List.replicate (2 - (lg_sl ([.ref y])).length) Slot.unset).toArray = ls at hl ⊢
  have hl : lv_has ls 2 [(0, .ref y)] := hl
  have hinX5 : ∀ w ∈ u_ws RX5 TX5 38, w ∈ wsX5_clear := fun _ h => List.mem_cons_of_mem _ (List.mem_append_right _ h)
  refine lv_aload_n hx hb dX5_clear_0 rfl (lv_at hl 0 rfl) ?_
  refine lv_iconst (v := 0) hx hb dX5_clear_1 (by decide) ?_
  refine x_put (D := D) (ci := 5) (v := .int 0) (ty := .int) (C := RX5) (T := TX5) (N := 38) hx hb hts hinX5 tyX5 tyX5_ok nmX5 hown hK hP hD hS 0 rfl rfl 0 (by decide) (hts (.fieldLink RX5 115 "LedgerSharesModel" "thrown" "I") (List.mem_of_getElem? (i := 1) rfl)) rfl (by decide +kernel) (rfl) (rfl) (Nat.le_of_ble_eq_true rfl) (ws' := [(y, .inr (5, [.int 0, .int (nI n), .ref d2, .ref d3, .ref d4, .ref d5, .ref d6, .ref d7, .int ru, .int rf, .int hs, .ref d11, .ref d12, .ref d13, .ref d14, .ref d15, .ref d16, .ref d17, .ref d18, .ref d19, .ref d20, .ref d21, .ref d22, .ref d23, .ref d24, .ref d25, .ref d26, .ref d27, .ref d28, .ref d29, .ref d30, .ref d31, .ref d32, .ref d33, .ref d34, .ref d35, .ref d36, .ref d37]))]) rfl dX5_clear_2 (fun H locs hP hD hS => ?_)
  refine lv_aload_n hx hb dX5_clear_5 rfl (lv_at hl 0 rfl) ?_
  refine va_get (D := D) (ci := 5) (v := .int (nI n)) (C := RX5) (T := TX5) (N := 38) hx hb hts hinX5 hown hK hP 0 rfl rfl 1 (by decide) (hts (.fieldLink RX5 125 "LedgerSharesModel" "calls" "I") (List.mem_of_getElem? (i := 2) rfl)) (fun _ h9 => h9) rfl dX5_clear_6 ?_
  refine lv_istore_n (lv' := [(1, .int (nI n)), (0, .ref y)]) hx hb dX5_clear_9 rfl hl (by decide) rfl (fun ls hl => ?_)
  refine lv_aload_n hx hb dX5_clear_10 rfl (lv_at hl 1 rfl) ?_
  refine lv_iconst (v := 0) hx hb dX5_clear_11 (by decide) ?_
  refine x_put (D := D) (ci := 5) (v := .int 0) (ty := .int) (C := RX5) (T := TX5) (N := 38) hx hb hts hinX5 tyX5 tyX5_ok nmX5 hown hK hP hD hS 0 rfl rfl 1 (by decide) (hts (.fieldLink RX5 125 "LedgerSharesModel" "calls" "I") (List.mem_of_getElem? (i := 2) rfl)) rfl (by decide +kernel) (rfl) (rfl) (Nat.le_of_ble_eq_true rfl) (ws' := [(y, .inr (5, [.int 0, .int 0, .ref d2, .ref d3, .ref d4, .ref d5, .ref d6, .ref d7, .int ru, .int rf, .int hs, .ref d11, .ref d12, .ref d13, .ref d14, .ref d15, .ref d16, .ref d17, .ref d18, .ref d19, .ref d20, .ref d21, .ref d22, .ref d23, .ref d24, .ref d25, .ref d26, .ref d27, .ref d28, .ref d29, .ref d30, .ref d31, .ref d32, .ref d33, .ref d34, .ref d35, .ref d36, .ref d37]))]) rfl dX5_clear_12 (fun H locs hP hD hS => ?_)
  refine lv_aload_n hx hb dX5_clear_15 rfl (lv_at hl 1 rfl) ?_
  refine lv_iconst (v := 0) hx hb dX5_clear_16 (by decide) ?_
  refine x_put (D := D) (ci := 5) (v := .int 0) (ty := .boolean) (C := RX5) (T := TX5) (N := 38) hx hb hts hinX5 tyX5 tyX5_ok nmX5 hown hK hP hD hS 0 rfl rfl 10 (by decide) (hts (.fieldLink RX5 111 "LedgerSharesModel" "has" "Z") (List.mem_of_getElem? (i := 3) rfl)) rfl (by decide +kernel) (by decide) (by decide) (Nat.le_of_ble_eq_true rfl) (ws' := [(y, .inr (5, [.int 0, .int 0, .ref d2, .ref d3, .ref d4, .ref d5, .ref d6, .ref d7, .int ru, .int rf, .int 0, .ref d11, .ref d12, .ref d13, .ref d14, .ref d15, .ref d16, .ref d17, .ref d18, .ref d19, .ref d20, .ref d21, .ref d22, .ref d23, .ref d24, .ref d25, .ref d26, .ref d27, .ref d28, .ref d29, .ref d30, .ref d31, .ref d32, .ref d33, .ref d34, .ref d35, .ref d36, .ref d37]))]) rfl dX5_clear_17 (fun H locs hP hD hS => ?_)
  refine lv_iload_n hx hb dX5_clear_20 rfl (lv_at hl 0 rfl) ?_
  exact W.iret hx hb hr (fun t ht hW => ⟨⟨_, (), rfl, rfl, by rw [ht]; exact hP, by exact hD⟩, hS.F ht⟩) hS.2.2 dX5_clear_21
set_option maxHeartbeats 4000000 in
set_option maxRecDepth 100000 in
theorem m_gone_bad (l : Launch) (D : va_G) (cI cJ cZ : ClassId) (sz : Nat) (y d2 d3 d4 d5 d6 d7 d11 d12 d13 d14 d15 d16 d17 d18 d19 d20 d21 d22 d23 d24 d25 d26 d27 d28 d29 d30 d31 d32 d33 d34 d35 d36 d37 : Nat) (th ru rf hs : Int32) (mg : Nat → Int32) (n : Nat) (w v : Int32) (hg : ¬ (¬ wi w 0 15 = 0 ∧ ¬ wi v 0 99 = 0)) : Met l yX5_gone wsX5_gone ({ frames := 1, cells := 0, slots := 0, locals := 22 }) (PcRW [.ref y, .int w, .int v] sz D cI cJ cZ [(y, .inr (5, [.int th, .int (nI n), .ref d2, .ref d3, .ref d4, .ref d5, .ref d6, .ref d7, .int ru, .int rf, .int hs, .ref d11, .ref d12, .ref d13, .ref d14, .ref d15, .ref d16, .ref d17, .ref d18, .ref d19, .ref d20, .ref d21, .ref d22, .ref d23, .ref d24, .ref d25, .ref d26, .ref d27, .ref d28, .ref d29, .ref d30, .ref d31, .ref d32, .ref d33, .ref d34, .ref d35, .ref d36, .ref d37])), (d7, .inl (cI, 16, .inl mg))]) (QcI (fun r => r = -2) D (va_A [(y, .inr (5, [.int th, .int (nI n), .ref d2, .ref d3, .ref d4, .ref d5, .ref d6, .ref d7, .int ru, .int rf, .int hs, .ref d11, .ref d12, .ref d13, .ref d14, .ref d15, .ref d16, .ref d17, .ref d18, .ref d19, .ref d20, .ref d21, .ref d22, .ref d23, .ref d24, .ref d25, .ref d26, .ref d27, .ref d28, .ref d29, .ref d30, .ref d31, .ref d32, .ref d33, .ref d34, .ref d35, .ref d36, .ref d37])), (d7, .inl (cI, 16, .inl mg))] sz) [(y, .inr (5, [.int 0, .int (nI n), .ref d2, .ref d3, .ref d4, .ref d5, .ref d6, .ref d7, .int ru, .int rf, .int hs, .ref d11, .ref d12, .ref d13, .ref d14, .ref d15, .ref d16, .ref d17, .ref d18, .ref d19, .ref d20, .ref d21, .ref d22, .ref d23, .ref d24, .ref d25, .ref d26, .ref d27, .ref d28, .ref d29, .ref d30, .ref d31, .ref d32, .ref d33, .ref d34, .ref d35, .ref d36, .ref d37])), (d7, .inl (cI, 16, .inl mg))]) 0 0 (va_A [(y, .inr (5, [.int th, .int (nI n), .ref d2, .ref d3, .ref d4, .ref d5, .ref d6, .ref d7, .int ru, .int rf, .int hs, .ref d11, .ref d12, .ref d13, .ref d14, .ref d15, .ref d16, .ref d17, .ref d18, .ref d19, .ref d20, .ref d21, .ref d22, .ref d23, .ref d24, .ref d25, .ref d26, .ref d27, .ref d28, .ref d29, .ref d30, .ref d31, .ref d32, .ref d33, .ref d34, .ref d35, .ref d36, .ref d37])), (d7, .inl (cI, 16, .inl mg))] sz) := by
  refine Met.ofW (cc := cX5_gone) (maxL := 4) (ret := some .int) (by decide) rfl ?_
  intro p e s m args below meth c s₁ B hml hv
  obtain ⟨rfl, hsz, hP, hE, hD0⟩ := hv
  have hx := B.exec
  have hb := B.bytes
  have hr := B.returns
  have hts := atoms_spec (ws := wsX5_gone) B.pre
  have hown : s.vm.findClass RX5 = some m.cls := findClass_of_methodNamed B.named
  have hlocks := B.notSynchronized
  have hK := hE.1
  subst hsz
  have hD := hD0.self (sz := s.heap.size)
  generalize hAe : va_A [(y, .inr (5, [.int th, .int (nI n), .ref d2, .ref d3, .ref d4, .ref d5, .ref d6, .ref d7, .int ru, .int rf, .int hs, .ref d11, .ref d12, .ref d13, .ref d14, .ref d15, .ref d16, .ref d17, .ref d18, .ref d19, .ref d20, .ref d21, .ref d22, .ref d23, .ref d24, .ref d25, .ref d26, .ref d27, .ref d28, .ref d29, .ref d30, .ref d31, .ref d32, .ref d33, .ref d34, .ref d35, .ref d36, .ref d37])), (d7, .inl (cI, 16, .inl mg))] s.heap.size = A at hD ⊢
  have hA : ∀ q : Nat, s.heap.size ≤ q → A q := fun q h => by rw [← hAe]; exact Or.inr h
  have hS : va_S A s.heap s.heap [] := va_S.rf
  have hl := lv_entry ([.ref y, .int w, .int v]) (n := 4) (Nat.le_of_ble_eq_true rfl)
  rw [lg_entry_eq]
  generalize (lg_sl ([.ref y, .int w, .int v]) ++ List.replicate (4 - (lg_sl ([.ref y, .int w, .int v])).length) Slot.unset).toArray = ls at hl ⊢
  have hl : lv_has ls 4 [(0, .ref y), (1, .int w), (2, .int v)] := hl
  have hinX5 : ∀ w ∈ u_ws RX5 TX5 38, w ∈ wsX5_gone := fun _ h => List.mem_cons_of_mem _ (List.mem_append_right _ h)
  refine lv_aload_n hx hb dX5_gone_0 rfl (lv_at hl 0 rfl) ?_
  refine lv_iconst (v := 0) hx hb dX5_gone_1 (by decide) ?_
  refine x_put (D := D) (ci := 5) (v := .int 0) (ty := .int) (C := RX5) (T := TX5) (N := 38) hx hb hts hinX5 tyX5 tyX5_ok nmX5 hown hK hP hD hS 0 rfl rfl 0 (by decide) (hts (.fieldLink RX5 115 "LedgerSharesModel" "thrown" "I") (List.mem_of_getElem? (i := 1) rfl)) rfl (by decide +kernel) (rfl) (rfl) (Nat.le_of_ble_eq_true rfl) (ws' := [(y, .inr (5, [.int 0, .int (nI n), .ref d2, .ref d3, .ref d4, .ref d5, .ref d6, .ref d7, .int ru, .int rf, .int hs, .ref d11, .ref d12, .ref d13, .ref d14, .ref d15, .ref d16, .ref d17, .ref d18, .ref d19, .ref d20, .ref d21, .ref d22, .ref d23, .ref d24, .ref d25, .ref d26, .ref d27, .ref d28, .ref d29, .ref d30, .ref d31, .ref d32, .ref d33, .ref d34, .ref d35, .ref d36, .ref d37])), (d7, .inl (cI, 16, .inl mg))]) rfl dX5_gone_2 (fun H locs hP hD hS => ?_)
  refine lv_iload_n hx hb dX5_gone_5 rfl (lv_at hl 1 rfl) ?_
  refine lv_iconst (v := 0) hx hb dX5_gone_6 (by decide) ?_
  refine lv_bipush (v := 15) hx hb dX5_gone_7 (by decide) ?_
  refine vp_callSi (va_Run.run (va_runS (As := [.int w, .int 0, .int 15]) (rest := []) ⟨hx, hb, hml, hown, hts⟩ (k_in l D cI cJ cZ w 0 15) (cwS 3 hts gX5_gone_X5_in rfl rfl rfl (by decide +kernel) ⟨Nat.le_of_ble_eq_true rfl, Nat.le_of_ble_eq_true rfl⟩) ⟨bl_ro, fun U hU hW => ⟨rfl, by rw [hU]; exact (hP.sub (ws' := []) [] rfl), hE.warm2 hW⟩⟩ rfl rfl hl.1 rfl (lv_room (Nat.le_of_ble_eq_true rfl)) dX5_gone_9 ⟨Nat.zero_le _, Nat.zero_le _⟩)) (fun r9 hr9 => ?_)
  refine lv_if_eq (tgt := 25) hx hb dX5_gone_12 (by decide) (fun c12 => ?_) (fun c12 => ?_)
  · refine lv_bipush (v := (-2)) hx hb dX5_gone_25 (by decide) ?_
    exact W.iret hx hb hr (fun t ht hW => ⟨⟨_, (), rfl, rfl, by rw [ht]; exact hP, by exact hD⟩, hS.F ht⟩) hS.2.2 dX5_gone_27
  · refine lv_iload_n hx hb dX5_gone_15 rfl (lv_at hl 2 rfl) ?_
    refine lv_iconst (v := 0) hx hb dX5_gone_16 (by decide) ?_
    refine lv_bipush (v := 99) hx hb dX5_gone_17 (by decide) ?_
    refine vp_callSi (va_Run.run (va_runS (As := [.int v, .int 0, .int 99]) (rest := []) ⟨hx, hb, hml, hown, hts⟩ (k_in l D cI cJ cZ v 0 99) (cwS 3 hts gX5_gone_X5_in rfl rfl rfl (by decide +kernel) ⟨Nat.le_of_ble_eq_true rfl, Nat.le_of_ble_eq_true rfl⟩) ⟨bl_ro, fun U hU hW => ⟨rfl, by rw [hU]; exact (hP.sub (ws' := []) [] rfl), hE.warm2 hW⟩⟩ rfl rfl hl.1 rfl (lv_room (Nat.le_of_ble_eq_true rfl)) dX5_gone_19 ⟨Nat.zero_le _, Nat.zero_le _⟩)) (fun r19 hr19 => ?_)
    refine lv_if_ne (tgt := 28) hx hb dX5_gone_22 (by decide) (fun c22 => ?_) (fun c22 => ?_)
    · exact absurd ⟨fun z => c12 (hr9.trans z), fun z => c22 (hr19.trans z)⟩ hg
    · refine lv_bipush (v := (-2)) hx hb dX5_gone_25 (by decide) ?_
      exact W.iret hx hb hr (fun t ht hW => ⟨⟨_, (), rfl, rfl, by rw [ht]; exact hP, by exact hD⟩, hS.F ht⟩) hS.2.2 dX5_gone_27
set_option maxHeartbeats 4000000 in
set_option maxRecDepth 100000 in
theorem m_gone_ok (l : Launch) (D : va_G) (cI cJ cZ : ClassId) (sz : Nat) (y d2 d3 d4 d5 d6 d7 d11 d12 d13 d14 d15 d16 d17 d18 d19 d20 d21 d22 d23 d24 d25 d26 d27 d28 d29 d30 d31 d32 d33 d34 d35 d36 d37 : Nat) (th ru rf hs : Int32) (mg : Nat → Int32) (n : Nat) (w : Nat) (hw : w < 16) (v : Int32) (hg : ¬ wi (nI w) 0 15 = 0 ∧ ¬ wi v 0 99 = 0) : Met l yX5_gone wsX5_gone ({ frames := 1, cells := 0, slots := 0, locals := 22 }) (PcRW [.ref y, .int (nI w), .int v] sz D cI cJ cZ [(y, .inr (5, [.int th, .int (nI n), .ref d2, .ref d3, .ref d4, .ref d5, .ref d6, .ref d7, .int ru, .int rf, .int hs, .ref d11, .ref d12, .ref d13, .ref d14, .ref d15, .ref d16, .ref d17, .ref d18, .ref d19, .ref d20, .ref d21, .ref d22, .ref d23, .ref d24, .ref d25, .ref d26, .ref d27, .ref d28, .ref d29, .ref d30, .ref d31, .ref d32, .ref d33, .ref d34, .ref d35, .ref d36, .ref d37])), (d7, .inl (cI, 16, .inl mg))]) (QcI (fun r => r = mg w) D (va_A [(y, .inr (5, [.int th, .int (nI n), .ref d2, .ref d3, .ref d4, .ref d5, .ref d6, .ref d7, .int ru, .int rf, .int hs, .ref d11, .ref d12, .ref d13, .ref d14, .ref d15, .ref d16, .ref d17, .ref d18, .ref d19, .ref d20, .ref d21, .ref d22, .ref d23, .ref d24, .ref d25, .ref d26, .ref d27, .ref d28, .ref d29, .ref d30, .ref d31, .ref d32, .ref d33, .ref d34, .ref d35, .ref d36, .ref d37])), (d7, .inl (cI, 16, .inl mg))] sz) [(y, .inr (5, [.int 0, .int (nI n), .ref d2, .ref d3, .ref d4, .ref d5, .ref d6, .ref d7, .int ru, .int rf, .int hs, .ref d11, .ref d12, .ref d13, .ref d14, .ref d15, .ref d16, .ref d17, .ref d18, .ref d19, .ref d20, .ref d21, .ref d22, .ref d23, .ref d24, .ref d25, .ref d26, .ref d27, .ref d28, .ref d29, .ref d30, .ref d31, .ref d32, .ref d33, .ref d34, .ref d35, .ref d36, .ref d37])), (d7, .inl (cI, 16, .inl (upd mg w v)))]) 0 0 (va_A [(y, .inr (5, [.int th, .int (nI n), .ref d2, .ref d3, .ref d4, .ref d5, .ref d6, .ref d7, .int ru, .int rf, .int hs, .ref d11, .ref d12, .ref d13, .ref d14, .ref d15, .ref d16, .ref d17, .ref d18, .ref d19, .ref d20, .ref d21, .ref d22, .ref d23, .ref d24, .ref d25, .ref d26, .ref d27, .ref d28, .ref d29, .ref d30, .ref d31, .ref d32, .ref d33, .ref d34, .ref d35, .ref d36, .ref d37])), (d7, .inl (cI, 16, .inl mg))] sz) := by
  refine Met.ofW (cc := cX5_gone) (maxL := 4) (ret := some .int) (by decide) rfl ?_
  intro p e s m args below meth c s₁ B hml hv
  obtain ⟨rfl, hsz, hP, hE, hD0⟩ := hv
  have hx := B.exec
  have hb := B.bytes
  have hr := B.returns
  have hts := atoms_spec (ws := wsX5_gone) B.pre
  have hown : s.vm.findClass RX5 = some m.cls := findClass_of_methodNamed B.named
  have hlocks := B.notSynchronized
  have hK := hE.1
  subst hsz
  have hD := hD0.self (sz := s.heap.size)
  generalize hAe : va_A [(y, .inr (5, [.int th, .int (nI n), .ref d2, .ref d3, .ref d4, .ref d5, .ref d6, .ref d7, .int ru, .int rf, .int hs, .ref d11, .ref d12, .ref d13, .ref d14, .ref d15, .ref d16, .ref d17, .ref d18, .ref d19, .ref d20, .ref d21, .ref d22, .ref d23, .ref d24, .ref d25, .ref d26, .ref d27, .ref d28, .ref d29, .ref d30, .ref d31, .ref d32, .ref d33, .ref d34, .ref d35, .ref d36, .ref d37])), (d7, .inl (cI, 16, .inl mg))] s.heap.size = A at hD ⊢
  have hA : ∀ q : Nat, s.heap.size ≤ q → A q := fun q h => by rw [← hAe]; exact Or.inr h
  have hS : va_S A s.heap s.heap [] := va_S.rf
  have hl := lv_entry ([.ref y, .int (nI w), .int v]) (n := 4) (Nat.le_of_ble_eq_true rfl)
  rw [lg_entry_eq]
  generalize (lg_sl ([.ref y, .int (nI w), .int v]) ++ List.replicate (4 - (lg_sl ([.ref y, .int (nI w), .int v])).length) Slot.unset).toArray = ls at hl ⊢
  have hl : lv_has ls 4 [(0, .ref y), (1, .int (nI w)), (2, .int v)] := hl
  have hinX5 : ∀ w ∈ u_ws RX5 TX5 38, w ∈ wsX5_gone := fun _ h => List.mem_cons_of_mem _ (List.mem_append_right _ h)
  refine lv_aload_n hx hb dX5_gone_0 rfl (lv_at hl 0 rfl) ?_
  refine lv_iconst (v := 0) hx hb dX5_gone_1 (by decide) ?_
  refine x_put (D := D) (ci := 5) (v := .int 0) (ty := .int) (C := RX5) (T := TX5) (N := 38) hx hb hts hinX5 tyX5 tyX5_ok nmX5 hown hK hP hD hS 0 rfl rfl 0 (by decide) (hts (.fieldLink RX5 115 "LedgerSharesModel" "thrown" "I") (List.mem_of_getElem? (i := 1) rfl)) rfl (by decide +kernel) (rfl) (rfl) (Nat.le_of_ble_eq_true rfl) (ws' := [(y, .inr (5, [.int 0, .int (nI n), .ref d2, .ref d3, .ref d4, .ref d5, .ref d6, .ref d7, .int ru, .int rf, .int hs, .ref d11, .ref d12, .ref d13, .ref d14, .ref d15, .ref d16, .ref d17, .ref d18, .ref d19, .ref d20, .ref d21, .ref d22, .ref d23, .ref d24, .ref d25, .ref d26, .ref d27, .ref d28, .ref d29, .ref d30, .ref d31, .ref d32, .ref d33, .ref d34, .ref d35, .ref d36, .ref d37])), (d7, .inl (cI, 16, .inl mg))]) rfl dX5_gone_2 (fun H locs hP hD hS => ?_)
  refine lv_iload_n hx hb dX5_gone_5 rfl (lv_at hl 1 rfl) ?_
  refine lv_iconst (v := 0) hx hb dX5_gone_6 (by decide) ?_
  refine lv_bipush (v := 15) hx hb dX5_gone_7 (by decide) ?_
  refine vp_callSi (va_Run.run (va_runS (As := [.int (nI w), .int 0, .int 15]) (rest := []) ⟨hx, hb, hml, hown, hts⟩ (k_in l D cI cJ cZ (nI w) 0 15) (cwS 3 hts gX5_gone_X5_in rfl rfl rfl (by decide +kernel) ⟨Nat.le_of_ble_eq_true rfl, Nat.le_of_ble_eq_true rfl⟩) ⟨bl_ro, fun U hU hW => ⟨rfl, by rw [hU]; exact (hP.sub (ws' := []) [] rfl), hE.warm2 hW⟩⟩ rfl rfl hl.1 rfl (lv_room (Nat.le_of_ble_eq_true rfl)) dX5_gone_9 ⟨Nat.zero_le _, Nat.zero_le _⟩)) (fun r9 hr9 => ?_)
  refine lv_if_eq (tgt := 25) hx hb dX5_gone_12 (by decide) (fun c12 => ?_) (fun c12 => ?_)
  · exact absurd (hr9.symm.trans c12) hg.1
  · refine lv_iload_n hx hb dX5_gone_15 rfl (lv_at hl 2 rfl) ?_
    refine lv_iconst (v := 0) hx hb dX5_gone_16 (by decide) ?_
    refine lv_bipush (v := 99) hx hb dX5_gone_17 (by decide) ?_
    refine vp_callSi (va_Run.run (va_runS (As := [.int v, .int 0, .int 99]) (rest := []) ⟨hx, hb, hml, hown, hts⟩ (k_in l D cI cJ cZ v 0 99) (cwS 3 hts gX5_gone_X5_in rfl rfl rfl (by decide +kernel) ⟨Nat.le_of_ble_eq_true rfl, Nat.le_of_ble_eq_true rfl⟩) ⟨bl_ro, fun U hU hW => ⟨rfl, by rw [hU]; exact (hP.sub (ws' := []) [] rfl), hE.warm2 hW⟩⟩ rfl rfl hl.1 rfl (lv_room (Nat.le_of_ble_eq_true rfl)) dX5_gone_19 ⟨Nat.zero_le _, Nat.zero_le _⟩)) (fun r19 hr19 => ?_)
    refine lv_if_ne (tgt := 28) hx hb dX5_gone_22 (by decide) (fun c22 => ?_) (fun c22 => ?_)
    · refine lv_aload_n hx hb dX5_gone_28 rfl (lv_at hl 0 rfl) ?_
      refine va_get (D := D) (ci := 5) (v := .ref d7) (C := RX5) (T := TX5) (N := 38) hx hb hts hinX5 hown hK hP 0 rfl rfl 7 (by decide) (hts (.fieldLink RX5 25 "LedgerSharesModel" "goneAt" "[I") (List.mem_of_getElem? (i := 2) rfl)) (fun _ h9 => h9) rfl dX5_gone_29 ?_
      refine lv_iload_n hx hb dX5_gone_32 rfl (lv_at hl 1 rfl) ?_
      refine x_iald hx hb hE hP 1 rfl (w) hw (by decide) (rfl) dX5_gone_33 ?_
      refine lv_istore_n (lv' := [(3, .int (mg w)), (0, .ref y), (1, .int (nI w)), (2, .int v)]) hx hb dX5_gone_34 rfl hl (by decide) rfl (fun ls hl => ?_)
      refine lv_aload_n hx hb dX5_gone_35 rfl (lv_at hl 1 rfl) ?_
      refine va_get (D := D) (ci := 5) (v := .ref d7) (C := RX5) (T := TX5) (N := 38) hx hb hts hinX5 hown hK hP 0 rfl rfl 7 (by decide) (hts (.fieldLink RX5 25 "LedgerSharesModel" "goneAt" "[I") (List.mem_of_getElem? (i := 2) rfl)) (fun _ h9 => h9) rfl dX5_gone_36 ?_
      refine lv_iload_n hx hb dX5_gone_39 rfl (lv_at hl 2 rfl) ?_
      refine lv_iload_n hx hb dX5_gone_40 rfl (lv_at hl 3 rfl) ?_
      refine x_iast hx hb hE hP hD hS 1 rfl (w) hw (by decide) (rfl) (ws' := [(y, .inr (5, [.int 0, .int (nI n), .ref d2, .ref d3, .ref d4, .ref d5, .ref d6, .ref d7, .int ru, .int rf, .int hs, .ref d11, .ref d12, .ref d13, .ref d14, .ref d15, .ref d16, .ref d17, .ref d18, .ref d19, .ref d20, .ref d21, .ref d22, .ref d23, .ref d24, .ref d25, .ref d26, .ref d27, .ref d28, .ref d29, .ref d30, .ref d31, .ref d32, .ref d33, .ref d34, .ref d35, .ref d36, .ref d37])), (d7, .inl (cI, 16, .inl (upd mg w v)))]) (rfl) dX5_gone_41 (fun H locs hP hD hS => ?_)
      refine lv_iload_n hx hb dX5_gone_42 rfl (lv_at hl 0 rfl) ?_
      exact W.iret hx hb hr (fun t ht hW => ⟨⟨_, (), rfl, rfl, by rw [ht]; exact hP, by exact hD⟩, hS.F ht⟩) hS.2.2 dX5_gone_43
    · exact absurd (hr19.symm.trans c22) hg.2
set_option maxHeartbeats 4000000 in
set_option maxRecDepth 100000 in
theorem m_reads (l : Launch) (D : va_G) (cI cJ cZ : ClassId) (y d2 d3 d4 d5 d6 d7 d11 d12 d13 d14 d15 d16 d17 d18 d19 d20 d21 d22 d23 d24 d25 d26 d27 d28 d29 d30 d31 d32 d33 d34 d35 d36 d37 : Nat) (th ru rf hs : Int32) (se ya ma yb mb : Nat → Int32) (za zb : Nat → Int64) (n : Nat) (key : Int32) (kc : Nat) (hkc : kc ≤ 40) : Met l yX5_reads wsX5_reads ({ frames := 0, cells := 0, slots := 0, locals := 0 }) (PcRO [.ref y, .int (nI kc), .int key] D cI cJ cZ [(y, .inr (5, [.int th, .int (nI n), .ref d2, .ref d3, .ref d4, .ref d5, .ref d6, .ref d7, .int ru, .int rf, .int hs, .ref d11, .ref d12, .ref d13, .ref d14, .ref d15, .ref d16, .ref d17, .ref d18, .ref d19, .ref d20, .ref d21, .ref d22, .ref d23, .ref d24, .ref d25, .ref d26, .ref d27, .ref d28, .ref d29, .ref d30, .ref d31, .ref d32, .ref d33, .ref d34, .ref d35, .ref d36, .ref d37])), (d19, .inl (cI, 40, .inl se)), (d27, .inl (cZ, 40, .inl ya)), (d3, .inl (cI, 40, .inl ma)), (d28, .inl (cZ, 40, .inl yb)), (d4, .inl (cI, 40, .inl mb)), (d29, .inl (cJ, 40, .inr (.inl za))), (d30, .inl (cJ, 40, .inr (.inl zb)))]) (vp_Sl (fun r => r = rds se ya ma yb mb za zb key kc)) 0 0 noF := by
  refine Met.ofW (cc := cX5_reads) (maxL := 4) (ret := some .long) (by decide) rfl ?_
  intro p e s m args below meth c s₁ B hml hv
  obtain ⟨rfl, hP, hE⟩ := hv
  have hx := B.exec
  have hb := B.bytes
  have hr := B.returns
  have hts := atoms_spec (ws := wsX5_reads) B.pre
  have hown : s.vm.findClass RX5 = some m.cls := findClass_of_methodNamed B.named
  have hlocks := B.notSynchronized
  have hK := hE.1
  have hl := lv_entry ([.ref y, .int (nI kc), .int key]) (n := 4) (Nat.le_of_ble_eq_true rfl)
  rw [lg_entry_eq]
  generalize (lg_sl ([.ref y, .int (nI kc), .int key]) ++ List.replicate (4 - (lg_sl ([.ref y, .int (nI kc), .int key])).length) Slot.unset).toArray = ls at hl ⊢
  have hl : lv_has ls 4 [(0, .ref y), (1, .int (nI kc)), (2, .int key)] := hl
  have hinX5 : ∀ w ∈ u_ws RX5 TX5 38, w ∈ wsX5_reads := fun _ h => List.mem_cons_of_mem _ (List.mem_append_right _ h)
  refine lv_iload_n hx hb dX5_reads_0 rfl (lv_at hl 1 rfl) ?_
  refine lv_iconst (v := 1) hx hb dX5_reads_1 (by decide) ?_
  refine lv_isub hx hb dX5_reads_2 ?_
  refine lv_istore_n (lv' := [(3, .int ((nI kc) - 1)), (0, .ref y), (1, .int (nI kc)), (2, .int key)]) hx hb dX5_reads_3 rfl hl (by decide) rfl (fun ls hl => ?_)
  have loop4 : ∀ (n : Nat) (j : Nat), (j ≤ 40) → (j < n) → (rds se ya ma yb mb za zb key kc = rds se ya ma yb mb za zb key j) → ∀ (ls : Array Slot), lv_has ls 4 [(3, .int (nI j - 1)), (0, .ref y), (1, .int (nI kc)), (2, .int key)] → W p l e (headSpec wsX5_reads ({ frames := 0, cells := 0, slots := 0, locals := 0 })).room s m ([.ref y, .int (nI kc), .int key].toArray) below meth c s.heap [] 0 0 (MQ below (vp_Sl (fun r => r = rds se ya ma yb mb za zb key kc)) ([.ref y, .int (nI kc), .int key].toArray) s 0 0 noF) (F0 m 4 ls []) := by
    intro n
    induction n with
    | zero =>
      intro j hj hf hinv
      exact absurd hf (by omega)
    | succ n ih4 =>
      intro j hj hf hinv ls hl
      refine lv_iload_n hx hb dX5_reads_4 rfl (lv_at hl 0 rfl) ?_
      refine lv_if_lt (tgt := 76) hx hb dX5_reads_5 (by decide) (fun c5 => ?_) (fun c5 => ?_)
      · refine lv_lconst (v := 0) hx hb dX5_reads_76 (by decide) ?_
        exact W.lret hx hb hr (fun t ht hW => ⟨_, rfl, by rw [hinv, x_zero_of (by omega) c5]; rfl, ht⟩) (fun q h => by cases h) dX5_reads_77
      · obtain ⟨i, rfl⟩ := x_pos_of (by omega) c5
        rw [nI_pred] at hl
        refine lv_aload_n hx hb dX5_reads_8 rfl (lv_at hl 1 rfl) ?_
        refine va_get (D := D) (ci := 5) (v := .ref d19) (C := RX5) (T := TX5) (N := 38) hx hb hts hinX5 hown hK hP 0 rfl rfl 19 (by decide) (hts (.fieldLink RX5 53 "LedgerSharesModel" "state" "[I") (List.mem_of_getElem? (i := 1) rfl)) (fun _ h9 => h9) rfl dX5_reads_9 ?_
        refine lv_iload_n hx hb dX5_reads_12 rfl (lv_at hl 0 rfl) ?_
        refine x_iald hx hb hE hP 1 rfl (i) (by omega) (by decide) (rfl) dX5_reads_13 ?_
        refine lv_iconst (v := 2) hx hb dX5_reads_14 (by decide) ?_
        refine lv_icmp_lt (tgt := 70) hx hb dX5_reads_15 (by decide) (fun c15 => ?_) (fun c15 => ?_)
        · refine lv_iinc (v := nI i - 1) (lv' := [(3, .int (nI i - 1)), (0, .ref y), (1, .int (nI kc)), (2, .int key)]) hx hb dX5_reads_70 hl (k := 0) rfl (x_dec _) (by decide) rfl (fun ls hl => ?_)
          refine lv_goto (tgt := 4) hx hb dX5_reads_73 (by decide) ?_
          exact ih4 i (by omega) (by omega) (by rw [hinv]; simp [rds, c15]) ls (lv_sub hl [0, 1, 2, 3] rfl)
        · refine lv_aload_n hx hb dX5_reads_18 rfl (lv_at hl 1 rfl) ?_
          refine va_get (D := D) (ci := 5) (v := .ref d28) (C := RX5) (T := TX5) (N := 38) hx hb hts hinX5 hown hK hP 0 rfl rfl 28 (by decide) (hts (.fieldLink RX5 81 "LedgerSharesModel" "givesB" "[Z") (List.mem_of_getElem? (i := 2) rfl)) (fun _ h9 => h9) rfl dX5_reads_19 ?_
          refine lv_iload_n hx hb dX5_reads_22 rfl (lv_at hl 0 rfl) ?_
          refine x_zald hx hb hE hP 4 rfl (i) (by omega) (by decide) (rfl) dX5_reads_23 ?_
          refine lv_if_eq (tgt := 44) hx hb dX5_reads_24 (by decide) (fun c24 => ?_) (fun c24 => ?_)
          · refine lv_aload_n hx hb dX5_reads_44 rfl (lv_at hl 1 rfl) ?_
            refine va_get (D := D) (ci := 5) (v := .ref d27) (C := RX5) (T := TX5) (N := 38) hx hb hts hinX5 hown hK hP 0 rfl rfl 27 (by decide) (hts (.fieldLink RX5 77 "LedgerSharesModel" "givesA" "[Z") (List.mem_of_getElem? (i := 5) rfl)) (fun _ h9 => h9) rfl dX5_reads_45 ?_
            refine lv_iload_n hx hb dX5_reads_48 rfl (lv_at hl 0 rfl) ?_
            refine x_zald hx hb hE hP 2 rfl (i) (by omega) (by decide) (rfl) dX5_reads_49 ?_
            refine lv_if_eq (tgt := 70) hx hb dX5_reads_50 (by decide) (fun c50 => ?_) (fun c50 => ?_)
            · refine lv_iinc (v := nI i - 1) (lv' := [(3, .int (nI i - 1)), (0, .ref y), (1, .int (nI kc)), (2, .int key)]) hx hb dX5_reads_70 hl (k := 0) rfl (x_dec _) (by decide) rfl (fun ls hl => ?_)
              refine lv_goto (tgt := 4) hx hb dX5_reads_73 (by decide) ?_
              exact ih4 i (by omega) (by omega) (by rw [hinv]; simp [rds, c15, c24, c50]) ls (lv_sub hl [0, 1, 2, 3] rfl)
            · refine lv_aload_n hx hb dX5_reads_53 rfl (lv_at hl 1 rfl) ?_
              refine va_get (D := D) (ci := 5) (v := .ref d3) (C := RX5) (T := TX5) (N := 38) hx hb hts hinX5 hown hK hP 0 rfl rfl 3 (by decide) (hts (.fieldLink RX5 13 "LedgerSharesModel" "as" "[I") (List.mem_of_getElem? (i := 6) rfl)) (fun _ h9 => h9) rfl dX5_reads_54 ?_
              refine lv_iload_n hx hb dX5_reads_57 rfl (lv_at hl 0 rfl) ?_
              refine x_iald hx hb hE hP 3 rfl (i) (by omega) (by decide) (rfl) dX5_reads_58 ?_
              refine lv_iload_n hx hb dX5_reads_59 rfl (lv_at hl 3 rfl) ?_
              refine lv_icmp_ne (tgt := 70) hx hb dX5_reads_60 (by decide) (fun c60 => ?_) (fun c60 => ?_)
              · refine lv_iinc (v := nI i - 1) (lv' := [(3, .int (nI i - 1)), (0, .ref y), (1, .int (nI kc)), (2, .int key)]) hx hb dX5_reads_70 hl (k := 0) rfl (x_dec _) (by decide) rfl (fun ls hl => ?_)
                refine lv_goto (tgt := 4) hx hb dX5_reads_73 (by decide) ?_
                exact ih4 i (by omega) (by omega) (by rw [hinv]; simp [rds, c15, c24, c50, c60]) ls (lv_sub hl [0, 1, 2, 3] rfl)
              · refine lv_aload_n hx hb dX5_reads_63 rfl (lv_at hl 1 rfl) ?_
                refine va_get (D := D) (ci := 5) (v := .ref d29) (C := RX5) (T := TX5) (N := 38) hx hb hts hinX5 hown hK hP 0 rfl rfl 29 (by decide) (hts (.fieldLink RX5 84 "LedgerSharesModel" "givenA" "[J") (List.mem_of_getElem? (i := 7) rfl)) (fun _ h9 => h9) rfl dX5_reads_64 ?_
                refine lv_iload_n hx hb dX5_reads_67 rfl (lv_at hl 0 rfl) ?_
                refine x_lald hx hb hE hP 6 rfl (i) (by omega) (by decide) (rfl) dX5_reads_68 ?_
                exact W.lret hx hb hr (fun t ht hW => ⟨_, rfl, by rw [hinv]; simp [rds, c15, c24, c50, c60], ht⟩) (fun q h => by cases h) dX5_reads_69
          · refine lv_aload_n hx hb dX5_reads_27 rfl (lv_at hl 1 rfl) ?_
            refine va_get (D := D) (ci := 5) (v := .ref d4) (C := RX5) (T := TX5) (N := 38) hx hb hts hinX5 hown hK hP 0 rfl rfl 4 (by decide) (hts (.fieldLink RX5 16 "LedgerSharesModel" "bs" "[I") (List.mem_of_getElem? (i := 3) rfl)) (fun _ h9 => h9) rfl dX5_reads_28 ?_
            refine lv_iload_n hx hb dX5_reads_31 rfl (lv_at hl 0 rfl) ?_
            refine x_iald hx hb hE hP 5 rfl (i) (by omega) (by decide) (rfl) dX5_reads_32 ?_
            refine lv_iload_n hx hb dX5_reads_33 rfl (lv_at hl 3 rfl) ?_
            refine lv_icmp_ne (tgt := 44) hx hb dX5_reads_34 (by decide) (fun c34 => ?_) (fun c34 => ?_)
            · refine lv_aload_n hx hb dX5_reads_44 rfl (lv_at hl 1 rfl) ?_
              refine va_get (D := D) (ci := 5) (v := .ref d27) (C := RX5) (T := TX5) (N := 38) hx hb hts hinX5 hown hK hP 0 rfl rfl 27 (by decide) (hts (.fieldLink RX5 77 "LedgerSharesModel" "givesA" "[Z") (List.mem_of_getElem? (i := 5) rfl)) (fun _ h9 => h9) rfl dX5_reads_45 ?_
              refine lv_iload_n hx hb dX5_reads_48 rfl (lv_at hl 0 rfl) ?_
              refine x_zald hx hb hE hP 2 rfl (i) (by omega) (by decide) (rfl) dX5_reads_49 ?_
              refine lv_if_eq (tgt := 70) hx hb dX5_reads_50 (by decide) (fun c50 => ?_) (fun c50 => ?_)
              · refine lv_iinc (v := nI i - 1) (lv' := [(3, .int (nI i - 1)), (0, .ref y), (1, .int (nI kc)), (2, .int key)]) hx hb dX5_reads_70 hl (k := 0) rfl (x_dec _) (by decide) rfl (fun ls hl => ?_)
                refine lv_goto (tgt := 4) hx hb dX5_reads_73 (by decide) ?_
                exact ih4 i (by omega) (by omega) (by rw [hinv]; simp [rds, c15, c24, c34, c50]) ls (lv_sub hl [0, 1, 2, 3] rfl)
              · refine lv_aload_n hx hb dX5_reads_53 rfl (lv_at hl 1 rfl) ?_
                refine va_get (D := D) (ci := 5) (v := .ref d3) (C := RX5) (T := TX5) (N := 38) hx hb hts hinX5 hown hK hP 0 rfl rfl 3 (by decide) (hts (.fieldLink RX5 13 "LedgerSharesModel" "as" "[I") (List.mem_of_getElem? (i := 6) rfl)) (fun _ h9 => h9) rfl dX5_reads_54 ?_
                refine lv_iload_n hx hb dX5_reads_57 rfl (lv_at hl 0 rfl) ?_
                refine x_iald hx hb hE hP 3 rfl (i) (by omega) (by decide) (rfl) dX5_reads_58 ?_
                refine lv_iload_n hx hb dX5_reads_59 rfl (lv_at hl 3 rfl) ?_
                refine lv_icmp_ne (tgt := 70) hx hb dX5_reads_60 (by decide) (fun c60 => ?_) (fun c60 => ?_)
                · refine lv_iinc (v := nI i - 1) (lv' := [(3, .int (nI i - 1)), (0, .ref y), (1, .int (nI kc)), (2, .int key)]) hx hb dX5_reads_70 hl (k := 0) rfl (x_dec _) (by decide) rfl (fun ls hl => ?_)
                  refine lv_goto (tgt := 4) hx hb dX5_reads_73 (by decide) ?_
                  exact ih4 i (by omega) (by omega) (by rw [hinv]; simp [rds, c15, c24, c34, c50, c60]) ls (lv_sub hl [0, 1, 2, 3] rfl)
                · refine lv_aload_n hx hb dX5_reads_63 rfl (lv_at hl 1 rfl) ?_
                  refine va_get (D := D) (ci := 5) (v := .ref d29) (C := RX5) (T := TX5) (N := 38) hx hb hts hinX5 hown hK hP 0 rfl rfl 29 (by decide) (hts (.fieldLink RX5 84 "LedgerSharesModel" "givenA" "[J") (List.mem_of_getElem? (i := 7) rfl)) (fun _ h9 => h9) rfl dX5_reads_64 ?_
                  refine lv_iload_n hx hb dX5_reads_67 rfl (lv_at hl 0 rfl) ?_
                  refine x_lald hx hb hE hP 6 rfl (i) (by omega) (by decide) (rfl) dX5_reads_68 ?_
                  exact W.lret hx hb hr (fun t ht hW => ⟨_, rfl, by rw [hinv]; simp [rds, c15, c24, c34, c50, c60], ht⟩) (fun q h => by cases h) dX5_reads_69
            · refine lv_aload_n hx hb dX5_reads_37 rfl (lv_at hl 1 rfl) ?_
              refine va_get (D := D) (ci := 5) (v := .ref d30) (C := RX5) (T := TX5) (N := 38) hx hb hts hinX5 hown hK hP 0 rfl rfl 30 (by decide) (hts (.fieldLink RX5 87 "LedgerSharesModel" "givenB" "[J") (List.mem_of_getElem? (i := 4) rfl)) (fun _ h9 => h9) rfl dX5_reads_38 ?_
              refine lv_iload_n hx hb dX5_reads_41 rfl (lv_at hl 0 rfl) ?_
              refine x_lald hx hb hE hP 7 rfl (i) (by omega) (by decide) (rfl) dX5_reads_42 ?_
              exact W.lret hx hb hr (fun t ht hW => ⟨_, rfl, by rw [hinv]; simp [rds, c15, c24, c34], ht⟩) (fun q h => by cases h) dX5_reads_43
  exact loop4 41 kc hkc (by omega) rfl ls (lv_sub hl [0, 1, 2, 3] rfl)
set_option maxHeartbeats 4000000 in
set_option maxRecDepth 100000 in
theorem m_work (l : Launch) (D : va_G) (cI cJ cZ : ClassId) (sz : Nat) (y d2 d3 d4 d5 d6 d7 d11 d12 d13 d14 d15 d16 d17 d18 d19 d20 d21 d22 d23 d24 d25 d26 d27 d28 d29 d30 d31 d32 d33 d34 d35 d36 d37 : Nat) (th ru rf hs : Int32) (nv ya yb mo ma mb mk : Nat → Int32) (xa xb za zb : Nat → Int64) (n : Nat) (k : Nat) (hk : k < 40) : Met l yX5_work wsX5_work ({ frames := 0, cells := 0, slots := 0, locals := 0 }) (PcRW [.ref y, .int (nI k)] sz D cI cJ cZ [(y, .inr (5, [.int th, .int (nI n), .ref d2, .ref d3, .ref d4, .ref d5, .ref d6, .ref d7, .int ru, .int rf, .int hs, .ref d11, .ref d12, .ref d13, .ref d14, .ref d15, .ref d16, .ref d17, .ref d18, .ref d19, .ref d20, .ref d21, .ref d22, .ref d23, .ref d24, .ref d25, .ref d26, .ref d27, .ref d28, .ref d29, .ref d30, .ref d31, .ref d32, .ref d33, .ref d34, .ref d35, .ref d36, .ref d37])), (d25, .inl (cJ, 40, .inr (.inl xa))), (d26, .inl (cJ, 40, .inr (.inl xb))), (d24, .inl (cI, 40, .inl nv)), (d27, .inl (cZ, 40, .inl ya)), (d28, .inl (cZ, 40, .inl yb)), (d29, .inl (cJ, 40, .inr (.inl za))), (d30, .inl (cJ, 40, .inr (.inl zb))), (d2, .inl (cI, 40, .inl mo)), (d3, .inl (cI, 40, .inl ma)), (d4, .inl (cI, 40, .inl mb)), (d5, .inl (cI, 40, .inl mk))]) (QcV D (va_A [(y, .inr (5, [.int th, .int (nI n), .ref d2, .ref d3, .ref d4, .ref d5, .ref d6, .ref d7, .int ru, .int rf, .int hs, .ref d11, .ref d12, .ref d13, .ref d14, .ref d15, .ref d16, .ref d17, .ref d18, .ref d19, .ref d20, .ref d21, .ref d22, .ref d23, .ref d24, .ref d25, .ref d26, .ref d27, .ref d28, .ref d29, .ref d30, .ref d31, .ref d32, .ref d33, .ref d34, .ref d35, .ref d36, .ref d37])), (d25, .inl (cJ, 40, .inr (.inl xa))), (d26, .inl (cJ, 40, .inr (.inl xb))), (d24, .inl (cI, 40, .inl nv)), (d27, .inl (cZ, 40, .inl ya)), (d28, .inl (cZ, 40, .inl yb)), (d29, .inl (cJ, 40, .inr (.inl za))), (d30, .inl (cJ, 40, .inr (.inl zb))), (d2, .inl (cI, 40, .inl mo)), (d3, .inl (cI, 40, .inl ma)), (d4, .inl (cI, 40, .inl mb)), (d5, .inl (cI, 40, .inl mk))] sz) [(y, .inr (5, [.int th, .int (nI n), .ref d2, .ref d3, .ref d4, .ref d5, .ref d6, .ref d7, .int ru, .int rf, .int hs, .ref d11, .ref d12, .ref d13, .ref d14, .ref d15, .ref d16, .ref d17, .ref d18, .ref d19, .ref d20, .ref d21, .ref d22, .ref d23, .ref d24, .ref d25, .ref d26, .ref d27, .ref d28, .ref d29, .ref d30, .ref d31, .ref d32, .ref d33, .ref d34, .ref d35, .ref d36, .ref d37])), (d25, .inl (cJ, 40, .inr (.inl xa))), (d26, .inl (cJ, 40, .inr (.inl xb))), (d24, .inl (cI, 40, .inl (upd nv k (wOut (mo k) (xa k) (xb k) (Int32.toInt64 (mk k)))))), (d27, .inl (cZ, 40, .inl (upd ya k (wChA (mo k) (ma k) (mb k) (xa k) (Int32.toInt64 (mk k)))))), (d28, .inl (cZ, 40, .inl (upd yb k (wChB (mo k) (ma k) (mb k) (xa k) (xb k) (Int32.toInt64 (mk k)))))), (d29, .inl (cJ, 40, .inr (.inl (if (mo k) = 2 ∨ (mo k) = 4 then vp_updL za k (wGA (mo k) (xa k) (xb k) (Int32.toInt64 (mk k))) else za)))), (d30, .inl (cJ, 40, .inr (.inl (if (mo k) = 3 then zb else vp_updL zb k (wGB (mo k) (xa k) (xb k) (Int32.toInt64 (mk k))))))), (d2, .inl (cI, 40, .inl mo)), (d3, .inl (cI, 40, .inl ma)), (d4, .inl (cI, 40, .inl mb)), (d5, .inl (cI, 40, .inl mk))]) 0 0 (va_A [(y, .inr (5, [.int th, .int (nI n), .ref d2, .ref d3, .ref d4, .ref d5, .ref d6, .ref d7, .int ru, .int rf, .int hs, .ref d11, .ref d12, .ref d13, .ref d14, .ref d15, .ref d16, .ref d17, .ref d18, .ref d19, .ref d20, .ref d21, .ref d22, .ref d23, .ref d24, .ref d25, .ref d26, .ref d27, .ref d28, .ref d29, .ref d30, .ref d31, .ref d32, .ref d33, .ref d34, .ref d35, .ref d36, .ref d37])), (d25, .inl (cJ, 40, .inr (.inl xa))), (d26, .inl (cJ, 40, .inr (.inl xb))), (d24, .inl (cI, 40, .inl nv)), (d27, .inl (cZ, 40, .inl ya)), (d28, .inl (cZ, 40, .inl yb)), (d29, .inl (cJ, 40, .inr (.inl za))), (d30, .inl (cJ, 40, .inr (.inl zb))), (d2, .inl (cI, 40, .inl mo)), (d3, .inl (cI, 40, .inl ma)), (d4, .inl (cI, 40, .inl mb)), (d5, .inl (cI, 40, .inl mk))] sz) := by
  refine Met.ofW (cc := cX5_work) (maxL := 9) (ret := none) (by decide) rfl ?_
  intro p e s m args below meth c s₁ B hml hv
  obtain ⟨rfl, hsz, hP, hE, hD0⟩ := hv
  have hx := B.exec
  have hb := B.bytes
  have hr := B.returns
  have hts := atoms_spec (ws := wsX5_work) B.pre
  have hown : s.vm.findClass RX5 = some m.cls := findClass_of_methodNamed B.named
  have hlocks := B.notSynchronized
  have hK := hE.1
  subst hsz
  have hD := hD0.self (sz := s.heap.size)
  generalize hAe : va_A [(y, .inr (5, [.int th, .int (nI n), .ref d2, .ref d3, .ref d4, .ref d5, .ref d6, .ref d7, .int ru, .int rf, .int hs, .ref d11, .ref d12, .ref d13, .ref d14, .ref d15, .ref d16, .ref d17, .ref d18, .ref d19, .ref d20, .ref d21, .ref d22, .ref d23, .ref d24, .ref d25, .ref d26, .ref d27, .ref d28, .ref d29, .ref d30, .ref d31, .ref d32, .ref d33, .ref d34, .ref d35, .ref d36, .ref d37])), (d25, .inl (cJ, 40, .inr (.inl xa))), (d26, .inl (cJ, 40, .inr (.inl xb))), (d24, .inl (cI, 40, .inl nv)), (d27, .inl (cZ, 40, .inl ya)), (d28, .inl (cZ, 40, .inl yb)), (d29, .inl (cJ, 40, .inr (.inl za))), (d30, .inl (cJ, 40, .inr (.inl zb))), (d2, .inl (cI, 40, .inl mo)), (d3, .inl (cI, 40, .inl ma)), (d4, .inl (cI, 40, .inl mb)), (d5, .inl (cI, 40, .inl mk))] s.heap.size = A at hD ⊢
  have hA : ∀ q : Nat, s.heap.size ≤ q → A q := fun q h => by rw [← hAe]; exact Or.inr h
  have hS : va_S A s.heap s.heap [] := va_S.rf
  have hl := lv_entry ([.ref y, .int (nI k)]) (n := 9) (Nat.le_of_ble_eq_true rfl)
  rw [lg_entry_eq]
  generalize (lg_sl ([.ref y, .int (nI k)]) ++ List.replicate (9 - (lg_sl ([.ref y, .int (nI k)])).length) Slot.unset).toArray = ls at hl ⊢
  have hl : lv_has ls 9 [(0, .ref y), (1, .int (nI k))] := hl
  have hinX5 : ∀ w ∈ u_ws RX5 TX5 38, w ∈ wsX5_work := fun _ h => List.mem_cons_of_mem _ (List.mem_append_right _ h)
  refine lv_aload_n hx hb dX5_work_0 rfl (lv_at hl 0 rfl) ?_
  refine va_get (D := D) (ci := 5) (v := .ref d25) (C := RX5) (T := TX5) (N := 38) hx hb hts hinX5 hown hK hP 0 rfl rfl 25 (by decide) (hts (.fieldLink RX5 71 "LedgerSharesModel" "readA" "[J") (List.mem_of_getElem? (i := 1) rfl)) (fun _ h9 => h9) rfl dX5_work_1 ?_
  refine lv_iload_n hx hb dX5_work_4 rfl (lv_at hl 1 rfl) ?_
  refine x_lald hx hb hE hP 1 rfl (k) hk (by decide) (rfl) dX5_work_5 ?_
  refine lv_lstore_n (lv' := [(2, .long (xa k)), (0, .ref y), (1, .int (nI k))]) hx hb dX5_work_6 rfl hl (by decide) rfl (fun ls hl => ?_)
  refine lv_aload_n hx hb dX5_work_7 rfl (lv_at hl 1 rfl) ?_
  refine va_get (D := D) (ci := 5) (v := .ref d26) (C := RX5) (T := TX5) (N := 38) hx hb hts hinX5 hown hK hP 0 rfl rfl 26 (by decide) (hts (.fieldLink RX5 74 "LedgerSharesModel" "readB" "[J") (List.mem_of_getElem? (i := 2) rfl)) (fun _ h9 => h9) rfl dX5_work_8 ?_
  refine lv_iload_n hx hb dX5_work_11 rfl (lv_at hl 2 rfl) ?_
  refine x_lald hx hb hE hP 2 rfl (k) hk (by decide) (rfl) dX5_work_12 ?_
  refine lv_lstore (lv' := [(4, .long (xb k)), (2, .long (xa k)), (0, .ref y), (1, .int (nI k))]) hx hb dX5_work_13 hl (by decide) rfl (fun ls hl => ?_)
  refine lv_aload_n hx hb dX5_work_15 rfl (lv_at hl 2 rfl) ?_
  refine va_get (D := D) (ci := 5) (v := .ref d5) (C := RX5) (T := TX5) (N := 38) hx hb hts hinX5 hown hK hP 0 rfl rfl 5 (by decide) (hts (.fieldLink RX5 19 "LedgerSharesModel" "cs" "[I") (List.mem_of_getElem? (i := 3) rfl)) (fun _ h9 => h9) rfl dX5_work_16 ?_
  refine lv_iload_n hx hb dX5_work_19 rfl (lv_at hl 3 rfl) ?_
  refine x_iald hx hb hE hP 11 rfl (k) hk (by decide) (rfl) dX5_work_20 ?_
  refine lv_i2l (v := Int32.toInt64 (mk k)) hx hb dX5_work_21 rfl ?_
  refine lv_lstore (lv' := [(6, .long (Int32.toInt64 (mk k))), (4, .long (xb k)), (2, .long (xa k)), (0, .ref y), (1, .int (nI k))]) hx hb dX5_work_22 hl (by decide) rfl (fun ls hl => ?_)
  refine lv_aload_n hx hb dX5_work_24 rfl (lv_at hl 3 rfl) ?_
  refine va_get (D := D) (ci := 5) (v := .ref d27) (C := RX5) (T := TX5) (N := 38) hx hb hts hinX5 hown hK hP 0 rfl rfl 27 (by decide) (hts (.fieldLink RX5 77 "LedgerSharesModel" "givesA" "[Z") (List.mem_of_getElem? (i := 4) rfl)) (fun _ h9 => h9) rfl dX5_work_25 ?_
  refine lv_iload_n hx hb dX5_work_28 rfl (lv_at hl 4 rfl) ?_
  refine lv_iconst (v := 0) hx hb dX5_work_29 (by decide) ?_
  refine x_zast hx hb hE hP hD hS 4 rfl (k) hk (by decide) (rfl) (by decide) (ws' := [(y, .inr (5, [.int th, .int (nI n), .ref d2, .ref d3, .ref d4, .ref d5, .ref d6, .ref d7, .int ru, .int rf, .int hs, .ref d11, .ref d12, .ref d13, .ref d14, .ref d15, .ref d16, .ref d17, .ref d18, .ref d19, .ref d20, .ref d21, .ref d22, .ref d23, .ref d24, .ref d25, .ref d26, .ref d27, .ref d28, .ref d29, .ref d30, .ref d31, .ref d32, .ref d33, .ref d34, .ref d35, .ref d36, .ref d37])), (d25, .inl (cJ, 40, .inr (.inl xa))), (d26, .inl (cJ, 40, .inr (.inl xb))), (d24, .inl (cI, 40, .inl nv)), (d27, .inl (cZ, 40, .inl (upd ya k 0))), (d28, .inl (cZ, 40, .inl yb)), (d29, .inl (cJ, 40, .inr (.inl za))), (d30, .inl (cJ, 40, .inr (.inl zb))), (d2, .inl (cI, 40, .inl mo)), (d3, .inl (cI, 40, .inl ma)), (d4, .inl (cI, 40, .inl mb)), (d5, .inl (cI, 40, .inl mk))]) (rfl) dX5_work_30 (fun H locs hP hD hS => ?_)
  refine lv_aload_n hx hb dX5_work_31 rfl (lv_at hl 3 rfl) ?_
  refine va_get (D := D) (ci := 5) (v := .ref d28) (C := RX5) (T := TX5) (N := 38) hx hb hts hinX5 hown hK hP 0 rfl rfl 28 (by decide) (hts (.fieldLink RX5 81 "LedgerSharesModel" "givesB" "[Z") (List.mem_of_getElem? (i := 5) rfl)) (fun _ h9 => h9) rfl dX5_work_32 ?_
  refine lv_iload_n hx hb dX5_work_35 rfl (lv_at hl 4 rfl) ?_
  refine lv_iconst (v := 0) hx hb dX5_work_36 (by decide) ?_
  refine x_zast hx hb hE hP hD hS 5 rfl (k) hk (by decide) (rfl) (by decide) (ws' := [(y, .inr (5, [.int th, .int (nI n), .ref d2, .ref d3, .ref d4, .ref d5, .ref d6, .ref d7, .int ru, .int rf, .int hs, .ref d11, .ref d12, .ref d13, .ref d14, .ref d15, .ref d16, .ref d17, .ref d18, .ref d19, .ref d20, .ref d21, .ref d22, .ref d23, .ref d24, .ref d25, .ref d26, .ref d27, .ref d28, .ref d29, .ref d30, .ref d31, .ref d32, .ref d33, .ref d34, .ref d35, .ref d36, .ref d37])), (d25, .inl (cJ, 40, .inr (.inl xa))), (d26, .inl (cJ, 40, .inr (.inl xb))), (d24, .inl (cI, 40, .inl nv)), (d27, .inl (cZ, 40, .inl (upd ya k 0))), (d28, .inl (cZ, 40, .inl (upd yb k 0))), (d29, .inl (cJ, 40, .inr (.inl za))), (d30, .inl (cJ, 40, .inr (.inl zb))), (d2, .inl (cI, 40, .inl mo)), (d3, .inl (cI, 40, .inl ma)), (d4, .inl (cI, 40, .inl mb)), (d5, .inl (cI, 40, .inl mk))]) (rfl) dX5_work_37 (fun H locs hP hD hS => ?_)
  refine lv_iconst (v := 0) hx hb dX5_work_38 (by decide) ?_
  refine lv_istore (lv' := [(8, .int 0), (6, .long (Int32.toInt64 (mk k))), (4, .long (xb k)), (2, .long (xa k)), (0, .ref y), (1, .int (nI k))]) hx hb dX5_work_39 hl (by decide) rfl (fun ls hl => ?_)
  refine lv_aload_n hx hb dX5_work_41 rfl (lv_at hl 4 rfl) ?_
  refine va_get (D := D) (ci := 5) (v := .ref d2) (C := RX5) (T := TX5) (N := 38) hx hb hts hinX5 hown hK hP 0 rfl rfl 2 (by decide) (hts (.fieldLink RX5 7 "LedgerSharesModel" "ops" "[I") (List.mem_of_getElem? (i := 6) rfl)) (fun _ h9 => h9) rfl dX5_work_42 ?_
  refine lv_iload_n hx hb dX5_work_45 rfl (lv_at hl 5 rfl) ?_
  refine x_iald hx hb hE hP 8 rfl (k) hk (by decide) (rfl) dX5_work_46 ?_
  rcases sw4 (mo k) with e47 | e47 | e47 | e47 | e47 | ⟨n0, n1, n2, n3, n4, n5⟩
  · refine lv_tableIn (off := 33) (tgt := 80) hx hb dX5_work_47 (by rw [e47]; decide) (by rw [e47]; decide) (by rw [e47]; rfl) (by decide) ?_
    refine lv_aload_n hx hb dX5_work_80 rfl (lv_at hl 4 rfl) ?_
    refine va_get (D := D) (ci := 5) (v := .ref d28) (C := RX5) (T := TX5) (N := 38) hx hb hts hinX5 hown hK hP 0 rfl rfl 28 (by decide) (hts (.fieldLink RX5 81 "LedgerSharesModel" "givesB" "[Z") (List.mem_of_getElem? (i := 5) rfl)) (fun _ h9 => h9) rfl dX5_work_81 ?_
    refine lv_iload_n hx hb dX5_work_84 rfl (lv_at hl 5 rfl) ?_
    refine lv_iconst (v := 1) hx hb dX5_work_85 (by decide) ?_
    refine x_zast hx hb hE hP hD hS 5 rfl (k) hk (by decide) (rfl) (by decide) (ws' := [(y, .inr (5, [.int th, .int (nI n), .ref d2, .ref d3, .ref d4, .ref d5, .ref d6, .ref d7, .int ru, .int rf, .int hs, .ref d11, .ref d12, .ref d13, .ref d14, .ref d15, .ref d16, .ref d17, .ref d18, .ref d19, .ref d20, .ref d21, .ref d22, .ref d23, .ref d24, .ref d25, .ref d26, .ref d27, .ref d28, .ref d29, .ref d30, .ref d31, .ref d32, .ref d33, .ref d34, .ref d35, .ref d36, .ref d37])), (d25, .inl (cJ, 40, .inr (.inl xa))), (d26, .inl (cJ, 40, .inr (.inl xb))), (d24, .inl (cI, 40, .inl nv)), (d27, .inl (cZ, 40, .inl (upd ya k 0))), (d28, .inl (cZ, 40, .inl (upd (upd yb k 0) k 1))), (d29, .inl (cJ, 40, .inr (.inl za))), (d30, .inl (cJ, 40, .inr (.inl zb))), (d2, .inl (cI, 40, .inl mo)), (d3, .inl (cI, 40, .inl ma)), (d4, .inl (cI, 40, .inl mb)), (d5, .inl (cI, 40, .inl mk))]) (rfl) dX5_work_86 (fun H locs hP hD hS => ?_)
    refine lv_aload_n hx hb dX5_work_87 rfl (lv_at hl 4 rfl) ?_
    refine va_get (D := D) (ci := 5) (v := .ref d30) (C := RX5) (T := TX5) (N := 38) hx hb hts hinX5 hown hK hP 0 rfl rfl 30 (by decide) (hts (.fieldLink RX5 87 "LedgerSharesModel" "givenB" "[J") (List.mem_of_getElem? (i := 7) rfl)) (fun _ h9 => h9) rfl dX5_work_88 ?_
    refine lv_iload_n hx hb dX5_work_91 rfl (lv_at hl 5 rfl) ?_
    refine lv_lload hx hb dX5_work_92 (lv_at hl 1 rfl) ?_
    refine x_last hx hb hE hP hD hS 7 rfl (k) hk (by decide) (rfl) (ws' := [(y, .inr (5, [.int th, .int (nI n), .ref d2, .ref d3, .ref d4, .ref d5, .ref d6, .ref d7, .int ru, .int rf, .int hs, .ref d11, .ref d12, .ref d13, .ref d14, .ref d15, .ref d16, .ref d17, .ref d18, .ref d19, .ref d20, .ref d21, .ref d22, .ref d23, .ref d24, .ref d25, .ref d26, .ref d27, .ref d28, .ref d29, .ref d30, .ref d31, .ref d32, .ref d33, .ref d34, .ref d35, .ref d36, .ref d37])), (d25, .inl (cJ, 40, .inr (.inl xa))), (d26, .inl (cJ, 40, .inr (.inl xb))), (d24, .inl (cI, 40, .inl nv)), (d27, .inl (cZ, 40, .inl (upd ya k 0))), (d28, .inl (cZ, 40, .inl (upd (upd yb k 0) k 1))), (d29, .inl (cJ, 40, .inr (.inl za))), (d30, .inl (cJ, 40, .inr (.inl (vp_updL zb k (Int32.toInt64 (mk k)))))), (d2, .inl (cI, 40, .inl mo)), (d3, .inl (cI, 40, .inl ma)), (d4, .inl (cI, 40, .inl mb)), (d5, .inl (cI, 40, .inl mk))]) (rfl) dX5_work_94 (fun H locs hP hD hS => ?_)
    refine lv_goto (tgt := 296) hx hb dX5_work_95 (by decide) ?_
    refine lv_aload_n hx hb dX5_work_296 rfl (lv_at hl 4 rfl) ?_
    refine va_get (D := D) (ci := 5) (v := .ref d24) (C := RX5) (T := TX5) (N := 38) hx hb hts hinX5 hown hK hP 0 rfl rfl 24 (by decide) (hts (.fieldLink RX5 68 "LedgerSharesModel" "outcome" "[I") (List.mem_of_getElem? (i := 11) rfl)) (fun _ h9 => h9) rfl dX5_work_297 ?_
    refine lv_iload_n hx hb dX5_work_300 rfl (lv_at hl 5 rfl) ?_
    refine lv_iload hx hb dX5_work_301 (lv_at hl 0 rfl) ?_
    refine lv_if_eq (tgt := 310) hx hb dX5_work_303 (by decide) (fun c303 => ?_) (fun c303 => absurd c303 (by decide))
    refine lv_iconst (v := 1) hx hb dX5_work_310 (by decide) ?_
    refine x_iast hx hb hE hP hD hS 3 rfl (k) hk (by decide) (rfl) (ws' := [(y, .inr (5, [.int th, .int (nI n), .ref d2, .ref d3, .ref d4, .ref d5, .ref d6, .ref d7, .int ru, .int rf, .int hs, .ref d11, .ref d12, .ref d13, .ref d14, .ref d15, .ref d16, .ref d17, .ref d18, .ref d19, .ref d20, .ref d21, .ref d22, .ref d23, .ref d24, .ref d25, .ref d26, .ref d27, .ref d28, .ref d29, .ref d30, .ref d31, .ref d32, .ref d33, .ref d34, .ref d35, .ref d36, .ref d37])), (d25, .inl (cJ, 40, .inr (.inl xa))), (d26, .inl (cJ, 40, .inr (.inl xb))), (d24, .inl (cI, 40, .inl (upd nv k 1))), (d27, .inl (cZ, 40, .inl (upd ya k 0))), (d28, .inl (cZ, 40, .inl (upd (upd yb k 0) k 1))), (d29, .inl (cJ, 40, .inr (.inl za))), (d30, .inl (cJ, 40, .inr (.inl (vp_updL zb k (Int32.toInt64 (mk k)))))), (d2, .inl (cI, 40, .inl mo)), (d3, .inl (cI, 40, .inl ma)), (d4, .inl (cI, 40, .inl mb)), (d5, .inl (cI, 40, .inl mk))]) (rfl) dX5_work_311 (fun H locs hP hD hS => ?_)
    have w_nv : (upd nv k 1) = (upd nv k (wOut (mo k) (xa k) (xb k) (Int32.toInt64 (mk k)))) := by simp [wOut, wChA, wChB, wGA, wGB, upd_upd, updL_updL, upd_s, e47]
    have w_ya : (upd ya k 0) = (upd ya k (wChA (mo k) (ma k) (mb k) (xa k) (Int32.toInt64 (mk k)))) := by simp [wOut, wChA, wChB, wGA, wGB, upd_upd, updL_updL, upd_s, e47]
    have w_yb : (upd (upd yb k 0) k 1) = (upd yb k (wChB (mo k) (ma k) (mb k) (xa k) (xb k) (Int32.toInt64 (mk k)))) := by simp [wOut, wChA, wChB, wGA, wGB, upd_upd, updL_updL, upd_s, e47]
    have w_za : za = (if (mo k) = 2 ∨ (mo k) = 4 then vp_updL za k (wGA (mo k) (xa k) (xb k) (Int32.toInt64 (mk k))) else za) := by simp [wOut, wChA, wChB, wGA, wGB, upd_upd, updL_updL, upd_s, e47]
    have w_zb : (vp_updL zb k (Int32.toInt64 (mk k))) = (if (mo k) = 3 then zb else vp_updL zb k (wGB (mo k) (xa k) (xb k) (Int32.toInt64 (mk k)))) := by simp [wOut, wChA, wChB, wGA, wGB, upd_upd, updL_updL, upd_s, e47]
    rw [w_nv, w_ya, w_yb, w_za, w_zb] at hP hD
    exact W.vret hx hb hr (fun t ht hW => ⟨⟨(), rfl, trivial, by rw [ht]; exact hP, by exact hD⟩, hS.F ht⟩) hS.2.2 dX5_work_312
  · refine lv_tableIn (off := 51) (tgt := 98) hx hb dX5_work_47 (by rw [e47]; decide) (by rw [e47]; decide) (by rw [e47]; rfl) (by decide) ?_
    refine lv_aload_n hx hb dX5_work_98 rfl (lv_at hl 4 rfl) ?_
    refine va_get (D := D) (ci := 5) (v := .ref d28) (C := RX5) (T := TX5) (N := 38) hx hb hts hinX5 hown hK hP 0 rfl rfl 28 (by decide) (hts (.fieldLink RX5 81 "LedgerSharesModel" "givesB" "[Z") (List.mem_of_getElem? (i := 5) rfl)) (fun _ h9 => h9) rfl dX5_work_99 ?_
    refine lv_iload_n hx hb dX5_work_102 rfl (lv_at hl 5 rfl) ?_
    refine lv_iconst (v := 1) hx hb dX5_work_103 (by decide) ?_
    refine x_zast hx hb hE hP hD hS 5 rfl (k) hk (by decide) (rfl) (by decide) (ws' := [(y, .inr (5, [.int th, .int (nI n), .ref d2, .ref d3, .ref d4, .ref d5, .ref d6, .ref d7, .int ru, .int rf, .int hs, .ref d11, .ref d12, .ref d13, .ref d14, .ref d15, .ref d16, .ref d17, .ref d18, .ref d19, .ref d20, .ref d21, .ref d22, .ref d23, .ref d24, .ref d25, .ref d26, .ref d27, .ref d28, .ref d29, .ref d30, .ref d31, .ref d32, .ref d33, .ref d34, .ref d35, .ref d36, .ref d37])), (d25, .inl (cJ, 40, .inr (.inl xa))), (d26, .inl (cJ, 40, .inr (.inl xb))), (d24, .inl (cI, 40, .inl nv)), (d27, .inl (cZ, 40, .inl (upd ya k 0))), (d28, .inl (cZ, 40, .inl (upd (upd yb k 0) k 1))), (d29, .inl (cJ, 40, .inr (.inl za))), (d30, .inl (cJ, 40, .inr (.inl zb))), (d2, .inl (cI, 40, .inl mo)), (d3, .inl (cI, 40, .inl ma)), (d4, .inl (cI, 40, .inl mb)), (d5, .inl (cI, 40, .inl mk))]) (rfl) dX5_work_104 (fun H locs hP hD hS => ?_)
    refine lv_aload_n hx hb dX5_work_105 rfl (lv_at hl 4 rfl) ?_
    refine va_get (D := D) (ci := 5) (v := .ref d30) (C := RX5) (T := TX5) (N := 38) hx hb hts hinX5 hown hK hP 0 rfl rfl 30 (by decide) (hts (.fieldLink RX5 87 "LedgerSharesModel" "givenB" "[J") (List.mem_of_getElem? (i := 7) rfl)) (fun _ h9 => h9) rfl dX5_work_106 ?_
    refine lv_iload_n hx hb dX5_work_109 rfl (lv_at hl 5 rfl) ?_
    refine lv_lload hx hb dX5_work_110 (lv_at hl 2 rfl) ?_
    refine lv_lload_n hx hb dX5_work_112 rfl (lv_at hl 3 rfl) ?_
    refine lv_ladd hx hb dX5_work_113 ?_
    refine lv_lload hx hb dX5_work_114 (lv_at hl 1 rfl) ?_
    refine lv_ladd hx hb dX5_work_116 ?_
    refine x_last hx hb hE hP hD hS 7 rfl (k) hk (by decide) (rfl) (ws' := [(y, .inr (5, [.int th, .int (nI n), .ref d2, .ref d3, .ref d4, .ref d5, .ref d6, .ref d7, .int ru, .int rf, .int hs, .ref d11, .ref d12, .ref d13, .ref d14, .ref d15, .ref d16, .ref d17, .ref d18, .ref d19, .ref d20, .ref d21, .ref d22, .ref d23, .ref d24, .ref d25, .ref d26, .ref d27, .ref d28, .ref d29, .ref d30, .ref d31, .ref d32, .ref d33, .ref d34, .ref d35, .ref d36, .ref d37])), (d25, .inl (cJ, 40, .inr (.inl xa))), (d26, .inl (cJ, 40, .inr (.inl xb))), (d24, .inl (cI, 40, .inl nv)), (d27, .inl (cZ, 40, .inl (upd ya k 0))), (d28, .inl (cZ, 40, .inl (upd (upd yb k 0) k 1))), (d29, .inl (cJ, 40, .inr (.inl za))), (d30, .inl (cJ, 40, .inr (.inl (vp_updL zb k (((xb k) + (xa k)) + (Int32.toInt64 (mk k))))))), (d2, .inl (cI, 40, .inl mo)), (d3, .inl (cI, 40, .inl ma)), (d4, .inl (cI, 40, .inl mb)), (d5, .inl (cI, 40, .inl mk))]) (rfl) dX5_work_117 (fun H locs hP hD hS => ?_)
    refine lv_goto (tgt := 296) hx hb dX5_work_118 (by decide) ?_
    refine lv_aload_n hx hb dX5_work_296 rfl (lv_at hl 4 rfl) ?_
    refine va_get (D := D) (ci := 5) (v := .ref d24) (C := RX5) (T := TX5) (N := 38) hx hb hts hinX5 hown hK hP 0 rfl rfl 24 (by decide) (hts (.fieldLink RX5 68 "LedgerSharesModel" "outcome" "[I") (List.mem_of_getElem? (i := 11) rfl)) (fun _ h9 => h9) rfl dX5_work_297 ?_
    refine lv_iload_n hx hb dX5_work_300 rfl (lv_at hl 5 rfl) ?_
    refine lv_iload hx hb dX5_work_301 (lv_at hl 0 rfl) ?_
    refine lv_if_eq (tgt := 310) hx hb dX5_work_303 (by decide) (fun c303 => ?_) (fun c303 => absurd c303 (by decide))
    refine lv_iconst (v := 1) hx hb dX5_work_310 (by decide) ?_
    refine x_iast hx hb hE hP hD hS 3 rfl (k) hk (by decide) (rfl) (ws' := [(y, .inr (5, [.int th, .int (nI n), .ref d2, .ref d3, .ref d4, .ref d5, .ref d6, .ref d7, .int ru, .int rf, .int hs, .ref d11, .ref d12, .ref d13, .ref d14, .ref d15, .ref d16, .ref d17, .ref d18, .ref d19, .ref d20, .ref d21, .ref d22, .ref d23, .ref d24, .ref d25, .ref d26, .ref d27, .ref d28, .ref d29, .ref d30, .ref d31, .ref d32, .ref d33, .ref d34, .ref d35, .ref d36, .ref d37])), (d25, .inl (cJ, 40, .inr (.inl xa))), (d26, .inl (cJ, 40, .inr (.inl xb))), (d24, .inl (cI, 40, .inl (upd nv k 1))), (d27, .inl (cZ, 40, .inl (upd ya k 0))), (d28, .inl (cZ, 40, .inl (upd (upd yb k 0) k 1))), (d29, .inl (cJ, 40, .inr (.inl za))), (d30, .inl (cJ, 40, .inr (.inl (vp_updL zb k (((xb k) + (xa k)) + (Int32.toInt64 (mk k))))))), (d2, .inl (cI, 40, .inl mo)), (d3, .inl (cI, 40, .inl ma)), (d4, .inl (cI, 40, .inl mb)), (d5, .inl (cI, 40, .inl mk))]) (rfl) dX5_work_311 (fun H locs hP hD hS => ?_)
    have w_nv : (upd nv k 1) = (upd nv k (wOut (mo k) (xa k) (xb k) (Int32.toInt64 (mk k)))) := by simp [wOut, wChA, wChB, wGA, wGB, upd_upd, updL_updL, upd_s, e47]
    have w_ya : (upd ya k 0) = (upd ya k (wChA (mo k) (ma k) (mb k) (xa k) (Int32.toInt64 (mk k)))) := by simp [wOut, wChA, wChB, wGA, wGB, upd_upd, updL_updL, upd_s, e47]
    have w_yb : (upd (upd yb k 0) k 1) = (upd yb k (wChB (mo k) (ma k) (mb k) (xa k) (xb k) (Int32.toInt64 (mk k)))) := by simp [wOut, wChA, wChB, wGA, wGB, upd_upd, updL_updL, upd_s, e47]
    have w_za : za = (if (mo k) = 2 ∨ (mo k) = 4 then vp_updL za k (wGA (mo k) (xa k) (xb k) (Int32.toInt64 (mk k))) else za) := by simp [wOut, wChA, wChB, wGA, wGB, upd_upd, updL_updL, upd_s, e47]
    have w_zb : (vp_updL zb k (((xb k) + (xa k)) + (Int32.toInt64 (mk k)))) = (if (mo k) = 3 then zb else vp_updL zb k (wGB (mo k) (xa k) (xb k) (Int32.toInt64 (mk k)))) := by simp [wOut, wChA, wChB, wGA, wGB, upd_upd, updL_updL, upd_s, e47]
    rw [w_nv, w_ya, w_yb, w_za, w_zb] at hP hD
    exact W.vret hx hb hr (fun t ht hW => ⟨⟨(), rfl, trivial, by rw [ht]; exact hP, by exact hD⟩, hS.F ht⟩) hS.2.2 dX5_work_312
  · refine lv_tableIn (off := 74) (tgt := 121) hx hb dX5_work_47 (by rw [e47]; decide) (by rw [e47]; decide) (by rw [e47]; rfl) (by decide) ?_
    refine lv_lload_n hx hb dX5_work_121 rfl (lv_at hl 3 rfl) ?_
    refine lv_lload hx hb dX5_work_122 (lv_at hl 1 rfl) ?_
    refine W.lcmp hx hb dX5_work_124 ?_
    refine lv_if_lt (tgt := 135) hx hb dX5_work_125 (by decide) (fun c125 => ?_) (fun c125 => ?_)
    · have c125 := (lg_cmp_lt _ _).mp c125
      refine lv_iconst (v := 1) hx hb dX5_work_135 (by decide) ?_
      refine lv_goto (tgt := 140) hx hb dX5_work_136 (by decide) ?_
      refine lv_istore (lv' := [(8, .int 1), (6, .long (Int32.toInt64 (mk k))), (4, .long (xb k)), (2, .long (xa k)), (0, .ref y), (1, .int (nI k))]) hx hb dX5_work_140 hl (by decide) rfl (fun ls hl => ?_)
      refine lv_aload_n hx hb dX5_work_142 rfl (lv_at hl 4 rfl) ?_
      refine va_get (D := D) (ci := 5) (v := .ref d27) (C := RX5) (T := TX5) (N := 38) hx hb hts hinX5 hown hK hP 0 rfl rfl 27 (by decide) (hts (.fieldLink RX5 77 "LedgerSharesModel" "givesA" "[Z") (List.mem_of_getElem? (i := 4) rfl)) (fun _ h9 => h9) rfl dX5_work_143 ?_
      refine lv_iload_n hx hb dX5_work_146 rfl (lv_at hl 5 rfl) ?_
      refine lv_iload hx hb dX5_work_147 (lv_at hl 0 rfl) ?_
      refine lv_if_ne (tgt := 171) hx hb dX5_work_149 (by decide) (fun c149 => ?_) (fun c149 => absurd c149 (by decide))
      refine lv_iconst (v := 0) hx hb dX5_work_171 (by decide) ?_
      refine x_zast hx hb hE hP hD hS 4 rfl (k) hk (by decide) (rfl) (by decide) (ws' := [(y, .inr (5, [.int th, .int (nI n), .ref d2, .ref d3, .ref d4, .ref d5, .ref d6, .ref d7, .int ru, .int rf, .int hs, .ref d11, .ref d12, .ref d13, .ref d14, .ref d15, .ref d16, .ref d17, .ref d18, .ref d19, .ref d20, .ref d21, .ref d22, .ref d23, .ref d24, .ref d25, .ref d26, .ref d27, .ref d28, .ref d29, .ref d30, .ref d31, .ref d32, .ref d33, .ref d34, .ref d35, .ref d36, .ref d37])), (d25, .inl (cJ, 40, .inr (.inl xa))), (d26, .inl (cJ, 40, .inr (.inl xb))), (d24, .inl (cI, 40, .inl nv)), (d27, .inl (cZ, 40, .inl (upd (upd ya k 0) k 0))), (d28, .inl (cZ, 40, .inl (upd yb k 0))), (d29, .inl (cJ, 40, .inr (.inl za))), (d30, .inl (cJ, 40, .inr (.inl zb))), (d2, .inl (cI, 40, .inl mo)), (d3, .inl (cI, 40, .inl ma)), (d4, .inl (cI, 40, .inl mb)), (d5, .inl (cI, 40, .inl mk))]) (rfl) dX5_work_172 (fun H locs hP hD hS => ?_)
      refine lv_aload_n hx hb dX5_work_173 rfl (lv_at hl 4 rfl) ?_
      refine va_get (D := D) (ci := 5) (v := .ref d28) (C := RX5) (T := TX5) (N := 38) hx hb hts hinX5 hown hK hP 0 rfl rfl 28 (by decide) (hts (.fieldLink RX5 81 "LedgerSharesModel" "givesB" "[Z") (List.mem_of_getElem? (i := 5) rfl)) (fun _ h9 => h9) rfl dX5_work_174 ?_
      refine lv_iload_n hx hb dX5_work_177 rfl (lv_at hl 5 rfl) ?_
      refine lv_aload_n hx hb dX5_work_178 rfl (lv_at hl 4 rfl) ?_
      refine va_get (D := D) (ci := 5) (v := .ref d27) (C := RX5) (T := TX5) (N := 38) hx hb hts hinX5 hown hK hP 0 rfl rfl 27 (by decide) (hts (.fieldLink RX5 77 "LedgerSharesModel" "givesA" "[Z") (List.mem_of_getElem? (i := 4) rfl)) (fun _ h9 => h9) rfl dX5_work_179 ?_
      refine lv_iload_n hx hb dX5_work_182 rfl (lv_at hl 5 rfl) ?_
      refine x_zald hx hb hE hP 4 rfl (k) hk (by decide) (rfl) dX5_work_183 ?_
      refine x_topi (y := 0) (upd_s _ _ _) ?_
      refine x_zast hx hb hE hP hD hS 5 rfl (k) hk (by decide) (rfl) (by decide) (ws' := [(y, .inr (5, [.int th, .int (nI n), .ref d2, .ref d3, .ref d4, .ref d5, .ref d6, .ref d7, .int ru, .int rf, .int hs, .ref d11, .ref d12, .ref d13, .ref d14, .ref d15, .ref d16, .ref d17, .ref d18, .ref d19, .ref d20, .ref d21, .ref d22, .ref d23, .ref d24, .ref d25, .ref d26, .ref d27, .ref d28, .ref d29, .ref d30, .ref d31, .ref d32, .ref d33, .ref d34, .ref d35, .ref d36, .ref d37])), (d25, .inl (cJ, 40, .inr (.inl xa))), (d26, .inl (cJ, 40, .inr (.inl xb))), (d24, .inl (cI, 40, .inl nv)), (d27, .inl (cZ, 40, .inl (upd (upd ya k 0) k 0))), (d28, .inl (cZ, 40, .inl (upd (upd yb k 0) k 0))), (d29, .inl (cJ, 40, .inr (.inl za))), (d30, .inl (cJ, 40, .inr (.inl zb))), (d2, .inl (cI, 40, .inl mo)), (d3, .inl (cI, 40, .inl ma)), (d4, .inl (cI, 40, .inl mb)), (d5, .inl (cI, 40, .inl mk))]) (rfl) dX5_work_184 (fun H locs hP hD hS => ?_)
      refine lv_aload_n hx hb dX5_work_185 rfl (lv_at hl 4 rfl) ?_
      refine va_get (D := D) (ci := 5) (v := .ref d29) (C := RX5) (T := TX5) (N := 38) hx hb hts hinX5 hown hK hP 0 rfl rfl 29 (by decide) (hts (.fieldLink RX5 84 "LedgerSharesModel" "givenA" "[J") (List.mem_of_getElem? (i := 10) rfl)) (fun _ h9 => h9) rfl dX5_work_186 ?_
      refine lv_iload_n hx hb dX5_work_189 rfl (lv_at hl 5 rfl) ?_
      refine lv_lload_n hx hb dX5_work_190 rfl (lv_at hl 3 rfl) ?_
      refine lv_lload hx hb dX5_work_191 (lv_at hl 1 rfl) ?_
      refine lv_lsub hx hb dX5_work_193 ?_
      refine x_last hx hb hE hP hD hS 6 rfl (k) hk (by decide) (rfl) (ws' := [(y, .inr (5, [.int th, .int (nI n), .ref d2, .ref d3, .ref d4, .ref d5, .ref d6, .ref d7, .int ru, .int rf, .int hs, .ref d11, .ref d12, .ref d13, .ref d14, .ref d15, .ref d16, .ref d17, .ref d18, .ref d19, .ref d20, .ref d21, .ref d22, .ref d23, .ref d24, .ref d25, .ref d26, .ref d27, .ref d28, .ref d29, .ref d30, .ref d31, .ref d32, .ref d33, .ref d34, .ref d35, .ref d36, .ref d37])), (d25, .inl (cJ, 40, .inr (.inl xa))), (d26, .inl (cJ, 40, .inr (.inl xb))), (d24, .inl (cI, 40, .inl nv)), (d27, .inl (cZ, 40, .inl (upd (upd ya k 0) k 0))), (d28, .inl (cZ, 40, .inl (upd (upd yb k 0) k 0))), (d29, .inl (cJ, 40, .inr (.inl (vp_updL za k ((xa k) - (Int32.toInt64 (mk k))))))), (d30, .inl (cJ, 40, .inr (.inl zb))), (d2, .inl (cI, 40, .inl mo)), (d3, .inl (cI, 40, .inl ma)), (d4, .inl (cI, 40, .inl mb)), (d5, .inl (cI, 40, .inl mk))]) (rfl) dX5_work_194 (fun H locs hP hD hS => ?_)
      refine lv_aload_n hx hb dX5_work_195 rfl (lv_at hl 4 rfl) ?_
      refine va_get (D := D) (ci := 5) (v := .ref d30) (C := RX5) (T := TX5) (N := 38) hx hb hts hinX5 hown hK hP 0 rfl rfl 30 (by decide) (hts (.fieldLink RX5 87 "LedgerSharesModel" "givenB" "[J") (List.mem_of_getElem? (i := 7) rfl)) (fun _ h9 => h9) rfl dX5_work_196 ?_
      refine lv_iload_n hx hb dX5_work_199 rfl (lv_at hl 5 rfl) ?_
      refine lv_lload hx hb dX5_work_200 (lv_at hl 2 rfl) ?_
      refine lv_lload hx hb dX5_work_202 (lv_at hl 1 rfl) ?_
      refine lv_ladd hx hb dX5_work_204 ?_
      refine x_last hx hb hE hP hD hS 7 rfl (k) hk (by decide) (rfl) (ws' := [(y, .inr (5, [.int th, .int (nI n), .ref d2, .ref d3, .ref d4, .ref d5, .ref d6, .ref d7, .int ru, .int rf, .int hs, .ref d11, .ref d12, .ref d13, .ref d14, .ref d15, .ref d16, .ref d17, .ref d18, .ref d19, .ref d20, .ref d21, .ref d22, .ref d23, .ref d24, .ref d25, .ref d26, .ref d27, .ref d28, .ref d29, .ref d30, .ref d31, .ref d32, .ref d33, .ref d34, .ref d35, .ref d36, .ref d37])), (d25, .inl (cJ, 40, .inr (.inl xa))), (d26, .inl (cJ, 40, .inr (.inl xb))), (d24, .inl (cI, 40, .inl nv)), (d27, .inl (cZ, 40, .inl (upd (upd ya k 0) k 0))), (d28, .inl (cZ, 40, .inl (upd (upd yb k 0) k 0))), (d29, .inl (cJ, 40, .inr (.inl (vp_updL za k ((xa k) - (Int32.toInt64 (mk k))))))), (d30, .inl (cJ, 40, .inr (.inl (vp_updL zb k ((xb k) + (Int32.toInt64 (mk k))))))), (d2, .inl (cI, 40, .inl mo)), (d3, .inl (cI, 40, .inl ma)), (d4, .inl (cI, 40, .inl mb)), (d5, .inl (cI, 40, .inl mk))]) (rfl) dX5_work_205 (fun H locs hP hD hS => ?_)
      refine lv_goto (tgt := 296) hx hb dX5_work_206 (by decide) ?_
      refine lv_aload_n hx hb dX5_work_296 rfl (lv_at hl 4 rfl) ?_
      refine va_get (D := D) (ci := 5) (v := .ref d24) (C := RX5) (T := TX5) (N := 38) hx hb hts hinX5 hown hK hP 0 rfl rfl 24 (by decide) (hts (.fieldLink RX5 68 "LedgerSharesModel" "outcome" "[I") (List.mem_of_getElem? (i := 11) rfl)) (fun _ h9 => h9) rfl dX5_work_297 ?_
      refine lv_iload_n hx hb dX5_work_300 rfl (lv_at hl 5 rfl) ?_
      refine lv_iload hx hb dX5_work_301 (lv_at hl 0 rfl) ?_
      refine lv_if_eq (tgt := 310) hx hb dX5_work_303 (by decide) (fun c303 => absurd c303 (by decide)) (fun c303 => ?_)
      refine lv_iconst (v := 2) hx hb dX5_work_306 (by decide) ?_
      refine lv_goto (tgt := 311) hx hb dX5_work_307 (by decide) ?_
      refine x_iast hx hb hE hP hD hS 3 rfl (k) hk (by decide) (rfl) (ws' := [(y, .inr (5, [.int th, .int (nI n), .ref d2, .ref d3, .ref d4, .ref d5, .ref d6, .ref d7, .int ru, .int rf, .int hs, .ref d11, .ref d12, .ref d13, .ref d14, .ref d15, .ref d16, .ref d17, .ref d18, .ref d19, .ref d20, .ref d21, .ref d22, .ref d23, .ref d24, .ref d25, .ref d26, .ref d27, .ref d28, .ref d29, .ref d30, .ref d31, .ref d32, .ref d33, .ref d34, .ref d35, .ref d36, .ref d37])), (d25, .inl (cJ, 40, .inr (.inl xa))), (d26, .inl (cJ, 40, .inr (.inl xb))), (d24, .inl (cI, 40, .inl (upd nv k 2))), (d27, .inl (cZ, 40, .inl (upd (upd ya k 0) k 0))), (d28, .inl (cZ, 40, .inl (upd (upd yb k 0) k 0))), (d29, .inl (cJ, 40, .inr (.inl (vp_updL za k ((xa k) - (Int32.toInt64 (mk k))))))), (d30, .inl (cJ, 40, .inr (.inl (vp_updL zb k ((xb k) + (Int32.toInt64 (mk k))))))), (d2, .inl (cI, 40, .inl mo)), (d3, .inl (cI, 40, .inl ma)), (d4, .inl (cI, 40, .inl mb)), (d5, .inl (cI, 40, .inl mk))]) (rfl) dX5_work_311 (fun H locs hP hD hS => ?_)
      have w_nv : (upd nv k 2) = (upd nv k (wOut (mo k) (xa k) (xb k) (Int32.toInt64 (mk k)))) := by simp [wOut, wChA, wChB, wGA, wGB, upd_upd, updL_updL, upd_s, e47, c125]
      have w_ya : (upd (upd ya k 0) k 0) = (upd ya k (wChA (mo k) (ma k) (mb k) (xa k) (Int32.toInt64 (mk k)))) := by simp [wOut, wChA, wChB, wGA, wGB, upd_upd, updL_updL, upd_s, e47, c125]
      have w_yb : (upd (upd yb k 0) k 0) = (upd yb k (wChB (mo k) (ma k) (mb k) (xa k) (xb k) (Int32.toInt64 (mk k)))) := by simp [wOut, wChA, wChB, wGA, wGB, upd_upd, updL_updL, upd_s, e47, c125]
      have w_za : (vp_updL za k ((xa k) - (Int32.toInt64 (mk k)))) = (if (mo k) = 2 ∨ (mo k) = 4 then vp_updL za k (wGA (mo k) (xa k) (xb k) (Int32.toInt64 (mk k))) else za) := by simp [wOut, wChA, wChB, wGA, wGB, upd_upd, updL_updL, upd_s, e47, c125]
      have w_zb : (vp_updL zb k ((xb k) + (Int32.toInt64 (mk k)))) = (if (mo k) = 3 then zb else vp_updL zb k (wGB (mo k) (xa k) (xb k) (Int32.toInt64 (mk k)))) := by simp [wOut, wChA, wChB, wGA, wGB, upd_upd, updL_updL, upd_s, e47, c125]
      rw [w_nv, w_ya, w_yb, w_za, w_zb] at hP hD
      exact W.vret hx hb hr (fun t ht hW => ⟨⟨(), rfl, trivial, by rw [ht]; exact hP, by exact hD⟩, hS.F ht⟩) hS.2.2 dX5_work_312
    · have c125 := _root_.mt (lg_cmp_lt _ _).mpr c125
      refine lv_lload hx hb dX5_work_128 (lv_at hl 1 rfl) ?_
      refine lv_lconst (v := 0) hx hb dX5_work_130 (by decide) ?_
      refine W.lcmp hx hb dX5_work_131 ?_
      refine lv_if_ge (tgt := 139) hx hb dX5_work_132 (by decide) (fun c132 => ?_) (fun c132 => ?_)
      · have c132 := (lg_cmp_ge _ _).mp c132
        refine lv_iconst (v := 0) hx hb dX5_work_139 (by decide) ?_
        refine lv_istore (lv' := [(8, .int 0), (6, .long (Int32.toInt64 (mk k))), (4, .long (xb k)), (2, .long (xa k)), (0, .ref y), (1, .int (nI k))]) hx hb dX5_work_140 hl (by decide) rfl (fun ls hl => ?_)
        refine lv_aload_n hx hb dX5_work_142 rfl (lv_at hl 4 rfl) ?_
        refine va_get (D := D) (ci := 5) (v := .ref d27) (C := RX5) (T := TX5) (N := 38) hx hb hts hinX5 hown hK hP 0 rfl rfl 27 (by decide) (hts (.fieldLink RX5 77 "LedgerSharesModel" "givesA" "[Z") (List.mem_of_getElem? (i := 4) rfl)) (fun _ h9 => h9) rfl dX5_work_143 ?_
        refine lv_iload_n hx hb dX5_work_146 rfl (lv_at hl 5 rfl) ?_
        refine lv_iload hx hb dX5_work_147 (lv_at hl 0 rfl) ?_
        refine lv_if_ne (tgt := 171) hx hb dX5_work_149 (by decide) (fun c149 => absurd (by decide) c149) (fun c149 => ?_)
        refine lv_aload_n hx hb dX5_work_152 rfl (lv_at hl 4 rfl) ?_
        refine va_get (D := D) (ci := 5) (v := .ref d3) (C := RX5) (T := TX5) (N := 38) hx hb hts hinX5 hown hK hP 0 rfl rfl 3 (by decide) (hts (.fieldLink RX5 13 "LedgerSharesModel" "as" "[I") (List.mem_of_getElem? (i := 8) rfl)) (fun _ h9 => h9) rfl dX5_work_153 ?_
        refine lv_iload_n hx hb dX5_work_156 rfl (lv_at hl 5 rfl) ?_
        refine x_iald hx hb hE hP 9 rfl (k) hk (by decide) (rfl) dX5_work_157 ?_
        refine lv_aload_n hx hb dX5_work_158 rfl (lv_at hl 4 rfl) ?_
        refine va_get (D := D) (ci := 5) (v := .ref d4) (C := RX5) (T := TX5) (N := 38) hx hb hts hinX5 hown hK hP 0 rfl rfl 4 (by decide) (hts (.fieldLink RX5 16 "LedgerSharesModel" "bs" "[I") (List.mem_of_getElem? (i := 9) rfl)) (fun _ h9 => h9) rfl dX5_work_159 ?_
        refine lv_iload_n hx hb dX5_work_162 rfl (lv_at hl 5 rfl) ?_
        refine x_iald hx hb hE hP 10 rfl (k) hk (by decide) (rfl) dX5_work_163 ?_
        refine lv_icmp_eq (tgt := 171) hx hb dX5_work_164 (by decide) (fun c164 => ?_) (fun c164 => ?_)
        · refine lv_iconst (v := 0) hx hb dX5_work_171 (by decide) ?_
          refine x_zast hx hb hE hP hD hS 4 rfl (k) hk (by decide) (rfl) (by decide) (ws' := [(y, .inr (5, [.int th, .int (nI n), .ref d2, .ref d3, .ref d4, .ref d5, .ref d6, .ref d7, .int ru, .int rf, .int hs, .ref d11, .ref d12, .ref d13, .ref d14, .ref d15, .ref d16, .ref d17, .ref d18, .ref d19, .ref d20, .ref d21, .ref d22, .ref d23, .ref d24, .ref d25, .ref d26, .ref d27, .ref d28, .ref d29, .ref d30, .ref d31, .ref d32, .ref d33, .ref d34, .ref d35, .ref d36, .ref d37])), (d25, .inl (cJ, 40, .inr (.inl xa))), (d26, .inl (cJ, 40, .inr (.inl xb))), (d24, .inl (cI, 40, .inl nv)), (d27, .inl (cZ, 40, .inl (upd (upd ya k 0) k 0))), (d28, .inl (cZ, 40, .inl (upd yb k 0))), (d29, .inl (cJ, 40, .inr (.inl za))), (d30, .inl (cJ, 40, .inr (.inl zb))), (d2, .inl (cI, 40, .inl mo)), (d3, .inl (cI, 40, .inl ma)), (d4, .inl (cI, 40, .inl mb)), (d5, .inl (cI, 40, .inl mk))]) (rfl) dX5_work_172 (fun H locs hP hD hS => ?_)
          refine lv_aload_n hx hb dX5_work_173 rfl (lv_at hl 4 rfl) ?_
          refine va_get (D := D) (ci := 5) (v := .ref d28) (C := RX5) (T := TX5) (N := 38) hx hb hts hinX5 hown hK hP 0 rfl rfl 28 (by decide) (hts (.fieldLink RX5 81 "LedgerSharesModel" "givesB" "[Z") (List.mem_of_getElem? (i := 5) rfl)) (fun _ h9 => h9) rfl dX5_work_174 ?_
          refine lv_iload_n hx hb dX5_work_177 rfl (lv_at hl 5 rfl) ?_
          refine lv_aload_n hx hb dX5_work_178 rfl (lv_at hl 4 rfl) ?_
          refine va_get (D := D) (ci := 5) (v := .ref d27) (C := RX5) (T := TX5) (N := 38) hx hb hts hinX5 hown hK hP 0 rfl rfl 27 (by decide) (hts (.fieldLink RX5 77 "LedgerSharesModel" "givesA" "[Z") (List.mem_of_getElem? (i := 4) rfl)) (fun _ h9 => h9) rfl dX5_work_179 ?_
          refine lv_iload_n hx hb dX5_work_182 rfl (lv_at hl 5 rfl) ?_
          refine x_zald hx hb hE hP 4 rfl (k) hk (by decide) (rfl) dX5_work_183 ?_
          refine x_topi (y := 0) (upd_s _ _ _) ?_
          refine x_zast hx hb hE hP hD hS 5 rfl (k) hk (by decide) (rfl) (by decide) (ws' := [(y, .inr (5, [.int th, .int (nI n), .ref d2, .ref d3, .ref d4, .ref d5, .ref d6, .ref d7, .int ru, .int rf, .int hs, .ref d11, .ref d12, .ref d13, .ref d14, .ref d15, .ref d16, .ref d17, .ref d18, .ref d19, .ref d20, .ref d21, .ref d22, .ref d23, .ref d24, .ref d25, .ref d26, .ref d27, .ref d28, .ref d29, .ref d30, .ref d31, .ref d32, .ref d33, .ref d34, .ref d35, .ref d36, .ref d37])), (d25, .inl (cJ, 40, .inr (.inl xa))), (d26, .inl (cJ, 40, .inr (.inl xb))), (d24, .inl (cI, 40, .inl nv)), (d27, .inl (cZ, 40, .inl (upd (upd ya k 0) k 0))), (d28, .inl (cZ, 40, .inl (upd (upd yb k 0) k 0))), (d29, .inl (cJ, 40, .inr (.inl za))), (d30, .inl (cJ, 40, .inr (.inl zb))), (d2, .inl (cI, 40, .inl mo)), (d3, .inl (cI, 40, .inl ma)), (d4, .inl (cI, 40, .inl mb)), (d5, .inl (cI, 40, .inl mk))]) (rfl) dX5_work_184 (fun H locs hP hD hS => ?_)
          refine lv_aload_n hx hb dX5_work_185 rfl (lv_at hl 4 rfl) ?_
          refine va_get (D := D) (ci := 5) (v := .ref d29) (C := RX5) (T := TX5) (N := 38) hx hb hts hinX5 hown hK hP 0 rfl rfl 29 (by decide) (hts (.fieldLink RX5 84 "LedgerSharesModel" "givenA" "[J") (List.mem_of_getElem? (i := 10) rfl)) (fun _ h9 => h9) rfl dX5_work_186 ?_
          refine lv_iload_n hx hb dX5_work_189 rfl (lv_at hl 5 rfl) ?_
          refine lv_lload_n hx hb dX5_work_190 rfl (lv_at hl 3 rfl) ?_
          refine lv_lload hx hb dX5_work_191 (lv_at hl 1 rfl) ?_
          refine lv_lsub hx hb dX5_work_193 ?_
          refine x_last hx hb hE hP hD hS 6 rfl (k) hk (by decide) (rfl) (ws' := [(y, .inr (5, [.int th, .int (nI n), .ref d2, .ref d3, .ref d4, .ref d5, .ref d6, .ref d7, .int ru, .int rf, .int hs, .ref d11, .ref d12, .ref d13, .ref d14, .ref d15, .ref d16, .ref d17, .ref d18, .ref d19, .ref d20, .ref d21, .ref d22, .ref d23, .ref d24, .ref d25, .ref d26, .ref d27, .ref d28, .ref d29, .ref d30, .ref d31, .ref d32, .ref d33, .ref d34, .ref d35, .ref d36, .ref d37])), (d25, .inl (cJ, 40, .inr (.inl xa))), (d26, .inl (cJ, 40, .inr (.inl xb))), (d24, .inl (cI, 40, .inl nv)), (d27, .inl (cZ, 40, .inl (upd (upd ya k 0) k 0))), (d28, .inl (cZ, 40, .inl (upd (upd yb k 0) k 0))), (d29, .inl (cJ, 40, .inr (.inl (vp_updL za k ((xa k) - (Int32.toInt64 (mk k))))))), (d30, .inl (cJ, 40, .inr (.inl zb))), (d2, .inl (cI, 40, .inl mo)), (d3, .inl (cI, 40, .inl ma)), (d4, .inl (cI, 40, .inl mb)), (d5, .inl (cI, 40, .inl mk))]) (rfl) dX5_work_194 (fun H locs hP hD hS => ?_)
          refine lv_aload_n hx hb dX5_work_195 rfl (lv_at hl 4 rfl) ?_
          refine va_get (D := D) (ci := 5) (v := .ref d30) (C := RX5) (T := TX5) (N := 38) hx hb hts hinX5 hown hK hP 0 rfl rfl 30 (by decide) (hts (.fieldLink RX5 87 "LedgerSharesModel" "givenB" "[J") (List.mem_of_getElem? (i := 7) rfl)) (fun _ h9 => h9) rfl dX5_work_196 ?_
          refine lv_iload_n hx hb dX5_work_199 rfl (lv_at hl 5 rfl) ?_
          refine lv_lload hx hb dX5_work_200 (lv_at hl 2 rfl) ?_
          refine lv_lload hx hb dX5_work_202 (lv_at hl 1 rfl) ?_
          refine lv_ladd hx hb dX5_work_204 ?_
          refine x_last hx hb hE hP hD hS 7 rfl (k) hk (by decide) (rfl) (ws' := [(y, .inr (5, [.int th, .int (nI n), .ref d2, .ref d3, .ref d4, .ref d5, .ref d6, .ref d7, .int ru, .int rf, .int hs, .ref d11, .ref d12, .ref d13, .ref d14, .ref d15, .ref d16, .ref d17, .ref d18, .ref d19, .ref d20, .ref d21, .ref d22, .ref d23, .ref d24, .ref d25, .ref d26, .ref d27, .ref d28, .ref d29, .ref d30, .ref d31, .ref d32, .ref d33, .ref d34, .ref d35, .ref d36, .ref d37])), (d25, .inl (cJ, 40, .inr (.inl xa))), (d26, .inl (cJ, 40, .inr (.inl xb))), (d24, .inl (cI, 40, .inl nv)), (d27, .inl (cZ, 40, .inl (upd (upd ya k 0) k 0))), (d28, .inl (cZ, 40, .inl (upd (upd yb k 0) k 0))), (d29, .inl (cJ, 40, .inr (.inl (vp_updL za k ((xa k) - (Int32.toInt64 (mk k))))))), (d30, .inl (cJ, 40, .inr (.inl (vp_updL zb k ((xb k) + (Int32.toInt64 (mk k))))))), (d2, .inl (cI, 40, .inl mo)), (d3, .inl (cI, 40, .inl ma)), (d4, .inl (cI, 40, .inl mb)), (d5, .inl (cI, 40, .inl mk))]) (rfl) dX5_work_205 (fun H locs hP hD hS => ?_)
          refine lv_goto (tgt := 296) hx hb dX5_work_206 (by decide) ?_
          refine lv_aload_n hx hb dX5_work_296 rfl (lv_at hl 4 rfl) ?_
          refine va_get (D := D) (ci := 5) (v := .ref d24) (C := RX5) (T := TX5) (N := 38) hx hb hts hinX5 hown hK hP 0 rfl rfl 24 (by decide) (hts (.fieldLink RX5 68 "LedgerSharesModel" "outcome" "[I") (List.mem_of_getElem? (i := 11) rfl)) (fun _ h9 => h9) rfl dX5_work_297 ?_
          refine lv_iload_n hx hb dX5_work_300 rfl (lv_at hl 5 rfl) ?_
          refine lv_iload hx hb dX5_work_301 (lv_at hl 0 rfl) ?_
          refine lv_if_eq (tgt := 310) hx hb dX5_work_303 (by decide) (fun c303 => ?_) (fun c303 => absurd c303 (by decide))
          refine lv_iconst (v := 1) hx hb dX5_work_310 (by decide) ?_
          refine x_iast hx hb hE hP hD hS 3 rfl (k) hk (by decide) (rfl) (ws' := [(y, .inr (5, [.int th, .int (nI n), .ref d2, .ref d3, .ref d4, .ref d5, .ref d6, .ref d7, .int ru, .int rf, .int hs, .ref d11, .ref d12, .ref d13, .ref d14, .ref d15, .ref d16, .ref d17, .ref d18, .ref d19, .ref d20, .ref d21, .ref d22, .ref d23, .ref d24, .ref d25, .ref d26, .ref d27, .ref d28, .ref d29, .ref d30, .ref d31, .ref d32, .ref d33, .ref d34, .ref d35, .ref d36, .ref d37])), (d25, .inl (cJ, 40, .inr (.inl xa))), (d26, .inl (cJ, 40, .inr (.inl xb))), (d24, .inl (cI, 40, .inl (upd nv k 1))), (d27, .inl (cZ, 40, .inl (upd (upd ya k 0) k 0))), (d28, .inl (cZ, 40, .inl (upd (upd yb k 0) k 0))), (d29, .inl (cJ, 40, .inr (.inl (vp_updL za k ((xa k) - (Int32.toInt64 (mk k))))))), (d30, .inl (cJ, 40, .inr (.inl (vp_updL zb k ((xb k) + (Int32.toInt64 (mk k))))))), (d2, .inl (cI, 40, .inl mo)), (d3, .inl (cI, 40, .inl ma)), (d4, .inl (cI, 40, .inl mb)), (d5, .inl (cI, 40, .inl mk))]) (rfl) dX5_work_311 (fun H locs hP hD hS => ?_)
          have k132 := Int64.not_lt.mpr c132
          have w_nv : (upd nv k 1) = (upd nv k (wOut (mo k) (xa k) (xb k) (Int32.toInt64 (mk k)))) := by simp [wOut, wChA, wChB, wGA, wGB, upd_upd, updL_updL, upd_s, e47, c125, c132, c164, k132]
          have w_ya : (upd (upd ya k 0) k 0) = (upd ya k (wChA (mo k) (ma k) (mb k) (xa k) (Int32.toInt64 (mk k)))) := by simp [wOut, wChA, wChB, wGA, wGB, upd_upd, updL_updL, upd_s, e47, c125, c132, c164, k132]
          have w_yb : (upd (upd yb k 0) k 0) = (upd yb k (wChB (mo k) (ma k) (mb k) (xa k) (xb k) (Int32.toInt64 (mk k)))) := by simp [wOut, wChA, wChB, wGA, wGB, upd_upd, updL_updL, upd_s, e47, c125, c132, c164, k132]
          have w_za : (vp_updL za k ((xa k) - (Int32.toInt64 (mk k)))) = (if (mo k) = 2 ∨ (mo k) = 4 then vp_updL za k (wGA (mo k) (xa k) (xb k) (Int32.toInt64 (mk k))) else za) := by simp [wOut, wChA, wChB, wGA, wGB, upd_upd, updL_updL, upd_s, e47, c125, c132, c164, k132]
          have w_zb : (vp_updL zb k ((xb k) + (Int32.toInt64 (mk k)))) = (if (mo k) = 3 then zb else vp_updL zb k (wGB (mo k) (xa k) (xb k) (Int32.toInt64 (mk k)))) := by simp [wOut, wChA, wChB, wGA, wGB, upd_upd, updL_updL, upd_s, e47, c125, c132, c164, k132]
          rw [w_nv, w_ya, w_yb, w_za, w_zb] at hP hD
          exact W.vret hx hb hr (fun t ht hW => ⟨⟨(), rfl, trivial, by rw [ht]; exact hP, by exact hD⟩, hS.F ht⟩) hS.2.2 dX5_work_312
        · refine lv_iconst (v := 1) hx hb dX5_work_167 (by decide) ?_
          refine lv_goto (tgt := 172) hx hb dX5_work_168 (by decide) ?_
          refine x_zast hx hb hE hP hD hS 4 rfl (k) hk (by decide) (rfl) (by decide) (ws' := [(y, .inr (5, [.int th, .int (nI n), .ref d2, .ref d3, .ref d4, .ref d5, .ref d6, .ref d7, .int ru, .int rf, .int hs, .ref d11, .ref d12, .ref d13, .ref d14, .ref d15, .ref d16, .ref d17, .ref d18, .ref d19, .ref d20, .ref d21, .ref d22, .ref d23, .ref d24, .ref d25, .ref d26, .ref d27, .ref d28, .ref d29, .ref d30, .ref d31, .ref d32, .ref d33, .ref d34, .ref d35, .ref d36, .ref d37])), (d25, .inl (cJ, 40, .inr (.inl xa))), (d26, .inl (cJ, 40, .inr (.inl xb))), (d24, .inl (cI, 40, .inl nv)), (d27, .inl (cZ, 40, .inl (upd (upd ya k 0) k 1))), (d28, .inl (cZ, 40, .inl (upd yb k 0))), (d29, .inl (cJ, 40, .inr (.inl za))), (d30, .inl (cJ, 40, .inr (.inl zb))), (d2, .inl (cI, 40, .inl mo)), (d3, .inl (cI, 40, .inl ma)), (d4, .inl (cI, 40, .inl mb)), (d5, .inl (cI, 40, .inl mk))]) (rfl) dX5_work_172 (fun H locs hP hD hS => ?_)
          refine lv_aload_n hx hb dX5_work_173 rfl (lv_at hl 4 rfl) ?_
          refine va_get (D := D) (ci := 5) (v := .ref d28) (C := RX5) (T := TX5) (N := 38) hx hb hts hinX5 hown hK hP 0 rfl rfl 28 (by decide) (hts (.fieldLink RX5 81 "LedgerSharesModel" "givesB" "[Z") (List.mem_of_getElem? (i := 5) rfl)) (fun _ h9 => h9) rfl dX5_work_174 ?_
          refine lv_iload_n hx hb dX5_work_177 rfl (lv_at hl 5 rfl) ?_
          refine lv_aload_n hx hb dX5_work_178 rfl (lv_at hl 4 rfl) ?_
          refine va_get (D := D) (ci := 5) (v := .ref d27) (C := RX5) (T := TX5) (N := 38) hx hb hts hinX5 hown hK hP 0 rfl rfl 27 (by decide) (hts (.fieldLink RX5 77 "LedgerSharesModel" "givesA" "[Z") (List.mem_of_getElem? (i := 4) rfl)) (fun _ h9 => h9) rfl dX5_work_179 ?_
          refine lv_iload_n hx hb dX5_work_182 rfl (lv_at hl 5 rfl) ?_
          refine x_zald hx hb hE hP 4 rfl (k) hk (by decide) (rfl) dX5_work_183 ?_
          refine x_topi (y := 1) (upd_s _ _ _) ?_
          refine x_zast hx hb hE hP hD hS 5 rfl (k) hk (by decide) (rfl) (by decide) (ws' := [(y, .inr (5, [.int th, .int (nI n), .ref d2, .ref d3, .ref d4, .ref d5, .ref d6, .ref d7, .int ru, .int rf, .int hs, .ref d11, .ref d12, .ref d13, .ref d14, .ref d15, .ref d16, .ref d17, .ref d18, .ref d19, .ref d20, .ref d21, .ref d22, .ref d23, .ref d24, .ref d25, .ref d26, .ref d27, .ref d28, .ref d29, .ref d30, .ref d31, .ref d32, .ref d33, .ref d34, .ref d35, .ref d36, .ref d37])), (d25, .inl (cJ, 40, .inr (.inl xa))), (d26, .inl (cJ, 40, .inr (.inl xb))), (d24, .inl (cI, 40, .inl nv)), (d27, .inl (cZ, 40, .inl (upd (upd ya k 0) k 1))), (d28, .inl (cZ, 40, .inl (upd (upd yb k 0) k 1))), (d29, .inl (cJ, 40, .inr (.inl za))), (d30, .inl (cJ, 40, .inr (.inl zb))), (d2, .inl (cI, 40, .inl mo)), (d3, .inl (cI, 40, .inl ma)), (d4, .inl (cI, 40, .inl mb)), (d5, .inl (cI, 40, .inl mk))]) (rfl) dX5_work_184 (fun H locs hP hD hS => ?_)
          refine lv_aload_n hx hb dX5_work_185 rfl (lv_at hl 4 rfl) ?_
          refine va_get (D := D) (ci := 5) (v := .ref d29) (C := RX5) (T := TX5) (N := 38) hx hb hts hinX5 hown hK hP 0 rfl rfl 29 (by decide) (hts (.fieldLink RX5 84 "LedgerSharesModel" "givenA" "[J") (List.mem_of_getElem? (i := 10) rfl)) (fun _ h9 => h9) rfl dX5_work_186 ?_
          refine lv_iload_n hx hb dX5_work_189 rfl (lv_at hl 5 rfl) ?_
          refine lv_lload_n hx hb dX5_work_190 rfl (lv_at hl 3 rfl) ?_
          refine lv_lload hx hb dX5_work_191 (lv_at hl 1 rfl) ?_
          refine lv_lsub hx hb dX5_work_193 ?_
          refine x_last hx hb hE hP hD hS 6 rfl (k) hk (by decide) (rfl) (ws' := [(y, .inr (5, [.int th, .int (nI n), .ref d2, .ref d3, .ref d4, .ref d5, .ref d6, .ref d7, .int ru, .int rf, .int hs, .ref d11, .ref d12, .ref d13, .ref d14, .ref d15, .ref d16, .ref d17, .ref d18, .ref d19, .ref d20, .ref d21, .ref d22, .ref d23, .ref d24, .ref d25, .ref d26, .ref d27, .ref d28, .ref d29, .ref d30, .ref d31, .ref d32, .ref d33, .ref d34, .ref d35, .ref d36, .ref d37])), (d25, .inl (cJ, 40, .inr (.inl xa))), (d26, .inl (cJ, 40, .inr (.inl xb))), (d24, .inl (cI, 40, .inl nv)), (d27, .inl (cZ, 40, .inl (upd (upd ya k 0) k 1))), (d28, .inl (cZ, 40, .inl (upd (upd yb k 0) k 1))), (d29, .inl (cJ, 40, .inr (.inl (vp_updL za k ((xa k) - (Int32.toInt64 (mk k))))))), (d30, .inl (cJ, 40, .inr (.inl zb))), (d2, .inl (cI, 40, .inl mo)), (d3, .inl (cI, 40, .inl ma)), (d4, .inl (cI, 40, .inl mb)), (d5, .inl (cI, 40, .inl mk))]) (rfl) dX5_work_194 (fun H locs hP hD hS => ?_)
          refine lv_aload_n hx hb dX5_work_195 rfl (lv_at hl 4 rfl) ?_
          refine va_get (D := D) (ci := 5) (v := .ref d30) (C := RX5) (T := TX5) (N := 38) hx hb hts hinX5 hown hK hP 0 rfl rfl 30 (by decide) (hts (.fieldLink RX5 87 "LedgerSharesModel" "givenB" "[J") (List.mem_of_getElem? (i := 7) rfl)) (fun _ h9 => h9) rfl dX5_work_196 ?_
          refine lv_iload_n hx hb dX5_work_199 rfl (lv_at hl 5 rfl) ?_
          refine lv_lload hx hb dX5_work_200 (lv_at hl 2 rfl) ?_
          refine lv_lload hx hb dX5_work_202 (lv_at hl 1 rfl) ?_
          refine lv_ladd hx hb dX5_work_204 ?_
          refine x_last hx hb hE hP hD hS 7 rfl (k) hk (by decide) (rfl) (ws' := [(y, .inr (5, [.int th, .int (nI n), .ref d2, .ref d3, .ref d4, .ref d5, .ref d6, .ref d7, .int ru, .int rf, .int hs, .ref d11, .ref d12, .ref d13, .ref d14, .ref d15, .ref d16, .ref d17, .ref d18, .ref d19, .ref d20, .ref d21, .ref d22, .ref d23, .ref d24, .ref d25, .ref d26, .ref d27, .ref d28, .ref d29, .ref d30, .ref d31, .ref d32, .ref d33, .ref d34, .ref d35, .ref d36, .ref d37])), (d25, .inl (cJ, 40, .inr (.inl xa))), (d26, .inl (cJ, 40, .inr (.inl xb))), (d24, .inl (cI, 40, .inl nv)), (d27, .inl (cZ, 40, .inl (upd (upd ya k 0) k 1))), (d28, .inl (cZ, 40, .inl (upd (upd yb k 0) k 1))), (d29, .inl (cJ, 40, .inr (.inl (vp_updL za k ((xa k) - (Int32.toInt64 (mk k))))))), (d30, .inl (cJ, 40, .inr (.inl (vp_updL zb k ((xb k) + (Int32.toInt64 (mk k))))))), (d2, .inl (cI, 40, .inl mo)), (d3, .inl (cI, 40, .inl ma)), (d4, .inl (cI, 40, .inl mb)), (d5, .inl (cI, 40, .inl mk))]) (rfl) dX5_work_205 (fun H locs hP hD hS => ?_)
          refine lv_goto (tgt := 296) hx hb dX5_work_206 (by decide) ?_
          refine lv_aload_n hx hb dX5_work_296 rfl (lv_at hl 4 rfl) ?_
          refine va_get (D := D) (ci := 5) (v := .ref d24) (C := RX5) (T := TX5) (N := 38) hx hb hts hinX5 hown hK hP 0 rfl rfl 24 (by decide) (hts (.fieldLink RX5 68 "LedgerSharesModel" "outcome" "[I") (List.mem_of_getElem? (i := 11) rfl)) (fun _ h9 => h9) rfl dX5_work_297 ?_
          refine lv_iload_n hx hb dX5_work_300 rfl (lv_at hl 5 rfl) ?_
          refine lv_iload hx hb dX5_work_301 (lv_at hl 0 rfl) ?_
          refine lv_if_eq (tgt := 310) hx hb dX5_work_303 (by decide) (fun c303 => ?_) (fun c303 => absurd c303 (by decide))
          refine lv_iconst (v := 1) hx hb dX5_work_310 (by decide) ?_
          refine x_iast hx hb hE hP hD hS 3 rfl (k) hk (by decide) (rfl) (ws' := [(y, .inr (5, [.int th, .int (nI n), .ref d2, .ref d3, .ref d4, .ref d5, .ref d6, .ref d7, .int ru, .int rf, .int hs, .ref d11, .ref d12, .ref d13, .ref d14, .ref d15, .ref d16, .ref d17, .ref d18, .ref d19, .ref d20, .ref d21, .ref d22, .ref d23, .ref d24, .ref d25, .ref d26, .ref d27, .ref d28, .ref d29, .ref d30, .ref d31, .ref d32, .ref d33, .ref d34, .ref d35, .ref d36, .ref d37])), (d25, .inl (cJ, 40, .inr (.inl xa))), (d26, .inl (cJ, 40, .inr (.inl xb))), (d24, .inl (cI, 40, .inl (upd nv k 1))), (d27, .inl (cZ, 40, .inl (upd (upd ya k 0) k 1))), (d28, .inl (cZ, 40, .inl (upd (upd yb k 0) k 1))), (d29, .inl (cJ, 40, .inr (.inl (vp_updL za k ((xa k) - (Int32.toInt64 (mk k))))))), (d30, .inl (cJ, 40, .inr (.inl (vp_updL zb k ((xb k) + (Int32.toInt64 (mk k))))))), (d2, .inl (cI, 40, .inl mo)), (d3, .inl (cI, 40, .inl ma)), (d4, .inl (cI, 40, .inl mb)), (d5, .inl (cI, 40, .inl mk))]) (rfl) dX5_work_311 (fun H locs hP hD hS => ?_)
          have k132 := Int64.not_lt.mpr c132
          have w_nv : (upd nv k 1) = (upd nv k (wOut (mo k) (xa k) (xb k) (Int32.toInt64 (mk k)))) := by simp [wOut, wChA, wChB, wGA, wGB, upd_upd, updL_updL, upd_s, e47, c125, c132, c164, k132]
          have w_ya : (upd (upd ya k 0) k 1) = (upd ya k (wChA (mo k) (ma k) (mb k) (xa k) (Int32.toInt64 (mk k)))) := by simp [wOut, wChA, wChB, wGA, wGB, upd_upd, updL_updL, upd_s, e47, c125, c132, c164, k132]
          have w_yb : (upd (upd yb k 0) k 1) = (upd yb k (wChB (mo k) (ma k) (mb k) (xa k) (xb k) (Int32.toInt64 (mk k)))) := by simp [wOut, wChA, wChB, wGA, wGB, upd_upd, updL_updL, upd_s, e47, c125, c132, c164, k132]
          have w_za : (vp_updL za k ((xa k) - (Int32.toInt64 (mk k)))) = (if (mo k) = 2 ∨ (mo k) = 4 then vp_updL za k (wGA (mo k) (xa k) (xb k) (Int32.toInt64 (mk k))) else za) := by simp [wOut, wChA, wChB, wGA, wGB, upd_upd, updL_updL, upd_s, e47, c125, c132, c164, k132]
          have w_zb : (vp_updL zb k ((xb k) + (Int32.toInt64 (mk k)))) = (if (mo k) = 3 then zb else vp_updL zb k (wGB (mo k) (xa k) (xb k) (Int32.toInt64 (mk k)))) := by simp [wOut, wChA, wChB, wGA, wGB, upd_upd, updL_updL, upd_s, e47, c125, c132, c164, k132]
          rw [w_nv, w_ya, w_yb, w_za, w_zb] at hP hD
          exact W.vret hx hb hr (fun t ht hW => ⟨⟨(), rfl, trivial, by rw [ht]; exact hP, by exact hD⟩, hS.F ht⟩) hS.2.2 dX5_work_312
      · have c132 := _root_.mt (lg_cmp_ge _ _).mpr c132
        refine lv_iconst (v := 1) hx hb dX5_work_135 (by decide) ?_
        refine lv_goto (tgt := 140) hx hb dX5_work_136 (by decide) ?_
        refine lv_istore (lv' := [(8, .int 1), (6, .long (Int32.toInt64 (mk k))), (4, .long (xb k)), (2, .long (xa k)), (0, .ref y), (1, .int (nI k))]) hx hb dX5_work_140 hl (by decide) rfl (fun ls hl => ?_)
        refine lv_aload_n hx hb dX5_work_142 rfl (lv_at hl 4 rfl) ?_
        refine va_get (D := D) (ci := 5) (v := .ref d27) (C := RX5) (T := TX5) (N := 38) hx hb hts hinX5 hown hK hP 0 rfl rfl 27 (by decide) (hts (.fieldLink RX5 77 "LedgerSharesModel" "givesA" "[Z") (List.mem_of_getElem? (i := 4) rfl)) (fun _ h9 => h9) rfl dX5_work_143 ?_
        refine lv_iload_n hx hb dX5_work_146 rfl (lv_at hl 5 rfl) ?_
        refine lv_iload hx hb dX5_work_147 (lv_at hl 0 rfl) ?_
        refine lv_if_ne (tgt := 171) hx hb dX5_work_149 (by decide) (fun c149 => ?_) (fun c149 => absurd c149 (by decide))
        refine lv_iconst (v := 0) hx hb dX5_work_171 (by decide) ?_
        refine x_zast hx hb hE hP hD hS 4 rfl (k) hk (by decide) (rfl) (by decide) (ws' := [(y, .inr (5, [.int th, .int (nI n), .ref d2, .ref d3, .ref d4, .ref d5, .ref d6, .ref d7, .int ru, .int rf, .int hs, .ref d11, .ref d12, .ref d13, .ref d14, .ref d15, .ref d16, .ref d17, .ref d18, .ref d19, .ref d20, .ref d21, .ref d22, .ref d23, .ref d24, .ref d25, .ref d26, .ref d27, .ref d28, .ref d29, .ref d30, .ref d31, .ref d32, .ref d33, .ref d34, .ref d35, .ref d36, .ref d37])), (d25, .inl (cJ, 40, .inr (.inl xa))), (d26, .inl (cJ, 40, .inr (.inl xb))), (d24, .inl (cI, 40, .inl nv)), (d27, .inl (cZ, 40, .inl (upd (upd ya k 0) k 0))), (d28, .inl (cZ, 40, .inl (upd yb k 0))), (d29, .inl (cJ, 40, .inr (.inl za))), (d30, .inl (cJ, 40, .inr (.inl zb))), (d2, .inl (cI, 40, .inl mo)), (d3, .inl (cI, 40, .inl ma)), (d4, .inl (cI, 40, .inl mb)), (d5, .inl (cI, 40, .inl mk))]) (rfl) dX5_work_172 (fun H locs hP hD hS => ?_)
        refine lv_aload_n hx hb dX5_work_173 rfl (lv_at hl 4 rfl) ?_
        refine va_get (D := D) (ci := 5) (v := .ref d28) (C := RX5) (T := TX5) (N := 38) hx hb hts hinX5 hown hK hP 0 rfl rfl 28 (by decide) (hts (.fieldLink RX5 81 "LedgerSharesModel" "givesB" "[Z") (List.mem_of_getElem? (i := 5) rfl)) (fun _ h9 => h9) rfl dX5_work_174 ?_
        refine lv_iload_n hx hb dX5_work_177 rfl (lv_at hl 5 rfl) ?_
        refine lv_aload_n hx hb dX5_work_178 rfl (lv_at hl 4 rfl) ?_
        refine va_get (D := D) (ci := 5) (v := .ref d27) (C := RX5) (T := TX5) (N := 38) hx hb hts hinX5 hown hK hP 0 rfl rfl 27 (by decide) (hts (.fieldLink RX5 77 "LedgerSharesModel" "givesA" "[Z") (List.mem_of_getElem? (i := 4) rfl)) (fun _ h9 => h9) rfl dX5_work_179 ?_
        refine lv_iload_n hx hb dX5_work_182 rfl (lv_at hl 5 rfl) ?_
        refine x_zald hx hb hE hP 4 rfl (k) hk (by decide) (rfl) dX5_work_183 ?_
        refine x_topi (y := 0) (upd_s _ _ _) ?_
        refine x_zast hx hb hE hP hD hS 5 rfl (k) hk (by decide) (rfl) (by decide) (ws' := [(y, .inr (5, [.int th, .int (nI n), .ref d2, .ref d3, .ref d4, .ref d5, .ref d6, .ref d7, .int ru, .int rf, .int hs, .ref d11, .ref d12, .ref d13, .ref d14, .ref d15, .ref d16, .ref d17, .ref d18, .ref d19, .ref d20, .ref d21, .ref d22, .ref d23, .ref d24, .ref d25, .ref d26, .ref d27, .ref d28, .ref d29, .ref d30, .ref d31, .ref d32, .ref d33, .ref d34, .ref d35, .ref d36, .ref d37])), (d25, .inl (cJ, 40, .inr (.inl xa))), (d26, .inl (cJ, 40, .inr (.inl xb))), (d24, .inl (cI, 40, .inl nv)), (d27, .inl (cZ, 40, .inl (upd (upd ya k 0) k 0))), (d28, .inl (cZ, 40, .inl (upd (upd yb k 0) k 0))), (d29, .inl (cJ, 40, .inr (.inl za))), (d30, .inl (cJ, 40, .inr (.inl zb))), (d2, .inl (cI, 40, .inl mo)), (d3, .inl (cI, 40, .inl ma)), (d4, .inl (cI, 40, .inl mb)), (d5, .inl (cI, 40, .inl mk))]) (rfl) dX5_work_184 (fun H locs hP hD hS => ?_)
        refine lv_aload_n hx hb dX5_work_185 rfl (lv_at hl 4 rfl) ?_
        refine va_get (D := D) (ci := 5) (v := .ref d29) (C := RX5) (T := TX5) (N := 38) hx hb hts hinX5 hown hK hP 0 rfl rfl 29 (by decide) (hts (.fieldLink RX5 84 "LedgerSharesModel" "givenA" "[J") (List.mem_of_getElem? (i := 10) rfl)) (fun _ h9 => h9) rfl dX5_work_186 ?_
        refine lv_iload_n hx hb dX5_work_189 rfl (lv_at hl 5 rfl) ?_
        refine lv_lload_n hx hb dX5_work_190 rfl (lv_at hl 3 rfl) ?_
        refine lv_lload hx hb dX5_work_191 (lv_at hl 1 rfl) ?_
        refine lv_lsub hx hb dX5_work_193 ?_
        refine x_last hx hb hE hP hD hS 6 rfl (k) hk (by decide) (rfl) (ws' := [(y, .inr (5, [.int th, .int (nI n), .ref d2, .ref d3, .ref d4, .ref d5, .ref d6, .ref d7, .int ru, .int rf, .int hs, .ref d11, .ref d12, .ref d13, .ref d14, .ref d15, .ref d16, .ref d17, .ref d18, .ref d19, .ref d20, .ref d21, .ref d22, .ref d23, .ref d24, .ref d25, .ref d26, .ref d27, .ref d28, .ref d29, .ref d30, .ref d31, .ref d32, .ref d33, .ref d34, .ref d35, .ref d36, .ref d37])), (d25, .inl (cJ, 40, .inr (.inl xa))), (d26, .inl (cJ, 40, .inr (.inl xb))), (d24, .inl (cI, 40, .inl nv)), (d27, .inl (cZ, 40, .inl (upd (upd ya k 0) k 0))), (d28, .inl (cZ, 40, .inl (upd (upd yb k 0) k 0))), (d29, .inl (cJ, 40, .inr (.inl (vp_updL za k ((xa k) - (Int32.toInt64 (mk k))))))), (d30, .inl (cJ, 40, .inr (.inl zb))), (d2, .inl (cI, 40, .inl mo)), (d3, .inl (cI, 40, .inl ma)), (d4, .inl (cI, 40, .inl mb)), (d5, .inl (cI, 40, .inl mk))]) (rfl) dX5_work_194 (fun H locs hP hD hS => ?_)
        refine lv_aload_n hx hb dX5_work_195 rfl (lv_at hl 4 rfl) ?_
        refine va_get (D := D) (ci := 5) (v := .ref d30) (C := RX5) (T := TX5) (N := 38) hx hb hts hinX5 hown hK hP 0 rfl rfl 30 (by decide) (hts (.fieldLink RX5 87 "LedgerSharesModel" "givenB" "[J") (List.mem_of_getElem? (i := 7) rfl)) (fun _ h9 => h9) rfl dX5_work_196 ?_
        refine lv_iload_n hx hb dX5_work_199 rfl (lv_at hl 5 rfl) ?_
        refine lv_lload hx hb dX5_work_200 (lv_at hl 2 rfl) ?_
        refine lv_lload hx hb dX5_work_202 (lv_at hl 1 rfl) ?_
        refine lv_ladd hx hb dX5_work_204 ?_
        refine x_last hx hb hE hP hD hS 7 rfl (k) hk (by decide) (rfl) (ws' := [(y, .inr (5, [.int th, .int (nI n), .ref d2, .ref d3, .ref d4, .ref d5, .ref d6, .ref d7, .int ru, .int rf, .int hs, .ref d11, .ref d12, .ref d13, .ref d14, .ref d15, .ref d16, .ref d17, .ref d18, .ref d19, .ref d20, .ref d21, .ref d22, .ref d23, .ref d24, .ref d25, .ref d26, .ref d27, .ref d28, .ref d29, .ref d30, .ref d31, .ref d32, .ref d33, .ref d34, .ref d35, .ref d36, .ref d37])), (d25, .inl (cJ, 40, .inr (.inl xa))), (d26, .inl (cJ, 40, .inr (.inl xb))), (d24, .inl (cI, 40, .inl nv)), (d27, .inl (cZ, 40, .inl (upd (upd ya k 0) k 0))), (d28, .inl (cZ, 40, .inl (upd (upd yb k 0) k 0))), (d29, .inl (cJ, 40, .inr (.inl (vp_updL za k ((xa k) - (Int32.toInt64 (mk k))))))), (d30, .inl (cJ, 40, .inr (.inl (vp_updL zb k ((xb k) + (Int32.toInt64 (mk k))))))), (d2, .inl (cI, 40, .inl mo)), (d3, .inl (cI, 40, .inl ma)), (d4, .inl (cI, 40, .inl mb)), (d5, .inl (cI, 40, .inl mk))]) (rfl) dX5_work_205 (fun H locs hP hD hS => ?_)
        refine lv_goto (tgt := 296) hx hb dX5_work_206 (by decide) ?_
        refine lv_aload_n hx hb dX5_work_296 rfl (lv_at hl 4 rfl) ?_
        refine va_get (D := D) (ci := 5) (v := .ref d24) (C := RX5) (T := TX5) (N := 38) hx hb hts hinX5 hown hK hP 0 rfl rfl 24 (by decide) (hts (.fieldLink RX5 68 "LedgerSharesModel" "outcome" "[I") (List.mem_of_getElem? (i := 11) rfl)) (fun _ h9 => h9) rfl dX5_work_297 ?_
        refine lv_iload_n hx hb dX5_work_300 rfl (lv_at hl 5 rfl) ?_
        refine lv_iload hx hb dX5_work_301 (lv_at hl 0 rfl) ?_
        refine lv_if_eq (tgt := 310) hx hb dX5_work_303 (by decide) (fun c303 => absurd c303 (by decide)) (fun c303 => ?_)
        refine lv_iconst (v := 2) hx hb dX5_work_306 (by decide) ?_
        refine lv_goto (tgt := 311) hx hb dX5_work_307 (by decide) ?_
        refine x_iast hx hb hE hP hD hS 3 rfl (k) hk (by decide) (rfl) (ws' := [(y, .inr (5, [.int th, .int (nI n), .ref d2, .ref d3, .ref d4, .ref d5, .ref d6, .ref d7, .int ru, .int rf, .int hs, .ref d11, .ref d12, .ref d13, .ref d14, .ref d15, .ref d16, .ref d17, .ref d18, .ref d19, .ref d20, .ref d21, .ref d22, .ref d23, .ref d24, .ref d25, .ref d26, .ref d27, .ref d28, .ref d29, .ref d30, .ref d31, .ref d32, .ref d33, .ref d34, .ref d35, .ref d36, .ref d37])), (d25, .inl (cJ, 40, .inr (.inl xa))), (d26, .inl (cJ, 40, .inr (.inl xb))), (d24, .inl (cI, 40, .inl (upd nv k 2))), (d27, .inl (cZ, 40, .inl (upd (upd ya k 0) k 0))), (d28, .inl (cZ, 40, .inl (upd (upd yb k 0) k 0))), (d29, .inl (cJ, 40, .inr (.inl (vp_updL za k ((xa k) - (Int32.toInt64 (mk k))))))), (d30, .inl (cJ, 40, .inr (.inl (vp_updL zb k ((xb k) + (Int32.toInt64 (mk k))))))), (d2, .inl (cI, 40, .inl mo)), (d3, .inl (cI, 40, .inl ma)), (d4, .inl (cI, 40, .inl mb)), (d5, .inl (cI, 40, .inl mk))]) (rfl) dX5_work_311 (fun H locs hP hD hS => ?_)
        have k132 := Int64.not_le.mp c132
        have w_nv : (upd nv k 2) = (upd nv k (wOut (mo k) (xa k) (xb k) (Int32.toInt64 (mk k)))) := by simp [wOut, wChA, wChB, wGA, wGB, upd_upd, updL_updL, upd_s, e47, c125, c132, k132]
        have w_ya : (upd (upd ya k 0) k 0) = (upd ya k (wChA (mo k) (ma k) (mb k) (xa k) (Int32.toInt64 (mk k)))) := by simp [wOut, wChA, wChB, wGA, wGB, upd_upd, updL_updL, upd_s, e47, c125, c132, k132]
        have w_yb : (upd (upd yb k 0) k 0) = (upd yb k (wChB (mo k) (ma k) (mb k) (xa k) (xb k) (Int32.toInt64 (mk k)))) := by simp [wOut, wChA, wChB, wGA, wGB, upd_upd, updL_updL, upd_s, e47, c125, c132, k132]
        have w_za : (vp_updL za k ((xa k) - (Int32.toInt64 (mk k)))) = (if (mo k) = 2 ∨ (mo k) = 4 then vp_updL za k (wGA (mo k) (xa k) (xb k) (Int32.toInt64 (mk k))) else za) := by simp [wOut, wChA, wChB, wGA, wGB, upd_upd, updL_updL, upd_s, e47, c125, c132, k132]
        have w_zb : (vp_updL zb k ((xb k) + (Int32.toInt64 (mk k)))) = (if (mo k) = 3 then zb else vp_updL zb k (wGB (mo k) (xa k) (xb k) (Int32.toInt64 (mk k)))) := by simp [wOut, wChA, wChB, wGA, wGB, upd_upd, updL_updL, upd_s, e47, c125, c132, k132]
        rw [w_nv, w_ya, w_yb, w_za, w_zb] at hP hD
        exact W.vret hx hb hr (fun t ht hW => ⟨⟨(), rfl, trivial, by rw [ht]; exact hP, by exact hD⟩, hS.F ht⟩) hS.2.2 dX5_work_312
  · refine lv_tableIn (off := 162) (tgt := 209) hx hb dX5_work_47 (by rw [e47]; decide) (by rw [e47]; decide) (by rw [e47]; rfl) (by decide) ?_
    refine lv_lload_n hx hb dX5_work_209 rfl (lv_at hl 3 rfl) ?_
    refine lv_lload hx hb dX5_work_210 (lv_at hl 1 rfl) ?_
    refine W.lcmp hx hb dX5_work_212 ?_
    refine lv_if_ge (tgt := 220) hx hb dX5_work_213 (by decide) (fun c213 => ?_) (fun c213 => ?_)
    · have c213 := (lg_cmp_ge _ _).mp c213
      refine lv_iconst (v := 0) hx hb dX5_work_220 (by decide) ?_
      refine lv_istore (lv' := [(8, .int 0), (6, .long (Int32.toInt64 (mk k))), (4, .long (xb k)), (2, .long (xa k)), (0, .ref y), (1, .int (nI k))]) hx hb dX5_work_221 hl (by decide) rfl (fun ls hl => ?_)
      refine lv_goto (tgt := 296) hx hb dX5_work_223 (by decide) ?_
      refine lv_aload_n hx hb dX5_work_296 rfl (lv_at hl 4 rfl) ?_
      refine va_get (D := D) (ci := 5) (v := .ref d24) (C := RX5) (T := TX5) (N := 38) hx hb hts hinX5 hown hK hP 0 rfl rfl 24 (by decide) (hts (.fieldLink RX5 68 "LedgerSharesModel" "outcome" "[I") (List.mem_of_getElem? (i := 11) rfl)) (fun _ h9 => h9) rfl dX5_work_297 ?_
      refine lv_iload_n hx hb dX5_work_300 rfl (lv_at hl 5 rfl) ?_
      refine lv_iload hx hb dX5_work_301 (lv_at hl 0 rfl) ?_
      refine lv_if_eq (tgt := 310) hx hb dX5_work_303 (by decide) (fun c303 => ?_) (fun c303 => absurd c303 (by decide))
      refine lv_iconst (v := 1) hx hb dX5_work_310 (by decide) ?_
      refine x_iast hx hb hE hP hD hS 3 rfl (k) hk (by decide) (rfl) (ws' := [(y, .inr (5, [.int th, .int (nI n), .ref d2, .ref d3, .ref d4, .ref d5, .ref d6, .ref d7, .int ru, .int rf, .int hs, .ref d11, .ref d12, .ref d13, .ref d14, .ref d15, .ref d16, .ref d17, .ref d18, .ref d19, .ref d20, .ref d21, .ref d22, .ref d23, .ref d24, .ref d25, .ref d26, .ref d27, .ref d28, .ref d29, .ref d30, .ref d31, .ref d32, .ref d33, .ref d34, .ref d35, .ref d36, .ref d37])), (d25, .inl (cJ, 40, .inr (.inl xa))), (d26, .inl (cJ, 40, .inr (.inl xb))), (d24, .inl (cI, 40, .inl (upd nv k 1))), (d27, .inl (cZ, 40, .inl (upd ya k 0))), (d28, .inl (cZ, 40, .inl (upd yb k 0))), (d29, .inl (cJ, 40, .inr (.inl za))), (d30, .inl (cJ, 40, .inr (.inl zb))), (d2, .inl (cI, 40, .inl mo)), (d3, .inl (cI, 40, .inl ma)), (d4, .inl (cI, 40, .inl mb)), (d5, .inl (cI, 40, .inl mk))]) (rfl) dX5_work_311 (fun H locs hP hD hS => ?_)
      have k213 := Int64.not_lt.mpr c213
      have w_nv : (upd nv k 1) = (upd nv k (wOut (mo k) (xa k) (xb k) (Int32.toInt64 (mk k)))) := by simp [wOut, wChA, wChB, wGA, wGB, upd_upd, updL_updL, upd_s, e47, c213, k213]
      have w_ya : (upd ya k 0) = (upd ya k (wChA (mo k) (ma k) (mb k) (xa k) (Int32.toInt64 (mk k)))) := by simp [wOut, wChA, wChB, wGA, wGB, upd_upd, updL_updL, upd_s, e47, c213, k213]
      have w_yb : (upd yb k 0) = (upd yb k (wChB (mo k) (ma k) (mb k) (xa k) (xb k) (Int32.toInt64 (mk k)))) := by simp [wOut, wChA, wChB, wGA, wGB, upd_upd, updL_updL, upd_s, e47, c213, k213]
      have w_za : za = (if (mo k) = 2 ∨ (mo k) = 4 then vp_updL za k (wGA (mo k) (xa k) (xb k) (Int32.toInt64 (mk k))) else za) := by simp [wOut, wChA, wChB, wGA, wGB, upd_upd, updL_updL, upd_s, e47, c213, k213]
      have w_zb : zb = (if (mo k) = 3 then zb else vp_updL zb k (wGB (mo k) (xa k) (xb k) (Int32.toInt64 (mk k)))) := by simp [wOut, wChA, wChB, wGA, wGB, upd_upd, updL_updL, upd_s, e47, c213, k213]
      rw [w_nv, w_ya, w_yb, w_za, w_zb] at hP hD
      exact W.vret hx hb hr (fun t ht hW => ⟨⟨(), rfl, trivial, by rw [ht]; exact hP, by exact hD⟩, hS.F ht⟩) hS.2.2 dX5_work_312
    · have c213 := _root_.mt (lg_cmp_ge _ _).mpr c213
      refine lv_iconst (v := 1) hx hb dX5_work_216 (by decide) ?_
      refine lv_goto (tgt := 221) hx hb dX5_work_217 (by decide) ?_
      refine lv_istore (lv' := [(8, .int 1), (6, .long (Int32.toInt64 (mk k))), (4, .long (xb k)), (2, .long (xa k)), (0, .ref y), (1, .int (nI k))]) hx hb dX5_work_221 hl (by decide) rfl (fun ls hl => ?_)
      refine lv_goto (tgt := 296) hx hb dX5_work_223 (by decide) ?_
      refine lv_aload_n hx hb dX5_work_296 rfl (lv_at hl 4 rfl) ?_
      refine va_get (D := D) (ci := 5) (v := .ref d24) (C := RX5) (T := TX5) (N := 38) hx hb hts hinX5 hown hK hP 0 rfl rfl 24 (by decide) (hts (.fieldLink RX5 68 "LedgerSharesModel" "outcome" "[I") (List.mem_of_getElem? (i := 11) rfl)) (fun _ h9 => h9) rfl dX5_work_297 ?_
      refine lv_iload_n hx hb dX5_work_300 rfl (lv_at hl 5 rfl) ?_
      refine lv_iload hx hb dX5_work_301 (lv_at hl 0 rfl) ?_
      refine lv_if_eq (tgt := 310) hx hb dX5_work_303 (by decide) (fun c303 => absurd c303 (by decide)) (fun c303 => ?_)
      refine lv_iconst (v := 2) hx hb dX5_work_306 (by decide) ?_
      refine lv_goto (tgt := 311) hx hb dX5_work_307 (by decide) ?_
      refine x_iast hx hb hE hP hD hS 3 rfl (k) hk (by decide) (rfl) (ws' := [(y, .inr (5, [.int th, .int (nI n), .ref d2, .ref d3, .ref d4, .ref d5, .ref d6, .ref d7, .int ru, .int rf, .int hs, .ref d11, .ref d12, .ref d13, .ref d14, .ref d15, .ref d16, .ref d17, .ref d18, .ref d19, .ref d20, .ref d21, .ref d22, .ref d23, .ref d24, .ref d25, .ref d26, .ref d27, .ref d28, .ref d29, .ref d30, .ref d31, .ref d32, .ref d33, .ref d34, .ref d35, .ref d36, .ref d37])), (d25, .inl (cJ, 40, .inr (.inl xa))), (d26, .inl (cJ, 40, .inr (.inl xb))), (d24, .inl (cI, 40, .inl (upd nv k 2))), (d27, .inl (cZ, 40, .inl (upd ya k 0))), (d28, .inl (cZ, 40, .inl (upd yb k 0))), (d29, .inl (cJ, 40, .inr (.inl za))), (d30, .inl (cJ, 40, .inr (.inl zb))), (d2, .inl (cI, 40, .inl mo)), (d3, .inl (cI, 40, .inl ma)), (d4, .inl (cI, 40, .inl mb)), (d5, .inl (cI, 40, .inl mk))]) (rfl) dX5_work_311 (fun H locs hP hD hS => ?_)
      have k213 := Int64.not_le.mp c213
      have w_nv : (upd nv k 2) = (upd nv k (wOut (mo k) (xa k) (xb k) (Int32.toInt64 (mk k)))) := by simp [wOut, wChA, wChB, wGA, wGB, upd_upd, updL_updL, upd_s, e47, c213, k213]
      have w_ya : (upd ya k 0) = (upd ya k (wChA (mo k) (ma k) (mb k) (xa k) (Int32.toInt64 (mk k)))) := by simp [wOut, wChA, wChB, wGA, wGB, upd_upd, updL_updL, upd_s, e47, c213, k213]
      have w_yb : (upd yb k 0) = (upd yb k (wChB (mo k) (ma k) (mb k) (xa k) (xb k) (Int32.toInt64 (mk k)))) := by simp [wOut, wChA, wChB, wGA, wGB, upd_upd, updL_updL, upd_s, e47, c213, k213]
      have w_za : za = (if (mo k) = 2 ∨ (mo k) = 4 then vp_updL za k (wGA (mo k) (xa k) (xb k) (Int32.toInt64 (mk k))) else za) := by simp [wOut, wChA, wChB, wGA, wGB, upd_upd, updL_updL, upd_s, e47, c213, k213]
      have w_zb : zb = (if (mo k) = 3 then zb else vp_updL zb k (wGB (mo k) (xa k) (xb k) (Int32.toInt64 (mk k)))) := by simp [wOut, wChA, wChB, wGA, wGB, upd_upd, updL_updL, upd_s, e47, c213, k213]
      rw [w_nv, w_ya, w_yb, w_za, w_zb] at hP hD
      exact W.vret hx hb hr (fun t ht hW => ⟨⟨(), rfl, trivial, by rw [ht]; exact hP, by exact hD⟩, hS.F ht⟩) hS.2.2 dX5_work_312
  · refine lv_tableIn (off := 179) (tgt := 226) hx hb dX5_work_47 (by rw [e47]; decide) (by rw [e47]; decide) (by rw [e47]; rfl) (by decide) ?_
    refine lv_aload_n hx hb dX5_work_226 rfl (lv_at hl 4 rfl) ?_
    refine va_get (D := D) (ci := 5) (v := .ref d27) (C := RX5) (T := TX5) (N := 38) hx hb hts hinX5 hown hK hP 0 rfl rfl 27 (by decide) (hts (.fieldLink RX5 77 "LedgerSharesModel" "givesA" "[Z") (List.mem_of_getElem? (i := 4) rfl)) (fun _ h9 => h9) rfl dX5_work_227 ?_
    refine lv_iload_n hx hb dX5_work_230 rfl (lv_at hl 5 rfl) ?_
    refine lv_iconst (v := 1) hx hb dX5_work_231 (by decide) ?_
    refine x_zast hx hb hE hP hD hS 4 rfl (k) hk (by decide) (rfl) (by decide) (ws' := [(y, .inr (5, [.int th, .int (nI n), .ref d2, .ref d3, .ref d4, .ref d5, .ref d6, .ref d7, .int ru, .int rf, .int hs, .ref d11, .ref d12, .ref d13, .ref d14, .ref d15, .ref d16, .ref d17, .ref d18, .ref d19, .ref d20, .ref d21, .ref d22, .ref d23, .ref d24, .ref d25, .ref d26, .ref d27, .ref d28, .ref d29, .ref d30, .ref d31, .ref d32, .ref d33, .ref d34, .ref d35, .ref d36, .ref d37])), (d25, .inl (cJ, 40, .inr (.inl xa))), (d26, .inl (cJ, 40, .inr (.inl xb))), (d24, .inl (cI, 40, .inl nv)), (d27, .inl (cZ, 40, .inl (upd (upd ya k 0) k 1))), (d28, .inl (cZ, 40, .inl (upd yb k 0))), (d29, .inl (cJ, 40, .inr (.inl za))), (d30, .inl (cJ, 40, .inr (.inl zb))), (d2, .inl (cI, 40, .inl mo)), (d3, .inl (cI, 40, .inl ma)), (d4, .inl (cI, 40, .inl mb)), (d5, .inl (cI, 40, .inl mk))]) (rfl) dX5_work_232 (fun H locs hP hD hS => ?_)
    refine lv_aload_n hx hb dX5_work_233 rfl (lv_at hl 4 rfl) ?_
    refine va_get (D := D) (ci := 5) (v := .ref d28) (C := RX5) (T := TX5) (N := 38) hx hb hts hinX5 hown hK hP 0 rfl rfl 28 (by decide) (hts (.fieldLink RX5 81 "LedgerSharesModel" "givesB" "[Z") (List.mem_of_getElem? (i := 5) rfl)) (fun _ h9 => h9) rfl dX5_work_234 ?_
    refine lv_iload_n hx hb dX5_work_237 rfl (lv_at hl 5 rfl) ?_
    refine lv_iconst (v := 1) hx hb dX5_work_238 (by decide) ?_
    refine x_zast hx hb hE hP hD hS 5 rfl (k) hk (by decide) (rfl) (by decide) (ws' := [(y, .inr (5, [.int th, .int (nI n), .ref d2, .ref d3, .ref d4, .ref d5, .ref d6, .ref d7, .int ru, .int rf, .int hs, .ref d11, .ref d12, .ref d13, .ref d14, .ref d15, .ref d16, .ref d17, .ref d18, .ref d19, .ref d20, .ref d21, .ref d22, .ref d23, .ref d24, .ref d25, .ref d26, .ref d27, .ref d28, .ref d29, .ref d30, .ref d31, .ref d32, .ref d33, .ref d34, .ref d35, .ref d36, .ref d37])), (d25, .inl (cJ, 40, .inr (.inl xa))), (d26, .inl (cJ, 40, .inr (.inl xb))), (d24, .inl (cI, 40, .inl nv)), (d27, .inl (cZ, 40, .inl (upd (upd ya k 0) k 1))), (d28, .inl (cZ, 40, .inl (upd (upd yb k 0) k 1))), (d29, .inl (cJ, 40, .inr (.inl za))), (d30, .inl (cJ, 40, .inr (.inl zb))), (d2, .inl (cI, 40, .inl mo)), (d3, .inl (cI, 40, .inl ma)), (d4, .inl (cI, 40, .inl mb)), (d5, .inl (cI, 40, .inl mk))]) (rfl) dX5_work_239 (fun H locs hP hD hS => ?_)
    refine lv_aload_n hx hb dX5_work_240 rfl (lv_at hl 4 rfl) ?_
    refine va_get (D := D) (ci := 5) (v := .ref d29) (C := RX5) (T := TX5) (N := 38) hx hb hts hinX5 hown hK hP 0 rfl rfl 29 (by decide) (hts (.fieldLink RX5 84 "LedgerSharesModel" "givenA" "[J") (List.mem_of_getElem? (i := 10) rfl)) (fun _ h9 => h9) rfl dX5_work_241 ?_
    refine lv_iload_n hx hb dX5_work_244 rfl (lv_at hl 5 rfl) ?_
    refine lv_lload hx hb dX5_work_245 (lv_at hl 2 rfl) ?_
    refine x_last hx hb hE hP hD hS 6 rfl (k) hk (by decide) (rfl) (ws' := [(y, .inr (5, [.int th, .int (nI n), .ref d2, .ref d3, .ref d4, .ref d5, .ref d6, .ref d7, .int ru, .int rf, .int hs, .ref d11, .ref d12, .ref d13, .ref d14, .ref d15, .ref d16, .ref d17, .ref d18, .ref d19, .ref d20, .ref d21, .ref d22, .ref d23, .ref d24, .ref d25, .ref d26, .ref d27, .ref d28, .ref d29, .ref d30, .ref d31, .ref d32, .ref d33, .ref d34, .ref d35, .ref d36, .ref d37])), (d25, .inl (cJ, 40, .inr (.inl xa))), (d26, .inl (cJ, 40, .inr (.inl xb))), (d24, .inl (cI, 40, .inl nv)), (d27, .inl (cZ, 40, .inl (upd (upd ya k 0) k 1))), (d28, .inl (cZ, 40, .inl (upd (upd yb k 0) k 1))), (d29, .inl (cJ, 40, .inr (.inl (vp_updL za k (xb k))))), (d30, .inl (cJ, 40, .inr (.inl zb))), (d2, .inl (cI, 40, .inl mo)), (d3, .inl (cI, 40, .inl ma)), (d4, .inl (cI, 40, .inl mb)), (d5, .inl (cI, 40, .inl mk))]) (rfl) dX5_work_247 (fun H locs hP hD hS => ?_)
    refine lv_aload_n hx hb dX5_work_248 rfl (lv_at hl 4 rfl) ?_
    refine va_get (D := D) (ci := 5) (v := .ref d30) (C := RX5) (T := TX5) (N := 38) hx hb hts hinX5 hown hK hP 0 rfl rfl 30 (by decide) (hts (.fieldLink RX5 87 "LedgerSharesModel" "givenB" "[J") (List.mem_of_getElem? (i := 7) rfl)) (fun _ h9 => h9) rfl dX5_work_249 ?_
    refine lv_iload_n hx hb dX5_work_252 rfl (lv_at hl 5 rfl) ?_
    refine lv_lload_n hx hb dX5_work_253 rfl (lv_at hl 3 rfl) ?_
    refine x_last hx hb hE hP hD hS 7 rfl (k) hk (by decide) (rfl) (ws' := [(y, .inr (5, [.int th, .int (nI n), .ref d2, .ref d3, .ref d4, .ref d5, .ref d6, .ref d7, .int ru, .int rf, .int hs, .ref d11, .ref d12, .ref d13, .ref d14, .ref d15, .ref d16, .ref d17, .ref d18, .ref d19, .ref d20, .ref d21, .ref d22, .ref d23, .ref d24, .ref d25, .ref d26, .ref d27, .ref d28, .ref d29, .ref d30, .ref d31, .ref d32, .ref d33, .ref d34, .ref d35, .ref d36, .ref d37])), (d25, .inl (cJ, 40, .inr (.inl xa))), (d26, .inl (cJ, 40, .inr (.inl xb))), (d24, .inl (cI, 40, .inl nv)), (d27, .inl (cZ, 40, .inl (upd (upd ya k 0) k 1))), (d28, .inl (cZ, 40, .inl (upd (upd yb k 0) k 1))), (d29, .inl (cJ, 40, .inr (.inl (vp_updL za k (xb k))))), (d30, .inl (cJ, 40, .inr (.inl (vp_updL zb k (xa k))))), (d2, .inl (cI, 40, .inl mo)), (d3, .inl (cI, 40, .inl ma)), (d4, .inl (cI, 40, .inl mb)), (d5, .inl (cI, 40, .inl mk))]) (rfl) dX5_work_254 (fun H locs hP hD hS => ?_)
    refine lv_goto (tgt := 296) hx hb dX5_work_255 (by decide) ?_
    refine lv_aload_n hx hb dX5_work_296 rfl (lv_at hl 4 rfl) ?_
    refine va_get (D := D) (ci := 5) (v := .ref d24) (C := RX5) (T := TX5) (N := 38) hx hb hts hinX5 hown hK hP 0 rfl rfl 24 (by decide) (hts (.fieldLink RX5 68 "LedgerSharesModel" "outcome" "[I") (List.mem_of_getElem? (i := 11) rfl)) (fun _ h9 => h9) rfl dX5_work_297 ?_
    refine lv_iload_n hx hb dX5_work_300 rfl (lv_at hl 5 rfl) ?_
    refine lv_iload hx hb dX5_work_301 (lv_at hl 0 rfl) ?_
    refine lv_if_eq (tgt := 310) hx hb dX5_work_303 (by decide) (fun c303 => ?_) (fun c303 => absurd c303 (by decide))
    refine lv_iconst (v := 1) hx hb dX5_work_310 (by decide) ?_
    refine x_iast hx hb hE hP hD hS 3 rfl (k) hk (by decide) (rfl) (ws' := [(y, .inr (5, [.int th, .int (nI n), .ref d2, .ref d3, .ref d4, .ref d5, .ref d6, .ref d7, .int ru, .int rf, .int hs, .ref d11, .ref d12, .ref d13, .ref d14, .ref d15, .ref d16, .ref d17, .ref d18, .ref d19, .ref d20, .ref d21, .ref d22, .ref d23, .ref d24, .ref d25, .ref d26, .ref d27, .ref d28, .ref d29, .ref d30, .ref d31, .ref d32, .ref d33, .ref d34, .ref d35, .ref d36, .ref d37])), (d25, .inl (cJ, 40, .inr (.inl xa))), (d26, .inl (cJ, 40, .inr (.inl xb))), (d24, .inl (cI, 40, .inl (upd nv k 1))), (d27, .inl (cZ, 40, .inl (upd (upd ya k 0) k 1))), (d28, .inl (cZ, 40, .inl (upd (upd yb k 0) k 1))), (d29, .inl (cJ, 40, .inr (.inl (vp_updL za k (xb k))))), (d30, .inl (cJ, 40, .inr (.inl (vp_updL zb k (xa k))))), (d2, .inl (cI, 40, .inl mo)), (d3, .inl (cI, 40, .inl ma)), (d4, .inl (cI, 40, .inl mb)), (d5, .inl (cI, 40, .inl mk))]) (rfl) dX5_work_311 (fun H locs hP hD hS => ?_)
    have w_nv : (upd nv k 1) = (upd nv k (wOut (mo k) (xa k) (xb k) (Int32.toInt64 (mk k)))) := by simp [wOut, wChA, wChB, wGA, wGB, upd_upd, updL_updL, upd_s, e47]
    have w_ya : (upd (upd ya k 0) k 1) = (upd ya k (wChA (mo k) (ma k) (mb k) (xa k) (Int32.toInt64 (mk k)))) := by simp [wOut, wChA, wChB, wGA, wGB, upd_upd, updL_updL, upd_s, e47]
    have w_yb : (upd (upd yb k 0) k 1) = (upd yb k (wChB (mo k) (ma k) (mb k) (xa k) (xb k) (Int32.toInt64 (mk k)))) := by simp [wOut, wChA, wChB, wGA, wGB, upd_upd, updL_updL, upd_s, e47]
    have w_za : (vp_updL za k (xb k)) = (if (mo k) = 2 ∨ (mo k) = 4 then vp_updL za k (wGA (mo k) (xa k) (xb k) (Int32.toInt64 (mk k))) else za) := by simp [wOut, wChA, wChB, wGA, wGB, upd_upd, updL_updL, upd_s, e47]
    have w_zb : (vp_updL zb k (xa k)) = (if (mo k) = 3 then zb else vp_updL zb k (wGB (mo k) (xa k) (xb k) (Int32.toInt64 (mk k)))) := by simp [wOut, wChA, wChB, wGA, wGB, upd_upd, updL_updL, upd_s, e47]
    rw [w_nv, w_ya, w_yb, w_za, w_zb] at hP hD
    exact W.vret hx hb hr (fun t ht hW => ⟨⟨(), rfl, trivial, by rw [ht]; exact hP, by exact hD⟩, hS.F ht⟩) hS.2.2 dX5_work_312
  · refine lv_tableOut (tgt := 258) hx hb dX5_work_47 (n5) (by decide) ?_
    refine lv_lload_n hx hb dX5_work_258 rfl (lv_at hl 3 rfl) ?_
    refine lv_lload hx hb dX5_work_259 (lv_at hl 2 rfl) ?_
    refine W.lcmp hx hb dX5_work_261 ?_
    refine lv_if_eq (tgt := 269) hx hb dX5_work_262 (by decide) (fun c262 => ?_) (fun c262 => ?_)
    · have c262 := (lg_cmp_eq _ _).mp c262
      refine lv_iconst (v := 0) hx hb dX5_work_269 (by decide) ?_
      refine lv_istore (lv' := [(8, .int 0), (6, .long (Int32.toInt64 (mk k))), (4, .long (xb k)), (2, .long (xa k)), (0, .ref y), (1, .int (nI k))]) hx hb dX5_work_270 hl (by decide) rfl (fun ls hl => ?_)
      refine lv_aload_n hx hb dX5_work_272 rfl (lv_at hl 4 rfl) ?_
      refine va_get (D := D) (ci := 5) (v := .ref d28) (C := RX5) (T := TX5) (N := 38) hx hb hts hinX5 hown hK hP 0 rfl rfl 28 (by decide) (hts (.fieldLink RX5 81 "LedgerSharesModel" "givesB" "[Z") (List.mem_of_getElem? (i := 5) rfl)) (fun _ h9 => h9) rfl dX5_work_273 ?_
      refine lv_iload_n hx hb dX5_work_276 rfl (lv_at hl 5 rfl) ?_
      refine lv_iload hx hb dX5_work_277 (lv_at hl 0 rfl) ?_
      refine lv_if_ne (tgt := 286) hx hb dX5_work_279 (by decide) (fun c279 => absurd (by decide) c279) (fun c279 => ?_)
      refine lv_iconst (v := 1) hx hb dX5_work_282 (by decide) ?_
      refine lv_goto (tgt := 287) hx hb dX5_work_283 (by decide) ?_
      refine x_zast hx hb hE hP hD hS 5 rfl (k) hk (by decide) (rfl) (by decide) (ws' := [(y, .inr (5, [.int th, .int (nI n), .ref d2, .ref d3, .ref d4, .ref d5, .ref d6, .ref d7, .int ru, .int rf, .int hs, .ref d11, .ref d12, .ref d13, .ref d14, .ref d15, .ref d16, .ref d17, .ref d18, .ref d19, .ref d20, .ref d21, .ref d22, .ref d23, .ref d24, .ref d25, .ref d26, .ref d27, .ref d28, .ref d29, .ref d30, .ref d31, .ref d32, .ref d33, .ref d34, .ref d35, .ref d36, .ref d37])), (d25, .inl (cJ, 40, .inr (.inl xa))), (d26, .inl (cJ, 40, .inr (.inl xb))), (d24, .inl (cI, 40, .inl nv)), (d27, .inl (cZ, 40, .inl (upd ya k 0))), (d28, .inl (cZ, 40, .inl (upd (upd yb k 0) k 1))), (d29, .inl (cJ, 40, .inr (.inl za))), (d30, .inl (cJ, 40, .inr (.inl zb))), (d2, .inl (cI, 40, .inl mo)), (d3, .inl (cI, 40, .inl ma)), (d4, .inl (cI, 40, .inl mb)), (d5, .inl (cI, 40, .inl mk))]) (rfl) dX5_work_287 (fun H locs hP hD hS => ?_)
      refine lv_aload_n hx hb dX5_work_288 rfl (lv_at hl 4 rfl) ?_
      refine va_get (D := D) (ci := 5) (v := .ref d30) (C := RX5) (T := TX5) (N := 38) hx hb hts hinX5 hown hK hP 0 rfl rfl 30 (by decide) (hts (.fieldLink RX5 87 "LedgerSharesModel" "givenB" "[J") (List.mem_of_getElem? (i := 7) rfl)) (fun _ h9 => h9) rfl dX5_work_289 ?_
      refine lv_iload_n hx hb dX5_work_292 rfl (lv_at hl 5 rfl) ?_
      refine lv_lload hx hb dX5_work_293 (lv_at hl 1 rfl) ?_
      refine x_last hx hb hE hP hD hS 7 rfl (k) hk (by decide) (rfl) (ws' := [(y, .inr (5, [.int th, .int (nI n), .ref d2, .ref d3, .ref d4, .ref d5, .ref d6, .ref d7, .int ru, .int rf, .int hs, .ref d11, .ref d12, .ref d13, .ref d14, .ref d15, .ref d16, .ref d17, .ref d18, .ref d19, .ref d20, .ref d21, .ref d22, .ref d23, .ref d24, .ref d25, .ref d26, .ref d27, .ref d28, .ref d29, .ref d30, .ref d31, .ref d32, .ref d33, .ref d34, .ref d35, .ref d36, .ref d37])), (d25, .inl (cJ, 40, .inr (.inl xa))), (d26, .inl (cJ, 40, .inr (.inl xb))), (d24, .inl (cI, 40, .inl nv)), (d27, .inl (cZ, 40, .inl (upd ya k 0))), (d28, .inl (cZ, 40, .inl (upd (upd yb k 0) k 1))), (d29, .inl (cJ, 40, .inr (.inl za))), (d30, .inl (cJ, 40, .inr (.inl (vp_updL zb k (Int32.toInt64 (mk k)))))), (d2, .inl (cI, 40, .inl mo)), (d3, .inl (cI, 40, .inl ma)), (d4, .inl (cI, 40, .inl mb)), (d5, .inl (cI, 40, .inl mk))]) (rfl) dX5_work_295 (fun H locs hP hD hS => ?_)
      refine lv_aload_n hx hb dX5_work_296 rfl (lv_at hl 4 rfl) ?_
      refine va_get (D := D) (ci := 5) (v := .ref d24) (C := RX5) (T := TX5) (N := 38) hx hb hts hinX5 hown hK hP 0 rfl rfl 24 (by decide) (hts (.fieldLink RX5 68 "LedgerSharesModel" "outcome" "[I") (List.mem_of_getElem? (i := 11) rfl)) (fun _ h9 => h9) rfl dX5_work_297 ?_
      refine lv_iload_n hx hb dX5_work_300 rfl (lv_at hl 5 rfl) ?_
      refine lv_iload hx hb dX5_work_301 (lv_at hl 0 rfl) ?_
      refine lv_if_eq (tgt := 310) hx hb dX5_work_303 (by decide) (fun c303 => ?_) (fun c303 => absurd c303 (by decide))
      refine lv_iconst (v := 1) hx hb dX5_work_310 (by decide) ?_
      refine x_iast hx hb hE hP hD hS 3 rfl (k) hk (by decide) (rfl) (ws' := [(y, .inr (5, [.int th, .int (nI n), .ref d2, .ref d3, .ref d4, .ref d5, .ref d6, .ref d7, .int ru, .int rf, .int hs, .ref d11, .ref d12, .ref d13, .ref d14, .ref d15, .ref d16, .ref d17, .ref d18, .ref d19, .ref d20, .ref d21, .ref d22, .ref d23, .ref d24, .ref d25, .ref d26, .ref d27, .ref d28, .ref d29, .ref d30, .ref d31, .ref d32, .ref d33, .ref d34, .ref d35, .ref d36, .ref d37])), (d25, .inl (cJ, 40, .inr (.inl xa))), (d26, .inl (cJ, 40, .inr (.inl xb))), (d24, .inl (cI, 40, .inl (upd nv k 1))), (d27, .inl (cZ, 40, .inl (upd ya k 0))), (d28, .inl (cZ, 40, .inl (upd (upd yb k 0) k 1))), (d29, .inl (cJ, 40, .inr (.inl za))), (d30, .inl (cJ, 40, .inr (.inl (vp_updL zb k (Int32.toInt64 (mk k)))))), (d2, .inl (cI, 40, .inl mo)), (d3, .inl (cI, 40, .inl ma)), (d4, .inl (cI, 40, .inl mb)), (d5, .inl (cI, 40, .inl mk))]) (rfl) dX5_work_311 (fun H locs hP hD hS => ?_)
      have w_nv : (upd nv k 1) = (upd nv k (wOut (mo k) (xa k) (xb k) (Int32.toInt64 (mk k)))) := by simp [wOut, wChA, wChB, wGA, wGB, upd_upd, updL_updL, upd_s, n0, n1, n2, n3, n4, c262]
      have w_ya : (upd ya k 0) = (upd ya k (wChA (mo k) (ma k) (mb k) (xa k) (Int32.toInt64 (mk k)))) := by simp [wOut, wChA, wChB, wGA, wGB, upd_upd, updL_updL, upd_s, n0, n1, n2, n3, n4, c262]
      have w_yb : (upd (upd yb k 0) k 1) = (upd yb k (wChB (mo k) (ma k) (mb k) (xa k) (xb k) (Int32.toInt64 (mk k)))) := by simp [wOut, wChA, wChB, wGA, wGB, upd_upd, updL_updL, upd_s, n0, n1, n2, n3, n4, c262]
      have w_za : za = (if (mo k) = 2 ∨ (mo k) = 4 then vp_updL za k (wGA (mo k) (xa k) (xb k) (Int32.toInt64 (mk k))) else za) := by simp [wOut, wChA, wChB, wGA, wGB, upd_upd, updL_updL, upd_s, n0, n1, n2, n3, n4, c262]
      have w_zb : (vp_updL zb k (Int32.toInt64 (mk k))) = (if (mo k) = 3 then zb else vp_updL zb k (wGB (mo k) (xa k) (xb k) (Int32.toInt64 (mk k)))) := by simp [wOut, wChA, wChB, wGA, wGB, upd_upd, updL_updL, upd_s, n0, n1, n2, n3, n4, c262]
      rw [w_nv, w_ya, w_yb, w_za, w_zb] at hP hD
      exact W.vret hx hb hr (fun t ht hW => ⟨⟨(), rfl, trivial, by rw [ht]; exact hP, by exact hD⟩, hS.F ht⟩) hS.2.2 dX5_work_312
    · have c262 := _root_.mt (lg_cmp_eq _ _).mpr c262
      refine lv_iconst (v := 1) hx hb dX5_work_265 (by decide) ?_
      refine lv_goto (tgt := 270) hx hb dX5_work_266 (by decide) ?_
      refine lv_istore (lv' := [(8, .int 1), (6, .long (Int32.toInt64 (mk k))), (4, .long (xb k)), (2, .long (xa k)), (0, .ref y), (1, .int (nI k))]) hx hb dX5_work_270 hl (by decide) rfl (fun ls hl => ?_)
      refine lv_aload_n hx hb dX5_work_272 rfl (lv_at hl 4 rfl) ?_
      refine va_get (D := D) (ci := 5) (v := .ref d28) (C := RX5) (T := TX5) (N := 38) hx hb hts hinX5 hown hK hP 0 rfl rfl 28 (by decide) (hts (.fieldLink RX5 81 "LedgerSharesModel" "givesB" "[Z") (List.mem_of_getElem? (i := 5) rfl)) (fun _ h9 => h9) rfl dX5_work_273 ?_
      refine lv_iload_n hx hb dX5_work_276 rfl (lv_at hl 5 rfl) ?_
      refine lv_iload hx hb dX5_work_277 (lv_at hl 0 rfl) ?_
      refine lv_if_ne (tgt := 286) hx hb dX5_work_279 (by decide) (fun c279 => ?_) (fun c279 => absurd c279 (by decide))
      refine lv_iconst (v := 0) hx hb dX5_work_286 (by decide) ?_
      refine x_zast hx hb hE hP hD hS 5 rfl (k) hk (by decide) (rfl) (by decide) (ws' := [(y, .inr (5, [.int th, .int (nI n), .ref d2, .ref d3, .ref d4, .ref d5, .ref d6, .ref d7, .int ru, .int rf, .int hs, .ref d11, .ref d12, .ref d13, .ref d14, .ref d15, .ref d16, .ref d17, .ref d18, .ref d19, .ref d20, .ref d21, .ref d22, .ref d23, .ref d24, .ref d25, .ref d26, .ref d27, .ref d28, .ref d29, .ref d30, .ref d31, .ref d32, .ref d33, .ref d34, .ref d35, .ref d36, .ref d37])), (d25, .inl (cJ, 40, .inr (.inl xa))), (d26, .inl (cJ, 40, .inr (.inl xb))), (d24, .inl (cI, 40, .inl nv)), (d27, .inl (cZ, 40, .inl (upd ya k 0))), (d28, .inl (cZ, 40, .inl (upd (upd yb k 0) k 0))), (d29, .inl (cJ, 40, .inr (.inl za))), (d30, .inl (cJ, 40, .inr (.inl zb))), (d2, .inl (cI, 40, .inl mo)), (d3, .inl (cI, 40, .inl ma)), (d4, .inl (cI, 40, .inl mb)), (d5, .inl (cI, 40, .inl mk))]) (rfl) dX5_work_287 (fun H locs hP hD hS => ?_)
      refine lv_aload_n hx hb dX5_work_288 rfl (lv_at hl 4 rfl) ?_
      refine va_get (D := D) (ci := 5) (v := .ref d30) (C := RX5) (T := TX5) (N := 38) hx hb hts hinX5 hown hK hP 0 rfl rfl 30 (by decide) (hts (.fieldLink RX5 87 "LedgerSharesModel" "givenB" "[J") (List.mem_of_getElem? (i := 7) rfl)) (fun _ h9 => h9) rfl dX5_work_289 ?_
      refine lv_iload_n hx hb dX5_work_292 rfl (lv_at hl 5 rfl) ?_
      refine lv_lload hx hb dX5_work_293 (lv_at hl 1 rfl) ?_
      refine x_last hx hb hE hP hD hS 7 rfl (k) hk (by decide) (rfl) (ws' := [(y, .inr (5, [.int th, .int (nI n), .ref d2, .ref d3, .ref d4, .ref d5, .ref d6, .ref d7, .int ru, .int rf, .int hs, .ref d11, .ref d12, .ref d13, .ref d14, .ref d15, .ref d16, .ref d17, .ref d18, .ref d19, .ref d20, .ref d21, .ref d22, .ref d23, .ref d24, .ref d25, .ref d26, .ref d27, .ref d28, .ref d29, .ref d30, .ref d31, .ref d32, .ref d33, .ref d34, .ref d35, .ref d36, .ref d37])), (d25, .inl (cJ, 40, .inr (.inl xa))), (d26, .inl (cJ, 40, .inr (.inl xb))), (d24, .inl (cI, 40, .inl nv)), (d27, .inl (cZ, 40, .inl (upd ya k 0))), (d28, .inl (cZ, 40, .inl (upd (upd yb k 0) k 0))), (d29, .inl (cJ, 40, .inr (.inl za))), (d30, .inl (cJ, 40, .inr (.inl (vp_updL zb k (Int32.toInt64 (mk k)))))), (d2, .inl (cI, 40, .inl mo)), (d3, .inl (cI, 40, .inl ma)), (d4, .inl (cI, 40, .inl mb)), (d5, .inl (cI, 40, .inl mk))]) (rfl) dX5_work_295 (fun H locs hP hD hS => ?_)
      refine lv_aload_n hx hb dX5_work_296 rfl (lv_at hl 4 rfl) ?_
      refine va_get (D := D) (ci := 5) (v := .ref d24) (C := RX5) (T := TX5) (N := 38) hx hb hts hinX5 hown hK hP 0 rfl rfl 24 (by decide) (hts (.fieldLink RX5 68 "LedgerSharesModel" "outcome" "[I") (List.mem_of_getElem? (i := 11) rfl)) (fun _ h9 => h9) rfl dX5_work_297 ?_
      refine lv_iload_n hx hb dX5_work_300 rfl (lv_at hl 5 rfl) ?_
      refine lv_iload hx hb dX5_work_301 (lv_at hl 0 rfl) ?_
      refine lv_if_eq (tgt := 310) hx hb dX5_work_303 (by decide) (fun c303 => absurd c303 (by decide)) (fun c303 => ?_)
      refine lv_iconst (v := 2) hx hb dX5_work_306 (by decide) ?_
      refine lv_goto (tgt := 311) hx hb dX5_work_307 (by decide) ?_
      refine x_iast hx hb hE hP hD hS 3 rfl (k) hk (by decide) (rfl) (ws' := [(y, .inr (5, [.int th, .int (nI n), .ref d2, .ref d3, .ref d4, .ref d5, .ref d6, .ref d7, .int ru, .int rf, .int hs, .ref d11, .ref d12, .ref d13, .ref d14, .ref d15, .ref d16, .ref d17, .ref d18, .ref d19, .ref d20, .ref d21, .ref d22, .ref d23, .ref d24, .ref d25, .ref d26, .ref d27, .ref d28, .ref d29, .ref d30, .ref d31, .ref d32, .ref d33, .ref d34, .ref d35, .ref d36, .ref d37])), (d25, .inl (cJ, 40, .inr (.inl xa))), (d26, .inl (cJ, 40, .inr (.inl xb))), (d24, .inl (cI, 40, .inl (upd nv k 2))), (d27, .inl (cZ, 40, .inl (upd ya k 0))), (d28, .inl (cZ, 40, .inl (upd (upd yb k 0) k 0))), (d29, .inl (cJ, 40, .inr (.inl za))), (d30, .inl (cJ, 40, .inr (.inl (vp_updL zb k (Int32.toInt64 (mk k)))))), (d2, .inl (cI, 40, .inl mo)), (d3, .inl (cI, 40, .inl ma)), (d4, .inl (cI, 40, .inl mb)), (d5, .inl (cI, 40, .inl mk))]) (rfl) dX5_work_311 (fun H locs hP hD hS => ?_)
      have w_nv : (upd nv k 2) = (upd nv k (wOut (mo k) (xa k) (xb k) (Int32.toInt64 (mk k)))) := by simp [wOut, wChA, wChB, wGA, wGB, upd_upd, updL_updL, upd_s, n0, n1, n2, n3, n4, c262]
      have w_ya : (upd ya k 0) = (upd ya k (wChA (mo k) (ma k) (mb k) (xa k) (Int32.toInt64 (mk k)))) := by simp [wOut, wChA, wChB, wGA, wGB, upd_upd, updL_updL, upd_s, n0, n1, n2, n3, n4, c262]
      have w_yb : (upd (upd yb k 0) k 0) = (upd yb k (wChB (mo k) (ma k) (mb k) (xa k) (xb k) (Int32.toInt64 (mk k)))) := by simp [wOut, wChA, wChB, wGA, wGB, upd_upd, updL_updL, upd_s, n0, n1, n2, n3, n4, c262]
      have w_za : za = (if (mo k) = 2 ∨ (mo k) = 4 then vp_updL za k (wGA (mo k) (xa k) (xb k) (Int32.toInt64 (mk k))) else za) := by simp [wOut, wChA, wChB, wGA, wGB, upd_upd, updL_updL, upd_s, n0, n1, n2, n3, n4, c262]
      have w_zb : (vp_updL zb k (Int32.toInt64 (mk k))) = (if (mo k) = 3 then zb else vp_updL zb k (wGB (mo k) (xa k) (xb k) (Int32.toInt64 (mk k)))) := by simp [wOut, wChA, wChB, wGA, wGB, upd_upd, updL_updL, upd_s, n0, n1, n2, n3, n4, c262]
      rw [w_nv, w_ya, w_yb, w_za, w_zb] at hP hD
      exact W.vret hx hb hr (fun t ht hW => ⟨⟨(), rfl, trivial, by rw [ht]; exact hP, by exact hD⟩, hS.F ht⟩) hS.2.2 dX5_work_312
