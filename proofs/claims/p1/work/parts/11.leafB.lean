set_option maxHeartbeats 4000000 in
set_option maxRecDepth 100000 in
theorem k_gather (l : Launch) (D : va_G) (cI cJ cZ : ClassId) (sz : Nat) (g g1 g2 g3 : Nat) (sd lf0 : Int32) (pr ho be : Nat → Int32) (wk : Nat) (hwk : wk ≤ 16) (seed : Int32) : Met l yX1_gather wsX1_gather ({ frames := 1, cells := 0, slots := 0, locals := 21 }) (PcRW [.ref g, .int (nI wk), .int seed] sz D cI cJ cZ [(g, .inr (1, [.int sd, .int lf0, .ref g1, .ref g2, .ref g3])), (g1, .inl (cI, 16, .inl pr)), (g2, .inl (cI, 16, .inl ho)), (g3, .inl (cI, 16, .inl be))]) (QcV D (va_A [(g, .inr (1, [.int sd, .int lf0, .ref g1, .ref g2, .ref g3])), (g1, .inl (cI, 16, .inl pr)), (g2, .inl (cI, 16, .inl ho)), (g3, .inl (cI, 16, .inl be))] sz) [(g, .inr (1, [.int seed, .int (nI wk), .ref g1, .ref g2, .ref g3])), (g1, .inl (cI, 16, .inl (mapTo pr wk nI))), (g2, .inl (cI, 16, .inl (fillTo ho wk (-1)))), (g3, .inl (cI, 16, .inl (fillTo be wk 0)))]) 0 0 (va_A [(g, .inr (1, [.int sd, .int lf0, .ref g1, .ref g2, .ref g3])), (g1, .inl (cI, 16, .inl pr)), (g2, .inl (cI, 16, .inl ho)), (g3, .inl (cI, 16, .inl be))] sz) := by
  refine Met.ofW (cc := cX1_gather) (maxL := 4) (ret := none) (by decide) rfl ?_
  intro p e s m args below meth c s₁ B hml hv
  obtain ⟨rfl, hsz, hP, hE, hD0⟩ := hv
  have hx := B.exec
  have hb := B.bytes
  have hr := B.returns
  have hts := atoms_spec (ws := wsX1_gather) B.pre
  have hown : s.vm.findClass RX1 = some m.cls := findClass_of_methodNamed B.named
  have hlocks := B.notSynchronized
  have hK := hE.1
  subst hsz
  have hD := hD0.self (sz := s.heap.size)
  generalize hAe : va_A [(g, .inr (1, [.int sd, .int lf0, .ref g1, .ref g2, .ref g3])), (g1, .inl (cI, 16, .inl pr)), (g2, .inl (cI, 16, .inl ho)), (g3, .inl (cI, 16, .inl be))] s.heap.size = A at hD ⊢
  have hA : ∀ q : Nat, s.heap.size ≤ q → A q := fun q h => by rw [← hAe]; exact Or.inr h
  have hS : va_S A s.heap s.heap [] := va_S.rf
  have hl := lv_entry ([.ref g, .int (nI wk), .int seed]) (n := 4) (Nat.le_of_ble_eq_true rfl)
  rw [lg_entry_eq]
  generalize (lg_sl ([.ref g, .int (nI wk), .int seed]) ++ List.replicate (4 - (lg_sl ([.ref g, .int (nI wk), .int seed])).length) Slot.unset).toArray = ls at hl ⊢
  have hl : lv_has ls 4 [(0, .ref g), (1, .int (nI wk)), (2, .int seed)] := hl
  have hinX1 : ∀ w ∈ u_ws RX1 TX1 5, w ∈ wsX1_gather := fun _ h => List.mem_cons_of_mem _ (List.mem_append_right _ h)
  refine lv_aload_n hx hb dX1_gather_0 rfl (lv_at hl 0 rfl) ?_
  refine lv_iload_n hx hb dX1_gather_1 rfl (lv_at hl 2 rfl) ?_
  refine x_put (D := D) (ci := 1) (v := .int seed) (ty := .int) (C := RX1) (T := TX1) (N := 5) hx hb hts hinX1 tyX1 tyX1_ok nmX1 hown hK hP hD hS 0 rfl rfl 0 (by decide) (hts (.fieldLink RX1 21 "LedgerShares$Crew" "seed" "I") (List.mem_of_getElem? (i := 1) rfl)) rfl (by decide +kernel) (rfl) (rfl) (Nat.le_of_ble_eq_true rfl) (ws' := [(g, .inr (1, [.int seed, .int lf0, .ref g1, .ref g2, .ref g3])), (g1, .inl (cI, 16, .inl pr)), (g2, .inl (cI, 16, .inl ho)), (g3, .inl (cI, 16, .inl be))]) rfl dX1_gather_2 (fun H locs hP hD hS => ?_)
  refine lv_aload_n hx hb dX1_gather_5 rfl (lv_at hl 0 rfl) ?_
  refine lv_iload_n hx hb dX1_gather_6 rfl (lv_at hl 1 rfl) ?_
  refine lv_bipush (v := 16) hx hb dX1_gather_7 (by decide) ?_
  refine va_mmin hx hb (by rw [hml]; exact hl.1.symm) hown (hts (.methodLink RX1 25 Lib.Math.min.name) (List.mem_of_getElem? (i := 2) rfl)) (hts (.static Lib.Math.min.name) (List.mem_of_getElem? (i := 3) rfl)) (hts (.initialized "java/lang/Math") (List.mem_of_getElem? (i := 4) rfl)) (hts (.code Lib.Math.min.name Lib.Math.min.code 2 (some .int)) (List.mem_of_getElem? (i := 5) rfl)) (Nat.le_of_ble_eq_true rfl) (Nat.le_of_ble_eq_true rfl) (Nat.zero_le _) (Nat.zero_le _) dX1_gather_9 ?_
  refine x_topi (y := nI wk) (if_neg (nI_nlt (a := 16) (b := wk) hwk (by decide))) ?_
  refine x_put (D := D) (ci := 1) (v := .int (nI wk)) (ty := .int) (C := RX1) (T := TX1) (N := 5) hx hb hts hinX1 tyX1 tyX1_ok nmX1 hown hK hP hD hS 0 rfl rfl 1 (by decide) (hts (.fieldLink RX1 31 "LedgerShares$Crew" "left" "I") (List.mem_of_getElem? (i := 6) rfl)) rfl (by decide +kernel) (rfl) (rfl) (Nat.le_of_ble_eq_true rfl) (ws' := [(g, .inr (1, [.int seed, .int (nI wk), .ref g1, .ref g2, .ref g3])), (g1, .inl (cI, 16, .inl pr)), (g2, .inl (cI, 16, .inl ho)), (g3, .inl (cI, 16, .inl be))]) rfl dX1_gather_12 (fun H locs hP hD hS => ?_)
  refine lv_iconst (v := 0) hx hb dX1_gather_15 (by decide) ?_
  refine lv_istore_n (lv' := [(3, .int 0), (0, .ref g), (1, .int (nI wk)), (2, .int seed)]) hx hb dX1_gather_16 rfl hl (by decide) rfl (fun ls hl => ?_)
  have loop17 : ∀ (n : Nat) (k : Nat), (k ≤ wk) → (17 ≤ k + n) → ∀ (H : Heap) (locs : List Loc) (ls : Array Slot), va_P D vwCl [(g, .inr (1, [.int seed, .int (nI wk), .ref g1, .ref g2, .ref g3])), (g1, .inl (cI, 16, .inl (mapTo pr k nI))), (g2, .inl (cI, 16, .inl (fillTo ho k (-1)))), (g3, .inl (cI, 16, .inl (fillTo be k 0)))] H → va_D A [(g, .inr (1, [.int seed, .int (nI wk), .ref g1, .ref g2, .ref g3])), (g1, .inl (cI, 16, .inl (mapTo pr k nI))), (g2, .inl (cI, 16, .inl (fillTo ho k (-1)))), (g3, .inl (cI, 16, .inl (fillTo be k 0)))] → va_S A s.heap H locs → lv_has ls 4 [(3, .int (nI k)), (0, .ref g), (1, .int (nI wk)), (2, .int seed)] → W p l e (headSpec wsX1_gather ({ frames := 1, cells := 0, slots := 0, locals := 21 })).room s m ([.ref g, .int (nI wk), .int seed].toArray) below meth c H locs 0 0 (MQ below (QcV D A [(g, .inr (1, [.int seed, .int (nI wk), .ref g1, .ref g2, .ref g3])), (g1, .inl (cI, 16, .inl (mapTo pr wk nI))), (g2, .inl (cI, 16, .inl (fillTo ho wk (-1)))), (g3, .inl (cI, 16, .inl (fillTo be wk 0)))]) ([.ref g, .int (nI wk), .int seed].toArray) s 0 0 A) (F0 m 17 ls []) := by
    intro n
    induction n with
    | zero =>
      intro k hk hf
      exact absurd hf (by omega)
    | succ n ih17 =>
      intro k hk hf H locs ls hP hD hS hl
      refine lv_iload_n hx hb dX1_gather_17 rfl (lv_at hl 0 rfl) ?_
      refine lv_aload_n hx hb dX1_gather_18 rfl (lv_at hl 1 rfl) ?_
      refine va_get (D := D) (ci := 1) (v := .int (nI wk)) (C := RX1) (T := TX1) (N := 5) hx hb hts hinX1 hown hK hP 0 rfl rfl 1 (by decide) (hts (.fieldLink RX1 31 "LedgerShares$Crew" "left" "I") (List.mem_of_getElem? (i := 6) rfl)) (fun _ h9 => h9) rfl dX1_gather_19 ?_
      refine lv_icmp_ge (tgt := 52) hx hb dX1_gather_22 (by decide) (fun c22 => ?_) (fun c22 => ?_)
      · obtain rfl : k = wk := Nat.le_antisymm hk (Nat.le_of_not_lt (fun z => absurd c22 (nI_ge z (by omega))))
        exact W.vret hx hb hr (fun t ht hW => ⟨⟨(), rfl, trivial, by rw [ht]; exact hP, by exact hD⟩, hS.F ht⟩) hS.2.2 dX1_gather_52
      · have g22 : k < wk := Nat.lt_of_not_le (fun z => c22 (nI_le z (by omega)))
        refine lv_aload_n hx hb dX1_gather_25 rfl (lv_at hl 1 rfl) ?_
        refine va_get (D := D) (ci := 1) (v := .ref g1) (C := RX1) (T := TX1) (N := 5) hx hb hts hinX1 hown hK hP 0 rfl rfl 2 (by decide) (hts (.fieldLink RX1 9 "LedgerShares$Crew" "present" "[I") (List.mem_of_getElem? (i := 7) rfl)) (fun _ h9 => h9) rfl dX1_gather_26 ?_
        refine lv_iload_n hx hb dX1_gather_29 rfl (lv_at hl 0 rfl) ?_
        refine lv_iload_n hx hb dX1_gather_30 rfl (lv_at hl 0 rfl) ?_
        refine x_iast hx hb hE hP hD hS 1 rfl (k) (by omega) (by decide) (rfl) (ws' := [(g, .inr (1, [.int seed, .int (nI wk), .ref g1, .ref g2, .ref g3])), (g1, .inl (cI, 16, .inl (mapTo pr (k + 1) nI))), (g2, .inl (cI, 16, .inl (fillTo ho k (-1)))), (g3, .inl (cI, 16, .inl (fillTo be k 0)))]) (by rw [map_s pr k nI]; rfl) dX1_gather_31 (fun H locs hP hD hS => ?_)
        refine lv_aload_n hx hb dX1_gather_32 rfl (lv_at hl 1 rfl) ?_
        refine va_get (D := D) (ci := 1) (v := .ref g2) (C := RX1) (T := TX1) (N := 5) hx hb hts hinX1 hown hK hP 0 rfl rfl 3 (by decide) (hts (.fieldLink RX1 15 "LedgerShares$Crew" "holds" "[I") (List.mem_of_getElem? (i := 8) rfl)) (fun _ h9 => h9) rfl dX1_gather_33 ?_
        refine lv_iload_n hx hb dX1_gather_36 rfl (lv_at hl 0 rfl) ?_
        refine lv_iconst (v := (-1)) hx hb dX1_gather_37 (by decide) ?_
        refine x_iast hx hb hE hP hD hS 2 rfl (k) (by omega) (by decide) (rfl) (ws' := [(g, .inr (1, [.int seed, .int (nI wk), .ref g1, .ref g2, .ref g3])), (g1, .inl (cI, 16, .inl (mapTo pr (k + 1) nI))), (g2, .inl (cI, 16, .inl (fillTo ho (k + 1) (-1)))), (g3, .inl (cI, 16, .inl (fillTo be k 0)))]) (by rw [fill_s]; rfl) dX1_gather_38 (fun H locs hP hD hS => ?_)
        refine lv_aload_n hx hb dX1_gather_39 rfl (lv_at hl 1 rfl) ?_
        refine va_get (D := D) (ci := 1) (v := .ref g3) (C := RX1) (T := TX1) (N := 5) hx hb hts hinX1 hown hK hP 0 rfl rfl 4 (by decide) (hts (.fieldLink RX1 18 "LedgerShares$Crew" "begins" "[I") (List.mem_of_getElem? (i := 9) rfl)) (fun _ h9 => h9) rfl dX1_gather_40 ?_
        refine lv_iload_n hx hb dX1_gather_43 rfl (lv_at hl 0 rfl) ?_
        refine lv_iconst (v := 0) hx hb dX1_gather_44 (by decide) ?_
        refine x_iast hx hb hE hP hD hS 3 rfl (k) (by omega) (by decide) (rfl) (ws' := [(g, .inr (1, [.int seed, .int (nI wk), .ref g1, .ref g2, .ref g3])), (g1, .inl (cI, 16, .inl (mapTo pr (k + 1) nI))), (g2, .inl (cI, 16, .inl (fillTo ho (k + 1) (-1)))), (g3, .inl (cI, 16, .inl (fillTo be (k + 1) 0)))]) (by rw [fill_s]; rfl) dX1_gather_45 (fun H locs hP hD hS => ?_)
        refine lv_iinc (v := nI (k + 1)) (lv' := [(3, .int (nI (k + 1))), (0, .ref g), (1, .int (nI wk)), (2, .int seed)]) hx hb dX1_gather_46 hl (k := 0) rfl (nI_1 k) (by decide) rfl (fun ls hl => ?_)
        refine lv_goto (tgt := 17) hx hb dX1_gather_49 (by decide) ?_
        exact ih17 (k + 1) (by omega) (by omega) _ _ ls hP hD hS (lv_sub hl [0, 1, 2, 3] rfl)
  exact loop17 17 0 (by omega) (by omega) _ _ ls (by simp only [fill_0, map_0]; exact hP) (by simp only [fill_0, map_0]; exact hD) hS (lv_sub hl [0, 1, 2, 3] rfl)
set_option maxHeartbeats 4000000 in
set_option maxRecDepth 100000 in
theorem k_nextInTurn (l : Launch) (D : va_G) (cI cJ cZ : ClassId) (sz : Nat) (g g1 g2 g3 : Nat) (sd : Int32) (lf : Nat) (pr : Nat → Int32) (hlf : 0 < lf) (hl16 : lf ≤ 16) : Met l yX1_nextInTurn wsX1_nextInTurn ({ frames := 0, cells := 0, slots := 0, locals := 0 }) (PcRW [.ref g] sz D cI cJ cZ [(g, .inr (1, [.int sd, .int (nI lf), .ref g1, .ref g2, .ref g3])), (g1, .inl (cI, 16, .inl pr))]) (QcI (fun r => r = pr (turnI (nxs sd) lf)) D (va_A [(g, .inr (1, [.int sd, .int (nI lf), .ref g1, .ref g2, .ref g3])), (g1, .inl (cI, 16, .inl pr))] sz) [(g, .inr (1, [.int (nxs sd), .int (nI lf), .ref g1, .ref g2, .ref g3])), (g1, .inl (cI, 16, .inl pr))]) 0 0 (va_A [(g, .inr (1, [.int sd, .int (nI lf), .ref g1, .ref g2, .ref g3])), (g1, .inl (cI, 16, .inl pr))] sz) := by
  refine Met.ofW (cc := cX1_nextInTurn) (maxL := 1) (ret := some .int) (by decide) rfl ?_
  intro p e s m args below meth c s₁ B hml hv
  obtain ⟨rfl, hsz, hP, hE, hD0⟩ := hv
  have hx := B.exec
  have hb := B.bytes
  have hr := B.returns
  have hts := atoms_spec (ws := wsX1_nextInTurn) B.pre
  have hown : s.vm.findClass RX1 = some m.cls := findClass_of_methodNamed B.named
  have hlocks := B.notSynchronized
  have hK := hE.1
  subst hsz
  have hD := hD0.self (sz := s.heap.size)
  generalize hAe : va_A [(g, .inr (1, [.int sd, .int (nI lf), .ref g1, .ref g2, .ref g3])), (g1, .inl (cI, 16, .inl pr))] s.heap.size = A at hD ⊢
  have hA : ∀ q : Nat, s.heap.size ≤ q → A q := fun q h => by rw [← hAe]; exact Or.inr h
  have hS : va_S A s.heap s.heap [] := va_S.rf
  have hl := lv_entry ([.ref g]) (n := 1) (Nat.le_of_ble_eq_true rfl)
  rw [lg_entry_eq]
  generalize (lg_sl ([.ref g]) ++ List.replicate (1 - (lg_sl ([.ref g])).length) Slot.unset).toArray = ls at hl ⊢
  have hl : lv_has ls 1 [(0, .ref g)] := hl
  have hinX1 : ∀ w ∈ u_ws RX1 TX1 5, w ∈ wsX1_nextInTurn := fun _ h => List.mem_cons_of_mem _ (List.mem_append_right _ h)
  refine lv_aload_n hx hb dX1_nextInTurn_0 rfl (lv_at hl 0 rfl) ?_
  refine lv_aload_n hx hb dX1_nextInTurn_1 rfl (lv_at hl 0 rfl) ?_
  refine va_get (D := D) (ci := 1) (v := .int sd) (C := RX1) (T := TX1) (N := 5) hx hb hts hinX1 hown hK hP 0 rfl rfl 0 (by decide) (hts (.fieldLink RX1 21 "LedgerShares$Crew" "seed" "I") (List.mem_of_getElem? (i := 1) rfl)) (fun _ h9 => h9) rfl dX1_nextInTurn_2 ?_
  refine lv_ldc hx hb hown (hts (.constant RX1 34 (1103515245)) (List.mem_of_getElem? (i := 2) rfl)) dX1_nextInTurn_5 ?_
  refine lv_imul hx hb dX1_nextInTurn_7 ?_
  refine lv_sipush (v := 12345) hx hb dX1_nextInTurn_8 (by decide) ?_
  refine lv_iadd hx hb dX1_nextInTurn_11 ?_
  refine x_topi (y := nxs sd) (rfl) ?_
  refine x_put (D := D) (ci := 1) (v := .int (nxs sd)) (ty := .int) (C := RX1) (T := TX1) (N := 5) hx hb hts hinX1 tyX1 tyX1_ok nmX1 hown hK hP hD hS 0 rfl rfl 0 (by decide) (hts (.fieldLink RX1 21 "LedgerShares$Crew" "seed" "I") (List.mem_of_getElem? (i := 1) rfl)) rfl (by decide +kernel) (rfl) (rfl) (Nat.le_of_ble_eq_true rfl) (ws' := [(g, .inr (1, [.int (nxs sd), .int (nI lf), .ref g1, .ref g2, .ref g3])), (g1, .inl (cI, 16, .inl pr))]) rfl dX1_nextInTurn_12 (fun H locs hP hD hS => ?_)
  refine lv_aload_n hx hb dX1_nextInTurn_15 rfl (lv_at hl 0 rfl) ?_
  refine va_get (D := D) (ci := 1) (v := .int (nI lf)) (C := RX1) (T := TX1) (N := 5) hx hb hts hinX1 hown hK hP 0 rfl rfl 1 (by decide) (hts (.fieldLink RX1 31 "LedgerShares$Crew" "left" "I") (List.mem_of_getElem? (i := 3) rfl)) (fun _ h9 => h9) rfl dX1_nextInTurn_16 ?_
  refine lv_if_le (tgt := 42) hx hb dX1_nextInTurn_19 (by decide) (fun c19 => absurd c19 (nI_nle hlf (by omega))) (fun c19 => ?_)
  refine lv_aload_n hx hb dX1_nextInTurn_22 rfl (lv_at hl 0 rfl) ?_
  refine va_get (D := D) (ci := 1) (v := .ref g1) (C := RX1) (T := TX1) (N := 5) hx hb hts hinX1 hown hK hP 0 rfl rfl 2 (by decide) (hts (.fieldLink RX1 9 "LedgerShares$Crew" "present" "[I") (List.mem_of_getElem? (i := 4) rfl)) (fun _ h9 => h9) rfl dX1_nextInTurn_23 ?_
  refine lv_aload_n hx hb dX1_nextInTurn_26 rfl (lv_at hl 0 rfl) ?_
  refine va_get (D := D) (ci := 1) (v := .int (nxs sd)) (C := RX1) (T := TX1) (N := 5) hx hb hts hinX1 hown hK hP 0 rfl rfl 0 (by decide) (hts (.fieldLink RX1 21 "LedgerShares$Crew" "seed" "I") (List.mem_of_getElem? (i := 1) rfl)) (fun _ h9 => h9) rfl dX1_nextInTurn_27 ?_
  refine lv_bipush (v := 16) hx hb dX1_nextInTurn_30 (by decide) ?_
  refine lv_iushr (v := nI ((nxs sd).toBitVec.toNat / 2 ^ 16)) hx hb dX1_nextInTurn_32 (x_ushr16 _) ?_
  refine lv_aload_n hx hb dX1_nextInTurn_33 rfl (lv_at hl 0 rfl) ?_
  refine va_get (D := D) (ci := 1) (v := .int (nI lf)) (C := RX1) (T := TX1) (N := 5) hx hb hts hinX1 hown hK hP 0 rfl rfl 1 (by decide) (hts (.fieldLink RX1 31 "LedgerShares$Crew" "left" "I") (List.mem_of_getElem? (i := 3) rfl)) (fun _ h9 => h9) rfl dX1_nextInTurn_34 ?_
  refine lv_irem hx hb dX1_nextInTurn_37 (nI_ne0 hlf (by omega)) ?_
  refine x_topi (y := nI (turnI (nxs sd) lf)) (pk_rem (ushr_lt _) hlf (by omega)) ?_
  refine x_iald hx hb hE hP 1 rfl (turnI (nxs sd) lf) (Nat.lt_of_lt_of_le (Nat.mod_lt _ hlf) hl16) (by decide) (rfl) dX1_nextInTurn_38 ?_
  refine lv_goto (tgt := 43) hx hb dX1_nextInTurn_39 (by decide) ?_
  exact W.iret hx hb hr (fun t ht hW => ⟨⟨_, (), rfl, rfl, by rw [ht]; exact hP, by exact hD⟩, hS.F ht⟩) hS.2.2 dX1_nextInTurn_43
set_option maxHeartbeats 4000000 in
set_option maxRecDepth 100000 in
theorem k_beginsOnceMore (l : Launch) (D : va_G) (cI cJ cZ : ClassId) (sz : Nat) (g g1 g2 g3 : Nat) (sd : Int32) (lf : Int32) (be : Nat → Int32) (w : Nat) (hw : w < 16) : Met l yX1_beginsOnceMore wsX1_beginsOnceMore ({ frames := 0, cells := 0, slots := 0, locals := 0 }) (PcRW [.ref g, .int (nI w)] sz D cI cJ cZ [(g, .inr (1, [.int sd, .int lf, .ref g1, .ref g2, .ref g3])), (g3, .inl (cI, 16, .inl be))]) (QcI (fun r => r = be w + 1) D (va_A [(g, .inr (1, [.int sd, .int lf, .ref g1, .ref g2, .ref g3])), (g3, .inl (cI, 16, .inl be))] sz) [(g, .inr (1, [.int sd, .int lf, .ref g1, .ref g2, .ref g3])), (g3, .inl (cI, 16, .inl (upd be w (be w + 1))))]) 0 0 (va_A [(g, .inr (1, [.int sd, .int lf, .ref g1, .ref g2, .ref g3])), (g3, .inl (cI, 16, .inl be))] sz) := by
  refine Met.ofW (cc := cX1_beginsOnceMore) (maxL := 2) (ret := some .int) (by decide) rfl ?_
  intro p e s m args below meth c s₁ B hml hv
  obtain ⟨rfl, hsz, hP, hE, hD0⟩ := hv
  have hx := B.exec
  have hb := B.bytes
  have hr := B.returns
  have hts := atoms_spec (ws := wsX1_beginsOnceMore) B.pre
  have hown : s.vm.findClass RX1 = some m.cls := findClass_of_methodNamed B.named
  have hlocks := B.notSynchronized
  have hK := hE.1
  subst hsz
  have hD := hD0.self (sz := s.heap.size)
  generalize hAe : va_A [(g, .inr (1, [.int sd, .int lf, .ref g1, .ref g2, .ref g3])), (g3, .inl (cI, 16, .inl be))] s.heap.size = A at hD ⊢
  have hA : ∀ q : Nat, s.heap.size ≤ q → A q := fun q h => by rw [← hAe]; exact Or.inr h
  have hS : va_S A s.heap s.heap [] := va_S.rf
  have hl := lv_entry ([.ref g, .int (nI w)]) (n := 2) (Nat.le_of_ble_eq_true rfl)
  rw [lg_entry_eq]
  generalize (lg_sl ([.ref g, .int (nI w)]) ++ List.replicate (2 - (lg_sl ([.ref g, .int (nI w)])).length) Slot.unset).toArray = ls at hl ⊢
  have hl : lv_has ls 2 [(0, .ref g), (1, .int (nI w))] := hl
  have hinX1 : ∀ w ∈ u_ws RX1 TX1 5, w ∈ wsX1_beginsOnceMore := fun _ h => List.mem_cons_of_mem _ (List.mem_append_right _ h)
  refine lv_aload_n hx hb dX1_beginsOnceMore_0 rfl (lv_at hl 0 rfl) ?_
  refine va_get (D := D) (ci := 1) (v := .ref g3) (C := RX1) (T := TX1) (N := 5) hx hb hts hinX1 hown hK hP 0 rfl rfl 4 (by decide) (hts (.fieldLink RX1 18 "LedgerShares$Crew" "begins" "[I") (List.mem_of_getElem? (i := 1) rfl)) (fun _ h9 => h9) rfl dX1_beginsOnceMore_1 ?_
  refine lv_iload_n hx hb dX1_beginsOnceMore_4 rfl (lv_at hl 1 rfl) ?_
  refine lv_dup2_11 hx hb dX1_beginsOnceMore_5 rfl rfl ?_
  refine x_iald hx hb hE hP 1 rfl (w) hw (by decide) (rfl) dX1_beginsOnceMore_6 ?_
  refine lv_iconst (v := 1) hx hb dX1_beginsOnceMore_7 (by decide) ?_
  refine lv_iadd hx hb dX1_beginsOnceMore_8 ?_
  refine x_iast hx hb hE hP hD hS 1 rfl (w) hw (by decide) (rfl) (ws' := [(g, .inr (1, [.int sd, .int lf, .ref g1, .ref g2, .ref g3])), (g3, .inl (cI, 16, .inl (upd be w ((be w) + 1))))]) (rfl) dX1_beginsOnceMore_9 (fun H locs hP hD hS => ?_)
  refine lv_aload_n hx hb dX1_beginsOnceMore_10 rfl (lv_at hl 0 rfl) ?_
  refine va_get (D := D) (ci := 1) (v := .ref g3) (C := RX1) (T := TX1) (N := 5) hx hb hts hinX1 hown hK hP 0 rfl rfl 4 (by decide) (hts (.fieldLink RX1 18 "LedgerShares$Crew" "begins" "[I") (List.mem_of_getElem? (i := 1) rfl)) (fun _ h9 => h9) rfl dX1_beginsOnceMore_11 ?_
  refine lv_iload_n hx hb dX1_beginsOnceMore_14 rfl (lv_at hl 1 rfl) ?_
  refine x_iald hx hb hE hP 1 rfl (w) hw (by decide) (rfl) dX1_beginsOnceMore_15 ?_
  refine x_topi (y := be w + 1) (upd_s _ _ _) ?_
  exact W.iret hx hb hr (fun t ht hW => ⟨⟨_, (), rfl, rfl, by rw [ht]; exact hP, by exact hD⟩, hS.F ht⟩) hS.2.2 dX1_beginsOnceMore_16
set_option maxHeartbeats 4000000 in
set_option maxRecDepth 100000 in
theorem k_dismiss (l : Launch) (D : va_G) (cI cJ cZ : ClassId) (sz : Nat) (g g1 g2 g3 : Nat) (sd : Int32) (lf : Nat) (pr : Nat → Int32) (w : Nat) (hl16 : lf ≤ 16) : Met l yX1_dismiss wsX1_dismiss ({ frames := 0, cells := 0, slots := 0, locals := 0 }) (PcRW [.ref g, .int (nI w)] sz D cI cJ cZ [(g, .inr (1, [.int sd, .int (nI lf), .ref g1, .ref g2, .ref g3])), (g1, .inl (cI, 16, .inl pr))]) (QcV D (va_A [(g, .inr (1, [.int sd, .int (nI lf), .ref g1, .ref g2, .ref g3])), (g1, .inl (cI, 16, .inl pr))] sz) [(g, .inr (1, [.int sd, .int (nI (dsm lf (nI w) 17 0 0 pr).2), .ref g1, .ref g2, .ref g3])), (g1, .inl (cI, 16, .inl ((dsm lf (nI w) 17 0 0 pr).1)))]) 0 0 (va_A [(g, .inr (1, [.int sd, .int (nI lf), .ref g1, .ref g2, .ref g3])), (g1, .inl (cI, 16, .inl pr))] sz) := by
  refine Met.ofW (cc := cX1_dismiss) (maxL := 4) (ret := none) (by decide) rfl ?_
  intro p e s m args below meth c s₁ B hml hv
  obtain ⟨rfl, hsz, hP, hE, hD0⟩ := hv
  have hx := B.exec
  have hb := B.bytes
  have hr := B.returns
  have hts := atoms_spec (ws := wsX1_dismiss) B.pre
  have hown : s.vm.findClass RX1 = some m.cls := findClass_of_methodNamed B.named
  have hlocks := B.notSynchronized
  have hK := hE.1
  subst hsz
  have hD := hD0.self (sz := s.heap.size)
  generalize hAe : va_A [(g, .inr (1, [.int sd, .int (nI lf), .ref g1, .ref g2, .ref g3])), (g1, .inl (cI, 16, .inl pr))] s.heap.size = A at hD ⊢
  have hA : ∀ q : Nat, s.heap.size ≤ q → A q := fun q h => by rw [← hAe]; exact Or.inr h
  have hS : va_S A s.heap s.heap [] := va_S.rf
  have hl := lv_entry ([.ref g, .int (nI w)]) (n := 4) (Nat.le_of_ble_eq_true rfl)
  rw [lg_entry_eq]
  generalize (lg_sl ([.ref g, .int (nI w)]) ++ List.replicate (4 - (lg_sl ([.ref g, .int (nI w)])).length) Slot.unset).toArray = ls at hl ⊢
  have hl : lv_has ls 4 [(0, .ref g), (1, .int (nI w))] := hl
  have hinX1 : ∀ w ∈ u_ws RX1 TX1 5, w ∈ wsX1_dismiss := fun _ h => List.mem_cons_of_mem _ (List.mem_append_right _ h)
  refine lv_iconst (v := 0) hx hb dX1_dismiss_0 (by decide) ?_
  refine lv_istore_n (lv' := [(2, .int 0), (0, .ref g), (1, .int (nI w))]) hx hb dX1_dismiss_1 rfl hl (by decide) rfl (fun ls hl => ?_)
  refine lv_iconst (v := 0) hx hb dX1_dismiss_2 (by decide) ?_
  refine lv_istore_n (lv' := [(3, .int 0), (2, .int 0), (0, .ref g), (1, .int (nI w))]) hx hb dX1_dismiss_3 rfl hl (by decide) rfl (fun ls hl => ?_)
  have loop4 : ∀ (n : Nat) (k t : Nat) (f : Nat → Int32), (t ≤ k) → (k ≤ lf) → (17 ≤ k + n) → (dsm lf (nI w) 17 0 0 pr = dsm lf (nI w) n k t f) → ∀ (H : Heap) (locs : List Loc) (ls : Array Slot), va_P D vwCl [(g, .inr (1, [.int sd, .int (nI lf), .ref g1, .ref g2, .ref g3])), (g1, .inl (cI, 16, .inl f))] H → va_D A [(g, .inr (1, [.int sd, .int (nI lf), .ref g1, .ref g2, .ref g3])), (g1, .inl (cI, 16, .inl f))] → va_S A s.heap H locs → lv_has ls 4 [(3, .int (nI k)), (2, .int (nI t)), (0, .ref g), (1, .int (nI w))] → W p l e (headSpec wsX1_dismiss ({ frames := 0, cells := 0, slots := 0, locals := 0 })).room s m ([.ref g, .int (nI w)].toArray) below meth c H locs 0 0 (MQ below (QcV D A [(g, .inr (1, [.int sd, .int (nI (dsm lf (nI w) 17 0 0 pr).2), .ref g1, .ref g2, .ref g3])), (g1, .inl (cI, 16, .inl ((dsm lf (nI w) 17 0 0 pr).1)))]) ([.ref g, .int (nI w)].toArray) s 0 0 A) (F0 m 4 ls []) := by
    intro n
    induction n with
    | zero =>
      intro k t f htk hk hf hinv
      exact absurd hf (by omega)
    | succ n ih4 =>
      intro k t f htk hk hf hinv H locs ls hP hD hS hl
      refine lv_iload_n hx hb dX1_dismiss_4 rfl (lv_at hl 0 rfl) ?_
      refine lv_aload_n hx hb dX1_dismiss_5 rfl (lv_at hl 2 rfl) ?_
      refine va_get (D := D) (ci := 1) (v := .int (nI lf)) (C := RX1) (T := TX1) (N := 5) hx hb hts hinX1 hown hK hP 0 rfl rfl 1 (by decide) (hts (.fieldLink RX1 31 "LedgerShares$Crew" "left" "I") (List.mem_of_getElem? (i := 1) rfl)) (fun _ h9 => h9) rfl dX1_dismiss_6 ?_
      refine lv_icmp_ge (tgt := 43) hx hb dX1_dismiss_9 (by decide) (fun c9 => ?_) (fun c9 => ?_)
      · refine lv_aload_n hx hb dX1_dismiss_43 rfl (lv_at hl 2 rfl) ?_
        refine lv_iload_n hx hb dX1_dismiss_44 rfl (lv_at hl 1 rfl) ?_
        refine x_put (D := D) (ci := 1) (v := .int (nI t)) (ty := .int) (C := RX1) (T := TX1) (N := 5) hx hb hts hinX1 tyX1 tyX1_ok nmX1 hown hK hP hD hS 0 rfl rfl 1 (by decide) (hts (.fieldLink RX1 31 "LedgerShares$Crew" "left" "I") (List.mem_of_getElem? (i := 1) rfl)) rfl (by decide +kernel) (rfl) (rfl) (Nat.le_of_ble_eq_true rfl) (ws' := [(g, .inr (1, [.int sd, .int (nI t), .ref g1, .ref g2, .ref g3])), (g1, .inl (cI, 16, .inl f))]) rfl dX1_dismiss_45 (fun H locs hP hD hS => ?_)
        have q : dsm lf (nI w) 17 0 0 pr = (f, t) := by rw [hinv]; simp [dsm, show ¬ k < lf from fun z => absurd c9 (nI_ge z (by omega))]
        exact W.vret hx hb hr (fun t ht hW => ⟨⟨(), rfl, trivial, by rw [ht]; rw [q]; exact hP, by rw [q]; exact hD⟩, hS.F ht⟩) hS.2.2 dX1_dismiss_48
      · have g9 : k < lf := Nat.lt_of_not_le (fun z => c9 (nI_le z (by omega)))
        refine lv_aload_n hx hb dX1_dismiss_12 rfl (lv_at hl 2 rfl) ?_
        refine va_get (D := D) (ci := 1) (v := .ref g1) (C := RX1) (T := TX1) (N := 5) hx hb hts hinX1 hown hK hP 0 rfl rfl 2 (by decide) (hts (.fieldLink RX1 9 "LedgerShares$Crew" "present" "[I") (List.mem_of_getElem? (i := 2) rfl)) (fun _ h9 => h9) rfl dX1_dismiss_13 ?_
        refine lv_iload_n hx hb dX1_dismiss_16 rfl (lv_at hl 0 rfl) ?_
        refine x_iald hx hb hE hP 1 rfl (k) (by omega) (by decide) (rfl) dX1_dismiss_17 ?_
        refine lv_iload_n hx hb dX1_dismiss_18 rfl (lv_at hl 3 rfl) ?_
        refine lv_icmp_eq (tgt := 37) hx hb dX1_dismiss_19 (by decide) (fun c19 => ?_) (fun c19 => ?_)
        · refine lv_iinc (v := nI (k + 1)) (lv' := [(3, .int (nI (k + 1))), (2, .int (nI t)), (0, .ref g), (1, .int (nI w))]) hx hb dX1_dismiss_37 hl (k := 0) rfl (nI_1 k) (by decide) rfl (fun ls hl => ?_)
          refine lv_goto (tgt := 4) hx hb dX1_dismiss_40 (by decide) ?_
          exact ih4 (k + 1) t f (by omega) (by omega) (by omega) (by rw [hinv]; simp [dsm, g9, c19]) _ _ ls hP hD hS (lv_sub hl [0, 1, 2, 3] rfl)
        · refine lv_aload_n hx hb dX1_dismiss_22 rfl (lv_at hl 2 rfl) ?_
          refine va_get (D := D) (ci := 1) (v := .ref g1) (C := RX1) (T := TX1) (N := 5) hx hb hts hinX1 hown hK hP 0 rfl rfl 2 (by decide) (hts (.fieldLink RX1 9 "LedgerShares$Crew" "present" "[I") (List.mem_of_getElem? (i := 2) rfl)) (fun _ h9 => h9) rfl dX1_dismiss_23 ?_
          refine lv_iload_n hx hb dX1_dismiss_26 rfl (lv_at hl 1 rfl) ?_
          refine lv_aload_n hx hb dX1_dismiss_27 rfl (lv_at hl 2 rfl) ?_
          refine va_get (D := D) (ci := 1) (v := .ref g1) (C := RX1) (T := TX1) (N := 5) hx hb hts hinX1 hown hK hP 0 rfl rfl 2 (by decide) (hts (.fieldLink RX1 9 "LedgerShares$Crew" "present" "[I") (List.mem_of_getElem? (i := 2) rfl)) (fun _ h9 => h9) rfl dX1_dismiss_28 ?_
          refine lv_iload_n hx hb dX1_dismiss_31 rfl (lv_at hl 0 rfl) ?_
          refine x_iald hx hb hE hP 1 rfl (k) (by omega) (by decide) (rfl) dX1_dismiss_32 ?_
          refine x_iast hx hb hE hP hD hS 1 rfl (t) (by omega) (by decide) (rfl) (ws' := [(g, .inr (1, [.int sd, .int (nI lf), .ref g1, .ref g2, .ref g3])), (g1, .inl (cI, 16, .inl (upd f t (f k))))]) (rfl) dX1_dismiss_33 (fun H locs hP hD hS => ?_)
          refine lv_iinc (v := nI (t + 1)) (lv' := [(2, .int (nI (t + 1))), (3, .int (nI k)), (0, .ref g), (1, .int (nI w))]) hx hb dX1_dismiss_34 hl (k := 1) rfl (nI_1 t) (by decide) rfl (fun ls hl => ?_)
          refine lv_iinc (v := nI (k + 1)) (lv' := [(3, .int (nI (k + 1))), (2, .int (nI (t + 1))), (0, .ref g), (1, .int (nI w))]) hx hb dX1_dismiss_37 hl (k := 1) rfl (nI_1 k) (by decide) rfl (fun ls hl => ?_)
          refine lv_goto (tgt := 4) hx hb dX1_dismiss_40 (by decide) ?_
          exact ih4 (k + 1) (t + 1) (upd f t (f k)) (by omega) (by omega) (by omega) (by rw [hinv]; simp [dsm, g9, c19]) _ _ ls hP hD hS (lv_sub hl [0, 1, 2, 3] rfl)
  exact loop4 17 0 0 pr (by omega) (by omega) (by omega) rfl _ _ ls hP hD hS (lv_sub hl [0, 1, 2, 3] rfl)
set_option maxHeartbeats 4000000 in
set_option maxRecDepth 100000 in
theorem k_enter (l : Launch) (D : va_G) (cI cJ cZ : ClassId) (sz : Nat) (hB b1 b2 b3 b4 b5 b6 : Nat) (ok ak bk ck sk : Nat → Int32) (n : Nat) (hn : n < 40) (xo xa xb xc xs : Int32) : Met l yX0_enter wsX0_enter ({ frames := 1, cells := 0, slots := 0, locals := 22 }) (PcRW [.ref hB, .int xo, .int xa, .int xb, .int xc, .int xs] sz D cI cJ cZ [(hB, .inr (0, [.int (nI n), .ref b1, .ref b2, .ref b3, .ref b4, .ref b5, .ref b6])), (b1, .inl (cI, 40, .inl ok)), (b2, .inl (cI, 40, .inl ak)), (b3, .inl (cI, 40, .inl bk)), (b4, .inl (cI, 40, .inl ck)), (b5, .inl (cI, 40, .inl sk))]) (QcI (fun r => r = nI n) D (va_A [(hB, .inr (0, [.int (nI n), .ref b1, .ref b2, .ref b3, .ref b4, .ref b5, .ref b6])), (b1, .inl (cI, 40, .inl ok)), (b2, .inl (cI, 40, .inl ak)), (b3, .inl (cI, 40, .inl bk)), (b4, .inl (cI, 40, .inl ck)), (b5, .inl (cI, 40, .inl sk))] sz) [(hB, .inr (0, [.int (nI (n + 1)), .ref b1, .ref b2, .ref b3, .ref b4, .ref b5, .ref b6])), (b1, .inl (cI, 40, .inl (upd ok n xo))), (b2, .inl (cI, 40, .inl (upd ak n xa))), (b3, .inl (cI, 40, .inl (upd bk n xb))), (b4, .inl (cI, 40, .inl (upd ck n xc))), (b5, .inl (cI, 40, .inl (upd sk n xs)))]) 0 0 (va_A [(hB, .inr (0, [.int (nI n), .ref b1, .ref b2, .ref b3, .ref b4, .ref b5, .ref b6])), (b1, .inl (cI, 40, .inl ok)), (b2, .inl (cI, 40, .inl ak)), (b3, .inl (cI, 40, .inl bk)), (b4, .inl (cI, 40, .inl ck)), (b5, .inl (cI, 40, .inl sk))] sz) := by
  refine Met.ofW (cc := cX0_enter) (maxL := 7) (ret := some .int) (by decide) rfl ?_
  intro p e s m args below meth c s₁ B hml hv
  obtain ⟨rfl, hsz, hP, hE, hD0⟩ := hv
  have hx := B.exec
  have hb := B.bytes
  have hr := B.returns
  have hts := atoms_spec (ws := wsX0_enter) B.pre
  have hown : s.vm.findClass RX0 = some m.cls := findClass_of_methodNamed B.named
  have hlocks := B.notSynchronized
  have hK := hE.1
  subst hsz
  have hD := hD0.self (sz := s.heap.size)
  generalize hAe : va_A [(hB, .inr (0, [.int (nI n), .ref b1, .ref b2, .ref b3, .ref b4, .ref b5, .ref b6])), (b1, .inl (cI, 40, .inl ok)), (b2, .inl (cI, 40, .inl ak)), (b3, .inl (cI, 40, .inl bk)), (b4, .inl (cI, 40, .inl ck)), (b5, .inl (cI, 40, .inl sk))] s.heap.size = A at hD ⊢
  have hA : ∀ q : Nat, s.heap.size ≤ q → A q := fun q h => by rw [← hAe]; exact Or.inr h
  have hS : va_S A s.heap s.heap [] := va_S.rf
  have hl := lv_entry ([.ref hB, .int xo, .int xa, .int xb, .int xc, .int xs]) (n := 7) (Nat.le_of_ble_eq_true rfl)
  rw [lg_entry_eq]
  generalize (lg_sl ([.ref hB, .int xo, .int xa, .int xb, .int xc, .int xs]) ++ List.replicate (7 - (lg_sl ([.ref hB, .int xo, .int xa, .int xb, .int xc, .int xs])).length) Slot.unset).toArray = ls at hl ⊢
  have hl : lv_has ls 7 [(0, .ref hB), (1, .int xo), (2, .int xa), (3, .int xb), (4, .int xc), (5, .int xs)] := hl
  have hinX0 : ∀ w ∈ u_ws RX0 TX0 7, w ∈ wsX0_enter := fun _ h => List.mem_cons_of_mem _ (List.mem_append_right _ h)
  refine lv_aload_n hx hb dX0_enter_0 rfl (lv_at hl 0 rfl) ?_
  refine va_get (D := D) (ci := 0) (v := .int (nI n)) (C := RX0) (T := TX0) (N := 7) hx hb hts hinX0 hown hK hP 0 rfl rfl 0 (by decide) (hts (.fieldLink RX0 30 "LedgerShares$Book" "size" "I") (List.mem_of_getElem? (i := 1) rfl)) (fun _ h9 => h9) rfl dX0_enter_1 ?_
  refine lv_istore (lv' := [(6, .int (nI n)), (0, .ref hB), (1, .int xo), (2, .int xa), (3, .int xb), (4, .int xc), (5, .int xs)]) hx hb dX0_enter_4 hl (by decide) rfl (fun ls hl => ?_)
  refine lv_iload hx hb dX0_enter_6 (lv_at hl 0 rfl) ?_
  refine lv_iconst (v := 0) hx hb dX0_enter_8 (by decide) ?_
  refine lv_bipush (v := 39) hx hb dX0_enter_9 (by decide) ?_
  refine vp_callSi (va_Run.run (va_runSN (As := [.int (nI n), .int 0, .int 39]) (rest := []) ⟨hx, hb, hml, hown, hts⟩ (k_within l D cI cJ cZ (nI n) 0 39) ⟨va_cnB 3 hts gX0_enter_X4_within_n34 rfl rfl rfl hE.2.2.2.1 (hts (.initialized RX4) (List.mem_of_getElem? (i := 8) rfl)) (by decide +kernel) ⟨Nat.le_of_ble_eq_true rfl, Nat.le_of_ble_eq_true rfl⟩, (hts (.static yX4_within) (List.mem_of_getElem? (i := 7) rfl)), trivial⟩ ⟨bl_ro, fun U hU hW => ⟨rfl, by rw [hU]; exact (hP.sub (ws' := []) [] rfl), hE.warm2 hW⟩⟩ rfl rfl hl.1 rfl (lv_room (Nat.le_of_ble_eq_true rfl)) dX0_enter_11 ⟨Nat.zero_le _, Nat.zero_le _⟩)) (fun r11 hr11 => ?_)
  refine lv_if_ne (tgt := 20) hx hb dX0_enter_14 (by decide) (fun c14 => ?_) (fun c14 => (wi_f (hr11.symm.trans c14) (nI_pos' (by omega)) (nI_le (a := n) (b := 39) (by omega) (by decide))).elim)
  refine lv_aload_n hx hb dX0_enter_20 rfl (lv_at hl 1 rfl) ?_
  refine va_get (D := D) (ci := 0) (v := .ref b1) (C := RX0) (T := TX0) (N := 7) hx hb hts hinX0 hown hK hP 0 rfl rfl 1 (by decide) (hts (.fieldLink RX0 9 "LedgerShares$Book" "ops" "[I") (List.mem_of_getElem? (i := 2) rfl)) (fun _ h9 => h9) rfl dX0_enter_21 ?_
  refine lv_iload hx hb dX0_enter_24 (lv_at hl 0 rfl) ?_
  refine lv_iload_n hx hb dX0_enter_26 rfl (lv_at hl 2 rfl) ?_
  refine x_iast hx hb hE hP hD hS 1 rfl (n) hn (by decide) (rfl) (ws' := [(hB, .inr (0, [.int (nI n), .ref b1, .ref b2, .ref b3, .ref b4, .ref b5, .ref b6])), (b1, .inl (cI, 40, .inl (upd ok n xo))), (b2, .inl (cI, 40, .inl ak)), (b3, .inl (cI, 40, .inl bk)), (b4, .inl (cI, 40, .inl ck)), (b5, .inl (cI, 40, .inl sk))]) (rfl) dX0_enter_27 (fun H locs hP hD hS => ?_)
  refine lv_aload_n hx hb dX0_enter_28 rfl (lv_at hl 1 rfl) ?_
  refine va_get (D := D) (ci := 0) (v := .ref b2) (C := RX0) (T := TX0) (N := 7) hx hb hts hinX0 hown hK hP 0 rfl rfl 2 (by decide) (hts (.fieldLink RX0 15 "LedgerShares$Book" "as" "[I") (List.mem_of_getElem? (i := 3) rfl)) (fun _ h9 => h9) rfl dX0_enter_29 ?_
  refine lv_iload hx hb dX0_enter_32 (lv_at hl 0 rfl) ?_
  refine lv_iload_n hx hb dX0_enter_34 rfl (lv_at hl 3 rfl) ?_
  refine x_iast hx hb hE hP hD hS 2 rfl (n) hn (by decide) (rfl) (ws' := [(hB, .inr (0, [.int (nI n), .ref b1, .ref b2, .ref b3, .ref b4, .ref b5, .ref b6])), (b1, .inl (cI, 40, .inl (upd ok n xo))), (b2, .inl (cI, 40, .inl (upd ak n xa))), (b3, .inl (cI, 40, .inl bk)), (b4, .inl (cI, 40, .inl ck)), (b5, .inl (cI, 40, .inl sk))]) (rfl) dX0_enter_35 (fun H locs hP hD hS => ?_)
  refine lv_aload_n hx hb dX0_enter_36 rfl (lv_at hl 1 rfl) ?_
  refine va_get (D := D) (ci := 0) (v := .ref b3) (C := RX0) (T := TX0) (N := 7) hx hb hts hinX0 hown hK hP 0 rfl rfl 3 (by decide) (hts (.fieldLink RX0 18 "LedgerShares$Book" "bs" "[I") (List.mem_of_getElem? (i := 4) rfl)) (fun _ h9 => h9) rfl dX0_enter_37 ?_
  refine lv_iload hx hb dX0_enter_40 (lv_at hl 0 rfl) ?_
  refine lv_iload_n hx hb dX0_enter_42 rfl (lv_at hl 4 rfl) ?_
  refine x_iast hx hb hE hP hD hS 3 rfl (n) hn (by decide) (rfl) (ws' := [(hB, .inr (0, [.int (nI n), .ref b1, .ref b2, .ref b3, .ref b4, .ref b5, .ref b6])), (b1, .inl (cI, 40, .inl (upd ok n xo))), (b2, .inl (cI, 40, .inl (upd ak n xa))), (b3, .inl (cI, 40, .inl (upd bk n xb))), (b4, .inl (cI, 40, .inl ck)), (b5, .inl (cI, 40, .inl sk))]) (rfl) dX0_enter_43 (fun H locs hP hD hS => ?_)
  refine lv_aload_n hx hb dX0_enter_44 rfl (lv_at hl 1 rfl) ?_
  refine va_get (D := D) (ci := 0) (v := .ref b4) (C := RX0) (T := TX0) (N := 7) hx hb hts hinX0 hown hK hP 0 rfl rfl 4 (by decide) (hts (.fieldLink RX0 21 "LedgerShares$Book" "cs" "[I") (List.mem_of_getElem? (i := 5) rfl)) (fun _ h9 => h9) rfl dX0_enter_45 ?_
  refine lv_iload hx hb dX0_enter_48 (lv_at hl 0 rfl) ?_
  refine lv_iload hx hb dX0_enter_50 (lv_at hl 5 rfl) ?_
  refine x_iast hx hb hE hP hD hS 4 rfl (n) hn (by decide) (rfl) (ws' := [(hB, .inr (0, [.int (nI n), .ref b1, .ref b2, .ref b3, .ref b4, .ref b5, .ref b6])), (b1, .inl (cI, 40, .inl (upd ok n xo))), (b2, .inl (cI, 40, .inl (upd ak n xa))), (b3, .inl (cI, 40, .inl (upd bk n xb))), (b4, .inl (cI, 40, .inl (upd ck n xc))), (b5, .inl (cI, 40, .inl sk))]) (rfl) dX0_enter_52 (fun H locs hP hD hS => ?_)
  refine lv_aload_n hx hb dX0_enter_53 rfl (lv_at hl 1 rfl) ?_
  refine va_get (D := D) (ci := 0) (v := .ref b5) (C := RX0) (T := TX0) (N := 7) hx hb hts hinX0 hown hK hP 0 rfl rfl 5 (by decide) (hts (.fieldLink RX0 24 "LedgerShares$Book" "steps" "[I") (List.mem_of_getElem? (i := 6) rfl)) (fun _ h9 => h9) rfl dX0_enter_54 ?_
  refine lv_iload hx hb dX0_enter_57 (lv_at hl 0 rfl) ?_
  refine lv_iload hx hb dX0_enter_59 (lv_at hl 6 rfl) ?_
  refine x_iast hx hb hE hP hD hS 5 rfl (n) hn (by decide) (rfl) (ws' := [(hB, .inr (0, [.int (nI n), .ref b1, .ref b2, .ref b3, .ref b4, .ref b5, .ref b6])), (b1, .inl (cI, 40, .inl (upd ok n xo))), (b2, .inl (cI, 40, .inl (upd ak n xa))), (b3, .inl (cI, 40, .inl (upd bk n xb))), (b4, .inl (cI, 40, .inl (upd ck n xc))), (b5, .inl (cI, 40, .inl (upd sk n xs)))]) (rfl) dX0_enter_61 (fun H locs hP hD hS => ?_)
  refine lv_aload_n hx hb dX0_enter_62 rfl (lv_at hl 1 rfl) ?_
  refine lv_iload hx hb dX0_enter_63 (lv_at hl 0 rfl) ?_
  refine lv_iconst (v := 1) hx hb dX0_enter_65 (by decide) ?_
  refine lv_iadd hx hb dX0_enter_66 ?_
  refine x_topi (y := nI (n + 1)) (nI_1 n) ?_
  refine x_put (D := D) (ci := 0) (v := .int (nI (n + 1))) (ty := .int) (C := RX0) (T := TX0) (N := 7) hx hb hts hinX0 tyX0 tyX0_ok nmX0 hown hK hP hD hS 0 rfl rfl 0 (by decide) (hts (.fieldLink RX0 30 "LedgerShares$Book" "size" "I") (List.mem_of_getElem? (i := 1) rfl)) rfl (by decide +kernel) (rfl) (rfl) (Nat.le_of_ble_eq_true rfl) (ws' := [(hB, .inr (0, [.int (nI (n + 1)), .ref b1, .ref b2, .ref b3, .ref b4, .ref b5, .ref b6])), (b1, .inl (cI, 40, .inl (upd ok n xo))), (b2, .inl (cI, 40, .inl (upd ak n xa))), (b3, .inl (cI, 40, .inl (upd bk n xb))), (b4, .inl (cI, 40, .inl (upd ck n xc))), (b5, .inl (cI, 40, .inl (upd sk n xs)))]) rfl dX0_enter_67 (fun H locs hP hD hS => ?_)
  refine lv_iload hx hb dX0_enter_70 (lv_at hl 0 rfl) ?_
  exact W.iret hx hb hr (fun t ht hW => ⟨⟨_, (), rfl, rfl, by rw [ht]; exact hP, by exact hD⟩, hS.F ht⟩) hS.2.2 dX0_enter_72
set_option maxHeartbeats 4000000 in
set_option maxRecDepth 100000 in
theorem k_enterF (l : Launch) (D : va_G) (cI cJ cZ : ClassId) (sz : Nat) (hB b1 b2 b3 b4 b5 b6 : Nat) (ok ak bk ck sk : Nat → Int32) (xo xa xb xc xs : Int32) : Met l yX0_enter wsX0_enter ({ frames := 1, cells := 0, slots := 0, locals := 22 }) (PcRW [.ref hB, .int xo, .int xa, .int xb, .int xc, .int xs] sz D cI cJ cZ [(hB, .inr (0, [.int (nI 40), .ref b1, .ref b2, .ref b3, .ref b4, .ref b5, .ref b6])), (b1, .inl (cI, 40, .inl ok)), (b2, .inl (cI, 40, .inl ak)), (b3, .inl (cI, 40, .inl bk)), (b4, .inl (cI, 40, .inl ck)), (b5, .inl (cI, 40, .inl sk))]) (QcI (fun r => r = -4) D (va_A [(hB, .inr (0, [.int (nI 40), .ref b1, .ref b2, .ref b3, .ref b4, .ref b5, .ref b6])), (b1, .inl (cI, 40, .inl ok)), (b2, .inl (cI, 40, .inl ak)), (b3, .inl (cI, 40, .inl bk)), (b4, .inl (cI, 40, .inl ck)), (b5, .inl (cI, 40, .inl sk))] sz) [(hB, .inr (0, [.int (nI 40), .ref b1, .ref b2, .ref b3, .ref b4, .ref b5, .ref b6])), (b1, .inl (cI, 40, .inl ok)), (b2, .inl (cI, 40, .inl ak)), (b3, .inl (cI, 40, .inl bk)), (b4, .inl (cI, 40, .inl ck)), (b5, .inl (cI, 40, .inl sk))]) 0 0 (va_A [(hB, .inr (0, [.int (nI 40), .ref b1, .ref b2, .ref b3, .ref b4, .ref b5, .ref b6])), (b1, .inl (cI, 40, .inl ok)), (b2, .inl (cI, 40, .inl ak)), (b3, .inl (cI, 40, .inl bk)), (b4, .inl (cI, 40, .inl ck)), (b5, .inl (cI, 40, .inl sk))] sz) := by
  refine Met.ofW (cc := cX0_enter) (maxL := 7) (ret := some .int) (by decide) rfl ?_
  intro p e s m args below meth c s₁ B hml hv
  obtain ⟨rfl, hsz, hP, hE, hD0⟩ := hv
  have hx := B.exec
  have hb := B.bytes
  have hr := B.returns
  have hts := atoms_spec (ws := wsX0_enter) B.pre
  have hown : s.vm.findClass RX0 = some m.cls := findClass_of_methodNamed B.named
  have hlocks := B.notSynchronized
  have hK := hE.1
  subst hsz
  have hD := hD0.self (sz := s.heap.size)
  generalize hAe : va_A [(hB, .inr (0, [.int (nI 40), .ref b1, .ref b2, .ref b3, .ref b4, .ref b5, .ref b6])), (b1, .inl (cI, 40, .inl ok)), (b2, .inl (cI, 40, .inl ak)), (b3, .inl (cI, 40, .inl bk)), (b4, .inl (cI, 40, .inl ck)), (b5, .inl (cI, 40, .inl sk))] s.heap.size = A at hD ⊢
  have hA : ∀ q : Nat, s.heap.size ≤ q → A q := fun q h => by rw [← hAe]; exact Or.inr h
  have hS : va_S A s.heap s.heap [] := va_S.rf
  have hl := lv_entry ([.ref hB, .int xo, .int xa, .int xb, .int xc, .int xs]) (n := 7) (Nat.le_of_ble_eq_true rfl)
  rw [lg_entry_eq]
  generalize (lg_sl ([.ref hB, .int xo, .int xa, .int xb, .int xc, .int xs]) ++ List.replicate (7 - (lg_sl ([.ref hB, .int xo, .int xa, .int xb, .int xc, .int xs])).length) Slot.unset).toArray = ls at hl ⊢
  have hl : lv_has ls 7 [(0, .ref hB), (1, .int xo), (2, .int xa), (3, .int xb), (4, .int xc), (5, .int xs)] := hl
  have hinX0 : ∀ w ∈ u_ws RX0 TX0 7, w ∈ wsX0_enter := fun _ h => List.mem_cons_of_mem _ (List.mem_append_right _ h)
  refine lv_aload_n hx hb dX0_enter_0 rfl (lv_at hl 0 rfl) ?_
  refine va_get (D := D) (ci := 0) (v := .int (nI 40)) (C := RX0) (T := TX0) (N := 7) hx hb hts hinX0 hown hK hP 0 rfl rfl 0 (by decide) (hts (.fieldLink RX0 30 "LedgerShares$Book" "size" "I") (List.mem_of_getElem? (i := 1) rfl)) (fun _ h9 => h9) rfl dX0_enter_1 ?_
  refine lv_istore (lv' := [(6, .int (nI 40)), (0, .ref hB), (1, .int xo), (2, .int xa), (3, .int xb), (4, .int xc), (5, .int xs)]) hx hb dX0_enter_4 hl (by decide) rfl (fun ls hl => ?_)
  refine lv_iload hx hb dX0_enter_6 (lv_at hl 0 rfl) ?_
  refine lv_iconst (v := 0) hx hb dX0_enter_8 (by decide) ?_
  refine lv_bipush (v := 39) hx hb dX0_enter_9 (by decide) ?_
  refine vp_callSi (va_Run.run (va_runSN (As := [.int (nI 40), .int 0, .int 39]) (rest := []) ⟨hx, hb, hml, hown, hts⟩ (k_within l D cI cJ cZ (nI 40) 0 39) ⟨va_cnB 3 hts gX0_enter_X4_within_n34 rfl rfl rfl hE.2.2.2.1 (hts (.initialized RX4) (List.mem_of_getElem? (i := 8) rfl)) (by decide +kernel) ⟨Nat.le_of_ble_eq_true rfl, Nat.le_of_ble_eq_true rfl⟩, (hts (.static yX4_within) (List.mem_of_getElem? (i := 7) rfl)), trivial⟩ ⟨bl_ro, fun U hU hW => ⟨rfl, by rw [hU]; exact (hP.sub (ws' := []) [] rfl), hE.warm2 hW⟩⟩ rfl rfl hl.1 rfl (lv_room (Nat.le_of_ble_eq_true rfl)) dX0_enter_11 ⟨Nat.zero_le _, Nat.zero_le _⟩)) (fun r11 hr11 => ?_)
  refine lv_if_ne (tgt := 20) hx hb dX0_enter_14 (by decide) (fun c14 => absurd (hr11.trans (by decide)) c14) (fun c14 => ?_)
  refine lv_bipush (v := (-4)) hx hb dX0_enter_17 (by decide) ?_
  exact W.iret hx hb hr (fun t ht hW => ⟨⟨_, (), rfl, rfl, by rw [ht]; exact hP, by exact hD⟩, hS.F ht⟩) hS.2.2 dX0_enter_19
