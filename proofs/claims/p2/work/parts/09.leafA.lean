set_option maxHeartbeats 4000000 in
set_option maxRecDepth 100000 in
theorem k_within (l : Launch) (D : va_G) (cI cJ cZ : ClassId) (v lo hi : Int32) : Met l yX4_within wsX4_within ({ frames := 0, cells := 0, slots := 0, locals := 0 }) (PcRO [.int v, .int lo, .int hi] D cI cJ cZ []) (vp_Si (fun r => r = wi v lo hi)) 0 0 noF := by
  refine Met.ofW (cc := cX4_within) (maxL := 3) (ret := some .boolean) (by decide) rfl ?_
  intro p e s m args below meth c s₁ B hml hv
  obtain ⟨rfl, hP, hE⟩ := hv
  have hx := B.exec
  have hb := B.bytes
  have hr := B.returns
  have hts := atoms_spec (ws := wsX4_within) B.pre
  have hown : s.vm.findClass RX4 = some m.cls := findClass_of_methodNamed B.named
  have hlocks := B.notSynchronized
  have hK := hE.1
  have hl := lv_entry ([.int v, .int lo, .int hi]) (n := 3) (Nat.le_of_ble_eq_true rfl)
  rw [lg_entry_eq]
  generalize (lg_sl ([.int v, .int lo, .int hi]) ++ List.replicate (3 - (lg_sl ([.int v, .int lo, .int hi])).length) Slot.unset).toArray = ls at hl ⊢
  have hl : lv_has ls 3 [(0, .int v), (1, .int lo), (2, .int hi)] := hl
  refine lv_iload_n hx hb dX4_within_0 rfl (lv_at hl 0 rfl) ?_
  refine lv_iload_n hx hb dX4_within_1 rfl (lv_at hl 1 rfl) ?_
  refine lv_icmp_lt (tgt := 14) hx hb dX4_within_2 (by decide) (fun c2 => ?_) (fun c2 => ?_)
  · refine lv_iconst (v := 0) hx hb dX4_within_14 (by decide) ?_
    exact W.zret hx hb hr (by decide) (fun t ht hW => ⟨_, rfl, (wi_0 (fun h => Int32.not_le.mpr c2 h.1)).symm, ht⟩) (fun q h => by cases h) dX4_within_15
  · refine lv_iload_n hx hb dX4_within_5 rfl (lv_at hl 0 rfl) ?_
    refine lv_iload_n hx hb dX4_within_6 rfl (lv_at hl 2 rfl) ?_
    refine lv_icmp_gt (tgt := 14) hx hb dX4_within_7 (by decide) (fun c7 => ?_) (fun c7 => ?_)
    · refine lv_iconst (v := 0) hx hb dX4_within_14 (by decide) ?_
      exact W.zret hx hb hr (by decide) (fun t ht hW => ⟨_, rfl, (wi_0 (fun h => Int32.not_le.mpr c7 h.2)).symm, ht⟩) (fun q h => by cases h) dX4_within_15
    · refine lv_iconst (v := 1) hx hb dX4_within_10 (by decide) ?_
      refine lv_goto (tgt := 15) hx hb dX4_within_11 (by decide) ?_
      exact W.zret hx hb hr (by decide) (fun t ht hW => ⟨_, rfl, (wi_1 (Int32.not_lt.mp c2) (Int32.not_lt.mp c7)).symm, ht⟩) (fun q h => by cases h) dX4_within_15
set_option maxHeartbeats 4000000 in
set_option maxRecDepth 100000 in
theorem k_isCrew (l : Launch) (D : va_G) (cI cJ cZ : ClassId) (v : Int32) : Met l yX4_isCrew wsX4_isCrew ({ frames := 1, cells := 0, slots := 0, locals := 22 }) (PcRO [.int v] D cI cJ cZ []) (vp_Si (fun r => r = wi v 1 16)) 0 0 noF := by
  refine Met.ofW (cc := cX4_isCrew) (maxL := 1) (ret := some .boolean) (by decide) rfl ?_
  intro p e s m args below meth c s₁ B hml hv
  obtain ⟨rfl, hP, hE⟩ := hv
  have hx := B.exec
  have hb := B.bytes
  have hr := B.returns
  have hts := atoms_spec (ws := wsX4_isCrew) B.pre
  have hown : s.vm.findClass RX4 = some m.cls := findClass_of_methodNamed B.named
  have hlocks := B.notSynchronized
  have hK := hE.1
  have hl := lv_entry ([.int v]) (n := 1) (Nat.le_of_ble_eq_true rfl)
  rw [lg_entry_eq]
  generalize (lg_sl ([.int v]) ++ List.replicate (1 - (lg_sl ([.int v])).length) Slot.unset).toArray = ls at hl ⊢
  have hl : lv_has ls 1 [(0, .int v)] := hl
  refine lv_iload_n hx hb dX4_isCrew_0 rfl (lv_at hl 0 rfl) ?_
  refine lv_iconst (v := 1) hx hb dX4_isCrew_1 (by decide) ?_
  refine lv_bipush (v := 16) hx hb dX4_isCrew_2 (by decide) ?_
  refine vp_callSi (va_Run.run (va_runS (As := [.int v, .int 1, .int 16]) (rest := []) ⟨hx, hb, hml, hown, hts⟩ (k_within l D cI cJ cZ v 1 16) (cwS 3 hts gX4_isCrew_X4_within rfl rfl rfl (by decide +kernel) ⟨Nat.le_of_ble_eq_true rfl, Nat.le_of_ble_eq_true rfl⟩) ⟨bl_ro, fun U hU hW => ⟨rfl, by rw [hU]; exact (hP.sub (ws' := []) [] rfl), hE.warm2 hW⟩⟩ rfl rfl hl.1 rfl (lv_room (Nat.le_of_ble_eq_true rfl)) dX4_isCrew_4 ⟨Nat.zero_le _, Nat.zero_le _⟩)) (fun r3 hr3 => ?_)
  exact W.zret hx hb hr (by rw [hr3]; exact wi_nar _ _ _) (fun t ht hW => ⟨_, rfl, hr3, ht⟩) (fun q h => by cases h) dX4_isCrew_7
set_option maxHeartbeats 4000000 in
set_option maxRecDepth 100000 in
theorem k_in (l : Launch) (D : va_G) (cI cJ cZ : ClassId) (v lo hi : Int32) : Met l yX5_in wsX5_in ({ frames := 0, cells := 0, slots := 0, locals := 0 }) (PcRO [.int v, .int lo, .int hi] D cI cJ cZ []) (vp_Si (fun r => r = wi v lo hi)) 0 0 noF := by
  refine Met.ofW (cc := cX5_in) (maxL := 3) (ret := some .boolean) (by decide) rfl ?_
  intro p e s m args below meth c s₁ B hml hv
  obtain ⟨rfl, hP, hE⟩ := hv
  have hx := B.exec
  have hb := B.bytes
  have hr := B.returns
  have hts := atoms_spec (ws := wsX5_in) B.pre
  have hown : s.vm.findClass RX5 = some m.cls := findClass_of_methodNamed B.named
  have hlocks := B.notSynchronized
  have hK := hE.1
  have hl := lv_entry ([.int v, .int lo, .int hi]) (n := 3) (Nat.le_of_ble_eq_true rfl)
  rw [lg_entry_eq]
  generalize (lg_sl ([.int v, .int lo, .int hi]) ++ List.replicate (3 - (lg_sl ([.int v, .int lo, .int hi])).length) Slot.unset).toArray = ls at hl ⊢
  have hl : lv_has ls 3 [(0, .int v), (1, .int lo), (2, .int hi)] := hl
  refine lv_iload_n hx hb dX5_in_0 rfl (lv_at hl 0 rfl) ?_
  refine lv_iload_n hx hb dX5_in_1 rfl (lv_at hl 1 rfl) ?_
  refine lv_icmp_lt (tgt := 14) hx hb dX5_in_2 (by decide) (fun c2 => ?_) (fun c2 => ?_)
  · refine lv_iconst (v := 0) hx hb dX5_in_14 (by decide) ?_
    exact W.zret hx hb hr (by decide) (fun t ht hW => ⟨_, rfl, (wi_0 (fun h => Int32.not_le.mpr c2 h.1)).symm, ht⟩) (fun q h => by cases h) dX5_in_15
  · refine lv_iload_n hx hb dX5_in_5 rfl (lv_at hl 0 rfl) ?_
    refine lv_iload_n hx hb dX5_in_6 rfl (lv_at hl 2 rfl) ?_
    refine lv_icmp_gt (tgt := 14) hx hb dX5_in_7 (by decide) (fun c7 => ?_) (fun c7 => ?_)
    · refine lv_iconst (v := 0) hx hb dX5_in_14 (by decide) ?_
      exact W.zret hx hb hr (by decide) (fun t ht hW => ⟨_, rfl, (wi_0 (fun h => Int32.not_le.mpr c7 h.2)).symm, ht⟩) (fun q h => by cases h) dX5_in_15
    · refine lv_iconst (v := 1) hx hb dX5_in_10 (by decide) ?_
      refine lv_goto (tgt := 15) hx hb dX5_in_11 (by decide) ?_
      exact W.zret hx hb hr (by decide) (fun t ht hW => ⟨_, rfl, (wi_1 (Int32.not_lt.mp c2) (Int32.not_lt.mp c7)).symm, ht⟩) (fun q h => by cases h) dX5_in_15
set_option maxHeartbeats 4000000 in
set_option maxRecDepth 100000 in
theorem k_hasEnded (l : Launch) (D : va_G) (cI cJ cZ : ClassId) (h hB q1 q2 q3 q4 q5 q6 q7 q8 q9 q10 q11 q12 q13 : Nat) (st : Nat → Int32) (k : Nat) (hk : k < 40) : Met l yX3_hasEnded wsX3_hasEnded ({ frames := 0, cells := 0, slots := 0, locals := 0 }) (PcRO [.ref h, .int (nI k)] D cI cJ cZ [(h, .inr (3, [.ref hB, .ref q1, .ref q2, .ref q3, .ref q4, .ref q5, .ref q6, .ref q7, .ref q8, .ref q9, .ref q10, .ref q11, .ref q12, .ref q13])), (q1, .inl (cI, 40, .inl st))]) (vp_Si (fun r => r = if st k = 2 ∨ st k = 3 then 1 else 0)) 0 0 noF := by
  refine Met.ofW (cc := cX3_hasEnded) (maxL := 2) (ret := some .boolean) (by decide) rfl ?_
  intro p e s m args below meth c s₁ B hml hv
  obtain ⟨rfl, hP, hE⟩ := hv
  have hx := B.exec
  have hb := B.bytes
  have hr := B.returns
  have hts := atoms_spec (ws := wsX3_hasEnded) B.pre
  have hown : s.vm.findClass RX3 = some m.cls := findClass_of_methodNamed B.named
  have hlocks := B.notSynchronized
  have hK := hE.1
  have hl := lv_entry ([.ref h, .int (nI k)]) (n := 2) (Nat.le_of_ble_eq_true rfl)
  rw [lg_entry_eq]
  generalize (lg_sl ([.ref h, .int (nI k)]) ++ List.replicate (2 - (lg_sl ([.ref h, .int (nI k)])).length) Slot.unset).toArray = ls at hl ⊢
  have hl : lv_has ls 2 [(0, .ref h), (1, .int (nI k))] := hl
  have hinX3 : ∀ w ∈ u_ws RX3 TX3 14, w ∈ wsX3_hasEnded := fun _ h => List.mem_cons_of_mem _ (List.mem_append_right _ h)
  refine lv_aload_n hx hb dX3_hasEnded_0 rfl (lv_at hl 0 rfl) ?_
  refine va_get (D := D) (ci := 3) (v := .ref q1) (C := RX3) (T := TX3) (N := 14) hx hb hts hinX3 hown hK hP 0 rfl rfl 1 (by decide) (hts (.fieldLink RX3 9 "LedgerShares$Sheet" "stages" "[I") (List.mem_of_getElem? (i := 1) rfl)) (fun _ h9 => h9) rfl dX3_hasEnded_1 ?_
  refine lv_iload_n hx hb dX3_hasEnded_4 rfl (lv_at hl 1 rfl) ?_
  refine x_iald hx hb hE hP 1 rfl (k) hk (by decide) (rfl) dX3_hasEnded_5 ?_
  refine lv_iconst (v := 2) hx hb dX3_hasEnded_6 (by decide) ?_
  refine lv_icmp_eq (tgt := 20) hx hb dX3_hasEnded_7 (by decide) (fun c7 => ?_) (fun c7 => ?_)
  · refine lv_iconst (v := 1) hx hb dX3_hasEnded_20 (by decide) ?_
    refine lv_goto (tgt := 25) hx hb dX3_hasEnded_21 (by decide) ?_
    exact W.zret hx hb hr (by decide) (fun t ht hW => ⟨_, rfl, by simp [c7], ht⟩) (fun q h => by cases h) dX3_hasEnded_25
  · refine lv_aload_n hx hb dX3_hasEnded_10 rfl (lv_at hl 0 rfl) ?_
    refine va_get (D := D) (ci := 3) (v := .ref q1) (C := RX3) (T := TX3) (N := 14) hx hb hts hinX3 hown hK hP 0 rfl rfl 1 (by decide) (hts (.fieldLink RX3 9 "LedgerShares$Sheet" "stages" "[I") (List.mem_of_getElem? (i := 1) rfl)) (fun _ h9 => h9) rfl dX3_hasEnded_11 ?_
    refine lv_iload_n hx hb dX3_hasEnded_14 rfl (lv_at hl 1 rfl) ?_
    refine x_iald hx hb hE hP 1 rfl (k) hk (by decide) (rfl) dX3_hasEnded_15 ?_
    refine lv_iconst (v := 3) hx hb dX3_hasEnded_16 (by decide) ?_
    refine lv_icmp_ne (tgt := 24) hx hb dX3_hasEnded_17 (by decide) (fun c17 => ?_) (fun c17 => ?_)
    · refine lv_iconst (v := 0) hx hb dX3_hasEnded_24 (by decide) ?_
      exact W.zret hx hb hr (by decide) (fun t ht hW => ⟨_, rfl, by simp [c7, c17], ht⟩) (fun q h => by cases h) dX3_hasEnded_25
    · refine lv_iconst (v := 1) hx hb dX3_hasEnded_20 (by decide) ?_
      refine lv_goto (tgt := 25) hx hb dX3_hasEnded_21 (by decide) ?_
      exact W.zret hx hb hr (by decide) (fun t ht hW => ⟨_, rfl, by simp [c7, c17], ht⟩) (fun q h => by cases h) dX3_hasEnded_25
set_option maxHeartbeats 4000000 in
set_option maxRecDepth 100000 in
theorem k_standing (l : Launch) (D : va_G) (cI cJ cZ : ClassId) (h hB q1 q2 q3 q4 q5 q6 q7 q8 q9 q10 q11 q12 q13 : Nat) (st ca cb : Nat → Int32) (ga gb : Nat → Int64) (b1 b2 b3 b4 b5 b6 : Nat) (bz : Int32) (ak bk : Nat → Int32) (key : Int32) (kc : Nat) (hkc : kc ≤ 40) : Met l yX3_standing wsX3_standing ({ frames := 1, cells := 0, slots := 0, locals := 21 }) (PcRO [.ref h, .int (nI kc), .int key] D cI cJ cZ [(h, .inr (3, [.ref hB, .ref q1, .ref q2, .ref q3, .ref q4, .ref q5, .ref q6, .ref q7, .ref q8, .ref q9, .ref q10, .ref q11, .ref q12, .ref q13])), (q1, .inl (cI, 40, .inl st)), (q5, .inl (cZ, 40, .inl ca)), (q6, .inl (cZ, 40, .inl cb)), (q7, .inl (cJ, 40, .inr (.inl ga))), (q8, .inl (cJ, 40, .inr (.inl gb))), (hB, .inr (0, [.int bz, .ref b1, .ref b2, .ref b3, .ref b4, .ref b5, .ref b6])), (b2, .inl (cI, 40, .inl ak)), (b3, .inl (cI, 40, .inl bk))]) (vp_Sl (fun r => r = stnd st ca ak cb bk ga gb key kc)) 0 0 noF := by
  refine Met.ofW (cc := cX3_standing) (maxL := 4) (ret := some .long) (by decide) rfl ?_
  intro p e s m args below meth c s₁ B hml hv
  obtain ⟨rfl, hP, hE⟩ := hv
  have hx := B.exec
  have hb := B.bytes
  have hr := B.returns
  have hts := atoms_spec (ws := wsX3_standing) B.pre
  have hown : s.vm.findClass RX3 = some m.cls := findClass_of_methodNamed B.named
  have hlocks := B.notSynchronized
  have hK := hE.1
  have hl := lv_entry ([.ref h, .int (nI kc), .int key]) (n := 4) (Nat.le_of_ble_eq_true rfl)
  rw [lg_entry_eq]
  generalize (lg_sl ([.ref h, .int (nI kc), .int key]) ++ List.replicate (4 - (lg_sl ([.ref h, .int (nI kc), .int key])).length) Slot.unset).toArray = ls at hl ⊢
  have hl : lv_has ls 4 [(0, .ref h), (1, .int (nI kc)), (2, .int key)] := hl
  have hinX0 : ∀ w ∈ u_ws RX0 TX0 7, w ∈ wsX3_standing := fun _ h => List.mem_cons_of_mem _ (List.mem_append_right _ h)
  have hinX3 : ∀ w ∈ u_ws RX3 TX3 14, w ∈ wsX3_standing := fun _ h => List.mem_cons_of_mem _ (List.mem_append_left _ (List.mem_append_right _ h))
  refine lv_iload_n hx hb dX3_standing_0 rfl (lv_at hl 1 rfl) ?_
  refine lv_bipush (v := 40) hx hb dX3_standing_1 (by decide) ?_
  refine va_mmin hx hb (by rw [hml]; exact hl.1.symm) hown (hts (.methodLink RX3 57 Lib.Math.min.name) (List.mem_of_getElem? (i := 1) rfl)) (hts (.static Lib.Math.min.name) (List.mem_of_getElem? (i := 2) rfl)) (hts (.initialized "java/lang/Math") (List.mem_of_getElem? (i := 3) rfl)) (hts (.code Lib.Math.min.name Lib.Math.min.code 2 (some .int)) (List.mem_of_getElem? (i := 4) rfl)) (Nat.le_of_ble_eq_true rfl) (Nat.le_of_ble_eq_true rfl) (Nat.zero_le _) (Nat.zero_le _) dX3_standing_3 ?_
  refine x_topi (y := nI kc) (if_neg (nI_nlt (a := 40) (b := kc) hkc (by decide))) ?_
  refine lv_iconst (v := 1) hx hb dX3_standing_6 (by decide) ?_
  refine lv_isub hx hb dX3_standing_7 ?_
  refine lv_istore_n (lv' := [(3, .int ((nI kc) - 1)), (0, .ref h), (1, .int (nI kc)), (2, .int key)]) hx hb dX3_standing_8 rfl hl (by decide) rfl (fun ls hl => ?_)
  have loop9 : ∀ (n : Nat) (j : Nat), (j ≤ 40) → (j < n) → (stnd st ca ak cb bk ga gb key kc = stnd st ca ak cb bk ga gb key j) → ∀ (ls : Array Slot), lv_has ls 4 [(3, .int (nI j - 1)), (0, .ref h), (1, .int (nI kc)), (2, .int key)] → W p l e (headSpec wsX3_standing ({ frames := 1, cells := 0, slots := 0, locals := 21 })).room s m ([.ref h, .int (nI kc), .int key].toArray) below meth c s.heap [] 0 0 (MQ below (vp_Sl (fun r => r = stnd st ca ak cb bk ga gb key kc)) ([.ref h, .int (nI kc), .int key].toArray) s 0 0 noF) (F0 m 9 ls []) := by
    intro n
    induction n with
    | zero =>
      intro j hj hf hinv
      exact absurd hf (by omega)
    | succ n ih9 =>
      intro j hj hf hinv ls hl
      refine lv_iload_n hx hb dX3_standing_9 rfl (lv_at hl 0 rfl) ?_
      refine lv_if_lt (tgt := 85) hx hb dX3_standing_10 (by decide) (fun c10 => ?_) (fun c10 => ?_)
      · refine lv_lconst (v := 0) hx hb dX3_standing_85 (by decide) ?_
        exact W.lret hx hb hr (fun t ht hW => ⟨_, rfl, by rw [hinv, x_zero_of (by omega) c10]; rfl, ht⟩) (fun q h => by cases h) dX3_standing_86
      · obtain ⟨i, rfl⟩ := x_pos_of (by omega) c10
        rw [nI_pred] at hl
        refine lv_aload_n hx hb dX3_standing_13 rfl (lv_at hl 1 rfl) ?_
        refine lv_iload_n hx hb dX3_standing_14 rfl (lv_at hl 0 rfl) ?_
        refine vp_callSi (va_Run.run (va_runV (As := [.int (nI i)]) (rest := []) ⟨hx, hb, hml, hown, hts⟩ (k_hasEnded l D cI cJ cZ h hB q1 q2 q3 q4 q5 q6 q7 q8 q9 q10 q11 q12 q13 st i (by omega)) (cwV 1 hts gX3_standing_X3_hasEnded rfl rfl rfl (by decide +kernel) ⟨Nat.le_of_ble_eq_true rfl, Nat.le_of_ble_eq_true rfl⟩) ⟨bl_ro, va_recv hK (hP.sub (ws' := [(h, .inr (3, [.ref hB, .ref q1, .ref q2, .ref q3, .ref q4, .ref q5, .ref q6, .ref q7, .ref q8, .ref q9, .ref q10, .ref q11, .ref q12, .ref q13])), (q1, .inl (cI, 40, .inl st))]) [0, 1] rfl) (ci := 3) (q0 := 0) rfl rfl, fun U hU hW => ⟨rfl, by rw [hU]; exact (hP.sub (ws' := [(h, .inr (3, [.ref hB, .ref q1, .ref q2, .ref q3, .ref q4, .ref q5, .ref q6, .ref q7, .ref q8, .ref q9, .ref q10, .ref q11, .ref q12, .ref q13])), (q1, .inl (cI, 40, .inl st))]) [0, 1] rfl), hE.warm2 hW⟩⟩ rfl rfl hl.1 rfl (lv_room (Nat.le_of_ble_eq_true rfl)) dX3_standing_15 ⟨Nat.zero_le _, Nat.zero_le _⟩)) (fun r15 hr15 => ?_)
        refine lv_if_eq (tgt := 79) hx hb dX3_standing_18 (by decide) (fun c18 => ?_) (fun c18 => ?_)
        · refine lv_iinc (v := nI i - 1) (lv' := [(3, .int (nI i - 1)), (0, .ref h), (1, .int (nI kc)), (2, .int key)]) hx hb dX3_standing_79 hl (k := 0) rfl (x_dec _) (by decide) rfl (fun ls hl => ?_)
          refine lv_goto (tgt := 9) hx hb dX3_standing_82 (by decide) ?_
          exact ih9 i (by omega) (by omega) (by have e18 := if1_f (hr15.symm.trans c18); rw [hinv]; simp [stnd, e18]) ls hl
        · refine lv_aload_n hx hb dX3_standing_21 rfl (lv_at hl 1 rfl) ?_
          refine va_get (D := D) (ci := 3) (v := .ref q5) (C := RX3) (T := TX3) (N := 14) hx hb hts hinX3 hown hK hP 0 rfl rfl 5 (by decide) (hts (.fieldLink RX3 25 "LedgerShares$Sheet" "changesA" "[Z") (List.mem_of_getElem? (i := 5) rfl)) (fun _ h9 => h9) rfl dX3_standing_22 ?_
          refine lv_iload_n hx hb dX3_standing_25 rfl (lv_at hl 0 rfl) ?_
          refine x_zald hx hb hE hP 2 rfl (i) (by omega) (by decide) (rfl) dX3_standing_26 ?_
          refine lv_if_eq (tgt := 50) hx hb dX3_standing_27 (by decide) (fun c27 => ?_) (fun c27 => ?_)
          · refine lv_aload_n hx hb dX3_standing_50 rfl (lv_at hl 1 rfl) ?_
            refine va_get (D := D) (ci := 3) (v := .ref q6) (C := RX3) (T := TX3) (N := 14) hx hb hts hinX3 hown hK hP 0 rfl rfl 6 (by decide) (hts (.fieldLink RX3 29 "LedgerShares$Sheet" "changesB" "[Z") (List.mem_of_getElem? (i := 9) rfl)) (fun _ h9 => h9) rfl dX3_standing_51 ?_
            refine lv_iload_n hx hb dX3_standing_54 rfl (lv_at hl 0 rfl) ?_
            refine x_zald hx hb hE hP 3 rfl (i) (by omega) (by decide) (rfl) dX3_standing_55 ?_
            refine lv_if_eq (tgt := 79) hx hb dX3_standing_56 (by decide) (fun c56 => ?_) (fun c56 => ?_)
            · refine lv_iinc (v := nI i - 1) (lv' := [(3, .int (nI i - 1)), (0, .ref h), (1, .int (nI kc)), (2, .int key)]) hx hb dX3_standing_79 hl (k := 0) rfl (x_dec _) (by decide) rfl (fun ls hl => ?_)
              refine lv_goto (tgt := 9) hx hb dX3_standing_82 (by decide) ?_
              exact ih9 i (by omega) (by omega) (by have e18 := if1_t (fun z => c18 (hr15.trans z)); rw [hinv]; simp [stnd, e18, c27, c56]) ls hl
            · refine lv_aload_n hx hb dX3_standing_59 rfl (lv_at hl 1 rfl) ?_
              refine va_get (D := D) (ci := 3) (v := .ref hB) (C := RX3) (T := TX3) (N := 14) hx hb hts hinX3 hown hK hP 0 rfl rfl 0 (by decide) (hts (.fieldLink RX3 53 "LedgerShares$Sheet" "book" "LLedgerShares$Book;") (List.mem_of_getElem? (i := 6) rfl)) (fun _ h9 => h9) rfl dX3_standing_60 ?_
              refine va_get (D := D) (ci := 0) (v := .ref b3) (C := RX0) (T := TX0) (N := 7) hx hb hts hinX0 hown hK hP 6 rfl rfl 3 (by decide) (hts (.fieldLink RX3 72 "LedgerShares$Book" "bs" "[I") (List.mem_of_getElem? (i := 10) rfl)) (fun _ h9 => h9) rfl dX3_standing_63 ?_
              refine lv_iload_n hx hb dX3_standing_66 rfl (lv_at hl 0 rfl) ?_
              refine x_iald hx hb hE hP 8 rfl (i) (by omega) (by decide) (rfl) dX3_standing_67 ?_
              refine lv_iload_n hx hb dX3_standing_68 rfl (lv_at hl 3 rfl) ?_
              refine lv_icmp_ne (tgt := 79) hx hb dX3_standing_69 (by decide) (fun c69 => ?_) (fun c69 => ?_)
              · refine lv_iinc (v := nI i - 1) (lv' := [(3, .int (nI i - 1)), (0, .ref h), (1, .int (nI kc)), (2, .int key)]) hx hb dX3_standing_79 hl (k := 0) rfl (x_dec _) (by decide) rfl (fun ls hl => ?_)
                refine lv_goto (tgt := 9) hx hb dX3_standing_82 (by decide) ?_
                exact ih9 i (by omega) (by omega) (by have e18 := if1_t (fun z => c18 (hr15.trans z)); rw [hinv]; simp [stnd, e18, c27, c56, c69]) ls hl
              · refine lv_aload_n hx hb dX3_standing_72 rfl (lv_at hl 1 rfl) ?_
                refine va_get (D := D) (ci := 3) (v := .ref q8) (C := RX3) (T := TX3) (N := 14) hx hb hts hinX3 hown hK hP 0 rfl rfl 8 (by decide) (hts (.fieldLink RX3 35 "LedgerShares$Sheet" "givesB" "[J") (List.mem_of_getElem? (i := 11) rfl)) (fun _ h9 => h9) rfl dX3_standing_73 ?_
                refine lv_iload_n hx hb dX3_standing_76 rfl (lv_at hl 0 rfl) ?_
                refine x_lald hx hb hE hP 5 rfl (i) (by omega) (by decide) (rfl) dX3_standing_77 ?_
                exact W.lret hx hb hr (fun t ht hW => ⟨_, rfl, by have e18 := if1_t (fun z => c18 (hr15.trans z)); rw [hinv]; simp [stnd, e18, c27, c56, c69], ht⟩) (fun q h => by cases h) dX3_standing_78
          · refine lv_aload_n hx hb dX3_standing_30 rfl (lv_at hl 1 rfl) ?_
            refine va_get (D := D) (ci := 3) (v := .ref hB) (C := RX3) (T := TX3) (N := 14) hx hb hts hinX3 hown hK hP 0 rfl rfl 0 (by decide) (hts (.fieldLink RX3 53 "LedgerShares$Sheet" "book" "LLedgerShares$Book;") (List.mem_of_getElem? (i := 6) rfl)) (fun _ h9 => h9) rfl dX3_standing_31 ?_
            refine va_get (D := D) (ci := 0) (v := .ref b2) (C := RX0) (T := TX0) (N := 7) hx hb hts hinX0 hown hK hP 6 rfl rfl 2 (by decide) (hts (.fieldLink RX3 67 "LedgerShares$Book" "as" "[I") (List.mem_of_getElem? (i := 7) rfl)) (fun _ h9 => h9) rfl dX3_standing_34 ?_
            refine lv_iload_n hx hb dX3_standing_37 rfl (lv_at hl 0 rfl) ?_
            refine x_iald hx hb hE hP 7 rfl (i) (by omega) (by decide) (rfl) dX3_standing_38 ?_
            refine lv_iload_n hx hb dX3_standing_39 rfl (lv_at hl 3 rfl) ?_
            refine lv_icmp_ne (tgt := 50) hx hb dX3_standing_40 (by decide) (fun c40 => ?_) (fun c40 => ?_)
            · refine lv_aload_n hx hb dX3_standing_50 rfl (lv_at hl 1 rfl) ?_
              refine va_get (D := D) (ci := 3) (v := .ref q6) (C := RX3) (T := TX3) (N := 14) hx hb hts hinX3 hown hK hP 0 rfl rfl 6 (by decide) (hts (.fieldLink RX3 29 "LedgerShares$Sheet" "changesB" "[Z") (List.mem_of_getElem? (i := 9) rfl)) (fun _ h9 => h9) rfl dX3_standing_51 ?_
              refine lv_iload_n hx hb dX3_standing_54 rfl (lv_at hl 0 rfl) ?_
              refine x_zald hx hb hE hP 3 rfl (i) (by omega) (by decide) (rfl) dX3_standing_55 ?_
              refine lv_if_eq (tgt := 79) hx hb dX3_standing_56 (by decide) (fun c56 => ?_) (fun c56 => ?_)
              · refine lv_iinc (v := nI i - 1) (lv' := [(3, .int (nI i - 1)), (0, .ref h), (1, .int (nI kc)), (2, .int key)]) hx hb dX3_standing_79 hl (k := 0) rfl (x_dec _) (by decide) rfl (fun ls hl => ?_)
                refine lv_goto (tgt := 9) hx hb dX3_standing_82 (by decide) ?_
                exact ih9 i (by omega) (by omega) (by have e18 := if1_t (fun z => c18 (hr15.trans z)); rw [hinv]; simp [stnd, e18, c27, c40, c56]) ls hl
              · refine lv_aload_n hx hb dX3_standing_59 rfl (lv_at hl 1 rfl) ?_
                refine va_get (D := D) (ci := 3) (v := .ref hB) (C := RX3) (T := TX3) (N := 14) hx hb hts hinX3 hown hK hP 0 rfl rfl 0 (by decide) (hts (.fieldLink RX3 53 "LedgerShares$Sheet" "book" "LLedgerShares$Book;") (List.mem_of_getElem? (i := 6) rfl)) (fun _ h9 => h9) rfl dX3_standing_60 ?_
                refine va_get (D := D) (ci := 0) (v := .ref b3) (C := RX0) (T := TX0) (N := 7) hx hb hts hinX0 hown hK hP 6 rfl rfl 3 (by decide) (hts (.fieldLink RX3 72 "LedgerShares$Book" "bs" "[I") (List.mem_of_getElem? (i := 10) rfl)) (fun _ h9 => h9) rfl dX3_standing_63 ?_
                refine lv_iload_n hx hb dX3_standing_66 rfl (lv_at hl 0 rfl) ?_
                refine x_iald hx hb hE hP 8 rfl (i) (by omega) (by decide) (rfl) dX3_standing_67 ?_
                refine lv_iload_n hx hb dX3_standing_68 rfl (lv_at hl 3 rfl) ?_
                refine lv_icmp_ne (tgt := 79) hx hb dX3_standing_69 (by decide) (fun c69 => ?_) (fun c69 => ?_)
                · refine lv_iinc (v := nI i - 1) (lv' := [(3, .int (nI i - 1)), (0, .ref h), (1, .int (nI kc)), (2, .int key)]) hx hb dX3_standing_79 hl (k := 0) rfl (x_dec _) (by decide) rfl (fun ls hl => ?_)
                  refine lv_goto (tgt := 9) hx hb dX3_standing_82 (by decide) ?_
                  exact ih9 i (by omega) (by omega) (by have e18 := if1_t (fun z => c18 (hr15.trans z)); rw [hinv]; simp [stnd, e18, c27, c40, c56, c69]) ls hl
                · refine lv_aload_n hx hb dX3_standing_72 rfl (lv_at hl 1 rfl) ?_
                  refine va_get (D := D) (ci := 3) (v := .ref q8) (C := RX3) (T := TX3) (N := 14) hx hb hts hinX3 hown hK hP 0 rfl rfl 8 (by decide) (hts (.fieldLink RX3 35 "LedgerShares$Sheet" "givesB" "[J") (List.mem_of_getElem? (i := 11) rfl)) (fun _ h9 => h9) rfl dX3_standing_73 ?_
                  refine lv_iload_n hx hb dX3_standing_76 rfl (lv_at hl 0 rfl) ?_
                  refine x_lald hx hb hE hP 5 rfl (i) (by omega) (by decide) (rfl) dX3_standing_77 ?_
                  exact W.lret hx hb hr (fun t ht hW => ⟨_, rfl, by have e18 := if1_t (fun z => c18 (hr15.trans z)); rw [hinv]; simp [stnd, e18, c27, c40, c56, c69], ht⟩) (fun q h => by cases h) dX3_standing_78
            · refine lv_aload_n hx hb dX3_standing_43 rfl (lv_at hl 1 rfl) ?_
              refine va_get (D := D) (ci := 3) (v := .ref q7) (C := RX3) (T := TX3) (N := 14) hx hb hts hinX3 hown hK hP 0 rfl rfl 7 (by decide) (hts (.fieldLink RX3 32 "LedgerShares$Sheet" "givesA" "[J") (List.mem_of_getElem? (i := 8) rfl)) (fun _ h9 => h9) rfl dX3_standing_44 ?_
              refine lv_iload_n hx hb dX3_standing_47 rfl (lv_at hl 0 rfl) ?_
              refine x_lald hx hb hE hP 4 rfl (i) (by omega) (by decide) (rfl) dX3_standing_48 ?_
              exact W.lret hx hb hr (fun t ht hW => ⟨_, rfl, by have e18 := if1_t (fun z => c18 (hr15.trans z)); rw [hinv]; simp [stnd, e18, c27, c40], ht⟩) (fun q h => by cases h) dX3_standing_49
  exact loop9 41 kc hkc (by omega) rfl ls hl
