set_option maxHeartbeats 4000000 in
set_option maxRecDepth 100000 in
theorem k_within (l : Launch) (D : va_G) (cI cJ cZ : ClassId) (v lo hi : Int32) : Met l yX4_within wsX4_within ({ frames := 0, cells := 0, slots := 0, locals := 0 }) (PcRO [.int v, .int lo, .int hi] D cI cJ cZ []) (vp_Si (fun r => r = wi v lo hi)) 0 0 noF := by
  refine Met.ofW (cc := cX4_within) (maxL := 3) (ret := some .boolean) (by decide) rfl ?_
  intro p e s m args below meth c s₁ B hml hv
  obtain ⟨rfl, hP, hE⟩ := hv
  have hx := B.exec
  have hb := B.bytes
  have hr := B.returns
  have hts := atoms_spec (ws := wsX4_within) B.pre
  have hown : s.vm.findClass RX4 = some m.cls := findClass_of_methodNamed B.named
  have hlocks := B.notSynchronized
  have hK := hE.1
  have hl := lv_entry ([.int v, .int lo, .int hi]) (n := 3) (Nat.le_of_ble_eq_true rfl)
  rw [lg_entry_eq]
  generalize (lg_sl ([.int v, .int lo, .int hi]) ++ List.replicate (3 - (lg_sl ([.int v, .int lo, .int hi])).length) Slot.unset).toArray = ls at hl ⊢
  have hl : lv_has ls 3 [(0, .int v), (1, .int lo), (2, .int hi)] := hl
  refine lv_iload_n hx hb dX4_within_0 rfl (lv_at hl 0 rfl) ?_
  refine lv_iload_n hx hb dX4_within_1 rfl (lv_at hl 1 rfl) ?_
  refine lv_icmp_lt (tgt := 14) hx hb dX4_within_2 (by decide) (fun c2 => ?_) (fun c2 => ?_)
  · refine lv_iconst (v := 0) hx hb dX4_within_14 (by decide) ?_
    exact W.zret hx hb hr (by decide) (fun t ht hW => ⟨_, rfl, (wi_0 (fun h => Int32.not_le.mpr c2 h.1)).symm, ht⟩) (fun q h => by cases h) dX4_within_15
  · refine lv_iload_n hx hb dX4_within_5 rfl (lv_at hl 0 rfl) ?_
    refine lv_iload_n hx hb dX4_within_6 rfl (lv_at hl 2 rfl) ?_
    refine lv_icmp_gt (tgt := 14) hx hb dX4_within_7 (by decide) (fun c7 => ?_) (fun c7 => ?_)
    · refine lv_iconst (v := 0) hx hb dX4_within_14 (by decide) ?_
      exact W.zret hx hb hr (by decide) (fun t ht hW => ⟨_, rfl, (wi_0 (fun h => Int32.not_le.mpr c7 h.2)).symm, ht⟩) (fun q h => by cases h) dX4_within_15
    · refine lv_iconst (v := 1) hx hb dX4_within_10 (by decide) ?_
      refine lv_goto (tgt := 15) hx hb dX4_within_11 (by decide) ?_
      exact W.zret hx hb hr (by decide) (fun t ht hW => ⟨_, rfl, (wi_1 (Int32.not_lt.mp c2) (Int32.not_lt.mp c7)).symm, ht⟩) (fun q h => by cases h) dX4_within_15
set_option maxHeartbeats 4000000 in
set_option maxRecDepth 100000 in
theorem k_isCrew (l : Launch) (D : va_G) (cI cJ cZ : ClassId) (v : Int32) : Met l yX4_isCrew wsX4_isCrew ({ frames := 1, cells := 0, slots := 0, locals := 22 }) (PcRO [.int v] D cI cJ cZ []) (vp_Si (fun r => r = wi v 1 16)) 0 0 noF := by
  refine Met.ofW (cc := cX4_isCrew) (maxL := 1) (ret := some .boolean) (by decide) rfl ?_
  intro p e s m args below meth c s₁ B hml hv
  obtain ⟨rfl, hP, hE⟩ := hv
  have hx := B.exec
  have hb := B.bytes
  have hr := B.returns
  have hts := atoms_spec (ws := wsX4_isCrew) B.pre
  have hown : s.vm.findClass RX4 = some m.cls := findClass_of_methodNamed B.named
  have hlocks := B.notSynchronized
  have hK := hE.1
  have hl := lv_entry ([.int v]) (n := 1) (Nat.le_of_ble_eq_true rfl)
  rw [lg_entry_eq]
  generalize (lg_sl ([.int v]) ++ List.replicate (1 - (lg_sl ([.int v])).length) Slot.unset).toArray = ls at hl ⊢
  have hl : lv_has ls 1 [(0, .int v)] := hl
  refine lv_iload_n hx hb dX4_isCrew_0 rfl (lv_at hl 0 rfl) ?_
  refine lv_iconst (v := 1) hx hb dX4_isCrew_1 (by decide) ?_
  refine lv_bipush (v := 16) hx hb dX4_isCrew_2 (by decide) ?_
  refine vp_callSi (va_Run.run (va_runS (As := [.int v, .int 1, .int 16]) (rest := []) ⟨hx, hb, hml, hown, hts⟩ (k_within l D cI cJ cZ v 1 16) (cwS 3 hts gX4_isCrew_X4_within rfl rfl rfl (by decide +kernel) ⟨Nat.le_of_ble_eq_true rfl, Nat.le_of_ble_eq_true rfl⟩) ⟨bl_ro, fun U hU hW => ⟨rfl, by rw [hU]; exact (hP.sub (ws' := []) [] rfl), hE.warm2 hW⟩⟩ rfl rfl hl.1 rfl (lv_room (Nat.le_of_ble_eq_true rfl)) dX4_isCrew_4 ⟨Nat.zero_le _, Nat.zero_le _⟩)) (fun r3 hr3 => ?_)
  exact W.zret hx hb hr (by rw [hr3]; exact wi_nar _ _ _) (fun t ht hW => ⟨_, rfl, hr3, ht⟩) (fun q h => by cases h) dX4_isCrew_7
set_option maxHeartbeats 4000000 in
set_option maxRecDepth 100000 in
theorem k_in (l : Launch) (D : va_G) (cI cJ cZ : ClassId) (v lo hi : Int32) : Met l yX5_in wsX5_in ({ frames := 0, cells := 0, slots := 0, locals := 0 }) (PcRO [.int v, .int lo, .int hi] D cI cJ cZ []) (vp_Si (fun r => r = wi v lo hi)) 0 0 noF := by
  refine Met.ofW (cc := cX5_in) (maxL := 3) (ret := some .boolean) (by decide) rfl ?_
  intro p e s m args below meth c s₁ B hml hv
  obtain ⟨rfl, hP, hE⟩ := hv
  have hx := B.exec
  have hb := B.bytes
  have hr := B.returns
  have hts := atoms_spec (ws := wsX5_in) B.pre
  have hown : s.vm.findClass RX5 = some m.cls := findClass_of_methodNamed B.named
  have hlocks := B.notSynchronized
  have hK := hE.1
  have hl := lv_entry ([.int v, .int lo, .int hi]) (n := 3) (Nat.le_of_ble_eq_true rfl)
  rw [lg_entry_eq]
  generalize (lg_sl ([.int v, .int lo, .int hi]) ++ List.replicate (3 - (lg_sl ([.int v, .int lo, .int hi])).length) Slot.unset).toArray = ls at hl ⊢
  have hl : lv_has ls 3 [(0, .int v), (1, .int lo), (2, .int hi)] := hl
  refine lv_iload_n hx hb dX5_in_0 rfl (lv_at hl 0 rfl) ?_
  refine lv_iload_n hx hb dX5_in_1 rfl (lv_at hl 1 rfl) ?_
  refine lv_icmp_lt (tgt := 14) hx hb dX5_in_2 (by decide) (fun c2 => ?_) (fun c2 => ?_)
  · refine lv_iconst (v := 0) hx hb dX5_in_14 (by decide) ?_
    exact W.zret hx hb hr (by decide) (fun t ht hW => ⟨_, rfl, (wi_0 (fun h => Int32.not_le.mpr c2 h.1)).symm, ht⟩) (fun q h => by cases h) dX5_in_15
  · refine lv_iload_n hx hb dX5_in_5 rfl (lv_at hl 0 rfl) ?_
    refine lv_iload_n hx hb dX5_in_6 rfl (lv_at hl 2 rfl) ?_
    refine lv_icmp_gt (tgt := 14) hx hb dX5_in_7 (by decide) (fun c7 => ?_) (fun c7 => ?_)
    · refine lv_iconst (v := 0) hx hb dX5_in_14 (by decide) ?_
      exact W.zret hx hb hr (by decide) (fun t ht hW => ⟨_, rfl, (wi_0 (fun h => Int32.not_le.mpr c7 h.2)).symm, ht⟩) (fun q h => by cases h) dX5_in_15
    · refine lv_iconst (v := 1) hx hb dX5_in_10 (by decide) ?_
      refine lv_goto (tgt := 15) hx hb dX5_in_11 (by decide) ?_
      exact W.zret hx hb hr (by decide) (fun t ht hW => ⟨_, rfl, (wi_1 (Int32.not_lt.mp c2) (Int32.not_lt.mp c7)).symm, ht⟩) (fun q h => by cases h) dX5_in_15
set_option maxHeartbeats 4000000 in
set_option maxRecDepth 100000 in
theorem k_hasEnded (l : Launch) (D : va_G) (cI cJ cZ : ClassId) (h hB q1 q2 q3 q4 q5 q6 q7 q8 q9 q10 q11 q12 q13 : Nat) (st : Nat → Int32) (k : Nat) (hk : k < 40) : Met l yX3_hasEnded wsX3_hasEnded ({ frames := 0, cells := 0, slots := 0, locals := 0 }) (PcRO [.ref h, .int (nI k)] D cI cJ cZ [(h, .inr (3, [.ref hB, .ref q1, .ref q2, .ref q3, .ref q4, .ref q5, .ref q6, .ref q7, .ref q8, .ref q9, .ref q10, .ref q11, .ref q12, .ref q13])), (q1, .inl (cI, 40, .inl st))]) (vp_Si (fun r => r = if st k = 2 ∨ st k = 3 then 1 else 0)) 0 0 noF := by
  refine Met.ofW (cc := cX3_hasEnded) (maxL := 2) (ret := some .boolean) (by decide) rfl ?_
  intro p e s m args below meth c s₁ B hml hv
  obtain ⟨rfl, hP, hE⟩ := hv
  have hx := B.exec
  have hb := B.bytes
  have hr := B.returns
  have hts := atoms_spec (ws := wsX3_hasEnded) B.pre
  have hown : s.vm.findClass RX3 = some m.cls := findClass_of_methodNamed B.named
  have hlocks := B.notSynchronized
  have hK := hE.1
  have hl := lv_entry ([.ref h, .int (nI k)]) (n := 2) (Nat.le_of_ble_eq_true rfl)
  rw [lg_entry_eq]
  generalize (lg_sl ([.ref h, .int (nI k)]) ++ List.replicate (2 - (lg_sl ([.ref h, .int (nI k)])).length) Slot.unset).toArray = ls at hl ⊢
  have hl : lv_has ls 2 [(0, .ref h), (1, .int (nI k))] := hl
  have hinX3 : ∀ w ∈ u_ws RX3 TX3 14, w ∈ wsX3_hasEnded := fun _ h => List.mem_cons_of_mem _ (List.mem_append_right _ h)
  refine lv_aload_n hx hb dX3_hasEnded_0 rfl (lv_at hl 0 rfl) ?_
  refine va_get (D := D) (ci := 3) (v := .ref q1) (C := RX3) (T := TX3) (N := 14) hx hb hts hinX3 hown hK hP 0 rfl rfl 1 (by decide) (hts (.fieldLink RX3 9 "LedgerShares$Sheet" "stages" "[I") (List.mem_of_getElem? (i := 1) rfl)) (fun _ h9 => h9) rfl dX3_hasEnded_1 ?_
  refine lv_iload_n hx hb dX3_hasEnded_4 rfl (lv_at hl 1 rfl) ?_
  refine x_iald hx hb hE hP 1 rfl (k) hk (by decide) (rfl) dX3_hasEnded_5 ?_
  refine lv_iconst (v := 2) hx hb dX3_hasEnded_6 (by decide) ?_
  refine lv_icmp_eq (tgt := 20) hx hb dX3_hasEnded_7 (by decide) (fun c7 => ?_) (fun c7 => ?_)
  · refine lv_iconst (v := 1) hx hb dX3_hasEnded_20 (by decide) ?_
    refine lv_goto (tgt := 25) hx hb dX3_hasEnded_21 (by decide) ?_
    exact W.zret hx hb hr (by decide) (fun t ht hW => ⟨_, rfl, by simp [c7], ht⟩) (fun q h => by cases h) dX3_hasEnded_25
  · refine lv_aload_n hx hb dX3_hasEnded_10 rfl (lv_at hl 0 rfl) ?_
    refine va_get (D := D) (ci := 3) (v := .ref q1) (C := RX3) (T := TX3) (N := 14) hx hb hts hinX3 hown hK hP 0 rfl rfl 1 (by decide) (hts (.fieldLink RX3 9 "LedgerShares$Sheet" "stages" "[I") (List.mem_of_getElem? (i := 1) rfl)) (fun _ h9 => h9) rfl dX3_hasEnded_11 ?_
    refine lv_iload_n hx hb dX3_hasEnded_14 rfl (lv_at hl 1 rfl) ?_
    refine x_iald hx hb hE hP 1 rfl (k) hk (by decide) (rfl) dX3_hasEnded_15 ?_
    refine lv_iconst (v := 3) hx hb dX3_hasEnded_16 (by decide) ?_
    refine lv_icmp_ne (tgt := 24) hx hb dX3_hasEnded_17 (by decide) (fun c17 => ?_) (fun c17 => ?_)
    · refine lv_iconst (v := 0) hx hb dX3_hasEnded_24 (by decide) ?_
      exact W.zret hx hb hr (by decide) (fun t ht hW => ⟨_, rfl, by simp [c7, c17], ht⟩) (fun q h => by cases h) dX3_hasEnded_25
    · refine lv_iconst (v := 1) hx hb dX3_hasEnded_20 (by decide) ?_
      refine lv_goto (tgt := 25) hx hb dX3_hasEnded_21 (by decide) ?_
      exact W.zret hx hb hr (by decide) (fun t ht hW => ⟨_, rfl, by simp [c7, c17], ht⟩) (fun q h => by cases h) dX3_hasEnded_25
set_option maxHeartbeats 4000000 in
set_option maxRecDepth 100000 in
theorem k_standing (l : Launch) (D : va_G) (cI cJ cZ : ClassId) (h hB q1 q2 q3 q4 q5 q6 q7 q8 q9 q10 q11 q12 q13 : Nat) (st ca cb : Nat → Int32) (ga gb : Nat → Int64) (b1 b2 b3 b4 b5 b6 : Nat) (bz : Int32) (ak bk : Nat → Int32) (key : Int32) (kc : Nat) (hkc : kc ≤ 40) : Met l yX3_standing wsX3_standing ({ frames := 1, cells := 0, slots := 0, locals := 21 }) (PcRO [.ref h, .int (nI kc), .int key] D cI cJ cZ [(h, .inr (3, [.ref hB, .ref q1, .ref q2, .ref q3, .ref q4, .ref q5, .ref q6, .ref q7, .ref q8, .ref q9, .ref q10, .ref q11, .ref q12, .ref q13])), (q1, .inl (cI, 40, .inl st)), (q5, .inl (cZ, 40, .inl ca)), (q6, .inl (cZ, 40, .inl cb)), (q7, .inl (cJ, 40, .inr (.inl ga))), (q8, .inl (cJ, 40, .inr (.inl gb))), (hB, .inr (0, [.int bz, .ref b1, .ref b2, .ref b3, .ref b4, .ref b5, .ref b6])), (b2, .inl (cI, 40, .inl ak)), (b3, .inl (cI, 40, .inl bk))]) (vp_Sl (fun r => r = stnd st ca ak cb bk ga gb key kc)) 0 0 noF := by
  refine Met.ofW (cc := cX3_standing) (maxL := 4) (ret := some .long) (by decide) rfl ?_
  intro p e s m args below meth c s₁ B hml hv
  obtain ⟨rfl, hP, hE⟩ := hv
  have hx := B.exec
  have hb := B.bytes
  have hr := B.returns
  have hts := atoms_spec (ws := wsX3_standing) B.pre
  have hown : s.vm.findClass RX3 = some m.cls := findClass_of_methodNamed B.named
  have hlocks := B.notSynchronized
  have hK := hE.1
  have hl := lv_entry ([.ref h, .int (nI kc), .int key]) (n := 4) (Nat.le_of_ble_eq_true rfl)
  rw [lg_entry_eq]
  generalize (lg_sl ([.ref h, .int (nI kc), .int key]) ++ List.replicate (4 - (lg_sl ([.ref h, .int (nI kc), .int key])).length) Slot.unset).toArray = ls at hl ⊢
  have hl : lv_has ls 4 [(0, .ref h), (1, .int (nI kc)), (2, .int key)] := hl
  have hinX0 : ∀ w ∈ u_ws RX0 TX0 7, w ∈ wsX3_standing := fun _ h => List.mem_cons_of_mem _ (List.mem_append_right _ h)
  have hinX3 : ∀ w ∈ u_ws RX3 TX3 14, w ∈ wsX3_standing := fun _ h => List.mem_cons_of_mem _ (List.mem_append_left _ (List.mem_append_right _ h))
  refine lv_iload_n hx hb dX3_standing_0 rfl (lv_at hl 1 rfl) ?_
  refine lv_bipush (v := 40) hx hb dX3_standing_1 (by decide) ?_
  refine va_mmin hx hb (by rw [hml]; exact hl.1.symm) hown (hts (.methodLink RX3 57 Lib.Math.min.name) (List.mem_of_getElem? (i := 1) rfl)) (hts (.static Lib.Math.min.name) (List.mem_of_getElem? (i := 2) rfl)) (hts (.initialized "java/lang/Math") (List.mem_of_getElem? (i := 3) rfl)) (hts (.code Lib.Math.min.name Lib.Math.min.code 2 (some .int)) (List.mem_of_getElem? (i := 4) rfl)) (Nat.le_of_ble_eq_true rfl) (Nat.le_of_ble_eq_true rfl) (Nat.zero_le _) (Nat.zero_le _) dX3_standing_3 ?_
  refine x_topi (y := nI kc) (if_neg (nI_nlt (a := 40) (b := kc) hkc (by decide))) ?_
  refine lv_iconst (v := 1) hx hb dX3_standing_6 (by decide) ?_
  refine lv_isub hx hb dX3_standing_7 ?_
  refine lv_istore_n (lv' := [(3, .int ((nI kc) - 1)), (0, .ref h), (1, .int (nI kc)), (2, .int key)]) hx hb dX3_standing_8 rfl hl (by decide) rfl (fun ls hl => ?_)
  have loop9 : ∀ (n : Nat) (j : Nat), (j ≤ 40) → (j < n) → (stnd st ca ak cb bk ga gb key kc = stnd st ca ak cb bk ga gb key j) → ∀ (ls : Array Slot), lv_has ls 4 [(3, .int (nI j - 1)), (0, .ref h), (1, .int (nI kc)), (2, .int key)] → W p l e (headSpec wsX3_standing ({ frames := 1, cells := 0, slots := 0, locals := 21 })).room s m ([.ref h, .int (nI kc), .int key].toArray) below meth c s.heap [] 0 0 (MQ below (vp_Sl (fun r => r = stnd st ca ak cb bk ga gb key kc)) ([.ref h, .int (nI kc), .int key].toArray) s 0 0 noF) (F0 m 9 ls []) := by
    intro n
    induction n with
    | zero =>
      intro j hj hf hinv
      exact absurd hf (by omega)
    | succ n ih9 =>
      intro j hj hf hinv ls hl
      refine lv_iload_n hx hb dX3_standing_9 rfl (lv_at hl 0 rfl) ?_
      refine lv_if_lt (tgt := 85) hx hb dX3_standing_10 (by decide) (fun c10 => ?_) (fun c10 => ?_)
      · refine lv_lconst (v := 0) hx hb dX3_standing_85 (by decide) ?_
        exact W.lret hx hb hr (fun t ht hW => ⟨_, rfl, by rw [hinv, x_zero_of (by omega) c10]; rfl, ht⟩) (fun q h => by cases h) dX3_standing_86
      · obtain ⟨i, rfl⟩ := x_pos_of (by omega) c10
        rw [nI_pred] at hl
        refine lv_aload_n hx hb dX3_standing_13 rfl (lv_at hl 1 rfl) ?_
        refine lv_iload_n hx hb dX3_standing_14 rfl (lv_at hl 0 rfl) ?_
        refine vp_callSi (va_Run.run (va_runV (As := [.int (nI i)]) (rest := []) ⟨hx, hb, hml, hown, hts⟩ (k_hasEnded l D cI cJ cZ h hB q1 q2 q3 q4 q5 q6 q7 q8 q9 q10 q11 q12 q13 st i (by omega)) (cwV 1 hts gX3_standing_X3_hasEnded rfl rfl rfl (by decide +kernel) ⟨Nat.le_of_ble_eq_true rfl, Nat.le_of_ble_eq_true rfl⟩) ⟨bl_ro, va_recv hK (hP.sub (ws' := [(h, .inr (3, [.ref hB, .ref q1, .ref q2, .ref q3, .ref q4, .ref q5, .ref q6, .ref q7, .ref q8, .ref q9, .ref q10, .ref q11, .ref q12, .ref q13])), (q1, .inl (cI, 40, .inl st))]) [0, 1] rfl) (ci := 3) (q0 := 0) rfl rfl, fun U hU hW => ⟨rfl, by rw [hU]; exact (hP.sub (ws' := [(h, .inr (3, [.ref hB, .ref q1, .ref q2, .ref q3, .ref q4, .ref q5, .ref q6, .ref q7, .ref q8, .ref q9, .ref q10, .ref q11, .ref q12, .ref q13])), (q1, .inl (cI, 40, .inl st))]) [0, 1] rfl), hE.warm2 hW⟩⟩ rfl rfl hl.1 rfl (lv_room (Nat.le_of_ble_eq_true rfl)) dX3_standing_15 ⟨Nat.zero_le _, Nat.zero_le _⟩)) (fun r15 hr15 => ?_)
        refine lv_if_eq (tgt := 79) hx hb dX3_standing_18 (by decide) (fun c18 => ?_) (fun c18 => ?_)
        · refine lv_iinc (v := nI i - 1) (lv' := [(3, .int (nI i - 1)), (0, .ref h), (1, .int (nI kc)), (2, .int key)]) hx hb dX3_standing_79 hl (k := 0) rfl (x_dec _) (by decide) rfl (fun ls hl => ?_)
          refine lv_goto (tgt := 9) hx hb dX3_standing_82 (by decide) ?_
          exact ih9 i (by omega) (by omega) (by have e18 := if1_f (hr15.symm.trans c18); rw [hinv]; simp [stnd, e18]) ls (lv_sub hl [0, 1, 2, 3] rfl)
        · refine lv_aload_n hx hb dX3_standing_21 rfl (lv_at hl 1 rfl) ?_
          refine va_get (D := D) (ci := 3) (v := .ref q5) (C := RX3) (T := TX3) (N := 14) hx hb hts hinX3 hown hK hP 0 rfl rfl 5 (by decide) (hts (.fieldLink RX3 25 "LedgerShares$Sheet" "changesA" "[Z") (List.mem_of_getElem? (i := 5) rfl)) (fun _ h9 => h9) rfl dX3_standing_22 ?_
          refine lv_iload_n hx hb dX3_standing_25 rfl (lv_at hl 0 rfl) ?_
          refine x_zald hx hb hE hP 2 rfl (i) (by omega) (by decide) (rfl) dX3_standing_26 ?_
          refine lv_if_eq (tgt := 50) hx hb dX3_standing_27 (by decide) (fun c27 => ?_) (fun c27 => ?_)
          · refine lv_aload_n hx hb dX3_standing_50 rfl (lv_at hl 1 rfl) ?_
            refine va_get (D := D) (ci := 3) (v := .ref q6) (C := RX3) (T := TX3) (N := 14) hx hb hts hinX3 hown hK hP 0 rfl rfl 6 (by decide) (hts (.fieldLink RX3 29 "LedgerShares$Sheet" "changesB" "[Z") (List.mem_of_getElem? (i := 9) rfl)) (fun _ h9 => h9) rfl dX3_standing_51 ?_
            refine lv_iload_n hx hb dX3_standing_54 rfl (lv_at hl 0 rfl) ?_
            refine x_zald hx hb hE hP 3 rfl (i) (by omega) (by decide) (rfl) dX3_standing_55 ?_
            refine lv_if_eq (tgt := 79) hx hb dX3_standing_56 (by decide) (fun c56 => ?_) (fun c56 => ?_)
            · refine lv_iinc (v := nI i - 1) (lv' := [(3, .int (nI i - 1)), (0, .ref h), (1, .int (nI kc)), (2, .int key)]) hx hb dX3_standing_79 hl (k := 0) rfl (x_dec _) (by decide) rfl (fun ls hl => ?_)
              refine lv_goto (tgt := 9) hx hb dX3_standing_82 (by decide) ?_
              exact ih9 i (by omega) (by omega) (by have e18 := if1_t (fun z => c18 (hr15.trans z)); rw [hinv]; simp [stnd, e18, c27, c56]) ls (lv_sub hl [0, 1, 2, 3] rfl)
            · refine lv_aload_n hx hb dX3_standing_59 rfl (lv_at hl 1 rfl) ?_
              refine va_get (D := D) (ci := 3) (v := .ref hB) (C := RX3) (T := TX3) (N := 14) hx hb hts hinX3 hown hK hP 0 rfl rfl 0 (by decide) (hts (.fieldLink RX3 53 "LedgerShares$Sheet" "book" "LLedgerShares$Book;") (List.mem_of_getElem? (i := 6) rfl)) (fun _ h9 => h9) rfl dX3_standing_60 ?_
              refine va_get (D := D) (ci := 0) (v := .ref b3) (C := RX0) (T := TX0) (N := 7) hx hb hts hinX0 hown hK hP 6 rfl rfl 3 (by decide) (hts (.fieldLink RX3 72 "LedgerShares$Book" "bs" "[I") (List.mem_of_getElem? (i := 10) rfl)) (fun _ h9 => h9) rfl dX3_standing_63 ?_
              refine lv_iload_n hx hb dX3_standing_66 rfl (lv_at hl 0 rfl) ?_
              refine x_iald hx hb hE hP 8 rfl (i) (by omega) (by decide) (rfl) dX3_standing_67 ?_
              refine lv_iload_n hx hb dX3_standing_68 rfl (lv_at hl 3 rfl) ?_
              refine lv_icmp_ne (tgt := 79) hx hb dX3_standing_69 (by decide) (fun c69 => ?_) (fun c69 => ?_)
              · refine lv_iinc (v := nI i - 1) (lv' := [(3, .int (nI i - 1)), (0, .ref h), (1, .int (nI kc)), (2, .int key)]) hx hb dX3_standing_79 hl (k := 0) rfl (x_dec _) (by decide) rfl (fun ls hl => ?_)
                refine lv_goto (tgt := 9) hx hb dX3_standing_82 (by decide) ?_
                exact ih9 i (by omega) (by omega) (by have e18 := if1_t (fun z => c18 (hr15.trans z)); rw [hinv]; simp [stnd, e18, c27, c56, c69]) ls (lv_sub hl [0, 1, 2, 3] rfl)
              · refine lv_aload_n hx hb dX3_standing_72 rfl (lv_at hl 1 rfl) ?_
                refine va_get (D := D) (ci := 3) (v := .ref q8) (C := RX3) (T := TX3) (N := 14) hx hb hts hinX3 hown hK hP 0 rfl rfl 8 (by decide) (hts (.fieldLink RX3 35 "LedgerShares$Sheet" "givesB" "[J") (List.mem_of_getElem? (i := 11) rfl)) (fun _ h9 => h9) rfl dX3_standing_73 ?_
                refine lv_iload_n hx hb dX3_standing_76 rfl (lv_at hl 0 rfl) ?_
                refine x_lald hx hb hE hP 5 rfl (i) (by omega) (by decide) (rfl) dX3_standing_77 ?_
                exact W.lret hx hb hr (fun t ht hW => ⟨_, rfl, by have e18 := if1_t (fun z => c18 (hr15.trans z)); rw [hinv]; simp [stnd, e18, c27, c56, c69], ht⟩) (fun q h => by cases h) dX3_standing_78
          · refine lv_aload_n hx hb dX3_standing_30 rfl (lv_at hl 1 rfl) ?_
            refine va_get (D := D) (ci := 3) (v := .ref hB) (C := RX3) (T := TX3) (N := 14) hx hb hts hinX3 hown hK hP 0 rfl rfl 0 (by decide) (hts (.fieldLink RX3 53 "LedgerShares$Sheet" "book" "LLedgerShares$Book;") (List.mem_of_getElem? (i := 6) rfl)) (fun _ h9 => h9) rfl dX3_standing_31 ?_
            refine va_get (D := D) (ci := 0) (v := .ref b2) (C := RX0) (T := TX0) (N := 7) hx hb hts hinX0 hown hK hP 6 rfl rfl 2 (by decide) (hts (.fieldLink RX3 67 "LedgerShares$Book" "as" "[I") (List.mem_of_getElem? (i := 7) rfl)) (fun _ h9 => h9) rfl dX3_standing_34 ?_
            refine lv_iload_n hx hb dX3_standing_37 rfl (lv_at hl 0 rfl) ?_
            refine x_iald hx hb hE hP 7 rfl (i) (by omega) (by decide) (rfl) dX3_standing_38 ?_
            refine lv_iload_n hx hb dX3_standing_39 rfl (lv_at hl 3 rfl) ?_
            refine lv_icmp_ne (tgt := 50) hx hb dX3_standing_40 (by decide) (fun c40 => ?_) (fun c40 => ?_)
            · refine lv_aload_n hx hb dX3_standing_50 rfl (lv_at hl 1 rfl) ?_
              refine va_get (D := D) (ci := 3) (v := .ref q6) (C := RX3) (T := TX3) (N := 14) hx hb hts hinX3 hown hK hP 0 rfl rfl 6 (by decide) (hts (.fieldLink RX3 29 "LedgerShares$Sheet" "changesB" "[Z") (List.mem_of_getElem? (i := 9) rfl)) (fun _ h9 => h9) rfl dX3_standing_51 ?_
              refine lv_iload_n hx hb dX3_standing_54 rfl (lv_at hl 0 rfl) ?_
              refine x_zald hx hb hE hP 3 rfl (i) (by omega) (by decide) (rfl) dX3_standing_55 ?_
              refine lv_if_eq (tgt := 79) hx hb dX3_standing_56 (by decide) (fun c56 => ?_) (fun c56 => ?_)
              · refine lv_iinc (v := nI i - 1) (lv' := [(3, .int (nI i - 1)), (0, .ref h), (1, .int (nI kc)), (2, .int key)]) hx hb dX3_standing_79 hl (k := 0) rfl (x_dec _) (by decide) rfl (fun ls hl => ?_)
                refine lv_goto (tgt := 9) hx hb dX3_standing_82 (by decide) ?_
                exact ih9 i (by omega) (by omega) (by have e18 := if1_t (fun z => c18 (hr15.trans z)); rw [hinv]; simp [stnd, e18, c27, c40, c56]) ls (lv_sub hl [0, 1, 2, 3] rfl)
              · refine lv_aload_n hx hb dX3_standing_59 rfl (lv_at hl 1 rfl) ?_
                refine va_get (D := D) (ci := 3) (v := .ref hB) (C := RX3) (T := TX3) (N := 14) hx hb hts hinX3 hown hK hP 0 rfl rfl 0 (by decide) (hts (.fieldLink RX3 53 "LedgerShares$Sheet" "book" "LLedgerShares$Book;") (List.mem_of_getElem? (i := 6) rfl)) (fun _ h9 => h9) rfl dX3_standing_60 ?_
                refine va_get (D := D) (ci := 0) (v := .ref b3) (C := RX0) (T := TX0) (N := 7) hx hb hts hinX0 hown hK hP 6 rfl rfl 3 (by decide) (hts (.fieldLink RX3 72 "LedgerShares$Book" "bs" "[I") (List.mem_of_getElem? (i := 10) rfl)) (fun _ h9 => h9) rfl dX3_standing_63 ?_
                refine lv_iload_n hx hb dX3_standing_66 rfl (lv_at hl 0 rfl) ?_
                refine x_iald hx hb hE hP 8 rfl (i) (by omega) (by decide) (rfl) dX3_standing_67 ?_
                refine lv_iload_n hx hb dX3_standing_68 rfl (lv_at hl 3 rfl) ?_
                refine lv_icmp_ne (tgt := 79) hx hb dX3_standing_69 (by decide) (fun c69 => ?_) (fun c69 => ?_)
                · refine lv_iinc (v := nI i - 1) (lv' := [(3, .int (nI i - 1)), (0, .ref h), (1, .int (nI kc)), (2, .int key)]) hx hb dX3_standing_79 hl (k := 0) rfl (x_dec _) (by decide) rfl (fun ls hl => ?_)
                  refine lv_goto (tgt := 9) hx hb dX3_standing_82 (by decide) ?_
                  exact ih9 i (by omega) (by omega) (by have e18 := if1_t (fun z => c18 (hr15.trans z)); rw [hinv]; simp [stnd, e18, c27, c40, c56, c69]) ls (lv_sub hl [0, 1, 2, 3] rfl)
                · refine lv_aload_n hx hb dX3_standing_72 rfl (lv_at hl 1 rfl) ?_
                  refine va_get (D := D) (ci := 3) (v := .ref q8) (C := RX3) (T := TX3) (N := 14) hx hb hts hinX3 hown hK hP 0 rfl rfl 8 (by decide) (hts (.fieldLink RX3 35 "LedgerShares$Sheet" "givesB" "[J") (List.mem_of_getElem? (i := 11) rfl)) (fun _ h9 => h9) rfl dX3_standing_73 ?_
                  refine lv_iload_n hx hb dX3_standing_76 rfl (lv_at hl 0 rfl) ?_
                  refine x_lald hx hb hE hP 5 rfl (i) (by omega) (by decide) (rfl) dX3_standing_77 ?_
                  exact W.lret hx hb hr (fun t ht hW => ⟨_, rfl, by have e18 := if1_t (fun z => c18 (hr15.trans z)); rw [hinv]; simp [stnd, e18, c27, c40, c56, c69], ht⟩) (fun q h => by cases h) dX3_standing_78
            · refine lv_aload_n hx hb dX3_standing_43 rfl (lv_at hl 1 rfl) ?_
              refine va_get (D := D) (ci := 3) (v := .ref q7) (C := RX3) (T := TX3) (N := 14) hx hb hts hinX3 hown hK hP 0 rfl rfl 7 (by decide) (hts (.fieldLink RX3 32 "LedgerShares$Sheet" "givesA" "[J") (List.mem_of_getElem? (i := 8) rfl)) (fun _ h9 => h9) rfl dX3_standing_44 ?_
              refine lv_iload_n hx hb dX3_standing_47 rfl (lv_at hl 0 rfl) ?_
              refine x_lald hx hb hE hP 4 rfl (i) (by omega) (by decide) (rfl) dX3_standing_48 ?_
              exact W.lret hx hb hr (fun t ht hW => ⟨_, rfl, by have e18 := if1_t (fun z => c18 (hr15.trans z)); rw [hinv]; simp [stnd, e18, c27, c40], ht⟩) (fun q h => by cases h) dX3_standing_49
  exact loop9 41 kc hkc (by omega) rfl ls (lv_sub hl [0, 1, 2, 3] rfl)
set_option maxHeartbeats 4000000 in
set_option maxRecDepth 100000 in
theorem k_leastOpen (l : Launch) (D : va_G) (cI cJ cZ : ClassId) (h hB q1 q2 q3 q4 q5 q6 q7 q8 q9 q10 q11 q12 q13 : Nat) (st : Nat → Int32) (a en : Nat) (ha : a ≤ 40) (he : en ≤ 40) : Met l yX3_leastOpen wsX3_leastOpen ({ frames := 1, cells := 0, slots := 0, locals := 21 }) (PcRO [.ref h, .int (nI a), .int (nI en)] D cI cJ cZ [(h, .inr (3, [.ref hB, .ref q1, .ref q2, .ref q3, .ref q4, .ref q5, .ref q6, .ref q7, .ref q8, .ref q9, .ref q10, .ref q11, .ref q12, .ref q13])), (q1, .inl (cI, 40, .inl st))]) (vp_Si (fun r => r = lstO st en 41 a)) 0 0 noF := by
  refine Met.ofW (cc := cX3_leastOpen) (maxL := 4) (ret := some .int) (by decide) rfl ?_
  intro p e s m args below meth c s₁ B hml hv
  obtain ⟨rfl, hP, hE⟩ := hv
  have hx := B.exec
  have hb := B.bytes
  have hr := B.returns
  have hts := atoms_spec (ws := wsX3_leastOpen) B.pre
  have hown : s.vm.findClass RX3 = some m.cls := findClass_of_methodNamed B.named
  have hlocks := B.notSynchronized
  have hK := hE.1
  have hl := lv_entry ([.ref h, .int (nI a), .int (nI en)]) (n := 4) (Nat.le_of_ble_eq_true rfl)
  rw [lg_entry_eq]
  generalize (lg_sl ([.ref h, .int (nI a), .int (nI en)]) ++ List.replicate (4 - (lg_sl ([.ref h, .int (nI a), .int (nI en)])).length) Slot.unset).toArray = ls at hl ⊢
  have hl : lv_has ls 4 [(0, .ref h), (1, .int (nI a)), (2, .int (nI en))] := hl
  have hinX3 : ∀ w ∈ u_ws RX3 TX3 14, w ∈ wsX3_leastOpen := fun _ h => List.mem_cons_of_mem _ (List.mem_append_right _ h)
  refine lv_iload_n hx hb dX3_leastOpen_0 rfl (lv_at hl 1 rfl) ?_
  refine lv_iconst (v := 0) hx hb dX3_leastOpen_1 (by decide) ?_
  refine va_mmax hx hb (by rw [hml]; exact hl.1.symm) hown (hts (.methodLink RX3 75 Lib.Math.max.name) (List.mem_of_getElem? (i := 1) rfl)) (hts (.static Lib.Math.max.name) (List.mem_of_getElem? (i := 2) rfl)) (hts (.initialized "java/lang/Math") (List.mem_of_getElem? (i := 3) rfl)) (hts (.code Lib.Math.max.name Lib.Math.max.code 2 (some .int)) (List.mem_of_getElem? (i := 4) rfl)) (Nat.le_of_ble_eq_true rfl) (Nat.le_of_ble_eq_true rfl) (Nat.zero_le _) (Nat.zero_le _) dX3_leastOpen_2 ?_
  refine x_topi (y := nI a) (if_neg (nI_pos (by omega))) ?_
  refine lv_istore_n (lv' := [(3, .int (nI a)), (0, .ref h), (1, .int (nI a)), (2, .int (nI en))]) hx hb dX3_leastOpen_5 rfl hl (by decide) rfl (fun ls hl => ?_)
  have loop6 : ∀ (n : Nat) (k : Nat), (k ≤ 40) → (41 ≤ k + n) → (lstO st en 41 a = lstO st en n k) → ∀ (ls : Array Slot), lv_has ls 4 [(3, .int (nI k)), (0, .ref h), (1, .int (nI a)), (2, .int (nI en))] → W p l e (headSpec wsX3_leastOpen ({ frames := 1, cells := 0, slots := 0, locals := 21 })).room s m ([.ref h, .int (nI a), .int (nI en)].toArray) below meth c s.heap [] 0 0 (MQ below (vp_Si (fun r => r = lstO st en 41 a)) ([.ref h, .int (nI a), .int (nI en)].toArray) s 0 0 noF) (F0 m 6 ls []) := by
    intro n
    induction n with
    | zero =>
      intro k hk hf hinv
      exact absurd hf (by omega)
    | succ n ih6 =>
      intro k hk hf hinv ls hl
      refine lv_iload_n hx hb dX3_leastOpen_6 rfl (lv_at hl 0 rfl) ?_
      refine lv_iload_n hx hb dX3_leastOpen_7 rfl (lv_at hl 3 rfl) ?_
      refine lv_icmp_ge (tgt := 34) hx hb dX3_leastOpen_8 (by decide) (fun c8 => ?_) (fun c8 => ?_)
      · refine lv_iconst (v := (-1)) hx hb dX3_leastOpen_34 (by decide) ?_
        exact W.iret hx hb hr (fun t ht hW => ⟨_, rfl, by rw [hinv]; simp [lstO, show ¬ k < en from fun z => absurd c8 (nI_ge z (by omega))], ht⟩) (fun q h => by cases h) dX3_leastOpen_35
      · have g8 : k < en := Nat.lt_of_not_le (fun z => c8 (nI_le z (by omega)))
        refine lv_iload_n hx hb dX3_leastOpen_11 rfl (lv_at hl 0 rfl) ?_
        refine lv_bipush (v := 40) hx hb dX3_leastOpen_12 (by decide) ?_
        refine lv_icmp_ge (tgt := 34) hx hb dX3_leastOpen_14 (by decide) (fun c14 => absurd c14 (nI_ge (b := 40) (by omega) (by decide))) (fun c14 => ?_)
        refine lv_aload_n hx hb dX3_leastOpen_17 rfl (lv_at hl 1 rfl) ?_
        refine va_get (D := D) (ci := 3) (v := .ref q1) (C := RX3) (T := TX3) (N := 14) hx hb hts hinX3 hown hK hP 0 rfl rfl 1 (by decide) (hts (.fieldLink RX3 9 "LedgerShares$Sheet" "stages" "[I") (List.mem_of_getElem? (i := 5) rfl)) (fun _ h9 => h9) rfl dX3_leastOpen_18 ?_
        refine lv_iload_n hx hb dX3_leastOpen_21 rfl (lv_at hl 0 rfl) ?_
        refine x_iald hx hb hE hP 1 rfl (k) (by omega) (by decide) (rfl) dX3_leastOpen_22 ?_
        refine lv_if_ne (tgt := 28) hx hb dX3_leastOpen_23 (by decide) (fun c23 => ?_) (fun c23 => ?_)
        · refine lv_iinc (v := nI (k + 1)) (lv' := [(3, .int (nI (k + 1))), (0, .ref h), (1, .int (nI a)), (2, .int (nI en))]) hx hb dX3_leastOpen_28 hl (k := 0) rfl (nI_1 k) (by decide) rfl (fun ls hl => ?_)
          refine lv_goto (tgt := 6) hx hb dX3_leastOpen_31 (by decide) ?_
          exact ih6 (k + 1) (by omega) (by omega) (by rw [hinv]; simp [lstO, g8, c23]) ls (lv_sub hl [0, 1, 2, 3] rfl)
        · refine lv_iload_n hx hb dX3_leastOpen_26 rfl (lv_at hl 0 rfl) ?_
          exact W.iret hx hb hr (fun t ht hW => ⟨_, rfl, by rw [hinv]; simp [lstO, g8, c23], ht⟩) (fun q h => by cases h) dX3_leastOpen_27
  exact loop6 41 a ha (by omega) rfl ls (lv_sub hl [0, 1, 2, 3] rfl)
set_option maxHeartbeats 4000000 in
set_option maxRecDepth 100000 in
theorem k_noteBegun (l : Launch) (D : va_G) (cI cJ cZ : ClassId) (sz : Nat) (h hB q1 q2 q3 q4 q5 q6 q7 q8 q9 q10 q11 q12 q13 : Nat) (tb fb : Nat → Int32) (k : Nat) (hk : k < 40) (tick : Int32) : Met l yX3_noteBegun wsX3_noteBegun ({ frames := 0, cells := 0, slots := 0, locals := 0 }) (PcRW [.ref h, .int (nI k), .int tick] sz D cI cJ cZ [(h, .inr (3, [.ref hB, .ref q1, .ref q2, .ref q3, .ref q4, .ref q5, .ref q6, .ref q7, .ref q8, .ref q9, .ref q10, .ref q11, .ref q12, .ref q13])), (q10, .inl (cI, 40, .inl tb)), (q11, .inl (cI, 40, .inl fb))]) (QcV D (va_A [(h, .inr (3, [.ref hB, .ref q1, .ref q2, .ref q3, .ref q4, .ref q5, .ref q6, .ref q7, .ref q8, .ref q9, .ref q10, .ref q11, .ref q12, .ref q13])), (q10, .inl (cI, 40, .inl tb)), (q11, .inl (cI, 40, .inl fb))] sz) [(h, .inr (3, [.ref hB, .ref q1, .ref q2, .ref q3, .ref q4, .ref q5, .ref q6, .ref q7, .ref q8, .ref q9, .ref q10, .ref q11, .ref q12, .ref q13])), (q10, .inl (cI, 40, .inl (upd tb k (tb k + 1)))), (q11, .inl (cI, 40, .inl (if tb k = 0 then upd fb k tick else fb)))]) 0 0 (va_A [(h, .inr (3, [.ref hB, .ref q1, .ref q2, .ref q3, .ref q4, .ref q5, .ref q6, .ref q7, .ref q8, .ref q9, .ref q10, .ref q11, .ref q12, .ref q13])), (q10, .inl (cI, 40, .inl tb)), (q11, .inl (cI, 40, .inl fb))] sz) := by
  refine Met.ofW (cc := cX3_noteBegun) (maxL := 3) (ret := none) (by decide) rfl ?_
  intro p e s m args below meth c s₁ B hml hv
  obtain ⟨rfl, hsz, hP, hE, hD0⟩ := hv
  have hx := B.exec
  have hb := B.bytes
  have hr := B.returns
  have hts := atoms_spec (ws := wsX3_noteBegun) B.pre
  have hown : s.vm.findClass RX3 = some m.cls := findClass_of_methodNamed B.named
  have hlocks := B.notSynchronized
  have hK := hE.1
  subst hsz
  have hD := hD0.self (sz := s.heap.size)
  generalize hAe : va_A [(h, .inr (3, [.ref hB, .ref q1, .ref q2, .ref q3, .ref q4, .ref q5, .ref q6, .ref q7, .ref q8, .ref q9, .ref q10, .ref q11, .ref q12, .ref q13])), (q10, .inl (cI, 40, .inl tb)), (q11, .inl (cI, 40, .inl fb))] s.heap.size = A at hD ⊢
  have hA : ∀ q : Nat, s.heap.size ≤ q → A q := fun q h => by rw [← hAe]; exact Or.inr h
  have hS : va_S A s.heap s.heap [] := va_S.rf
  have hl := lv_entry ([.ref h, .int (nI k), .int tick]) (n := 3) (Nat.le_of_ble_eq_true rfl)
  rw [lg_entry_eq]
  generalize (lg_sl ([.ref h, .int (nI k), .int tick]) ++ List.replicate (3 - (lg_sl ([.ref h, .int (nI k), .int tick])).length) Slot.unset).toArray = ls at hl ⊢
  have hl : lv_has ls 3 [(0, .ref h), (1, .int (nI k)), (2, .int tick)] := hl
  have hinX3 : ∀ w ∈ u_ws RX3 TX3 14, w ∈ wsX3_noteBegun := fun _ h => List.mem_cons_of_mem _ (List.mem_append_right _ h)
  refine lv_aload_n hx hb dX3_noteBegun_0 rfl (lv_at hl 0 rfl) ?_
  refine va_get (D := D) (ci := 3) (v := .ref q10) (C := RX3) (T := TX3) (N := 14) hx hb hts hinX3 hown hK hP 0 rfl rfl 10 (by decide) (hts (.fieldLink RX3 41 "LedgerShares$Sheet" "timesBegun" "[I") (List.mem_of_getElem? (i := 1) rfl)) (fun _ h9 => h9) rfl dX3_noteBegun_1 ?_
  refine lv_iload_n hx hb dX3_noteBegun_4 rfl (lv_at hl 1 rfl) ?_
  refine x_iald hx hb hE hP 1 rfl (k) hk (by decide) (rfl) dX3_noteBegun_5 ?_
  refine lv_if_ne (tgt := 16) hx hb dX3_noteBegun_6 (by decide) (fun c6 => ?_) (fun c6 => ?_)
  · refine lv_aload_n hx hb dX3_noteBegun_16 rfl (lv_at hl 0 rfl) ?_
    refine va_get (D := D) (ci := 3) (v := .ref q10) (C := RX3) (T := TX3) (N := 14) hx hb hts hinX3 hown hK hP 0 rfl rfl 10 (by decide) (hts (.fieldLink RX3 41 "LedgerShares$Sheet" "timesBegun" "[I") (List.mem_of_getElem? (i := 1) rfl)) (fun _ h9 => h9) rfl dX3_noteBegun_17 ?_
    refine lv_iload_n hx hb dX3_noteBegun_20 rfl (lv_at hl 1 rfl) ?_
    refine lv_dup2_11 hx hb dX3_noteBegun_21 rfl rfl ?_
    refine x_iald hx hb hE hP 1 rfl (k) hk (by decide) (rfl) dX3_noteBegun_22 ?_
    refine lv_iconst (v := 1) hx hb dX3_noteBegun_23 (by decide) ?_
    refine lv_iadd hx hb dX3_noteBegun_24 ?_
    refine x_iast hx hb hE hP hD hS 1 rfl (k) hk (by decide) (rfl) (ws' := [(h, .inr (3, [.ref hB, .ref q1, .ref q2, .ref q3, .ref q4, .ref q5, .ref q6, .ref q7, .ref q8, .ref q9, .ref q10, .ref q11, .ref q12, .ref q13])), (q10, .inl (cI, 40, .inl (upd tb k ((tb k) + 1)))), (q11, .inl (cI, 40, .inl fb))]) (rfl) dX3_noteBegun_25 (fun H locs hP hD hS => ?_)
    exact W.vret hx hb hr (fun t ht hW => ⟨⟨(), rfl, trivial, by rw [ht]; simp only [if_neg c6]; exact hP, by simp only [if_neg c6]; exact hD⟩, hS.F ht⟩) hS.2.2 dX3_noteBegun_26
  · refine lv_aload_n hx hb dX3_noteBegun_9 rfl (lv_at hl 0 rfl) ?_
    refine va_get (D := D) (ci := 3) (v := .ref q11) (C := RX3) (T := TX3) (N := 14) hx hb hts hinX3 hown hK hP 0 rfl rfl 11 (by decide) (hts (.fieldLink RX3 44 "LedgerShares$Sheet" "firstBegun" "[I") (List.mem_of_getElem? (i := 2) rfl)) (fun _ h9 => h9) rfl dX3_noteBegun_10 ?_
    refine lv_iload_n hx hb dX3_noteBegun_13 rfl (lv_at hl 1 rfl) ?_
    refine lv_iload_n hx hb dX3_noteBegun_14 rfl (lv_at hl 2 rfl) ?_
    refine x_iast hx hb hE hP hD hS 2 rfl (k) hk (by decide) (rfl) (ws' := [(h, .inr (3, [.ref hB, .ref q1, .ref q2, .ref q3, .ref q4, .ref q5, .ref q6, .ref q7, .ref q8, .ref q9, .ref q10, .ref q11, .ref q12, .ref q13])), (q10, .inl (cI, 40, .inl tb)), (q11, .inl (cI, 40, .inl (upd fb k tick)))]) (rfl) dX3_noteBegun_15 (fun H locs hP hD hS => ?_)
    refine lv_aload_n hx hb dX3_noteBegun_16 rfl (lv_at hl 0 rfl) ?_
    refine va_get (D := D) (ci := 3) (v := .ref q10) (C := RX3) (T := TX3) (N := 14) hx hb hts hinX3 hown hK hP 0 rfl rfl 10 (by decide) (hts (.fieldLink RX3 41 "LedgerShares$Sheet" "timesBegun" "[I") (List.mem_of_getElem? (i := 1) rfl)) (fun _ h9 => h9) rfl dX3_noteBegun_17 ?_
    refine lv_iload_n hx hb dX3_noteBegun_20 rfl (lv_at hl 1 rfl) ?_
    refine lv_dup2_11 hx hb dX3_noteBegun_21 rfl rfl ?_
    refine x_iald hx hb hE hP 1 rfl (k) hk (by decide) (rfl) dX3_noteBegun_22 ?_
    refine lv_iconst (v := 1) hx hb dX3_noteBegun_23 (by decide) ?_
    refine lv_iadd hx hb dX3_noteBegun_24 ?_
    refine x_iast hx hb hE hP hD hS 1 rfl (k) hk (by decide) (rfl) (ws' := [(h, .inr (3, [.ref hB, .ref q1, .ref q2, .ref q3, .ref q4, .ref q5, .ref q6, .ref q7, .ref q8, .ref q9, .ref q10, .ref q11, .ref q12, .ref q13])), (q10, .inl (cI, 40, .inl (upd tb k ((tb k) + 1)))), (q11, .inl (cI, 40, .inl (upd fb k tick)))]) (rfl) dX3_noteBegun_25 (fun H locs hP hD hS => ?_)
    exact W.vret hx hb hr (fun t ht hW => ⟨⟨(), rfl, trivial, by rw [ht]; simp only [if_pos c6]; exact hP, by simp only [if_pos c6]; exact hD⟩, hS.F ht⟩) hS.2.2 dX3_noteBegun_26
set_option maxHeartbeats 4000000 in
set_option maxRecDepth 100000 in
theorem k_setUnderWay (l : Launch) (D : va_G) (cI cJ cZ : ClassId) (sz : Nat) (h hB q1 q2 q3 q4 q5 q6 q7 q8 q9 q10 q11 q12 q13 : Nat) (st sl ca cb : Nat → Int32) (ra rb ga gb : Nat → Int64) (b1 b2 b3 b4 b5 b6 : Nat) (bz : Int32) (ak bk sk : Nat → Int32) (k : Nat) (hk : k < 40) : Met l yX3_setUnderWay wsX3_setUnderWay ({ frames := 2, cells := 0, slots := 0, locals := 44 }) (PcRW [.ref h, .int (nI k)] sz D cI cJ cZ [(h, .inr (3, [.ref hB, .ref q1, .ref q2, .ref q3, .ref q4, .ref q5, .ref q6, .ref q7, .ref q8, .ref q9, .ref q10, .ref q11, .ref q12, .ref q13])), (q1, .inl (cI, 40, .inl st)), (q2, .inl (cI, 40, .inl sl)), (q3, .inl (cJ, 40, .inr (.inl ra))), (q4, .inl (cJ, 40, .inr (.inl rb))), (q5, .inl (cZ, 40, .inl ca)), (q6, .inl (cZ, 40, .inl cb)), (q7, .inl (cJ, 40, .inr (.inl ga))), (q8, .inl (cJ, 40, .inr (.inl gb))), (hB, .inr (0, [.int bz, .ref b1, .ref b2, .ref b3, .ref b4, .ref b5, .ref b6])), (b2, .inl (cI, 40, .inl ak)), (b3, .inl (cI, 40, .inl bk)), (b5, .inl (cI, 40, .inl sk))]) (QcV D (va_A [(h, .inr (3, [.ref hB, .ref q1, .ref q2, .ref q3, .ref q4, .ref q5, .ref q6, .ref q7, .ref q8, .ref q9, .ref q10, .ref q11, .ref q12, .ref q13])), (q1, .inl (cI, 40, .inl st)), (q2, .inl (cI, 40, .inl sl)), (q3, .inl (cJ, 40, .inr (.inl ra))), (q4, .inl (cJ, 40, .inr (.inl rb))), (q5, .inl (cZ, 40, .inl ca)), (q6, .inl (cZ, 40, .inl cb)), (q7, .inl (cJ, 40, .inr (.inl ga))), (q8, .inl (cJ, 40, .inr (.inl gb))), (hB, .inr (0, [.int bz, .ref b1, .ref b2, .ref b3, .ref b4, .ref b5, .ref b6])), (b2, .inl (cI, 40, .inl ak)), (b3, .inl (cI, 40, .inl bk)), (b5, .inl (cI, 40, .inl sk))] sz) [(h, .inr (3, [.ref hB, .ref q1, .ref q2, .ref q3, .ref q4, .ref q5, .ref q6, .ref q7, .ref q8, .ref q9, .ref q10, .ref q11, .ref q12, .ref q13])), (q1, .inl (cI, 40, .inl (upd st k 1))), (q2, .inl (cI, 40, .inl (upd sl k (sk k)))), (q3, .inl (cJ, 40, .inr (.inl (vp_updL ra k (stnd (upd st k 1) ca ak cb bk ga gb (ak k) k))))), (q4, .inl (cJ, 40, .inr (.inl (vp_updL rb k (stnd (upd st k 1) ca ak cb bk ga gb (bk k) k))))), (q5, .inl (cZ, 40, .inl ca)), (q6, .inl (cZ, 40, .inl cb)), (q7, .inl (cJ, 40, .inr (.inl ga))), (q8, .inl (cJ, 40, .inr (.inl gb))), (hB, .inr (0, [.int bz, .ref b1, .ref b2, .ref b3, .ref b4, .ref b5, .ref b6])), (b2, .inl (cI, 40, .inl ak)), (b3, .inl (cI, 40, .inl bk)), (b5, .inl (cI, 40, .inl sk))]) 0 0 (va_A [(h, .inr (3, [.ref hB, .ref q1, .ref q2, .ref q3, .ref q4, .ref q5, .ref q6, .ref q7, .ref q8, .ref q9, .ref q10, .ref q11, .ref q12, .ref q13])), (q1, .inl (cI, 40, .inl st)), (q2, .inl (cI, 40, .inl sl)), (q3, .inl (cJ, 40, .inr (.inl ra))), (q4, .inl (cJ, 40, .inr (.inl rb))), (q5, .inl (cZ, 40, .inl ca)), (q6, .inl (cZ, 40, .inl cb)), (q7, .inl (cJ, 40, .inr (.inl ga))), (q8, .inl (cJ, 40, .inr (.inl gb))), (hB, .inr (0, [.int bz, .ref b1, .ref b2, .ref b3, .ref b4, .ref b5, .ref b6])), (b2, .inl (cI, 40, .inl ak)), (b3, .inl (cI, 40, .inl bk)), (b5, .inl (cI, 40, .inl sk))] sz) := by
  refine Met.ofW (cc := cX3_setUnderWay) (maxL := 2) (ret := none) (by decide) rfl ?_
  intro p e s m args below meth c s₁ B hml hv
  obtain ⟨rfl, hsz, hP, hE, hD0⟩ := hv
  have hx := B.exec
  have hb := B.bytes
  have hr := B.returns
  have hts := atoms_spec (ws := wsX3_setUnderWay) B.pre
  have hown : s.vm.findClass RX3 = some m.cls := findClass_of_methodNamed B.named
  have hlocks := B.notSynchronized
  have hK := hE.1
  subst hsz
  have hD := hD0.self (sz := s.heap.size)
  generalize hAe : va_A [(h, .inr (3, [.ref hB, .ref q1, .ref q2, .ref q3, .ref q4, .ref q5, .ref q6, .ref q7, .ref q8, .ref q9, .ref q10, .ref q11, .ref q12, .ref q13])), (q1, .inl (cI, 40, .inl st)), (q2, .inl (cI, 40, .inl sl)), (q3, .inl (cJ, 40, .inr (.inl ra))), (q4, .inl (cJ, 40, .inr (.inl rb))), (q5, .inl (cZ, 40, .inl ca)), (q6, .inl (cZ, 40, .inl cb)), (q7, .inl (cJ, 40, .inr (.inl ga))), (q8, .inl (cJ, 40, .inr (.inl gb))), (hB, .inr (0, [.int bz, .ref b1, .ref b2, .ref b3, .ref b4, .ref b5, .ref b6])), (b2, .inl (cI, 40, .inl ak)), (b3, .inl (cI, 40, .inl bk)), (b5, .inl (cI, 40, .inl sk))] s.heap.size = A at hD ⊢
  have hA : ∀ q : Nat, s.heap.size ≤ q → A q := fun q h => by rw [← hAe]; exact Or.inr h
  have hS : va_S A s.heap s.heap [] := va_S.rf
  have hl := lv_entry ([.ref h, .int (nI k)]) (n := 2) (Nat.le_of_ble_eq_true rfl)
  rw [lg_entry_eq]
  generalize (lg_sl ([.ref h, .int (nI k)]) ++ List.replicate (2 - (lg_sl ([.ref h, .int (nI k)])).length) Slot.unset).toArray = ls at hl ⊢
  have hl : lv_has ls 2 [(0, .ref h), (1, .int (nI k))] := hl
  have hinX0 : ∀ w ∈ u_ws RX0 TX0 7, w ∈ wsX3_setUnderWay := fun _ h => List.mem_cons_of_mem _ (List.mem_append_right _ h)
  have hinX3 : ∀ w ∈ u_ws RX3 TX3 14, w ∈ wsX3_setUnderWay := fun _ h => List.mem_cons_of_mem _ (List.mem_append_left _ (List.mem_append_right _ h))
  refine lv_aload_n hx hb dX3_setUnderWay_0 rfl (lv_at hl 0 rfl) ?_
  refine va_get (D := D) (ci := 3) (v := .ref q1) (C := RX3) (T := TX3) (N := 14) hx hb hts hinX3 hown hK hP 0 rfl rfl 1 (by decide) (hts (.fieldLink RX3 9 "LedgerShares$Sheet" "stages" "[I") (List.mem_of_getElem? (i := 1) rfl)) (fun _ h9 => h9) rfl dX3_setUnderWay_1 ?_
  refine lv_iload_n hx hb dX3_setUnderWay_4 rfl (lv_at hl 1 rfl) ?_
  refine lv_iconst (v := 1) hx hb dX3_setUnderWay_5 (by decide) ?_
  refine x_iast hx hb hE hP hD hS 1 rfl (k) hk (by decide) (rfl) (ws' := [(h, .inr (3, [.ref hB, .ref q1, .ref q2, .ref q3, .ref q4, .ref q5, .ref q6, .ref q7, .ref q8, .ref q9, .ref q10, .ref q11, .ref q12, .ref q13])), (q1, .inl (cI, 40, .inl (upd st k 1))), (q2, .inl (cI, 40, .inl sl)), (q3, .inl (cJ, 40, .inr (.inl ra))), (q4, .inl (cJ, 40, .inr (.inl rb))), (q5, .inl (cZ, 40, .inl ca)), (q6, .inl (cZ, 40, .inl cb)), (q7, .inl (cJ, 40, .inr (.inl ga))), (q8, .inl (cJ, 40, .inr (.inl gb))), (hB, .inr (0, [.int bz, .ref b1, .ref b2, .ref b3, .ref b4, .ref b5, .ref b6])), (b2, .inl (cI, 40, .inl ak)), (b3, .inl (cI, 40, .inl bk)), (b5, .inl (cI, 40, .inl sk))]) (rfl) dX3_setUnderWay_6 (fun H locs hP hD hS => ?_)
  refine lv_aload_n hx hb dX3_setUnderWay_7 rfl (lv_at hl 0 rfl) ?_
  refine va_get (D := D) (ci := 3) (v := .ref q2) (C := RX3) (T := TX3) (N := 14) hx hb hts hinX3 hown hK hP 0 rfl rfl 2 (by decide) (hts (.fieldLink RX3 15 "LedgerShares$Sheet" "stepsLeft" "[I") (List.mem_of_getElem? (i := 2) rfl)) (fun _ h9 => h9) rfl dX3_setUnderWay_8 ?_
  refine lv_iload_n hx hb dX3_setUnderWay_11 rfl (lv_at hl 1 rfl) ?_
  refine lv_aload_n hx hb dX3_setUnderWay_12 rfl (lv_at hl 0 rfl) ?_
  refine va_get (D := D) (ci := 3) (v := .ref hB) (C := RX3) (T := TX3) (N := 14) hx hb hts hinX3 hown hK hP 0 rfl rfl 0 (by decide) (hts (.fieldLink RX3 53 "LedgerShares$Sheet" "book" "LLedgerShares$Book;") (List.mem_of_getElem? (i := 3) rfl)) (fun _ h9 => h9) rfl dX3_setUnderWay_13 ?_
  refine va_get (D := D) (ci := 0) (v := .ref b5) (C := RX0) (T := TX0) (N := 7) hx hb hts hinX0 hown hK hP 9 rfl rfl 5 (by decide) (hts (.fieldLink RX3 78 "LedgerShares$Book" "steps" "[I") (List.mem_of_getElem? (i := 4) rfl)) (fun _ h9 => h9) rfl dX3_setUnderWay_16 ?_
  refine lv_iload_n hx hb dX3_setUnderWay_19 rfl (lv_at hl 1 rfl) ?_
  refine x_iald hx hb hE hP 12 rfl (k) hk (by decide) (rfl) dX3_setUnderWay_20 ?_
  refine x_iast hx hb hE hP hD hS 2 rfl (k) hk (by decide) (rfl) (ws' := [(h, .inr (3, [.ref hB, .ref q1, .ref q2, .ref q3, .ref q4, .ref q5, .ref q6, .ref q7, .ref q8, .ref q9, .ref q10, .ref q11, .ref q12, .ref q13])), (q1, .inl (cI, 40, .inl (upd st k 1))), (q2, .inl (cI, 40, .inl (upd sl k (sk k)))), (q3, .inl (cJ, 40, .inr (.inl ra))), (q4, .inl (cJ, 40, .inr (.inl rb))), (q5, .inl (cZ, 40, .inl ca)), (q6, .inl (cZ, 40, .inl cb)), (q7, .inl (cJ, 40, .inr (.inl ga))), (q8, .inl (cJ, 40, .inr (.inl gb))), (hB, .inr (0, [.int bz, .ref b1, .ref b2, .ref b3, .ref b4, .ref b5, .ref b6])), (b2, .inl (cI, 40, .inl ak)), (b3, .inl (cI, 40, .inl bk)), (b5, .inl (cI, 40, .inl sk))]) (rfl) dX3_setUnderWay_21 (fun H locs hP hD hS => ?_)
  refine lv_aload_n hx hb dX3_setUnderWay_22 rfl (lv_at hl 0 rfl) ?_
  refine va_get (D := D) (ci := 3) (v := .ref q3) (C := RX3) (T := TX3) (N := 14) hx hb hts hinX3 hown hK hP 0 rfl rfl 3 (by decide) (hts (.fieldLink RX3 18 "LedgerShares$Sheet" "readA" "[J") (List.mem_of_getElem? (i := 5) rfl)) (fun _ h9 => h9) rfl dX3_setUnderWay_23 ?_
  refine lv_iload_n hx hb dX3_setUnderWay_26 rfl (lv_at hl 1 rfl) ?_
  refine lv_aload_n hx hb dX3_setUnderWay_27 rfl (lv_at hl 0 rfl) ?_
  refine lv_iload_n hx hb dX3_setUnderWay_28 rfl (lv_at hl 1 rfl) ?_
  refine lv_aload_n hx hb dX3_setUnderWay_29 rfl (lv_at hl 0 rfl) ?_
  refine va_get (D := D) (ci := 3) (v := .ref hB) (C := RX3) (T := TX3) (N := 14) hx hb hts hinX3 hown hK hP 0 rfl rfl 0 (by decide) (hts (.fieldLink RX3 53 "LedgerShares$Sheet" "book" "LLedgerShares$Book;") (List.mem_of_getElem? (i := 3) rfl)) (fun _ h9 => h9) rfl dX3_setUnderWay_30 ?_
  refine va_get (D := D) (ci := 0) (v := .ref b2) (C := RX0) (T := TX0) (N := 7) hx hb hts hinX0 hown hK hP 9 rfl rfl 2 (by decide) (hts (.fieldLink RX3 67 "LedgerShares$Book" "as" "[I") (List.mem_of_getElem? (i := 6) rfl)) (fun _ h9 => h9) rfl dX3_setUnderWay_33 ?_
  refine lv_iload_n hx hb dX3_setUnderWay_36 rfl (lv_at hl 1 rfl) ?_
  refine x_iald hx hb hE hP 10 rfl (k) hk (by decide) (rfl) dX3_setUnderWay_37 ?_
  refine vp_callSl (va_Run.run (va_runV (As := [.int (nI k), .int (ak k)]) (rest := [.int (nI k), .ref q3]) ⟨hx, hb, hml, hown, hts⟩ (k_standing l D cI cJ cZ h hB q1 q2 q3 q4 q5 q6 q7 q8 q9 q10 q11 q12 q13 (upd st k 1) ca cb ga gb b1 b2 b3 b4 b5 b6 bz ak bk (ak k) k (by omega)) (cwV 2 hts gX3_setUnderWay_X3_standing rfl rfl rfl (by decide +kernel) ⟨Nat.le_of_ble_eq_true rfl, Nat.le_of_ble_eq_true rfl⟩) ⟨bl_ro, va_recv hK (hP.sub (ws' := [(h, .inr (3, [.ref hB, .ref q1, .ref q2, .ref q3, .ref q4, .ref q5, .ref q6, .ref q7, .ref q8, .ref q9, .ref q10, .ref q11, .ref q12, .ref q13])), (q1, .inl (cI, 40, .inl (upd st k 1))), (q5, .inl (cZ, 40, .inl ca)), (q6, .inl (cZ, 40, .inl cb)), (q7, .inl (cJ, 40, .inr (.inl ga))), (q8, .inl (cJ, 40, .inr (.inl gb))), (hB, .inr (0, [.int bz, .ref b1, .ref b2, .ref b3, .ref b4, .ref b5, .ref b6])), (b2, .inl (cI, 40, .inl ak)), (b3, .inl (cI, 40, .inl bk))]) [0, 1, 5, 6, 7, 8, 9, 10, 11] rfl) (ci := 3) (q0 := 0) rfl rfl, fun U hU hW => ⟨rfl, by rw [hU]; exact (hP.sub (ws' := [(h, .inr (3, [.ref hB, .ref q1, .ref q2, .ref q3, .ref q4, .ref q5, .ref q6, .ref q7, .ref q8, .ref q9, .ref q10, .ref q11, .ref q12, .ref q13])), (q1, .inl (cI, 40, .inl (upd st k 1))), (q5, .inl (cZ, 40, .inl ca)), (q6, .inl (cZ, 40, .inl cb)), (q7, .inl (cJ, 40, .inr (.inl ga))), (q8, .inl (cJ, 40, .inr (.inl gb))), (hB, .inr (0, [.int bz, .ref b1, .ref b2, .ref b3, .ref b4, .ref b5, .ref b6])), (b2, .inl (cI, 40, .inl ak)), (b3, .inl (cI, 40, .inl bk))]) [0, 1, 5, 6, 7, 8, 9, 10, 11] rfl), hE.warm2 hW⟩⟩ rfl rfl hl.1 rfl (lv_room (Nat.le_of_ble_eq_true rfl)) dX3_setUnderWay_38 ⟨Nat.zero_le _, Nat.zero_le _⟩)) (fun r38 hr38 => ?_)
  subst hr38
  refine x_last hx hb hE hP hD hS 3 rfl (k) hk (by decide) (rfl) (ws' := [(h, .inr (3, [.ref hB, .ref q1, .ref q2, .ref q3, .ref q4, .ref q5, .ref q6, .ref q7, .ref q8, .ref q9, .ref q10, .ref q11, .ref q12, .ref q13])), (q1, .inl (cI, 40, .inl (upd st k 1))), (q2, .inl (cI, 40, .inl (upd sl k (sk k)))), (q3, .inl (cJ, 40, .inr (.inl (vp_updL ra k (stnd (upd st k 1) ca ak cb bk ga gb (ak k) k))))), (q4, .inl (cJ, 40, .inr (.inl rb))), (q5, .inl (cZ, 40, .inl ca)), (q6, .inl (cZ, 40, .inl cb)), (q7, .inl (cJ, 40, .inr (.inl ga))), (q8, .inl (cJ, 40, .inr (.inl gb))), (hB, .inr (0, [.int bz, .ref b1, .ref b2, .ref b3, .ref b4, .ref b5, .ref b6])), (b2, .inl (cI, 40, .inl ak)), (b3, .inl (cI, 40, .inl bk)), (b5, .inl (cI, 40, .inl sk))]) (rfl) dX3_setUnderWay_41 (fun H locs hP hD hS => ?_)
  refine lv_aload_n hx hb dX3_setUnderWay_42 rfl (lv_at hl 0 rfl) ?_
  refine va_get (D := D) (ci := 3) (v := .ref q4) (C := RX3) (T := TX3) (N := 14) hx hb hts hinX3 hown hK hP 0 rfl rfl 4 (by decide) (hts (.fieldLink RX3 22 "LedgerShares$Sheet" "readB" "[J") (List.mem_of_getElem? (i := 7) rfl)) (fun _ h9 => h9) rfl dX3_setUnderWay_43 ?_
  refine lv_iload_n hx hb dX3_setUnderWay_46 rfl (lv_at hl 1 rfl) ?_
  refine lv_aload_n hx hb dX3_setUnderWay_47 rfl (lv_at hl 0 rfl) ?_
  refine lv_iload_n hx hb dX3_setUnderWay_48 rfl (lv_at hl 1 rfl) ?_
  refine lv_aload_n hx hb dX3_setUnderWay_49 rfl (lv_at hl 0 rfl) ?_
  refine va_get (D := D) (ci := 3) (v := .ref hB) (C := RX3) (T := TX3) (N := 14) hx hb hts hinX3 hown hK hP 0 rfl rfl 0 (by decide) (hts (.fieldLink RX3 53 "LedgerShares$Sheet" "book" "LLedgerShares$Book;") (List.mem_of_getElem? (i := 3) rfl)) (fun _ h9 => h9) rfl dX3_setUnderWay_50 ?_
  refine va_get (D := D) (ci := 0) (v := .ref b3) (C := RX0) (T := TX0) (N := 7) hx hb hts hinX0 hown hK hP 9 rfl rfl 3 (by decide) (hts (.fieldLink RX3 72 "LedgerShares$Book" "bs" "[I") (List.mem_of_getElem? (i := 8) rfl)) (fun _ h9 => h9) rfl dX3_setUnderWay_53 ?_
  refine lv_iload_n hx hb dX3_setUnderWay_56 rfl (lv_at hl 1 rfl) ?_
  refine x_iald hx hb hE hP 11 rfl (k) hk (by decide) (rfl) dX3_setUnderWay_57 ?_
  refine vp_callSl (va_Run.run (va_runV (As := [.int (nI k), .int (bk k)]) (rest := [.int (nI k), .ref q4]) ⟨hx, hb, hml, hown, hts⟩ (k_standing l D cI cJ cZ h hB q1 q2 q3 q4 q5 q6 q7 q8 q9 q10 q11 q12 q13 (upd st k 1) ca cb ga gb b1 b2 b3 b4 b5 b6 bz ak bk (bk k) k (by omega)) (cwV 2 hts gX3_setUnderWay_X3_standing rfl rfl rfl (by decide +kernel) ⟨Nat.le_of_ble_eq_true rfl, Nat.le_of_ble_eq_true rfl⟩) ⟨bl_ro, va_recv hK (hP.sub (ws' := [(h, .inr (3, [.ref hB, .ref q1, .ref q2, .ref q3, .ref q4, .ref q5, .ref q6, .ref q7, .ref q8, .ref q9, .ref q10, .ref q11, .ref q12, .ref q13])), (q1, .inl (cI, 40, .inl (upd st k 1))), (q5, .inl (cZ, 40, .inl ca)), (q6, .inl (cZ, 40, .inl cb)), (q7, .inl (cJ, 40, .inr (.inl ga))), (q8, .inl (cJ, 40, .inr (.inl gb))), (hB, .inr (0, [.int bz, .ref b1, .ref b2, .ref b3, .ref b4, .ref b5, .ref b6])), (b2, .inl (cI, 40, .inl ak)), (b3, .inl (cI, 40, .inl bk))]) [0, 1, 5, 6, 7, 8, 9, 10, 11] rfl) (ci := 3) (q0 := 0) rfl rfl, fun U hU hW => ⟨rfl, by rw [hU]; exact (hP.sub (ws' := [(h, .inr (3, [.ref hB, .ref q1, .ref q2, .ref q3, .ref q4, .ref q5, .ref q6, .ref q7, .ref q8, .ref q9, .ref q10, .ref q11, .ref q12, .ref q13])), (q1, .inl (cI, 40, .inl (upd st k 1))), (q5, .inl (cZ, 40, .inl ca)), (q6, .inl (cZ, 40, .inl cb)), (q7, .inl (cJ, 40, .inr (.inl ga))), (q8, .inl (cJ, 40, .inr (.inl gb))), (hB, .inr (0, [.int bz, .ref b1, .ref b2, .ref b3, .ref b4, .ref b5, .ref b6])), (b2, .inl (cI, 40, .inl ak)), (b3, .inl (cI, 40, .inl bk))]) [0, 1, 5, 6, 7, 8, 9, 10, 11] rfl), hE.warm2 hW⟩⟩ rfl rfl hl.1 rfl (lv_room (Nat.le_of_ble_eq_true rfl)) dX3_setUnderWay_58 ⟨Nat.zero_le _, Nat.zero_le _⟩)) (fun r58 hr58 => ?_)
  subst hr58
  refine x_last hx hb hE hP hD hS 4 rfl (k) hk (by decide) (rfl) (ws' := [(h, .inr (3, [.ref hB, .ref q1, .ref q2, .ref q3, .ref q4, .ref q5, .ref q6, .ref q7, .ref q8, .ref q9, .ref q10, .ref q11, .ref q12, .ref q13])), (q1, .inl (cI, 40, .inl (upd st k 1))), (q2, .inl (cI, 40, .inl (upd sl k (sk k)))), (q3, .inl (cJ, 40, .inr (.inl (vp_updL ra k (stnd (upd st k 1) ca ak cb bk ga gb (ak k) k))))), (q4, .inl (cJ, 40, .inr (.inl (vp_updL rb k (stnd (upd st k 1) ca ak cb bk ga gb (bk k) k))))), (q5, .inl (cZ, 40, .inl ca)), (q6, .inl (cZ, 40, .inl cb)), (q7, .inl (cJ, 40, .inr (.inl ga))), (q8, .inl (cJ, 40, .inr (.inl gb))), (hB, .inr (0, [.int bz, .ref b1, .ref b2, .ref b3, .ref b4, .ref b5, .ref b6])), (b2, .inl (cI, 40, .inl ak)), (b3, .inl (cI, 40, .inl bk)), (b5, .inl (cI, 40, .inl sk))]) (rfl) dX3_setUnderWay_61 (fun H locs hP hD hS => ?_)
  exact W.vret hx hb hr (fun t ht hW => ⟨⟨(), rfl, trivial, by rw [ht]; exact hP, by exact hD⟩, hS.F ht⟩) hS.2.2 dX3_setUnderWay_62
set_option maxHeartbeats 4000000 in
set_option maxRecDepth 100000 in
theorem k_giveA (l : Launch) (D : va_G) (cI cJ cZ : ClassId) (sz : Nat) (h hB q1 q2 q3 q4 q5 q6 q7 q8 q9 q10 q11 q12 q13 : Nat) (ca : Nat → Int32) (ga : Nat → Int64) (k : Nat) (hk : k < 40) (x : Int64) : Met l yX3_giveA wsX3_giveA ({ frames := 0, cells := 0, slots := 0, locals := 0 }) (PcRW [.ref h, .int (nI k), .long x] sz D cI cJ cZ [(h, .inr (3, [.ref hB, .ref q1, .ref q2, .ref q3, .ref q4, .ref q5, .ref q6, .ref q7, .ref q8, .ref q9, .ref q10, .ref q11, .ref q12, .ref q13])), (q5, .inl (cZ, 40, .inl ca)), (q7, .inl (cJ, 40, .inr (.inl ga)))]) (QcV D (va_A [(h, .inr (3, [.ref hB, .ref q1, .ref q2, .ref q3, .ref q4, .ref q5, .ref q6, .ref q7, .ref q8, .ref q9, .ref q10, .ref q11, .ref q12, .ref q13])), (q5, .inl (cZ, 40, .inl ca)), (q7, .inl (cJ, 40, .inr (.inl ga)))] sz) [(h, .inr (3, [.ref hB, .ref q1, .ref q2, .ref q3, .ref q4, .ref q5, .ref q6, .ref q7, .ref q8, .ref q9, .ref q10, .ref q11, .ref q12, .ref q13])), (q5, .inl (cZ, 40, .inl (upd ca k 1))), (q7, .inl (cJ, 40, .inr (.inl (vp_updL ga k x))))]) 0 0 (va_A [(h, .inr (3, [.ref hB, .ref q1, .ref q2, .ref q3, .ref q4, .ref q5, .ref q6, .ref q7, .ref q8, .ref q9, .ref q10, .ref q11, .ref q12, .ref q13])), (q5, .inl (cZ, 40, .inl ca)), (q7, .inl (cJ, 40, .inr (.inl ga)))] sz) := by
  refine Met.ofW (cc := cX3_giveA) (maxL := 4) (ret := none) (by decide) rfl ?_
  intro p e s m args below meth c s₁ B hml hv
  obtain ⟨rfl, hsz, hP, hE, hD0⟩ := hv
  have hx := B.exec
  have hb := B.bytes
  have hr := B.returns
  have hts := atoms_spec (ws := wsX3_giveA) B.pre
  have hown : s.vm.findClass RX3 = some m.cls := findClass_of_methodNamed B.named
  have hlocks := B.notSynchronized
  have hK := hE.1
  subst hsz
  have hD := hD0.self (sz := s.heap.size)
  generalize hAe : va_A [(h, .inr (3, [.ref hB, .ref q1, .ref q2, .ref q3, .ref q4, .ref q5, .ref q6, .ref q7, .ref q8, .ref q9, .ref q10, .ref q11, .ref q12, .ref q13])), (q5, .inl (cZ, 40, .inl ca)), (q7, .inl (cJ, 40, .inr (.inl ga)))] s.heap.size = A at hD ⊢
  have hA : ∀ q : Nat, s.heap.size ≤ q → A q := fun q h => by rw [← hAe]; exact Or.inr h
  have hS : va_S A s.heap s.heap [] := va_S.rf
  have hl := lv_entry ([.ref h, .int (nI k), .long x]) (n := 4) (Nat.le_of_ble_eq_true rfl)
  rw [lg_entry_eq]
  generalize (lg_sl ([.ref h, .int (nI k), .long x]) ++ List.replicate (4 - (lg_sl ([.ref h, .int (nI k), .long x])).length) Slot.unset).toArray = ls at hl ⊢
  have hl : lv_has ls 4 [(0, .ref h), (1, .int (nI k)), (2, .long x)] := hl
  have hinX3 : ∀ w ∈ u_ws RX3 TX3 14, w ∈ wsX3_giveA := fun _ h => List.mem_cons_of_mem _ (List.mem_append_right _ h)
  refine lv_aload_n hx hb dX3_giveA_0 rfl (lv_at hl 0 rfl) ?_
  refine va_get (D := D) (ci := 3) (v := .ref q5) (C := RX3) (T := TX3) (N := 14) hx hb hts hinX3 hown hK hP 0 rfl rfl 5 (by decide) (hts (.fieldLink RX3 25 "LedgerShares$Sheet" "changesA" "[Z") (List.mem_of_getElem? (i := 1) rfl)) (fun _ h9 => h9) rfl dX3_giveA_1 ?_
  refine lv_iload_n hx hb dX3_giveA_4 rfl (lv_at hl 1 rfl) ?_
  refine lv_iconst (v := 1) hx hb dX3_giveA_5 (by decide) ?_
  refine x_zast hx hb hE hP hD hS 1 rfl (k) hk (by decide) (rfl) (by decide) (ws' := [(h, .inr (3, [.ref hB, .ref q1, .ref q2, .ref q3, .ref q4, .ref q5, .ref q6, .ref q7, .ref q8, .ref q9, .ref q10, .ref q11, .ref q12, .ref q13])), (q5, .inl (cZ, 40, .inl (upd ca k 1))), (q7, .inl (cJ, 40, .inr (.inl ga)))]) (rfl) dX3_giveA_6 (fun H locs hP hD hS => ?_)
  refine lv_aload_n hx hb dX3_giveA_7 rfl (lv_at hl 0 rfl) ?_
  refine va_get (D := D) (ci := 3) (v := .ref q7) (C := RX3) (T := TX3) (N := 14) hx hb hts hinX3 hown hK hP 0 rfl rfl 7 (by decide) (hts (.fieldLink RX3 32 "LedgerShares$Sheet" "givesA" "[J") (List.mem_of_getElem? (i := 2) rfl)) (fun _ h9 => h9) rfl dX3_giveA_8 ?_
  refine lv_iload_n hx hb dX3_giveA_11 rfl (lv_at hl 1 rfl) ?_
  refine lv_lload_n hx hb dX3_giveA_12 rfl (lv_at hl 2 rfl) ?_
  refine x_last hx hb hE hP hD hS 2 rfl (k) hk (by decide) (rfl) (ws' := [(h, .inr (3, [.ref hB, .ref q1, .ref q2, .ref q3, .ref q4, .ref q5, .ref q6, .ref q7, .ref q8, .ref q9, .ref q10, .ref q11, .ref q12, .ref q13])), (q5, .inl (cZ, 40, .inl (upd ca k 1))), (q7, .inl (cJ, 40, .inr (.inl (vp_updL ga k x))))]) (rfl) dX3_giveA_13 (fun H locs hP hD hS => ?_)
  exact W.vret hx hb hr (fun t ht hW => ⟨⟨(), rfl, trivial, by rw [ht]; exact hP, by exact hD⟩, hS.F ht⟩) hS.2.2 dX3_giveA_14
set_option maxHeartbeats 4000000 in
set_option maxRecDepth 100000 in
theorem k_giveB (l : Launch) (D : va_G) (cI cJ cZ : ClassId) (sz : Nat) (h hB q1 q2 q3 q4 q5 q6 q7 q8 q9 q10 q11 q12 q13 : Nat) (cb : Nat → Int32) (gb : Nat → Int64) (k : Nat) (hk : k < 40) (x : Int64) : Met l yX3_giveB wsX3_giveB ({ frames := 0, cells := 0, slots := 0, locals := 0 }) (PcRW [.ref h, .int (nI k), .long x] sz D cI cJ cZ [(h, .inr (3, [.ref hB, .ref q1, .ref q2, .ref q3, .ref q4, .ref q5, .ref q6, .ref q7, .ref q8, .ref q9, .ref q10, .ref q11, .ref q12, .ref q13])), (q6, .inl (cZ, 40, .inl cb)), (q8, .inl (cJ, 40, .inr (.inl gb)))]) (QcV D (va_A [(h, .inr (3, [.ref hB, .ref q1, .ref q2, .ref q3, .ref q4, .ref q5, .ref q6, .ref q7, .ref q8, .ref q9, .ref q10, .ref q11, .ref q12, .ref q13])), (q6, .inl (cZ, 40, .inl cb)), (q8, .inl (cJ, 40, .inr (.inl gb)))] sz) [(h, .inr (3, [.ref hB, .ref q1, .ref q2, .ref q3, .ref q4, .ref q5, .ref q6, .ref q7, .ref q8, .ref q9, .ref q10, .ref q11, .ref q12, .ref q13])), (q6, .inl (cZ, 40, .inl (upd cb k 1))), (q8, .inl (cJ, 40, .inr (.inl (vp_updL gb k x))))]) 0 0 (va_A [(h, .inr (3, [.ref hB, .ref q1, .ref q2, .ref q3, .ref q4, .ref q5, .ref q6, .ref q7, .ref q8, .ref q9, .ref q10, .ref q11, .ref q12, .ref q13])), (q6, .inl (cZ, 40, .inl cb)), (q8, .inl (cJ, 40, .inr (.inl gb)))] sz) := by
  refine Met.ofW (cc := cX3_giveB) (maxL := 4) (ret := none) (by decide) rfl ?_
  intro p e s m args below meth c s₁ B hml hv
  obtain ⟨rfl, hsz, hP, hE, hD0⟩ := hv
  have hx := B.exec
  have hb := B.bytes
  have hr := B.returns
  have hts := atoms_spec (ws := wsX3_giveB) B.pre
  have hown : s.vm.findClass RX3 = some m.cls := findClass_of_methodNamed B.named
  have hlocks := B.notSynchronized
  have hK := hE.1
  subst hsz
  have hD := hD0.self (sz := s.heap.size)
  generalize hAe : va_A [(h, .inr (3, [.ref hB, .ref q1, .ref q2, .ref q3, .ref q4, .ref q5, .ref q6, .ref q7, .ref q8, .ref q9, .ref q10, .ref q11, .ref q12, .ref q13])), (q6, .inl (cZ, 40, .inl cb)), (q8, .inl (cJ, 40, .inr (.inl gb)))] s.heap.size = A at hD ⊢
  have hA : ∀ q : Nat, s.heap.size ≤ q → A q := fun q h => by rw [← hAe]; exact Or.inr h
  have hS : va_S A s.heap s.heap [] := va_S.rf
  have hl := lv_entry ([.ref h, .int (nI k), .long x]) (n := 4) (Nat.le_of_ble_eq_true rfl)
  rw [lg_entry_eq]
  generalize (lg_sl ([.ref h, .int (nI k), .long x]) ++ List.replicate (4 - (lg_sl ([.ref h, .int (nI k), .long x])).length) Slot.unset).toArray = ls at hl ⊢
  have hl : lv_has ls 4 [(0, .ref h), (1, .int (nI k)), (2, .long x)] := hl
  have hinX3 : ∀ w ∈ u_ws RX3 TX3 14, w ∈ wsX3_giveB := fun _ h => List.mem_cons_of_mem _ (List.mem_append_right _ h)
  refine lv_aload_n hx hb dX3_giveB_0 rfl (lv_at hl 0 rfl) ?_
  refine va_get (D := D) (ci := 3) (v := .ref q6) (C := RX3) (T := TX3) (N := 14) hx hb hts hinX3 hown hK hP 0 rfl rfl 6 (by decide) (hts (.fieldLink RX3 29 "LedgerShares$Sheet" "changesB" "[Z") (List.mem_of_getElem? (i := 1) rfl)) (fun _ h9 => h9) rfl dX3_giveB_1 ?_
  refine lv_iload_n hx hb dX3_giveB_4 rfl (lv_at hl 1 rfl) ?_
  refine lv_iconst (v := 1) hx hb dX3_giveB_5 (by decide) ?_
  refine x_zast hx hb hE hP hD hS 1 rfl (k) hk (by decide) (rfl) (by decide) (ws' := [(h, .inr (3, [.ref hB, .ref q1, .ref q2, .ref q3, .ref q4, .ref q5, .ref q6, .ref q7, .ref q8, .ref q9, .ref q10, .ref q11, .ref q12, .ref q13])), (q6, .inl (cZ, 40, .inl (upd cb k 1))), (q8, .inl (cJ, 40, .inr (.inl gb)))]) (rfl) dX3_giveB_6 (fun H locs hP hD hS => ?_)
  refine lv_aload_n hx hb dX3_giveB_7 rfl (lv_at hl 0 rfl) ?_
  refine va_get (D := D) (ci := 3) (v := .ref q8) (C := RX3) (T := TX3) (N := 14) hx hb hts hinX3 hown hK hP 0 rfl rfl 8 (by decide) (hts (.fieldLink RX3 35 "LedgerShares$Sheet" "givesB" "[J") (List.mem_of_getElem? (i := 2) rfl)) (fun _ h9 => h9) rfl dX3_giveB_8 ?_
  refine lv_iload_n hx hb dX3_giveB_11 rfl (lv_at hl 1 rfl) ?_
  refine lv_lload_n hx hb dX3_giveB_12 rfl (lv_at hl 2 rfl) ?_
  refine x_last hx hb hE hP hD hS 2 rfl (k) hk (by decide) (rfl) (ws' := [(h, .inr (3, [.ref hB, .ref q1, .ref q2, .ref q3, .ref q4, .ref q5, .ref q6, .ref q7, .ref q8, .ref q9, .ref q10, .ref q11, .ref q12, .ref q13])), (q6, .inl (cZ, 40, .inl (upd cb k 1))), (q8, .inl (cJ, 40, .inr (.inl (vp_updL gb k x))))]) (rfl) dX3_giveB_13 (fun H locs hP hD hS => ?_)
  exact W.vret hx hb hr (fun t ht hW => ⟨⟨(), rfl, trivial, by rw [ht]; exact hP, by exact hD⟩, hS.F ht⟩) hS.2.2 dX3_giveB_14
set_option maxHeartbeats 4000000 in
set_option maxRecDepth 100000 in
theorem k_fail1 (l : Launch) (D : va_G) (cI cJ cZ : ClassId) (sz : Nat) (h hB q1 q2 q3 q4 q5 q6 q7 q8 q9 q10 q11 q12 q13 : Nat) (oc : Nat → Int32) (k : Nat) (hk : k < 40) : Met l yX3_failUnless wsX3_failUnless ({ frames := 0, cells := 0, slots := 0, locals := 0 }) (PcRW [.ref h, .int (nI k), .int 1] sz D cI cJ cZ [(h, .inr (3, [.ref hB, .ref q1, .ref q2, .ref q3, .ref q4, .ref q5, .ref q6, .ref q7, .ref q8, .ref q9, .ref q10, .ref q11, .ref q12, .ref q13])), (q9, .inl (cI, 40, .inl oc))]) (QcV D (va_A [(h, .inr (3, [.ref hB, .ref q1, .ref q2, .ref q3, .ref q4, .ref q5, .ref q6, .ref q7, .ref q8, .ref q9, .ref q10, .ref q11, .ref q12, .ref q13])), (q9, .inl (cI, 40, .inl oc))] sz) [(h, .inr (3, [.ref hB, .ref q1, .ref q2, .ref q3, .ref q4, .ref q5, .ref q6, .ref q7, .ref q8, .ref q9, .ref q10, .ref q11, .ref q12, .ref q13])), (q9, .inl (cI, 40, .inl oc))]) 0 0 (va_A [(h, .inr (3, [.ref hB, .ref q1, .ref q2, .ref q3, .ref q4, .ref q5, .ref q6, .ref q7, .ref q8, .ref q9, .ref q10, .ref q11, .ref q12, .ref q13])), (q9, .inl (cI, 40, .inl oc))] sz) := by
  refine Met.ofW (cc := cX3_failUnless) (maxL := 3) (ret := none) (by decide) rfl ?_
  intro p e s m args below meth c s₁ B hml hv
  obtain ⟨rfl, hsz, hP, hE, hD0⟩ := hv
  have hx := B.exec
  have hb := B.bytes
  have hr := B.returns
  have hts := atoms_spec (ws := wsX3_failUnless) B.pre
  have hown : s.vm.findClass RX3 = some m.cls := findClass_of_methodNamed B.named
  have hlocks := B.notSynchronized
  have hK := hE.1
  subst hsz
  have hD := hD0.self (sz := s.heap.size)
  generalize hAe : va_A [(h, .inr (3, [.ref hB, .ref q1, .ref q2, .ref q3, .ref q4, .ref q5, .ref q6, .ref q7, .ref q8, .ref q9, .ref q10, .ref q11, .ref q12, .ref q13])), (q9, .inl (cI, 40, .inl oc))] s.heap.size = A at hD ⊢
  have hA : ∀ q : Nat, s.heap.size ≤ q → A q := fun q h => by rw [← hAe]; exact Or.inr h
  have hS : va_S A s.heap s.heap [] := va_S.rf
  have hl := lv_entry ([.ref h, .int (nI k), .int 1]) (n := 3) (Nat.le_of_ble_eq_true rfl)
  rw [lg_entry_eq]
  generalize (lg_sl ([.ref h, .int (nI k), .int 1]) ++ List.replicate (3 - (lg_sl ([.ref h, .int (nI k), .int 1])).length) Slot.unset).toArray = ls at hl ⊢
  have hl : lv_has ls 3 [(0, .ref h), (1, .int (nI k)), (2, .int 1)] := hl
  have hinX3 : ∀ w ∈ u_ws RX3 TX3 14, w ∈ wsX3_failUnless := fun _ h => List.mem_cons_of_mem _ (List.mem_append_right _ h)
  refine lv_iload_n hx hb dX3_failUnless_0 rfl (lv_at hl 2 rfl) ?_
  refine lv_if_ne (tgt := 11) hx hb dX3_failUnless_1 (by decide) (fun c1 => ?_) (fun c1 => absurd c1 (by decide))
  exact W.vret hx hb hr (fun t ht hW => ⟨⟨(), rfl, trivial, by rw [ht]; exact hP, by exact hD⟩, hS.F ht⟩) hS.2.2 dX3_failUnless_11
set_option maxHeartbeats 4000000 in
set_option maxRecDepth 100000 in
theorem k_fail0 (l : Launch) (D : va_G) (cI cJ cZ : ClassId) (sz : Nat) (h hB q1 q2 q3 q4 q5 q6 q7 q8 q9 q10 q11 q12 q13 : Nat) (oc : Nat → Int32) (k : Nat) (hk : k < 40) : Met l yX3_failUnless wsX3_failUnless ({ frames := 0, cells := 0, slots := 0, locals := 0 }) (PcRW [.ref h, .int (nI k), .int 0] sz D cI cJ cZ [(h, .inr (3, [.ref hB, .ref q1, .ref q2, .ref q3, .ref q4, .ref q5, .ref q6, .ref q7, .ref q8, .ref q9, .ref q10, .ref q11, .ref q12, .ref q13])), (q9, .inl (cI, 40, .inl oc))]) (QcV D (va_A [(h, .inr (3, [.ref hB, .ref q1, .ref q2, .ref q3, .ref q4, .ref q5, .ref q6, .ref q7, .ref q8, .ref q9, .ref q10, .ref q11, .ref q12, .ref q13])), (q9, .inl (cI, 40, .inl oc))] sz) [(h, .inr (3, [.ref hB, .ref q1, .ref q2, .ref q3, .ref q4, .ref q5, .ref q6, .ref q7, .ref q8, .ref q9, .ref q10, .ref q11, .ref q12, .ref q13])), (q9, .inl (cI, 40, .inl (upd oc k 2)))]) 0 0 (va_A [(h, .inr (3, [.ref hB, .ref q1, .ref q2, .ref q3, .ref q4, .ref q5, .ref q6, .ref q7, .ref q8, .ref q9, .ref q10, .ref q11, .ref q12, .ref q13])), (q9, .inl (cI, 40, .inl oc))] sz) := by
  refine Met.ofW (cc := cX3_failUnless) (maxL := 3) (ret := none) (by decide) rfl ?_
  intro p e s m args below meth c s₁ B hml hv
  obtain ⟨rfl, hsz, hP, hE, hD0⟩ := hv
  have hx := B.exec
  have hb := B.bytes
  have hr := B.returns
  have hts := atoms_spec (ws := wsX3_failUnless) B.pre
  have hown : s.vm.findClass RX3 = some m.cls := findClass_of_methodNamed B.named
  have hlocks := B.notSynchronized
  have hK := hE.1
  subst hsz
  have hD := hD0.self (sz := s.heap.size)
  generalize hAe : va_A [(h, .inr (3, [.ref hB, .ref q1, .ref q2, .ref q3, .ref q4, .ref q5, .ref q6, .ref q7, .ref q8, .ref q9, .ref q10, .ref q11, .ref q12, .ref q13])), (q9, .inl (cI, 40, .inl oc))] s.heap.size = A at hD ⊢
  have hA : ∀ q : Nat, s.heap.size ≤ q → A q := fun q h => by rw [← hAe]; exact Or.inr h
  have hS : va_S A s.heap s.heap [] := va_S.rf
  have hl := lv_entry ([.ref h, .int (nI k), .int 0]) (n := 3) (Nat.le_of_ble_eq_true rfl)
  rw [lg_entry_eq]
  generalize (lg_sl ([.ref h, .int (nI k), .int 0]) ++ List.replicate (3 - (lg_sl ([.ref h, .int (nI k), .int 0])).length) Slot.unset).toArray = ls at hl ⊢
  have hl : lv_has ls 3 [(0, .ref h), (1, .int (nI k)), (2, .int 0)] := hl
  have hinX3 : ∀ w ∈ u_ws RX3 TX3 14, w ∈ wsX3_failUnless := fun _ h => List.mem_cons_of_mem _ (List.mem_append_right _ h)
  refine lv_iload_n hx hb dX3_failUnless_0 rfl (lv_at hl 2 rfl) ?_
  refine lv_if_ne (tgt := 11) hx hb dX3_failUnless_1 (by decide) (fun c1 => absurd (by decide) c1) (fun c1 => ?_)
  refine lv_aload_n hx hb dX3_failUnless_4 rfl (lv_at hl 0 rfl) ?_
  refine va_get (D := D) (ci := 3) (v := .ref q9) (C := RX3) (T := TX3) (N := 14) hx hb hts hinX3 hown hK hP 0 rfl rfl 9 (by decide) (hts (.fieldLink RX3 38 "LedgerShares$Sheet" "outcomes" "[I") (List.mem_of_getElem? (i := 1) rfl)) (fun _ h9 => h9) rfl dX3_failUnless_5 ?_
  refine lv_iload_n hx hb dX3_failUnless_8 rfl (lv_at hl 1 rfl) ?_
  refine lv_iconst (v := 2) hx hb dX3_failUnless_9 (by decide) ?_
  refine x_iast hx hb hE hP hD hS 1 rfl (k) hk (by decide) (rfl) (ws' := [(h, .inr (3, [.ref hB, .ref q1, .ref q2, .ref q3, .ref q4, .ref q5, .ref q6, .ref q7, .ref q8, .ref q9, .ref q10, .ref q11, .ref q12, .ref q13])), (q9, .inl (cI, 40, .inl (upd oc k 2)))]) (rfl) dX3_failUnless_10 (fun H locs hP hD hS => ?_)
  exact W.vret hx hb hr (fun t ht hW => ⟨⟨(), rfl, trivial, by rw [ht]; exact hP, by exact hD⟩, hS.F ht⟩) hS.2.2 dX3_failUnless_11
set_option maxHeartbeats 4000000 in
set_option maxRecDepth 100000 in
theorem k_meet1 (l : Launch) (D : va_G) (cI cJ cZ : ClassId) (sz : Nat) (h hB q1 q2 q3 q4 q5 q6 q7 q8 q9 q10 q11 q12 q13 : Nat) (oc cb : Nat → Int32) (gb : Nat → Int64) (k : Nat) (hk : k < 40) (y : Int64) : Met l yX3_meet wsX3_meet ({ frames := 1, cells := 0, slots := 0, locals := 23 }) (PcRW [.ref h, .int (nI k), .int 1, .long y] sz D cI cJ cZ [(h, .inr (3, [.ref hB, .ref q1, .ref q2, .ref q3, .ref q4, .ref q5, .ref q6, .ref q7, .ref q8, .ref q9, .ref q10, .ref q11, .ref q12, .ref q13])), (q9, .inl (cI, 40, .inl oc)), (q6, .inl (cZ, 40, .inl cb)), (q8, .inl (cJ, 40, .inr (.inl gb)))]) (QcV D (va_A [(h, .inr (3, [.ref hB, .ref q1, .ref q2, .ref q3, .ref q4, .ref q5, .ref q6, .ref q7, .ref q8, .ref q9, .ref q10, .ref q11, .ref q12, .ref q13])), (q9, .inl (cI, 40, .inl oc)), (q6, .inl (cZ, 40, .inl cb)), (q8, .inl (cJ, 40, .inr (.inl gb)))] sz) [(h, .inr (3, [.ref hB, .ref q1, .ref q2, .ref q3, .ref q4, .ref q5, .ref q6, .ref q7, .ref q8, .ref q9, .ref q10, .ref q11, .ref q12, .ref q13])), (q9, .inl (cI, 40, .inl oc)), (q6, .inl (cZ, 40, .inl (upd cb k 1))), (q8, .inl (cJ, 40, .inr (.inl (vp_updL gb k y))))]) 0 0 (va_A [(h, .inr (3, [.ref hB, .ref q1, .ref q2, .ref q3, .ref q4, .ref q5, .ref q6, .ref q7, .ref q8, .ref q9, .ref q10, .ref q11, .ref q12, .ref q13])), (q9, .inl (cI, 40, .inl oc)), (q6, .inl (cZ, 40, .inl cb)), (q8, .inl (cJ, 40, .inr (.inl gb)))] sz) := by
  refine Met.ofW (cc := cX3_meet) (maxL := 5) (ret := none) (by decide) rfl ?_
  intro p e s m args below meth c s₁ B hml hv
  obtain ⟨rfl, hsz, hP, hE, hD0⟩ := hv
  have hx := B.exec
  have hb := B.bytes
  have hr := B.returns
  have hts := atoms_spec (ws := wsX3_meet) B.pre
  have hown : s.vm.findClass RX3 = some m.cls := findClass_of_methodNamed B.named
  have hlocks := B.notSynchronized
  have hK := hE.1
  subst hsz
  have hD := hD0.self (sz := s.heap.size)
  generalize hAe : va_A [(h, .inr (3, [.ref hB, .ref q1, .ref q2, .ref q3, .ref q4, .ref q5, .ref q6, .ref q7, .ref q8, .ref q9, .ref q10, .ref q11, .ref q12, .ref q13])), (q9, .inl (cI, 40, .inl oc)), (q6, .inl (cZ, 40, .inl cb)), (q8, .inl (cJ, 40, .inr (.inl gb)))] s.heap.size = A at hD ⊢
  have hA : ∀ q : Nat, s.heap.size ≤ q → A q := fun q h => by rw [← hAe]; exact Or.inr h
  have hS : va_S A s.heap s.heap [] := va_S.rf
  have hl := lv_entry ([.ref h, .int (nI k), .int 1, .long y]) (n := 5) (Nat.le_of_ble_eq_true rfl)
  rw [lg_entry_eq]
  generalize (lg_sl ([.ref h, .int (nI k), .int 1, .long y]) ++ List.replicate (5 - (lg_sl ([.ref h, .int (nI k), .int 1, .long y])).length) Slot.unset).toArray = ls at hl ⊢
  have hl : lv_has ls 5 [(0, .ref h), (1, .int (nI k)), (2, .int 1), (3, .long y)] := hl
  refine lv_aload_n hx hb dX3_meet_0 rfl (lv_at hl 0 rfl) ?_
  refine lv_iload_n hx hb dX3_meet_1 rfl (lv_at hl 1 rfl) ?_
  refine lv_iload_n hx hb dX3_meet_2 rfl (lv_at hl 2 rfl) ?_
  refine x_callv (wc := [(h, .inr (3, [.ref hB, .ref q1, .ref q2, .ref q3, .ref q4, .ref q5, .ref q6, .ref q7, .ref q8, .ref q9, .ref q10, .ref q11, .ref q12, .ref q13])), (q9, .inl (cI, 40, .inl oc))]) (wc' := [(h, .inr (3, [.ref hB, .ref q1, .ref q2, .ref q3, .ref q4, .ref q5, .ref q6, .ref q7, .ref q8, .ref q9, .ref q10, .ref q11, .ref q12, .ref q13])), (q9, .inl (cI, 40, .inl oc))]) (wr := [(q6, .inl (cZ, 40, .inl cb)), (q8, .inl (cJ, 40, .inr (.inl gb)))]) (ws' := [(h, .inr (3, [.ref hB, .ref q1, .ref q2, .ref q3, .ref q4, .ref q5, .ref q6, .ref q7, .ref q8, .ref q9, .ref q10, .ref q11, .ref q12, .ref q13])), (q9, .inl (cI, 40, .inl oc)), (q6, .inl (cZ, 40, .inl cb)), (q8, .inl (cJ, 40, .inr (.inl gb)))]) hP hD hS hA [0, 1] [2, 3] rfl rfl (by decide) (by decide) [2, 3, 0, 1] (by decide) rfl (va_runV (As := [.int (nI k), .int 1]) (rest := []) ⟨hx, hb, hml, hown, hts⟩ (k_fail1 l D cI cJ cZ s.heap.size h hB q1 q2 q3 q4 q5 q6 q7 q8 q9 q10 q11 q12 q13 oc k hk) (cwV 2 hts gX3_meet_X3_failUnless rfl rfl rfl (by decide +kernel) ⟨Nat.le_of_ble_eq_true rfl, Nat.le_of_ble_eq_true rfl⟩) ⟨bl_rw, va_recv hK (hP.sub (ws' := [(h, .inr (3, [.ref hB, .ref q1, .ref q2, .ref q3, .ref q4, .ref q5, .ref q6, .ref q7, .ref q8, .ref q9, .ref q10, .ref q11, .ref q12, .ref q13])), (q9, .inl (cI, 40, .inl oc))]) [0, 1] rfl) (ci := 3) (q0 := 0) rfl rfl, fun U hU hW => ⟨rfl, by rw [hU], by rw [hU]; exact (hP.sub (ws' := [(h, .inr (3, [.ref hB, .ref q1, .ref q2, .ref q3, .ref q4, .ref q5, .ref q6, .ref q7, .ref q8, .ref q9, .ref q10, .ref q11, .ref q12, .ref q13])), (q9, .inl (cI, 40, .inl oc))]) [0, 1] rfl), hE.warm2 hW, (hD.sub (ws' := [(h, .inr (3, [.ref hB, .ref q1, .ref q2, .ref q3, .ref q4, .ref q5, .ref q6, .ref q7, .ref q8, .ref q9, .ref q10, .ref q11, .ref q12, .ref q13])), (q9, .inl (cI, 40, .inl oc))]) [0, 1] (by decide) rfl).weaken (fun _ _ _ _ => trivial)⟩⟩ rfl rfl hl.1 rfl (lv_room (Nat.le_of_ble_eq_true rfl)) dX3_meet_3 ⟨Nat.zero_le _, Nat.zero_le _⟩) (fun H locs hP hD hS => ?_)
  refine lv_iload_n hx hb dX3_meet_6 rfl (lv_at hl 2 rfl) ?_
  refine lv_if_eq (tgt := 16) hx hb dX3_meet_7 (by decide) (fun c7 => absurd c7 (by decide)) (fun c7 => ?_)
  refine lv_aload_n hx hb dX3_meet_10 rfl (lv_at hl 0 rfl) ?_
  refine lv_iload_n hx hb dX3_meet_11 rfl (lv_at hl 1 rfl) ?_
  refine lv_lload_n hx hb dX3_meet_12 rfl (lv_at hl 3 rfl) ?_
  refine x_callv (wc := [(h, .inr (3, [.ref hB, .ref q1, .ref q2, .ref q3, .ref q4, .ref q5, .ref q6, .ref q7, .ref q8, .ref q9, .ref q10, .ref q11, .ref q12, .ref q13])), (q6, .inl (cZ, 40, .inl cb)), (q8, .inl (cJ, 40, .inr (.inl gb)))]) (wc' := [(h, .inr (3, [.ref hB, .ref q1, .ref q2, .ref q3, .ref q4, .ref q5, .ref q6, .ref q7, .ref q8, .ref q9, .ref q10, .ref q11, .ref q12, .ref q13])), (q6, .inl (cZ, 40, .inl (upd cb k 1))), (q8, .inl (cJ, 40, .inr (.inl (vp_updL gb k y))))]) (wr := [(q9, .inl (cI, 40, .inl oc))]) (ws' := [(h, .inr (3, [.ref hB, .ref q1, .ref q2, .ref q3, .ref q4, .ref q5, .ref q6, .ref q7, .ref q8, .ref q9, .ref q10, .ref q11, .ref q12, .ref q13])), (q9, .inl (cI, 40, .inl oc)), (q6, .inl (cZ, 40, .inl (upd cb k 1))), (q8, .inl (cJ, 40, .inr (.inl (vp_updL gb k y))))]) hP hD hS hA [0, 2, 3] [1] rfl rfl (by decide) (by decide) [1, 0, 2, 3] (by decide) rfl (va_runV (As := [.int (nI k), .long y]) (rest := []) ⟨hx, hb, hml, hown, hts⟩ (k_giveB l D cI cJ cZ H.size h hB q1 q2 q3 q4 q5 q6 q7 q8 q9 q10 q11 q12 q13 cb gb k hk (y)) (cwV 2 hts gX3_meet_X3_giveB rfl rfl rfl (by decide +kernel) ⟨Nat.le_of_ble_eq_true rfl, Nat.le_of_ble_eq_true rfl⟩) ⟨bl_rw, va_recv hK (hP.sub (ws' := [(h, .inr (3, [.ref hB, .ref q1, .ref q2, .ref q3, .ref q4, .ref q5, .ref q6, .ref q7, .ref q8, .ref q9, .ref q10, .ref q11, .ref q12, .ref q13])), (q6, .inl (cZ, 40, .inl cb)), (q8, .inl (cJ, 40, .inr (.inl gb)))]) [0, 2, 3] rfl) (ci := 3) (q0 := 0) rfl rfl, fun U hU hW => ⟨rfl, by rw [hU], by rw [hU]; exact (hP.sub (ws' := [(h, .inr (3, [.ref hB, .ref q1, .ref q2, .ref q3, .ref q4, .ref q5, .ref q6, .ref q7, .ref q8, .ref q9, .ref q10, .ref q11, .ref q12, .ref q13])), (q6, .inl (cZ, 40, .inl cb)), (q8, .inl (cJ, 40, .inr (.inl gb)))]) [0, 2, 3] rfl), hE.warm2 hW, (hD.sub (ws' := [(h, .inr (3, [.ref hB, .ref q1, .ref q2, .ref q3, .ref q4, .ref q5, .ref q6, .ref q7, .ref q8, .ref q9, .ref q10, .ref q11, .ref q12, .ref q13])), (q6, .inl (cZ, 40, .inl cb)), (q8, .inl (cJ, 40, .inr (.inl gb)))]) [0, 2, 3] (by decide) rfl).weaken (fun _ _ _ _ => trivial)⟩⟩ rfl rfl hl.1 rfl (lv_room (Nat.le_of_ble_eq_true rfl)) dX3_meet_13 ⟨Nat.zero_le _, Nat.zero_le _⟩) (fun H locs hP hD hS => ?_)
  exact W.vret hx hb hr (fun t ht hW => ⟨⟨(), rfl, trivial, by rw [ht]; exact hP, by exact hD⟩, hS.F ht⟩) hS.2.2 dX3_meet_16
set_option maxHeartbeats 4000000 in
set_option maxRecDepth 100000 in
theorem k_meet0 (l : Launch) (D : va_G) (cI cJ cZ : ClassId) (sz : Nat) (h hB q1 q2 q3 q4 q5 q6 q7 q8 q9 q10 q11 q12 q13 : Nat) (oc cb : Nat → Int32) (gb : Nat → Int64) (k : Nat) (hk : k < 40) (y : Int64) : Met l yX3_meet wsX3_meet ({ frames := 1, cells := 0, slots := 0, locals := 23 }) (PcRW [.ref h, .int (nI k), .int 0, .long y] sz D cI cJ cZ [(h, .inr (3, [.ref hB, .ref q1, .ref q2, .ref q3, .ref q4, .ref q5, .ref q6, .ref q7, .ref q8, .ref q9, .ref q10, .ref q11, .ref q12, .ref q13])), (q9, .inl (cI, 40, .inl oc)), (q6, .inl (cZ, 40, .inl cb)), (q8, .inl (cJ, 40, .inr (.inl gb)))]) (QcV D (va_A [(h, .inr (3, [.ref hB, .ref q1, .ref q2, .ref q3, .ref q4, .ref q5, .ref q6, .ref q7, .ref q8, .ref q9, .ref q10, .ref q11, .ref q12, .ref q13])), (q9, .inl (cI, 40, .inl oc)), (q6, .inl (cZ, 40, .inl cb)), (q8, .inl (cJ, 40, .inr (.inl gb)))] sz) [(h, .inr (3, [.ref hB, .ref q1, .ref q2, .ref q3, .ref q4, .ref q5, .ref q6, .ref q7, .ref q8, .ref q9, .ref q10, .ref q11, .ref q12, .ref q13])), (q9, .inl (cI, 40, .inl (upd oc k 2))), (q6, .inl (cZ, 40, .inl cb)), (q8, .inl (cJ, 40, .inr (.inl gb)))]) 0 0 (va_A [(h, .inr (3, [.ref hB, .ref q1, .ref q2, .ref q3, .ref q4, .ref q5, .ref q6, .ref q7, .ref q8, .ref q9, .ref q10, .ref q11, .ref q12, .ref q13])), (q9, .inl (cI, 40, .inl oc)), (q6, .inl (cZ, 40, .inl cb)), (q8, .inl (cJ, 40, .inr (.inl gb)))] sz) := by
  refine Met.ofW (cc := cX3_meet) (maxL := 5) (ret := none) (by decide) rfl ?_
  intro p e s m args below meth c s₁ B hml hv
  obtain ⟨rfl, hsz, hP, hE, hD0⟩ := hv
  have hx := B.exec
  have hb := B.bytes
  have hr := B.returns
  have hts := atoms_spec (ws := wsX3_meet) B.pre
  have hown : s.vm.findClass RX3 = some m.cls := findClass_of_methodNamed B.named
  have hlocks := B.notSynchronized
  have hK := hE.1
  subst hsz
  have hD := hD0.self (sz := s.heap.size)
  generalize hAe : va_A [(h, .inr (3, [.ref hB, .ref q1, .ref q2, .ref q3, .ref q4, .ref q5, .ref q6, .ref q7, .ref q8, .ref q9, .ref q10, .ref q11, .ref q12, .ref q13])), (q9, .inl (cI, 40, .inl oc)), (q6, .inl (cZ, 40, .inl cb)), (q8, .inl (cJ, 40, .inr (.inl gb)))] s.heap.size = A at hD ⊢
  have hA : ∀ q : Nat, s.heap.size ≤ q → A q := fun q h => by rw [← hAe]; exact Or.inr h
  have hS : va_S A s.heap s.heap [] := va_S.rf
  have hl := lv_entry ([.ref h, .int (nI k), .int 0, .long y]) (n := 5) (Nat.le_of_ble_eq_true rfl)
  rw [lg_entry_eq]
  generalize (lg_sl ([.ref h, .int (nI k), .int 0, .long y]) ++ List.replicate (5 - (lg_sl ([.ref h, .int (nI k), .int 0, .long y])).length) Slot.unset).toArray = ls at hl ⊢
  have hl : lv_has ls 5 [(0, .ref h), (1, .int (nI k)), (2, .int 0), (3, .long y)] := hl
  refine lv_aload_n hx hb dX3_meet_0 rfl (lv_at hl 0 rfl) ?_
  refine lv_iload_n hx hb dX3_meet_1 rfl (lv_at hl 1 rfl) ?_
  refine lv_iload_n hx hb dX3_meet_2 rfl (lv_at hl 2 rfl) ?_
  refine x_callv (wc := [(h, .inr (3, [.ref hB, .ref q1, .ref q2, .ref q3, .ref q4, .ref q5, .ref q6, .ref q7, .ref q8, .ref q9, .ref q10, .ref q11, .ref q12, .ref q13])), (q9, .inl (cI, 40, .inl oc))]) (wc' := [(h, .inr (3, [.ref hB, .ref q1, .ref q2, .ref q3, .ref q4, .ref q5, .ref q6, .ref q7, .ref q8, .ref q9, .ref q10, .ref q11, .ref q12, .ref q13])), (q9, .inl (cI, 40, .inl (upd oc k 2)))]) (wr := [(q6, .inl (cZ, 40, .inl cb)), (q8, .inl (cJ, 40, .inr (.inl gb)))]) (ws' := [(h, .inr (3, [.ref hB, .ref q1, .ref q2, .ref q3, .ref q4, .ref q5, .ref q6, .ref q7, .ref q8, .ref q9, .ref q10, .ref q11, .ref q12, .ref q13])), (q9, .inl (cI, 40, .inl (upd oc k 2))), (q6, .inl (cZ, 40, .inl cb)), (q8, .inl (cJ, 40, .inr (.inl gb)))]) hP hD hS hA [0, 1] [2, 3] rfl rfl (by decide) (by decide) [2, 3, 0, 1] (by decide) rfl (va_runV (As := [.int (nI k), .int 0]) (rest := []) ⟨hx, hb, hml, hown, hts⟩ (k_fail0 l D cI cJ cZ s.heap.size h hB q1 q2 q3 q4 q5 q6 q7 q8 q9 q10 q11 q12 q13 oc k hk) (cwV 2 hts gX3_meet_X3_failUnless rfl rfl rfl (by decide +kernel) ⟨Nat.le_of_ble_eq_true rfl, Nat.le_of_ble_eq_true rfl⟩) ⟨bl_rw, va_recv hK (hP.sub (ws' := [(h, .inr (3, [.ref hB, .ref q1, .ref q2, .ref q3, .ref q4, .ref q5, .ref q6, .ref q7, .ref q8, .ref q9, .ref q10, .ref q11, .ref q12, .ref q13])), (q9, .inl (cI, 40, .inl oc))]) [0, 1] rfl) (ci := 3) (q0 := 0) rfl rfl, fun U hU hW => ⟨rfl, by rw [hU], by rw [hU]; exact (hP.sub (ws' := [(h, .inr (3, [.ref hB, .ref q1, .ref q2, .ref q3, .ref q4, .ref q5, .ref q6, .ref q7, .ref q8, .ref q9, .ref q10, .ref q11, .ref q12, .ref q13])), (q9, .inl (cI, 40, .inl oc))]) [0, 1] rfl), hE.warm2 hW, (hD.sub (ws' := [(h, .inr (3, [.ref hB, .ref q1, .ref q2, .ref q3, .ref q4, .ref q5, .ref q6, .ref q7, .ref q8, .ref q9, .ref q10, .ref q11, .ref q12, .ref q13])), (q9, .inl (cI, 40, .inl oc))]) [0, 1] (by decide) rfl).weaken (fun _ _ _ _ => trivial)⟩⟩ rfl rfl hl.1 rfl (lv_room (Nat.le_of_ble_eq_true rfl)) dX3_meet_3 ⟨Nat.zero_le _, Nat.zero_le _⟩) (fun H locs hP hD hS => ?_)
  refine lv_iload_n hx hb dX3_meet_6 rfl (lv_at hl 2 rfl) ?_
  refine lv_if_eq (tgt := 16) hx hb dX3_meet_7 (by decide) (fun c7 => ?_) (fun c7 => absurd c7 (by decide))
  exact W.vret hx hb hr (fun t ht hW => ⟨⟨(), rfl, trivial, by rw [ht]; exact hP, by exact hD⟩, hS.F ht⟩) hS.2.2 dX3_meet_16
set_option maxHeartbeats 4000000 in
set_option maxRecDepth 100000 in
theorem k_pay (l : Launch) (D : va_G) (cI cJ cZ : ClassId) (sz : Nat) (h hB q1 q2 q3 q4 q5 q6 q7 q8 q9 q10 q11 q12 q13 : Nat) (oc ca cb : Nat → Int32) (ga gb : Nat → Int64) (b1 b2 b3 b4 b5 b6 : Nat) (bz : Int32) (ak bk : Nat → Int32) (k : Nat) (hk : k < 40) (x y z : Int64) (ho : oc k = 1) : Met l yX3_pay wsX3_pay ({ frames := 1, cells := 0, slots := 0, locals := 23 }) (PcRW [.ref h, .int (nI k), .long x, .long y, .long z] sz D cI cJ cZ [(h, .inr (3, [.ref hB, .ref q1, .ref q2, .ref q3, .ref q4, .ref q5, .ref q6, .ref q7, .ref q8, .ref q9, .ref q10, .ref q11, .ref q12, .ref q13])), (q9, .inl (cI, 40, .inl oc)), (q5, .inl (cZ, 40, .inl ca)), (q6, .inl (cZ, 40, .inl cb)), (q7, .inl (cJ, 40, .inr (.inl ga))), (q8, .inl (cJ, 40, .inr (.inl gb))), (hB, .inr (0, [.int bz, .ref b1, .ref b2, .ref b3, .ref b4, .ref b5, .ref b6])), (b2, .inl (cI, 40, .inl ak)), (b3, .inl (cI, 40, .inl bk))]) (QcV D (va_A [(h, .inr (3, [.ref hB, .ref q1, .ref q2, .ref q3, .ref q4, .ref q5, .ref q6, .ref q7, .ref q8, .ref q9, .ref q10, .ref q11, .ref q12, .ref q13])), (q9, .inl (cI, 40, .inl oc)), (q5, .inl (cZ, 40, .inl ca)), (q6, .inl (cZ, 40, .inl cb)), (q7, .inl (cJ, 40, .inr (.inl ga))), (q8, .inl (cJ, 40, .inr (.inl gb))), (hB, .inr (0, [.int bz, .ref b1, .ref b2, .ref b3, .ref b4, .ref b5, .ref b6])), (b2, .inl (cI, 40, .inl ak)), (b3, .inl (cI, 40, .inl bk))] sz) [(h, .inr (3, [.ref hB, .ref q1, .ref q2, .ref q3, .ref q4, .ref q5, .ref q6, .ref q7, .ref q8, .ref q9, .ref q10, .ref q11, .ref q12, .ref q13])), (q9, .inl (cI, 40, .inl (if x < z ∨ z < 0 then upd oc k 2 else oc))), (q5, .inl (cZ, 40, .inl (if (x < z ∨ z < 0) ∨ ak k = bk k then ca else upd ca k 1))), (q6, .inl (cZ, 40, .inl (if (x < z ∨ z < 0) ∨ ak k = bk k then cb else upd cb k 1))), (q7, .inl (cJ, 40, .inr (.inl (if (x < z ∨ z < 0) ∨ ak k = bk k then ga else vp_updL ga k (x - z))))), (q8, .inl (cJ, 40, .inr (.inl (if (x < z ∨ z < 0) ∨ ak k = bk k then gb else vp_updL gb k (y + z))))), (hB, .inr (0, [.int bz, .ref b1, .ref b2, .ref b3, .ref b4, .ref b5, .ref b6])), (b2, .inl (cI, 40, .inl ak)), (b3, .inl (cI, 40, .inl bk))]) 0 0 (va_A [(h, .inr (3, [.ref hB, .ref q1, .ref q2, .ref q3, .ref q4, .ref q5, .ref q6, .ref q7, .ref q8, .ref q9, .ref q10, .ref q11, .ref q12, .ref q13])), (q9, .inl (cI, 40, .inl oc)), (q5, .inl (cZ, 40, .inl ca)), (q6, .inl (cZ, 40, .inl cb)), (q7, .inl (cJ, 40, .inr (.inl ga))), (q8, .inl (cJ, 40, .inr (.inl gb))), (hB, .inr (0, [.int bz, .ref b1, .ref b2, .ref b3, .ref b4, .ref b5, .ref b6])), (b2, .inl (cI, 40, .inl ak)), (b3, .inl (cI, 40, .inl bk))] sz) := by
  refine Met.ofW (cc := cX3_pay) (maxL := 8) (ret := none) (by decide) rfl ?_
  intro p e s m args below meth c s₁ B hml hv
  obtain ⟨rfl, hsz, hP, hE, hD0⟩ := hv
  have hx := B.exec
  have hb := B.bytes
  have hr := B.returns
  have hts := atoms_spec (ws := wsX3_pay) B.pre
  have hown : s.vm.findClass RX3 = some m.cls := findClass_of_methodNamed B.named
  have hlocks := B.notSynchronized
  have hK := hE.1
  subst hsz
  have hD := hD0.self (sz := s.heap.size)
  generalize hAe : va_A [(h, .inr (3, [.ref hB, .ref q1, .ref q2, .ref q3, .ref q4, .ref q5, .ref q6, .ref q7, .ref q8, .ref q9, .ref q10, .ref q11, .ref q12, .ref q13])), (q9, .inl (cI, 40, .inl oc)), (q5, .inl (cZ, 40, .inl ca)), (q6, .inl (cZ, 40, .inl cb)), (q7, .inl (cJ, 40, .inr (.inl ga))), (q8, .inl (cJ, 40, .inr (.inl gb))), (hB, .inr (0, [.int bz, .ref b1, .ref b2, .ref b3, .ref b4, .ref b5, .ref b6])), (b2, .inl (cI, 40, .inl ak)), (b3, .inl (cI, 40, .inl bk))] s.heap.size = A at hD ⊢
  have hA : ∀ q : Nat, s.heap.size ≤ q → A q := fun q h => by rw [← hAe]; exact Or.inr h
  have hS : va_S A s.heap s.heap [] := va_S.rf
  have hl := lv_entry ([.ref h, .int (nI k), .long x, .long y, .long z]) (n := 8) (Nat.le_of_ble_eq_true rfl)
  rw [lg_entry_eq]
  generalize (lg_sl ([.ref h, .int (nI k), .long x, .long y, .long z]) ++ List.replicate (8 - (lg_sl ([.ref h, .int (nI k), .long x, .long y, .long z])).length) Slot.unset).toArray = ls at hl ⊢
  have hl : lv_has ls 8 [(0, .ref h), (1, .int (nI k)), (2, .long x), (4, .long y), (6, .long z)] := hl
  have hinX0 : ∀ w ∈ u_ws RX0 TX0 7, w ∈ wsX3_pay := fun _ h => List.mem_cons_of_mem _ (List.mem_append_right _ h)
  have hinX3 : ∀ w ∈ u_ws RX3 TX3 14, w ∈ wsX3_pay := fun _ h => List.mem_cons_of_mem _ (List.mem_append_left _ (List.mem_append_right _ h))
  refine lv_aload_n hx hb dX3_pay_0 rfl (lv_at hl 0 rfl) ?_
  refine lv_iload_n hx hb dX3_pay_1 rfl (lv_at hl 1 rfl) ?_
  refine lv_lload_n hx hb dX3_pay_2 rfl (lv_at hl 2 rfl) ?_
  refine lv_lload hx hb dX3_pay_3 (lv_at hl 4 rfl) ?_
  refine W.lcmp hx hb dX3_pay_5 ?_
  refine lv_if_lt (tgt := 20) hx hb dX3_pay_6 (by decide) (fun c6 => ?_) (fun c6 => ?_)
  · have c6 := (lg_cmp_lt _ _).mp c6
    refine lv_iconst (v := 0) hx hb dX3_pay_20 (by decide) ?_
    refine x_callv (wc := [(h, .inr (3, [.ref hB, .ref q1, .ref q2, .ref q3, .ref q4, .ref q5, .ref q6, .ref q7, .ref q8, .ref q9, .ref q10, .ref q11, .ref q12, .ref q13])), (q9, .inl (cI, 40, .inl oc))]) (wc' := [(h, .inr (3, [.ref hB, .ref q1, .ref q2, .ref q3, .ref q4, .ref q5, .ref q6, .ref q7, .ref q8, .ref q9, .ref q10, .ref q11, .ref q12, .ref q13])), (q9, .inl (cI, 40, .inl (upd oc k 2)))]) (wr := [(q5, .inl (cZ, 40, .inl ca)), (q6, .inl (cZ, 40, .inl cb)), (q7, .inl (cJ, 40, .inr (.inl ga))), (q8, .inl (cJ, 40, .inr (.inl gb))), (hB, .inr (0, [.int bz, .ref b1, .ref b2, .ref b3, .ref b4, .ref b5, .ref b6])), (b2, .inl (cI, 40, .inl ak)), (b3, .inl (cI, 40, .inl bk))]) (ws' := [(h, .inr (3, [.ref hB, .ref q1, .ref q2, .ref q3, .ref q4, .ref q5, .ref q6, .ref q7, .ref q8, .ref q9, .ref q10, .ref q11, .ref q12, .ref q13])), (q9, .inl (cI, 40, .inl (upd oc k 2))), (q5, .inl (cZ, 40, .inl ca)), (q6, .inl (cZ, 40, .inl cb)), (q7, .inl (cJ, 40, .inr (.inl ga))), (q8, .inl (cJ, 40, .inr (.inl gb))), (hB, .inr (0, [.int bz, .ref b1, .ref b2, .ref b3, .ref b4, .ref b5, .ref b6])), (b2, .inl (cI, 40, .inl ak)), (b3, .inl (cI, 40, .inl bk))]) hP hD hS hA [0, 1] [2, 3, 4, 5, 6, 7, 8] rfl rfl (by decide) (by decide) [7, 8, 0, 1, 2, 3, 4, 5, 6] (by decide) rfl (va_runV (As := [.int (nI k), .int 0]) (rest := []) ⟨hx, hb, hml, hown, hts⟩ (k_fail0 l D cI cJ cZ s.heap.size h hB q1 q2 q3 q4 q5 q6 q7 q8 q9 q10 q11 q12 q13 oc k hk) (cwV 2 hts gX3_pay_X3_failUnless rfl rfl rfl (by decide +kernel) ⟨Nat.le_of_ble_eq_true rfl, Nat.le_of_ble_eq_true rfl⟩) ⟨bl_rw, va_recv hK (hP.sub (ws' := [(h, .inr (3, [.ref hB, .ref q1, .ref q2, .ref q3, .ref q4, .ref q5, .ref q6, .ref q7, .ref q8, .ref q9, .ref q10, .ref q11, .ref q12, .ref q13])), (q9, .inl (cI, 40, .inl oc))]) [0, 1] rfl) (ci := 3) (q0 := 0) rfl rfl, fun U hU hW => ⟨rfl, by rw [hU], by rw [hU]; exact (hP.sub (ws' := [(h, .inr (3, [.ref hB, .ref q1, .ref q2, .ref q3, .ref q4, .ref q5, .ref q6, .ref q7, .ref q8, .ref q9, .ref q10, .ref q11, .ref q12, .ref q13])), (q9, .inl (cI, 40, .inl oc))]) [0, 1] rfl), hE.warm2 hW, (hD.sub (ws' := [(h, .inr (3, [.ref hB, .ref q1, .ref q2, .ref q3, .ref q4, .ref q5, .ref q6, .ref q7, .ref q8, .ref q9, .ref q10, .ref q11, .ref q12, .ref q13])), (q9, .inl (cI, 40, .inl oc))]) [0, 1] (by decide) rfl).weaken (fun _ _ _ _ => trivial)⟩⟩ rfl rfl hl.1 rfl (lv_room (Nat.le_of_ble_eq_true rfl)) dX3_pay_21 ⟨Nat.zero_le _, Nat.zero_le _⟩) (fun H locs hP hD hS => ?_)
    refine lv_aload_n hx hb dX3_pay_24 rfl (lv_at hl 0 rfl) ?_
    refine va_get (D := D) (ci := 3) (v := .ref q9) (C := RX3) (T := TX3) (N := 14) hx hb hts hinX3 hown hK hP 0 rfl rfl 9 (by decide) (hts (.fieldLink RX3 38 "LedgerShares$Sheet" "outcomes" "[I") (List.mem_of_getElem? (i := 1) rfl)) (fun _ h9 => h9) rfl dX3_pay_25 ?_
    refine lv_iload_n hx hb dX3_pay_28 rfl (lv_at hl 1 rfl) ?_
    refine x_iald hx hb hE hP 1 rfl (k) hk (by decide) (rfl) dX3_pay_29 ?_
    refine x_topi (y := 2) (upd_s _ _ _) ?_
    refine lv_iconst (v := 1) hx hb dX3_pay_30 (by decide) ?_
    refine lv_icmp_ne (tgt := 74) hx hb dX3_pay_31 (by decide) (fun c31 => ?_) (fun c31 => absurd c31 (by decide))
    exact W.vret hx hb hr (fun t ht hW => ⟨⟨(), rfl, trivial, by rw [ht]; simp only [if_pos (show x < z ∨ z < 0 from Or.inl c6), if_pos (show (x < z ∨ z < 0) ∨ ak k = bk k from Or.inl (Or.inl c6))]; exact hP, by simp only [if_pos (show x < z ∨ z < 0 from Or.inl c6), if_pos (show (x < z ∨ z < 0) ∨ ak k = bk k from Or.inl (Or.inl c6))]; exact hD⟩, hS.F ht⟩) hS.2.2 dX3_pay_74
  · have c6 := _root_.mt (lg_cmp_lt _ _).mpr c6
    refine lv_lload hx hb dX3_pay_9 (lv_at hl 4 rfl) ?_
    refine lv_lconst (v := 0) hx hb dX3_pay_11 (by decide) ?_
    refine W.lcmp hx hb dX3_pay_12 ?_
    refine lv_if_lt (tgt := 20) hx hb dX3_pay_13 (by decide) (fun c13 => ?_) (fun c13 => ?_)
    · have c13 := (lg_cmp_lt _ _).mp c13
      refine lv_iconst (v := 0) hx hb dX3_pay_20 (by decide) ?_
      refine x_callv (wc := [(h, .inr (3, [.ref hB, .ref q1, .ref q2, .ref q3, .ref q4, .ref q5, .ref q6, .ref q7, .ref q8, .ref q9, .ref q10, .ref q11, .ref q12, .ref q13])), (q9, .inl (cI, 40, .inl oc))]) (wc' := [(h, .inr (3, [.ref hB, .ref q1, .ref q2, .ref q3, .ref q4, .ref q5, .ref q6, .ref q7, .ref q8, .ref q9, .ref q10, .ref q11, .ref q12, .ref q13])), (q9, .inl (cI, 40, .inl (upd oc k 2)))]) (wr := [(q5, .inl (cZ, 40, .inl ca)), (q6, .inl (cZ, 40, .inl cb)), (q7, .inl (cJ, 40, .inr (.inl ga))), (q8, .inl (cJ, 40, .inr (.inl gb))), (hB, .inr (0, [.int bz, .ref b1, .ref b2, .ref b3, .ref b4, .ref b5, .ref b6])), (b2, .inl (cI, 40, .inl ak)), (b3, .inl (cI, 40, .inl bk))]) (ws' := [(h, .inr (3, [.ref hB, .ref q1, .ref q2, .ref q3, .ref q4, .ref q5, .ref q6, .ref q7, .ref q8, .ref q9, .ref q10, .ref q11, .ref q12, .ref q13])), (q9, .inl (cI, 40, .inl (upd oc k 2))), (q5, .inl (cZ, 40, .inl ca)), (q6, .inl (cZ, 40, .inl cb)), (q7, .inl (cJ, 40, .inr (.inl ga))), (q8, .inl (cJ, 40, .inr (.inl gb))), (hB, .inr (0, [.int bz, .ref b1, .ref b2, .ref b3, .ref b4, .ref b5, .ref b6])), (b2, .inl (cI, 40, .inl ak)), (b3, .inl (cI, 40, .inl bk))]) hP hD hS hA [0, 1] [2, 3, 4, 5, 6, 7, 8] rfl rfl (by decide) (by decide) [7, 8, 0, 1, 2, 3, 4, 5, 6] (by decide) rfl (va_runV (As := [.int (nI k), .int 0]) (rest := []) ⟨hx, hb, hml, hown, hts⟩ (k_fail0 l D cI cJ cZ s.heap.size h hB q1 q2 q3 q4 q5 q6 q7 q8 q9 q10 q11 q12 q13 oc k hk) (cwV 2 hts gX3_pay_X3_failUnless rfl rfl rfl (by decide +kernel) ⟨Nat.le_of_ble_eq_true rfl, Nat.le_of_ble_eq_true rfl⟩) ⟨bl_rw, va_recv hK (hP.sub (ws' := [(h, .inr (3, [.ref hB, .ref q1, .ref q2, .ref q3, .ref q4, .ref q5, .ref q6, .ref q7, .ref q8, .ref q9, .ref q10, .ref q11, .ref q12, .ref q13])), (q9, .inl (cI, 40, .inl oc))]) [0, 1] rfl) (ci := 3) (q0 := 0) rfl rfl, fun U hU hW => ⟨rfl, by rw [hU], by rw [hU]; exact (hP.sub (ws' := [(h, .inr (3, [.ref hB, .ref q1, .ref q2, .ref q3, .ref q4, .ref q5, .ref q6, .ref q7, .ref q8, .ref q9, .ref q10, .ref q11, .ref q12, .ref q13])), (q9, .inl (cI, 40, .inl oc))]) [0, 1] rfl), hE.warm2 hW, (hD.sub (ws' := [(h, .inr (3, [.ref hB, .ref q1, .ref q2, .ref q3, .ref q4, .ref q5, .ref q6, .ref q7, .ref q8, .ref q9, .ref q10, .ref q11, .ref q12, .ref q13])), (q9, .inl (cI, 40, .inl oc))]) [0, 1] (by decide) rfl).weaken (fun _ _ _ _ => trivial)⟩⟩ rfl rfl hl.1 rfl (lv_room (Nat.le_of_ble_eq_true rfl)) dX3_pay_21 ⟨Nat.zero_le _, Nat.zero_le _⟩) (fun H locs hP hD hS => ?_)
      refine lv_aload_n hx hb dX3_pay_24 rfl (lv_at hl 0 rfl) ?_
      refine va_get (D := D) (ci := 3) (v := .ref q9) (C := RX3) (T := TX3) (N := 14) hx hb hts hinX3 hown hK hP 0 rfl rfl 9 (by decide) (hts (.fieldLink RX3 38 "LedgerShares$Sheet" "outcomes" "[I") (List.mem_of_getElem? (i := 1) rfl)) (fun _ h9 => h9) rfl dX3_pay_25 ?_
      refine lv_iload_n hx hb dX3_pay_28 rfl (lv_at hl 1 rfl) ?_
      refine x_iald hx hb hE hP 1 rfl (k) hk (by decide) (rfl) dX3_pay_29 ?_
      refine x_topi (y := 2) (upd_s _ _ _) ?_
      refine lv_iconst (v := 1) hx hb dX3_pay_30 (by decide) ?_
      refine lv_icmp_ne (tgt := 74) hx hb dX3_pay_31 (by decide) (fun c31 => ?_) (fun c31 => absurd c31 (by decide))
      exact W.vret hx hb hr (fun t ht hW => ⟨⟨(), rfl, trivial, by rw [ht]; simp only [if_pos (show x < z ∨ z < 0 from Or.inr c13), if_pos (show (x < z ∨ z < 0) ∨ ak k = bk k from Or.inl (Or.inr c13))]; exact hP, by simp only [if_pos (show x < z ∨ z < 0 from Or.inr c13), if_pos (show (x < z ∨ z < 0) ∨ ak k = bk k from Or.inl (Or.inr c13))]; exact hD⟩, hS.F ht⟩) hS.2.2 dX3_pay_74
    · have c13 := _root_.mt (lg_cmp_lt _ _).mpr c13
      refine lv_iconst (v := 1) hx hb dX3_pay_16 (by decide) ?_
      refine lv_goto (tgt := 21) hx hb dX3_pay_17 (by decide) ?_
      refine x_callv (wc := [(h, .inr (3, [.ref hB, .ref q1, .ref q2, .ref q3, .ref q4, .ref q5, .ref q6, .ref q7, .ref q8, .ref q9, .ref q10, .ref q11, .ref q12, .ref q13])), (q9, .inl (cI, 40, .inl oc))]) (wc' := [(h, .inr (3, [.ref hB, .ref q1, .ref q2, .ref q3, .ref q4, .ref q5, .ref q6, .ref q7, .ref q8, .ref q9, .ref q10, .ref q11, .ref q12, .ref q13])), (q9, .inl (cI, 40, .inl oc))]) (wr := [(q5, .inl (cZ, 40, .inl ca)), (q6, .inl (cZ, 40, .inl cb)), (q7, .inl (cJ, 40, .inr (.inl ga))), (q8, .inl (cJ, 40, .inr (.inl gb))), (hB, .inr (0, [.int bz, .ref b1, .ref b2, .ref b3, .ref b4, .ref b5, .ref b6])), (b2, .inl (cI, 40, .inl ak)), (b3, .inl (cI, 40, .inl bk))]) (ws' := [(h, .inr (3, [.ref hB, .ref q1, .ref q2, .ref q3, .ref q4, .ref q5, .ref q6, .ref q7, .ref q8, .ref q9, .ref q10, .ref q11, .ref q12, .ref q13])), (q9, .inl (cI, 40, .inl oc)), (q5, .inl (cZ, 40, .inl ca)), (q6, .inl (cZ, 40, .inl cb)), (q7, .inl (cJ, 40, .inr (.inl ga))), (q8, .inl (cJ, 40, .inr (.inl gb))), (hB, .inr (0, [.int bz, .ref b1, .ref b2, .ref b3, .ref b4, .ref b5, .ref b6])), (b2, .inl (cI, 40, .inl ak)), (b3, .inl (cI, 40, .inl bk))]) hP hD hS hA [0, 1] [2, 3, 4, 5, 6, 7, 8] rfl rfl (by decide) (by decide) [7, 8, 0, 1, 2, 3, 4, 5, 6] (by decide) rfl (va_runV (As := [.int (nI k), .int 1]) (rest := []) ⟨hx, hb, hml, hown, hts⟩ (k_fail1 l D cI cJ cZ s.heap.size h hB q1 q2 q3 q4 q5 q6 q7 q8 q9 q10 q11 q12 q13 oc k hk) (cwV 2 hts gX3_pay_X3_failUnless rfl rfl rfl (by decide +kernel) ⟨Nat.le_of_ble_eq_true rfl, Nat.le_of_ble_eq_true rfl⟩) ⟨bl_rw, va_recv hK (hP.sub (ws' := [(h, .inr (3, [.ref hB, .ref q1, .ref q2, .ref q3, .ref q4, .ref q5, .ref q6, .ref q7, .ref q8, .ref q9, .ref q10, .ref q11, .ref q12, .ref q13])), (q9, .inl (cI, 40, .inl oc))]) [0, 1] rfl) (ci := 3) (q0 := 0) rfl rfl, fun U hU hW => ⟨rfl, by rw [hU], by rw [hU]; exact (hP.sub (ws' := [(h, .inr (3, [.ref hB, .ref q1, .ref q2, .ref q3, .ref q4, .ref q5, .ref q6, .ref q7, .ref q8, .ref q9, .ref q10, .ref q11, .ref q12, .ref q13])), (q9, .inl (cI, 40, .inl oc))]) [0, 1] rfl), hE.warm2 hW, (hD.sub (ws' := [(h, .inr (3, [.ref hB, .ref q1, .ref q2, .ref q3, .ref q4, .ref q5, .ref q6, .ref q7, .ref q8, .ref q9, .ref q10, .ref q11, .ref q12, .ref q13])), (q9, .inl (cI, 40, .inl oc))]) [0, 1] (by decide) rfl).weaken (fun _ _ _ _ => trivial)⟩⟩ rfl rfl hl.1 rfl (lv_room (Nat.le_of_ble_eq_true rfl)) dX3_pay_21 ⟨Nat.zero_le _, Nat.zero_le _⟩) (fun H locs hP hD hS => ?_)
      refine lv_aload_n hx hb dX3_pay_24 rfl (lv_at hl 0 rfl) ?_
      refine va_get (D := D) (ci := 3) (v := .ref q9) (C := RX3) (T := TX3) (N := 14) hx hb hts hinX3 hown hK hP 0 rfl rfl 9 (by decide) (hts (.fieldLink RX3 38 "LedgerShares$Sheet" "outcomes" "[I") (List.mem_of_getElem? (i := 1) rfl)) (fun _ h9 => h9) rfl dX3_pay_25 ?_
      refine lv_iload_n hx hb dX3_pay_28 rfl (lv_at hl 1 rfl) ?_
      refine x_iald hx hb hE hP 1 rfl (k) hk (by decide) (rfl) dX3_pay_29 ?_
      refine x_topi (y := 1) (ho) ?_
      refine lv_iconst (v := 1) hx hb dX3_pay_30 (by decide) ?_
      refine lv_icmp_ne (tgt := 74) hx hb dX3_pay_31 (by decide) (fun c31 => absurd (by decide) c31) (fun c31 => ?_)
      refine lv_aload_n hx hb dX3_pay_34 rfl (lv_at hl 0 rfl) ?_
      refine va_get (D := D) (ci := 3) (v := .ref hB) (C := RX3) (T := TX3) (N := 14) hx hb hts hinX3 hown hK hP 0 rfl rfl 0 (by decide) (hts (.fieldLink RX3 53 "LedgerShares$Sheet" "book" "LLedgerShares$Book;") (List.mem_of_getElem? (i := 2) rfl)) (fun _ h9 => h9) rfl dX3_pay_35 ?_
      refine va_get (D := D) (ci := 0) (v := .ref b2) (C := RX0) (T := TX0) (N := 7) hx hb hts hinX0 hown hK hP 6 rfl rfl 2 (by decide) (hts (.fieldLink RX3 67 "LedgerShares$Book" "as" "[I") (List.mem_of_getElem? (i := 3) rfl)) (fun _ h9 => h9) rfl dX3_pay_38 ?_
      refine lv_iload_n hx hb dX3_pay_41 rfl (lv_at hl 1 rfl) ?_
      refine x_iald hx hb hE hP 7 rfl (k) hk (by decide) (rfl) dX3_pay_42 ?_
      refine lv_aload_n hx hb dX3_pay_43 rfl (lv_at hl 0 rfl) ?_
      refine va_get (D := D) (ci := 3) (v := .ref hB) (C := RX3) (T := TX3) (N := 14) hx hb hts hinX3 hown hK hP 0 rfl rfl 0 (by decide) (hts (.fieldLink RX3 53 "LedgerShares$Sheet" "book" "LLedgerShares$Book;") (List.mem_of_getElem? (i := 2) rfl)) (fun _ h9 => h9) rfl dX3_pay_44 ?_
      refine va_get (D := D) (ci := 0) (v := .ref b3) (C := RX0) (T := TX0) (N := 7) hx hb hts hinX0 hown hK hP 6 rfl rfl 3 (by decide) (hts (.fieldLink RX3 72 "LedgerShares$Book" "bs" "[I") (List.mem_of_getElem? (i := 4) rfl)) (fun _ h9 => h9) rfl dX3_pay_47 ?_
      refine lv_iload_n hx hb dX3_pay_50 rfl (lv_at hl 1 rfl) ?_
      refine x_iald hx hb hE hP 8 rfl (k) hk (by decide) (rfl) dX3_pay_51 ?_
      refine lv_icmp_eq (tgt := 74) hx hb dX3_pay_52 (by decide) (fun c52 => ?_) (fun c52 => ?_)
      · exact W.vret hx hb hr (fun t ht hW => ⟨⟨(), rfl, trivial, by rw [ht]; simp only [if_neg (show ¬ (x < z ∨ z < 0) from fun z9 => z9.elim c6 c13), if_pos (show (x < z ∨ z < 0) ∨ ak k = bk k from Or.inr c52)]; exact hP, by simp only [if_neg (show ¬ (x < z ∨ z < 0) from fun z9 => z9.elim c6 c13), if_pos (show (x < z ∨ z < 0) ∨ ak k = bk k from Or.inr c52)]; exact hD⟩, hS.F ht⟩) hS.2.2 dX3_pay_74
      · refine lv_aload_n hx hb dX3_pay_55 rfl (lv_at hl 0 rfl) ?_
        refine lv_iload_n hx hb dX3_pay_56 rfl (lv_at hl 1 rfl) ?_
        refine lv_lload_n hx hb dX3_pay_57 rfl (lv_at hl 2 rfl) ?_
        refine lv_lload hx hb dX3_pay_58 (lv_at hl 4 rfl) ?_
        refine lv_lsub hx hb dX3_pay_60 ?_
        refine x_callv (wc := [(h, .inr (3, [.ref hB, .ref q1, .ref q2, .ref q3, .ref q4, .ref q5, .ref q6, .ref q7, .ref q8, .ref q9, .ref q10, .ref q11, .ref q12, .ref q13])), (q5, .inl (cZ, 40, .inl ca)), (q7, .inl (cJ, 40, .inr (.inl ga)))]) (wc' := [(h, .inr (3, [.ref hB, .ref q1, .ref q2, .ref q3, .ref q4, .ref q5, .ref q6, .ref q7, .ref q8, .ref q9, .ref q10, .ref q11, .ref q12, .ref q13])), (q5, .inl (cZ, 40, .inl (upd ca k 1))), (q7, .inl (cJ, 40, .inr (.inl (vp_updL ga k (x - z)))))]) (wr := [(q9, .inl (cI, 40, .inl oc)), (q6, .inl (cZ, 40, .inl cb)), (q8, .inl (cJ, 40, .inr (.inl gb))), (hB, .inr (0, [.int bz, .ref b1, .ref b2, .ref b3, .ref b4, .ref b5, .ref b6])), (b2, .inl (cI, 40, .inl ak)), (b3, .inl (cI, 40, .inl bk))]) (ws' := [(h, .inr (3, [.ref hB, .ref q1, .ref q2, .ref q3, .ref q4, .ref q5, .ref q6, .ref q7, .ref q8, .ref q9, .ref q10, .ref q11, .ref q12, .ref q13])), (q9, .inl (cI, 40, .inl oc)), (q5, .inl (cZ, 40, .inl (upd ca k 1))), (q6, .inl (cZ, 40, .inl cb)), (q7, .inl (cJ, 40, .inr (.inl (vp_updL ga k (x - z))))), (q8, .inl (cJ, 40, .inr (.inl gb))), (hB, .inr (0, [.int bz, .ref b1, .ref b2, .ref b3, .ref b4, .ref b5, .ref b6])), (b2, .inl (cI, 40, .inl ak)), (b3, .inl (cI, 40, .inl bk))]) hP hD hS hA [0, 2, 4] [1, 3, 5, 6, 7, 8] rfl rfl (by decide) (by decide) [6, 0, 7, 1, 8, 2, 3, 4, 5] (by decide) rfl (va_runV (As := [.int (nI k), .long (x - z)]) (rest := []) ⟨hx, hb, hml, hown, hts⟩ (k_giveA l D cI cJ cZ H.size h hB q1 q2 q3 q4 q5 q6 q7 q8 q9 q10 q11 q12 q13 ca ga k hk (x - z)) (cwV 2 hts gX3_pay_X3_giveA rfl rfl rfl (by decide +kernel) ⟨Nat.le_of_ble_eq_true rfl, Nat.le_of_ble_eq_true rfl⟩) ⟨bl_rw, va_recv hK (hP.sub (ws' := [(h, .inr (3, [.ref hB, .ref q1, .ref q2, .ref q3, .ref q4, .ref q5, .ref q6, .ref q7, .ref q8, .ref q9, .ref q10, .ref q11, .ref q12, .ref q13])), (q5, .inl (cZ, 40, .inl ca)), (q7, .inl (cJ, 40, .inr (.inl ga)))]) [0, 2, 4] rfl) (ci := 3) (q0 := 0) rfl rfl, fun U hU hW => ⟨rfl, by rw [hU], by rw [hU]; exact (hP.sub (ws' := [(h, .inr (3, [.ref hB, .ref q1, .ref q2, .ref q3, .ref q4, .ref q5, .ref q6, .ref q7, .ref q8, .ref q9, .ref q10, .ref q11, .ref q12, .ref q13])), (q5, .inl (cZ, 40, .inl ca)), (q7, .inl (cJ, 40, .inr (.inl ga)))]) [0, 2, 4] rfl), hE.warm2 hW, (hD.sub (ws' := [(h, .inr (3, [.ref hB, .ref q1, .ref q2, .ref q3, .ref q4, .ref q5, .ref q6, .ref q7, .ref q8, .ref q9, .ref q10, .ref q11, .ref q12, .ref q13])), (q5, .inl (cZ, 40, .inl ca)), (q7, .inl (cJ, 40, .inr (.inl ga)))]) [0, 2, 4] (by decide) rfl).weaken (fun _ _ _ _ => trivial)⟩⟩ rfl rfl hl.1 rfl (lv_room (Nat.le_of_ble_eq_true rfl)) dX3_pay_61 ⟨Nat.zero_le _, Nat.zero_le _⟩) (fun H locs hP hD hS => ?_)
        refine lv_aload_n hx hb dX3_pay_64 rfl (lv_at hl 0 rfl) ?_
        refine lv_iload_n hx hb dX3_pay_65 rfl (lv_at hl 1 rfl) ?_
        refine lv_lload hx hb dX3_pay_66 (lv_at hl 3 rfl) ?_
        refine lv_lload hx hb dX3_pay_68 (lv_at hl 4 rfl) ?_
        refine lv_ladd hx hb dX3_pay_70 ?_
        refine x_callv (wc := [(h, .inr (3, [.ref hB, .ref q1, .ref q2, .ref q3, .ref q4, .ref q5, .ref q6, .ref q7, .ref q8, .ref q9, .ref q10, .ref q11, .ref q12, .ref q13])), (q6, .inl (cZ, 40, .inl cb)), (q8, .inl (cJ, 40, .inr (.inl gb)))]) (wc' := [(h, .inr (3, [.ref hB, .ref q1, .ref q2, .ref q3, .ref q4, .ref q5, .ref q6, .ref q7, .ref q8, .ref q9, .ref q10, .ref q11, .ref q12, .ref q13])), (q6, .inl (cZ, 40, .inl (upd cb k 1))), (q8, .inl (cJ, 40, .inr (.inl (vp_updL gb k (y + z)))))]) (wr := [(q9, .inl (cI, 40, .inl oc)), (q5, .inl (cZ, 40, .inl (upd ca k 1))), (q7, .inl (cJ, 40, .inr (.inl (vp_updL ga k (x - z))))), (hB, .inr (0, [.int bz, .ref b1, .ref b2, .ref b3, .ref b4, .ref b5, .ref b6])), (b2, .inl (cI, 40, .inl ak)), (b3, .inl (cI, 40, .inl bk))]) (ws' := [(h, .inr (3, [.ref hB, .ref q1, .ref q2, .ref q3, .ref q4, .ref q5, .ref q6, .ref q7, .ref q8, .ref q9, .ref q10, .ref q11, .ref q12, .ref q13])), (q9, .inl (cI, 40, .inl oc)), (q5, .inl (cZ, 40, .inl (upd ca k 1))), (q6, .inl (cZ, 40, .inl (upd cb k 1))), (q7, .inl (cJ, 40, .inr (.inl (vp_updL ga k (x - z))))), (q8, .inl (cJ, 40, .inr (.inl (vp_updL gb k (y + z))))), (hB, .inr (0, [.int bz, .ref b1, .ref b2, .ref b3, .ref b4, .ref b5, .ref b6])), (b2, .inl (cI, 40, .inl ak)), (b3, .inl (cI, 40, .inl bk))]) hP hD hS hA [0, 3, 5] [1, 2, 4, 6, 7, 8] rfl rfl (by decide) (by decide) [6, 0, 1, 7, 2, 8, 3, 4, 5] (by decide) rfl (va_runV (As := [.int (nI k), .long (y + z)]) (rest := []) ⟨hx, hb, hml, hown, hts⟩ (k_giveB l D cI cJ cZ H.size h hB q1 q2 q3 q4 q5 q6 q7 q8 q9 q10 q11 q12 q13 cb gb k hk (y + z)) (cwV 2 hts gX3_pay_X3_giveB rfl rfl rfl (by decide +kernel) ⟨Nat.le_of_ble_eq_true rfl, Nat.le_of_ble_eq_true rfl⟩) ⟨bl_rw, va_recv hK (hP.sub (ws' := [(h, .inr (3, [.ref hB, .ref q1, .ref q2, .ref q3, .ref q4, .ref q5, .ref q6, .ref q7, .ref q8, .ref q9, .ref q10, .ref q11, .ref q12, .ref q13])), (q6, .inl (cZ, 40, .inl cb)), (q8, .inl (cJ, 40, .inr (.inl gb)))]) [0, 3, 5] rfl) (ci := 3) (q0 := 0) rfl rfl, fun U hU hW => ⟨rfl, by rw [hU], by rw [hU]; exact (hP.sub (ws' := [(h, .inr (3, [.ref hB, .ref q1, .ref q2, .ref q3, .ref q4, .ref q5, .ref q6, .ref q7, .ref q8, .ref q9, .ref q10, .ref q11, .ref q12, .ref q13])), (q6, .inl (cZ, 40, .inl cb)), (q8, .inl (cJ, 40, .inr (.inl gb)))]) [0, 3, 5] rfl), hE.warm2 hW, (hD.sub (ws' := [(h, .inr (3, [.ref hB, .ref q1, .ref q2, .ref q3, .ref q4, .ref q5, .ref q6, .ref q7, .ref q8, .ref q9, .ref q10, .ref q11, .ref q12, .ref q13])), (q6, .inl (cZ, 40, .inl cb)), (q8, .inl (cJ, 40, .inr (.inl gb)))]) [0, 3, 5] (by decide) rfl).weaken (fun _ _ _ _ => trivial)⟩⟩ rfl rfl hl.1 rfl (lv_room (Nat.le_of_ble_eq_true rfl)) dX3_pay_71 ⟨Nat.zero_le _, Nat.zero_le _⟩) (fun H locs hP hD hS => ?_)
        exact W.vret hx hb hr (fun t ht hW => ⟨⟨(), rfl, trivial, by rw [ht]; simp only [if_neg (show ¬ (x < z ∨ z < 0) from fun z9 => z9.elim c6 c13), if_neg (show ¬ ((x < z ∨ z < 0) ∨ ak k = bk k) from fun z9 => z9.elim (fun z8 => z8.elim c6 c13) c52)]; exact hP, by simp only [if_neg (show ¬ (x < z ∨ z < 0) from fun z9 => z9.elim c6 c13), if_neg (show ¬ ((x < z ∨ z < 0) ∨ ak k = bk k) from fun z9 => z9.elim (fun z8 => z8.elim c6 c13) c52)]; exact hD⟩, hS.F ht⟩) hS.2.2 dX3_pay_74
set_option maxHeartbeats 4000000 in
set_option maxRecDepth 100000 in
theorem k_work (l : Launch) (D : va_G) (cI cJ cZ : ClassId) (sz : Nat) (h hB q1 q2 q3 q4 q5 q6 q7 q8 q9 q10 q11 q12 q13 : Nat) (oc ca cb : Nat → Int32) (ra rb ga gb : Nat → Int64) (b1 b2 b3 b4 b5 b6 : Nat) (bz : Int32) (ok ak bk ck : Nat → Int32) (k : Nat) (hk : k < 40) : Met l yX3_work wsX3_work ({ frames := 2, cells := 0, slots := 0, locals := 50 }) (PcRW [.ref h, .int (nI k)] sz D cI cJ cZ [(h, .inr (3, [.ref hB, .ref q1, .ref q2, .ref q3, .ref q4, .ref q5, .ref q6, .ref q7, .ref q8, .ref q9, .ref q10, .ref q11, .ref q12, .ref q13])), (q3, .inl (cJ, 40, .inr (.inl ra))), (q4, .inl (cJ, 40, .inr (.inl rb))), (q9, .inl (cI, 40, .inl oc)), (q5, .inl (cZ, 40, .inl ca)), (q6, .inl (cZ, 40, .inl cb)), (q7, .inl (cJ, 40, .inr (.inl ga))), (q8, .inl (cJ, 40, .inr (.inl gb))), (hB, .inr (0, [.int bz, .ref b1, .ref b2, .ref b3, .ref b4, .ref b5, .ref b6])), (b1, .inl (cI, 40, .inl ok)), (b2, .inl (cI, 40, .inl ak)), (b3, .inl (cI, 40, .inl bk)), (b4, .inl (cI, 40, .inl ck))]) (QcV D (va_A [(h, .inr (3, [.ref hB, .ref q1, .ref q2, .ref q3, .ref q4, .ref q5, .ref q6, .ref q7, .ref q8, .ref q9, .ref q10, .ref q11, .ref q12, .ref q13])), (q3, .inl (cJ, 40, .inr (.inl ra))), (q4, .inl (cJ, 40, .inr (.inl rb))), (q9, .inl (cI, 40, .inl oc)), (q5, .inl (cZ, 40, .inl ca)), (q6, .inl (cZ, 40, .inl cb)), (q7, .inl (cJ, 40, .inr (.inl ga))), (q8, .inl (cJ, 40, .inr (.inl gb))), (hB, .inr (0, [.int bz, .ref b1, .ref b2, .ref b3, .ref b4, .ref b5, .ref b6])), (b1, .inl (cI, 40, .inl ok)), (b2, .inl (cI, 40, .inl ak)), (b3, .inl (cI, 40, .inl bk)), (b4, .inl (cI, 40, .inl ck))] sz) [(h, .inr (3, [.ref hB, .ref q1, .ref q2, .ref q3, .ref q4, .ref q5, .ref q6, .ref q7, .ref q8, .ref q9, .ref q10, .ref q11, .ref q12, .ref q13])), (q3, .inl (cJ, 40, .inr (.inl ra))), (q4, .inl (cJ, 40, .inr (.inl rb))), (q9, .inl (cI, 40, .inl (upd oc k (wOut (ok k) (ra k) (rb k) (Int32.toInt64 (ck k)))))), (q5, .inl (cZ, 40, .inl (upd ca k (wChA (ok k) (ak k) (bk k) (ra k) (Int32.toInt64 (ck k)))))), (q6, .inl (cZ, 40, .inl (upd cb k (wChB (ok k) (ak k) (bk k) (ra k) (rb k) (Int32.toInt64 (ck k)))))), (q7, .inl (cJ, 40, .inr (.inl (if wChA (ok k) (ak k) (bk k) (ra k) (Int32.toInt64 (ck k)) = 1 then vp_updL ga k (wGA (ok k) (ra k) (rb k) (Int32.toInt64 (ck k))) else ga)))), (q8, .inl (cJ, 40, .inr (.inl (if wChB (ok k) (ak k) (bk k) (ra k) (rb k) (Int32.toInt64 (ck k)) = 1 then vp_updL gb k (wGB (ok k) (ra k) (rb k) (Int32.toInt64 (ck k))) else gb)))), (hB, .inr (0, [.int bz, .ref b1, .ref b2, .ref b3, .ref b4, .ref b5, .ref b6])), (b1, .inl (cI, 40, .inl ok)), (b2, .inl (cI, 40, .inl ak)), (b3, .inl (cI, 40, .inl bk)), (b4, .inl (cI, 40, .inl ck))]) 0 0 (va_A [(h, .inr (3, [.ref hB, .ref q1, .ref q2, .ref q3, .ref q4, .ref q5, .ref q6, .ref q7, .ref q8, .ref q9, .ref q10, .ref q11, .ref q12, .ref q13])), (q3, .inl (cJ, 40, .inr (.inl ra))), (q4, .inl (cJ, 40, .inr (.inl rb))), (q9, .inl (cI, 40, .inl oc)), (q5, .inl (cZ, 40, .inl ca)), (q6, .inl (cZ, 40, .inl cb)), (q7, .inl (cJ, 40, .inr (.inl ga))), (q8, .inl (cJ, 40, .inr (.inl gb))), (hB, .inr (0, [.int bz, .ref b1, .ref b2, .ref b3, .ref b4, .ref b5, .ref b6])), (b1, .inl (cI, 40, .inl ok)), (b2, .inl (cI, 40, .inl ak)), (b3, .inl (cI, 40, .inl bk)), (b4, .inl (cI, 40, .inl ck))] sz) := by
  refine Met.ofW (cc := cX3_work) (maxL := 8) (ret := none) (by decide) rfl ?_
  intro p e s m args below meth c s₁ B hml hv
  obtain ⟨rfl, hsz, hP, hE, hD0⟩ := hv
  have hx := B.exec
  have hb := B.bytes
  have hr := B.returns
  have hts := atoms_spec (ws := wsX3_work) B.pre
  have hown : s.vm.findClass RX3 = some m.cls := findClass_of_methodNamed B.named
  have hlocks := B.notSynchronized
  have hK := hE.1
  subst hsz
  have hD := hD0.self (sz := s.heap.size)
  generalize hAe : va_A [(h, .inr (3, [.ref hB, .ref q1, .ref q2, .ref q3, .ref q4, .ref q5, .ref q6, .ref q7, .ref q8, .ref q9, .ref q10, .ref q11, .ref q12, .ref q13])), (q3, .inl (cJ, 40, .inr (.inl ra))), (q4, .inl (cJ, 40, .inr (.inl rb))), (q9, .inl (cI, 40, .inl oc)), (q5, .inl (cZ, 40, .inl ca)), (q6, .inl (cZ, 40, .inl cb)), (q7, .inl (cJ, 40, .inr (.inl ga))), (q8, .inl (cJ, 40, .inr (.inl gb))), (hB, .inr (0, [.int bz, .ref b1, .ref b2, .ref b3, .ref b4, .ref b5, .ref b6])), (b1, .inl (cI, 40, .inl ok)), (b2, .inl (cI, 40, .inl ak)), (b3, .inl (cI, 40, .inl bk)), (b4, .inl (cI, 40, .inl ck))] s.heap.size = A at hD ⊢
  have hA : ∀ q : Nat, s.heap.size ≤ q → A q := fun q h => by rw [← hAe]; exact Or.inr h
  have hS : va_S A s.heap s.heap [] := va_S.rf
  have hl := lv_entry ([.ref h, .int (nI k)]) (n := 8) (Nat.le_of_ble_eq_true rfl)
  rw [lg_entry_eq]
  generalize (lg_sl ([.ref h, .int (nI k)]) ++ List.replicate (8 - (lg_sl ([.ref h, .int (nI k)])).length) Slot.unset).toArray = ls at hl ⊢
  have hl : lv_has ls 8 [(0, .ref h), (1, .int (nI k))] := hl
  have hinX0 : ∀ w ∈ u_ws RX0 TX0 7, w ∈ wsX3_work := fun _ h => List.mem_cons_of_mem _ (List.mem_append_right _ h)
  have hinX3 : ∀ w ∈ u_ws RX3 TX3 14, w ∈ wsX3_work := fun _ h => List.mem_cons_of_mem _ (List.mem_append_left _ (List.mem_append_right _ h))
  refine lv_aload_n hx hb dX3_work_0 rfl (lv_at hl 0 rfl) ?_
  refine va_get (D := D) (ci := 3) (v := .ref q3) (C := RX3) (T := TX3) (N := 14) hx hb hts hinX3 hown hK hP 0 rfl rfl 3 (by decide) (hts (.fieldLink RX3 18 "LedgerShares$Sheet" "readA" "[J") (List.mem_of_getElem? (i := 1) rfl)) (fun _ h9 => h9) rfl dX3_work_1 ?_
  refine lv_iload_n hx hb dX3_work_4 rfl (lv_at hl 1 rfl) ?_
  refine x_lald hx hb hE hP 1 rfl (k) hk (by decide) (rfl) dX3_work_5 ?_
  refine lv_lstore_n (lv' := [(2, .long (ra k)), (0, .ref h), (1, .int (nI k))]) hx hb dX3_work_6 rfl hl (by decide) rfl (fun ls hl => ?_)
  refine lv_aload_n hx hb dX3_work_7 rfl (lv_at hl 1 rfl) ?_
  refine va_get (D := D) (ci := 3) (v := .ref q4) (C := RX3) (T := TX3) (N := 14) hx hb hts hinX3 hown hK hP 0 rfl rfl 4 (by decide) (hts (.fieldLink RX3 22 "LedgerShares$Sheet" "readB" "[J") (List.mem_of_getElem? (i := 2) rfl)) (fun _ h9 => h9) rfl dX3_work_8 ?_
  refine lv_iload_n hx hb dX3_work_11 rfl (lv_at hl 2 rfl) ?_
  refine x_lald hx hb hE hP 2 rfl (k) hk (by decide) (rfl) dX3_work_12 ?_
  refine lv_lstore (lv' := [(4, .long (rb k)), (2, .long (ra k)), (0, .ref h), (1, .int (nI k))]) hx hb dX3_work_13 hl (by decide) rfl (fun ls hl => ?_)
  refine lv_aload_n hx hb dX3_work_15 rfl (lv_at hl 2 rfl) ?_
  refine va_get (D := D) (ci := 3) (v := .ref hB) (C := RX3) (T := TX3) (N := 14) hx hb hts hinX3 hown hK hP 0 rfl rfl 0 (by decide) (hts (.fieldLink RX3 53 "LedgerShares$Sheet" "book" "LLedgerShares$Book;") (List.mem_of_getElem? (i := 3) rfl)) (fun _ h9 => h9) rfl dX3_work_16 ?_
  refine va_get (D := D) (ci := 0) (v := .ref b4) (C := RX0) (T := TX0) (N := 7) hx hb hts hinX0 hown hK hP 8 rfl rfl 4 (by decide) (hts (.fieldLink RX3 93 "LedgerShares$Book" "cs" "[I") (List.mem_of_getElem? (i := 4) rfl)) (fun _ h9 => h9) rfl dX3_work_19 ?_
  refine lv_iload_n hx hb dX3_work_22 rfl (lv_at hl 3 rfl) ?_
  refine x_iald hx hb hE hP 12 rfl (k) hk (by decide) (rfl) dX3_work_23 ?_
  refine lv_i2l (v := Int32.toInt64 (ck k)) hx hb dX3_work_24 rfl ?_
  refine lv_lstore (lv' := [(6, .long (Int32.toInt64 (ck k))), (4, .long (rb k)), (2, .long (ra k)), (0, .ref h), (1, .int (nI k))]) hx hb dX3_work_25 hl (by decide) rfl (fun ls hl => ?_)
  refine lv_aload_n hx hb dX3_work_27 rfl (lv_at hl 3 rfl) ?_
  refine va_get (D := D) (ci := 3) (v := .ref q9) (C := RX3) (T := TX3) (N := 14) hx hb hts hinX3 hown hK hP 0 rfl rfl 9 (by decide) (hts (.fieldLink RX3 38 "LedgerShares$Sheet" "outcomes" "[I") (List.mem_of_getElem? (i := 5) rfl)) (fun _ h9 => h9) rfl dX3_work_28 ?_
  refine lv_iload_n hx hb dX3_work_31 rfl (lv_at hl 4 rfl) ?_
  refine lv_iconst (v := 1) hx hb dX3_work_32 (by decide) ?_
  refine x_iast hx hb hE hP hD hS 3 rfl (k) hk (by decide) (rfl) (ws' := [(h, .inr (3, [.ref hB, .ref q1, .ref q2, .ref q3, .ref q4, .ref q5, .ref q6, .ref q7, .ref q8, .ref q9, .ref q10, .ref q11, .ref q12, .ref q13])), (q3, .inl (cJ, 40, .inr (.inl ra))), (q4, .inl (cJ, 40, .inr (.inl rb))), (q9, .inl (cI, 40, .inl (upd oc k 1))), (q5, .inl (cZ, 40, .inl ca)), (q6, .inl (cZ, 40, .inl cb)), (q7, .inl (cJ, 40, .inr (.inl ga))), (q8, .inl (cJ, 40, .inr (.inl gb))), (hB, .inr (0, [.int bz, .ref b1, .ref b2, .ref b3, .ref b4, .ref b5, .ref b6])), (b1, .inl (cI, 40, .inl ok)), (b2, .inl (cI, 40, .inl ak)), (b3, .inl (cI, 40, .inl bk)), (b4, .inl (cI, 40, .inl ck))]) (rfl) dX3_work_33 (fun H locs hP hD hS => ?_)
  refine lv_aload_n hx hb dX3_work_34 rfl (lv_at hl 3 rfl) ?_
  refine va_get (D := D) (ci := 3) (v := .ref q5) (C := RX3) (T := TX3) (N := 14) hx hb hts hinX3 hown hK hP 0 rfl rfl 5 (by decide) (hts (.fieldLink RX3 25 "LedgerShares$Sheet" "changesA" "[Z") (List.mem_of_getElem? (i := 6) rfl)) (fun _ h9 => h9) rfl dX3_work_35 ?_
  refine lv_iload_n hx hb dX3_work_38 rfl (lv_at hl 4 rfl) ?_
  refine lv_iconst (v := 0) hx hb dX3_work_39 (by decide) ?_
  refine x_zast hx hb hE hP hD hS 4 rfl (k) hk (by decide) (rfl) (by decide) (ws' := [(h, .inr (3, [.ref hB, .ref q1, .ref q2, .ref q3, .ref q4, .ref q5, .ref q6, .ref q7, .ref q8, .ref q9, .ref q10, .ref q11, .ref q12, .ref q13])), (q3, .inl (cJ, 40, .inr (.inl ra))), (q4, .inl (cJ, 40, .inr (.inl rb))), (q9, .inl (cI, 40, .inl (upd oc k 1))), (q5, .inl (cZ, 40, .inl (upd ca k 0))), (q6, .inl (cZ, 40, .inl cb)), (q7, .inl (cJ, 40, .inr (.inl ga))), (q8, .inl (cJ, 40, .inr (.inl gb))), (hB, .inr (0, [.int bz, .ref b1, .ref b2, .ref b3, .ref b4, .ref b5, .ref b6])), (b1, .inl (cI, 40, .inl ok)), (b2, .inl (cI, 40, .inl ak)), (b3, .inl (cI, 40, .inl bk)), (b4, .inl (cI, 40, .inl ck))]) (rfl) dX3_work_40 (fun H locs hP hD hS => ?_)
  refine lv_aload_n hx hb dX3_work_41 rfl (lv_at hl 3 rfl) ?_
  refine va_get (D := D) (ci := 3) (v := .ref q6) (C := RX3) (T := TX3) (N := 14) hx hb hts hinX3 hown hK hP 0 rfl rfl 6 (by decide) (hts (.fieldLink RX3 29 "LedgerShares$Sheet" "changesB" "[Z") (List.mem_of_getElem? (i := 7) rfl)) (fun _ h9 => h9) rfl dX3_work_42 ?_
  refine lv_iload_n hx hb dX3_work_45 rfl (lv_at hl 4 rfl) ?_
  refine lv_iconst (v := 0) hx hb dX3_work_46 (by decide) ?_
  refine x_zast hx hb hE hP hD hS 5 rfl (k) hk (by decide) (rfl) (by decide) (ws' := [(h, .inr (3, [.ref hB, .ref q1, .ref q2, .ref q3, .ref q4, .ref q5, .ref q6, .ref q7, .ref q8, .ref q9, .ref q10, .ref q11, .ref q12, .ref q13])), (q3, .inl (cJ, 40, .inr (.inl ra))), (q4, .inl (cJ, 40, .inr (.inl rb))), (q9, .inl (cI, 40, .inl (upd oc k 1))), (q5, .inl (cZ, 40, .inl (upd ca k 0))), (q6, .inl (cZ, 40, .inl (upd cb k 0))), (q7, .inl (cJ, 40, .inr (.inl ga))), (q8, .inl (cJ, 40, .inr (.inl gb))), (hB, .inr (0, [.int bz, .ref b1, .ref b2, .ref b3, .ref b4, .ref b5, .ref b6])), (b1, .inl (cI, 40, .inl ok)), (b2, .inl (cI, 40, .inl ak)), (b3, .inl (cI, 40, .inl bk)), (b4, .inl (cI, 40, .inl ck))]) (rfl) dX3_work_47 (fun H locs hP hD hS => ?_)
  refine lv_aload_n hx hb dX3_work_48 rfl (lv_at hl 3 rfl) ?_
  refine va_get (D := D) (ci := 3) (v := .ref hB) (C := RX3) (T := TX3) (N := 14) hx hb hts hinX3 hown hK hP 0 rfl rfl 0 (by decide) (hts (.fieldLink RX3 53 "LedgerShares$Sheet" "book" "LLedgerShares$Book;") (List.mem_of_getElem? (i := 3) rfl)) (fun _ h9 => h9) rfl dX3_work_49 ?_
  refine va_get (D := D) (ci := 0) (v := .ref b1) (C := RX0) (T := TX0) (N := 7) hx hb hts hinX0 hown hK hP 8 rfl rfl 1 (by decide) (hts (.fieldLink RX3 96 "LedgerShares$Book" "ops" "[I") (List.mem_of_getElem? (i := 8) rfl)) (fun _ h9 => h9) rfl dX3_work_52 ?_
  refine lv_iload_n hx hb dX3_work_55 rfl (lv_at hl 4 rfl) ?_
  refine x_iald hx hb hE hP 9 rfl (k) hk (by decide) (rfl) dX3_work_56 ?_
  rcases sw4 (ok k) with e57 | e57 | e57 | e57 | e57 | ⟨n0, n1, n2, n3, n4, n5⟩
  · refine lv_tableIn (off := 35) (tgt := 92) hx hb dX3_work_57 (by rw [e57]; decide) (by rw [e57]; decide) (by rw [e57]; rfl) (by decide) ?_
    refine lv_aload_n hx hb dX3_work_92 rfl (lv_at hl 3 rfl) ?_
    refine lv_iload_n hx hb dX3_work_93 rfl (lv_at hl 4 rfl) ?_
    refine lv_lload hx hb dX3_work_94 (lv_at hl 0 rfl) ?_
    refine x_callv (wc := [(h, .inr (3, [.ref hB, .ref q1, .ref q2, .ref q3, .ref q4, .ref q5, .ref q6, .ref q7, .ref q8, .ref q9, .ref q10, .ref q11, .ref q12, .ref q13])), (q6, .inl (cZ, 40, .inl (upd cb k 0))), (q8, .inl (cJ, 40, .inr (.inl gb)))]) (wc' := [(h, .inr (3, [.ref hB, .ref q1, .ref q2, .ref q3, .ref q4, .ref q5, .ref q6, .ref q7, .ref q8, .ref q9, .ref q10, .ref q11, .ref q12, .ref q13])), (q6, .inl (cZ, 40, .inl (upd (upd cb k 0) k 1))), (q8, .inl (cJ, 40, .inr (.inl (vp_updL gb k (Int32.toInt64 (ck k))))))]) (wr := [(q3, .inl (cJ, 40, .inr (.inl ra))), (q4, .inl (cJ, 40, .inr (.inl rb))), (q9, .inl (cI, 40, .inl (upd oc k 1))), (q5, .inl (cZ, 40, .inl (upd ca k 0))), (q7, .inl (cJ, 40, .inr (.inl ga))), (hB, .inr (0, [.int bz, .ref b1, .ref b2, .ref b3, .ref b4, .ref b5, .ref b6])), (b1, .inl (cI, 40, .inl ok)), (b2, .inl (cI, 40, .inl ak)), (b3, .inl (cI, 40, .inl bk)), (b4, .inl (cI, 40, .inl ck))]) (ws' := [(h, .inr (3, [.ref hB, .ref q1, .ref q2, .ref q3, .ref q4, .ref q5, .ref q6, .ref q7, .ref q8, .ref q9, .ref q10, .ref q11, .ref q12, .ref q13])), (q3, .inl (cJ, 40, .inr (.inl ra))), (q4, .inl (cJ, 40, .inr (.inl rb))), (q9, .inl (cI, 40, .inl (upd oc k 1))), (q5, .inl (cZ, 40, .inl (upd ca k 0))), (q6, .inl (cZ, 40, .inl (upd (upd cb k 0) k 1))), (q7, .inl (cJ, 40, .inr (.inl ga))), (q8, .inl (cJ, 40, .inr (.inl (vp_updL gb k (Int32.toInt64 (ck k)))))), (hB, .inr (0, [.int bz, .ref b1, .ref b2, .ref b3, .ref b4, .ref b5, .ref b6])), (b1, .inl (cI, 40, .inl ok)), (b2, .inl (cI, 40, .inl ak)), (b3, .inl (cI, 40, .inl bk)), (b4, .inl (cI, 40, .inl ck))]) hP hD hS hA [0, 5, 7] [1, 2, 3, 4, 6, 8, 9, 10, 11, 12] rfl rfl (by decide) (by decide) [10, 0, 1, 2, 3, 11, 4, 12, 5, 6, 7, 8, 9] (by decide) rfl (va_runV (As := [.int (nI k), .long (Int32.toInt64 (ck k))]) (rest := []) ⟨hx, hb, hml, hown, hts⟩ (k_giveB l D cI cJ cZ H.size h hB q1 q2 q3 q4 q5 q6 q7 q8 q9 q10 q11 q12 q13 (upd cb k 0) gb k hk (Int32.toInt64 (ck k))) (cwV 2 hts gX3_work_X3_giveB rfl rfl rfl (by decide +kernel) ⟨Nat.le_of_ble_eq_true rfl, Nat.le_of_ble_eq_true rfl⟩) ⟨bl_rw, va_recv hK (hP.sub (ws' := [(h, .inr (3, [.ref hB, .ref q1, .ref q2, .ref q3, .ref q4, .ref q5, .ref q6, .ref q7, .ref q8, .ref q9, .ref q10, .ref q11, .ref q12, .ref q13])), (q6, .inl (cZ, 40, .inl (upd cb k 0))), (q8, .inl (cJ, 40, .inr (.inl gb)))]) [0, 5, 7] rfl) (ci := 3) (q0 := 0) rfl rfl, fun U hU hW => ⟨rfl, by rw [hU], by rw [hU]; exact (hP.sub (ws' := [(h, .inr (3, [.ref hB, .ref q1, .ref q2, .ref q3, .ref q4, .ref q5, .ref q6, .ref q7, .ref q8, .ref q9, .ref q10, .ref q11, .ref q12, .ref q13])), (q6, .inl (cZ, 40, .inl (upd cb k 0))), (q8, .inl (cJ, 40, .inr (.inl gb)))]) [0, 5, 7] rfl), hE.warm2 hW, (hD.sub (ws' := [(h, .inr (3, [.ref hB, .ref q1, .ref q2, .ref q3, .ref q4, .ref q5, .ref q6, .ref q7, .ref q8, .ref q9, .ref q10, .ref q11, .ref q12, .ref q13])), (q6, .inl (cZ, 40, .inl (upd cb k 0))), (q8, .inl (cJ, 40, .inr (.inl gb)))]) [0, 5, 7] (by decide) rfl).weaken (fun _ _ _ _ => trivial)⟩⟩ rfl rfl hl.1 rfl (lv_room (Nat.le_of_ble_eq_true rfl)) dX3_work_96 ⟨Nat.zero_le _, Nat.zero_le _⟩) (fun H locs hP hD hS => ?_)
    refine lv_goto (tgt := 185) hx hb dX3_work_99 (by decide) ?_
    have w_outcomes : (upd oc k 1) = (upd oc k (wOut (ok k) (ra k) (rb k) (Int32.toInt64 (ck k)))) := by simp [wOut, wChA, wChB, wGA, wGB, upd_upd, updL_updL, e57]
    have w_changesA : (upd ca k 0) = (upd ca k (wChA (ok k) (ak k) (bk k) (ra k) (Int32.toInt64 (ck k)))) := by simp [wOut, wChA, wChB, wGA, wGB, upd_upd, updL_updL, e57]
    have w_changesB : (upd (upd cb k 0) k 1) = (upd cb k (wChB (ok k) (ak k) (bk k) (ra k) (rb k) (Int32.toInt64 (ck k)))) := by simp [wOut, wChA, wChB, wGA, wGB, upd_upd, updL_updL, e57]
    have w_givesA : ga = (if wChA (ok k) (ak k) (bk k) (ra k) (Int32.toInt64 (ck k)) = 1 then vp_updL ga k (wGA (ok k) (ra k) (rb k) (Int32.toInt64 (ck k))) else ga) := by simp [wOut, wChA, wChB, wGA, wGB, upd_upd, updL_updL, e57]
    have w_givesB : (vp_updL gb k (Int32.toInt64 (ck k))) = (if wChB (ok k) (ak k) (bk k) (ra k) (rb k) (Int32.toInt64 (ck k)) = 1 then vp_updL gb k (wGB (ok k) (ra k) (rb k) (Int32.toInt64 (ck k))) else gb) := by simp [wOut, wChA, wChB, wGA, wGB, upd_upd, updL_updL, e57]
    rw [w_outcomes, w_changesA, w_changesB, w_givesA, w_givesB] at hP hD
    exact W.vret hx hb hr (fun t ht hW => ⟨⟨(), rfl, trivial, by rw [ht]; exact hP, by exact hD⟩, hS.F ht⟩) hS.2.2 dX3_work_185
  · refine lv_tableIn (off := 45) (tgt := 102) hx hb dX3_work_57 (by rw [e57]; decide) (by rw [e57]; decide) (by rw [e57]; rfl) (by decide) ?_
    refine lv_aload_n hx hb dX3_work_102 rfl (lv_at hl 3 rfl) ?_
    refine lv_iload_n hx hb dX3_work_103 rfl (lv_at hl 4 rfl) ?_
    refine lv_lload hx hb dX3_work_104 (lv_at hl 1 rfl) ?_
    refine lv_lload_n hx hb dX3_work_106 rfl (lv_at hl 2 rfl) ?_
    refine lv_ladd hx hb dX3_work_107 ?_
    refine lv_lload hx hb dX3_work_108 (lv_at hl 0 rfl) ?_
    refine lv_ladd hx hb dX3_work_110 ?_
    refine x_callv (wc := [(h, .inr (3, [.ref hB, .ref q1, .ref q2, .ref q3, .ref q4, .ref q5, .ref q6, .ref q7, .ref q8, .ref q9, .ref q10, .ref q11, .ref q12, .ref q13])), (q6, .inl (cZ, 40, .inl (upd cb k 0))), (q8, .inl (cJ, 40, .inr (.inl gb)))]) (wc' := [(h, .inr (3, [.ref hB, .ref q1, .ref q2, .ref q3, .ref q4, .ref q5, .ref q6, .ref q7, .ref q8, .ref q9, .ref q10, .ref q11, .ref q12, .ref q13])), (q6, .inl (cZ, 40, .inl (upd (upd cb k 0) k 1))), (q8, .inl (cJ, 40, .inr (.inl (vp_updL gb k (((rb k) + (ra k)) + (Int32.toInt64 (ck k)))))))]) (wr := [(q3, .inl (cJ, 40, .inr (.inl ra))), (q4, .inl (cJ, 40, .inr (.inl rb))), (q9, .inl (cI, 40, .inl (upd oc k 1))), (q5, .inl (cZ, 40, .inl (upd ca k 0))), (q7, .inl (cJ, 40, .inr (.inl ga))), (hB, .inr (0, [.int bz, .ref b1, .ref b2, .ref b3, .ref b4, .ref b5, .ref b6])), (b1, .inl (cI, 40, .inl ok)), (b2, .inl (cI, 40, .inl ak)), (b3, .inl (cI, 40, .inl bk)), (b4, .inl (cI, 40, .inl ck))]) (ws' := [(h, .inr (3, [.ref hB, .ref q1, .ref q2, .ref q3, .ref q4, .ref q5, .ref q6, .ref q7, .ref q8, .ref q9, .ref q10, .ref q11, .ref q12, .ref q13])), (q3, .inl (cJ, 40, .inr (.inl ra))), (q4, .inl (cJ, 40, .inr (.inl rb))), (q9, .inl (cI, 40, .inl (upd oc k 1))), (q5, .inl (cZ, 40, .inl (upd ca k 0))), (q6, .inl (cZ, 40, .inl (upd (upd cb k 0) k 1))), (q7, .inl (cJ, 40, .inr (.inl ga))), (q8, .inl (cJ, 40, .inr (.inl (vp_updL gb k (((rb k) + (ra k)) + (Int32.toInt64 (ck k))))))), (hB, .inr (0, [.int bz, .ref b1, .ref b2, .ref b3, .ref b4, .ref b5, .ref b6])), (b1, .inl (cI, 40, .inl ok)), (b2, .inl (cI, 40, .inl ak)), (b3, .inl (cI, 40, .inl bk)), (b4, .inl (cI, 40, .inl ck))]) hP hD hS hA [0, 5, 7] [1, 2, 3, 4, 6, 8, 9, 10, 11, 12] rfl rfl (by decide) (by decide) [10, 0, 1, 2, 3, 11, 4, 12, 5, 6, 7, 8, 9] (by decide) rfl (va_runV (As := [.int (nI k), .long (((rb k) + (ra k)) + (Int32.toInt64 (ck k)))]) (rest := []) ⟨hx, hb, hml, hown, hts⟩ (k_giveB l D cI cJ cZ H.size h hB q1 q2 q3 q4 q5 q6 q7 q8 q9 q10 q11 q12 q13 (upd cb k 0) gb k hk (((rb k) + (ra k)) + (Int32.toInt64 (ck k)))) (cwV 2 hts gX3_work_X3_giveB rfl rfl rfl (by decide +kernel) ⟨Nat.le_of_ble_eq_true rfl, Nat.le_of_ble_eq_true rfl⟩) ⟨bl_rw, va_recv hK (hP.sub (ws' := [(h, .inr (3, [.ref hB, .ref q1, .ref q2, .ref q3, .ref q4, .ref q5, .ref q6, .ref q7, .ref q8, .ref q9, .ref q10, .ref q11, .ref q12, .ref q13])), (q6, .inl (cZ, 40, .inl (upd cb k 0))), (q8, .inl (cJ, 40, .inr (.inl gb)))]) [0, 5, 7] rfl) (ci := 3) (q0 := 0) rfl rfl, fun U hU hW => ⟨rfl, by rw [hU], by rw [hU]; exact (hP.sub (ws' := [(h, .inr (3, [.ref hB, .ref q1, .ref q2, .ref q3, .ref q4, .ref q5, .ref q6, .ref q7, .ref q8, .ref q9, .ref q10, .ref q11, .ref q12, .ref q13])), (q6, .inl (cZ, 40, .inl (upd cb k 0))), (q8, .inl (cJ, 40, .inr (.inl gb)))]) [0, 5, 7] rfl), hE.warm2 hW, (hD.sub (ws' := [(h, .inr (3, [.ref hB, .ref q1, .ref q2, .ref q3, .ref q4, .ref q5, .ref q6, .ref q7, .ref q8, .ref q9, .ref q10, .ref q11, .ref q12, .ref q13])), (q6, .inl (cZ, 40, .inl (upd cb k 0))), (q8, .inl (cJ, 40, .inr (.inl gb)))]) [0, 5, 7] (by decide) rfl).weaken (fun _ _ _ _ => trivial)⟩⟩ rfl rfl hl.1 rfl (lv_room (Nat.le_of_ble_eq_true rfl)) dX3_work_111 ⟨Nat.zero_le _, Nat.zero_le _⟩) (fun H locs hP hD hS => ?_)
    refine lv_goto (tgt := 185) hx hb dX3_work_114 (by decide) ?_
    have w_outcomes : (upd oc k 1) = (upd oc k (wOut (ok k) (ra k) (rb k) (Int32.toInt64 (ck k)))) := by simp [wOut, wChA, wChB, wGA, wGB, upd_upd, updL_updL, e57]
    have w_changesA : (upd ca k 0) = (upd ca k (wChA (ok k) (ak k) (bk k) (ra k) (Int32.toInt64 (ck k)))) := by simp [wOut, wChA, wChB, wGA, wGB, upd_upd, updL_updL, e57]
    have w_changesB : (upd (upd cb k 0) k 1) = (upd cb k (wChB (ok k) (ak k) (bk k) (ra k) (rb k) (Int32.toInt64 (ck k)))) := by simp [wOut, wChA, wChB, wGA, wGB, upd_upd, updL_updL, e57]
    have w_givesA : ga = (if wChA (ok k) (ak k) (bk k) (ra k) (Int32.toInt64 (ck k)) = 1 then vp_updL ga k (wGA (ok k) (ra k) (rb k) (Int32.toInt64 (ck k))) else ga) := by simp [wOut, wChA, wChB, wGA, wGB, upd_upd, updL_updL, e57]
    have w_givesB : (vp_updL gb k (((rb k) + (ra k)) + (Int32.toInt64 (ck k)))) = (if wChB (ok k) (ak k) (bk k) (ra k) (rb k) (Int32.toInt64 (ck k)) = 1 then vp_updL gb k (wGB (ok k) (ra k) (rb k) (Int32.toInt64 (ck k))) else gb) := by simp [wOut, wChA, wChB, wGA, wGB, upd_upd, updL_updL, e57]
    rw [w_outcomes, w_changesA, w_changesB, w_givesA, w_givesB] at hP hD
    exact W.vret hx hb hr (fun t ht hW => ⟨⟨(), rfl, trivial, by rw [ht]; exact hP, by exact hD⟩, hS.F ht⟩) hS.2.2 dX3_work_185
  · refine lv_tableIn (off := 60) (tgt := 117) hx hb dX3_work_57 (by rw [e57]; decide) (by rw [e57]; decide) (by rw [e57]; rfl) (by decide) ?_
    refine lv_aload_n hx hb dX3_work_117 rfl (lv_at hl 3 rfl) ?_
    refine lv_iload_n hx hb dX3_work_118 rfl (lv_at hl 4 rfl) ?_
    refine lv_lload_n hx hb dX3_work_119 rfl (lv_at hl 2 rfl) ?_
    refine lv_lload hx hb dX3_work_120 (lv_at hl 1 rfl) ?_
    refine lv_lload hx hb dX3_work_122 (lv_at hl 0 rfl) ?_
    refine x_callv (wc := [(h, .inr (3, [.ref hB, .ref q1, .ref q2, .ref q3, .ref q4, .ref q5, .ref q6, .ref q7, .ref q8, .ref q9, .ref q10, .ref q11, .ref q12, .ref q13])), (q9, .inl (cI, 40, .inl (upd oc k 1))), (q5, .inl (cZ, 40, .inl (upd ca k 0))), (q6, .inl (cZ, 40, .inl (upd cb k 0))), (q7, .inl (cJ, 40, .inr (.inl ga))), (q8, .inl (cJ, 40, .inr (.inl gb))), (hB, .inr (0, [.int bz, .ref b1, .ref b2, .ref b3, .ref b4, .ref b5, .ref b6])), (b2, .inl (cI, 40, .inl ak)), (b3, .inl (cI, 40, .inl bk))]) (wc' := [(h, .inr (3, [.ref hB, .ref q1, .ref q2, .ref q3, .ref q4, .ref q5, .ref q6, .ref q7, .ref q8, .ref q9, .ref q10, .ref q11, .ref q12, .ref q13])), (q9, .inl (cI, 40, .inl (if (ra k) < (Int32.toInt64 (ck k)) ∨ (Int32.toInt64 (ck k)) < 0 then upd (upd oc k 1) k 2 else (upd oc k 1)))), (q5, .inl (cZ, 40, .inl (if ((ra k) < (Int32.toInt64 (ck k)) ∨ (Int32.toInt64 (ck k)) < 0) ∨ ak k = bk k then (upd ca k 0) else upd (upd ca k 0) k 1))), (q6, .inl (cZ, 40, .inl (if ((ra k) < (Int32.toInt64 (ck k)) ∨ (Int32.toInt64 (ck k)) < 0) ∨ ak k = bk k then (upd cb k 0) else upd (upd cb k 0) k 1))), (q7, .inl (cJ, 40, .inr (.inl (if ((ra k) < (Int32.toInt64 (ck k)) ∨ (Int32.toInt64 (ck k)) < 0) ∨ ak k = bk k then ga else vp_updL ga k ((ra k) - (Int32.toInt64 (ck k))))))), (q8, .inl (cJ, 40, .inr (.inl (if ((ra k) < (Int32.toInt64 (ck k)) ∨ (Int32.toInt64 (ck k)) < 0) ∨ ak k = bk k then gb else vp_updL gb k ((rb k) + (Int32.toInt64 (ck k))))))), (hB, .inr (0, [.int bz, .ref b1, .ref b2, .ref b3, .ref b4, .ref b5, .ref b6])), (b2, .inl (cI, 40, .inl ak)), (b3, .inl (cI, 40, .inl bk))]) (wr := [(q3, .inl (cJ, 40, .inr (.inl ra))), (q4, .inl (cJ, 40, .inr (.inl rb))), (b1, .inl (cI, 40, .inl ok)), (b4, .inl (cI, 40, .inl ck))]) (ws' := [(h, .inr (3, [.ref hB, .ref q1, .ref q2, .ref q3, .ref q4, .ref q5, .ref q6, .ref q7, .ref q8, .ref q9, .ref q10, .ref q11, .ref q12, .ref q13])), (q3, .inl (cJ, 40, .inr (.inl ra))), (q4, .inl (cJ, 40, .inr (.inl rb))), (q9, .inl (cI, 40, .inl (if (ra k) < (Int32.toInt64 (ck k)) ∨ (Int32.toInt64 (ck k)) < 0 then upd (upd oc k 1) k 2 else (upd oc k 1)))), (q5, .inl (cZ, 40, .inl (if ((ra k) < (Int32.toInt64 (ck k)) ∨ (Int32.toInt64 (ck k)) < 0) ∨ ak k = bk k then (upd ca k 0) else upd (upd ca k 0) k 1))), (q6, .inl (cZ, 40, .inl (if ((ra k) < (Int32.toInt64 (ck k)) ∨ (Int32.toInt64 (ck k)) < 0) ∨ ak k = bk k then (upd cb k 0) else upd (upd cb k 0) k 1))), (q7, .inl (cJ, 40, .inr (.inl (if ((ra k) < (Int32.toInt64 (ck k)) ∨ (Int32.toInt64 (ck k)) < 0) ∨ ak k = bk k then ga else vp_updL ga k ((ra k) - (Int32.toInt64 (ck k))))))), (q8, .inl (cJ, 40, .inr (.inl (if ((ra k) < (Int32.toInt64 (ck k)) ∨ (Int32.toInt64 (ck k)) < 0) ∨ ak k = bk k then gb else vp_updL gb k ((rb k) + (Int32.toInt64 (ck k))))))), (hB, .inr (0, [.int bz, .ref b1, .ref b2, .ref b3, .ref b4, .ref b5, .ref b6])), (b1, .inl (cI, 40, .inl ok)), (b2, .inl (cI, 40, .inl ak)), (b3, .inl (cI, 40, .inl bk)), (b4, .inl (cI, 40, .inl ck))]) hP hD hS hA [0, 3, 4, 5, 6, 7, 8, 10, 11] [1, 2, 9, 12] rfl rfl (by decide) (by decide) [4, 0, 1, 5, 6, 7, 8, 9, 10, 2, 11, 12, 3] (by decide) rfl (va_runV (As := [.int (nI k), .long (ra k), .long (rb k), .long (Int32.toInt64 (ck k))]) (rest := []) ⟨hx, hb, hml, hown, hts⟩ (k_pay l D cI cJ cZ H.size h hB q1 q2 q3 q4 q5 q6 q7 q8 q9 q10 q11 q12 q13 (upd oc k 1) (upd ca k 0) (upd cb k 0) ga gb b1 b2 b3 b4 b5 b6 bz ak bk k hk (ra k) (rb k) (Int32.toInt64 (ck k)) (upd_s _ _ _)) (cwV 4 hts gX3_work_X3_pay rfl rfl rfl (by decide +kernel) ⟨Nat.le_of_ble_eq_true rfl, Nat.le_of_ble_eq_true rfl⟩) ⟨bl_rw, va_recv hK (hP.sub (ws' := [(h, .inr (3, [.ref hB, .ref q1, .ref q2, .ref q3, .ref q4, .ref q5, .ref q6, .ref q7, .ref q8, .ref q9, .ref q10, .ref q11, .ref q12, .ref q13])), (q9, .inl (cI, 40, .inl (upd oc k 1))), (q5, .inl (cZ, 40, .inl (upd ca k 0))), (q6, .inl (cZ, 40, .inl (upd cb k 0))), (q7, .inl (cJ, 40, .inr (.inl ga))), (q8, .inl (cJ, 40, .inr (.inl gb))), (hB, .inr (0, [.int bz, .ref b1, .ref b2, .ref b3, .ref b4, .ref b5, .ref b6])), (b2, .inl (cI, 40, .inl ak)), (b3, .inl (cI, 40, .inl bk))]) [0, 3, 4, 5, 6, 7, 8, 10, 11] rfl) (ci := 3) (q0 := 0) rfl rfl, fun U hU hW => ⟨rfl, by rw [hU], by rw [hU]; exact (hP.sub (ws' := [(h, .inr (3, [.ref hB, .ref q1, .ref q2, .ref q3, .ref q4, .ref q5, .ref q6, .ref q7, .ref q8, .ref q9, .ref q10, .ref q11, .ref q12, .ref q13])), (q9, .inl (cI, 40, .inl (upd oc k 1))), (q5, .inl (cZ, 40, .inl (upd ca k 0))), (q6, .inl (cZ, 40, .inl (upd cb k 0))), (q7, .inl (cJ, 40, .inr (.inl ga))), (q8, .inl (cJ, 40, .inr (.inl gb))), (hB, .inr (0, [.int bz, .ref b1, .ref b2, .ref b3, .ref b4, .ref b5, .ref b6])), (b2, .inl (cI, 40, .inl ak)), (b3, .inl (cI, 40, .inl bk))]) [0, 3, 4, 5, 6, 7, 8, 10, 11] rfl), hE.warm2 hW, (hD.sub (ws' := [(h, .inr (3, [.ref hB, .ref q1, .ref q2, .ref q3, .ref q4, .ref q5, .ref q6, .ref q7, .ref q8, .ref q9, .ref q10, .ref q11, .ref q12, .ref q13])), (q9, .inl (cI, 40, .inl (upd oc k 1))), (q5, .inl (cZ, 40, .inl (upd ca k 0))), (q6, .inl (cZ, 40, .inl (upd cb k 0))), (q7, .inl (cJ, 40, .inr (.inl ga))), (q8, .inl (cJ, 40, .inr (.inl gb))), (hB, .inr (0, [.int bz, .ref b1, .ref b2, .ref b3, .ref b4, .ref b5, .ref b6])), (b2, .inl (cI, 40, .inl ak)), (b3, .inl (cI, 40, .inl bk))]) [0, 3, 4, 5, 6, 7, 8, 10, 11] (by decide) rfl).weaken (fun _ _ _ _ => trivial)⟩⟩ rfl rfl hl.1 rfl (lv_room (Nat.le_of_ble_eq_true rfl)) dX3_work_124 ⟨Nat.zero_le _, Nat.zero_le _⟩) (fun H locs hP hD hS => ?_)
    refine lv_goto (tgt := 185) hx hb dX3_work_127 (by decide) ?_
    have w_outcomes : (if (ra k) < (Int32.toInt64 (ck k)) ∨ (Int32.toInt64 (ck k)) < 0 then upd (upd oc k 1) k 2 else (upd oc k 1)) = (upd oc k (wOut (ok k) (ra k) (rb k) (Int32.toInt64 (ck k)))) := by by_cases hp : ra k < Int32.toInt64 (ck k) ∨ Int32.toInt64 (ck k) < 0 <;> simp [wOut, e57, hp, upd_upd]
    have w_changesA : (if ((ra k) < (Int32.toInt64 (ck k)) ∨ (Int32.toInt64 (ck k)) < 0) ∨ ak k = bk k then (upd ca k 0) else upd (upd ca k 0) k 1) = (upd ca k (wChA (ok k) (ak k) (bk k) (ra k) (Int32.toInt64 (ck k)))) := by by_cases hp : (ra k < Int32.toInt64 (ck k) ∨ Int32.toInt64 (ck k) < 0) ∨ ak k = bk k <;> simp [wChA, e57, hp, upd_upd]
    have w_changesB : (if ((ra k) < (Int32.toInt64 (ck k)) ∨ (Int32.toInt64 (ck k)) < 0) ∨ ak k = bk k then (upd cb k 0) else upd (upd cb k 0) k 1) = (upd cb k (wChB (ok k) (ak k) (bk k) (ra k) (rb k) (Int32.toInt64 (ck k)))) := by by_cases hp : (ra k < Int32.toInt64 (ck k) ∨ Int32.toInt64 (ck k) < 0) ∨ ak k = bk k <;> simp [wChB, e57, hp, upd_upd]
    have w_givesA : (if ((ra k) < (Int32.toInt64 (ck k)) ∨ (Int32.toInt64 (ck k)) < 0) ∨ ak k = bk k then ga else vp_updL ga k ((ra k) - (Int32.toInt64 (ck k)))) = (if wChA (ok k) (ak k) (bk k) (ra k) (Int32.toInt64 (ck k)) = 1 then vp_updL ga k (wGA (ok k) (ra k) (rb k) (Int32.toInt64 (ck k))) else ga) := by by_cases hp : (ra k < Int32.toInt64 (ck k) ∨ Int32.toInt64 (ck k) < 0) ∨ ak k = bk k <;> simp [wChA, wGA, e57, hp]
    have w_givesB : (if ((ra k) < (Int32.toInt64 (ck k)) ∨ (Int32.toInt64 (ck k)) < 0) ∨ ak k = bk k then gb else vp_updL gb k ((rb k) + (Int32.toInt64 (ck k)))) = (if wChB (ok k) (ak k) (bk k) (ra k) (rb k) (Int32.toInt64 (ck k)) = 1 then vp_updL gb k (wGB (ok k) (ra k) (rb k) (Int32.toInt64 (ck k))) else gb) := by by_cases hp : (ra k < Int32.toInt64 (ck k) ∨ Int32.toInt64 (ck k) < 0) ∨ ak k = bk k <;> simp [wChB, wGB, e57, hp]
    rw [w_outcomes, w_changesA, w_changesB, w_givesA, w_givesB] at hP hD
    exact W.vret hx hb hr (fun t ht hW => ⟨⟨(), rfl, trivial, by rw [ht]; exact hP, by exact hD⟩, hS.F ht⟩) hS.2.2 dX3_work_185
  · refine lv_tableIn (off := 73) (tgt := 130) hx hb dX3_work_57 (by rw [e57]; decide) (by rw [e57]; decide) (by rw [e57]; rfl) (by decide) ?_
    refine lv_aload_n hx hb dX3_work_130 rfl (lv_at hl 3 rfl) ?_
    refine lv_iload_n hx hb dX3_work_131 rfl (lv_at hl 4 rfl) ?_
    refine lv_lload_n hx hb dX3_work_132 rfl (lv_at hl 2 rfl) ?_
    refine lv_lload hx hb dX3_work_133 (lv_at hl 0 rfl) ?_
    refine W.lcmp hx hb dX3_work_135 ?_
    refine lv_if_lt (tgt := 143) hx hb dX3_work_136 (by decide) (fun c136 => ?_) (fun c136 => ?_)
    · have c136 := (lg_cmp_lt _ _).mp c136
      refine lv_iconst (v := 0) hx hb dX3_work_143 (by decide) ?_
      refine x_callv (wc := [(h, .inr (3, [.ref hB, .ref q1, .ref q2, .ref q3, .ref q4, .ref q5, .ref q6, .ref q7, .ref q8, .ref q9, .ref q10, .ref q11, .ref q12, .ref q13])), (q9, .inl (cI, 40, .inl (upd oc k 1)))]) (wc' := [(h, .inr (3, [.ref hB, .ref q1, .ref q2, .ref q3, .ref q4, .ref q5, .ref q6, .ref q7, .ref q8, .ref q9, .ref q10, .ref q11, .ref q12, .ref q13])), (q9, .inl (cI, 40, .inl (upd (upd oc k 1) k 2)))]) (wr := [(q3, .inl (cJ, 40, .inr (.inl ra))), (q4, .inl (cJ, 40, .inr (.inl rb))), (q5, .inl (cZ, 40, .inl (upd ca k 0))), (q6, .inl (cZ, 40, .inl (upd cb k 0))), (q7, .inl (cJ, 40, .inr (.inl ga))), (q8, .inl (cJ, 40, .inr (.inl gb))), (hB, .inr (0, [.int bz, .ref b1, .ref b2, .ref b3, .ref b4, .ref b5, .ref b6])), (b1, .inl (cI, 40, .inl ok)), (b2, .inl (cI, 40, .inl ak)), (b3, .inl (cI, 40, .inl bk)), (b4, .inl (cI, 40, .inl ck))]) (ws' := [(h, .inr (3, [.ref hB, .ref q1, .ref q2, .ref q3, .ref q4, .ref q5, .ref q6, .ref q7, .ref q8, .ref q9, .ref q10, .ref q11, .ref q12, .ref q13])), (q3, .inl (cJ, 40, .inr (.inl ra))), (q4, .inl (cJ, 40, .inr (.inl rb))), (q9, .inl (cI, 40, .inl (upd (upd oc k 1) k 2))), (q5, .inl (cZ, 40, .inl (upd ca k 0))), (q6, .inl (cZ, 40, .inl (upd cb k 0))), (q7, .inl (cJ, 40, .inr (.inl ga))), (q8, .inl (cJ, 40, .inr (.inl gb))), (hB, .inr (0, [.int bz, .ref b1, .ref b2, .ref b3, .ref b4, .ref b5, .ref b6])), (b1, .inl (cI, 40, .inl ok)), (b2, .inl (cI, 40, .inl ak)), (b3, .inl (cI, 40, .inl bk)), (b4, .inl (cI, 40, .inl ck))]) hP hD hS hA [0, 3] [1, 2, 4, 5, 6, 7, 8, 9, 10, 11, 12] rfl rfl (by decide) (by decide) [11, 0, 1, 12, 2, 3, 4, 5, 6, 7, 8, 9, 10] (by decide) rfl (va_runV (As := [.int (nI k), .int 0]) (rest := []) ⟨hx, hb, hml, hown, hts⟩ (k_fail0 l D cI cJ cZ H.size h hB q1 q2 q3 q4 q5 q6 q7 q8 q9 q10 q11 q12 q13 (upd oc k 1) k hk) (cwV 2 hts gX3_work_X3_failUnless rfl rfl rfl (by decide +kernel) ⟨Nat.le_of_ble_eq_true rfl, Nat.le_of_ble_eq_true rfl⟩) ⟨bl_rw, va_recv hK (hP.sub (ws' := [(h, .inr (3, [.ref hB, .ref q1, .ref q2, .ref q3, .ref q4, .ref q5, .ref q6, .ref q7, .ref q8, .ref q9, .ref q10, .ref q11, .ref q12, .ref q13])), (q9, .inl (cI, 40, .inl (upd oc k 1)))]) [0, 3] rfl) (ci := 3) (q0 := 0) rfl rfl, fun U hU hW => ⟨rfl, by rw [hU], by rw [hU]; exact (hP.sub (ws' := [(h, .inr (3, [.ref hB, .ref q1, .ref q2, .ref q3, .ref q4, .ref q5, .ref q6, .ref q7, .ref q8, .ref q9, .ref q10, .ref q11, .ref q12, .ref q13])), (q9, .inl (cI, 40, .inl (upd oc k 1)))]) [0, 3] rfl), hE.warm2 hW, (hD.sub (ws' := [(h, .inr (3, [.ref hB, .ref q1, .ref q2, .ref q3, .ref q4, .ref q5, .ref q6, .ref q7, .ref q8, .ref q9, .ref q10, .ref q11, .ref q12, .ref q13])), (q9, .inl (cI, 40, .inl (upd oc k 1)))]) [0, 3] (by decide) rfl).weaken (fun _ _ _ _ => trivial)⟩⟩ rfl rfl hl.1 rfl (lv_room (Nat.le_of_ble_eq_true rfl)) dX3_work_144 ⟨Nat.zero_le _, Nat.zero_le _⟩) (fun H locs hP hD hS => ?_)
      refine lv_goto (tgt := 185) hx hb dX3_work_147 (by decide) ?_
      have w_outcomes : (upd (upd oc k 1) k 2) = (upd oc k (wOut (ok k) (ra k) (rb k) (Int32.toInt64 (ck k)))) := by simp [wOut, wChA, wChB, wGA, wGB, upd_upd, updL_updL, e57, c136]
      have w_changesA : (upd ca k 0) = (upd ca k (wChA (ok k) (ak k) (bk k) (ra k) (Int32.toInt64 (ck k)))) := by simp [wOut, wChA, wChB, wGA, wGB, upd_upd, updL_updL, e57, c136]
      have w_changesB : (upd cb k 0) = (upd cb k (wChB (ok k) (ak k) (bk k) (ra k) (rb k) (Int32.toInt64 (ck k)))) := by simp [wOut, wChA, wChB, wGA, wGB, upd_upd, updL_updL, e57, c136]
      have w_givesA : ga = (if wChA (ok k) (ak k) (bk k) (ra k) (Int32.toInt64 (ck k)) = 1 then vp_updL ga k (wGA (ok k) (ra k) (rb k) (Int32.toInt64 (ck k))) else ga) := by simp [wOut, wChA, wChB, wGA, wGB, upd_upd, updL_updL, e57, c136]
      have w_givesB : gb = (if wChB (ok k) (ak k) (bk k) (ra k) (rb k) (Int32.toInt64 (ck k)) = 1 then vp_updL gb k (wGB (ok k) (ra k) (rb k) (Int32.toInt64 (ck k))) else gb) := by simp [wOut, wChA, wChB, wGA, wGB, upd_upd, updL_updL, e57, c136]
      rw [w_outcomes, w_changesA, w_changesB, w_givesA, w_givesB] at hP hD
      exact W.vret hx hb hr (fun t ht hW => ⟨⟨(), rfl, trivial, by rw [ht]; exact hP, by exact hD⟩, hS.F ht⟩) hS.2.2 dX3_work_185
    · have c136 := _root_.mt (lg_cmp_lt _ _).mpr c136
      refine lv_iconst (v := 1) hx hb dX3_work_139 (by decide) ?_
      refine lv_goto (tgt := 144) hx hb dX3_work_140 (by decide) ?_
      refine x_callv (wc := [(h, .inr (3, [.ref hB, .ref q1, .ref q2, .ref q3, .ref q4, .ref q5, .ref q6, .ref q7, .ref q8, .ref q9, .ref q10, .ref q11, .ref q12, .ref q13])), (q9, .inl (cI, 40, .inl (upd oc k 1)))]) (wc' := [(h, .inr (3, [.ref hB, .ref q1, .ref q2, .ref q3, .ref q4, .ref q5, .ref q6, .ref q7, .ref q8, .ref q9, .ref q10, .ref q11, .ref q12, .ref q13])), (q9, .inl (cI, 40, .inl (upd oc k 1)))]) (wr := [(q3, .inl (cJ, 40, .inr (.inl ra))), (q4, .inl (cJ, 40, .inr (.inl rb))), (q5, .inl (cZ, 40, .inl (upd ca k 0))), (q6, .inl (cZ, 40, .inl (upd cb k 0))), (q7, .inl (cJ, 40, .inr (.inl ga))), (q8, .inl (cJ, 40, .inr (.inl gb))), (hB, .inr (0, [.int bz, .ref b1, .ref b2, .ref b3, .ref b4, .ref b5, .ref b6])), (b1, .inl (cI, 40, .inl ok)), (b2, .inl (cI, 40, .inl ak)), (b3, .inl (cI, 40, .inl bk)), (b4, .inl (cI, 40, .inl ck))]) (ws' := [(h, .inr (3, [.ref hB, .ref q1, .ref q2, .ref q3, .ref q4, .ref q5, .ref q6, .ref q7, .ref q8, .ref q9, .ref q10, .ref q11, .ref q12, .ref q13])), (q3, .inl (cJ, 40, .inr (.inl ra))), (q4, .inl (cJ, 40, .inr (.inl rb))), (q9, .inl (cI, 40, .inl (upd oc k 1))), (q5, .inl (cZ, 40, .inl (upd ca k 0))), (q6, .inl (cZ, 40, .inl (upd cb k 0))), (q7, .inl (cJ, 40, .inr (.inl ga))), (q8, .inl (cJ, 40, .inr (.inl gb))), (hB, .inr (0, [.int bz, .ref b1, .ref b2, .ref b3, .ref b4, .ref b5, .ref b6])), (b1, .inl (cI, 40, .inl ok)), (b2, .inl (cI, 40, .inl ak)), (b3, .inl (cI, 40, .inl bk)), (b4, .inl (cI, 40, .inl ck))]) hP hD hS hA [0, 3] [1, 2, 4, 5, 6, 7, 8, 9, 10, 11, 12] rfl rfl (by decide) (by decide) [11, 0, 1, 12, 2, 3, 4, 5, 6, 7, 8, 9, 10] (by decide) rfl (va_runV (As := [.int (nI k), .int 1]) (rest := []) ⟨hx, hb, hml, hown, hts⟩ (k_fail1 l D cI cJ cZ H.size h hB q1 q2 q3 q4 q5 q6 q7 q8 q9 q10 q11 q12 q13 (upd oc k 1) k hk) (cwV 2 hts gX3_work_X3_failUnless rfl rfl rfl (by decide +kernel) ⟨Nat.le_of_ble_eq_true rfl, Nat.le_of_ble_eq_true rfl⟩) ⟨bl_rw, va_recv hK (hP.sub (ws' := [(h, .inr (3, [.ref hB, .ref q1, .ref q2, .ref q3, .ref q4, .ref q5, .ref q6, .ref q7, .ref q8, .ref q9, .ref q10, .ref q11, .ref q12, .ref q13])), (q9, .inl (cI, 40, .inl (upd oc k 1)))]) [0, 3] rfl) (ci := 3) (q0 := 0) rfl rfl, fun U hU hW => ⟨rfl, by rw [hU], by rw [hU]; exact (hP.sub (ws' := [(h, .inr (3, [.ref hB, .ref q1, .ref q2, .ref q3, .ref q4, .ref q5, .ref q6, .ref q7, .ref q8, .ref q9, .ref q10, .ref q11, .ref q12, .ref q13])), (q9, .inl (cI, 40, .inl (upd oc k 1)))]) [0, 3] rfl), hE.warm2 hW, (hD.sub (ws' := [(h, .inr (3, [.ref hB, .ref q1, .ref q2, .ref q3, .ref q4, .ref q5, .ref q6, .ref q7, .ref q8, .ref q9, .ref q10, .ref q11, .ref q12, .ref q13])), (q9, .inl (cI, 40, .inl (upd oc k 1)))]) [0, 3] (by decide) rfl).weaken (fun _ _ _ _ => trivial)⟩⟩ rfl rfl hl.1 rfl (lv_room (Nat.le_of_ble_eq_true rfl)) dX3_work_144 ⟨Nat.zero_le _, Nat.zero_le _⟩) (fun H locs hP hD hS => ?_)
      refine lv_goto (tgt := 185) hx hb dX3_work_147 (by decide) ?_
      have w_outcomes : (upd oc k 1) = (upd oc k (wOut (ok k) (ra k) (rb k) (Int32.toInt64 (ck k)))) := by simp [wOut, wChA, wChB, wGA, wGB, upd_upd, updL_updL, e57, c136]
      have w_changesA : (upd ca k 0) = (upd ca k (wChA (ok k) (ak k) (bk k) (ra k) (Int32.toInt64 (ck k)))) := by simp [wOut, wChA, wChB, wGA, wGB, upd_upd, updL_updL, e57, c136]
      have w_changesB : (upd cb k 0) = (upd cb k (wChB (ok k) (ak k) (bk k) (ra k) (rb k) (Int32.toInt64 (ck k)))) := by simp [wOut, wChA, wChB, wGA, wGB, upd_upd, updL_updL, e57, c136]
      have w_givesA : ga = (if wChA (ok k) (ak k) (bk k) (ra k) (Int32.toInt64 (ck k)) = 1 then vp_updL ga k (wGA (ok k) (ra k) (rb k) (Int32.toInt64 (ck k))) else ga) := by simp [wOut, wChA, wChB, wGA, wGB, upd_upd, updL_updL, e57, c136]
      have w_givesB : gb = (if wChB (ok k) (ak k) (bk k) (ra k) (rb k) (Int32.toInt64 (ck k)) = 1 then vp_updL gb k (wGB (ok k) (ra k) (rb k) (Int32.toInt64 (ck k))) else gb) := by simp [wOut, wChA, wChB, wGA, wGB, upd_upd, updL_updL, e57, c136]
      rw [w_outcomes, w_changesA, w_changesB, w_givesA, w_givesB] at hP hD
      exact W.vret hx hb hr (fun t ht hW => ⟨⟨(), rfl, trivial, by rw [ht]; exact hP, by exact hD⟩, hS.F ht⟩) hS.2.2 dX3_work_185
  · refine lv_tableIn (off := 93) (tgt := 150) hx hb dX3_work_57 (by rw [e57]; decide) (by rw [e57]; decide) (by rw [e57]; rfl) (by decide) ?_
    refine lv_aload_n hx hb dX3_work_150 rfl (lv_at hl 3 rfl) ?_
    refine lv_iload_n hx hb dX3_work_151 rfl (lv_at hl 4 rfl) ?_
    refine lv_lload hx hb dX3_work_152 (lv_at hl 1 rfl) ?_
    refine x_callv (wc := [(h, .inr (3, [.ref hB, .ref q1, .ref q2, .ref q3, .ref q4, .ref q5, .ref q6, .ref q7, .ref q8, .ref q9, .ref q10, .ref q11, .ref q12, .ref q13])), (q5, .inl (cZ, 40, .inl (upd ca k 0))), (q7, .inl (cJ, 40, .inr (.inl ga)))]) (wc' := [(h, .inr (3, [.ref hB, .ref q1, .ref q2, .ref q3, .ref q4, .ref q5, .ref q6, .ref q7, .ref q8, .ref q9, .ref q10, .ref q11, .ref q12, .ref q13])), (q5, .inl (cZ, 40, .inl (upd (upd ca k 0) k 1))), (q7, .inl (cJ, 40, .inr (.inl (vp_updL ga k (rb k)))))]) (wr := [(q3, .inl (cJ, 40, .inr (.inl ra))), (q4, .inl (cJ, 40, .inr (.inl rb))), (q9, .inl (cI, 40, .inl (upd oc k 1))), (q6, .inl (cZ, 40, .inl (upd cb k 0))), (q8, .inl (cJ, 40, .inr (.inl gb))), (hB, .inr (0, [.int bz, .ref b1, .ref b2, .ref b3, .ref b4, .ref b5, .ref b6])), (b1, .inl (cI, 40, .inl ok)), (b2, .inl (cI, 40, .inl ak)), (b3, .inl (cI, 40, .inl bk)), (b4, .inl (cI, 40, .inl ck))]) (ws' := [(h, .inr (3, [.ref hB, .ref q1, .ref q2, .ref q3, .ref q4, .ref q5, .ref q6, .ref q7, .ref q8, .ref q9, .ref q10, .ref q11, .ref q12, .ref q13])), (q3, .inl (cJ, 40, .inr (.inl ra))), (q4, .inl (cJ, 40, .inr (.inl rb))), (q9, .inl (cI, 40, .inl (upd oc k 1))), (q5, .inl (cZ, 40, .inl (upd (upd ca k 0) k 1))), (q6, .inl (cZ, 40, .inl (upd cb k 0))), (q7, .inl (cJ, 40, .inr (.inl (vp_updL ga k (rb k))))), (q8, .inl (cJ, 40, .inr (.inl gb))), (hB, .inr (0, [.int bz, .ref b1, .ref b2, .ref b3, .ref b4, .ref b5, .ref b6])), (b1, .inl (cI, 40, .inl ok)), (b2, .inl (cI, 40, .inl ak)), (b3, .inl (cI, 40, .inl bk)), (b4, .inl (cI, 40, .inl ck))]) hP hD hS hA [0, 4, 6] [1, 2, 3, 5, 7, 8, 9, 10, 11, 12] rfl rfl (by decide) (by decide) [10, 0, 1, 2, 11, 3, 12, 4, 5, 6, 7, 8, 9] (by decide) rfl (va_runV (As := [.int (nI k), .long (rb k)]) (rest := []) ⟨hx, hb, hml, hown, hts⟩ (k_giveA l D cI cJ cZ H.size h hB q1 q2 q3 q4 q5 q6 q7 q8 q9 q10 q11 q12 q13 (upd ca k 0) ga k hk (rb k)) (cwV 2 hts gX3_work_X3_giveA rfl rfl rfl (by decide +kernel) ⟨Nat.le_of_ble_eq_true rfl, Nat.le_of_ble_eq_true rfl⟩) ⟨bl_rw, va_recv hK (hP.sub (ws' := [(h, .inr (3, [.ref hB, .ref q1, .ref q2, .ref q3, .ref q4, .ref q5, .ref q6, .ref q7, .ref q8, .ref q9, .ref q10, .ref q11, .ref q12, .ref q13])), (q5, .inl (cZ, 40, .inl (upd ca k 0))), (q7, .inl (cJ, 40, .inr (.inl ga)))]) [0, 4, 6] rfl) (ci := 3) (q0 := 0) rfl rfl, fun U hU hW => ⟨rfl, by rw [hU], by rw [hU]; exact (hP.sub (ws' := [(h, .inr (3, [.ref hB, .ref q1, .ref q2, .ref q3, .ref q4, .ref q5, .ref q6, .ref q7, .ref q8, .ref q9, .ref q10, .ref q11, .ref q12, .ref q13])), (q5, .inl (cZ, 40, .inl (upd ca k 0))), (q7, .inl (cJ, 40, .inr (.inl ga)))]) [0, 4, 6] rfl), hE.warm2 hW, (hD.sub (ws' := [(h, .inr (3, [.ref hB, .ref q1, .ref q2, .ref q3, .ref q4, .ref q5, .ref q6, .ref q7, .ref q8, .ref q9, .ref q10, .ref q11, .ref q12, .ref q13])), (q5, .inl (cZ, 40, .inl (upd ca k 0))), (q7, .inl (cJ, 40, .inr (.inl ga)))]) [0, 4, 6] (by decide) rfl).weaken (fun _ _ _ _ => trivial)⟩⟩ rfl rfl hl.1 rfl (lv_room (Nat.le_of_ble_eq_true rfl)) dX3_work_154 ⟨Nat.zero_le _, Nat.zero_le _⟩) (fun H locs hP hD hS => ?_)
    refine lv_aload_n hx hb dX3_work_157 rfl (lv_at hl 3 rfl) ?_
    refine lv_iload_n hx hb dX3_work_158 rfl (lv_at hl 4 rfl) ?_
    refine lv_lload_n hx hb dX3_work_159 rfl (lv_at hl 2 rfl) ?_
    refine x_callv (wc := [(h, .inr (3, [.ref hB, .ref q1, .ref q2, .ref q3, .ref q4, .ref q5, .ref q6, .ref q7, .ref q8, .ref q9, .ref q10, .ref q11, .ref q12, .ref q13])), (q6, .inl (cZ, 40, .inl (upd cb k 0))), (q8, .inl (cJ, 40, .inr (.inl gb)))]) (wc' := [(h, .inr (3, [.ref hB, .ref q1, .ref q2, .ref q3, .ref q4, .ref q5, .ref q6, .ref q7, .ref q8, .ref q9, .ref q10, .ref q11, .ref q12, .ref q13])), (q6, .inl (cZ, 40, .inl (upd (upd cb k 0) k 1))), (q8, .inl (cJ, 40, .inr (.inl (vp_updL gb k (ra k)))))]) (wr := [(q3, .inl (cJ, 40, .inr (.inl ra))), (q4, .inl (cJ, 40, .inr (.inl rb))), (q9, .inl (cI, 40, .inl (upd oc k 1))), (q5, .inl (cZ, 40, .inl (upd (upd ca k 0) k 1))), (q7, .inl (cJ, 40, .inr (.inl (vp_updL ga k (rb k))))), (hB, .inr (0, [.int bz, .ref b1, .ref b2, .ref b3, .ref b4, .ref b5, .ref b6])), (b1, .inl (cI, 40, .inl ok)), (b2, .inl (cI, 40, .inl ak)), (b3, .inl (cI, 40, .inl bk)), (b4, .inl (cI, 40, .inl ck))]) (ws' := [(h, .inr (3, [.ref hB, .ref q1, .ref q2, .ref q3, .ref q4, .ref q5, .ref q6, .ref q7, .ref q8, .ref q9, .ref q10, .ref q11, .ref q12, .ref q13])), (q3, .inl (cJ, 40, .inr (.inl ra))), (q4, .inl (cJ, 40, .inr (.inl rb))), (q9, .inl (cI, 40, .inl (upd oc k 1))), (q5, .inl (cZ, 40, .inl (upd (upd ca k 0) k 1))), (q6, .inl (cZ, 40, .inl (upd (upd cb k 0) k 1))), (q7, .inl (cJ, 40, .inr (.inl (vp_updL ga k (rb k))))), (q8, .inl (cJ, 40, .inr (.inl (vp_updL gb k (ra k))))), (hB, .inr (0, [.int bz, .ref b1, .ref b2, .ref b3, .ref b4, .ref b5, .ref b6])), (b1, .inl (cI, 40, .inl ok)), (b2, .inl (cI, 40, .inl ak)), (b3, .inl (cI, 40, .inl bk)), (b4, .inl (cI, 40, .inl ck))]) hP hD hS hA [0, 5, 7] [1, 2, 3, 4, 6, 8, 9, 10, 11, 12] rfl rfl (by decide) (by decide) [10, 0, 1, 2, 3, 11, 4, 12, 5, 6, 7, 8, 9] (by decide) rfl (va_runV (As := [.int (nI k), .long (ra k)]) (rest := []) ⟨hx, hb, hml, hown, hts⟩ (k_giveB l D cI cJ cZ H.size h hB q1 q2 q3 q4 q5 q6 q7 q8 q9 q10 q11 q12 q13 (upd cb k 0) gb k hk (ra k)) (cwV 2 hts gX3_work_X3_giveB rfl rfl rfl (by decide +kernel) ⟨Nat.le_of_ble_eq_true rfl, Nat.le_of_ble_eq_true rfl⟩) ⟨bl_rw, va_recv hK (hP.sub (ws' := [(h, .inr (3, [.ref hB, .ref q1, .ref q2, .ref q3, .ref q4, .ref q5, .ref q6, .ref q7, .ref q8, .ref q9, .ref q10, .ref q11, .ref q12, .ref q13])), (q6, .inl (cZ, 40, .inl (upd cb k 0))), (q8, .inl (cJ, 40, .inr (.inl gb)))]) [0, 5, 7] rfl) (ci := 3) (q0 := 0) rfl rfl, fun U hU hW => ⟨rfl, by rw [hU], by rw [hU]; exact (hP.sub (ws' := [(h, .inr (3, [.ref hB, .ref q1, .ref q2, .ref q3, .ref q4, .ref q5, .ref q6, .ref q7, .ref q8, .ref q9, .ref q10, .ref q11, .ref q12, .ref q13])), (q6, .inl (cZ, 40, .inl (upd cb k 0))), (q8, .inl (cJ, 40, .inr (.inl gb)))]) [0, 5, 7] rfl), hE.warm2 hW, (hD.sub (ws' := [(h, .inr (3, [.ref hB, .ref q1, .ref q2, .ref q3, .ref q4, .ref q5, .ref q6, .ref q7, .ref q8, .ref q9, .ref q10, .ref q11, .ref q12, .ref q13])), (q6, .inl (cZ, 40, .inl (upd cb k 0))), (q8, .inl (cJ, 40, .inr (.inl gb)))]) [0, 5, 7] (by decide) rfl).weaken (fun _ _ _ _ => trivial)⟩⟩ rfl rfl hl.1 rfl (lv_room (Nat.le_of_ble_eq_true rfl)) dX3_work_160 ⟨Nat.zero_le _, Nat.zero_le _⟩) (fun H locs hP hD hS => ?_)
    refine lv_goto (tgt := 185) hx hb dX3_work_163 (by decide) ?_
    have w_outcomes : (upd oc k 1) = (upd oc k (wOut (ok k) (ra k) (rb k) (Int32.toInt64 (ck k)))) := by simp [wOut, wChA, wChB, wGA, wGB, upd_upd, updL_updL, e57]
    have w_changesA : (upd (upd ca k 0) k 1) = (upd ca k (wChA (ok k) (ak k) (bk k) (ra k) (Int32.toInt64 (ck k)))) := by simp [wOut, wChA, wChB, wGA, wGB, upd_upd, updL_updL, e57]
    have w_changesB : (upd (upd cb k 0) k 1) = (upd cb k (wChB (ok k) (ak k) (bk k) (ra k) (rb k) (Int32.toInt64 (ck k)))) := by simp [wOut, wChA, wChB, wGA, wGB, upd_upd, updL_updL, e57]
    have w_givesA : (vp_updL ga k (rb k)) = (if wChA (ok k) (ak k) (bk k) (ra k) (Int32.toInt64 (ck k)) = 1 then vp_updL ga k (wGA (ok k) (ra k) (rb k) (Int32.toInt64 (ck k))) else ga) := by simp [wOut, wChA, wChB, wGA, wGB, upd_upd, updL_updL, e57]
    have w_givesB : (vp_updL gb k (ra k)) = (if wChB (ok k) (ak k) (bk k) (ra k) (rb k) (Int32.toInt64 (ck k)) = 1 then vp_updL gb k (wGB (ok k) (ra k) (rb k) (Int32.toInt64 (ck k))) else gb) := by simp [wOut, wChA, wChB, wGA, wGB, upd_upd, updL_updL, e57]
    rw [w_outcomes, w_changesA, w_changesB, w_givesA, w_givesB] at hP hD
    exact W.vret hx hb hr (fun t ht hW => ⟨⟨(), rfl, trivial, by rw [ht]; exact hP, by exact hD⟩, hS.F ht⟩) hS.2.2 dX3_work_185
  · refine lv_tableOut (tgt := 166) hx hb dX3_work_57 (n5) (by decide) ?_
    refine lv_aload_n hx hb dX3_work_166 rfl (lv_at hl 3 rfl) ?_
    refine lv_iload_n hx hb dX3_work_167 rfl (lv_at hl 4 rfl) ?_
    refine lv_lload_n hx hb dX3_work_168 rfl (lv_at hl 2 rfl) ?_
    refine lv_lload hx hb dX3_work_169 (lv_at hl 1 rfl) ?_
    refine W.lcmp hx hb dX3_work_171 ?_
    refine lv_if_ne (tgt := 179) hx hb dX3_work_172 (by decide) (fun c172 => ?_) (fun c172 => ?_)
    · have c172 := _root_.mt (lg_cmp_eq _ _).mpr c172
      refine lv_iconst (v := 0) hx hb dX3_work_179 (by decide) ?_
      refine lv_lload hx hb dX3_work_180 (lv_at hl 0 rfl) ?_
      refine x_callv (wc := [(h, .inr (3, [.ref hB, .ref q1, .ref q2, .ref q3, .ref q4, .ref q5, .ref q6, .ref q7, .ref q8, .ref q9, .ref q10, .ref q11, .ref q12, .ref q13])), (q9, .inl (cI, 40, .inl (upd oc k 1))), (q6, .inl (cZ, 40, .inl (upd cb k 0))), (q8, .inl (cJ, 40, .inr (.inl gb)))]) (wc' := [(h, .inr (3, [.ref hB, .ref q1, .ref q2, .ref q3, .ref q4, .ref q5, .ref q6, .ref q7, .ref q8, .ref q9, .ref q10, .ref q11, .ref q12, .ref q13])), (q9, .inl (cI, 40, .inl (upd (upd oc k 1) k 2))), (q6, .inl (cZ, 40, .inl (upd cb k 0))), (q8, .inl (cJ, 40, .inr (.inl gb)))]) (wr := [(q3, .inl (cJ, 40, .inr (.inl ra))), (q4, .inl (cJ, 40, .inr (.inl rb))), (q5, .inl (cZ, 40, .inl (upd ca k 0))), (q7, .inl (cJ, 40, .inr (.inl ga))), (hB, .inr (0, [.int bz, .ref b1, .ref b2, .ref b3, .ref b4, .ref b5, .ref b6])), (b1, .inl (cI, 40, .inl ok)), (b2, .inl (cI, 40, .inl ak)), (b3, .inl (cI, 40, .inl bk)), (b4, .inl (cI, 40, .inl ck))]) (ws' := [(h, .inr (3, [.ref hB, .ref q1, .ref q2, .ref q3, .ref q4, .ref q5, .ref q6, .ref q7, .ref q8, .ref q9, .ref q10, .ref q11, .ref q12, .ref q13])), (q3, .inl (cJ, 40, .inr (.inl ra))), (q4, .inl (cJ, 40, .inr (.inl rb))), (q9, .inl (cI, 40, .inl (upd (upd oc k 1) k 2))), (q5, .inl (cZ, 40, .inl (upd ca k 0))), (q6, .inl (cZ, 40, .inl (upd cb k 0))), (q7, .inl (cJ, 40, .inr (.inl ga))), (q8, .inl (cJ, 40, .inr (.inl gb))), (hB, .inr (0, [.int bz, .ref b1, .ref b2, .ref b3, .ref b4, .ref b5, .ref b6])), (b1, .inl (cI, 40, .inl ok)), (b2, .inl (cI, 40, .inl ak)), (b3, .inl (cI, 40, .inl bk)), (b4, .inl (cI, 40, .inl ck))]) hP hD hS hA [0, 3, 5, 7] [1, 2, 4, 6, 8, 9, 10, 11, 12] rfl rfl (by decide) (by decide) [9, 0, 1, 10, 2, 11, 3, 12, 4, 5, 6, 7, 8] (by decide) rfl (va_runV (As := [.int (nI k), .int 0, .long (Int32.toInt64 (ck k))]) (rest := []) ⟨hx, hb, hml, hown, hts⟩ (k_meet0 l D cI cJ cZ H.size h hB q1 q2 q3 q4 q5 q6 q7 q8 q9 q10 q11 q12 q13 (upd oc k 1) (upd cb k 0) gb k hk (Int32.toInt64 (ck k))) (cwV 3 hts gX3_work_X3_meet rfl rfl rfl (by decide +kernel) ⟨Nat.le_of_ble_eq_true rfl, Nat.le_of_ble_eq_true rfl⟩) ⟨bl_rw, va_recv hK (hP.sub (ws' := [(h, .inr (3, [.ref hB, .ref q1, .ref q2, .ref q3, .ref q4, .ref q5, .ref q6, .ref q7, .ref q8, .ref q9, .ref q10, .ref q11, .ref q12, .ref q13])), (q9, .inl (cI, 40, .inl (upd oc k 1))), (q6, .inl (cZ, 40, .inl (upd cb k 0))), (q8, .inl (cJ, 40, .inr (.inl gb)))]) [0, 3, 5, 7] rfl) (ci := 3) (q0 := 0) rfl rfl, fun U hU hW => ⟨rfl, by rw [hU], by rw [hU]; exact (hP.sub (ws' := [(h, .inr (3, [.ref hB, .ref q1, .ref q2, .ref q3, .ref q4, .ref q5, .ref q6, .ref q7, .ref q8, .ref q9, .ref q10, .ref q11, .ref q12, .ref q13])), (q9, .inl (cI, 40, .inl (upd oc k 1))), (q6, .inl (cZ, 40, .inl (upd cb k 0))), (q8, .inl (cJ, 40, .inr (.inl gb)))]) [0, 3, 5, 7] rfl), hE.warm2 hW, (hD.sub (ws' := [(h, .inr (3, [.ref hB, .ref q1, .ref q2, .ref q3, .ref q4, .ref q5, .ref q6, .ref q7, .ref q8, .ref q9, .ref q10, .ref q11, .ref q12, .ref q13])), (q9, .inl (cI, 40, .inl (upd oc k 1))), (q6, .inl (cZ, 40, .inl (upd cb k 0))), (q8, .inl (cJ, 40, .inr (.inl gb)))]) [0, 3, 5, 7] (by decide) rfl).weaken (fun _ _ _ _ => trivial)⟩⟩ rfl rfl hl.1 rfl (lv_room (Nat.le_of_ble_eq_true rfl)) dX3_work_182 ⟨Nat.zero_le _, Nat.zero_le _⟩) (fun H locs hP hD hS => ?_)
      have w_outcomes : (upd (upd oc k 1) k 2) = (upd oc k (wOut (ok k) (ra k) (rb k) (Int32.toInt64 (ck k)))) := by simp [wOut, wChA, wChB, wGA, wGB, upd_upd, updL_updL, n0, n1, n2, n3, n4, c172]
      have w_changesA : (upd ca k 0) = (upd ca k (wChA (ok k) (ak k) (bk k) (ra k) (Int32.toInt64 (ck k)))) := by simp [wOut, wChA, wChB, wGA, wGB, upd_upd, updL_updL, n0, n1, n2, n3, n4, c172]
      have w_changesB : (upd cb k 0) = (upd cb k (wChB (ok k) (ak k) (bk k) (ra k) (rb k) (Int32.toInt64 (ck k)))) := by simp [wOut, wChA, wChB, wGA, wGB, upd_upd, updL_updL, n0, n1, n2, n3, n4, c172]
      have w_givesA : ga = (if wChA (ok k) (ak k) (bk k) (ra k) (Int32.toInt64 (ck k)) = 1 then vp_updL ga k (wGA (ok k) (ra k) (rb k) (Int32.toInt64 (ck k))) else ga) := by simp [wOut, wChA, wChB, wGA, wGB, upd_upd, updL_updL, n0, n1, n2, n3, n4, c172]
      have w_givesB : gb = (if wChB (ok k) (ak k) (bk k) (ra k) (rb k) (Int32.toInt64 (ck k)) = 1 then vp_updL gb k (wGB (ok k) (ra k) (rb k) (Int32.toInt64 (ck k))) else gb) := by simp [wOut, wChA, wChB, wGA, wGB, upd_upd, updL_updL, n0, n1, n2, n3, n4, c172]
      rw [w_outcomes, w_changesA, w_changesB, w_givesA, w_givesB] at hP hD
      exact W.vret hx hb hr (fun t ht hW => ⟨⟨(), rfl, trivial, by rw [ht]; exact hP, by exact hD⟩, hS.F ht⟩) hS.2.2 dX3_work_185
    · have c172 := (lg_cmp_eq _ _).mp c172
      refine lv_iconst (v := 1) hx hb dX3_work_175 (by decide) ?_
      refine lv_goto (tgt := 180) hx hb dX3_work_176 (by decide) ?_
      refine lv_lload hx hb dX3_work_180 (lv_at hl 0 rfl) ?_
      refine x_callv (wc := [(h, .inr (3, [.ref hB, .ref q1, .ref q2, .ref q3, .ref q4, .ref q5, .ref q6, .ref q7, .ref q8, .ref q9, .ref q10, .ref q11, .ref q12, .ref q13])), (q9, .inl (cI, 40, .inl (upd oc k 1))), (q6, .inl (cZ, 40, .inl (upd cb k 0))), (q8, .inl (cJ, 40, .inr (.inl gb)))]) (wc' := [(h, .inr (3, [.ref hB, .ref q1, .ref q2, .ref q3, .ref q4, .ref q5, .ref q6, .ref q7, .ref q8, .ref q9, .ref q10, .ref q11, .ref q12, .ref q13])), (q9, .inl (cI, 40, .inl (upd oc k 1))), (q6, .inl (cZ, 40, .inl (upd (upd cb k 0) k 1))), (q8, .inl (cJ, 40, .inr (.inl (vp_updL gb k (Int32.toInt64 (ck k))))))]) (wr := [(q3, .inl (cJ, 40, .inr (.inl ra))), (q4, .inl (cJ, 40, .inr (.inl rb))), (q5, .inl (cZ, 40, .inl (upd ca k 0))), (q7, .inl (cJ, 40, .inr (.inl ga))), (hB, .inr (0, [.int bz, .ref b1, .ref b2, .ref b3, .ref b4, .ref b5, .ref b6])), (b1, .inl (cI, 40, .inl ok)), (b2, .inl (cI, 40, .inl ak)), (b3, .inl (cI, 40, .inl bk)), (b4, .inl (cI, 40, .inl ck))]) (ws' := [(h, .inr (3, [.ref hB, .ref q1, .ref q2, .ref q3, .ref q4, .ref q5, .ref q6, .ref q7, .ref q8, .ref q9, .ref q10, .ref q11, .ref q12, .ref q13])), (q3, .inl (cJ, 40, .inr (.inl ra))), (q4, .inl (cJ, 40, .inr (.inl rb))), (q9, .inl (cI, 40, .inl (upd oc k 1))), (q5, .inl (cZ, 40, .inl (upd ca k 0))), (q6, .inl (cZ, 40, .inl (upd (upd cb k 0) k 1))), (q7, .inl (cJ, 40, .inr (.inl ga))), (q8, .inl (cJ, 40, .inr (.inl (vp_updL gb k (Int32.toInt64 (ck k)))))), (hB, .inr (0, [.int bz, .ref b1, .ref b2, .ref b3, .ref b4, .ref b5, .ref b6])), (b1, .inl (cI, 40, .inl ok)), (b2, .inl (cI, 40, .inl ak)), (b3, .inl (cI, 40, .inl bk)), (b4, .inl (cI, 40, .inl ck))]) hP hD hS hA [0, 3, 5, 7] [1, 2, 4, 6, 8, 9, 10, 11, 12] rfl rfl (by decide) (by decide) [9, 0, 1, 10, 2, 11, 3, 12, 4, 5, 6, 7, 8] (by decide) rfl (va_runV (As := [.int (nI k), .int 1, .long (Int32.toInt64 (ck k))]) (rest := []) ⟨hx, hb, hml, hown, hts⟩ (k_meet1 l D cI cJ cZ H.size h hB q1 q2 q3 q4 q5 q6 q7 q8 q9 q10 q11 q12 q13 (upd oc k 1) (upd cb k 0) gb k hk (Int32.toInt64 (ck k))) (cwV 3 hts gX3_work_X3_meet rfl rfl rfl (by decide +kernel) ⟨Nat.le_of_ble_eq_true rfl, Nat.le_of_ble_eq_true rfl⟩) ⟨bl_rw, va_recv hK (hP.sub (ws' := [(h, .inr (3, [.ref hB, .ref q1, .ref q2, .ref q3, .ref q4, .ref q5, .ref q6, .ref q7, .ref q8, .ref q9, .ref q10, .ref q11, .ref q12, .ref q13])), (q9, .inl (cI, 40, .inl (upd oc k 1))), (q6, .inl (cZ, 40, .inl (upd cb k 0))), (q8, .inl (cJ, 40, .inr (.inl gb)))]) [0, 3, 5, 7] rfl) (ci := 3) (q0 := 0) rfl rfl, fun U hU hW => ⟨rfl, by rw [hU], by rw [hU]; exact (hP.sub (ws' := [(h, .inr (3, [.ref hB, .ref q1, .ref q2, .ref q3, .ref q4, .ref q5, .ref q6, .ref q7, .ref q8, .ref q9, .ref q10, .ref q11, .ref q12, .ref q13])), (q9, .inl (cI, 40, .inl (upd oc k 1))), (q6, .inl (cZ, 40, .inl (upd cb k 0))), (q8, .inl (cJ, 40, .inr (.inl gb)))]) [0, 3, 5, 7] rfl), hE.warm2 hW, (hD.sub (ws' := [(h, .inr (3, [.ref hB, .ref q1, .ref q2, .ref q3, .ref q4, .ref q5, .ref q6, .ref q7, .ref q8, .ref q9, .ref q10, .ref q11, .ref q12, .ref q13])), (q9, .inl (cI, 40, .inl (upd oc k 1))), (q6, .inl (cZ, 40, .inl (upd cb k 0))), (q8, .inl (cJ, 40, .inr (.inl gb)))]) [0, 3, 5, 7] (by decide) rfl).weaken (fun _ _ _ _ => trivial)⟩⟩ rfl rfl hl.1 rfl (lv_room (Nat.le_of_ble_eq_true rfl)) dX3_work_182 ⟨Nat.zero_le _, Nat.zero_le _⟩) (fun H locs hP hD hS => ?_)
      have w_outcomes : (upd oc k 1) = (upd oc k (wOut (ok k) (ra k) (rb k) (Int32.toInt64 (ck k)))) := by simp [wOut, wChA, wChB, wGA, wGB, upd_upd, updL_updL, n0, n1, n2, n3, n4, c172]
      have w_changesA : (upd ca k 0) = (upd ca k (wChA (ok k) (ak k) (bk k) (ra k) (Int32.toInt64 (ck k)))) := by simp [wOut, wChA, wChB, wGA, wGB, upd_upd, updL_updL, n0, n1, n2, n3, n4, c172]
      have w_changesB : (upd (upd cb k 0) k 1) = (upd cb k (wChB (ok k) (ak k) (bk k) (ra k) (rb k) (Int32.toInt64 (ck k)))) := by simp [wOut, wChA, wChB, wGA, wGB, upd_upd, updL_updL, n0, n1, n2, n3, n4, c172]
      have w_givesA : ga = (if wChA (ok k) (ak k) (bk k) (ra k) (Int32.toInt64 (ck k)) = 1 then vp_updL ga k (wGA (ok k) (ra k) (rb k) (Int32.toInt64 (ck k))) else ga) := by simp [wOut, wChA, wChB, wGA, wGB, upd_upd, updL_updL, n0, n1, n2, n3, n4, c172]
      have w_givesB : (vp_updL gb k (Int32.toInt64 (ck k))) = (if wChB (ok k) (ak k) (bk k) (ra k) (rb k) (Int32.toInt64 (ck k)) = 1 then vp_updL gb k (wGB (ok k) (ra k) (rb k) (Int32.toInt64 (ck k))) else gb) := by simp [wOut, wChA, wChB, wGA, wGB, upd_upd, updL_updL, n0, n1, n2, n3, n4, c172]
      rw [w_outcomes, w_changesA, w_changesB, w_givesA, w_givesB] at hP hD
      exact W.vret hx hb hr (fun t ht hW => ⟨⟨(), rfl, trivial, by rw [ht]; exact hP, by exact hD⟩, hS.F ht⟩) hS.2.2 dX3_work_185
set_option maxHeartbeats 4000000 in
set_option maxRecDepth 100000 in
theorem k_doesLastStep (l : Launch) (D : va_G) (cI cJ cZ : ClassId) (sz : Nat) (h hB q1 q2 q3 q4 q5 q6 q7 q8 q9 q10 q11 q12 q13 : Nat) (st sl oc ca cb eb : Nat → Int32) (ra rb ga gb : Nat → Int64) (b1 b2 b3 b4 b5 b6 : Nat) (bz : Int32) (ok ak bk ck : Nat → Int32) (k : Nat) (hk : k < 40) (w : Int32) : Met l yX3_doesLastStep wsX3_doesLastStep ({ frames := 3, cells := 0, slots := 0, locals := 77 }) (PcRW [.ref h, .int (nI k), .int w] sz D cI cJ cZ [(h, .inr (3, [.ref hB, .ref q1, .ref q2, .ref q3, .ref q4, .ref q5, .ref q6, .ref q7, .ref q8, .ref q9, .ref q10, .ref q11, .ref q12, .ref q13])), (q1, .inl (cI, 40, .inl st)), (q2, .inl (cI, 40, .inl sl)), (q3, .inl (cJ, 40, .inr (.inl ra))), (q4, .inl (cJ, 40, .inr (.inl rb))), (q9, .inl (cI, 40, .inl oc)), (q5, .inl (cZ, 40, .inl ca)), (q6, .inl (cZ, 40, .inl cb)), (q7, .inl (cJ, 40, .inr (.inl ga))), (q8, .inl (cJ, 40, .inr (.inl gb))), (q13, .inl (cI, 40, .inl eb)), (hB, .inr (0, [.int bz, .ref b1, .ref b2, .ref b3, .ref b4, .ref b5, .ref b6])), (b1, .inl (cI, 40, .inl ok)), (b2, .inl (cI, 40, .inl ak)), (b3, .inl (cI, 40, .inl bk)), (b4, .inl (cI, 40, .inl ck))]) (QcI (fun r => r = if 0 < sl k - 1 then 0 else 1) D (va_A [(h, .inr (3, [.ref hB, .ref q1, .ref q2, .ref q3, .ref q4, .ref q5, .ref q6, .ref q7, .ref q8, .ref q9, .ref q10, .ref q11, .ref q12, .ref q13])), (q1, .inl (cI, 40, .inl st)), (q2, .inl (cI, 40, .inl sl)), (q3, .inl (cJ, 40, .inr (.inl ra))), (q4, .inl (cJ, 40, .inr (.inl rb))), (q9, .inl (cI, 40, .inl oc)), (q5, .inl (cZ, 40, .inl ca)), (q6, .inl (cZ, 40, .inl cb)), (q7, .inl (cJ, 40, .inr (.inl ga))), (q8, .inl (cJ, 40, .inr (.inl gb))), (q13, .inl (cI, 40, .inl eb)), (hB, .inr (0, [.int bz, .ref b1, .ref b2, .ref b3, .ref b4, .ref b5, .ref b6])), (b1, .inl (cI, 40, .inl ok)), (b2, .inl (cI, 40, .inl ak)), (b3, .inl (cI, 40, .inl bk)), (b4, .inl (cI, 40, .inl ck))] sz) [(h, .inr (3, [.ref hB, .ref q1, .ref q2, .ref q3, .ref q4, .ref q5, .ref q6, .ref q7, .ref q8, .ref q9, .ref q10, .ref q11, .ref q12, .ref q13])), (q1, .inl (cI, 40, .inl (if 0 < sl k - 1 then st else upd st k 2))), (q2, .inl (cI, 40, .inl (upd sl k (sl k - 1)))), (q3, .inl (cJ, 40, .inr (.inl ra))), (q4, .inl (cJ, 40, .inr (.inl rb))), (q9, .inl (cI, 40, .inl (if 0 < sl k - 1 then oc else upd oc k (wOut (ok k) (ra k) (rb k) (Int32.toInt64 (ck k)))))), (q5, .inl (cZ, 40, .inl (if 0 < sl k - 1 then ca else upd ca k (wChA (ok k) (ak k) (bk k) (ra k) (Int32.toInt64 (ck k)))))), (q6, .inl (cZ, 40, .inl (if 0 < sl k - 1 then cb else upd cb k (wChB (ok k) (ak k) (bk k) (ra k) (rb k) (Int32.toInt64 (ck k)))))), (q7, .inl (cJ, 40, .inr (.inl (if 0 < sl k - 1 then ga else if wChA (ok k) (ak k) (bk k) (ra k) (Int32.toInt64 (ck k)) = 1 then vp_updL ga k (wGA (ok k) (ra k) (rb k) (Int32.toInt64 (ck k))) else ga)))), (q8, .inl (cJ, 40, .inr (.inl (if 0 < sl k - 1 then gb else if wChB (ok k) (ak k) (bk k) (ra k) (rb k) (Int32.toInt64 (ck k)) = 1 then vp_updL gb k (wGB (ok k) (ra k) (rb k) (Int32.toInt64 (ck k))) else gb)))), (q13, .inl (cI, 40, .inl (if 0 < sl k - 1 then eb else upd eb k w))), (hB, .inr (0, [.int bz, .ref b1, .ref b2, .ref b3, .ref b4, .ref b5, .ref b6])), (b1, .inl (cI, 40, .inl ok)), (b2, .inl (cI, 40, .inl ak)), (b3, .inl (cI, 40, .inl bk)), (b4, .inl (cI, 40, .inl ck))]) 0 0 (va_A [(h, .inr (3, [.ref hB, .ref q1, .ref q2, .ref q3, .ref q4, .ref q5, .ref q6, .ref q7, .ref q8, .ref q9, .ref q10, .ref q11, .ref q12, .ref q13])), (q1, .inl (cI, 40, .inl st)), (q2, .inl (cI, 40, .inl sl)), (q3, .inl (cJ, 40, .inr (.inl ra))), (q4, .inl (cJ, 40, .inr (.inl rb))), (q9, .inl (cI, 40, .inl oc)), (q5, .inl (cZ, 40, .inl ca)), (q6, .inl (cZ, 40, .inl cb)), (q7, .inl (cJ, 40, .inr (.inl ga))), (q8, .inl (cJ, 40, .inr (.inl gb))), (q13, .inl (cI, 40, .inl eb)), (hB, .inr (0, [.int bz, .ref b1, .ref b2, .ref b3, .ref b4, .ref b5, .ref b6])), (b1, .inl (cI, 40, .inl ok)), (b2, .inl (cI, 40, .inl ak)), (b3, .inl (cI, 40, .inl bk)), (b4, .inl (cI, 40, .inl ck))] sz) := by
  refine Met.ofW (cc := cX3_doesLastStep) (maxL := 3) (ret := some .boolean) (by decide) rfl ?_
  intro p e s m args below meth c s₁ B hml hv
  obtain ⟨rfl, hsz, hP, hE, hD0⟩ := hv
  have hx := B.exec
  have hb := B.bytes
  have hr := B.returns
  have hts := atoms_spec (ws := wsX3_doesLastStep) B.pre
  have hown : s.vm.findClass RX3 = some m.cls := findClass_of_methodNamed B.named
  have hlocks := B.notSynchronized
  have hK := hE.1
  subst hsz
  have hD := hD0.self (sz := s.heap.size)
  generalize hAe : va_A [(h, .inr (3, [.ref hB, .ref q1, .ref q2, .ref q3, .ref q4, .ref q5, .ref q6, .ref q7, .ref q8, .ref q9, .ref q10, .ref q11, .ref q12, .ref q13])), (q1, .inl (cI, 40, .inl st)), (q2, .inl (cI, 40, .inl sl)), (q3, .inl (cJ, 40, .inr (.inl ra))), (q4, .inl (cJ, 40, .inr (.inl rb))), (q9, .inl (cI, 40, .inl oc)), (q5, .inl (cZ, 40, .inl ca)), (q6, .inl (cZ, 40, .inl cb)), (q7, .inl (cJ, 40, .inr (.inl ga))), (q8, .inl (cJ, 40, .inr (.inl gb))), (q13, .inl (cI, 40, .inl eb)), (hB, .inr (0, [.int bz, .ref b1, .ref b2, .ref b3, .ref b4, .ref b5, .ref b6])), (b1, .inl (cI, 40, .inl ok)), (b2, .inl (cI, 40, .inl ak)), (b3, .inl (cI, 40, .inl bk)), (b4, .inl (cI, 40, .inl ck))] s.heap.size = A at hD ⊢
  have hA : ∀ q : Nat, s.heap.size ≤ q → A q := fun q h => by rw [← hAe]; exact Or.inr h
  have hS : va_S A s.heap s.heap [] := va_S.rf
  have hl := lv_entry ([.ref h, .int (nI k), .int w]) (n := 3) (Nat.le_of_ble_eq_true rfl)
  rw [lg_entry_eq]
  generalize (lg_sl ([.ref h, .int (nI k), .int w]) ++ List.replicate (3 - (lg_sl ([.ref h, .int (nI k), .int w])).length) Slot.unset).toArray = ls at hl ⊢
  have hl : lv_has ls 3 [(0, .ref h), (1, .int (nI k)), (2, .int w)] := hl
  have hinX3 : ∀ w ∈ u_ws RX3 TX3 14, w ∈ wsX3_doesLastStep := fun _ h => List.mem_cons_of_mem _ (List.mem_append_left _ (List.mem_append_right _ h))
  refine lv_aload_n hx hb dX3_doesLastStep_0 rfl (lv_at hl 0 rfl) ?_
  refine va_get (D := D) (ci := 3) (v := .ref q2) (C := RX3) (T := TX3) (N := 14) hx hb hts hinX3 hown hK hP 0 rfl rfl 2 (by decide) (hts (.fieldLink RX3 15 "LedgerShares$Sheet" "stepsLeft" "[I") (List.mem_of_getElem? (i := 1) rfl)) (fun _ h9 => h9) rfl dX3_doesLastStep_1 ?_
  refine lv_iload_n hx hb dX3_doesLastStep_4 rfl (lv_at hl 1 rfl) ?_
  refine lv_dup2_11 hx hb dX3_doesLastStep_5 rfl rfl ?_
  refine x_iald hx hb hE hP 2 rfl (k) hk (by decide) (rfl) dX3_doesLastStep_6 ?_
  refine lv_iconst (v := 1) hx hb dX3_doesLastStep_7 (by decide) ?_
  refine lv_isub hx hb dX3_doesLastStep_8 ?_
  refine x_iast hx hb hE hP hD hS 2 rfl (k) hk (by decide) (rfl) (ws' := [(h, .inr (3, [.ref hB, .ref q1, .ref q2, .ref q3, .ref q4, .ref q5, .ref q6, .ref q7, .ref q8, .ref q9, .ref q10, .ref q11, .ref q12, .ref q13])), (q1, .inl (cI, 40, .inl st)), (q2, .inl (cI, 40, .inl (upd sl k ((sl k) - 1)))), (q3, .inl (cJ, 40, .inr (.inl ra))), (q4, .inl (cJ, 40, .inr (.inl rb))), (q9, .inl (cI, 40, .inl oc)), (q5, .inl (cZ, 40, .inl ca)), (q6, .inl (cZ, 40, .inl cb)), (q7, .inl (cJ, 40, .inr (.inl ga))), (q8, .inl (cJ, 40, .inr (.inl gb))), (q13, .inl (cI, 40, .inl eb)), (hB, .inr (0, [.int bz, .ref b1, .ref b2, .ref b3, .ref b4, .ref b5, .ref b6])), (b1, .inl (cI, 40, .inl ok)), (b2, .inl (cI, 40, .inl ak)), (b3, .inl (cI, 40, .inl bk)), (b4, .inl (cI, 40, .inl ck))]) (rfl) dX3_doesLastStep_9 (fun H locs hP hD hS => ?_)
  refine lv_aload_n hx hb dX3_doesLastStep_10 rfl (lv_at hl 0 rfl) ?_
  refine va_get (D := D) (ci := 3) (v := .ref q2) (C := RX3) (T := TX3) (N := 14) hx hb hts hinX3 hown hK hP 0 rfl rfl 2 (by decide) (hts (.fieldLink RX3 15 "LedgerShares$Sheet" "stepsLeft" "[I") (List.mem_of_getElem? (i := 1) rfl)) (fun _ h9 => h9) rfl dX3_doesLastStep_11 ?_
  refine lv_iload_n hx hb dX3_doesLastStep_14 rfl (lv_at hl 1 rfl) ?_
  refine x_iald hx hb hE hP 2 rfl (k) hk (by decide) (rfl) dX3_doesLastStep_15 ?_
  refine x_topi (y := sl k - 1) (upd_s _ _ _) ?_
  refine lv_if_le (tgt := 21) hx hb dX3_doesLastStep_16 (by decide) (fun c16 => ?_) (fun c16 => ?_)
  · have g16 : ¬ 0 < sl k - 1 := Int32.not_lt.mpr c16
    refine lv_aload_n hx hb dX3_doesLastStep_21 rfl (lv_at hl 0 rfl) ?_
    refine lv_iload_n hx hb dX3_doesLastStep_22 rfl (lv_at hl 1 rfl) ?_
    refine x_callv (wc := [(h, .inr (3, [.ref hB, .ref q1, .ref q2, .ref q3, .ref q4, .ref q5, .ref q6, .ref q7, .ref q8, .ref q9, .ref q10, .ref q11, .ref q12, .ref q13])), (q3, .inl (cJ, 40, .inr (.inl ra))), (q4, .inl (cJ, 40, .inr (.inl rb))), (q9, .inl (cI, 40, .inl oc)), (q5, .inl (cZ, 40, .inl ca)), (q6, .inl (cZ, 40, .inl cb)), (q7, .inl (cJ, 40, .inr (.inl ga))), (q8, .inl (cJ, 40, .inr (.inl gb))), (hB, .inr (0, [.int bz, .ref b1, .ref b2, .ref b3, .ref b4, .ref b5, .ref b6])), (b1, .inl (cI, 40, .inl ok)), (b2, .inl (cI, 40, .inl ak)), (b3, .inl (cI, 40, .inl bk)), (b4, .inl (cI, 40, .inl ck))]) (wc' := [(h, .inr (3, [.ref hB, .ref q1, .ref q2, .ref q3, .ref q4, .ref q5, .ref q6, .ref q7, .ref q8, .ref q9, .ref q10, .ref q11, .ref q12, .ref q13])), (q3, .inl (cJ, 40, .inr (.inl ra))), (q4, .inl (cJ, 40, .inr (.inl rb))), (q9, .inl (cI, 40, .inl (upd oc k (wOut (ok k) (ra k) (rb k) (Int32.toInt64 (ck k)))))), (q5, .inl (cZ, 40, .inl (upd ca k (wChA (ok k) (ak k) (bk k) (ra k) (Int32.toInt64 (ck k)))))), (q6, .inl (cZ, 40, .inl (upd cb k (wChB (ok k) (ak k) (bk k) (ra k) (rb k) (Int32.toInt64 (ck k)))))), (q7, .inl (cJ, 40, .inr (.inl (if wChA (ok k) (ak k) (bk k) (ra k) (Int32.toInt64 (ck k)) = 1 then vp_updL ga k (wGA (ok k) (ra k) (rb k) (Int32.toInt64 (ck k))) else ga)))), (q8, .inl (cJ, 40, .inr (.inl (if wChB (ok k) (ak k) (bk k) (ra k) (rb k) (Int32.toInt64 (ck k)) = 1 then vp_updL gb k (wGB (ok k) (ra k) (rb k) (Int32.toInt64 (ck k))) else gb)))), (hB, .inr (0, [.int bz, .ref b1, .ref b2, .ref b3, .ref b4, .ref b5, .ref b6])), (b1, .inl (cI, 40, .inl ok)), (b2, .inl (cI, 40, .inl ak)), (b3, .inl (cI, 40, .inl bk)), (b4, .inl (cI, 40, .inl ck))]) (wr := [(q1, .inl (cI, 40, .inl st)), (q2, .inl (cI, 40, .inl (upd sl k ((sl k) - 1)))), (q13, .inl (cI, 40, .inl eb))]) (ws' := [(h, .inr (3, [.ref hB, .ref q1, .ref q2, .ref q3, .ref q4, .ref q5, .ref q6, .ref q7, .ref q8, .ref q9, .ref q10, .ref q11, .ref q12, .ref q13])), (q1, .inl (cI, 40, .inl st)), (q2, .inl (cI, 40, .inl (upd sl k ((sl k) - 1)))), (q3, .inl (cJ, 40, .inr (.inl ra))), (q4, .inl (cJ, 40, .inr (.inl rb))), (q9, .inl (cI, 40, .inl (upd oc k (wOut (ok k) (ra k) (rb k) (Int32.toInt64 (ck k)))))), (q5, .inl (cZ, 40, .inl (upd ca k (wChA (ok k) (ak k) (bk k) (ra k) (Int32.toInt64 (ck k)))))), (q6, .inl (cZ, 40, .inl (upd cb k (wChB (ok k) (ak k) (bk k) (ra k) (rb k) (Int32.toInt64 (ck k)))))), (q7, .inl (cJ, 40, .inr (.inl (if wChA (ok k) (ak k) (bk k) (ra k) (Int32.toInt64 (ck k)) = 1 then vp_updL ga k (wGA (ok k) (ra k) (rb k) (Int32.toInt64 (ck k))) else ga)))), (q8, .inl (cJ, 40, .inr (.inl (if wChB (ok k) (ak k) (bk k) (ra k) (rb k) (Int32.toInt64 (ck k)) = 1 then vp_updL gb k (wGB (ok k) (ra k) (rb k) (Int32.toInt64 (ck k))) else gb)))), (q13, .inl (cI, 40, .inl eb)), (hB, .inr (0, [.int bz, .ref b1, .ref b2, .ref b3, .ref b4, .ref b5, .ref b6])), (b1, .inl (cI, 40, .inl ok)), (b2, .inl (cI, 40, .inl ak)), (b3, .inl (cI, 40, .inl bk)), (b4, .inl (cI, 40, .inl ck))]) hP hD hS hA [0, 3, 4, 5, 6, 7, 8, 9, 11, 12, 13, 14, 15] [1, 2, 10] rfl rfl (by decide) (by decide) [3, 0, 1, 4, 5, 6, 7, 8, 9, 10, 2, 11, 12, 13, 14, 15] (by decide) rfl (va_runV (As := [.int (nI k)]) (rest := []) ⟨hx, hb, hml, hown, hts⟩ (k_work l D cI cJ cZ H.size h hB q1 q2 q3 q4 q5 q6 q7 q8 q9 q10 q11 q12 q13 oc ca cb ra rb ga gb b1 b2 b3 b4 b5 b6 bz ok ak bk ck k hk) (cwV 1 hts gX3_doesLastStep_X3_work rfl rfl rfl (by decide +kernel) ⟨Nat.le_of_ble_eq_true rfl, Nat.le_of_ble_eq_true rfl⟩) ⟨bl_rw, va_recv hK (hP.sub (ws' := [(h, .inr (3, [.ref hB, .ref q1, .ref q2, .ref q3, .ref q4, .ref q5, .ref q6, .ref q7, .ref q8, .ref q9, .ref q10, .ref q11, .ref q12, .ref q13])), (q3, .inl (cJ, 40, .inr (.inl ra))), (q4, .inl (cJ, 40, .inr (.inl rb))), (q9, .inl (cI, 40, .inl oc)), (q5, .inl (cZ, 40, .inl ca)), (q6, .inl (cZ, 40, .inl cb)), (q7, .inl (cJ, 40, .inr (.inl ga))), (q8, .inl (cJ, 40, .inr (.inl gb))), (hB, .inr (0, [.int bz, .ref b1, .ref b2, .ref b3, .ref b4, .ref b5, .ref b6])), (b1, .inl (cI, 40, .inl ok)), (b2, .inl (cI, 40, .inl ak)), (b3, .inl (cI, 40, .inl bk)), (b4, .inl (cI, 40, .inl ck))]) [0, 3, 4, 5, 6, 7, 8, 9, 11, 12, 13, 14, 15] rfl) (ci := 3) (q0 := 0) rfl rfl, fun U hU hW => ⟨rfl, by rw [hU], by rw [hU]; exact (hP.sub (ws' := [(h, .inr (3, [.ref hB, .ref q1, .ref q2, .ref q3, .ref q4, .ref q5, .ref q6, .ref q7, .ref q8, .ref q9, .ref q10, .ref q11, .ref q12, .ref q13])), (q3, .inl (cJ, 40, .inr (.inl ra))), (q4, .inl (cJ, 40, .inr (.inl rb))), (q9, .inl (cI, 40, .inl oc)), (q5, .inl (cZ, 40, .inl ca)), (q6, .inl (cZ, 40, .inl cb)), (q7, .inl (cJ, 40, .inr (.inl ga))), (q8, .inl (cJ, 40, .inr (.inl gb))), (hB, .inr (0, [.int bz, .ref b1, .ref b2, .ref b3, .ref b4, .ref b5, .ref b6])), (b1, .inl (cI, 40, .inl ok)), (b2, .inl (cI, 40, .inl ak)), (b3, .inl (cI, 40, .inl bk)), (b4, .inl (cI, 40, .inl ck))]) [0, 3, 4, 5, 6, 7, 8, 9, 11, 12, 13, 14, 15] rfl), hE.warm2 hW, (hD.sub (ws' := [(h, .inr (3, [.ref hB, .ref q1, .ref q2, .ref q3, .ref q4, .ref q5, .ref q6, .ref q7, .ref q8, .ref q9, .ref q10, .ref q11, .ref q12, .ref q13])), (q3, .inl (cJ, 40, .inr (.inl ra))), (q4, .inl (cJ, 40, .inr (.inl rb))), (q9, .inl (cI, 40, .inl oc)), (q5, .inl (cZ, 40, .inl ca)), (q6, .inl (cZ, 40, .inl cb)), (q7, .inl (cJ, 40, .inr (.inl ga))), (q8, .inl (cJ, 40, .inr (.inl gb))), (hB, .inr (0, [.int bz, .ref b1, .ref b2, .ref b3, .ref b4, .ref b5, .ref b6])), (b1, .inl (cI, 40, .inl ok)), (b2, .inl (cI, 40, .inl ak)), (b3, .inl (cI, 40, .inl bk)), (b4, .inl (cI, 40, .inl ck))]) [0, 3, 4, 5, 6, 7, 8, 9, 11, 12, 13, 14, 15] (by decide) rfl).weaken (fun _ _ _ _ => trivial)⟩⟩ rfl rfl hl.1 rfl (lv_room (Nat.le_of_ble_eq_true rfl)) dX3_doesLastStep_23 ⟨Nat.zero_le _, Nat.zero_le _⟩) (fun H locs hP hD hS => ?_)
    refine lv_aload_n hx hb dX3_doesLastStep_26 rfl (lv_at hl 0 rfl) ?_
    refine va_get (D := D) (ci := 3) (v := .ref q1) (C := RX3) (T := TX3) (N := 14) hx hb hts hinX3 hown hK hP 0 rfl rfl 1 (by decide) (hts (.fieldLink RX3 9 "LedgerShares$Sheet" "stages" "[I") (List.mem_of_getElem? (i := 2) rfl)) (fun _ h9 => h9) rfl dX3_doesLastStep_27 ?_
    refine lv_iload_n hx hb dX3_doesLastStep_30 rfl (lv_at hl 1 rfl) ?_
    refine lv_iconst (v := 2) hx hb dX3_doesLastStep_31 (by decide) ?_
    refine x_iast hx hb hE hP hD hS 1 rfl (k) hk (by decide) (rfl) (ws' := [(h, .inr (3, [.ref hB, .ref q1, .ref q2, .ref q3, .ref q4, .ref q5, .ref q6, .ref q7, .ref q8, .ref q9, .ref q10, .ref q11, .ref q12, .ref q13])), (q1, .inl (cI, 40, .inl (upd st k 2))), (q2, .inl (cI, 40, .inl (upd sl k ((sl k) - 1)))), (q3, .inl (cJ, 40, .inr (.inl ra))), (q4, .inl (cJ, 40, .inr (.inl rb))), (q9, .inl (cI, 40, .inl (upd oc k (wOut (ok k) (ra k) (rb k) (Int32.toInt64 (ck k)))))), (q5, .inl (cZ, 40, .inl (upd ca k (wChA (ok k) (ak k) (bk k) (ra k) (Int32.toInt64 (ck k)))))), (q6, .inl (cZ, 40, .inl (upd cb k (wChB (ok k) (ak k) (bk k) (ra k) (rb k) (Int32.toInt64 (ck k)))))), (q7, .inl (cJ, 40, .inr (.inl (if wChA (ok k) (ak k) (bk k) (ra k) (Int32.toInt64 (ck k)) = 1 then vp_updL ga k (wGA (ok k) (ra k) (rb k) (Int32.toInt64 (ck k))) else ga)))), (q8, .inl (cJ, 40, .inr (.inl (if wChB (ok k) (ak k) (bk k) (ra k) (rb k) (Int32.toInt64 (ck k)) = 1 then vp_updL gb k (wGB (ok k) (ra k) (rb k) (Int32.toInt64 (ck k))) else gb)))), (q13, .inl (cI, 40, .inl eb)), (hB, .inr (0, [.int bz, .ref b1, .ref b2, .ref b3, .ref b4, .ref b5, .ref b6])), (b1, .inl (cI, 40, .inl ok)), (b2, .inl (cI, 40, .inl ak)), (b3, .inl (cI, 40, .inl bk)), (b4, .inl (cI, 40, .inl ck))]) (rfl) dX3_doesLastStep_32 (fun H locs hP hD hS => ?_)
    refine lv_aload_n hx hb dX3_doesLastStep_33 rfl (lv_at hl 0 rfl) ?_
    refine va_get (D := D) (ci := 3) (v := .ref q13) (C := RX3) (T := TX3) (N := 14) hx hb hts hinX3 hown hK hP 0 rfl rfl 13 (by decide) (hts (.fieldLink RX3 50 "LedgerShares$Sheet" "endedBy" "[I") (List.mem_of_getElem? (i := 3) rfl)) (fun _ h9 => h9) rfl dX3_doesLastStep_34 ?_
    refine lv_iload_n hx hb dX3_doesLastStep_37 rfl (lv_at hl 1 rfl) ?_
    refine lv_iload_n hx hb dX3_doesLastStep_38 rfl (lv_at hl 2 rfl) ?_
    refine x_iast hx hb hE hP hD hS 10 rfl (k) hk (by decide) (rfl) (ws' := [(h, .inr (3, [.ref hB, .ref q1, .ref q2, .ref q3, .ref q4, .ref q5, .ref q6, .ref q7, .ref q8, .ref q9, .ref q10, .ref q11, .ref q12, .ref q13])), (q1, .inl (cI, 40, .inl (upd st k 2))), (q2, .inl (cI, 40, .inl (upd sl k ((sl k) - 1)))), (q3, .inl (cJ, 40, .inr (.inl ra))), (q4, .inl (cJ, 40, .inr (.inl rb))), (q9, .inl (cI, 40, .inl (upd oc k (wOut (ok k) (ra k) (rb k) (Int32.toInt64 (ck k)))))), (q5, .inl (cZ, 40, .inl (upd ca k (wChA (ok k) (ak k) (bk k) (ra k) (Int32.toInt64 (ck k)))))), (q6, .inl (cZ, 40, .inl (upd cb k (wChB (ok k) (ak k) (bk k) (ra k) (rb k) (Int32.toInt64 (ck k)))))), (q7, .inl (cJ, 40, .inr (.inl (if wChA (ok k) (ak k) (bk k) (ra k) (Int32.toInt64 (ck k)) = 1 then vp_updL ga k (wGA (ok k) (ra k) (rb k) (Int32.toInt64 (ck k))) else ga)))), (q8, .inl (cJ, 40, .inr (.inl (if wChB (ok k) (ak k) (bk k) (ra k) (rb k) (Int32.toInt64 (ck k)) = 1 then vp_updL gb k (wGB (ok k) (ra k) (rb k) (Int32.toInt64 (ck k))) else gb)))), (q13, .inl (cI, 40, .inl (upd eb k w))), (hB, .inr (0, [.int bz, .ref b1, .ref b2, .ref b3, .ref b4, .ref b5, .ref b6])), (b1, .inl (cI, 40, .inl ok)), (b2, .inl (cI, 40, .inl ak)), (b3, .inl (cI, 40, .inl bk)), (b4, .inl (cI, 40, .inl ck))]) (rfl) dX3_doesLastStep_39 (fun H locs hP hD hS => ?_)
    refine lv_iconst (v := 1) hx hb dX3_doesLastStep_40 (by decide) ?_
    exact W.zret hx hb hr (by decide) (fun t ht hW => ⟨⟨_, (), rfl, (if_neg g16).symm, by rw [ht]; simp only [if_neg g16]; exact hP, by simp only [if_neg g16]; exact hD⟩, hS.F ht⟩) hS.2.2 dX3_doesLastStep_41
  · have g16 : 0 < sl k - 1 := Int32.not_le.mp c16
    refine lv_iconst (v := 0) hx hb dX3_doesLastStep_19 (by decide) ?_
    exact W.zret hx hb hr (by decide) (fun t ht hW => ⟨⟨_, (), rfl, (if_pos g16).symm, by rw [ht]; simp only [if_pos g16]; exact hP, by simp only [if_pos g16]; exact hD⟩, hS.F ht⟩) hS.2.2 dX3_doesLastStep_20
set_option maxHeartbeats 4000000 in
set_option maxRecDepth 100000 in
theorem k_waits (l : Launch) (D : va_G) (cI cJ cZ : ClassId) (h hB q1 q2 q3 q4 q5 q6 q7 q8 q9 q10 q11 q12 q13 : Nat) (st : Nat → Int32) (k : Nat) (hk : k < 40) : Met l yX3_waitsToBeKept wsX3_waitsToBeKept ({ frames := 1, cells := 0, slots := 0, locals := 22 }) (PcRO [.ref h, .int (nI k)] D cI cJ cZ [(h, .inr (3, [.ref hB, .ref q1, .ref q2, .ref q3, .ref q4, .ref q5, .ref q6, .ref q7, .ref q8, .ref q9, .ref q10, .ref q11, .ref q12, .ref q13])), (q1, .inl (cI, 40, .inl st))]) (vp_Si (fun r => r = if st k = 2 then 1 else 0)) 0 0 noF := by
  refine Met.ofW (cc := cX3_waitsToBeKept) (maxL := 2) (ret := some .boolean) (by decide) rfl ?_
  intro p e s m args below meth c s₁ B hml hv
  obtain ⟨rfl, hP, hE⟩ := hv
  have hx := B.exec
  have hb := B.bytes
  have hr := B.returns
  have hts := atoms_spec (ws := wsX3_waitsToBeKept) B.pre
  have hown : s.vm.findClass RX3 = some m.cls := findClass_of_methodNamed B.named
  have hlocks := B.notSynchronized
  have hK := hE.1
  have hl := lv_entry ([.ref h, .int (nI k)]) (n := 2) (Nat.le_of_ble_eq_true rfl)
  rw [lg_entry_eq]
  generalize (lg_sl ([.ref h, .int (nI k)]) ++ List.replicate (2 - (lg_sl ([.ref h, .int (nI k)])).length) Slot.unset).toArray = ls at hl ⊢
  have hl : lv_has ls 2 [(0, .ref h), (1, .int (nI k))] := hl
  have hinX3 : ∀ w ∈ u_ws RX3 TX3 14, w ∈ wsX3_waitsToBeKept := fun _ h => List.mem_cons_of_mem _ (List.mem_append_right _ h)
  refine lv_iload_n hx hb dX3_waitsToBeKept_0 rfl (lv_at hl 1 rfl) ?_
  refine lv_iconst (v := 0) hx hb dX3_waitsToBeKept_1 (by decide) ?_
  refine lv_bipush (v := 39) hx hb dX3_waitsToBeKept_2 (by decide) ?_
  refine vp_callSi (va_Run.run (va_runSN (As := [.int (nI k), .int 0, .int 39]) (rest := []) ⟨hx, hb, hml, hown, hts⟩ (k_within l D cI cJ cZ (nI k) 0 39) ⟨va_cnB 3 hts gX3_waitsToBeKept_X4_within_n89 rfl rfl rfl hE.2.2.2.2.2 (hts (.initialized RX4) (List.mem_of_getElem? (i := 3) rfl)) (by decide +kernel) ⟨Nat.le_of_ble_eq_true rfl, Nat.le_of_ble_eq_true rfl⟩, (hts (.static yX4_within) (List.mem_of_getElem? (i := 2) rfl)), trivial⟩ ⟨bl_ro, fun U hU hW => ⟨rfl, by rw [hU]; exact (hP.sub (ws' := []) [] rfl), hE.warm2 hW⟩⟩ rfl rfl hl.1 rfl (lv_room (Nat.le_of_ble_eq_true rfl)) dX3_waitsToBeKept_4 ⟨Nat.zero_le _, Nat.zero_le _⟩)) (fun r4 hr4 => ?_)
  refine lv_if_eq (tgt := 24) hx hb dX3_waitsToBeKept_7 (by decide) (fun c7 => (wi_f (hr4.symm.trans c7) (nI_pos' (by omega)) (nI_le (a := k) (b := 39) (by omega) (by decide))).elim) (fun c7 => ?_)
  refine lv_aload_n hx hb dX3_waitsToBeKept_10 rfl (lv_at hl 0 rfl) ?_
  refine va_get (D := D) (ci := 3) (v := .ref q1) (C := RX3) (T := TX3) (N := 14) hx hb hts hinX3 hown hK hP 0 rfl rfl 1 (by decide) (hts (.fieldLink RX3 9 "LedgerShares$Sheet" "stages" "[I") (List.mem_of_getElem? (i := 1) rfl)) (fun _ h9 => h9) rfl dX3_waitsToBeKept_11 ?_
  refine lv_iload_n hx hb dX3_waitsToBeKept_14 rfl (lv_at hl 1 rfl) ?_
  refine x_iald hx hb hE hP 1 rfl (k) hk (by decide) (rfl) dX3_waitsToBeKept_15 ?_
  refine lv_iconst (v := 2) hx hb dX3_waitsToBeKept_16 (by decide) ?_
  refine lv_icmp_ne (tgt := 24) hx hb dX3_waitsToBeKept_17 (by decide) (fun c17 => ?_) (fun c17 => ?_)
  · refine lv_iconst (v := 0) hx hb dX3_waitsToBeKept_24 (by decide) ?_
    exact W.zret hx hb hr (by decide) (fun t ht hW => ⟨_, rfl, by simp [c17], ht⟩) (fun q h => by cases h) dX3_waitsToBeKept_25
  · refine lv_iconst (v := 1) hx hb dX3_waitsToBeKept_20 (by decide) ?_
    refine lv_goto (tgt := 25) hx hb dX3_waitsToBeKept_21 (by decide) ?_
    exact W.zret hx hb hr (by decide) (fun t ht hW => ⟨_, rfl, by simp [c17], ht⟩) (fun q h => by cases h) dX3_waitsToBeKept_25
set_option maxHeartbeats 4000000 in
set_option maxRecDepth 100000 in
theorem k_settle (l : Launch) (D : va_G) (cI cJ cZ : ClassId) (sz : Nat) (h hB q1 q2 q3 q4 q5 q6 q7 q8 q9 q10 q11 q12 q13 : Nat) (st ca cb ka : Nat → Int32) (ra rb ga gb : Nat → Int64) (b1 b2 b3 b4 b5 b6 : Nat) (bz : Int32) (ak bk : Nat → Int32) (k : Nat) (hk : k < 40) (tick : Int32) : Met l yX3_settle wsX3_settle ({ frames := 2, cells := 0, slots := 0, locals := 44 }) (PcRW [.ref h, .int (nI k), .int tick] sz D cI cJ cZ [(h, .inr (3, [.ref hB, .ref q1, .ref q2, .ref q3, .ref q4, .ref q5, .ref q6, .ref q7, .ref q8, .ref q9, .ref q10, .ref q11, .ref q12, .ref q13])), (q1, .inl (cI, 40, .inl st)), (q3, .inl (cJ, 40, .inr (.inl ra))), (q4, .inl (cJ, 40, .inr (.inl rb))), (q5, .inl (cZ, 40, .inl ca)), (q6, .inl (cZ, 40, .inl cb)), (q7, .inl (cJ, 40, .inr (.inl ga))), (q8, .inl (cJ, 40, .inr (.inl gb))), (q12, .inl (cI, 40, .inl ka)), (hB, .inr (0, [.int bz, .ref b1, .ref b2, .ref b3, .ref b4, .ref b5, .ref b6])), (b2, .inl (cI, 40, .inl ak)), (b3, .inl (cI, 40, .inl bk))]) (QcI (fun r => r = if ra k = stnd st ca ak cb bk ga gb (ak k) k ∧ rb k = stnd st ca ak cb bk ga gb (bk k) k then 1 else 0) D (va_A [(h, .inr (3, [.ref hB, .ref q1, .ref q2, .ref q3, .ref q4, .ref q5, .ref q6, .ref q7, .ref q8, .ref q9, .ref q10, .ref q11, .ref q12, .ref q13])), (q1, .inl (cI, 40, .inl st)), (q3, .inl (cJ, 40, .inr (.inl ra))), (q4, .inl (cJ, 40, .inr (.inl rb))), (q5, .inl (cZ, 40, .inl ca)), (q6, .inl (cZ, 40, .inl cb)), (q7, .inl (cJ, 40, .inr (.inl ga))), (q8, .inl (cJ, 40, .inr (.inl gb))), (q12, .inl (cI, 40, .inl ka)), (hB, .inr (0, [.int bz, .ref b1, .ref b2, .ref b3, .ref b4, .ref b5, .ref b6])), (b2, .inl (cI, 40, .inl ak)), (b3, .inl (cI, 40, .inl bk))] sz) [(h, .inr (3, [.ref hB, .ref q1, .ref q2, .ref q3, .ref q4, .ref q5, .ref q6, .ref q7, .ref q8, .ref q9, .ref q10, .ref q11, .ref q12, .ref q13])), (q1, .inl (cI, 40, .inl (if ra k = stnd st ca ak cb bk ga gb (ak k) k ∧ rb k = stnd st ca ak cb bk ga gb (bk k) k then upd st k 3 else upd st k 0))), (q3, .inl (cJ, 40, .inr (.inl ra))), (q4, .inl (cJ, 40, .inr (.inl rb))), (q5, .inl (cZ, 40, .inl ca)), (q6, .inl (cZ, 40, .inl cb)), (q7, .inl (cJ, 40, .inr (.inl ga))), (q8, .inl (cJ, 40, .inr (.inl gb))), (q12, .inl (cI, 40, .inl (if ra k = stnd st ca ak cb bk ga gb (ak k) k ∧ rb k = stnd st ca ak cb bk ga gb (bk k) k then upd ka k tick else ka))), (hB, .inr (0, [.int bz, .ref b1, .ref b2, .ref b3, .ref b4, .ref b5, .ref b6])), (b2, .inl (cI, 40, .inl ak)), (b3, .inl (cI, 40, .inl bk))]) 0 0 (va_A [(h, .inr (3, [.ref hB, .ref q1, .ref q2, .ref q3, .ref q4, .ref q5, .ref q6, .ref q7, .ref q8, .ref q9, .ref q10, .ref q11, .ref q12, .ref q13])), (q1, .inl (cI, 40, .inl st)), (q3, .inl (cJ, 40, .inr (.inl ra))), (q4, .inl (cJ, 40, .inr (.inl rb))), (q5, .inl (cZ, 40, .inl ca)), (q6, .inl (cZ, 40, .inl cb)), (q7, .inl (cJ, 40, .inr (.inl ga))), (q8, .inl (cJ, 40, .inr (.inl gb))), (q12, .inl (cI, 40, .inl ka)), (hB, .inr (0, [.int bz, .ref b1, .ref b2, .ref b3, .ref b4, .ref b5, .ref b6])), (b2, .inl (cI, 40, .inl ak)), (b3, .inl (cI, 40, .inl bk))] sz) := by
  refine Met.ofW (cc := cX3_settle) (maxL := 4) (ret := some .boolean) (by decide) rfl ?_
  intro p e s m args below meth c s₁ B hml hv
  obtain ⟨rfl, hsz, hP, hE, hD0⟩ := hv
  have hx := B.exec
  have hb := B.bytes
  have hr := B.returns
  have hts := atoms_spec (ws := wsX3_settle) B.pre
  have hown : s.vm.findClass RX3 = some m.cls := findClass_of_methodNamed B.named
  have hlocks := B.notSynchronized
  have hK := hE.1
  subst hsz
  have hD := hD0.self (sz := s.heap.size)
  generalize hAe : va_A [(h, .inr (3, [.ref hB, .ref q1, .ref q2, .ref q3, .ref q4, .ref q5, .ref q6, .ref q7, .ref q8, .ref q9, .ref q10, .ref q11, .ref q12, .ref q13])), (q1, .inl (cI, 40, .inl st)), (q3, .inl (cJ, 40, .inr (.inl ra))), (q4, .inl (cJ, 40, .inr (.inl rb))), (q5, .inl (cZ, 40, .inl ca)), (q6, .inl (cZ, 40, .inl cb)), (q7, .inl (cJ, 40, .inr (.inl ga))), (q8, .inl (cJ, 40, .inr (.inl gb))), (q12, .inl (cI, 40, .inl ka)), (hB, .inr (0, [.int bz, .ref b1, .ref b2, .ref b3, .ref b4, .ref b5, .ref b6])), (b2, .inl (cI, 40, .inl ak)), (b3, .inl (cI, 40, .inl bk))] s.heap.size = A at hD ⊢
  have hA : ∀ q : Nat, s.heap.size ≤ q → A q := fun q h => by rw [← hAe]; exact Or.inr h
  have hS : va_S A s.heap s.heap [] := va_S.rf
  have hl := lv_entry ([.ref h, .int (nI k), .int tick]) (n := 4) (Nat.le_of_ble_eq_true rfl)
  rw [lg_entry_eq]
  generalize (lg_sl ([.ref h, .int (nI k), .int tick]) ++ List.replicate (4 - (lg_sl ([.ref h, .int (nI k), .int tick])).length) Slot.unset).toArray = ls at hl ⊢
  have hl : lv_has ls 4 [(0, .ref h), (1, .int (nI k)), (2, .int tick)] := hl
  have hinX0 : ∀ w ∈ u_ws RX0 TX0 7, w ∈ wsX3_settle := fun _ h => List.mem_cons_of_mem _ (List.mem_append_right _ h)
  have hinX3 : ∀ w ∈ u_ws RX3 TX3 14, w ∈ wsX3_settle := fun _ h => List.mem_cons_of_mem _ (List.mem_append_left _ (List.mem_append_right _ h))
  refine lv_aload_n hx hb dX3_settle_0 rfl (lv_at hl 0 rfl) ?_
  refine va_get (D := D) (ci := 3) (v := .ref q3) (C := RX3) (T := TX3) (N := 14) hx hb hts hinX3 hown hK hP 0 rfl rfl 3 (by decide) (hts (.fieldLink RX3 18 "LedgerShares$Sheet" "readA" "[J") (List.mem_of_getElem? (i := 1) rfl)) (fun _ h9 => h9) rfl dX3_settle_1 ?_
  refine lv_iload_n hx hb dX3_settle_4 rfl (lv_at hl 1 rfl) ?_
  refine x_lald hx hb hE hP 2 rfl (k) hk (by decide) (rfl) dX3_settle_5 ?_
  refine lv_aload_n hx hb dX3_settle_6 rfl (lv_at hl 0 rfl) ?_
  refine lv_iload_n hx hb dX3_settle_7 rfl (lv_at hl 1 rfl) ?_
  refine lv_aload_n hx hb dX3_settle_8 rfl (lv_at hl 0 rfl) ?_
  refine va_get (D := D) (ci := 3) (v := .ref hB) (C := RX3) (T := TX3) (N := 14) hx hb hts hinX3 hown hK hP 0 rfl rfl 0 (by decide) (hts (.fieldLink RX3 53 "LedgerShares$Sheet" "book" "LLedgerShares$Book;") (List.mem_of_getElem? (i := 2) rfl)) (fun _ h9 => h9) rfl dX3_settle_9 ?_
  refine va_get (D := D) (ci := 0) (v := .ref b2) (C := RX0) (T := TX0) (N := 7) hx hb hts hinX0 hown hK hP 9 rfl rfl 2 (by decide) (hts (.fieldLink RX3 67 "LedgerShares$Book" "as" "[I") (List.mem_of_getElem? (i := 3) rfl)) (fun _ h9 => h9) rfl dX3_settle_12 ?_
  refine lv_iload_n hx hb dX3_settle_15 rfl (lv_at hl 1 rfl) ?_
  refine x_iald hx hb hE hP 10 rfl (k) hk (by decide) (rfl) dX3_settle_16 ?_
  refine vp_callSl (va_Run.run (va_runV (As := [.int (nI k), .int (ak k)]) (rest := [.long (ra k)]) ⟨hx, hb, hml, hown, hts⟩ (k_standing l D cI cJ cZ h hB q1 q2 q3 q4 q5 q6 q7 q8 q9 q10 q11 q12 q13 st ca cb ga gb b1 b2 b3 b4 b5 b6 bz ak bk (ak k) k (by omega)) (cwV 2 hts gX3_settle_X3_standing rfl rfl rfl (by decide +kernel) ⟨Nat.le_of_ble_eq_true rfl, Nat.le_of_ble_eq_true rfl⟩) ⟨bl_ro, va_recv hK (hP.sub (ws' := [(h, .inr (3, [.ref hB, .ref q1, .ref q2, .ref q3, .ref q4, .ref q5, .ref q6, .ref q7, .ref q8, .ref q9, .ref q10, .ref q11, .ref q12, .ref q13])), (q1, .inl (cI, 40, .inl st)), (q5, .inl (cZ, 40, .inl ca)), (q6, .inl (cZ, 40, .inl cb)), (q7, .inl (cJ, 40, .inr (.inl ga))), (q8, .inl (cJ, 40, .inr (.inl gb))), (hB, .inr (0, [.int bz, .ref b1, .ref b2, .ref b3, .ref b4, .ref b5, .ref b6])), (b2, .inl (cI, 40, .inl ak)), (b3, .inl (cI, 40, .inl bk))]) [0, 1, 4, 5, 6, 7, 9, 10, 11] rfl) (ci := 3) (q0 := 0) rfl rfl, fun U hU hW => ⟨rfl, by rw [hU]; exact (hP.sub (ws' := [(h, .inr (3, [.ref hB, .ref q1, .ref q2, .ref q3, .ref q4, .ref q5, .ref q6, .ref q7, .ref q8, .ref q9, .ref q10, .ref q11, .ref q12, .ref q13])), (q1, .inl (cI, 40, .inl st)), (q5, .inl (cZ, 40, .inl ca)), (q6, .inl (cZ, 40, .inl cb)), (q7, .inl (cJ, 40, .inr (.inl ga))), (q8, .inl (cJ, 40, .inr (.inl gb))), (hB, .inr (0, [.int bz, .ref b1, .ref b2, .ref b3, .ref b4, .ref b5, .ref b6])), (b2, .inl (cI, 40, .inl ak)), (b3, .inl (cI, 40, .inl bk))]) [0, 1, 4, 5, 6, 7, 9, 10, 11] rfl), hE.warm2 hW⟩⟩ rfl rfl hl.1 rfl (lv_room (Nat.le_of_ble_eq_true rfl)) dX3_settle_17 ⟨Nat.zero_le _, Nat.zero_le _⟩)) (fun r17 hr17 => ?_)
  subst hr17
  refine W.lcmp hx hb dX3_settle_20 ?_
  refine lv_if_ne (tgt := 52) hx hb dX3_settle_21 (by decide) (fun c21 => ?_) (fun c21 => ?_)
  · have c21 := _root_.mt (lg_cmp_eq _ _).mpr c21
    refine lv_iconst (v := 0) hx hb dX3_settle_52 (by decide) ?_
    refine lv_istore_n (lv' := [(3, .int 0), (0, .ref h), (1, .int (nI k)), (2, .int tick)]) hx hb dX3_settle_53 rfl hl (by decide) rfl (fun ls hl => ?_)
    refine lv_aload_n hx hb dX3_settle_54 rfl (lv_at hl 1 rfl) ?_
    refine va_get (D := D) (ci := 3) (v := .ref q1) (C := RX3) (T := TX3) (N := 14) hx hb hts hinX3 hown hK hP 0 rfl rfl 1 (by decide) (hts (.fieldLink RX3 9 "LedgerShares$Sheet" "stages" "[I") (List.mem_of_getElem? (i := 6) rfl)) (fun _ h9 => h9) rfl dX3_settle_55 ?_
    refine lv_iload_n hx hb dX3_settle_58 rfl (lv_at hl 2 rfl) ?_
    refine lv_iload_n hx hb dX3_settle_59 rfl (lv_at hl 0 rfl) ?_
    refine lv_if_eq (tgt := 67) hx hb dX3_settle_60 (by decide) (fun c60 => ?_) (fun c60 => absurd c60 (by decide))
    refine lv_iconst (v := 0) hx hb dX3_settle_67 (by decide) ?_
    refine x_iast hx hb hE hP hD hS 1 rfl (k) hk (by decide) (rfl) (ws' := [(h, .inr (3, [.ref hB, .ref q1, .ref q2, .ref q3, .ref q4, .ref q5, .ref q6, .ref q7, .ref q8, .ref q9, .ref q10, .ref q11, .ref q12, .ref q13])), (q1, .inl (cI, 40, .inl (upd st k 0))), (q3, .inl (cJ, 40, .inr (.inl ra))), (q4, .inl (cJ, 40, .inr (.inl rb))), (q5, .inl (cZ, 40, .inl ca)), (q6, .inl (cZ, 40, .inl cb)), (q7, .inl (cJ, 40, .inr (.inl ga))), (q8, .inl (cJ, 40, .inr (.inl gb))), (q12, .inl (cI, 40, .inl ka)), (hB, .inr (0, [.int bz, .ref b1, .ref b2, .ref b3, .ref b4, .ref b5, .ref b6])), (b2, .inl (cI, 40, .inl ak)), (b3, .inl (cI, 40, .inl bk))]) (rfl) dX3_settle_68 (fun H locs hP hD hS => ?_)
    refine lv_iload_n hx hb dX3_settle_69 rfl (lv_at hl 0 rfl) ?_
    refine lv_if_eq (tgt := 80) hx hb dX3_settle_70 (by decide) (fun c70 => ?_) (fun c70 => absurd c70 (by decide))
    refine lv_iload_n hx hb dX3_settle_80 rfl (lv_at hl 0 rfl) ?_
    exact W.zret hx hb hr (by decide) (fun t ht hW => ⟨⟨_, (), rfl, by simp only [if_neg (show ¬ (ra k = stnd st ca ak cb bk ga gb (ak k) k ∧ rb k = stnd st ca ak cb bk ga gb (bk k) k) from fun z => c21 z.1)], by rw [ht]; simp only [if_neg (show ¬ (ra k = stnd st ca ak cb bk ga gb (ak k) k ∧ rb k = stnd st ca ak cb bk ga gb (bk k) k) from fun z => c21 z.1)]; exact hP, by simp only [if_neg (show ¬ (ra k = stnd st ca ak cb bk ga gb (ak k) k ∧ rb k = stnd st ca ak cb bk ga gb (bk k) k) from fun z => c21 z.1)]; exact hD⟩, hS.F ht⟩) hS.2.2 dX3_settle_81
  · have c21 := (lg_cmp_eq _ _).mp c21
    refine lv_aload_n hx hb dX3_settle_24 rfl (lv_at hl 0 rfl) ?_
    refine va_get (D := D) (ci := 3) (v := .ref q4) (C := RX3) (T := TX3) (N := 14) hx hb hts hinX3 hown hK hP 0 rfl rfl 4 (by decide) (hts (.fieldLink RX3 22 "LedgerShares$Sheet" "readB" "[J") (List.mem_of_getElem? (i := 4) rfl)) (fun _ h9 => h9) rfl dX3_settle_25 ?_
    refine lv_iload_n hx hb dX3_settle_28 rfl (lv_at hl 1 rfl) ?_
    refine x_lald hx hb hE hP 3 rfl (k) hk (by decide) (rfl) dX3_settle_29 ?_
    refine lv_aload_n hx hb dX3_settle_30 rfl (lv_at hl 0 rfl) ?_
    refine lv_iload_n hx hb dX3_settle_31 rfl (lv_at hl 1 rfl) ?_
    refine lv_aload_n hx hb dX3_settle_32 rfl (lv_at hl 0 rfl) ?_
    refine va_get (D := D) (ci := 3) (v := .ref hB) (C := RX3) (T := TX3) (N := 14) hx hb hts hinX3 hown hK hP 0 rfl rfl 0 (by decide) (hts (.fieldLink RX3 53 "LedgerShares$Sheet" "book" "LLedgerShares$Book;") (List.mem_of_getElem? (i := 2) rfl)) (fun _ h9 => h9) rfl dX3_settle_33 ?_
    refine va_get (D := D) (ci := 0) (v := .ref b3) (C := RX0) (T := TX0) (N := 7) hx hb hts hinX0 hown hK hP 9 rfl rfl 3 (by decide) (hts (.fieldLink RX3 72 "LedgerShares$Book" "bs" "[I") (List.mem_of_getElem? (i := 5) rfl)) (fun _ h9 => h9) rfl dX3_settle_36 ?_
    refine lv_iload_n hx hb dX3_settle_39 rfl (lv_at hl 1 rfl) ?_
    refine x_iald hx hb hE hP 11 rfl (k) hk (by decide) (rfl) dX3_settle_40 ?_
    refine vp_callSl (va_Run.run (va_runV (As := [.int (nI k), .int (bk k)]) (rest := [.long (rb k)]) ⟨hx, hb, hml, hown, hts⟩ (k_standing l D cI cJ cZ h hB q1 q2 q3 q4 q5 q6 q7 q8 q9 q10 q11 q12 q13 st ca cb ga gb b1 b2 b3 b4 b5 b6 bz ak bk (bk k) k (by omega)) (cwV 2 hts gX3_settle_X3_standing rfl rfl rfl (by decide +kernel) ⟨Nat.le_of_ble_eq_true rfl, Nat.le_of_ble_eq_true rfl⟩) ⟨bl_ro, va_recv hK (hP.sub (ws' := [(h, .inr (3, [.ref hB, .ref q1, .ref q2, .ref q3, .ref q4, .ref q5, .ref q6, .ref q7, .ref q8, .ref q9, .ref q10, .ref q11, .ref q12, .ref q13])), (q1, .inl (cI, 40, .inl st)), (q5, .inl (cZ, 40, .inl ca)), (q6, .inl (cZ, 40, .inl cb)), (q7, .inl (cJ, 40, .inr (.inl ga))), (q8, .inl (cJ, 40, .inr (.inl gb))), (hB, .inr (0, [.int bz, .ref b1, .ref b2, .ref b3, .ref b4, .ref b5, .ref b6])), (b2, .inl (cI, 40, .inl ak)), (b3, .inl (cI, 40, .inl bk))]) [0, 1, 4, 5, 6, 7, 9, 10, 11] rfl) (ci := 3) (q0 := 0) rfl rfl, fun U hU hW => ⟨rfl, by rw [hU]; exact (hP.sub (ws' := [(h, .inr (3, [.ref hB, .ref q1, .ref q2, .ref q3, .ref q4, .ref q5, .ref q6, .ref q7, .ref q8, .ref q9, .ref q10, .ref q11, .ref q12, .ref q13])), (q1, .inl (cI, 40, .inl st)), (q5, .inl (cZ, 40, .inl ca)), (q6, .inl (cZ, 40, .inl cb)), (q7, .inl (cJ, 40, .inr (.inl ga))), (q8, .inl (cJ, 40, .inr (.inl gb))), (hB, .inr (0, [.int bz, .ref b1, .ref b2, .ref b3, .ref b4, .ref b5, .ref b6])), (b2, .inl (cI, 40, .inl ak)), (b3, .inl (cI, 40, .inl bk))]) [0, 1, 4, 5, 6, 7, 9, 10, 11] rfl), hE.warm2 hW⟩⟩ rfl rfl hl.1 rfl (lv_room (Nat.le_of_ble_eq_true rfl)) dX3_settle_41 ⟨Nat.zero_le _, Nat.zero_le _⟩)) (fun r41 hr41 => ?_)
    subst hr41
    refine W.lcmp hx hb dX3_settle_44 ?_
    refine lv_if_ne (tgt := 52) hx hb dX3_settle_45 (by decide) (fun c45 => ?_) (fun c45 => ?_)
    · have c45 := _root_.mt (lg_cmp_eq _ _).mpr c45
      refine lv_iconst (v := 0) hx hb dX3_settle_52 (by decide) ?_
      refine lv_istore_n (lv' := [(3, .int 0), (0, .ref h), (1, .int (nI k)), (2, .int tick)]) hx hb dX3_settle_53 rfl hl (by decide) rfl (fun ls hl => ?_)
      refine lv_aload_n hx hb dX3_settle_54 rfl (lv_at hl 1 rfl) ?_
      refine va_get (D := D) (ci := 3) (v := .ref q1) (C := RX3) (T := TX3) (N := 14) hx hb hts hinX3 hown hK hP 0 rfl rfl 1 (by decide) (hts (.fieldLink RX3 9 "LedgerShares$Sheet" "stages" "[I") (List.mem_of_getElem? (i := 6) rfl)) (fun _ h9 => h9) rfl dX3_settle_55 ?_
      refine lv_iload_n hx hb dX3_settle_58 rfl (lv_at hl 2 rfl) ?_
      refine lv_iload_n hx hb dX3_settle_59 rfl (lv_at hl 0 rfl) ?_
      refine lv_if_eq (tgt := 67) hx hb dX3_settle_60 (by decide) (fun c60 => ?_) (fun c60 => absurd c60 (by decide))
      refine lv_iconst (v := 0) hx hb dX3_settle_67 (by decide) ?_
      refine x_iast hx hb hE hP hD hS 1 rfl (k) hk (by decide) (rfl) (ws' := [(h, .inr (3, [.ref hB, .ref q1, .ref q2, .ref q3, .ref q4, .ref q5, .ref q6, .ref q7, .ref q8, .ref q9, .ref q10, .ref q11, .ref q12, .ref q13])), (q1, .inl (cI, 40, .inl (upd st k 0))), (q3, .inl (cJ, 40, .inr (.inl ra))), (q4, .inl (cJ, 40, .inr (.inl rb))), (q5, .inl (cZ, 40, .inl ca)), (q6, .inl (cZ, 40, .inl cb)), (q7, .inl (cJ, 40, .inr (.inl ga))), (q8, .inl (cJ, 40, .inr (.inl gb))), (q12, .inl (cI, 40, .inl ka)), (hB, .inr (0, [.int bz, .ref b1, .ref b2, .ref b3, .ref b4, .ref b5, .ref b6])), (b2, .inl (cI, 40, .inl ak)), (b3, .inl (cI, 40, .inl bk))]) (rfl) dX3_settle_68 (fun H locs hP hD hS => ?_)
      refine lv_iload_n hx hb dX3_settle_69 rfl (lv_at hl 0 rfl) ?_
      refine lv_if_eq (tgt := 80) hx hb dX3_settle_70 (by decide) (fun c70 => ?_) (fun c70 => absurd c70 (by decide))
      refine lv_iload_n hx hb dX3_settle_80 rfl (lv_at hl 0 rfl) ?_
      exact W.zret hx hb hr (by decide) (fun t ht hW => ⟨⟨_, (), rfl, by simp only [if_neg (show ¬ (ra k = stnd st ca ak cb bk ga gb (ak k) k ∧ rb k = stnd st ca ak cb bk ga gb (bk k) k) from fun z => c45 z.2)], by rw [ht]; simp only [if_neg (show ¬ (ra k = stnd st ca ak cb bk ga gb (ak k) k ∧ rb k = stnd st ca ak cb bk ga gb (bk k) k) from fun z => c45 z.2)]; exact hP, by simp only [if_neg (show ¬ (ra k = stnd st ca ak cb bk ga gb (ak k) k ∧ rb k = stnd st ca ak cb bk ga gb (bk k) k) from fun z => c45 z.2)]; exact hD⟩, hS.F ht⟩) hS.2.2 dX3_settle_81
    · have c45 := (lg_cmp_eq _ _).mp c45
      refine lv_iconst (v := 1) hx hb dX3_settle_48 (by decide) ?_
      refine lv_goto (tgt := 53) hx hb dX3_settle_49 (by decide) ?_
      refine lv_istore_n (lv' := [(3, .int 1), (0, .ref h), (1, .int (nI k)), (2, .int tick)]) hx hb dX3_settle_53 rfl hl (by decide) rfl (fun ls hl => ?_)
      refine lv_aload_n hx hb dX3_settle_54 rfl (lv_at hl 1 rfl) ?_
      refine va_get (D := D) (ci := 3) (v := .ref q1) (C := RX3) (T := TX3) (N := 14) hx hb hts hinX3 hown hK hP 0 rfl rfl 1 (by decide) (hts (.fieldLink RX3 9 "LedgerShares$Sheet" "stages" "[I") (List.mem_of_getElem? (i := 6) rfl)) (fun _ h9 => h9) rfl dX3_settle_55 ?_
      refine lv_iload_n hx hb dX3_settle_58 rfl (lv_at hl 2 rfl) ?_
      refine lv_iload_n hx hb dX3_settle_59 rfl (lv_at hl 0 rfl) ?_
      refine lv_if_eq (tgt := 67) hx hb dX3_settle_60 (by decide) (fun c60 => absurd c60 (by decide)) (fun c60 => ?_)
      refine lv_iconst (v := 3) hx hb dX3_settle_63 (by decide) ?_
      refine lv_goto (tgt := 68) hx hb dX3_settle_64 (by decide) ?_
      refine x_iast hx hb hE hP hD hS 1 rfl (k) hk (by decide) (rfl) (ws' := [(h, .inr (3, [.ref hB, .ref q1, .ref q2, .ref q3, .ref q4, .ref q5, .ref q6, .ref q7, .ref q8, .ref q9, .ref q10, .ref q11, .ref q12, .ref q13])), (q1, .inl (cI, 40, .inl (upd st k 3))), (q3, .inl (cJ, 40, .inr (.inl ra))), (q4, .inl (cJ, 40, .inr (.inl rb))), (q5, .inl (cZ, 40, .inl ca)), (q6, .inl (cZ, 40, .inl cb)), (q7, .inl (cJ, 40, .inr (.inl ga))), (q8, .inl (cJ, 40, .inr (.inl gb))), (q12, .inl (cI, 40, .inl ka)), (hB, .inr (0, [.int bz, .ref b1, .ref b2, .ref b3, .ref b4, .ref b5, .ref b6])), (b2, .inl (cI, 40, .inl ak)), (b3, .inl (cI, 40, .inl bk))]) (rfl) dX3_settle_68 (fun H locs hP hD hS => ?_)
      refine lv_iload_n hx hb dX3_settle_69 rfl (lv_at hl 0 rfl) ?_
      refine lv_if_eq (tgt := 80) hx hb dX3_settle_70 (by decide) (fun c70 => absurd c70 (by decide)) (fun c70 => ?_)
      refine lv_aload_n hx hb dX3_settle_73 rfl (lv_at hl 1 rfl) ?_
      refine va_get (D := D) (ci := 3) (v := .ref q12) (C := RX3) (T := TX3) (N := 14) hx hb hts hinX3 hown hK hP 0 rfl rfl 12 (by decide) (hts (.fieldLink RX3 47 "LedgerShares$Sheet" "keptAt" "[I") (List.mem_of_getElem? (i := 7) rfl)) (fun _ h9 => h9) rfl dX3_settle_74 ?_
      refine lv_iload_n hx hb dX3_settle_77 rfl (lv_at hl 2 rfl) ?_
      refine lv_iload_n hx hb dX3_settle_78 rfl (lv_at hl 3 rfl) ?_
      refine x_iast hx hb hE hP hD hS 8 rfl (k) hk (by decide) (rfl) (ws' := [(h, .inr (3, [.ref hB, .ref q1, .ref q2, .ref q3, .ref q4, .ref q5, .ref q6, .ref q7, .ref q8, .ref q9, .ref q10, .ref q11, .ref q12, .ref q13])), (q1, .inl (cI, 40, .inl (upd st k 3))), (q3, .inl (cJ, 40, .inr (.inl ra))), (q4, .inl (cJ, 40, .inr (.inl rb))), (q5, .inl (cZ, 40, .inl ca)), (q6, .inl (cZ, 40, .inl cb)), (q7, .inl (cJ, 40, .inr (.inl ga))), (q8, .inl (cJ, 40, .inr (.inl gb))), (q12, .inl (cI, 40, .inl (upd ka k tick))), (hB, .inr (0, [.int bz, .ref b1, .ref b2, .ref b3, .ref b4, .ref b5, .ref b6])), (b2, .inl (cI, 40, .inl ak)), (b3, .inl (cI, 40, .inl bk))]) (rfl) dX3_settle_79 (fun H locs hP hD hS => ?_)
      refine lv_iload_n hx hb dX3_settle_80 rfl (lv_at hl 0 rfl) ?_
      exact W.zret hx hb hr (by decide) (fun t ht hW => ⟨⟨_, (), rfl, by simp only [if_pos (show ra k = stnd st ca ak cb bk ga gb (ak k) k ∧ rb k = stnd st ca ak cb bk ga gb (bk k) k from ⟨c21, c45⟩)], by rw [ht]; simp only [if_pos (show ra k = stnd st ca ak cb bk ga gb (ak k) k ∧ rb k = stnd st ca ak cb bk ga gb (bk k) k from ⟨c21, c45⟩)]; exact hP, by simp only [if_pos (show ra k = stnd st ca ak cb bk ga gb (ak k) k ∧ rb k = stnd st ca ak cb bk ga gb (bk k) k from ⟨c21, c45⟩)]; exact hD⟩, hS.F ht⟩) hS.2.2 dX3_settle_81
set_option maxHeartbeats 4000000 in
set_option maxRecDepth 100000 in
theorem k_figure (l : Launch) (D : va_G) (cI cJ cZ : ClassId) (h hB q1 q2 q3 q4 q5 q6 q7 q8 q9 q10 q11 q12 q13 : Nat) (tb fb ka eb : Nat → Int32) (k : Nat) (hk : k < 40) (w : Int32) : Met l yX3_figure wsX3_figure ({ frames := 0, cells := 0, slots := 0, locals := 0 }) (PcRO [.ref h, .int (nI k), .int w] D cI cJ cZ [(h, .inr (3, [.ref hB, .ref q1, .ref q2, .ref q3, .ref q4, .ref q5, .ref q6, .ref q7, .ref q8, .ref q9, .ref q10, .ref q11, .ref q12, .ref q13])), (q10, .inl (cI, 40, .inl tb)), (q11, .inl (cI, 40, .inl fb)), (q12, .inl (cI, 40, .inl ka)), (q13, .inl (cI, 40, .inl eb))]) (vp_Si (fun r => r = if w = 0 then tb k else if w = 1 then fb k else if w = 2 then ka k else eb k)) 0 0 noF := by
  refine Met.ofW (cc := cX3_figure) (maxL := 3) (ret := some .int) (by decide) rfl ?_
  intro p e s m args below meth c s₁ B hml hv
  obtain ⟨rfl, hP, hE⟩ := hv
  have hx := B.exec
  have hb := B.bytes
  have hr := B.returns
  have hts := atoms_spec (ws := wsX3_figure) B.pre
  have hown : s.vm.findClass RX3 = some m.cls := findClass_of_methodNamed B.named
  have hlocks := B.notSynchronized
  have hK := hE.1
  have hl := lv_entry ([.ref h, .int (nI k), .int w]) (n := 3) (Nat.le_of_ble_eq_true rfl)
  rw [lg_entry_eq]
  generalize (lg_sl ([.ref h, .int (nI k), .int w]) ++ List.replicate (3 - (lg_sl ([.ref h, .int (nI k), .int w])).length) Slot.unset).toArray = ls at hl ⊢
  have hl : lv_has ls 3 [(0, .ref h), (1, .int (nI k)), (2, .int w)] := hl
  have hinX3 : ∀ w ∈ u_ws RX3 TX3 14, w ∈ wsX3_figure := fun _ h => List.mem_cons_of_mem _ (List.mem_append_right _ h)
  refine lv_iload_n hx hb dX3_figure_0 rfl (lv_at hl 2 rfl) ?_
  rcases sw2 w with e1 | e1 | e1 | ⟨n0, n1, n2, n3⟩
  · refine lv_tableIn (off := 27) (tgt := 28) hx hb dX3_figure_1 (by rw [e1]; decide) (by rw [e1]; decide) (by rw [e1]; rfl) (by decide) ?_
    refine lv_aload_n hx hb dX3_figure_28 rfl (lv_at hl 0 rfl) ?_
    refine va_get (D := D) (ci := 3) (v := .ref q10) (C := RX3) (T := TX3) (N := 14) hx hb hts hinX3 hown hK hP 0 rfl rfl 10 (by decide) (hts (.fieldLink RX3 41 "LedgerShares$Sheet" "timesBegun" "[I") (List.mem_of_getElem? (i := 1) rfl)) (fun _ h9 => h9) rfl dX3_figure_29 ?_
    refine lv_iload_n hx hb dX3_figure_32 rfl (lv_at hl 1 rfl) ?_
    refine x_iald hx hb hE hP 1 rfl (k) hk (by decide) (rfl) dX3_figure_33 ?_
    exact W.iret hx hb hr (fun t ht hW => ⟨_, rfl, by simp [e1], ht⟩) (fun q h => by cases h) dX3_figure_34
  · refine lv_tableIn (off := 34) (tgt := 35) hx hb dX3_figure_1 (by rw [e1]; decide) (by rw [e1]; decide) (by rw [e1]; rfl) (by decide) ?_
    refine lv_aload_n hx hb dX3_figure_35 rfl (lv_at hl 0 rfl) ?_
    refine va_get (D := D) (ci := 3) (v := .ref q11) (C := RX3) (T := TX3) (N := 14) hx hb hts hinX3 hown hK hP 0 rfl rfl 11 (by decide) (hts (.fieldLink RX3 44 "LedgerShares$Sheet" "firstBegun" "[I") (List.mem_of_getElem? (i := 2) rfl)) (fun _ h9 => h9) rfl dX3_figure_36 ?_
    refine lv_iload_n hx hb dX3_figure_39 rfl (lv_at hl 1 rfl) ?_
    refine x_iald hx hb hE hP 2 rfl (k) hk (by decide) (rfl) dX3_figure_40 ?_
    exact W.iret hx hb hr (fun t ht hW => ⟨_, rfl, by simp [e1], ht⟩) (fun q h => by cases h) dX3_figure_41
  · refine lv_tableIn (off := 41) (tgt := 42) hx hb dX3_figure_1 (by rw [e1]; decide) (by rw [e1]; decide) (by rw [e1]; rfl) (by decide) ?_
    refine lv_aload_n hx hb dX3_figure_42 rfl (lv_at hl 0 rfl) ?_
    refine va_get (D := D) (ci := 3) (v := .ref q12) (C := RX3) (T := TX3) (N := 14) hx hb hts hinX3 hown hK hP 0 rfl rfl 12 (by decide) (hts (.fieldLink RX3 47 "LedgerShares$Sheet" "keptAt" "[I") (List.mem_of_getElem? (i := 3) rfl)) (fun _ h9 => h9) rfl dX3_figure_43 ?_
    refine lv_iload_n hx hb dX3_figure_46 rfl (lv_at hl 1 rfl) ?_
    refine x_iald hx hb hE hP 3 rfl (k) hk (by decide) (rfl) dX3_figure_47 ?_
    exact W.iret hx hb hr (fun t ht hW => ⟨_, rfl, by simp [e1], ht⟩) (fun q h => by cases h) dX3_figure_48
  · refine lv_tableOut (tgt := 49) hx hb dX3_figure_1 (n3) (by decide) ?_
    refine lv_aload_n hx hb dX3_figure_49 rfl (lv_at hl 0 rfl) ?_
    refine va_get (D := D) (ci := 3) (v := .ref q13) (C := RX3) (T := TX3) (N := 14) hx hb hts hinX3 hown hK hP 0 rfl rfl 13 (by decide) (hts (.fieldLink RX3 50 "LedgerShares$Sheet" "endedBy" "[I") (List.mem_of_getElem? (i := 4) rfl)) (fun _ h9 => h9) rfl dX3_figure_50 ?_
    refine lv_iload_n hx hb dX3_figure_53 rfl (lv_at hl 1 rfl) ?_
    refine x_iald hx hb hE hP 4 rfl (k) hk (by decide) (rfl) dX3_figure_54 ?_
    exact W.iret hx hb hr (fun t ht hW => ⟨_, rfl, by simp [n0, n1, n2], ht⟩) (fun q h => by cases h) dX3_figure_55
set_option maxHeartbeats 4000000 in
set_option maxRecDepth 100000 in
theorem k_failures (l : Launch) (D : va_G) (cI cJ cZ : ClassId) (h hB q1 q2 q3 q4 q5 q6 q7 q8 q9 q10 q11 q12 q13 : Nat) (oc : Nat → Int32) (en : Nat) (he : en ≤ 40) : Met l yX3_failures wsX3_failures ({ frames := 0, cells := 0, slots := 0, locals := 0 }) (PcRO [.ref h, .int (nI en)] D cI cJ cZ [(h, .inr (3, [.ref hB, .ref q1, .ref q2, .ref q3, .ref q4, .ref q5, .ref q6, .ref q7, .ref q8, .ref q9, .ref q10, .ref q11, .ref q12, .ref q13])), (q9, .inl (cI, 40, .inl oc))]) (vp_Si (fun r => r = fails oc en 41 0 0)) 0 0 noF := by
  refine Met.ofW (cc := cX3_failures) (maxL := 4) (ret := some .int) (by decide) rfl ?_
  intro p e s m args below meth c s₁ B hml hv
  obtain ⟨rfl, hP, hE⟩ := hv
  have hx := B.exec
  have hb := B.bytes
  have hr := B.returns
  have hts := atoms_spec (ws := wsX3_failures) B.pre
  have hown : s.vm.findClass RX3 = some m.cls := findClass_of_methodNamed B.named
  have hlocks := B.notSynchronized
  have hK := hE.1
  have hl := lv_entry ([.ref h, .int (nI en)]) (n := 4) (Nat.le_of_ble_eq_true rfl)
  rw [lg_entry_eq]
  generalize (lg_sl ([.ref h, .int (nI en)]) ++ List.replicate (4 - (lg_sl ([.ref h, .int (nI en)])).length) Slot.unset).toArray = ls at hl ⊢
  have hl : lv_has ls 4 [(0, .ref h), (1, .int (nI en))] := hl
  have hinX3 : ∀ w ∈ u_ws RX3 TX3 14, w ∈ wsX3_failures := fun _ h => List.mem_cons_of_mem _ (List.mem_append_right _ h)
  refine lv_iconst (v := 0) hx hb dX3_failures_0 (by decide) ?_
  refine lv_istore_n (lv' := [(2, .int 0), (0, .ref h), (1, .int (nI en))]) hx hb dX3_failures_1 rfl hl (by decide) rfl (fun ls hl => ?_)
  refine lv_iconst (v := 0) hx hb dX3_failures_2 (by decide) ?_
  refine lv_istore_n (lv' := [(3, .int 0), (2, .int 0), (0, .ref h), (1, .int (nI en))]) hx hb dX3_failures_3 rfl hl (by decide) rfl (fun ls hl => ?_)
  have loop4 : ∀ (n : Nat) (k : Nat) (r : Int32), (k ≤ 40) → (41 ≤ k + n) → (fails oc en 41 0 0 = fails oc en n k r) → ∀ (ls : Array Slot), lv_has ls 4 [(3, .int (nI k)), (2, .int r), (0, .ref h), (1, .int (nI en))] → W p l e (headSpec wsX3_failures ({ frames := 0, cells := 0, slots := 0, locals := 0 })).room s m ([.ref h, .int (nI en)].toArray) below meth c s.heap [] 0 0 (MQ below (vp_Si (fun r => r = fails oc en 41 0 0)) ([.ref h, .int (nI en)].toArray) s 0 0 noF) (F0 m 4 ls []) := by
    intro n
    induction n with
    | zero =>
      intro k r hk hf hinv
      exact absurd hf (by omega)
    | succ n ih4 =>
      intro k r hk hf hinv ls hl
      refine lv_iload_n hx hb dX3_failures_4 rfl (lv_at hl 0 rfl) ?_
      refine lv_iload_n hx hb dX3_failures_5 rfl (lv_at hl 3 rfl) ?_
      refine lv_icmp_ge (tgt := 34) hx hb dX3_failures_6 (by decide) (fun c6 => ?_) (fun c6 => ?_)
      · refine lv_iload_n hx hb dX3_failures_34 rfl (lv_at hl 1 rfl) ?_
        exact W.iret hx hb hr (fun t ht hW => ⟨_, rfl, by rw [hinv]; simp [fails, show ¬ k < en from fun z => absurd c6 (nI_ge z (by omega))], ht⟩) (fun q h => by cases h) dX3_failures_35
      · have g6 : k < en := Nat.lt_of_not_le (fun z => c6 (nI_le z (by omega)))
        refine lv_iload_n hx hb dX3_failures_9 rfl (lv_at hl 0 rfl) ?_
        refine lv_bipush (v := 40) hx hb dX3_failures_10 (by decide) ?_
        refine lv_icmp_ge (tgt := 34) hx hb dX3_failures_12 (by decide) (fun c12 => absurd c12 (nI_ge (b := 40) (by omega) (by decide))) (fun c12 => ?_)
        refine lv_aload_n hx hb dX3_failures_15 rfl (lv_at hl 2 rfl) ?_
        refine va_get (D := D) (ci := 3) (v := .ref q9) (C := RX3) (T := TX3) (N := 14) hx hb hts hinX3 hown hK hP 0 rfl rfl 9 (by decide) (hts (.fieldLink RX3 38 "LedgerShares$Sheet" "outcomes" "[I") (List.mem_of_getElem? (i := 1) rfl)) (fun _ h9 => h9) rfl dX3_failures_16 ?_
        refine lv_iload_n hx hb dX3_failures_19 rfl (lv_at hl 0 rfl) ?_
        refine x_iald hx hb hE hP 1 rfl (k) (by omega) (by decide) (rfl) dX3_failures_20 ?_
        refine lv_iconst (v := 2) hx hb dX3_failures_21 (by decide) ?_
        refine lv_icmp_ne (tgt := 28) hx hb dX3_failures_22 (by decide) (fun c22 => ?_) (fun c22 => ?_)
        · refine lv_iinc (v := nI (k + 1)) (lv' := [(3, .int (nI (k + 1))), (2, .int r), (0, .ref h), (1, .int (nI en))]) hx hb dX3_failures_28 hl (k := 0) rfl (nI_1 k) (by decide) rfl (fun ls hl => ?_)
          refine lv_goto (tgt := 4) hx hb dX3_failures_31 (by decide) ?_
          exact ih4 (k + 1) r (by omega) (by omega) (by rw [hinv]; simp [fails, g6, c22]) ls (lv_sub hl [0, 1, 2, 3] rfl)
        · refine lv_iinc (v := r + 1) (lv' := [(2, .int (r + 1)), (3, .int (nI k)), (0, .ref h), (1, .int (nI en))]) hx hb dX3_failures_25 hl (k := 1) rfl (rfl) (by decide) rfl (fun ls hl => ?_)
          refine lv_iinc (v := nI (k + 1)) (lv' := [(3, .int (nI (k + 1))), (2, .int (r + 1)), (0, .ref h), (1, .int (nI en))]) hx hb dX3_failures_28 hl (k := 1) rfl (nI_1 k) (by decide) rfl (fun ls hl => ?_)
          refine lv_goto (tgt := 4) hx hb dX3_failures_31 (by decide) ?_
          exact ih4 (k + 1) (r + 1) (by omega) (by omega) (by rw [hinv]; simp [fails, g6, c22]) ls (lv_sub hl [0, 1, 2, 3] rfl)
  exact loop4 41 0 0 (by omega) (by omega) rfl ls (lv_sub hl [0, 1, 2, 3] rfl)
set_option maxHeartbeats 4000000 in
set_option maxRecDepth 100000 in
theorem k_openAll (l : Launch) (D : va_G) (cI cJ cZ : ClassId) (sz : Nat) (h hB q1 q2 q3 q4 q5 q6 q7 q8 q9 q10 q11 q12 q13 : Nat) (st oc tb fb ka eb : Nat → Int32) : Met l yX3_openAll wsX3_openAll ({ frames := 0, cells := 0, slots := 0, locals := 0 }) (PcRW [.ref h] sz D cI cJ cZ [(h, .inr (3, [.ref hB, .ref q1, .ref q2, .ref q3, .ref q4, .ref q5, .ref q6, .ref q7, .ref q8, .ref q9, .ref q10, .ref q11, .ref q12, .ref q13])), (q1, .inl (cI, 40, .inl st)), (q9, .inl (cI, 40, .inl oc)), (q10, .inl (cI, 40, .inl tb)), (q11, .inl (cI, 40, .inl fb)), (q12, .inl (cI, 40, .inl ka)), (q13, .inl (cI, 40, .inl eb))]) (QcV D (va_A [(h, .inr (3, [.ref hB, .ref q1, .ref q2, .ref q3, .ref q4, .ref q5, .ref q6, .ref q7, .ref q8, .ref q9, .ref q10, .ref q11, .ref q12, .ref q13])), (q1, .inl (cI, 40, .inl st)), (q9, .inl (cI, 40, .inl oc)), (q10, .inl (cI, 40, .inl tb)), (q11, .inl (cI, 40, .inl fb)), (q12, .inl (cI, 40, .inl ka)), (q13, .inl (cI, 40, .inl eb))] sz) [(h, .inr (3, [.ref hB, .ref q1, .ref q2, .ref q3, .ref q4, .ref q5, .ref q6, .ref q7, .ref q8, .ref q9, .ref q10, .ref q11, .ref q12, .ref q13])), (q1, .inl (cI, 40, .inl (fillTo st 40 (0)))), (q9, .inl (cI, 40, .inl (fillTo oc 40 (0)))), (q10, .inl (cI, 40, .inl (fillTo tb 40 (0)))), (q11, .inl (cI, 40, .inl (fillTo fb 40 (-1)))), (q12, .inl (cI, 40, .inl (fillTo ka 40 (-1)))), (q13, .inl (cI, 40, .inl (fillTo eb 40 (-1))))]) 0 0 (va_A [(h, .inr (3, [.ref hB, .ref q1, .ref q2, .ref q3, .ref q4, .ref q5, .ref q6, .ref q7, .ref q8, .ref q9, .ref q10, .ref q11, .ref q12, .ref q13])), (q1, .inl (cI, 40, .inl st)), (q9, .inl (cI, 40, .inl oc)), (q10, .inl (cI, 40, .inl tb)), (q11, .inl (cI, 40, .inl fb)), (q12, .inl (cI, 40, .inl ka)), (q13, .inl (cI, 40, .inl eb))] sz) := by
  refine Met.ofW (cc := cX3_openAll) (maxL := 2) (ret := none) (by decide) rfl ?_
  intro p e s m args below meth c s₁ B hml hv
  obtain ⟨rfl, hsz, hP, hE, hD0⟩ := hv
  have hx := B.exec
  have hb := B.bytes
  have hr := B.returns
  have hts := atoms_spec (ws := wsX3_openAll) B.pre
  have hown : s.vm.findClass RX3 = some m.cls := findClass_of_methodNamed B.named
  have hlocks := B.notSynchronized
  have hK := hE.1
  subst hsz
  have hD := hD0.self (sz := s.heap.size)
  generalize hAe : va_A [(h, .inr (3, [.ref hB, .ref q1, .ref q2, .ref q3, .ref q4, .ref q5, .ref q6, .ref q7, .ref q8, .ref q9, .ref q10, .ref q11, .ref q12, .ref q13])), (q1, .inl (cI, 40, .inl st)), (q9, .inl (cI, 40, .inl oc)), (q10, .inl (cI, 40, .inl tb)), (q11, .inl (cI, 40, .inl fb)), (q12, .inl (cI, 40, .inl ka)), (q13, .inl (cI, 40, .inl eb))] s.heap.size = A at hD ⊢
  have hA : ∀ q : Nat, s.heap.size ≤ q → A q := fun q h => by rw [← hAe]; exact Or.inr h
  have hS : va_S A s.heap s.heap [] := va_S.rf
  have hl := lv_entry ([.ref h]) (n := 2) (Nat.le_of_ble_eq_true rfl)
  rw [lg_entry_eq]
  generalize (lg_sl ([.ref h]) ++ List.replicate (2 - (lg_sl ([.ref h])).length) Slot.unset).toArray = ls at hl ⊢
  have hl : lv_has ls 2 [(0, .ref h)] := hl
  have hinX3 : ∀ w ∈ u_ws RX3 TX3 14, w ∈ wsX3_openAll := fun _ h => List.mem_cons_of_mem _ (List.mem_append_right _ h)
  refine lv_iconst (v := 0) hx hb dX3_openAll_0 (by decide) ?_
  refine lv_istore_n (lv' := [(1, .int 0), (0, .ref h)]) hx hb dX3_openAll_1 rfl hl (by decide) rfl (fun ls hl => ?_)
  have loop2 : ∀ (n : Nat) (k : Nat), (k ≤ 40) → (41 ≤ k + n) → ∀ (H : Heap) (locs : List Loc) (ls : Array Slot), va_P D vwCl [(h, .inr (3, [.ref hB, .ref q1, .ref q2, .ref q3, .ref q4, .ref q5, .ref q6, .ref q7, .ref q8, .ref q9, .ref q10, .ref q11, .ref q12, .ref q13])), (q1, .inl (cI, 40, .inl (fillTo st k (0)))), (q9, .inl (cI, 40, .inl (fillTo oc k (0)))), (q10, .inl (cI, 40, .inl (fillTo tb k (0)))), (q11, .inl (cI, 40, .inl (fillTo fb k (-1)))), (q12, .inl (cI, 40, .inl (fillTo ka k (-1)))), (q13, .inl (cI, 40, .inl (fillTo eb k (-1))))] H → va_D A [(h, .inr (3, [.ref hB, .ref q1, .ref q2, .ref q3, .ref q4, .ref q5, .ref q6, .ref q7, .ref q8, .ref q9, .ref q10, .ref q11, .ref q12, .ref q13])), (q1, .inl (cI, 40, .inl (fillTo st k (0)))), (q9, .inl (cI, 40, .inl (fillTo oc k (0)))), (q10, .inl (cI, 40, .inl (fillTo tb k (0)))), (q11, .inl (cI, 40, .inl (fillTo fb k (-1)))), (q12, .inl (cI, 40, .inl (fillTo ka k (-1)))), (q13, .inl (cI, 40, .inl (fillTo eb k (-1))))] → va_S A s.heap H locs → lv_has ls 2 [(1, .int (nI k)), (0, .ref h)] → W p l e (headSpec wsX3_openAll ({ frames := 0, cells := 0, slots := 0, locals := 0 })).room s m ([.ref h].toArray) below meth c H locs 0 0 (MQ below (QcV D A [(h, .inr (3, [.ref hB, .ref q1, .ref q2, .ref q3, .ref q4, .ref q5, .ref q6, .ref q7, .ref q8, .ref q9, .ref q10, .ref q11, .ref q12, .ref q13])), (q1, .inl (cI, 40, .inl (fillTo st 40 (0)))), (q9, .inl (cI, 40, .inl (fillTo oc 40 (0)))), (q10, .inl (cI, 40, .inl (fillTo tb 40 (0)))), (q11, .inl (cI, 40, .inl (fillTo fb 40 (-1)))), (q12, .inl (cI, 40, .inl (fillTo ka 40 (-1)))), (q13, .inl (cI, 40, .inl (fillTo eb 40 (-1))))]) ([.ref h].toArray) s 0 0 A) (F0 m 2 ls []) := by
    intro n
    induction n with
    | zero =>
      intro k hk hf
      exact absurd hf (by omega)
    | succ n ih2 =>
      intro k hk hf H locs ls hP hD hS hl
      refine lv_iload_n hx hb dX3_openAll_2 rfl (lv_at hl 0 rfl) ?_
      refine lv_bipush (v := 40) hx hb dX3_openAll_3 (by decide) ?_
      refine lv_icmp_ge (tgt := 56) hx hb dX3_openAll_5 (by decide) (fun c5 => ?_) (fun c5 => ?_)
      · obtain rfl : k = 40 := Nat.le_antisymm hk (Nat.le_of_not_lt (fun z => absurd c5 (nI_ge (b := 40) z (by decide))))
        exact W.vret hx hb hr (fun t ht hW => ⟨⟨(), rfl, trivial, by rw [ht]; exact hP, by exact hD⟩, hS.F ht⟩) hS.2.2 dX3_openAll_56
      · have g5 : k < 40 := Nat.lt_of_not_le (fun z => c5 (nI_le (a := 40) z (by omega)))
        refine lv_aload_n hx hb dX3_openAll_8 rfl (lv_at hl 1 rfl) ?_
        refine va_get (D := D) (ci := 3) (v := .ref q1) (C := RX3) (T := TX3) (N := 14) hx hb hts hinX3 hown hK hP 0 rfl rfl 1 (by decide) (hts (.fieldLink RX3 9 "LedgerShares$Sheet" "stages" "[I") (List.mem_of_getElem? (i := 1) rfl)) (fun _ h9 => h9) rfl dX3_openAll_9 ?_
        refine lv_iload_n hx hb dX3_openAll_12 rfl (lv_at hl 0 rfl) ?_
        refine lv_iconst (v := 0) hx hb dX3_openAll_13 (by decide) ?_
        refine x_iast hx hb hE hP hD hS 1 rfl (k) (by omega) (by decide) (rfl) (ws' := [(h, .inr (3, [.ref hB, .ref q1, .ref q2, .ref q3, .ref q4, .ref q5, .ref q6, .ref q7, .ref q8, .ref q9, .ref q10, .ref q11, .ref q12, .ref q13])), (q1, .inl (cI, 40, .inl (fillTo st (k + 1) (0)))), (q9, .inl (cI, 40, .inl (fillTo oc k (0)))), (q10, .inl (cI, 40, .inl (fillTo tb k (0)))), (q11, .inl (cI, 40, .inl (fillTo fb k (-1)))), (q12, .inl (cI, 40, .inl (fillTo ka k (-1)))), (q13, .inl (cI, 40, .inl (fillTo eb k (-1))))]) (by rw [fill_s]; rfl) dX3_openAll_14 (fun H locs hP hD hS => ?_)
        refine lv_aload_n hx hb dX3_openAll_15 rfl (lv_at hl 1 rfl) ?_
        refine va_get (D := D) (ci := 3) (v := .ref q9) (C := RX3) (T := TX3) (N := 14) hx hb hts hinX3 hown hK hP 0 rfl rfl 9 (by decide) (hts (.fieldLink RX3 38 "LedgerShares$Sheet" "outcomes" "[I") (List.mem_of_getElem? (i := 2) rfl)) (fun _ h9 => h9) rfl dX3_openAll_16 ?_
        refine lv_iload_n hx hb dX3_openAll_19 rfl (lv_at hl 0 rfl) ?_
        refine lv_iconst (v := 0) hx hb dX3_openAll_20 (by decide) ?_
        refine x_iast hx hb hE hP hD hS 2 rfl (k) (by omega) (by decide) (rfl) (ws' := [(h, .inr (3, [.ref hB, .ref q1, .ref q2, .ref q3, .ref q4, .ref q5, .ref q6, .ref q7, .ref q8, .ref q9, .ref q10, .ref q11, .ref q12, .ref q13])), (q1, .inl (cI, 40, .inl (fillTo st (k + 1) (0)))), (q9, .inl (cI, 40, .inl (fillTo oc (k + 1) (0)))), (q10, .inl (cI, 40, .inl (fillTo tb k (0)))), (q11, .inl (cI, 40, .inl (fillTo fb k (-1)))), (q12, .inl (cI, 40, .inl (fillTo ka k (-1)))), (q13, .inl (cI, 40, .inl (fillTo eb k (-1))))]) (by rw [fill_s]; rfl) dX3_openAll_21 (fun H locs hP hD hS => ?_)
        refine lv_aload_n hx hb dX3_openAll_22 rfl (lv_at hl 1 rfl) ?_
        refine va_get (D := D) (ci := 3) (v := .ref q10) (C := RX3) (T := TX3) (N := 14) hx hb hts hinX3 hown hK hP 0 rfl rfl 10 (by decide) (hts (.fieldLink RX3 41 "LedgerShares$Sheet" "timesBegun" "[I") (List.mem_of_getElem? (i := 3) rfl)) (fun _ h9 => h9) rfl dX3_openAll_23 ?_
        refine lv_iload_n hx hb dX3_openAll_26 rfl (lv_at hl 0 rfl) ?_
        refine lv_iconst (v := 0) hx hb dX3_openAll_27 (by decide) ?_
        refine x_iast hx hb hE hP hD hS 3 rfl (k) (by omega) (by decide) (rfl) (ws' := [(h, .inr (3, [.ref hB, .ref q1, .ref q2, .ref q3, .ref q4, .ref q5, .ref q6, .ref q7, .ref q8, .ref q9, .ref q10, .ref q11, .ref q12, .ref q13])), (q1, .inl (cI, 40, .inl (fillTo st (k + 1) (0)))), (q9, .inl (cI, 40, .inl (fillTo oc (k + 1) (0)))), (q10, .inl (cI, 40, .inl (fillTo tb (k + 1) (0)))), (q11, .inl (cI, 40, .inl (fillTo fb k (-1)))), (q12, .inl (cI, 40, .inl (fillTo ka k (-1)))), (q13, .inl (cI, 40, .inl (fillTo eb k (-1))))]) (by rw [fill_s]; rfl) dX3_openAll_28 (fun H locs hP hD hS => ?_)
        refine lv_aload_n hx hb dX3_openAll_29 rfl (lv_at hl 1 rfl) ?_
        refine va_get (D := D) (ci := 3) (v := .ref q11) (C := RX3) (T := TX3) (N := 14) hx hb hts hinX3 hown hK hP 0 rfl rfl 11 (by decide) (hts (.fieldLink RX3 44 "LedgerShares$Sheet" "firstBegun" "[I") (List.mem_of_getElem? (i := 4) rfl)) (fun _ h9 => h9) rfl dX3_openAll_30 ?_
        refine lv_iload_n hx hb dX3_openAll_33 rfl (lv_at hl 0 rfl) ?_
        refine lv_iconst (v := (-1)) hx hb dX3_openAll_34 (by decide) ?_
        refine x_iast hx hb hE hP hD hS 4 rfl (k) (by omega) (by decide) (rfl) (ws' := [(h, .inr (3, [.ref hB, .ref q1, .ref q2, .ref q3, .ref q4, .ref q5, .ref q6, .ref q7, .ref q8, .ref q9, .ref q10, .ref q11, .ref q12, .ref q13])), (q1, .inl (cI, 40, .inl (fillTo st (k + 1) (0)))), (q9, .inl (cI, 40, .inl (fillTo oc (k + 1) (0)))), (q10, .inl (cI, 40, .inl (fillTo tb (k + 1) (0)))), (q11, .inl (cI, 40, .inl (fillTo fb (k + 1) (-1)))), (q12, .inl (cI, 40, .inl (fillTo ka k (-1)))), (q13, .inl (cI, 40, .inl (fillTo eb k (-1))))]) (by rw [fill_s]; rfl) dX3_openAll_35 (fun H locs hP hD hS => ?_)
        refine lv_aload_n hx hb dX3_openAll_36 rfl (lv_at hl 1 rfl) ?_
        refine va_get (D := D) (ci := 3) (v := .ref q12) (C := RX3) (T := TX3) (N := 14) hx hb hts hinX3 hown hK hP 0 rfl rfl 12 (by decide) (hts (.fieldLink RX3 47 "LedgerShares$Sheet" "keptAt" "[I") (List.mem_of_getElem? (i := 5) rfl)) (fun _ h9 => h9) rfl dX3_openAll_37 ?_
        refine lv_iload_n hx hb dX3_openAll_40 rfl (lv_at hl 0 rfl) ?_
        refine lv_iconst (v := (-1)) hx hb dX3_openAll_41 (by decide) ?_
        refine x_iast hx hb hE hP hD hS 5 rfl (k) (by omega) (by decide) (rfl) (ws' := [(h, .inr (3, [.ref hB, .ref q1, .ref q2, .ref q3, .ref q4, .ref q5, .ref q6, .ref q7, .ref q8, .ref q9, .ref q10, .ref q11, .ref q12, .ref q13])), (q1, .inl (cI, 40, .inl (fillTo st (k + 1) (0)))), (q9, .inl (cI, 40, .inl (fillTo oc (k + 1) (0)))), (q10, .inl (cI, 40, .inl (fillTo tb (k + 1) (0)))), (q11, .inl (cI, 40, .inl (fillTo fb (k + 1) (-1)))), (q12, .inl (cI, 40, .inl (fillTo ka (k + 1) (-1)))), (q13, .inl (cI, 40, .inl (fillTo eb k (-1))))]) (by rw [fill_s]; rfl) dX3_openAll_42 (fun H locs hP hD hS => ?_)
        refine lv_aload_n hx hb dX3_openAll_43 rfl (lv_at hl 1 rfl) ?_
        refine va_get (D := D) (ci := 3) (v := .ref q13) (C := RX3) (T := TX3) (N := 14) hx hb hts hinX3 hown hK hP 0 rfl rfl 13 (by decide) (hts (.fieldLink RX3 50 "LedgerShares$Sheet" "endedBy" "[I") (List.mem_of_getElem? (i := 6) rfl)) (fun _ h9 => h9) rfl dX3_openAll_44 ?_
        refine lv_iload_n hx hb dX3_openAll_47 rfl (lv_at hl 0 rfl) ?_
        refine lv_iconst (v := (-1)) hx hb dX3_openAll_48 (by decide) ?_
        refine x_iast hx hb hE hP hD hS 6 rfl (k) (by omega) (by decide) (rfl) (ws' := [(h, .inr (3, [.ref hB, .ref q1, .ref q2, .ref q3, .ref q4, .ref q5, .ref q6, .ref q7, .ref q8, .ref q9, .ref q10, .ref q11, .ref q12, .ref q13])), (q1, .inl (cI, 40, .inl (fillTo st (k + 1) (0)))), (q9, .inl (cI, 40, .inl (fillTo oc (k + 1) (0)))), (q10, .inl (cI, 40, .inl (fillTo tb (k + 1) (0)))), (q11, .inl (cI, 40, .inl (fillTo fb (k + 1) (-1)))), (q12, .inl (cI, 40, .inl (fillTo ka (k + 1) (-1)))), (q13, .inl (cI, 40, .inl (fillTo eb (k + 1) (-1))))]) (by rw [fill_s]; rfl) dX3_openAll_49 (fun H locs hP hD hS => ?_)
        refine lv_iinc (v := nI (k + 1)) (lv' := [(1, .int (nI (k + 1))), (0, .ref h)]) hx hb dX3_openAll_50 hl (k := 0) rfl (nI_1 k) (by decide) rfl (fun ls hl => ?_)
        refine lv_goto (tgt := 2) hx hb dX3_openAll_53 (by decide) ?_
        exact ih2 (k + 1) (by omega) (by omega) _ _ ls hP hD hS (lv_sub hl [0, 1] rfl)
  exact loop2 41 0 (by omega) (by omega) _ _ ls (by simp only [fill_0]; exact hP) (by simp only [fill_0]; exact hD) hS (lv_sub hl [0, 1] rfl)
