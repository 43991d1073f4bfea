theorem sw10 (x : Int32) : x = 0 ∨ x = 1 ∨ x = 2 ∨ x = 3 ∨ x = 4 ∨ x = 5 ∨ x = 6 ∨ x = 7 ∨ x = 8 ∨ x = 9 ∨ x = 10 ∨ (x.toInt < 0 ∨ 10 < x.toInt) := by
  by_cases h0 : x = 0
  · exact Or.inl h0
  by_cases h1 : x = 1
  · exact Or.inr (Or.inl h1)
  by_cases h2 : x = 2
  · exact Or.inr (Or.inr (Or.inl h2))
  by_cases h3 : x = 3
  · exact Or.inr (Or.inr (Or.inr (Or.inl h3)))
  by_cases h4 : x = 4
  · exact Or.inr (Or.inr (Or.inr (Or.inr (Or.inl h4))))
  by_cases h5 : x = 5
  · exact Or.inr (Or.inr (Or.inr (Or.inr (Or.inr (Or.inl h5)))))
  by_cases h6 : x = 6
  · exact Or.inr (Or.inr (Or.inr (Or.inr (Or.inr (Or.inr (Or.inl h6))))))
  by_cases h7 : x = 7
  · exact Or.inr (Or.inr (Or.inr (Or.inr (Or.inr (Or.inr (Or.inr (Or.inl h7)))))))
  by_cases h8 : x = 8
  · exact Or.inr (Or.inr (Or.inr (Or.inr (Or.inr (Or.inr (Or.inr (Or.inr (Or.inl h8))))))))
  by_cases h9 : x = 9
  · exact Or.inr (Or.inr (Or.inr (Or.inr (Or.inr (Or.inr (Or.inr (Or.inr (Or.inr (Or.inl h9)))))))))
  by_cases h10 : x = 10
  · exact Or.inr (Or.inr (Or.inr (Or.inr (Or.inr (Or.inr (Or.inr (Or.inr (Or.inr (Or.inr (Or.inl h10))))))))))
  refine Or.inr (Or.inr (Or.inr (Or.inr (Or.inr (Or.inr (Or.inr (Or.inr (Or.inr (Or.inr (Or.inr (?_)))))))))))
  have g0 : x.toInt ≠ 0 := fun h => h0 (Int32.toInt_inj.mp h)
  have g1 : x.toInt ≠ 1 := fun h => h1 (Int32.toInt_inj.mp h)
  have g2 : x.toInt ≠ 2 := fun h => h2 (Int32.toInt_inj.mp h)
  have g3 : x.toInt ≠ 3 := fun h => h3 (Int32.toInt_inj.mp h)
  have g4 : x.toInt ≠ 4 := fun h => h4 (Int32.toInt_inj.mp h)
  have g5 : x.toInt ≠ 5 := fun h => h5 (Int32.toInt_inj.mp h)
  have g6 : x.toInt ≠ 6 := fun h => h6 (Int32.toInt_inj.mp h)
  have g7 : x.toInt ≠ 7 := fun h => h7 (Int32.toInt_inj.mp h)
  have g8 : x.toInt ≠ 8 := fun h => h8 (Int32.toInt_inj.mp h)
  have g9 : x.toInt ≠ 9 := fun h => h9 (Int32.toInt_inj.mp h)
  have g10 : x.toInt ≠ 10 := fun h => h10 (Int32.toInt_inj.mp h)
  omega
set_option maxHeartbeats 4000000 in
set_option maxRecDepth 100000 in
theorem law_loop {p : Program} {l : Launch} {e : Env} {s : State} {m : MethodId} {below : List Frame} {meth : Method} {c : Code} {D : va_G} {cI cJ cZ : ClassId} {b L x y : Nat} {xs : Nat → Int32} (hL : L ≤ 3072) (C0 : lw_At p s m meth c b L xs) (hE : EV D cI cJ cZ s) :
    ∀ (f i n : Nat) (Bk : Nat → Nat → Int32) (hv : Int32) (V : VW) (wc wm : va_W), i ≤ L + 6 → L + 7 ≤ i + f → CI cI cJ cZ x n Bk hv V wc → MI cI cJ cZ y n Bk hv V wm → ∀ (H : Heap) (locs : List Loc), va_P D vwCl (wc ++ wm) H → va_D (fun q : Nat => s.heap.size ≤ q) (wc ++ wm) → va_S (fun q : Nat => s.heap.size ≤ q) s.heap H locs → ∀ (ls : Array Slot), lv_has ls 4 [(0, .ref b), (1, .ref x), (2, .ref y), (3, .int (nI i))] → W p l e room_1 s m #[Value.ref b] below meth c H locs 99 3748 (lw_Z below #[Value.ref b] s) (F0 m 18 ls []) := by
  obtain ⟨hx, hb, hr, hml, hown, hts0, hX, hbl, hlocks, hgv⟩ := C0
  have hown : s.vm.findClass RL = some m.cls := hown
  have hts : ∀ w ∈ wsL_law, w.before #[Value.ref b] s = true := fun w h => hts0 w (wsL_law_in w h)
  have hK := hE.1
  have hA : ∀ q : Nat, s.heap.size ≤ q → (fun q : Nat => s.heap.size ≤ q) q := fun _ h => h
  have hbA : ¬ (fun q : Nat => s.heap.size ≤ q) b := Nat.not_le.mpr hbl
  intro f
  induction f with
  | zero => intro i n Bk hv V wc wm h1 h2; exact absurd h2 (by omega)
  | succ f ih =>
    intro i n Bk hv V wc wm hi hf hC hM H locs hP hD hS ls hl
    refine lv_iload_n hx hb dL_law_18 rfl (lv_at hl 3 rfl) ?_
    refine lv_aload_n hx hb dL_law_19 rfl (lv_at hl 0 rfl) ?_
    refine va_slen hx hb hX hbl hbA hS dL_law_20 ?_
    refine lv_bipush (v := 6) hx hb dL_law_21 (by decide) ?_
    refine lv_isub hx hb dL_law_23 ?_
    refine lv_icmp_gt (tgt := 471) hx hb dL_law_24 (by decide) (fun c24 => ?_) (fun c24 => ?_)
    · refine lv_iconst (v := 1) hx hb dL_law_471 (by decide) ?_
      refine va_forget (fun q hq => hS.2.2 q hq) ?_
      refine W.widen (k := 99) (n := 3748) (Nat.le_refl _) (Nat.le_refl _) ?_
      exact lw_ret hx hb hr hlocks dL_law_472
    · have hin : i + 6 ≤ L := by
        rcases Nat.lt_or_ge L (i + 6) with z | z
        · refine absurd ?_ c24
          rw [Int32.lt_iff_toInt_lt, nI_toInt (by omega)]
          have h6 : (Int32.ofNat L - 6).toInt = (L : Int) - 6 := pk_sub_toInt (a := L) (b := 6) (by omega) (by decide)
          rw [h6]; omega
        · exact z
      refine lv_aload_n hx hb dL_law_27 rfl (lv_at hl 0 rfl) ?_
      refine lv_iload_n hx hb dL_law_28 rfl (lv_at hl 3 rfl) ?_
      refine va_sld hx hb hX hbl hbA hS (vp_in_nI (n := i) (by omega) (by omega)) dL_law_29 ?_
      refine x_topi (y := xs (i)) (by rw [nI_clamp (by omega)]) ?_
      refine lv_bipush (v := 15) hx hb dL_law_30 (by decide) ?_
      refine lv_iand hx hb dL_law_32 ?_
      refine lv_topi (fun v ev => ?_)
      have hend : ∀ (n1 : Nat) (B1 : Nat → Nat → Int32) (hv1 : Int32) (V1 : VW) (wc1 wm1 : va_W), CI cI cJ cZ x n1 B1 hv1 V1 wc1 → MI cI cJ cZ y n1 B1 hv1 V1 wm1 → ∀ (H : Heap) (locs : List Loc), va_P D vwCl (wc1 ++ wm1) H → va_D (fun q : Nat => s.heap.size ≤ q) (wc1 ++ wm1) → va_S (fun q : Nat => s.heap.size ≤ q) s.heap H locs → W p l e room_1 s m #[Value.ref b] below meth c H locs 99 3748 (lw_Z below #[Value.ref b] s) (F0 m 465 ls []) := by
        intro n1 B1 hv1 V1 wc1 wm1 hC1 hM1 H locs hP hD hS
        refine lv_iinc (v := nI (i + 6)) (lv' := [(3, .int (nI (i + 6))), (0, .ref b), (1, .ref x), (2, .ref y)]) hx hb dL_law_465 hl (k := 3) rfl (k2_rew i 6 _ (by decide)) (by decide) rfl (fun ls hl => ?_)
        refine lv_goto (tgt := 18) hx hb dL_law_468 (by decide) ?_
        exact ih (i + 6) n1 B1 hv1 V1 wc1 wm1 (by omega) (by omega) hC1 hM1 H locs hP hD hS ls (lv_sub hl [1, 2, 3, 0] rfl)
      obtain ⟨hn40, fs, hc0⟩ := CI_0 hC
      obtain ⟨fs2, hm0⟩ := MI_0 hM
      rcases sw10 v with e33 | e33 | e33 | e33 | e33 | e33 | e33 | e33 | e33 | e33 | e33 | e33
      · refine lv_tableIn (off := 59) (tgt := 92) hx hb dL_law_33 (by rw [e33]; decide) (by rw [e33]; decide) (by rw [e33]; rfl) (by decide) ?_
        refine lv_aload_n hx hb dL_law_92 rfl (lv_at hl 1 rfl) ?_
        refine lv_aload_n hx hb dL_law_93 rfl (lv_at hl 0 rfl) ?_
        refine lv_iload_n hx hb dL_law_94 rfl (lv_at hl 3 rfl) ?_
        refine lv_iconst (v := 1) hx hb dL_law_95 (by decide) ?_
        refine lv_iadd hx hb dL_law_96 ?_
        refine x_topi (y := nI (i + 1)) (k2_rew i 1 _ rfl) ?_
        refine va_sld hx hb hX hbl hbA hS (vp_in_nI (n := i + 1) (by omega) (by omega)) dL_law_97 ?_
        refine x_topi (y := xs (i + 1)) (by rw [nI_clamp (by omega)]) ?_
        refine lv_aload_n hx hb dL_law_98 rfl (lv_at hl 0 rfl) ?_
        refine lv_iload_n hx hb dL_law_99 rfl (lv_at hl 3 rfl) ?_
        refine lv_iconst (v := 2) hx hb dL_law_100 (by decide) ?_
        refine lv_iadd hx hb dL_law_101 ?_
        refine x_topi (y := nI (i + 2)) (k2_rew i 2 _ rfl) ?_
        refine va_sld hx hb hX hbl hbA hS (vp_in_nI (n := i + 2) (by omega) (by omega)) dL_law_102 ?_
        refine x_topi (y := xs (i + 2)) (by rw [nI_clamp (by omega)]) ?_
        refine lv_aload_n hx hb dL_law_103 rfl (lv_at hl 0 rfl) ?_
        refine lv_iload_n hx hb dL_law_104 rfl (lv_at hl 3 rfl) ?_
        refine lv_iconst (v := 3) hx hb dL_law_105 (by decide) ?_
        refine lv_iadd hx hb dL_law_106 ?_
        refine x_topi (y := nI (i + 3)) (k2_rew i 3 _ rfl) ?_
        refine va_sld hx hb hX hbl hbA hS (vp_in_nI (n := i + 3) (by omega) (by omega)) dL_law_107 ?_
        refine x_topi (y := xs (i + 3)) (by rw [nI_clamp (by omega)]) ?_
        refine lv_aload_n hx hb dL_law_108 rfl (lv_at hl 0 rfl) ?_
        refine lv_iload_n hx hb dL_law_109 rfl (lv_at hl 3 rfl) ?_
        refine lv_iconst (v := 4) hx hb dL_law_110 (by decide) ?_
        refine lv_iadd hx hb dL_law_111 ?_
        refine x_topi (y := nI (i + 4)) (k2_rew i 4 _ rfl) ?_
        refine va_sld hx hb hX hbl hbA hS (vp_in_nI (n := i + 4) (by omega) (by omega)) dL_law_112 ?_
        refine x_topi (y := xs (i + 4)) (by rw [nI_clamp (by omega)]) ?_
        refine lv_aload_n hx hb dL_law_113 rfl (lv_at hl 0 rfl) ?_
        refine lv_iload_n hx hb dL_law_114 rfl (lv_at hl 3 rfl) ?_
        refine lv_iconst (v := 5) hx hb dL_law_115 (by decide) ?_
        refine lv_iadd hx hb dL_law_116 ?_
        refine x_topi (y := nI (i + 5)) (k2_rew i 5 _ rfl) ?_
        refine va_sld hx hb hX hbl hbA hS (vp_in_nI (n := i + 5) (by omega) (by omega)) dL_law_117 ?_
        refine x_topi (y := xs (i + 5)) (by rw [nI_clamp (by omega)]) ?_
        refine lawCi hP hD hS hA (va_runV (As := [.int (xs (i + 1)), .int (xs (i + 2)), .int (xs (i + 3)), .int (xs (i + 4)), .int (xs (i + 5))]) (rest := []) ⟨hx, hb, hml, hown, hts⟩ (A_call l D cI cJ cZ H.size x n Bk hv V wc hC (xs (i + 1)) (xs (i + 2)) (xs (i + 3)) (xs (i + 4)) (xs (i + 5))) (cwV 5 hts gL_law_X4_call rfl rfl rfl (by decide +kernel) ⟨Nat.le_of_ble_eq_true rfl, Nat.le_of_ble_eq_true rfl⟩) ⟨bl_rw, va_recv hK (Pl hP) (ci := 4) (q0 := 0) rfl hc0, fun U hU hW => ⟨rfl, by rw [hU], by rw [hU]; exact Pl hP, hE.warm2 hW, (Dl hD).weaken (fun _ _ _ _ => trivial)⟩⟩ rfl rfl hl.1 rfl (lv_room (Nat.le_of_ble_eq_true rfl)) dL_law_118 ⟨Nat.le_of_ble_eq_true rfl, Nat.le_of_ble_eq_true rfl⟩) (fun rC wc1 hC H locs hP hD hS => ?_)
        refine lv_pop hx hb dL_law_121 rfl ?_
        refine lv_aload_n hx hb dL_law_122 rfl (lv_at hl 2 rfl) ?_
        refine lv_aload_n hx hb dL_law_123 rfl (lv_at hl 0 rfl) ?_
        refine lv_iload_n hx hb dL_law_124 rfl (lv_at hl 3 rfl) ?_
        refine lv_iconst (v := 1) hx hb dL_law_125 (by decide) ?_
        refine lv_iadd hx hb dL_law_126 ?_
        refine x_topi (y := nI (i + 1)) (k2_rew i 1 _ rfl) ?_
        refine va_sld hx hb hX hbl hbA hS (vp_in_nI (n := i + 1) (by omega) (by omega)) dL_law_127 ?_
        refine x_topi (y := xs (i + 1)) (by rw [nI_clamp (by omega)]) ?_
        refine lv_aload_n hx hb dL_law_128 rfl (lv_at hl 0 rfl) ?_
        refine lv_iload_n hx hb dL_law_129 rfl (lv_at hl 3 rfl) ?_
        refine lv_iconst (v := 2) hx hb dL_law_130 (by decide) ?_
        refine lv_iadd hx hb dL_law_131 ?_
        refine x_topi (y := nI (i + 2)) (k2_rew i 2 _ rfl) ?_
        refine va_sld hx hb hX hbl hbA hS (vp_in_nI (n := i + 2) (by omega) (by omega)) dL_law_132 ?_
        refine x_topi (y := xs (i + 2)) (by rw [nI_clamp (by omega)]) ?_
        refine lv_aload_n hx hb dL_law_133 rfl (lv_at hl 0 rfl) ?_
        refine lv_iload_n hx hb dL_law_134 rfl (lv_at hl 3 rfl) ?_
        refine lv_iconst (v := 3) hx hb dL_law_135 (by decide) ?_
        refine lv_iadd hx hb dL_law_136 ?_
        refine x_topi (y := nI (i + 3)) (k2_rew i 3 _ rfl) ?_
        refine va_sld hx hb hX hbl hbA hS (vp_in_nI (n := i + 3) (by omega) (by omega)) dL_law_137 ?_
        refine x_topi (y := xs (i + 3)) (by rw [nI_clamp (by omega)]) ?_
        refine lv_aload_n hx hb dL_law_138 rfl (lv_at hl 0 rfl) ?_
        refine lv_iload_n hx hb dL_law_139 rfl (lv_at hl 3 rfl) ?_
        refine lv_iconst (v := 4) hx hb dL_law_140 (by decide) ?_
        refine lv_iadd hx hb dL_law_141 ?_
        refine x_topi (y := nI (i + 4)) (k2_rew i 4 _ rfl) ?_
        refine va_sld hx hb hX hbl hbA hS (vp_in_nI (n := i + 4) (by omega) (by omega)) dL_law_142 ?_
        refine x_topi (y := xs (i + 4)) (by rw [nI_clamp (by omega)]) ?_
        refine lv_aload_n hx hb dL_law_143 rfl (lv_at hl 0 rfl) ?_
        refine lv_iload_n hx hb dL_law_144 rfl (lv_at hl 3 rfl) ?_
        refine lv_iconst (v := 5) hx hb dL_law_145 (by decide) ?_
        refine lv_iadd hx hb dL_law_146 ?_
        refine x_topi (y := nI (i + 5)) (k2_rew i 5 _ rfl) ?_
        refine va_sld hx hb hX hbl hbA hS (vp_in_nI (n := i + 5) (by omega) (by omega)) dL_law_147 ?_
        refine x_topi (y := xs (i + 5)) (by rw [nI_clamp (by omega)]) ?_
        refine lawMi hP hD hS hA (va_runV (As := [.int (xs (i + 1)), .int (xs (i + 2)), .int (xs (i + 3)), .int (xs (i + 4)), .int (xs (i + 5))]) (rest := []) ⟨hx, hb, hml, hown, hts⟩ (B_call l D cI cJ cZ H.size y n Bk hv V wm hM (xs (i + 1)) (xs (i + 2)) (xs (i + 3)) (xs (i + 4)) (xs (i + 5))) (cwV 5 hts gL_law_X5_call rfl rfl rfl (by decide +kernel) ⟨Nat.le_of_ble_eq_true rfl, Nat.le_of_ble_eq_true rfl⟩) ⟨bl_rw, va_recv hK (Pr hP) (ci := 5) (q0 := 0) rfl hm0, fun U hU hW => ⟨rfl, by rw [hU], by rw [hU]; exact Pr hP, hE.warm2 hW, (Dr hD).weaken (fun _ _ _ _ => trivial)⟩⟩ rfl rfl hl.1 rfl (lv_room (Nat.le_of_ble_eq_true rfl)) dL_law_148 ⟨Nat.le_of_ble_eq_true rfl, Nat.le_of_ble_eq_true rfl⟩) (fun rM wm1 hM H locs hP hD hS => ?_)
        obtain ⟨n1, B1, hR1, hC1⟩ := hC
        obtain ⟨n2, B2, hR2, hM1⟩ := hM
        obtain ⟨hrr, hnn, hbb⟩ := CR_eq hR1 hR2
        subst hnn
        subst hbb
        refine lv_pop hx hb dL_law_151 rfl ?_
        refine lv_goto (tgt := 465) hx hb dL_law_152 (by decide) ?_
        exact hend n1 B1 hv V wc1 wm1 hC1 hM1 H locs hP hD hS
      · refine lv_tableIn (off := 122) (tgt := 155) hx hb dL_law_33 (by rw [e33]; decide) (by rw [e33]; decide) (by rw [e33]; rfl) (by decide) ?_
        refine lv_aload_n hx hb dL_law_155 rfl (lv_at hl 1 rfl) ?_
        refine lawCi hP hD hS hA (va_runV (As := []) (rest := []) ⟨hx, hb, hml, hown, hts⟩ (A_clear l D cI cJ cZ H.size x n Bk hv V wc hC ) (cwV 0 hts gL_law_X4_clear rfl rfl rfl (by decide +kernel) ⟨Nat.le_of_ble_eq_true rfl, Nat.le_of_ble_eq_true rfl⟩) ⟨bl_rw, va_recv hK (Pl hP) (ci := 4) (q0 := 0) rfl hc0, fun U hU hW => ⟨rfl, by rw [hU], by rw [hU]; exact Pl hP, hE.warm2 hW, (Dl hD).weaken (fun _ _ _ _ => trivial)⟩⟩ rfl rfl hl.1 rfl (lv_room (Nat.le_of_ble_eq_true rfl)) dL_law_156 ⟨Nat.le_of_ble_eq_true rfl, Nat.le_of_ble_eq_true rfl⟩) (fun rC wc1 hC H locs hP hD hS => ?_)
        refine lv_aload_n hx hb dL_law_159 rfl (lv_at hl 2 rfl) ?_
        refine lawMi hP hD hS hA (va_runV (As := []) (rest := [.int rC]) ⟨hx, hb, hml, hown, hts⟩ (B_clear l D cI cJ cZ H.size y n Bk hv V wm hM ) (cwV 0 hts gL_law_X5_clear rfl rfl rfl (by decide +kernel) ⟨Nat.le_of_ble_eq_true rfl, Nat.le_of_ble_eq_true rfl⟩) ⟨bl_rw, va_recv hK (Pr hP) (ci := 5) (q0 := 0) rfl hm0, fun U hU hW => ⟨rfl, by rw [hU], by rw [hU]; exact Pr hP, hE.warm2 hW, (Dr hD).weaken (fun _ _ _ _ => trivial)⟩⟩ rfl rfl hl.1 rfl (lv_room (Nat.le_of_ble_eq_true rfl)) dL_law_160 ⟨Nat.le_of_ble_eq_true rfl, Nat.le_of_ble_eq_true rfl⟩) (fun rM wm1 hM H locs hP hD hS => ?_)
        have hrr : rC = rM := hC.1.trans hM.1.symm
        refine lv_icmp_eq (tgt := 465) hx hb dL_law_163 (by decide) (fun c9 => ?_) (fun c9 => absurd hrr c9)
        exact hend 0 Bk 0 V wc1 wm1 hC.2 hM.2 H locs hP hD hS
      · refine lv_tableIn (off := 135) (tgt := 168) hx hb dL_law_33 (by rw [e33]; decide) (by rw [e33]; decide) (by rw [e33]; rfl) (by decide) ?_
        refine lv_aload_n hx hb dL_law_168 rfl (lv_at hl 1 rfl) ?_
        refine lv_aload_n hx hb dL_law_169 rfl (lv_at hl 0 rfl) ?_
        refine lv_iload_n hx hb dL_law_170 rfl (lv_at hl 3 rfl) ?_
        refine lv_iconst (v := 1) hx hb dL_law_171 (by decide) ?_
        refine lv_iadd hx hb dL_law_172 ?_
        refine x_topi (y := nI (i + 1)) (k2_rew i 1 _ rfl) ?_
        refine va_sld hx hb hX hbl hbA hS (vp_in_nI (n := i + 1) (by omega) (by omega)) dL_law_173 ?_
        refine x_topi (y := xs (i + 1)) (by rw [nI_clamp (by omega)]) ?_
        refine lv_aload_n hx hb dL_law_174 rfl (lv_at hl 0 rfl) ?_
        refine lv_iload_n hx hb dL_law_175 rfl (lv_at hl 3 rfl) ?_
        refine lv_iconst (v := 2) hx hb dL_law_176 (by decide) ?_
        refine lv_iadd hx hb dL_law_177 ?_
        refine x_topi (y := nI (i + 2)) (k2_rew i 2 _ rfl) ?_
        refine va_sld hx hb hX hbl hbA hS (vp_in_nI (n := i + 2) (by omega) (by omega)) dL_law_178 ?_
        refine x_topi (y := xs (i + 2)) (by rw [nI_clamp (by omega)]) ?_
        refine lawCi hP hD hS hA (va_runV (As := [.int (xs (i + 1)), .int (xs (i + 2))]) (rest := []) ⟨hx, hb, hml, hown, hts⟩ (A_gone l D cI cJ cZ H.size x n Bk hv V wc hC (xs (i + 1)) (xs (i + 2))) (cwV 2 hts gL_law_X4_gone rfl rfl rfl (by decide +kernel) ⟨Nat.le_of_ble_eq_true rfl, Nat.le_of_ble_eq_true rfl⟩) ⟨bl_rw, va_recv hK (Pl hP) (ci := 4) (q0 := 0) rfl hc0, fun U hU hW => ⟨rfl, by rw [hU], by rw [hU]; exact Pl hP, hE.warm2 hW, (Dl hD).weaken (fun _ _ _ _ => trivial)⟩⟩ rfl rfl hl.1 rfl (lv_room (Nat.le_of_ble_eq_true rfl)) dL_law_179 ⟨Nat.le_of_ble_eq_true rfl, Nat.le_of_ble_eq_true rfl⟩) (fun rC wc1 hC H locs hP hD hS => ?_)
        refine lv_pop hx hb dL_law_182 rfl ?_
        refine lv_aload_n hx hb dL_law_183 rfl (lv_at hl 2 rfl) ?_
        refine lv_aload_n hx hb dL_law_184 rfl (lv_at hl 0 rfl) ?_
        refine lv_iload_n hx hb dL_law_185 rfl (lv_at hl 3 rfl) ?_
        refine lv_iconst (v := 1) hx hb dL_law_186 (by decide) ?_
        refine lv_iadd hx hb dL_law_187 ?_
        refine x_topi (y := nI (i + 1)) (k2_rew i 1 _ rfl) ?_
        refine va_sld hx hb hX hbl hbA hS (vp_in_nI (n := i + 1) (by omega) (by omega)) dL_law_188 ?_
        refine x_topi (y := xs (i + 1)) (by rw [nI_clamp (by omega)]) ?_
        refine lv_aload_n hx hb dL_law_189 rfl (lv_at hl 0 rfl) ?_
        refine lv_iload_n hx hb dL_law_190 rfl (lv_at hl 3 rfl) ?_
        refine lv_iconst (v := 2) hx hb dL_law_191 (by decide) ?_
        refine lv_iadd hx hb dL_law_192 ?_
        refine x_topi (y := nI (i + 2)) (k2_rew i 2 _ rfl) ?_
        refine va_sld hx hb hX hbl hbA hS (vp_in_nI (n := i + 2) (by omega) (by omega)) dL_law_193 ?_
        refine x_topi (y := xs (i + 2)) (by rw [nI_clamp (by omega)]) ?_
        refine lawMi hP hD hS hA (va_runV (As := [.int (xs (i + 1)), .int (xs (i + 2))]) (rest := []) ⟨hx, hb, hml, hown, hts⟩ (B_gone l D cI cJ cZ H.size y n Bk hv V wm hM (xs (i + 1)) (xs (i + 2))) (cwV 2 hts gL_law_X5_gone rfl rfl rfl (by decide +kernel) ⟨Nat.le_of_ble_eq_true rfl, Nat.le_of_ble_eq_true rfl⟩) ⟨bl_rw, va_recv hK (Pr hP) (ci := 5) (q0 := 0) rfl hm0, fun U hU hW => ⟨rfl, by rw [hU], by rw [hU]; exact Pr hP, hE.warm2 hW, (Dr hD).weaken (fun _ _ _ _ => trivial)⟩⟩ rfl rfl hl.1 rfl (lv_room (Nat.le_of_ble_eq_true rfl)) dL_law_194 ⟨Nat.le_of_ble_eq_true rfl, Nat.le_of_ble_eq_true rfl⟩) (fun rM wm1 hM H locs hP hD hS => ?_)
        obtain ⟨B1, hR1, hC1⟩ := hC
        obtain ⟨B2, hR2, hM1⟩ := hM
        obtain ⟨hrr, hbb⟩ := GR_eq hR1 hR2
        subst hbb
        refine lv_pop hx hb dL_law_197 rfl ?_
        refine lv_goto (tgt := 465) hx hb dL_law_198 (by decide) ?_
        exact hend n B1 hv V wc1 wm1 hC1 hM1 H locs hP hD hS
      · refine lv_tableIn (off := 168) (tgt := 201) hx hb dL_law_33 (by rw [e33]; decide) (by rw [e33]; decide) (by rw [e33]; rfl) (by decide) ?_
        refine lv_aload_n hx hb dL_law_201 rfl (lv_at hl 1 rfl) ?_
        refine lv_aload_n hx hb dL_law_202 rfl (lv_at hl 0 rfl) ?_
        refine lv_iload_n hx hb dL_law_203 rfl (lv_at hl 3 rfl) ?_
        refine lv_iconst (v := 1) hx hb dL_law_204 (by decide) ?_
        refine lv_iadd hx hb dL_law_205 ?_
        refine x_topi (y := nI (i + 1)) (k2_rew i 1 _ rfl) ?_
        refine va_sld hx hb hX hbl hbA hS (vp_in_nI (n := i + 1) (by omega) (by omega)) dL_law_206 ?_
        refine x_topi (y := xs (i + 1)) (by rw [nI_clamp (by omega)]) ?_
        refine lv_aload_n hx hb dL_law_207 rfl (lv_at hl 0 rfl) ?_
        refine lv_iload_n hx hb dL_law_208 rfl (lv_at hl 3 rfl) ?_
        refine lv_iconst (v := 2) hx hb dL_law_209 (by decide) ?_
        refine lv_iadd hx hb dL_law_210 ?_
        refine x_topi (y := nI (i + 2)) (k2_rew i 2 _ rfl) ?_
        refine va_sld hx hb hX hbl hbA hS (vp_in_nI (n := i + 2) (by omega) (by omega)) dL_law_211 ?_
        refine x_topi (y := xs (i + 2)) (by rw [nI_clamp (by omega)]) ?_
        refine lv_aload_n hx hb dL_law_212 rfl (lv_at hl 0 rfl) ?_
        refine lv_iload_n hx hb dL_law_213 rfl (lv_at hl 3 rfl) ?_
        refine lv_iconst (v := 3) hx hb dL_law_214 (by decide) ?_
        refine lv_iadd hx hb dL_law_215 ?_
        refine x_topi (y := nI (i + 3)) (k2_rew i 3 _ rfl) ?_
        refine va_sld hx hb hX hbl hbA hS (vp_in_nI (n := i + 3) (by omega) (by omega)) dL_law_216 ?_
        refine x_topi (y := xs (i + 3)) (by rw [nI_clamp (by omega)]) ?_
        refine lv_aload_n hx hb dL_law_217 rfl (lv_at hl 0 rfl) ?_
        refine lv_iload_n hx hb dL_law_218 rfl (lv_at hl 3 rfl) ?_
        refine lv_iconst (v := 4) hx hb dL_law_219 (by decide) ?_
        refine lv_iadd hx hb dL_law_220 ?_
        refine x_topi (y := nI (i + 4)) (k2_rew i 4 _ rfl) ?_
        refine va_sld hx hb hX hbl hbA hS (vp_in_nI (n := i + 4) (by omega) (by omega)) dL_law_221 ?_
        refine x_topi (y := xs (i + 4)) (by rw [nI_clamp (by omega)]) ?_
        refine lawCi hP hD hS hA (va_runV (As := [.int (xs (i + 1)), .int (xs (i + 2)), .int (xs (i + 3)), .int (xs (i + 4))]) (rest := []) ⟨hx, hb, hml, hown, hts⟩ (A_run l D cI cJ cZ H.size x n Bk hv V wc hC (xs (i + 1)) (xs (i + 2)) (xs (i + 3)) (xs (i + 4))) (cwV 4 hts gL_law_X4_run rfl rfl rfl (by decide +kernel) ⟨Nat.le_of_ble_eq_true rfl, Nat.le_of_ble_eq_true rfl⟩) ⟨bl_rw, va_recv hK (Pl hP) (ci := 4) (q0 := 0) rfl hc0, fun U hU hW => ⟨rfl, by rw [hU], by rw [hU]; exact Pl hP, hE.warm2 hW, (Dl hD).weaken (fun _ _ _ _ => trivial)⟩⟩ rfl rfl hl.1 rfl (lv_room (Nat.le_of_ble_eq_true rfl)) dL_law_222 ⟨Nat.le_of_ble_eq_true rfl, Nat.le_of_ble_eq_true rfl⟩) (fun rC wc1 hC H locs hP hD hS => ?_)
        refine lv_pop hx hb dL_law_225 rfl ?_
        refine lv_aload_n hx hb dL_law_226 rfl (lv_at hl 2 rfl) ?_
        refine lv_aload_n hx hb dL_law_227 rfl (lv_at hl 0 rfl) ?_
        refine lv_iload_n hx hb dL_law_228 rfl (lv_at hl 3 rfl) ?_
        refine lv_iconst (v := 1) hx hb dL_law_229 (by decide) ?_
        refine lv_iadd hx hb dL_law_230 ?_
        refine x_topi (y := nI (i + 1)) (k2_rew i 1 _ rfl) ?_
        refine va_sld hx hb hX hbl hbA hS (vp_in_nI (n := i + 1) (by omega) (by omega)) dL_law_231 ?_
        refine x_topi (y := xs (i + 1)) (by rw [nI_clamp (by omega)]) ?_
        refine lv_aload_n hx hb dL_law_232 rfl (lv_at hl 0 rfl) ?_
        refine lv_iload_n hx hb dL_law_233 rfl (lv_at hl 3 rfl) ?_
        refine lv_iconst (v := 2) hx hb dL_law_234 (by decide) ?_
        refine lv_iadd hx hb dL_law_235 ?_
        refine x_topi (y := nI (i + 2)) (k2_rew i 2 _ rfl) ?_
        refine va_sld hx hb hX hbl hbA hS (vp_in_nI (n := i + 2) (by omega) (by omega)) dL_law_236 ?_
        refine x_topi (y := xs (i + 2)) (by rw [nI_clamp (by omega)]) ?_
        refine lv_aload_n hx hb dL_law_237 rfl (lv_at hl 0 rfl) ?_
        refine lv_iload_n hx hb dL_law_238 rfl (lv_at hl 3 rfl) ?_
        refine lv_iconst (v := 3) hx hb dL_law_239 (by decide) ?_
        refine lv_iadd hx hb dL_law_240 ?_
        refine x_topi (y := nI (i + 3)) (k2_rew i 3 _ rfl) ?_
        refine va_sld hx hb hX hbl hbA hS (vp_in_nI (n := i + 3) (by omega) (by omega)) dL_law_241 ?_
        refine x_topi (y := xs (i + 3)) (by rw [nI_clamp (by omega)]) ?_
        refine lv_aload_n hx hb dL_law_242 rfl (lv_at hl 0 rfl) ?_
        refine lv_iload_n hx hb dL_law_243 rfl (lv_at hl 3 rfl) ?_
        refine lv_iconst (v := 4) hx hb dL_law_244 (by decide) ?_
        refine lv_iadd hx hb dL_law_245 ?_
        refine x_topi (y := nI (i + 4)) (k2_rew i 4 _ rfl) ?_
        refine va_sld hx hb hX hbl hbA hS (vp_in_nI (n := i + 4) (by omega) (by omega)) dL_law_246 ?_
        refine x_topi (y := xs (i + 4)) (by rw [nI_clamp (by omega)]) ?_
        refine lawMi hP hD hS hA (va_runV (As := [.int (xs (i + 1)), .int (xs (i + 2)), .int (xs (i + 3)), .int (xs (i + 4))]) (rest := []) ⟨hx, hb, hml, hown, hts⟩ (B_run l D cI cJ cZ H.size y n Bk hv V wm hM (xs (i + 1)) (xs (i + 2)) (xs (i + 3)) (xs (i + 4))) (cwV 4 hts gL_law_X5_run rfl rfl rfl (by decide +kernel) ⟨Nat.le_of_ble_eq_true rfl, Nat.le_of_ble_eq_true rfl⟩) ⟨bl_rw, va_recv hK (Pr hP) (ci := 5) (q0 := 0) rfl hm0, fun U hU hW => ⟨rfl, by rw [hU], by rw [hU]; exact Pr hP, hE.warm2 hW, (Dr hD).weaken (fun _ _ _ _ => trivial)⟩⟩ rfl rfl hl.1 rfl (lv_room (Nat.le_of_ble_eq_true rfl)) dL_law_247 ⟨Nat.le_of_ble_eq_true rfl, Nat.le_of_ble_eq_true rfl⟩) (fun rM wm1 hM H locs hP hD hS => ?_)
        obtain ⟨hrr, hv1, V1, hC1, hM1⟩ := run_law hn40 hC hM
        refine lv_pop hx hb dL_law_250 rfl ?_
        refine lv_goto (tgt := 465) hx hb dL_law_251 (by decide) ?_
        exact hend n Bk hv1 V1 wc1 wm1 hC1 hM1 H locs hP hD hS
      · refine lv_tableIn (off := 221) (tgt := 254) hx hb dL_law_33 (by rw [e33]; decide) (by rw [e33]; decide) (by rw [e33]; rfl) (by decide) ?_
        refine lv_aload_n hx hb dL_law_254 rfl (lv_at hl 1 rfl) ?_
        refine lv_aload_n hx hb dL_law_255 rfl (lv_at hl 0 rfl) ?_
        refine lv_iload_n hx hb dL_law_256 rfl (lv_at hl 3 rfl) ?_
        refine lv_iconst (v := 1) hx hb dL_law_257 (by decide) ?_
        refine lv_iadd hx hb dL_law_258 ?_
        refine x_topi (y := nI (i + 1)) (k2_rew i 1 _ rfl) ?_
        refine va_sld hx hb hX hbl hbA hS (vp_in_nI (n := i + 1) (by omega) (by omega)) dL_law_259 ?_
        refine x_topi (y := xs (i + 1)) (by rw [nI_clamp (by omega)]) ?_
        refine lawCl hP hD hS hA (va_runV (As := [.int (xs (i + 1))]) (rest := []) ⟨hx, hb, hml, hown, hts⟩ (A_amount l D cI cJ cZ H.size x n Bk hv V wc hC (xs (i + 1))) (cwV 1 hts gL_law_X4_amount rfl rfl rfl (by decide +kernel) ⟨Nat.le_of_ble_eq_true rfl, Nat.le_of_ble_eq_true rfl⟩) ⟨bl_rw, va_recv hK (Pl hP) (ci := 4) (q0 := 0) rfl hc0, fun U hU hW => ⟨rfl, by rw [hU], by rw [hU]; exact Pl hP, hE.warm2 hW, (Dl hD).weaken (fun _ _ _ _ => trivial)⟩⟩ rfl rfl hl.1 rfl (lv_room (Nat.le_of_ble_eq_true rfl)) dL_law_260 ⟨Nat.le_of_ble_eq_true rfl, Nat.le_of_ble_eq_true rfl⟩) (fun rC wc1 hC H locs hP hD hS => ?_)
        refine lv_pop2_2 hx hb dL_law_263 rfl ?_
        refine lv_aload_n hx hb dL_law_264 rfl (lv_at hl 2 rfl) ?_
        refine lv_aload_n hx hb dL_law_265 rfl (lv_at hl 0 rfl) ?_
        refine lv_iload_n hx hb dL_law_266 rfl (lv_at hl 3 rfl) ?_
        refine lv_iconst (v := 1) hx hb dL_law_267 (by decide) ?_
        refine lv_iadd hx hb dL_law_268 ?_
        refine x_topi (y := nI (i + 1)) (k2_rew i 1 _ rfl) ?_
        refine va_sld hx hb hX hbl hbA hS (vp_in_nI (n := i + 1) (by omega) (by omega)) dL_law_269 ?_
        refine x_topi (y := xs (i + 1)) (by rw [nI_clamp (by omega)]) ?_
        refine lawMl hP hD hS hA (va_runV (As := [.int (xs (i + 1))]) (rest := []) ⟨hx, hb, hml, hown, hts⟩ (B_amount l D cI cJ cZ H.size y n Bk hv V wm hM (xs (i + 1))) (cwV 1 hts gL_law_X5_amount rfl rfl rfl (by decide +kernel) ⟨Nat.le_of_ble_eq_true rfl, Nat.le_of_ble_eq_true rfl⟩) ⟨bl_rw, va_recv hK (Pr hP) (ci := 5) (q0 := 0) rfl hm0, fun U hU hW => ⟨rfl, by rw [hU], by rw [hU]; exact Pr hP, hE.warm2 hW, (Dr hD).weaken (fun _ _ _ _ => trivial)⟩⟩ rfl rfl hl.1 rfl (lv_room (Nat.le_of_ble_eq_true rfl)) dL_law_270 ⟨Nat.le_of_ble_eq_true rfl, Nat.le_of_ble_eq_true rfl⟩) (fun rM wm1 hM H locs hP hD hS => ?_)
        have hrr : rC = rM := hC.1.trans hM.1.symm
        refine lv_pop2_2 hx hb dL_law_273 rfl ?_
        refine lv_goto (tgt := 465) hx hb dL_law_274 (by decide) ?_
        exact hend n Bk hv V wc1 wm1 hC.2 hM.2 H locs hP hD hS
      · refine lv_tableIn (off := 244) (tgt := 277) hx hb dL_law_33 (by rw [e33]; decide) (by rw [e33]; decide) (by rw [e33]; rfl) (by decide) ?_
        refine lv_aload_n hx hb dL_law_277 rfl (lv_at hl 1 rfl) ?_
        refine lv_aload_n hx hb dL_law_278 rfl (lv_at hl 0 rfl) ?_
        refine lv_iload_n hx hb dL_law_279 rfl (lv_at hl 3 rfl) ?_
        refine lv_iconst (v := 1) hx hb dL_law_280 (by decide) ?_
        refine lv_iadd hx hb dL_law_281 ?_
        refine x_topi (y := nI (i + 1)) (k2_rew i 1 _ rfl) ?_
        refine va_sld hx hb hX hbl hbA hS (vp_in_nI (n := i + 1) (by omega) (by omega)) dL_law_282 ?_
        refine x_topi (y := xs (i + 1)) (by rw [nI_clamp (by omega)]) ?_
        refine lv_aload_n hx hb dL_law_283 rfl (lv_at hl 0 rfl) ?_
        refine lv_iload_n hx hb dL_law_284 rfl (lv_at hl 3 rfl) ?_
        refine lv_iconst (v := 2) hx hb dL_law_285 (by decide) ?_
        refine lv_iadd hx hb dL_law_286 ?_
        refine x_topi (y := nI (i + 2)) (k2_rew i 2 _ rfl) ?_
        refine va_sld hx hb hX hbl hbA hS (vp_in_nI (n := i + 2) (by omega) (by omega)) dL_law_287 ?_
        refine x_topi (y := xs (i + 2)) (by rw [nI_clamp (by omega)]) ?_
        refine lawCl hP hD hS hA (va_runV (As := [.int (xs (i + 1)), .int (xs (i + 2))]) (rest := []) ⟨hx, hb, hml, hown, hts⟩ (A_behind l D cI cJ cZ H.size x n Bk hv V wc hC (xs (i + 1)) (xs (i + 2))) (cwV 2 hts gL_law_X4_behind rfl rfl rfl (by decide +kernel) ⟨Nat.le_of_ble_eq_true rfl, Nat.le_of_ble_eq_true rfl⟩) ⟨bl_rw, va_recv hK (Pl hP) (ci := 4) (q0 := 0) rfl hc0, fun U hU hW => ⟨rfl, by rw [hU], by rw [hU]; exact Pl hP, hE.warm2 hW, (Dl hD).weaken (fun _ _ _ _ => trivial)⟩⟩ rfl rfl hl.1 rfl (lv_room (Nat.le_of_ble_eq_true rfl)) dL_law_288 ⟨Nat.le_of_ble_eq_true rfl, Nat.le_of_ble_eq_true rfl⟩) (fun rC wc1 hC H locs hP hD hS => ?_)
        refine lv_pop2_2 hx hb dL_law_291 rfl ?_
        refine lv_aload_n hx hb dL_law_292 rfl (lv_at hl 2 rfl) ?_
        refine lv_aload_n hx hb dL_law_293 rfl (lv_at hl 0 rfl) ?_
        refine lv_iload_n hx hb dL_law_294 rfl (lv_at hl 3 rfl) ?_
        refine lv_iconst (v := 1) hx hb dL_law_295 (by decide) ?_
        refine lv_iadd hx hb dL_law_296 ?_
        refine x_topi (y := nI (i + 1)) (k2_rew i 1 _ rfl) ?_
        refine va_sld hx hb hX hbl hbA hS (vp_in_nI (n := i + 1) (by omega) (by omega)) dL_law_297 ?_
        refine x_topi (y := xs (i + 1)) (by rw [nI_clamp (by omega)]) ?_
        refine lv_aload_n hx hb dL_law_298 rfl (lv_at hl 0 rfl) ?_
        refine lv_iload_n hx hb dL_law_299 rfl (lv_at hl 3 rfl) ?_
        refine lv_iconst (v := 2) hx hb dL_law_300 (by decide) ?_
        refine lv_iadd hx hb dL_law_301 ?_
        refine x_topi (y := nI (i + 2)) (k2_rew i 2 _ rfl) ?_
        refine va_sld hx hb hX hbl hbA hS (vp_in_nI (n := i + 2) (by omega) (by omega)) dL_law_302 ?_
        refine x_topi (y := xs (i + 2)) (by rw [nI_clamp (by omega)]) ?_
        refine lawMl hP hD hS hA (va_runV (As := [.int (xs (i + 1)), .int (xs (i + 2))]) (rest := []) ⟨hx, hb, hml, hown, hts⟩ (B_behind l D cI cJ cZ H.size y n Bk hv V wm hM (xs (i + 1)) (xs (i + 2))) (cwV 2 hts gL_law_X5_behind rfl rfl rfl (by decide +kernel) ⟨Nat.le_of_ble_eq_true rfl, Nat.le_of_ble_eq_true rfl⟩) ⟨bl_rw, va_recv hK (Pr hP) (ci := 5) (q0 := 0) rfl hm0, fun U hU hW => ⟨rfl, by rw [hU], by rw [hU]; exact Pr hP, hE.warm2 hW, (Dr hD).weaken (fun _ _ _ _ => trivial)⟩⟩ rfl rfl hl.1 rfl (lv_room (Nat.le_of_ble_eq_true rfl)) dL_law_303 ⟨Nat.le_of_ble_eq_true rfl, Nat.le_of_ble_eq_true rfl⟩) (fun rM wm1 hM H locs hP hD hS => ?_)
        have hrr : rC = rM := hC.1.trans hM.1.symm
        refine lv_pop2_2 hx hb dL_law_306 rfl ?_
        refine lv_goto (tgt := 465) hx hb dL_law_307 (by decide) ?_
        exact hend n Bk hv V wc1 wm1 hC.2 hM.2 H locs hP hD hS
      · refine lv_tableIn (off := 277) (tgt := 310) hx hb dL_law_33 (by rw [e33]; decide) (by rw [e33]; decide) (by rw [e33]; rfl) (by decide) ?_
        refine lv_aload_n hx hb dL_law_310 rfl (lv_at hl 1 rfl) ?_
        refine lv_aload_n hx hb dL_law_311 rfl (lv_at hl 0 rfl) ?_
        refine lv_iload_n hx hb dL_law_312 rfl (lv_at hl 3 rfl) ?_
        refine lv_iconst (v := 1) hx hb dL_law_313 (by decide) ?_
        refine lv_iadd hx hb dL_law_314 ?_
        refine x_topi (y := nI (i + 1)) (k2_rew i 1 _ rfl) ?_
        refine va_sld hx hb hX hbl hbA hS (vp_in_nI (n := i + 1) (by omega) (by omega)) dL_law_315 ?_
        refine x_topi (y := xs (i + 1)) (by rw [nI_clamp (by omega)]) ?_
        refine lawCi hP hD hS hA (va_runV (As := [.int (xs (i + 1))]) (rest := []) ⟨hx, hb, hml, hown, hts⟩ (A_outcome l D cI cJ cZ H.size x n Bk hv V wc hC (xs (i + 1))) (cwV 1 hts gL_law_X4_outcome rfl rfl rfl (by decide +kernel) ⟨Nat.le_of_ble_eq_true rfl, Nat.le_of_ble_eq_true rfl⟩) ⟨bl_rw, va_recv hK (Pl hP) (ci := 4) (q0 := 0) rfl hc0, fun U hU hW => ⟨rfl, by rw [hU], by rw [hU]; exact Pl hP, hE.warm2 hW, (Dl hD).weaken (fun _ _ _ _ => trivial)⟩⟩ rfl rfl hl.1 rfl (lv_room (Nat.le_of_ble_eq_true rfl)) dL_law_316 ⟨Nat.le_of_ble_eq_true rfl, Nat.le_of_ble_eq_true rfl⟩) (fun rC wc1 hC H locs hP hD hS => ?_)
        refine lv_pop hx hb dL_law_319 rfl ?_
        refine lv_aload_n hx hb dL_law_320 rfl (lv_at hl 2 rfl) ?_
        refine lv_aload_n hx hb dL_law_321 rfl (lv_at hl 0 rfl) ?_
        refine lv_iload_n hx hb dL_law_322 rfl (lv_at hl 3 rfl) ?_
        refine lv_iconst (v := 1) hx hb dL_law_323 (by decide) ?_
        refine lv_iadd hx hb dL_law_324 ?_
        refine x_topi (y := nI (i + 1)) (k2_rew i 1 _ rfl) ?_
        refine va_sld hx hb hX hbl hbA hS (vp_in_nI (n := i + 1) (by omega) (by omega)) dL_law_325 ?_
        refine x_topi (y := xs (i + 1)) (by rw [nI_clamp (by omega)]) ?_
        refine lawMi hP hD hS hA (va_runV (As := [.int (xs (i + 1))]) (rest := []) ⟨hx, hb, hml, hown, hts⟩ (B_outcome l D cI cJ cZ H.size y n Bk hv V wm hM (xs (i + 1))) (cwV 1 hts gL_law_X5_outcome rfl rfl rfl (by decide +kernel) ⟨Nat.le_of_ble_eq_true rfl, Nat.le_of_ble_eq_true rfl⟩) ⟨bl_rw, va_recv hK (Pr hP) (ci := 5) (q0 := 0) rfl hm0, fun U hU hW => ⟨rfl, by rw [hU], by rw [hU]; exact Pr hP, hE.warm2 hW, (Dr hD).weaken (fun _ _ _ _ => trivial)⟩⟩ rfl rfl hl.1 rfl (lv_room (Nat.le_of_ble_eq_true rfl)) dL_law_326 ⟨Nat.le_of_ble_eq_true rfl, Nat.le_of_ble_eq_true rfl⟩) (fun rM wm1 hM H locs hP hD hS => ?_)
        have hrr : rC = rM := hC.1.trans hM.1.symm
        refine lv_pop hx hb dL_law_329 rfl ?_
        refine lv_goto (tgt := 465) hx hb dL_law_330 (by decide) ?_
        exact hend n Bk hv V wc1 wm1 hC.2 hM.2 H locs hP hD hS
      · refine lv_tableIn (off := 300) (tgt := 333) hx hb dL_law_33 (by rw [e33]; decide) (by rw [e33]; decide) (by rw [e33]; rfl) (by decide) ?_
        refine lv_aload_n hx hb dL_law_333 rfl (lv_at hl 1 rfl) ?_
        refine lv_aload_n hx hb dL_law_334 rfl (lv_at hl 0 rfl) ?_
        refine lv_iload_n hx hb dL_law_335 rfl (lv_at hl 3 rfl) ?_
        refine lv_iconst (v := 1) hx hb dL_law_336 (by decide) ?_
        refine lv_iadd hx hb dL_law_337 ?_
        refine x_topi (y := nI (i + 1)) (k2_rew i 1 _ rfl) ?_
        refine va_sld hx hb hX hbl hbA hS (vp_in_nI (n := i + 1) (by omega) (by omega)) dL_law_338 ?_
        refine x_topi (y := xs (i + 1)) (by rw [nI_clamp (by omega)]) ?_
        refine lv_aload_n hx hb dL_law_339 rfl (lv_at hl 0 rfl) ?_
        refine lv_iload_n hx hb dL_law_340 rfl (lv_at hl 3 rfl) ?_
        refine lv_iconst (v := 2) hx hb dL_law_341 (by decide) ?_
        refine lv_iadd hx hb dL_law_342 ?_
        refine x_topi (y := nI (i + 2)) (k2_rew i 2 _ rfl) ?_
        refine va_sld hx hb hX hbl hbA hS (vp_in_nI (n := i + 2) (by omega) (by omega)) dL_law_343 ?_
        refine x_topi (y := xs (i + 2)) (by rw [nI_clamp (by omega)]) ?_
        refine lawCi hP hD hS hA (va_runV (As := [.int (xs (i + 1)), .int (xs (i + 2))]) (rest := []) ⟨hx, hb, hml, hown, hts⟩ (A_of l D cI cJ cZ H.size x n Bk hv V wc hC (xs (i + 1)) (xs (i + 2))) (cwV 2 hts gL_law_X4_of rfl rfl rfl (by decide +kernel) ⟨Nat.le_of_ble_eq_true rfl, Nat.le_of_ble_eq_true rfl⟩) ⟨bl_rw, va_recv hK (Pl hP) (ci := 4) (q0 := 0) rfl hc0, fun U hU hW => ⟨rfl, by rw [hU], by rw [hU]; exact Pl hP, hE.warm2 hW, (Dl hD).weaken (fun _ _ _ _ => trivial)⟩⟩ rfl rfl hl.1 rfl (lv_room (Nat.le_of_ble_eq_true rfl)) dL_law_344 ⟨Nat.le_of_ble_eq_true rfl, Nat.le_of_ble_eq_true rfl⟩) (fun rC wc1 hC H locs hP hD hS => ?_)
        refine lv_pop hx hb dL_law_347 rfl ?_
        refine lv_aload_n hx hb dL_law_348 rfl (lv_at hl 2 rfl) ?_
        refine lv_aload_n hx hb dL_law_349 rfl (lv_at hl 0 rfl) ?_
        refine lv_iload_n hx hb dL_law_350 rfl (lv_at hl 3 rfl) ?_
        refine lv_iconst (v := 1) hx hb dL_law_351 (by decide) ?_
        refine lv_iadd hx hb dL_law_352 ?_
        refine x_topi (y := nI (i + 1)) (k2_rew i 1 _ rfl) ?_
        refine va_sld hx hb hX hbl hbA hS (vp_in_nI (n := i + 1) (by omega) (by omega)) dL_law_353 ?_
        refine x_topi (y := xs (i + 1)) (by rw [nI_clamp (by omega)]) ?_
        refine lv_aload_n hx hb dL_law_354 rfl (lv_at hl 0 rfl) ?_
        refine lv_iload_n hx hb dL_law_355 rfl (lv_at hl 3 rfl) ?_
        refine lv_iconst (v := 2) hx hb dL_law_356 (by decide) ?_
        refine lv_iadd hx hb dL_law_357 ?_
        refine x_topi (y := nI (i + 2)) (k2_rew i 2 _ rfl) ?_
        refine va_sld hx hb hX hbl hbA hS (vp_in_nI (n := i + 2) (by omega) (by omega)) dL_law_358 ?_
        refine x_topi (y := xs (i + 2)) (by rw [nI_clamp (by omega)]) ?_
        refine lawMi hP hD hS hA (va_runV (As := [.int (xs (i + 1)), .int (xs (i + 2))]) (rest := []) ⟨hx, hb, hml, hown, hts⟩ (B_of l D cI cJ cZ H.size y n Bk hv V wm hM (xs (i + 1)) (xs (i + 2))) (cwV 2 hts gL_law_X5_of rfl rfl rfl (by decide +kernel) ⟨Nat.le_of_ble_eq_true rfl, Nat.le_of_ble_eq_true rfl⟩) ⟨bl_rw, va_recv hK (Pr hP) (ci := 5) (q0 := 0) rfl hm0, fun U hU hW => ⟨rfl, by rw [hU], by rw [hU]; exact Pr hP, hE.warm2 hW, (Dr hD).weaken (fun _ _ _ _ => trivial)⟩⟩ rfl rfl hl.1 rfl (lv_room (Nat.le_of_ble_eq_true rfl)) dL_law_359 ⟨Nat.le_of_ble_eq_true rfl, Nat.le_of_ble_eq_true rfl⟩) (fun rM wm1 hM H locs hP hD hS => ?_)
        have hrr : rC = rM := hC.1.trans hM.1.symm
        refine lv_pop hx hb dL_law_362 rfl ?_
        refine lv_goto (tgt := 465) hx hb dL_law_363 (by decide) ?_
        exact hend n Bk hv V wc1 wm1 hC.2 hM.2 H locs hP hD hS
      · refine lv_tableIn (off := 333) (tgt := 366) hx hb dL_law_33 (by rw [e33]; decide) (by rw [e33]; decide) (by rw [e33]; rfl) (by decide) ?_
        refine lv_aload_n hx hb dL_law_366 rfl (lv_at hl 1 rfl) ?_
        refine lv_aload_n hx hb dL_law_367 rfl (lv_at hl 0 rfl) ?_
        refine lv_iload_n hx hb dL_law_368 rfl (lv_at hl 3 rfl) ?_
        refine lv_iconst (v := 1) hx hb dL_law_369 (by decide) ?_
        refine lv_iadd hx hb dL_law_370 ?_
        refine x_topi (y := nI (i + 1)) (k2_rew i 1 _ rfl) ?_
        refine va_sld hx hb hX hbl hbA hS (vp_in_nI (n := i + 1) (by omega) (by omega)) dL_law_371 ?_
        refine x_topi (y := xs (i + 1)) (by rw [nI_clamp (by omega)]) ?_
        refine lawCi hP hD hS hA (va_runV (As := [.int (xs (i + 1))]) (rest := []) ⟨hx, hb, hml, hown, hts⟩ (A_told l D cI cJ cZ H.size x n Bk hv V wc hC (xs (i + 1))) (cwV 1 hts gL_law_X4_told rfl rfl rfl (by decide +kernel) ⟨Nat.le_of_ble_eq_true rfl, Nat.le_of_ble_eq_true rfl⟩) ⟨bl_rw, va_recv hK (Pl hP) (ci := 4) (q0 := 0) rfl hc0, fun U hU hW => ⟨rfl, by rw [hU], by rw [hU]; exact Pl hP, hE.warm2 hW, (Dl hD).weaken (fun _ _ _ _ => trivial)⟩⟩ rfl rfl hl.1 rfl (lv_room (Nat.le_of_ble_eq_true rfl)) dL_law_372 ⟨Nat.le_of_ble_eq_true rfl, Nat.le_of_ble_eq_true rfl⟩) (fun rC wc1 hC H locs hP hD hS => ?_)
        refine lv_pop hx hb dL_law_375 rfl ?_
        refine lv_aload_n hx hb dL_law_376 rfl (lv_at hl 2 rfl) ?_
        refine lv_aload_n hx hb dL_law_377 rfl (lv_at hl 0 rfl) ?_
        refine lv_iload_n hx hb dL_law_378 rfl (lv_at hl 3 rfl) ?_
        refine lv_iconst (v := 1) hx hb dL_law_379 (by decide) ?_
        refine lv_iadd hx hb dL_law_380 ?_
        refine x_topi (y := nI (i + 1)) (k2_rew i 1 _ rfl) ?_
        refine va_sld hx hb hX hbl hbA hS (vp_in_nI (n := i + 1) (by omega) (by omega)) dL_law_381 ?_
        refine x_topi (y := xs (i + 1)) (by rw [nI_clamp (by omega)]) ?_
        refine lawMi hP hD hS hA (va_runV (As := [.int (xs (i + 1))]) (rest := []) ⟨hx, hb, hml, hown, hts⟩ (B_told l D cI cJ cZ H.size y n Bk hv V wm hM (xs (i + 1))) (cwV 1 hts gL_law_X5_told rfl rfl rfl (by decide +kernel) ⟨Nat.le_of_ble_eq_true rfl, Nat.le_of_ble_eq_true rfl⟩) ⟨bl_rw, va_recv hK (Pr hP) (ci := 5) (q0 := 0) rfl hm0, fun U hU hW => ⟨rfl, by rw [hU], by rw [hU]; exact Pr hP, hE.warm2 hW, (Dr hD).weaken (fun _ _ _ _ => trivial)⟩⟩ rfl rfl hl.1 rfl (lv_room (Nat.le_of_ble_eq_true rfl)) dL_law_382 ⟨Nat.le_of_ble_eq_true rfl, Nat.le_of_ble_eq_true rfl⟩) (fun rM wm1 hM H locs hP hD hS => ?_)
        have hrr : rC = rM := hC.1.trans hM.1.symm
        refine lv_pop hx hb dL_law_385 rfl ?_
        refine lv_goto (tgt := 465) hx hb dL_law_386 (by decide) ?_
        exact hend n Bk hv V wc1 wm1 hC.2 hM.2 H locs hP hD hS
      · refine lv_tableIn (off := 356) (tgt := 389) hx hb dL_law_33 (by rw [e33]; decide) (by rw [e33]; decide) (by rw [e33]; rfl) (by decide) ?_
        refine lv_aload_n hx hb dL_law_389 rfl (lv_at hl 1 rfl) ?_
        refine lv_aload_n hx hb dL_law_390 rfl (lv_at hl 0 rfl) ?_
        refine lv_iload_n hx hb dL_law_391 rfl (lv_at hl 3 rfl) ?_
        refine lv_iconst (v := 1) hx hb dL_law_392 (by decide) ?_
        refine lv_iadd hx hb dL_law_393 ?_
        refine x_topi (y := nI (i + 1)) (k2_rew i 1 _ rfl) ?_
        refine va_sld hx hb hX hbl hbA hS (vp_in_nI (n := i + 1) (by omega) (by omega)) dL_law_394 ?_
        refine x_topi (y := xs (i + 1)) (by rw [nI_clamp (by omega)]) ?_
        refine lv_aload_n hx hb dL_law_395 rfl (lv_at hl 0 rfl) ?_
        refine lv_iload_n hx hb dL_law_396 rfl (lv_at hl 3 rfl) ?_
        refine lv_iconst (v := 2) hx hb dL_law_397 (by decide) ?_
        refine lv_iadd hx hb dL_law_398 ?_
        refine x_topi (y := nI (i + 2)) (k2_rew i 2 _ rfl) ?_
        refine va_sld hx hb hX hbl hbA hS (vp_in_nI (n := i + 2) (by omega) (by omega)) dL_law_399 ?_
        refine x_topi (y := xs (i + 2)) (by rw [nI_clamp (by omega)]) ?_
        refine lv_aload_n hx hb dL_law_400 rfl (lv_at hl 0 rfl) ?_
        refine lv_iload_n hx hb dL_law_401 rfl (lv_at hl 3 rfl) ?_
        refine lv_iconst (v := 3) hx hb dL_law_402 (by decide) ?_
        refine lv_iadd hx hb dL_law_403 ?_
        refine x_topi (y := nI (i + 3)) (k2_rew i 3 _ rfl) ?_
        refine va_sld hx hb hX hbl hbA hS (vp_in_nI (n := i + 3) (by omega) (by omega)) dL_law_404 ?_
        refine x_topi (y := xs (i + 3)) (by rw [nI_clamp (by omega)]) ?_
        refine lv_aload_n hx hb dL_law_405 rfl (lv_at hl 0 rfl) ?_
        refine lv_iload_n hx hb dL_law_406 rfl (lv_at hl 3 rfl) ?_
        refine lv_iconst (v := 4) hx hb dL_law_407 (by decide) ?_
        refine lv_iadd hx hb dL_law_408 ?_
        refine x_topi (y := nI (i + 4)) (k2_rew i 4 _ rfl) ?_
        refine va_sld hx hb hX hbl hbA hS (vp_in_nI (n := i + 4) (by omega) (by omega)) dL_law_409 ?_
        refine x_topi (y := xs (i + 4)) (by rw [nI_clamp (by omega)]) ?_
        refine lawCi hP hD hS hA (va_runV (As := [.int (xs (i + 1)), .int (xs (i + 2)), .int (xs (i + 3)), .int (xs (i + 4))]) (rest := []) ⟨hx, hb, hml, hown, hts⟩ (A_same l D cI cJ cZ H.size x n Bk hv V wc hC (xs (i + 1)) (xs (i + 2)) (xs (i + 3)) (xs (i + 4))) (cwV 4 hts gL_law_X4_same rfl rfl rfl (by decide +kernel) ⟨Nat.le_of_ble_eq_true rfl, Nat.le_of_ble_eq_true rfl⟩) ⟨bl_rw, va_recv hK (Pl hP) (ci := 4) (q0 := 0) rfl hc0, fun U hU hW => ⟨rfl, by rw [hU], by rw [hU]; exact Pl hP, hE.warm2 hW, (Dl hD).weaken (fun _ _ _ _ => trivial)⟩⟩ rfl rfl hl.1 rfl (lv_room (Nat.le_of_ble_eq_true rfl)) dL_law_410 ⟨Nat.le_of_ble_eq_true rfl, Nat.le_of_ble_eq_true rfl⟩) (fun rC wc1 hC H locs hP hD hS => ?_)
        refine lv_pop hx hb dL_law_413 rfl ?_
        refine lv_aload_n hx hb dL_law_414 rfl (lv_at hl 2 rfl) ?_
        refine lv_aload_n hx hb dL_law_415 rfl (lv_at hl 0 rfl) ?_
        refine lv_iload_n hx hb dL_law_416 rfl (lv_at hl 3 rfl) ?_
        refine lv_iconst (v := 1) hx hb dL_law_417 (by decide) ?_
        refine lv_iadd hx hb dL_law_418 ?_
        refine x_topi (y := nI (i + 1)) (k2_rew i 1 _ rfl) ?_
        refine va_sld hx hb hX hbl hbA hS (vp_in_nI (n := i + 1) (by omega) (by omega)) dL_law_419 ?_
        refine x_topi (y := xs (i + 1)) (by rw [nI_clamp (by omega)]) ?_
        refine lv_aload_n hx hb dL_law_420 rfl (lv_at hl 0 rfl) ?_
        refine lv_iload_n hx hb dL_law_421 rfl (lv_at hl 3 rfl) ?_
        refine lv_iconst (v := 2) hx hb dL_law_422 (by decide) ?_
        refine lv_iadd hx hb dL_law_423 ?_
        refine x_topi (y := nI (i + 2)) (k2_rew i 2 _ rfl) ?_
        refine va_sld hx hb hX hbl hbA hS (vp_in_nI (n := i + 2) (by omega) (by omega)) dL_law_424 ?_
        refine x_topi (y := xs (i + 2)) (by rw [nI_clamp (by omega)]) ?_
        refine lv_aload_n hx hb dL_law_425 rfl (lv_at hl 0 rfl) ?_
        refine lv_iload_n hx hb dL_law_426 rfl (lv_at hl 3 rfl) ?_
        refine lv_iconst (v := 3) hx hb dL_law_427 (by decide) ?_
        refine lv_iadd hx hb dL_law_428 ?_
        refine x_topi (y := nI (i + 3)) (k2_rew i 3 _ rfl) ?_
        refine va_sld hx hb hX hbl hbA hS (vp_in_nI (n := i + 3) (by omega) (by omega)) dL_law_429 ?_
        refine x_topi (y := xs (i + 3)) (by rw [nI_clamp (by omega)]) ?_
        refine lv_aload_n hx hb dL_law_430 rfl (lv_at hl 0 rfl) ?_
        refine lv_iload_n hx hb dL_law_431 rfl (lv_at hl 3 rfl) ?_
        refine lv_iconst (v := 4) hx hb dL_law_432 (by decide) ?_
        refine lv_iadd hx hb dL_law_433 ?_
        refine x_topi (y := nI (i + 4)) (k2_rew i 4 _ rfl) ?_
        refine va_sld hx hb hX hbl hbA hS (vp_in_nI (n := i + 4) (by omega) (by omega)) dL_law_434 ?_
        refine x_topi (y := xs (i + 4)) (by rw [nI_clamp (by omega)]) ?_
        refine lawMi hP hD hS hA (va_runV (As := [.int (xs (i + 1)), .int (xs (i + 2)), .int (xs (i + 3)), .int (xs (i + 4))]) (rest := []) ⟨hx, hb, hml, hown, hts⟩ (B_same l D cI cJ cZ H.size y n Bk hv V wm hM (xs (i + 1)) (xs (i + 2)) (xs (i + 3)) (xs (i + 4))) (cwV 4 hts gL_law_X5_same rfl rfl rfl (by decide +kernel) ⟨Nat.le_of_ble_eq_true rfl, Nat.le_of_ble_eq_true rfl⟩) ⟨bl_rw, va_recv hK (Pr hP) (ci := 5) (q0 := 0) rfl hm0, fun U hU hW => ⟨rfl, by rw [hU], by rw [hU]; exact Pr hP, hE.warm2 hW, (Dr hD).weaken (fun _ _ _ _ => trivial)⟩⟩ rfl rfl hl.1 rfl (lv_room (Nat.le_of_ble_eq_true rfl)) dL_law_435 ⟨Nat.le_of_ble_eq_true rfl, Nat.le_of_ble_eq_true rfl⟩) (fun rM wm1 hM H locs hP hD hS => ?_)
        have hrr : rC = rM := same_match hn40 hM.1 hC.1 hM.2.1
        refine lv_pop hx hb dL_law_438 rfl ?_
        refine lv_goto (tgt := 465) hx hb dL_law_439 (by decide) ?_
        exact hend n Bk hv V wc1 wm1 hC.2 hM.2.2 H locs hP hD hS
      · refine lv_tableIn (off := 409) (tgt := 442) hx hb dL_law_33 (by rw [e33]; decide) (by rw [e33]; decide) (by rw [e33]; rfl) (by decide) ?_
        refine lv_aload_n hx hb dL_law_442 rfl (lv_at hl 1 rfl) ?_
        refine lv_aload_n hx hb dL_law_443 rfl (lv_at hl 0 rfl) ?_
        refine lv_iload_n hx hb dL_law_444 rfl (lv_at hl 3 rfl) ?_
        refine lv_iconst (v := 1) hx hb dL_law_445 (by decide) ?_
        refine lv_iadd hx hb dL_law_446 ?_
        refine x_topi (y := nI (i + 1)) (k2_rew i 1 _ rfl) ?_
        refine va_sld hx hb hX hbl hbA hS (vp_in_nI (n := i + 1) (by omega) (by omega)) dL_law_447 ?_
        refine x_topi (y := xs (i + 1)) (by rw [nI_clamp (by omega)]) ?_
        refine lawCi hP hD hS hA (va_runV (As := [.int (xs (i + 1))]) (rest := []) ⟨hx, hb, hml, hown, hts⟩ (A_count l D cI cJ cZ H.size x n Bk hv V wc hC (xs (i + 1))) (cwV 1 hts gL_law_X4_count rfl rfl rfl (by decide +kernel) ⟨Nat.le_of_ble_eq_true rfl, Nat.le_of_ble_eq_true rfl⟩) ⟨bl_rw, va_recv hK (Pl hP) (ci := 4) (q0 := 0) rfl hc0, fun U hU hW => ⟨rfl, by rw [hU], by rw [hU]; exact Pl hP, hE.warm2 hW, (Dl hD).weaken (fun _ _ _ _ => trivial)⟩⟩ rfl rfl hl.1 rfl (lv_room (Nat.le_of_ble_eq_true rfl)) dL_law_448 ⟨Nat.le_of_ble_eq_true rfl, Nat.le_of_ble_eq_true rfl⟩) (fun rC wc1 hC H locs hP hD hS => ?_)
        refine lv_pop hx hb dL_law_451 rfl ?_
        refine lv_aload_n hx hb dL_law_452 rfl (lv_at hl 2 rfl) ?_
        refine lv_aload_n hx hb dL_law_453 rfl (lv_at hl 0 rfl) ?_
        refine lv_iload_n hx hb dL_law_454 rfl (lv_at hl 3 rfl) ?_
        refine lv_iconst (v := 1) hx hb dL_law_455 (by decide) ?_
        refine lv_iadd hx hb dL_law_456 ?_
        refine x_topi (y := nI (i + 1)) (k2_rew i 1 _ rfl) ?_
        refine va_sld hx hb hX hbl hbA hS (vp_in_nI (n := i + 1) (by omega) (by omega)) dL_law_457 ?_
        refine x_topi (y := xs (i + 1)) (by rw [nI_clamp (by omega)]) ?_
        refine lawMi hP hD hS hA (va_runV (As := [.int (xs (i + 1))]) (rest := []) ⟨hx, hb, hml, hown, hts⟩ (B_count l D cI cJ cZ H.size y n Bk hv V wm hM (xs (i + 1))) (cwV 1 hts gL_law_X5_count rfl rfl rfl (by decide +kernel) ⟨Nat.le_of_ble_eq_true rfl, Nat.le_of_ble_eq_true rfl⟩) ⟨bl_rw, va_recv hK (Pr hP) (ci := 5) (q0 := 0) rfl hm0, fun U hU hW => ⟨rfl, by rw [hU], by rw [hU]; exact Pr hP, hE.warm2 hW, (Dr hD).weaken (fun _ _ _ _ => trivial)⟩⟩ rfl rfl hl.1 rfl (lv_room (Nat.le_of_ble_eq_true rfl)) dL_law_458 ⟨Nat.le_of_ble_eq_true rfl, Nat.le_of_ble_eq_true rfl⟩) (fun rM wm1 hM H locs hP hD hS => ?_)
        refine lv_pop hx hb dL_law_461 rfl ?_
        refine lv_goto (tgt := 465) hx hb dL_law_462 (by decide) ?_
        exact hend n Bk hv V wc1 wm1 hC hM H locs hP hD hS
      · refine lv_tableOut (tgt := 465) hx hb dL_law_33 e33 (by decide) ?_
        exact hend n Bk hv V wc wm hC hM H locs hP hD hS
