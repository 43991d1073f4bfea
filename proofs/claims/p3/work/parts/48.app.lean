section APP
variable {D : va_G} {cl : List vw_C} {w1 w2 w1' w2' : va_W} {H H1 : Heap} {A : Nat → Prop}
theorem ap_l {k : Nat} {q : Nat × va_E} (hk : w1[k]? = some q) : (w1 ++ w2)[k]? = some q := by
  rw [List.getElem?_append_left (List.getElem?_eq_some_iff.mp hk).1]; exact hk
theorem ap_r {k : Nat} {q : Nat × va_E} (hk : w2[k]? = some q) : (w1 ++ w2)[w1.length + k]? = some q := by
  rw [List.getElem?_append_right (by omega), Nat.add_sub_cancel_left]; exact hk
theorem Pl (h : va_P D cl (w1 ++ w2) H) : va_P D cl w1 H := fun k q hk => h k q (ap_l hk)
theorem Pr (h : va_P D cl (w1 ++ w2) H) : va_P D cl w2 H := fun k q hk => h (w1.length + k) q (ap_r hk)
theorem Dl (h : va_D A (w1 ++ w2)) : va_D A w1 := ⟨fun i j p q hi hj e => h.1 i j p q (ap_l hi) (ap_l hj) e, fun k q hk => h.2 k q (ap_l hk)⟩
theorem Dr (h : va_D A (w1 ++ w2)) : va_D A w2 := ⟨fun i j p q hi hj e => by have := h.1 _ _ p q (ap_r hi) (ap_r hj) e; omega, fun k q hk => h.2 _ q (ap_r hk)⟩
theorem Dx (h : va_D A (w1 ++ w2)) {i j : Nat} {p q : Nat × va_E} (hi : w1[i]? = some p) (hj : w2[j]? = some q) : p.1 ≠ q.1 := fun e => by
  have h1 := h.1 _ _ p q (ap_l hi) (ap_r hj) e
  have h2 := (List.getElem?_eq_some_iff.mp hi).1
  omega
theorem jl (hP : va_P D cl (w1 ++ w2) H) (hD : va_D A (w1 ++ w2)) (hk : ∀ q : Nat, q < H.size → ¬ va_A w1 H.size q → H1[q]? = H[q]?) (hF : ∀ q, va_A w1 H.size q → A q) (hP1 : va_P D cl w1' H1) (hD1 : va_D (va_A w1 H.size) w1') : va_P D cl (w1' ++ w2) H1 ∧ va_D A (w1' ++ w2) := by
  have ap : ∀ (k : Nat) (q : Nat × va_E), w2[k]? = some q → q.1 < H.size ∧ ¬ va_A w1 H.size q.1 := fun k q hq => ⟨((Pr hP) k q hq).lt, fun h => by
    rcases h with ⟨k2, e, h⟩ | h
    · exact Dx hD h hq rfl
    · exact absurd ((Pr hP) k q hq).lt (Nat.not_lt.mpr h)⟩
  exact ⟨va_P.app hP1 (fun k q hq => ((Pr hP) k q hq).kept (hk q.1 (ap k q hq).1 (ap k q hq).2)), va_D.app (hD1.weaken (fun k q _ h => hF q.1 h)) (Dr hD) (fun i j p q hp hq e => (ap j q hq).2 (by rw [← e]; exact hD1.2 i p hp))⟩
theorem jr (hP : va_P D cl (w1 ++ w2) H) (hD : va_D A (w1 ++ w2)) (hk : ∀ q : Nat, q < H.size → ¬ va_A w2 H.size q → H1[q]? = H[q]?) (hF : ∀ q, va_A w2 H.size q → A q) (hP1 : va_P D cl w2' H1) (hD1 : va_D (va_A w2 H.size) w2') : va_P D cl (w1 ++ w2') H1 ∧ va_D A (w1 ++ w2') := by
  have ap : ∀ (k : Nat) (q : Nat × va_E), w1[k]? = some q → q.1 < H.size ∧ ¬ va_A w2 H.size q.1 := fun k q hq => ⟨((Pl hP) k q hq).lt, fun h => by
    rcases h with ⟨k2, e, h⟩ | h
    · exact Dx hD hq h rfl
    · exact absurd ((Pl hP) k q hq).lt (Nat.not_lt.mpr h)⟩
  exact ⟨va_P.app (fun k q hq => ((Pl hP) k q hq).kept (hk q.1 (ap k q hq).1 (ap k q hq).2)) hP1, va_D.app (Dl hD) (hD1.weaken (fun k q _ h => hF q.1 h)) (fun i j p q hp hq e => (ap i p hp).2 (by rw [e]; exact hD1.2 j q hq))⟩
theorem fr_l {H0 : Heap} {locs : List Loc} (hD : va_D A w1) (hS : va_S A H0 H locs) (hA : ∀ q, H0.size ≤ q → A q) : ∀ q, va_A w1 H.size q → A q := by
  intro q h
  rcases h with ⟨k, e, h⟩ | h
  · exact hD.2 k (q, e) h
  · exact hA q (Nat.le_trans hS.1 h)
end APP
section LAWC
variable {p : Program} {l : Launch} {e : Env} {R : Room} {s : State} {m : MethodId} {args : Array Value} {below : List Frame} {meth : Method} {c : Code} {H : Heap} {locs : List Loc} {cells slots : Nat} {Q : State → Prop}
variable {cc : ByteArray} {pc : Nat} {ls : Array Slot} {rest st0 : List Value} {D : va_G} {A : Nat → Prop} {H0 : Heap} {wc wm : va_W} {av : Array Value}
theorem lawCi {Rel : Int32 → va_W → Prop} (hP : va_P D vwCl (wc ++ wm) H) (hD : va_D A (wc ++ wm)) (hS : va_S A H0 H locs) (hA : ∀ q, H0.size ≤ q → A q) (hr : va_Run p l e R s m args below meth c H locs cells slots 0 0 (F0 m pc ls st0) rest (QaI Rel D (va_A wc H.size) av) (va_A wc H.size))
    (kk : ∀ (r : Int32) (wc' : va_W), Rel r wc' → ∀ (H1 : Heap) (locs1 : List Loc), va_P D vwCl (wc' ++ wm) H1 → va_D A (wc' ++ wm) → va_S A H0 H1 locs1 → W p l e R s m args below meth c H1 locs1 cells slots Q (F0 m (pc + 3) ls (.int r :: rest))) : W p l e R s m args below meth c H locs cells slots Q (F0 m pc ls st0) := by
  have hF := fr_l (Dl hD) hS hA
  refine va_calli hr hS (fun q _ h => hF q h) hF (fun r u t H1 locs1 ht hvm hw hB hz1 hk1 hS1 => ?_)
  obtain ⟨hP1, hD1⟩ := hB
  rw [ht] at hP1
  obtain ⟨hP2, hD2⟩ := jl hP hD hk1 hF hP1 hD1
  exact kk r u hw H1 locs1 hP2 hD2 hS1
theorem lawCl {Rel : Int64 → va_W → Prop} (hP : va_P D vwCl (wc ++ wm) H) (hD : va_D A (wc ++ wm)) (hS : va_S A H0 H locs) (hA : ∀ q, H0.size ≤ q → A q) (hr : va_Run p l e R s m args below meth c H locs cells slots 0 0 (F0 m pc ls st0) rest (QaL Rel D (va_A wc H.size) av) (va_A wc H.size))
    (kk : ∀ (r : Int64) (wc' : va_W), Rel r wc' → ∀ (H1 : Heap) (locs1 : List Loc), va_P D vwCl (wc' ++ wm) H1 → va_D A (wc' ++ wm) → va_S A H0 H1 locs1 → W p l e R s m args below meth c H1 locs1 cells slots Q (F0 m (pc + 3) ls (.long r :: rest))) : W p l e R s m args below meth c H locs cells slots Q (F0 m pc ls st0) := by
  have hF := fr_l (Dl hD) hS hA
  refine va_calll hr hS (fun q _ h => hF q h) hF (fun r u t H1 locs1 ht hvm hw hB hz1 hk1 hS1 => ?_)
  obtain ⟨hP1, hD1⟩ := hB
  rw [ht] at hP1
  obtain ⟨hP2, hD2⟩ := jl hP hD hk1 hF hP1 hD1
  exact kk r u hw H1 locs1 hP2 hD2 hS1
theorem lawMi {Rel : Int32 → va_W → Prop} (hP : va_P D vwCl (wc ++ wm) H) (hD : va_D A (wc ++ wm)) (hS : va_S A H0 H locs) (hA : ∀ q, H0.size ≤ q → A q) (hr : va_Run p l e R s m args below meth c H locs cells slots 0 0 (F0 m pc ls st0) rest (QaI Rel D (va_A wm H.size) av) (va_A wm H.size))
    (kk : ∀ (r : Int32) (wm' : va_W), Rel r wm' → ∀ (H1 : Heap) (locs1 : List Loc), va_P D vwCl (wc ++ wm') H1 → va_D A (wc ++ wm') → va_S A H0 H1 locs1 → W p l e R s m args below meth c H1 locs1 cells slots Q (F0 m (pc + 3) ls (.int r :: rest))) : W p l e R s m args below meth c H locs cells slots Q (F0 m pc ls st0) := by
  have hF := fr_l (Dr hD) hS hA
  refine va_calli hr hS (fun q _ h => hF q h) hF (fun r u t H1 locs1 ht hvm hw hB hz1 hk1 hS1 => ?_)
  obtain ⟨hP1, hD1⟩ := hB
  rw [ht] at hP1
  obtain ⟨hP2, hD2⟩ := jr hP hD hk1 hF hP1 hD1
  exact kk r u hw H1 locs1 hP2 hD2 hS1
theorem lawMl {Rel : Int64 → va_W → Prop} (hP : va_P D vwCl (wc ++ wm) H) (hD : va_D A (wc ++ wm)) (hS : va_S A H0 H locs) (hA : ∀ q, H0.size ≤ q → A q) (hr : va_Run p l e R s m args below meth c H locs cells slots 0 0 (F0 m pc ls st0) rest (QaL Rel D (va_A wm H.size) av) (va_A wm H.size))
    (kk : ∀ (r : Int64) (wm' : va_W), Rel r wm' → ∀ (H1 : Heap) (locs1 : List Loc), va_P D vwCl (wc ++ wm') H1 → va_D A (wc ++ wm') → va_S A H0 H1 locs1 → W p l e R s m args below meth c H1 locs1 cells slots Q (F0 m (pc + 3) ls (.long r :: rest))) : W p l e R s m args below meth c H locs cells slots Q (F0 m pc ls st0) := by
  have hF := fr_l (Dr hD) hS hA
  refine va_calll hr hS (fun q _ h => hF q h) hF (fun r u t H1 locs1 ht hvm hw hB hz1 hk1 hS1 => ?_)
  obtain ⟨hP1, hD1⟩ := hB
  rw [ht] at hP1
  obtain ⟨hP2, hD2⟩ := jr hP hD hk1 hF hP1 hD1
  exact kk r u hw H1 locs1 hP2 hD2 hS1
end LAWC
theorem k2_rew (i k : Nat) (K : Int32) (hK : K = nI k) : nI i + K = nI (i + k) := by rw [hK]; exact nI_add i k
