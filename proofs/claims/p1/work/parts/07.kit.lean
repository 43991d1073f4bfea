def EV (D : va_G) (cI cJ cZ : ClassId) (U : State) : Prop :=
  va_K D vwCl [(cI, .int), (cJ, .long), (cZ, .boolean)] U ∧ va_Nw (.methodLinkNest RX4 9 yX0_init "LedgerShares") U ∧ va_Nw (.methodLinkNest RX2 11 yX1_init "LedgerShares") U ∧ va_Nw (.methodLinkNest RX0 34 yX4_within "LedgerShares") U ∧ va_Nw (.methodLinkNest RX2 92 yX4_within "LedgerShares") U ∧ va_Nw (.methodLinkNest RX3 89 yX4_within "LedgerShares") U
theorem EV.warm {D : va_G} {cI cJ cZ : ClassId} {s U : State} (hW : s.WarmedH U.vm) (h : EV D cI cJ cZ s) : EV D cI cJ cZ U :=
  ⟨va_K.moved hW.alike h.1, va_Nw.warmM hW h.2.1, va_Nw.warmM hW h.2.2.1, va_Nw.warmM hW h.2.2.2.1, va_Nw.warmM hW h.2.2.2.2.1, va_Nw.warmM hW h.2.2.2.2.2⟩
theorem EV.call {D : va_G} {cI cJ cZ : ClassId} {U : State} {g : JFrame} {mk : MethodId} {a : Array Value} (h : EV D cI cJ cZ U) : EV D cI cJ cZ (U.calling g mk a) :=
  ⟨va_K.moved (u := U) (U := U.calling g mk a) (Vm.Alike.refl U.vm) h.1, va_Nw.same rfl rfl h.2.1, va_Nw.same rfl rfl h.2.2.1, va_Nw.same rfl rfl h.2.2.2.1, va_Nw.same rfl rfl h.2.2.2.2.1, va_Nw.same rfl rfl h.2.2.2.2.2⟩
theorem EV.warm2 {D : va_G} {cI cJ cZ : ClassId} {s U : State} (h : EV D cI cJ cZ s) (hW : s.WarmedH U.vm) : EV D cI cJ cZ U := EV.warm hW h
abbrev PcRO (av : List Value) (D : va_G) (cI cJ cZ : ClassId) (ws : va_W) : Array Value → State → Prop := va_Pc av (fun U => va_P D vwCl ws U.heap ∧ EV D cI cJ cZ U)
abbrev PcRW (av : List Value) (sz : Nat) (D : va_G) (cI cJ cZ : ClassId) (ws : va_W) : Array Value → State → Prop := va_Pc av (fun U => U.heap.size = sz ∧ va_P D vwCl ws U.heap ∧ EV D cI cJ cZ U ∧ va_D (fun _ => True) ws)
abbrev QcV (D : va_G) (A : Nat → Prop) (ws' : va_W) : Array Value → State → Outcome → State → Prop := va_Qv (fun _ : Unit => True) (fun _ t => va_P D vwCl ws' t.heap ∧ va_D A ws') A
abbrev QcI (post : Int32 → Prop) (D : va_G) (A : Nat → Prop) (ws' : va_W) : Array Value → State → Outcome → State → Prop := va_Qi (fun r (_ : Unit) => post r) (fun _ t => va_P D vwCl ws' t.heap ∧ va_D A ws') A
abbrev noF : Addr → Prop := fun _ => False
theorem bl_ro {av : List Value} {D : va_G} {cI cJ cZ : ClassId} {ws : va_W} : FrameBlind (PcRO av D cI cJ cZ ws) := fun _ _ _ _ q => ⟨q.1, q.2.1, q.2.2.call⟩
theorem bl_rw {av : List Value} {sz : Nat} {D : va_G} {cI cJ cZ : ClassId} {ws : va_W} : FrameBlind (PcRW av sz D cI cJ cZ ws) := fun _ _ _ _ q => ⟨q.1, q.2.1, q.2.2.1, q.2.2.2.1.call, q.2.2.2.2⟩
theorem x_Psub {D : va_G} {cl : List vw_C} {ws ws' : va_W} {H : Heap} (h : va_P D cl ws H) (is : List Nat) (hs : is.map (fun i => ws[i]?) = ws'.map some) : va_P D cl ws' H := by
  intro k q hk
  have h1 : (is.map (fun i => ws[i]?))[k]? = some (some q) := by rw [hs, List.getElem?_map, hk]; rfl
  rw [List.getElem?_map] at h1
  cases hi : is[k]? with
  | none => rw [hi] at h1; cases h1
  | some i => rw [hi] at h1; exact h i q (Option.some.inj h1)
section MK
variable {p : Program} {l : Launch} {e : Env} {R : Room} {s : State} {m : MethodId} {args : Array Value} {below : List Frame} {meth : Method} {c : Code} {H : Heap} {locs : List Loc} {cells slots : Nat} {Q : State → Prop}
variable {cc : ByteArray} {pc : Nat} {ls : Array Slot} {rest : List Value} {D : va_G} {cI cJ cZ : ClassId} {A : Nat → Prop} {a : Nat} {ws : va_W} {H0 : Heap}
theorem x_iald (hx : p.tables.exec = Jvm.exec) (hb : c.code = cc) (hE : EV D cI cJ cZ s) (hP : va_P D vwCl ws H) (q0 : Nat) {n : Nat} {f : Nat → Int32} (ha : ws[q0]? = some (a, .inl (cI, n, .inl f))) (k : Nat) (hk : k < n) (hn : n < 2 ^ 31) {i : Int32} (hi : i = nI k) (hdg : decode cc pc = .ok (.iaload, 1))
    (kk : W p l e R s m args below meth c H locs cells slots Q (F0 m (pc + 1) ls (.int (f k) :: rest))) : W p l e R s m args below meth c H locs cells slots Q (F0 m pc ls (.int i :: .ref a :: rest)) := by
  subst hi
  refine va_iald hx hb hE.1 hP q0 0 ha rfl (vp_in_nI hk hn) hdg ?_
  rw [nI_clamp (Nat.lt_trans hk hn)]
  exact kk
theorem x_zald (hx : p.tables.exec = Jvm.exec) (hb : c.code = cc) (hE : EV D cI cJ cZ s) (hP : va_P D vwCl ws H) (q0 : Nat) {n : Nat} {f : Nat → Int32} (ha : ws[q0]? = some (a, .inl (cZ, n, .inl f))) (k : Nat) (hk : k < n) (hn : n < 2 ^ 31) {i : Int32} (hi : i = nI k) (hdg : decode cc pc = .ok (.baload, 1))
    (kk : W p l e R s m args below meth c H locs cells slots Q (F0 m (pc + 1) ls (.int (f k) :: rest))) : W p l e R s m args below meth c H locs cells slots Q (F0 m pc ls (.int i :: .ref a :: rest)) := by
  subst hi
  refine va_zald hx hb hE.1 hP q0 2 ha rfl (vp_in_nI hk hn) hdg ?_
  rw [nI_clamp (Nat.lt_trans hk hn)]
  exact kk
theorem x_lald (hx : p.tables.exec = Jvm.exec) (hb : c.code = cc) (hE : EV D cI cJ cZ s) (hP : va_P D vwCl ws H) (q0 : Nat) {n : Nat} {f : Nat → Int64} (ha : ws[q0]? = some (a, .inl (cJ, n, .inr (.inl f)))) (k : Nat) (hk : k < n) (hn : n < 2 ^ 31) {i : Int32} (hi : i = nI k) (hdg : decode cc pc = .ok (.laload, 1))
    (kk : W p l e R s m args below meth c H locs cells slots Q (F0 m (pc + 1) ls (.long (f k) :: rest))) : W p l e R s m args below meth c H locs cells slots Q (F0 m pc ls (.int i :: .ref a :: rest)) := by
  subst hi
  refine va_lald hx hb hE.1 hP q0 1 ha rfl (vp_in_nI hk hn) hdg ?_
  rw [nI_clamp (Nat.lt_trans hk hn)]
  exact kk
theorem x_iast (hx : p.tables.exec = Jvm.exec) (hb : c.code = cc) (hE : EV D cI cJ cZ s) (hP : va_P D vwCl ws H) (hD : va_D A ws) (hS : va_S A H0 H locs) (q0 : Nat) {n : Nat} {f : Nat → Int32} (ha : ws[q0]? = some (a, .inl (cI, n, .inl f))) (k : Nat) (hk : k < n) (hn : n < 2 ^ 31) {i : Int32} (hi : i = nI k) {x : Int32} {ws' : va_W} (hw : ws.set q0 (a, .inl (cI, n, .inl (upd f k x))) = ws') (hdg : decode cc pc = .ok (.iastore, 1))
    (kk : ∀ (H1 : Heap) (locs1 : List Loc), va_P D vwCl ws' H1 → va_D A ws' → va_S A H0 H1 locs1 → W p l e R s m args below meth c H1 locs1 cells slots Q (F0 m (pc + 1) ls rest)) : W p l e R s m args below meth c H locs cells slots Q (F0 m pc ls (.int x :: .int i :: .ref a :: rest)) := by
  subst hi
  refine va_iast hx hb hE.1 hP hD hS q0 0 ha rfl (vp_in_nI hk hn) hdg ?_
  rw [nI_clamp (Nat.lt_trans hk hn), hw]
  exact kk
theorem x_zast (hx : p.tables.exec = Jvm.exec) (hb : c.code = cc) (hE : EV D cI cJ cZ s) (hP : va_P D vwCl ws H) (hD : va_D A ws) (hS : va_S A H0 H locs) (q0 : Nat) {n : Nat} {f : Nat → Int32} (ha : ws[q0]? = some (a, .inl (cZ, n, .inl f))) (k : Nat) (hk : k < n) (hn : n < 2 ^ 31) {i : Int32} (hi : i = nI k) {x : Int32} (hxn : vp_nar .boolean x = x) {ws' : va_W} (hw : ws.set q0 (a, .inl (cZ, n, .inl (upd f k x))) = ws') (hdg : decode cc pc = .ok (.bastore, 1))
    (kk : ∀ (H1 : Heap) (locs1 : List Loc), va_P D vwCl ws' H1 → va_D A ws' → va_S A H0 H1 locs1 → W p l e R s m args below meth c H1 locs1 cells slots Q (F0 m (pc + 1) ls rest)) : W p l e R s m args below meth c H locs cells slots Q (F0 m pc ls (.int x :: .int i :: .ref a :: rest)) := by
  subst hi
  refine va_zast hx hb hE.1 hP hD hS q0 2 ha rfl (vp_in_nI hk hn) hdg ?_
  rw [nI_clamp (Nat.lt_trans hk hn), hxn, hw]
  exact kk
theorem x_last (hx : p.tables.exec = Jvm.exec) (hb : c.code = cc) (hE : EV D cI cJ cZ s) (hP : va_P D vwCl ws H) (hD : va_D A ws) (hS : va_S A H0 H locs) (q0 : Nat) {n : Nat} {f : Nat → Int64} (ha : ws[q0]? = some (a, .inl (cJ, n, .inr (.inl f)))) (k : Nat) (hk : k < n) (hn : n < 2 ^ 31) {i : Int32} (hi : i = nI k) {x : Int64} {ws' : va_W} (hw : ws.set q0 (a, .inl (cJ, n, .inr (.inl (vp_updL f k x)))) = ws') (hdg : decode cc pc = .ok (.lastore, 1))
    (kk : ∀ (H1 : Heap) (locs1 : List Loc), va_P D vwCl ws' H1 → va_D A ws' → va_S A H0 H1 locs1 → W p l e R s m args below meth c H1 locs1 cells slots Q (F0 m (pc + 1) ls rest)) : W p l e R s m args below meth c H locs cells slots Q (F0 m pc ls (.long x :: .int i :: .ref a :: rest)) := by
  subst hi
  refine va_last hx hb hE.1 hP hD hS q0 1 ha rfl (vp_in_nI hk hn) hdg ?_
  rw [nI_clamp (Nat.lt_trans hk hn), hw]
  exact kk
theorem x_callv {wc wc' wr ws' : va_W} {st0 : List Value} {av : Array Value} (hP : va_P D vwCl ws H) (hD : va_D A ws) (hS : va_S A H0 H locs) (hA : ∀ q, H0.size ≤ q → A q) (isC isR : List Nat) (hC : isC.map (fun i => ws[i]?) = wc.map some) (hR : isR.map (fun i => ws[i]?) = wr.map some) (hn : va_nd isR = true) (hdis : ∀ i ∈ isR, i ∉ isC)
    (pm : List Nat) (hpn : va_nd pm = true) (hpm : pm.map (fun i => (wr ++ wc')[i]?) = ws'.map some) (hr : va_Run p l e R s m args below meth c H locs cells slots 0 0 (F0 m pc ls st0) rest (QcV D (va_A wc H.size) wc' av) (va_A wc H.size))
    (kk : ∀ (H1 : Heap) (locs1 : List Loc), va_P D vwCl ws' H1 → va_D A ws' → va_S A H0 H1 locs1 → W p l e R s m args below meth c H1 locs1 cells slots Q (F0 m (pc + 3) ls rest)) : W p l e R s m args below meth c H locs cells slots Q (F0 m pc ls st0) := by
  have hFc := va_free (wc := wc) hD hS hA isC hC
  refine va_callv hr hS (fun q _ h => hFc q h) hFc (fun u t H1 locs1 ht hvm hw hB hz1 hk1 hS1 => ?_)
  obtain ⟨hP1, hD1⟩ := hB
  rw [ht] at hP1
  obtain ⟨hP2, hD2⟩ := va_join hP hD isC isR hC hR hn hdis hk1 hFc hP1 hD1
  exact kk H1 locs1 (x_Psub hP2 pm hpm) (hD2.sub pm hpn hpm) hS1
theorem x_topi {x y : Int32} (h : x = y) (k : W p l e R s m args below meth c H locs cells slots Q (F0 m pc ls (.int y :: rest))) : W p l e R s m args below meth c H locs cells slots Q (F0 m pc ls (.int x :: rest)) := by
  rw [h]; exact k
theorem x_topl {x y : Int64} (h : x = y) (k : W p l e R s m args below meth c H locs cells slots Q (F0 m pc ls (.long y :: rest))) : W p l e R s m args below meth c H locs cells slots Q (F0 m pc ls (.long x :: rest)) := by
  rw [h]; exact k
theorem x_put (hexec : p.tables.exec = Jvm.exec) (hb : c.code = cc) {own C : String} {T : u_T} {N ci index : Nat} {Ts : List Cond} {tys : List (ClassId × FieldType)} (hts : ∀ w ∈ Ts, w.before args s = true) (hin : ∀ w ∈ u_ws C T N, w ∈ Ts) (ty0 : Nat → FieldType) (hty : ∀ k, k < N → parseFieldDescriptor (T k).2.2.1 = some (ty0 k)) (hnm : ∀ a, a < N → ∀ b, b < N → a ≠ b → (T a).2.1 ≠ (T b).2.1) (hown : s.vm.findClass own = some m.cls) (hK : va_K D vwCl tys s) (hP : va_P D vwCl ws H) (hD : va_D A ws) (hS0 : va_S A H0 H locs) (q0 : Nat) {fs : List Value} (he : ws[q0]? = some (a, .inr (ci, fs))) (hc : vwCl[ci]? = some (C, T, N)) (k : Nat) (hk : k < N) (hlink : (Cond.fieldLink own index (T k).1 (T k).2.1 (T k).2.2.1).before args s = true) (hfin : (T k).2.2.2 = false) {ty : FieldType} {v : Value} (hd : parseFieldDescriptor (T k).2.2.1 = some ty) (hn : narrow ty v = v) (hfit : fits ty v = true) (hl : k < fs.length) {ws' : va_W} (hw : ws.set q0 (a, .inr (ci, fs.set k v)) = ws')
    (hdg : decode cc pc = .ok (.putfield index, 3)) (kk : ∀ (H1 : Heap) (locs1 : List Loc), va_P D vwCl ws' H1 → va_D A ws' → va_S A H0 H1 locs1 → W p l e R s m args below meth c H1 locs1 cells slots Q (F0 m (pc + 3) ls rest)) : W p l e R s m args below meth c H locs cells slots Q (F0 m pc ls (v :: .ref a :: rest)) := by
  refine va_put hexec hb hts hin ty0 hty hnm hown hK hP hD hS0 q0 he hc k hk hlink (fun _ h => h) hfin hd hn hfit hl hdg ?_
  rw [hw]
  exact kk
theorem x_putF (hexec : p.tables.exec = Jvm.exec) (hb : c.code = cc) {own C : String} {T : u_T} {N ci index : Nat} {Ts : List Cond} {tys : List (ClassId × FieldType)} (hts : ∀ w ∈ Ts, w.before args s = true) (hin : ∀ w ∈ u_ws C T N, w ∈ Ts) (ty0 : Nat → FieldType) (hty : ∀ k, k < N → parseFieldDescriptor (T k).2.2.1 = some (ty0 k)) (hnm : ∀ a, a < N → ∀ b, b < N → a ≠ b → (T a).2.1 ≠ (T b).2.1) (hown : s.vm.findClass own = some m.cls) (hK : va_K D vwCl tys s) (hP : va_P D vwCl ws H) (hD : va_D A ws) (hS0 : va_S A H0 H locs) (q0 : Nat) {fs : List Value} (he : ws[q0]? = some (a, .inr (ci, fs))) (hc : vwCl[ci]? = some (C, T, N)) (k : Nat) (hk : k < N) (hlink : (Cond.fieldLink own index (T k).1 (T k).2.1 (T k).2.2.1).before args s = true) (hfin : (T k).2.2.2 = true) (hin2 : meth.name = "<init>") (hdecl : (T k).1 = own) {ty : FieldType} {v : Value} (hd : parseFieldDescriptor (T k).2.2.1 = some ty) (hn : narrow ty v = v) (hfit : fits ty v = true) (hl : k < fs.length) {ws' : va_W} (hw : ws.set q0 (a, .inr (ci, fs.set k v)) = ws')
    (hdg : decode cc pc = .ok (.putfield index, 3)) (kk : ∀ (H1 : Heap) (locs1 : List Loc), va_P D vwCl ws' H1 → va_D A ws' → va_S A H0 H1 locs1 → W p l e R s m args below meth c H1 locs1 cells slots Q (F0 m (pc + 3) ls rest)) : W p l e R s m args below meth c H locs cells slots Q (F0 m pc ls (v :: .ref a :: rest)) := by
  refine va_putF hexec hb hts hin ty0 hty hnm hown hK hP hD hS0 q0 he hc k hk hlink (fun _ h => h) hfin hin2 hdecl hd hn hfit hl hdg ?_
  rw [hw]
  exact kk
theorem x_calli {wc wc' wr ws' : va_W} {st0 : List Value} {av : Array Value} {post : Int32 → Prop} (hP : va_P D vwCl ws H) (hD : va_D A ws) (hS : va_S A H0 H locs) (hA : ∀ q, H0.size ≤ q → A q) (isC isR : List Nat) (hC : isC.map (fun i => ws[i]?) = wc.map some) (hR : isR.map (fun i => ws[i]?) = wr.map some) (hn : va_nd isR = true) (hdis : ∀ i ∈ isR, i ∉ isC)
    (pm : List Nat) (hpn : va_nd pm = true) (hpm : pm.map (fun i => (wr ++ wc')[i]?) = ws'.map some) (hr : va_Run p l e R s m args below meth c H locs cells slots 0 0 (F0 m pc ls st0) rest (QcI post D (va_A wc H.size) wc' av) (va_A wc H.size))
    (kk : ∀ (r : Int32), post r → ∀ (H1 : Heap) (locs1 : List Loc), va_P D vwCl ws' H1 → va_D A ws' → va_S A H0 H1 locs1 → W p l e R s m args below meth c H1 locs1 cells slots Q (F0 m (pc + 3) ls (.int r :: rest))) : W p l e R s m args below meth c H locs cells slots Q (F0 m pc ls st0) := by
  have hFc := va_free (wc := wc) hD hS hA isC hC
  refine va_calli hr hS (fun q _ h => hFc q h) hFc (fun r u t H1 locs1 ht hvm hw hB hz1 hk1 hS1 => ?_)
  obtain ⟨hP1, hD1⟩ := hB
  rw [ht] at hP1
  obtain ⟨hP2, hD2⟩ := va_join hP hD isC isR hC hR hn hdis hk1 hFc hP1 hD1
  exact kk r hw H1 locs1 (x_Psub hP2 pm hpm) (hD2.sub pm hpn hpm) hS1
end MK
def wi (v lo hi : Int32) : Int32 := if lo ≤ v then (if v ≤ hi then 1 else 0) else 0
theorem wi_t {v lo hi : Int32} (h : ¬ wi v lo hi = 0) : lo ≤ v ∧ v ≤ hi := by
  unfold wi at h
  by_cases h1 : lo ≤ v
  · by_cases h2 : v ≤ hi
    · exact ⟨h1, h2⟩
    · rw [if_pos h1, if_neg h2] at h; exact absurd rfl h
  · rw [if_neg h1] at h; exact absurd rfl h
theorem wi_f {v lo hi : Int32} (h : wi v lo hi = 0) (h1 : lo ≤ v) (h2 : v ≤ hi) : False := by
  unfold wi at h
  rw [if_pos h1, if_pos h2] at h
  exact absurd h (by decide)
theorem wi_1 {v lo hi : Int32} (h1 : lo ≤ v) (h2 : v ≤ hi) : wi v lo hi = 1 := by
  unfold wi; rw [if_pos h1, if_pos h2]
theorem i_le {a b : Int32} : a ≤ b ↔ a.toInt ≤ b.toInt := Int32.le_iff_toInt_le
theorem nI_lit (k : Nat) : nI k = Int32.ofNat k := rfl
theorem wi_nat {v : Int32} {hi : Int32} {n : Nat} (hM : hi.toInt = n) (h : ¬ wi v 0 hi = 0) : ∃ j : Nat, j ≤ n ∧ v = nI j := by
  obtain ⟨h1, h2⟩ := wi_t h
  refine nI_of2 hM ?_ h2
  rw [Int32.lt_iff_toInt_lt, Int32.toInt_zero]
  rw [Int32.le_iff_toInt_le, Int32.toInt_zero] at h1
  omega
def fillTo {α : Type} (f : Nat → α) (k : Nat) (v : α) : Nat → α := fun j => if j < k then v else f j
theorem fill_0 {α : Type} (f : Nat → α) (v : α) : fillTo f 0 v = f := by funext j; simp [fillTo]
theorem fill_s (f : Nat → Int32) (k : Nat) (v : Int32) : upd (fillTo f k v) k v = fillTo f (k + 1) v := by
  funext j
  unfold upd fillTo
  by_cases h : j = k
  · subst h; simp
  · by_cases h2 : j < k
    · simp [h, h2, Nat.lt_succ_of_lt h2]
    · have : ¬ j < k + 1 := by omega
      simp [h, h2, this]
theorem fill_sL (f : Nat → Int64) (k : Nat) (v : Int64) : vp_updL (fillTo f k v) k v = fillTo f (k + 1) v := by
  funext j
  unfold vp_updL fillTo
  by_cases h : j = k
  · subst h; simp
  · by_cases h2 : j < k
    · simp [h, h2, Nat.lt_succ_of_lt h2]
    · have : ¬ j < k + 1 := by omega
      simp [h, h2, this]
def mapTo {α : Type} (f : Nat → α) (k : Nat) (g : Nat → α) : Nat → α := fun j => if j < k then g j else f j
theorem map_0 {α : Type} (f g : Nat → α) : mapTo f 0 g = f := by funext j; simp [mapTo]
theorem map_s (f : Nat → Int32) (k : Nat) (g : Nat → Int32) : upd (mapTo f k g) k (g k) = mapTo f (k + 1) g := by
  funext j
  unfold upd mapTo
  by_cases h : j = k
  · subst h; simp
  · by_cases h2 : j < k
    · simp [h, h2, Nat.lt_succ_of_lt h2]
    · have : ¬ j < k + 1 := by omega
      simp [h, h2, this]
theorem map_sL (f : Nat → Int64) (k : Nat) (g : Nat → Int64) : vp_updL (mapTo f k g) k (g k) = mapTo f (k + 1) g := by
  funext j
  unfold vp_updL mapTo
  by_cases h : j = k
  · subst h; simp
  · by_cases h2 : j < k
    · simp [h, h2, Nat.lt_succ_of_lt h2]
    · have : ¬ j < k + 1 := by omega
      simp [h, h2, this]
theorem if1_t {p : Prop} [Decidable p] (h : ¬ (if p then (1 : Int32) else 0) = 0) : p := by
  by_cases hp : p
  · exact hp
  · rw [if_neg hp] at h; exact absurd rfl h
theorem if1_f {p : Prop} [Decidable p] (h : (if p then (1 : Int32) else 0) = 0) : ¬ p := by
  intro hp
  rw [if_pos hp] at h
  exact absurd h (by decide)
theorem x_dec (x : Int32) : x + Int32.ofInt (-1) = x - 1 := by rw [Int32.sub_eq_add_neg]; rfl
theorem x_pos_of {j : Nat} (hj : j < 2 ^ 31) (h : ¬ nI j - 1 < 0) : ∃ i, j = i + 1 := by
  cases j with
  | zero => exact absurd (by decide) h
  | succ i => exact ⟨i, rfl⟩
theorem x_zero_of {j : Nat} (hj : j < 2 ^ 31) (h : nI j - 1 < 0) : j = 0 := by
  cases j with
  | zero => rfl
  | succ i => rw [nI_pred] at h; exact absurd h (nI_pos (by omega))
theorem wi_0 {v lo hi : Int32} (h : ¬ (lo ≤ v ∧ v ≤ hi)) : wi v lo hi = 0 := by
  unfold wi
  by_cases h1 : lo ≤ v
  · by_cases h2 : v ≤ hi
    · exact absurd ⟨h1, h2⟩ h
    · rw [if_pos h1, if_neg h2]
  · rw [if_neg h1]
theorem wi_nar (v lo hi : Int32) : narrow .boolean (.int (wi v lo hi)) = .int (wi v lo hi) := by
  unfold wi
  by_cases h1 : lo ≤ v
  · by_cases h2 : v ≤ hi
    · rw [if_pos h1, if_pos h2]; decide
    · rw [if_pos h1, if_neg h2]; decide
  · rw [if_neg h1]; decide
