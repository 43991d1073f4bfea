theorem A_sub {w0 wc : va_W} {sz : Nat} (isC : List Nat) (hC : isC.map (fun i => wc[i]?) = w0.map some) : ∀ q, va_A w0 sz q → va_A wc sz q := by
  intro q h
  rcases h with ⟨k, e, h⟩ | h
  · have h1 : (isC.map (fun i => wc[i]?))[k]? = some (some (q, e)) := by rw [hC, List.getElem?_map, h]; rfl
    rw [List.getElem?_map] at h1
    cases hi : isC[k]? with
    | none => rw [hi] at h1; cases h1
    | some i => rw [hi] at h1; exact Or.inl ⟨i, e, Option.some.inj h1⟩
  · exact Or.inr h
theorem F_sub {A B : Nat → Prop} {st t : State} (h : ∀ q, A q → B q) (hF : va_F A st t) : va_F B st t := ⟨hF.1, fun q h1 h2 => hF.2 q h1 (fun z => h2 (h q z))⟩
theorem join_A {D : va_G} {w0 w1 wc wr ws' : va_W} {sz : Nat} {st t : State} (hsz : st.heap.size = sz) (hP : va_P D vwCl wc st.heap) (hD : va_D (fun _ => True) wc) (isC isR : List Nat) (hC : isC.map (fun i => wc[i]?) = w0.map some) (hR : isR.map (fun i => wc[i]?) = wr.map some) (hn : va_nd isR = true) (hdis : ∀ i ∈ isR, i ∉ isC)
    (pm : List Nat) (hpn : va_nd pm = true) (hpm : pm.map (fun i => (wr ++ w1)[i]?) = ws'.map some) (hF : va_F (va_A w0 sz) st t) (hP1 : va_P D vwCl w1 t.heap) (hD1 : va_D (va_A w0 sz) w1) : va_P D vwCl ws' t.heap ∧ va_D (va_A wc sz) ws' := by
  subst hsz
  obtain ⟨hP2, hD2⟩ := va_join (A0 := va_A wc st.heap.size) hP hD.self isC isR hC hR hn hdis hF.2 (A_sub isC hC) hP1 hD1
  exact ⟨x_Psub hP2 pm hpm, hD2.sub pm hpn hpm⟩
section LIFT
variable {l : Launch} {y : MethodName} {wds : List Cond} {rm : Room} {av : List Value} {sz : Nat} {D : va_G} {cI cJ cZ : ClassId} {w0 w1 wc wr ws' : va_W}
theorem lift_i {post : Int32 → Prop} (isC isR : List Nat) (hC : isC.map (fun i => wc[i]?) = w0.map some) (hR : isR.map (fun i => wc[i]?) = wr.map some) (hnC : va_nd isC = true) (hn : va_nd isR = true) (hdis : ∀ i ∈ isR, i ∉ isC) (pm : List Nat) (hpn : va_nd pm = true) (hpm : pm.map (fun i => (wr ++ w1)[i]?) = ws'.map some)
    (hM : Met l y wds rm (PcRW av sz D cI cJ cZ w0) (QcI post D (va_A w0 sz) w1) 0 0 (va_A w0 sz)) : Met l y wds rm (PcRW av sz D cI cJ cZ wc) (QcI post D (va_A wc sz) ws') 0 0 (va_A wc sz) := by
  refine MetFree.mono hM (fun a s h => ?_) (fun _ _ _ _ _ h => h) (fun a s o t h hq => ?_)
  · obtain ⟨h1, h2, h3, h4, h5⟩ := h
    exact ⟨h1, h2, x_Psub h3 isC hC, h4, h5.sub isC hnC hC⟩
  · obtain ⟨-, hsz, hP, -, hD⟩ := h
    obtain ⟨⟨⟨r, u, hr, hp, hP1, hD1⟩, hF⟩, L, hL, hq⟩ := hq
    obtain ⟨hP2, hD2⟩ := join_A hsz hP hD isC isR hC hR hn hdis pm hpn hpm hF hP1 hD1
    exact ⟨⟨⟨r, u, hr, hp, hP2, hD2⟩, F_sub (A_sub isC hC) hF⟩, L, hL, fun q hq' => A_sub isC hC _ (hq q hq')⟩
theorem lift_l {post : Int64 → Prop} (isC isR : List Nat) (hC : isC.map (fun i => wc[i]?) = w0.map some) (hR : isR.map (fun i => wc[i]?) = wr.map some) (hnC : va_nd isC = true) (hn : va_nd isR = true) (hdis : ∀ i ∈ isR, i ∉ isC) (pm : List Nat) (hpn : va_nd pm = true) (hpm : pm.map (fun i => (wr ++ w1)[i]?) = ws'.map some)
    (hM : Met l y wds rm (PcRW av sz D cI cJ cZ w0) (QcL post D (va_A w0 sz) w1) 0 0 (va_A w0 sz)) : Met l y wds rm (PcRW av sz D cI cJ cZ wc) (QcL post D (va_A wc sz) ws') 0 0 (va_A wc sz) := by
  refine MetFree.mono hM (fun a s h => ?_) (fun _ _ _ _ _ h => h) (fun a s o t h hq => ?_)
  · obtain ⟨h1, h2, h3, h4, h5⟩ := h
    exact ⟨h1, h2, x_Psub h3 isC hC, h4, h5.sub isC hnC hC⟩
  · obtain ⟨-, hsz, hP, -, hD⟩ := h
    obtain ⟨⟨⟨r, u, hr, hp, hP1, hD1⟩, hF⟩, L, hL, hq⟩ := hq
    obtain ⟨hP2, hD2⟩ := join_A hsz hP hD isC isR hC hR hn hdis pm hpn hpm hF hP1 hD1
    exact ⟨⟨⟨r, u, hr, hp, hP2, hD2⟩, F_sub (A_sub isC hC) hF⟩, L, hL, fun q hq' => A_sub isC hC _ (hq q hq')⟩
theorem lift_si {post : Int32 → Prop} (isC : List Nat) (hC : isC.map (fun i => wc[i]?) = w0.map some) (hM : Met l y wds rm (PcRO av D cI cJ cZ w0) (vp_Si post) 0 0 noF) : Met l y wds rm (PcRW av sz D cI cJ cZ wc) (QcI post D (va_A wc sz) wc) 0 0 (va_A wc sz) := by
  refine MetFree.mono hM (fun a s h => ?_) (fun _ _ _ _ _ h => h) (fun a s o t h hq => ?_)
  · obtain ⟨h1, h2, h3, h4, h5⟩ := h
    exact ⟨h1, x_Psub h3 isC hC, h4⟩
  · obtain ⟨-, hsz, hP, -, hD⟩ := h
    obtain ⟨⟨r, hr, hp, hh⟩, L, hL, hq⟩ := hq
    exact ⟨⟨⟨r, (), hr, hp, by rw [hh]; exact hP, hD.self⟩, by rw [hh]; exact Nat.le_refl _, fun q _ _ => by rw [hh]⟩, L, hL, fun q hq' => (hq q hq').elim⟩
theorem lift_sl {post : Int64 → Prop} (isC : List Nat) (hC : isC.map (fun i => wc[i]?) = w0.map some) (hM : Met l y wds rm (PcRO av D cI cJ cZ w0) (vp_Sl post) 0 0 noF) : Met l y wds rm (PcRW av sz D cI cJ cZ wc) (QcL post D (va_A wc sz) wc) 0 0 (va_A wc sz) := by
  refine MetFree.mono hM (fun a s h => ?_) (fun _ _ _ _ _ h => h) (fun a s o t h hq => ?_)
  · obtain ⟨h1, h2, h3, h4, h5⟩ := h
    exact ⟨h1, x_Psub h3 isC hC, h4⟩
  · obtain ⟨-, hsz, hP, -, hD⟩ := h
    obtain ⟨⟨r, hr, hp, hh⟩, L, hL, hq⟩ := hq
    exact ⟨⟨⟨r, (), hr, hp, by rw [hh]; exact hP, hD.self⟩, by rw [hh]; exact Nat.le_refl _, fun q _ _ => by rw [hh]⟩, L, hL, fun q hq' => (hq q hq').elim⟩
end LIFT
abbrev QaI (Rel : Int32 → va_W → Prop) (D : va_G) (A : Nat → Prop) : Array Value → State → Outcome → State → Prop := va_Qi Rel (fun w t => va_P D vwCl w t.heap ∧ va_D A w) A
abbrev QaL (Rel : Int64 → va_W → Prop) (D : va_G) (A : Nat → Prop) : Array Value → State → Outcome → State → Prop := va_Ql Rel (fun w t => va_P D vwCl w t.heap ∧ va_D A w) A
theorem to_QaI {l : Launch} {y : MethodName} {wds : List Cond} {rm : Room} {P : Array Value → State → Prop} {D : va_G} {A : Nat → Prop} {ws' : va_W} {post : Int32 → Prop} {Rel : Int32 → va_W → Prop} {f : Addr → Prop} (hR : ∀ r, post r → Rel r ws') (hM : Met l y wds rm P (QcI post D A ws') 0 0 f) : Met l y wds rm P (QaI Rel D A) 0 0 f := by
  refine MetFree.mono hM (fun _ _ h => h) (fun _ _ _ _ _ h => h) (fun a s o t h hq => ?_)
  obtain ⟨⟨⟨r, u, hr, hp, hP1, hD1⟩, hF⟩, hL⟩ := hq
  exact ⟨⟨⟨r, ws', hr, hR r hp, hP1, hD1⟩, hF⟩, hL⟩
theorem to_QaL {l : Launch} {y : MethodName} {wds : List Cond} {rm : Room} {P : Array Value → State → Prop} {D : va_G} {A : Nat → Prop} {ws' : va_W} {post : Int64 → Prop} {Rel : Int64 → va_W → Prop} {f : Addr → Prop} (hR : ∀ r, post r → Rel r ws') (hM : Met l y wds rm P (QcL post D A ws') 0 0 f) : Met l y wds rm P (QaL Rel D A) 0 0 f := by
  refine MetFree.mono hM (fun _ _ h => h) (fun _ _ _ _ _ h => h) (fun a s o t h hq => ?_)
  obtain ⟨⟨⟨r, u, hr, hp, hP1, hD1⟩, hF⟩, hL⟩ := hq
  exact ⟨⟨⟨r, ws', hr, hR r hp, hP1, hD1⟩, hF⟩, hL⟩
