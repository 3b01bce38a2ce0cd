theorem lenC : ΛC.length = 110 := by decide +kernel
theorem lenM : ΛM.length = 9 := by decide +kernel
/-! what is left of the worlds behind a call -/
theorem WPL_C {gl : GLT} {A : Nat → Prop} {V V2 : Mm} {r : Mm × (Nat → Int64)} {H H2 : Heap} (hW : WPL gl (V, r) H) (hD : DL gl A) (hP : va_P gl.1.2.1 vwCl (wO gl.1 ΛC V2) H2) (hk : ∀ q : Nat, q < H.size → ¬ AA gl.1 ΛC H.size q → H2[q]? = H[q]?) : WPL gl (V2, r) H2 := by
  obtain ⟨_, h2, h3⟩ := WPL_3.mp hW
  obtain ⟨-, -, -, d4, d5, -, -⟩ := hD
  refine WPL_3.mpr ⟨hP, P_cong h2 (fun k q hq => ?_), P_cong h3 (fun k q hq => ?_)⟩
  · have hlt := vx_lt h2 hq
    obtain ⟨a, ea⟩ := wO_fst hq
    refine hk _ hlt ?_
    rintro (⟨i, hi, e⟩ | e)
    · exact d4 i k hi a (e.symm.trans ea)
    · omega
  · have hlt := vx_lt h3 hq
    obtain ⟨b, eb⟩ := List.getElem?_eq_some_iff.mp hq
    simp at b
    subst b
    have eq1 : q.1 = gl.2.2.1 := by rw [← eb]; rfl
    refine hk _ hlt ?_
    rintro (⟨i, hi, e⟩ | e)
    · exact d5 i hi (e.symm.trans eq1)
    · omega
theorem WPL_M {gl : GLT} {A : Nat → Prop} {V μ μ2 : Mm} {f : Nat → Int64} {H H2 : Heap} (hW : WPL gl (V, μ, f) H) (hD : DL gl A) (hP : va_P gl.1.2.1 vwCl (wO gl.2.1 ΛM μ2) H2) (hk : ∀ q : Nat, q < H.size → ¬ AA gl.2.1 ΛM H.size q → H2[q]? = H[q]?) : WPL gl (V, μ2, f) H2 := by
  obtain ⟨h1, _, h3⟩ := WPL_3.mp hW
  obtain ⟨-, -, -, d4, -, d6, -⟩ := hD
  refine WPL_3.mpr ⟨P_cong h1 (fun k q hq => ?_), hP, P_cong h3 (fun k q hq => ?_)⟩
  · have hlt := vx_lt h1 hq
    obtain ⟨a, ea⟩ := wO_fst hq
    refine hk _ hlt ?_
    rintro (⟨i, hi, e⟩ | e)
    · exact d4 k i a hi (ea.symm.trans e)
    · omega
  · have hlt := vx_lt h3 hq
    obtain ⟨b, eb⟩ := List.getElem?_eq_some_iff.mp hq
    simp at b
    subst b
    have eq1 : q.1 = gl.2.2.1 := by rw [← eb]; rfl
    refine hk _ hlt ?_
    rintro (⟨i, hi, e⟩ | e)
    · exact d6 i hi (e.symm.trans eq1)
    · omega
section LC
variable {kp : KPt} {M : MD} {HH : List (Nat × Nat × Nat × Nat)} {nc ns : Nat} {ls : List (Nat × Value)} {st rest : List Value} {pc : Nat}
theorem LPc {gl : GLT} {A : Nat → Prop} {p : Program} {l : Launch} {s : State} {m : MethodId} {args : Array Value} {meth : Method} {c : Code} {H : Heap} {locs : List Loc} {ω : WDt} (C0 : CL kp M HH gl A p l s m args meth c) (hP : WPL gl ω H) (hS : va_S A s.heap H locs) (av : List Value) :
    ∀ U : State, U.heap = H → s.WarmedH U.vm → PcN ΛC gl.1 H.size av ω.1 (av.map (cv gl.1.1)).toArray U := by
  intro U hU hW
  have hD := C0.2.2.2.2.2.2.2.2.2.1
  refine ⟨rfl, by rw [hU], by rw [hU]; exact (WPL_3.mp hP).1, AD_self hD.1 _, ?_⟩
  rw [hU]
  exact SF.step C0.2.2.2.2.2.2.2.2.2.2.2.1.1 hW hS.2.1 (AA_in hD.1 C0.2.2.2.2.2.2.2.2.2.2.1 hS.1)
theorem LPm {gl : GLT} {A : Nat → Prop} {p : Program} {l : Launch} {s : State} {m : MethodId} {args : Array Value} {meth : Method} {c : Code} {H : Heap} {locs : List Loc} {ω : WDt} (C0 : CL kp M HH gl A p l s m args meth c) (hP : WPL gl ω H) (hS : va_S A s.heap H locs) (av : List Value) :
    ∀ U : State, U.heap = H → s.WarmedH U.vm → PcN ΛM gl.2.1 H.size av ω.2.1 (av.map (cv gl.2.1.1)).toArray U := by
  intro U hU hW
  have hD := C0.2.2.2.2.2.2.2.2.2.1
  refine ⟨rfl, by rw [hU], by rw [hU, hD.2.2.2.2.2.2]; exact (WPL_3.mp hP).2.1, AD_self hD.2.1 _, ?_⟩
  rw [hU]
  exact SF.step C0.2.2.2.2.2.2.2.2.2.2.2.1.2.1 hW hS.2.1 (AA_in hD.2.1 C0.2.2.2.2.2.2.2.2.2.2.1 hS.1)
/-- a call of the class that returns -/
theorem L_callC {M2 : MD} {index : Nat} {ω : WDt} {P : Option Value → Mm → Prop} (pc : Nat) (As : List Value) (hI : ∀ ad : Nat → Nat, As.map (cv ad) = As) (hE : EvN ΛC M2 (.ref 109 :: As) ω.1 P) (hr : ∀ r m, P r m → ∀ ad : Nat → Nat, r.map (cv ad) = r) (d : decode (mdB M) pc = .ok (.invokevirtual index, 3)) (hL : Cond.methodLink (mdO M) index (mdY M2) ∈ WS) (hm : WMV M2) (hn : (parseMethodDescriptor (mdY M2).desc).map (fun d => d.parameters.length) = some As.length) (hR : ROK M M2) (h0 : (mdG M2).cells = 0 ∧ (mdG M2).slots = 0) (hyc : (mdY M2).cls = RX6) (hcr : nc ≤ (mdG M).cells ∧ ns ≤ (mdG M).slots) (hst : st = As.reverse ++ .ref 0 :: rest) (hcat : (rest.map fun v => v.category).sum ≤ 8)
    (k : ∀ r V2, P r V2 → XL kp M HH nc ns (pc + 3) ls (r.toList ++ rest) (V2, ω.2)) : XL kp M HH nc ns pc ls st ω := by
  subst hst
  intro p l e s m args below meth c H locs gl A lsA C0 hP hS hl
  have hts := C0.2.2.2.2.1
  have hown := C0.2.2.2.1
  have hD := C0.2.2.2.2.2.2.2.2.2.1
  have hK := C0.2.2.2.2.2.2.2.2.2.2.2.1.1.1
  have hsz : lsA.size = mdN M := lv_size hl
  have hpre : PreV s H RX6 (gl.1.1 109) (PcN ΛC gl.1 H.size (.ref 109 :: As) ω.1) (As.map (cv gl.1.1)) := ⟨PcN_blind, va_recv hK (WPL_3.mp hP).1 vc6 (wO_at lyL ω.1), LPc C0 hP hS (.ref 109 :: As)⟩
  have hcat2 : 2 * (F0 m pc lsA ((As.reverse ++ .ref 0 :: rest).map (cv (adL gl)))).monitorRoom + ((rest.map (cv (adL gl))).map fun v => v.category).sum ≤ 8 := by
    rw [cat_map]; exact lv_room hcat
  have hstk : (As.reverse ++ .ref 0 :: rest).map (cv (adL gl)) = (As.map (cv gl.1.1)).reverse ++ .ref (gl.1.1 109) :: rest.map (cv (adL gl)) := by
    rw [List.map_append, List.map_reverse, hI, hI]; rfl
  have run := va_runV (p := p) (l := l) (e := e) (below := below) (meth := meth) (R := mdG M) (s := s) (m := m) (args := args) (c := c) (H := H) (locs := locs) (cells := nc) (slots := ns) (As := As.map (cv gl.1.1)) (rest := rest.map (cv (adL gl))) ⟨C0.1, C0.2.1, C0.2.2.1, hown, hts⟩ (hE l gl.1 H.size C0.2.2.2.2.2.2.2.2.1) ⟨callB_of As.length hts (good_wsM hm.1.2.1) rfl h0.1 h0.2 (hts _ hm.1.1) (hts _ hL) ⟨hm.1.2.2.1, hm.1.2.2.2, hn⟩ hR, hts _ hm.2.1, by rw [← hyc]; exact hts _ hm.2.2⟩ hpre (g := F0 m pc lsA ((As.reverse ++ .ref 0 :: rest).map (cv (adL gl)))) rfl (by simp) hsz hstk hcat2 d hcr
  intro T hT X0
  obtain ⟨v, st₀, t, T', L, h0', X', hL', e1, e2, ⟨⟨r, V2, hv, hp, hw⟩, hF⟩, stp⟩ := run T hT X0
  have hA := AA_in hD.1 C0.2.2.2.2.2.2.2.2.2.2.1 hS.1
  obtain ⟨hz, hkp, hS1⟩ := vx_keep h0' e1 hS (fun q _ h => hA q h) hA hL' hF
  have hvr : v = r := by
    rw [hr r V2 hp] at hv
    cases hv; rfl
  subst hvr
  have hW2 : WPL gl (V2, ω.2) T'.heap := WPL_C (V := ω.1) (r := ω.2) hP hD (by rw [e1]; exact hw) hkp
  have hk := k v V2 hp p l e s m args below meth c T'.heap (locs ++ L) gl A lsA C0 hW2 hS1 hl
  have hm2 : (v.toList ++ rest).map (cv (adL gl)) = v.toList ++ rest.map (cv (adL gl)) := by
    rw [List.map_append]
    congr 1
    have := hr v V2 hp (adL gl)
    cases v with
    | none => rfl
    | some w =>
      simp at this
      show [cv (adL gl) w] = [w]
      rw [this]
  rw [hm2] at hk
  obtain ⟨t2, a1, b1⟩ := hk T' rfl X'
  exact ⟨t2, stp t2 a1, b1⟩
/-- a call of the model -/
theorem L_callM {M2 : MD} {index : Nat} {ω : WDt} {P : Option Value → Mm → Prop} (pc : Nat) (As : List Value) (hI : ∀ ad : Nat → Nat, As.map (cv ad) = As) (hE : EvN ΛM M2 (.ref 0 :: As) ω.2.1 P) (hr : ∀ r m, P r m → ∀ ad : Nat → Nat, r.map (cv ad) = r) (d : decode (mdB M) pc = .ok (.invokevirtual index, 3)) (hL : Cond.methodLink (mdO M) index (mdY M2) ∈ WS) (hm : WMV M2) (hn : (parseMethodDescriptor (mdY M2).desc).map (fun d => d.parameters.length) = some As.length) (hR : ROK M M2) (h0 : (mdG M2).cells = 0 ∧ (mdG M2).slots = 0) (hyc : (mdY M2).cls = RX7) (hcr : nc ≤ (mdG M).cells ∧ ns ≤ (mdG M).slots) (hst : st = As.reverse ++ .ref 1 :: rest) (hcat : (rest.map fun v => v.category).sum ≤ 8)
    (k : ∀ r μ2, P r μ2 → XL kp M HH nc ns (pc + 3) ls (r.toList ++ rest) (ω.1, μ2, ω.2.2)) : XL kp M HH nc ns pc ls st ω := by
  subst hst
  intro p l e s m args below meth c H locs gl A lsA C0 hP hS hl
  have hts := C0.2.2.2.2.1
  have hown := C0.2.2.2.1
  have hD := C0.2.2.2.2.2.2.2.2.2.1
  have hK := C0.2.2.2.2.2.2.2.2.2.2.2.1.2.1.1
  have hsz : lsA.size = mdN M := lv_size hl
  have hpre : PreV s H RX7 (gl.2.1.1 0) (PcN ΛM gl.2.1 H.size (.ref 0 :: As) ω.2.1) (As.map (cv gl.2.1.1)) := ⟨PcN_blind, va_recv hK (by rw [hD.2.2.2.2.2.2]; exact (WPL_3.mp hP).2.1) vc7 (wO_at lyM ω.2.1), LPm C0 hP hS (.ref 0 :: As)⟩
  have hcat2 : 2 * (F0 m pc lsA ((As.reverse ++ .ref 1 :: rest).map (cv (adL gl)))).monitorRoom + ((rest.map (cv (adL gl))).map fun v => v.category).sum ≤ 8 := by
    rw [cat_map]; exact lv_room hcat
  have hstk : (As.reverse ++ .ref 1 :: rest).map (cv (adL gl)) = (As.map (cv gl.2.1.1)).reverse ++ .ref (gl.2.1.1 0) :: rest.map (cv (adL gl)) := by
    rw [List.map_append, List.map_reverse, hI, hI]; rfl
  have run := va_runV (p := p) (l := l) (e := e) (below := below) (meth := meth) (R := mdG M) (s := s) (m := m) (args := args) (c := c) (H := H) (locs := locs) (cells := nc) (slots := ns) (As := As.map (cv gl.2.1.1)) (rest := rest.map (cv (adL gl))) ⟨C0.1, C0.2.1, C0.2.2.1, hown, hts⟩ (hE l gl.2.1 H.size C0.2.2.2.2.2.2.2.2.1) ⟨callB_of As.length hts (good_wsM hm.1.2.1) rfl h0.1 h0.2 (hts _ hm.1.1) (hts _ hL) ⟨hm.1.2.2.1, hm.1.2.2.2, hn⟩ hR, hts _ hm.2.1, by rw [← hyc]; exact hts _ hm.2.2⟩ hpre (g := F0 m pc lsA ((As.reverse ++ .ref 1 :: rest).map (cv (adL gl)))) rfl (by simp) hsz hstk hcat2 d hcr
  intro T hT X0
  obtain ⟨v, st₀, t, T', L, h0', X', hL', e1, e2, ⟨⟨r, μ2, hv, hp, hw⟩, hF⟩, stp⟩ := run T hT X0
  have hA := AA_in hD.2.1 C0.2.2.2.2.2.2.2.2.2.2.1 hS.1
  obtain ⟨hz, hkp, hS1⟩ := vx_keep h0' e1 hS (fun q _ h => hA q h) hA hL' hF
  have hvr : v = r := by
    rw [hr r μ2 hp] at hv
    cases hv; rfl
  subst hvr
  have hW2 : WPL gl (ω.1, μ2, ω.2.2) T'.heap := WPL_M (V := ω.1) (μ := ω.2.1) (f := ω.2.2) hP hD (by rw [e1, ← hD.2.2.2.2.2.2]; exact hw) hkp
  have hk := k v μ2 hp p l e s m args below meth c T'.heap (locs ++ L) gl A lsA C0 hW2 hS1 hl
  have hm2 : (v.toList ++ rest).map (cv (adL gl)) = v.toList ++ rest.map (cv (adL gl)) := by
    rw [List.map_append]
    congr 1
    have := hr v μ2 hp (adL gl)
    cases v with
    | none => rfl
    | some w =>
      simp at this
      show [cv (adL gl) w] = [w]
      rw [this]
  rw [hm2] at hk
  obtain ⟨t2, a1, b1⟩ := hk T' rfl X'
  exact ⟨t2, stp t2 a1, b1⟩
end LC
