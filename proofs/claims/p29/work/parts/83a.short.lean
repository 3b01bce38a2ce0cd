/-! shorter calls -/
section SH
variable {who : WHO} {sc : SCT} {sg : Nat} {M : MD} {HH : List (Nat × Nat × Nat × Nat)} {nc ns : Nat} {ls : List (Nat × Value)} {st rest : List Value} {pc : Nat} {ω : WDt}
theorem hhR {M2 : MD} (h : (mdY M2).cls = RL) : (mdY M2).cls ≠ "java/lang/invoke/MethodHandle" ∧ (mdY M2).cls ≠ "java/lang/invoke/VarHandle" := by rw [h]; exact hhL
/-- a call on the object that makes nothing -/
theorem L_cW {M2 : MD} {H2 : Option (List (Nat × Nat × Nat × Nat))} {index : Nat} {P : Int32 → Mm → Prop} (pc : Nat) (As : List Value) (h1 : 1 ≤ sg) (hE : EvW M2 H2 As ω.1 (qI P)) (d : decode (mdB M) pc = .ok (.invokestatic index, 3)) (hL : Cond.methodLink (mdO M) index (mdY M2) ∈ WS) (hc : hdC M2 H2 ∈ WS) (hs : Cond.static (mdY M2) ∈ WS) (hn : (parseMethodDescriptor (mdY M2).desc).map (fun d => d.parameters.length) = some As.length) (hcl : (mdY M2).cls = RL) (h0 : (mdG M2).cells = 0 ∧ (mdG M2).slots = 0) (hR : ROK M M2) (hcr : nc ≤ (mdG M).cells ∧ ns ≤ (mdG M).slots) (hst : st = As.reverse ++ rest) (hcat : (rest.map fun v => v.category).sum ≤ 8)
    (k : ∀ x V2, P x V2 → XL who sc sg M HH nc ns (pc + 3) ls (.int x :: rest) (V2, ω.2)) : XL who sc sg M HH nc ns pc ls st ω := by
  refine L_callW pc As h1 hE (by rintro r m ⟨x, rfl, _⟩ _; rfl) d hL hc (by rw [hcl]; exact kini) hs (hhR hcl) hn hR (by rw [h0.1, h0.2]; exact hcr) hst hcat ?_
  rintro _ V2 ⟨x, rfl, hx⟩
  rw [h0.1, h0.2]
  exact k x V2 hx
theorem L_cWl {M2 : MD} {H2 : Option (List (Nat × Nat × Nat × Nat))} {index : Nat} {P : Int64 → Mm → Prop} (pc : Nat) (As : List Value) (h1 : 1 ≤ sg) (hE : EvW M2 H2 As ω.1 (qL P)) (d : decode (mdB M) pc = .ok (.invokestatic index, 3)) (hL : Cond.methodLink (mdO M) index (mdY M2) ∈ WS) (hc : hdC M2 H2 ∈ WS) (hs : Cond.static (mdY M2) ∈ WS) (hn : (parseMethodDescriptor (mdY M2).desc).map (fun d => d.parameters.length) = some As.length) (hcl : (mdY M2).cls = RL) (h0 : (mdG M2).cells = 0 ∧ (mdG M2).slots = 0) (hR : ROK M M2) (hcr : nc ≤ (mdG M).cells ∧ ns ≤ (mdG M).slots) (hst : st = As.reverse ++ rest) (hcat : (rest.map fun v => v.category).sum ≤ 8)
    (k : ∀ x V2, P x V2 → XL who sc sg M HH nc ns (pc + 3) ls (.long x :: rest) (V2, ω.2)) : XL who sc sg M HH nc ns pc ls st ω := by
  refine L_callW pc As h1 hE (by rintro r m ⟨x, rfl, _⟩ _; rfl) d hL hc (by rw [hcl]; exact kini) hs (hhR hcl) hn hR (by rw [h0.1, h0.2]; exact hcr) hst hcat ?_
  rintro _ V2 ⟨x, rfl, hx⟩
  rw [h0.1, h0.2]
  exact k x V2 hx
theorem L_cWv {M2 : MD} {H2 : Option (List (Nat × Nat × Nat × Nat))} {index : Nat} {P : Mm → Prop} (pc : Nat) (As : List Value) (h1 : 1 ≤ sg) (hE : EvW M2 H2 As ω.1 (qV P)) (d : decode (mdB M) pc = .ok (.invokestatic index, 3)) (hL : Cond.methodLink (mdO M) index (mdY M2) ∈ WS) (hc : hdC M2 H2 ∈ WS) (hs : Cond.static (mdY M2) ∈ WS) (hn : (parseMethodDescriptor (mdY M2).desc).map (fun d => d.parameters.length) = some As.length) (hcl : (mdY M2).cls = RL) (h0 : (mdG M2).cells = 0 ∧ (mdG M2).slots = 0) (hR : ROK M M2) (hcr : nc ≤ (mdG M).cells ∧ ns ≤ (mdG M).slots) (hst : st = As.reverse ++ rest) (hcat : (rest.map fun v => v.category).sum ≤ 8)
    (k : ∀ V2, P V2 → XL who sc sg M HH nc ns (pc + 3) ls rest (V2, ω.2)) : XL who sc sg M HH nc ns pc ls st ω := by
  refine L_callW pc As h1 hE (by rintro r m ⟨rfl, _⟩ _; rfl) d hL hc (by rw [hcl]; exact kini) hs (hhR hcl) hn hR (by rw [h0.1, h0.2]; exact hcr) hst hcat ?_
  rintro _ V2 ⟨rfl, hx⟩
  rw [h0.1, h0.2]
  exact k V2 hx
/-- one that makes something -/
theorem L_cT {M2 : MD} {H2 : Option (List (Nat × Nat × Nat × Nat))} {index : Nat} {P : Int32 → Mm → Prop} (pc : Nat) (As : List Value) (nc2 ns2 : Nat) (h1 : 1 ≤ sg) (hE : EvW M2 H2 As ω.1 (qI P)) (d : decode (mdB M) pc = .ok (.invokestatic index, 3)) (hL : Cond.methodLink (mdO M) index (mdY M2) ∈ WS) (hc : hdC M2 H2 ∈ WS) (hs : Cond.static (mdY M2) ∈ WS) (hn : (parseMethodDescriptor (mdY M2).desc).map (fun d => d.parameters.length) = some As.length) (hcl : (mdY M2).cls = RL) (h0 : nc + (mdG M2).cells = nc2 ∧ ns + (mdG M2).slots = ns2) (hR : ROK M M2) (hcr : nc2 ≤ (mdG M).cells ∧ ns2 ≤ (mdG M).slots) (hst : st = As.reverse ++ rest) (hcat : (rest.map fun v => v.category).sum ≤ 8)
    (k : ∀ x V2, P x V2 → XL who sc sg M HH nc2 ns2 (pc + 3) ls (.int x :: rest) (V2, ω.2)) : XL who sc sg M HH nc ns pc ls st ω := by
  refine L_callW pc As h1 hE (by rintro r m ⟨x, rfl, _⟩ _; rfl) d hL hc (by rw [hcl]; exact kini) hs (hhR hcl) hn hR (by rw [h0.1, h0.2]; exact hcr) hst hcat ?_
  rintro _ V2 ⟨x, rfl, hx⟩
  rw [h0.1, h0.2]
  exact k x V2 hx
/-- calls without an object -/
theorem L_cA {M2 : MD} {sc2 : SCT} {index : Nat} {P : Int32 → Prop} (pc : Nat) (As : List Value) (nc2 ns2 : Nat) (hs2 : ∀ r, sc2 = some r → sc = some r) (hE : EvA M2 sc2 As (fun r => ∃ x : Int32, r = some (.int x) ∧ P x)) (d : decode (mdB M) pc = .ok (.invokestatic index, 3)) (hL : Cond.methodLink (mdO M) index (mdY M2) ∈ WS) (hc : hdC M2 none ∈ WS) (hs : Cond.static (mdY M2) ∈ WS) (hn : (parseMethodDescriptor (mdY M2).desc).map (fun d => d.parameters.length) = some As.length) (hcl : (mdY M2).cls = RL) (h0 : nc + (mdG M2).cells = nc2 ∧ ns + (mdG M2).slots = ns2) (hR : ROK M M2) (hcr : nc2 ≤ (mdG M).cells ∧ ns2 ≤ (mdG M).slots) (hst : st = As.reverse ++ rest) (hcat : (rest.map fun v => v.category).sum ≤ 8)
    (k : ∀ x, P x → XL who sc sg M HH nc2 ns2 (pc + 3) ls (.int x :: rest) ω) : XL who sc sg M HH nc ns pc ls st ω := by
  refine L_callA pc As hs2 hE (by rintro r ⟨x, rfl, _⟩ _; rfl) d hL hc (by rw [hcl]; exact kini) hs (hhR hcl) hn hR (by rw [h0.1, h0.2]; exact hcr) hst hcat ?_
  rintro _ ⟨x, rfl, hx⟩
  rw [h0.1, h0.2]
  exact k x hx
theorem L_cAl {M2 : MD} {index : Nat} {P : Int64 → Prop} (pc : Nat) (As : List Value) (hE : EvA M2 none As (fun r => ∃ x : Int64, r = some (.long x) ∧ P x)) (d : decode (mdB M) pc = .ok (.invokestatic index, 3)) (hL : Cond.methodLink (mdO M) index (mdY M2) ∈ WS) (hc : hdC M2 none ∈ WS) (hs : Cond.static (mdY M2) ∈ WS) (hn : (parseMethodDescriptor (mdY M2).desc).map (fun d => d.parameters.length) = some As.length) (hcl : (mdY M2).cls = RL) (h0 : (mdG M2).cells = 0 ∧ (mdG M2).slots = 0) (hR : ROK M M2) (hcr : nc ≤ (mdG M).cells ∧ ns ≤ (mdG M).slots) (hst : st = As.reverse ++ rest) (hcat : (rest.map fun v => v.category).sum ≤ 8)
    (k : ∀ x, P x → XL who sc sg M HH nc ns (pc + 3) ls (.long x :: rest) ω) : XL who sc sg M HH nc ns pc ls st ω := by
  refine L_callA pc As (fun r h => by cases h) hE (by rintro r ⟨x, rfl, _⟩ _; rfl) d hL hc (by rw [hcl]; exact kini) hs (hhR hcl) hn hR (by rw [h0.1, h0.2]; exact hcr) hst hcat ?_
  rintro _ ⟨x, rfl, hx⟩
  rw [h0.1, h0.2]
  exact k x hx
/-- calls of the class itself -/
theorem L_cC {M2 : MD} {index : Nat} {P : Int32 → Mm → Prop} (pc : Nat) (h1 : 1 ≤ sg) (hE : EvN ΛC M2 [.ref 109] ω.1 (qI P)) (d : decode (mdB M) pc = .ok (.invokevirtual index, 3)) (hL : Cond.methodLink (mdO M) index (mdY M2) ∈ WS) (hm : WMV M2) (hn : (parseMethodDescriptor (mdY M2).desc).map (fun d => d.parameters.length) = some 0) (hyc : (mdY M2).cls = RX6) (h0 : (mdG M2).cells = 0 ∧ (mdG M2).slots = 0) (hR : ROK M M2) (hcr : nc ≤ (mdG M).cells ∧ ns ≤ (mdG M).slots) (hst : st = .ref 109 :: rest) (hcat : (rest.map fun v => v.category).sum ≤ 8)
    (k : ∀ x V2, P x V2 → XL who sc sg M HH nc ns (pc + 3) ls (.int x :: rest) (V2, ω.2)) : XL who sc sg M HH nc ns pc ls st ω := by
  refine L_callC pc [] h1 (fun _ => rfl) hE (by rintro r m ⟨x, rfl, _⟩ _; rfl) d hL hm hn hR h0 hyc hcr hst hcat ?_
  rintro _ V2 ⟨x, rfl, hx⟩
  exact k x V2 hx
theorem L_cCl {M2 : MD} {index : Nat} {P : Int64 → Mm → Prop} (pc : Nat) (h1 : 1 ≤ sg) (hE : EvN ΛC M2 [.ref 109] ω.1 (qL P)) (d : decode (mdB M) pc = .ok (.invokevirtual index, 3)) (hL : Cond.methodLink (mdO M) index (mdY M2) ∈ WS) (hm : WMV M2) (hn : (parseMethodDescriptor (mdY M2).desc).map (fun d => d.parameters.length) = some 0) (hyc : (mdY M2).cls = RX6) (h0 : (mdG M2).cells = 0 ∧ (mdG M2).slots = 0) (hR : ROK M M2) (hcr : nc ≤ (mdG M).cells ∧ ns ≤ (mdG M).slots) (hst : st = .ref 109 :: rest) (hcat : (rest.map fun v => v.category).sum ≤ 8)
    (k : ∀ x V2, P x V2 → XL who sc sg M HH nc ns (pc + 3) ls (.long x :: rest) (V2, ω.2)) : XL who sc sg M HH nc ns pc ls st ω := by
  refine L_callC pc [] h1 (fun _ => rfl) hE (by rintro r m ⟨x, rfl, _⟩ _; rfl) d hL hm hn hR h0 hyc hcr hst hcat ?_
  rintro _ V2 ⟨x, rfl, hx⟩
  exact k x V2 hx
end SH
theorem hp_part : (parseMethodDescriptor (mdY mL_part).desc).map (fun d => d.parameters.length) = some 2 := by decide +kernel
theorem hp_take : (parseMethodDescriptor (mdY mL_take).desc).map (fun d => d.parameters.length) = some 2 := by decide +kernel
theorem hp_beginning : (parseMethodDescriptor (mdY mL_beginning).desc).map (fun d => d.parameters.length) = some 3 := by decide +kernel
theorem hp_painting : (parseMethodDescriptor (mdY mL_painting).desc).map (fun d => d.parameters.length) = some 6 := by decide +kernel
theorem hp_adding : (parseMethodDescriptor (mdY mL_adding).desc).map (fun d => d.parameters.length) = some 3 := by decide +kernel
theorem hp_cornering : (parseMethodDescriptor (mdY mL_cornering).desc).map (fun d => d.parameters.length) = some 5 := by decide +kernel
theorem hp_squaring : (parseMethodDescriptor (mdY mL_squaring).desc).map (fun d => d.parameters.length) = some 6 := by decide +kernel
theorem hp_setting : (parseMethodDescriptor (mdY mL_setting).desc).map (fun d => d.parameters.length) = some 4 := by decide +kernel
theorem hp_working : (parseMethodDescriptor (mdY mL_working).desc).map (fun d => d.parameters.length) = some 3 := by decide +kernel
theorem hp_shifting : (parseMethodDescriptor (mdY mL_shifting).desc).map (fun d => d.parameters.length) = some 3 := by decide +kernel
theorem hp_burning : (parseMethodDescriptor (mdY mL_burning).desc).map (fun d => d.parameters.length) = some 2 := by decide +kernel
theorem hp_placing : (parseMethodDescriptor (mdY mL_placing).desc).map (fun d => d.parameters.length) = some 4 := by decide +kernel
theorem hp_lighting : (parseMethodDescriptor (mdY mL_lighting).desc).map (fun d => d.parameters.length) = some 4 := by decide +kernel
theorem hp_weighing : (parseMethodDescriptor (mdY mL_weighing).desc).map (fun d => d.parameters.length) = some 4 := by decide +kernel
theorem hp_lamping : (parseMethodDescriptor (mdY mL_lamping).desc).map (fun d => d.parameters.length) = some 3 := by decide +kernel
theorem hp_cornerAt : (parseMethodDescriptor (mdY mL_cornerAt).desc).map (fun d => d.parameters.length) = some 4 := by decide +kernel
theorem hp_all : (parseMethodDescriptor (mdY mL_all).desc).map (fun d => d.parameters.length) = some 2 := by decide +kernel
theorem hp_wrongAt : (parseMethodDescriptor (mdY mL_wrongAt).desc).map (fun d => d.parameters.length) = some 2 := by decide +kernel
theorem hp_wrongBut : (parseMethodDescriptor (mdY mL_wrongBut).desc).map (fun d => d.parameters.length) = some 2 := by decide +kernel
theorem hp_wrongBy : (parseMethodDescriptor (mdY mL_wrongBy).desc).map (fun d => d.parameters.length) = some 3 := by decide +kernel
theorem hp_besting : (parseMethodDescriptor (mdY mL_besting).desc).map (fun d => d.parameters.length) = some 2 := by decide +kernel
theorem hp_needing : (parseMethodDescriptor (mdY mL_needing).desc).map (fun d => d.parameters.length) = some 2 := by decide +kernel
theorem hp_typing : (parseMethodDescriptor (mdY mL_typing).desc).map (fun d => d.parameters.length) = some 2 := by decide +kernel
theorem hp_undoing : (parseMethodDescriptor (mdY mL_undoing).desc).map (fun d => d.parameters.length) = some 1 := by decide +kernel
theorem hp_mixed : (parseMethodDescriptor (mdY mL_mixed).desc).map (fun d => d.parameters.length) = some 2 := by decide +kernel
theorem hp_lampsOf : (parseMethodDescriptor (mdY mL_lampsOf).desc).map (fun d => d.parameters.length) = some 2 := by decide +kernel
theorem hp_placesOf : (parseMethodDescriptor (mdY mL_placesOf).desc).map (fun d => d.parameters.length) = some 2 := by decide +kernel
theorem hp_seen : (parseMethodDescriptor (mdY mL_seen).desc).map (fun d => d.parameters.length) = some 1 := by decide +kernel
theorem hp_isDigest : (parseMethodDescriptor (mdY mL_isDigest).desc).map (fun d => d.parameters.length) = some 2 := by decide +kernel
theorem hp_refusesPlaces : (parseMethodDescriptor (mdY mL_refusesPlaces).desc).map (fun d => d.parameters.length) = some 1 := by decide +kernel
theorem hp_refusesLamps : (parseMethodDescriptor (mdY mL_refusesLamps).desc).map (fun d => d.parameters.length) = some 1 := by decide +kernel
theorem hp_refused : (parseMethodDescriptor (mdY mL_refused).desc).map (fun d => d.parameters.length) = some 1 := by decide +kernel
theorem hp_types : (parseMethodDescriptor (mdY mL_types).desc).map (fun d => d.parameters.length) = some 2 := by decide +kernel
theorem hp_told : (parseMethodDescriptor (mdY mL_told).desc).map (fun d => d.parameters.length) = some 3 := by decide +kernel
theorem hp_texts : (parseMethodDescriptor (mdY mL_texts).desc).map (fun d => d.parameters.length) = some 0 := by decide +kernel
theorem hp_known : (parseMethodDescriptor (mdY mL_known).desc).map (fun d => d.parameters.length) = some 0 := by decide +kernel
theorem hq_digest : (parseMethodDescriptor (mdY mX6_digest).desc).map (fun d => d.parameters.length) = some 0 := by decide +kernel
theorem hq_dearestLamp : (parseMethodDescriptor (mdY mX6_dearestLamp).desc).map (fun d => d.parameters.length) = some 0 := by decide +kernel
theorem hq_runCommands : (parseMethodDescriptor (mdY mX6_runCommands).desc).map (fun d => d.parameters.length) = some 0 := by decide +kernel
theorem hq_clearCommands : (parseMethodDescriptor (mdY mX6_clearCommands).desc).map (fun d => d.parameters.length) = some 0 := by decide +kernel
