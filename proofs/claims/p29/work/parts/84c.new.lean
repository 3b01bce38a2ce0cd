def CS (M : MD) (G : G3) (A : Nat → Prop) (p : Program) (s : State) (m : MethodId) (args : Array Value) (c : Code) : Prop :=
  p.tables.exec = Jvm.exec ∧ c.code = mdB M ∧ c.maxLocals = mdN M ∧ s.vm.findClass (mdO M) = some m.cls ∧ (∀ w ∈ WS, w.before args s = true) ∧ KC G s ∧ ∀ q : Nat, s.heap.size ≤ q → A q
def XS (M : MD) (G : G3) (A : Nat → Prop) (p : Program) (l : Launch) (e : Env) (s : State) (m : MethodId) (args : Array Value) (below : List Frame) (meth : Method) (c : Code) (Q : State → Prop) (nc ns pc : Nat) (ls : List (Nat × Value)) (st : List Value) (ws : va_W) : Prop :=
  ∀ (H : Heap) (locs : List Loc) (lsA : Array Slot), va_P G.1 vwCl ws H → va_D A ws → va_S A s.heap H locs → lv_has lsA (mdN M) ls →
    W p l e (mdG M) s m args below meth c H locs nc ns Q (F0 m pc lsA st)
section SS
variable {M : MD} {G : G3} {A : Nat → Prop} {p : Program} {l : Launch} {e : Env} {s : State} {m : MethodId} {args : Array Value} {below : List Frame} {meth : Method} {c : Code} {Q : State → Prop} {nc ns pc : Nat} {ls : List (Nat × Value)} {st rest : List Value} {ws : va_W}
theorem S_new {ci index N : Nat} {C : String} {T : u_T} (pc : Nat) (ty : Nat → FieldType) (fs : List Value) (C0 : CS M G A p s m args c) (d : decode (mdB M) pc = .ok (.new index, 3)) (hin : ∀ w ∈ u_ws C T N, w ∈ WS) (hty : ∀ k, k < N → parseFieldDescriptor (T k).2.2.1 = some (ty k)) (hcl : Cond.classLink (mdO M) index C ∈ WS) (hinst : Cond.instantiable C N ∈ WS) (hini : Cond.initialized C ∈ WS) (hc : vwCl[ci]? = some (C, T, N)) (hfs : ∀ j, j < N → defaultValue (ty j) = vp_V fs j) (hR : nc + 1 ≤ (mdG M).cells ∧ ns + N ≤ (mdG M).slots)
    (k : ∀ q : Nat, XS M G A p l e s m args below meth c Q (nc + 1) (ns + N) (pc + 3) ls (.ref q :: st) (ws ++ [(q, .inr (ci, fs))])) : XS M G A p l e s m args below meth c Q nc ns pc ls st ws := by
  intro H locs lsA hP hD hS hl
  have hts := C0.2.2.2.2.1
  exact va_new C0.1 C0.2.1 hts hin ty hty C0.2.2.2.1 (hts _ hcl) (hts _ hinst) (hts _ hini) C0.2.2.2.2.2.1.1 hP hD hS C0.2.2.2.2.2.2 hc hfs hR.1 hR.2 d (fun q H1 hP1 hD1 hS1 => k q H1 locs lsA hP1 hD1 hS1 hl)
theorem S_dup (pc : Nat) {x : Nat} (C0 : CS M G A p s m args c) (d : decode (mdB M) pc = .ok (.dup, 1)) (k : XS M G A p l e s m args below meth c Q nc ns (pc + 1) ls (.ref x :: .ref x :: st) ws) : XS M G A p l e s m args below meth c Q nc ns pc ls (.ref x :: st) ws := fun H locs lsA hP hD hS hl => lv_dup C0.1 C0.2.1 d rfl (k H locs lsA hP hD hS hl)
theorem S_call {M2 : MD} {index q mc2 ms2 : Nat} {e2 : va_E} {av : List Value} {P2 : G3 → Nat → va_W → Prop} {R : va_W} (pc : Nat) (C0 : CS M G A p s m args c) (hE : EvK M2 e2 av mc2 ms2 P2) (d : decode (mdB M) pc = .ok (.invokespecial index, 3)) (hL : Cond.methodLink (mdO M) index (mdY M2) ∈ WS ∨ ∃ host : String, (mdO M, index, mdY M2, host) ∈ NWM) (hm : WMC M2) (hin : Cond.instanceMethod (mdY M2) ∈ WS) (hnm : (mdY M2).name = "<init>") (hr : mdR M2 = none) (hn : (parseMethodDescriptor (mdY M2).desc).map (fun d => d.parameters.length) = some av.length) (hR : ROK M M2) (h0 : (mdG M2).cells = mc2 ∧ (mdG M2).slots = ms2) (hcr : nc + mc2 ≤ (mdG M).cells ∧ ns + ms2 ≤ (mdG M).slots) (hws : ws = R ++ [(q, e2)]) (hst : st = av.reverse ++ .ref q :: rest) (hcat : (rest.map fun v => v.category).sum ≤ 8)
    (k : ∀ ws2, P2 G q ws2 → XS M G A p l e s m args below meth c Q (nc + mc2) (ns + ms2) (pc + 3) ls rest (R ++ ws2)) : XS M G A p l e s m args below meth c Q nc ns pc ls st ws := by
  subst hws
  subst hst
  intro H locs lsA hP hD hS hl
  have hts := C0.2.2.2.2.1
  have hown := C0.2.2.2.1
  have hKC := C0.2.2.2.2.2.1
  have hAge := C0.2.2.2.2.2.2
  have hsz : lsA.size = mdN M := lv_size hl
  obtain ⟨hPR, hPq⟩ := P_app.mp hP
  have hqA : A q := hD.2 R.length (q, e2) (by rw [List.getElem?_append_right (Nat.le_refl _), Nat.sub_self]; rfl)
  have hFA : ∀ x, FK q H.size x → A x := by
    rintro x (rfl | hx)
    · exact hqA
    · exact hAge x (Nat.le_trans hS.1 hx)
  have hpre : PreS s H (PcK G q H.size e2 av) (.ref q :: av) := ⟨PcK_blind, fun U hU hW => ⟨rfl, by rw [hU], by rw [hU]; exact hPq, hKC.warm hW⟩⟩
  have hcat2 : 2 * (F0 m pc lsA (av.reverse ++ .ref q :: rest)).monitorRoom + (rest.map fun v => v.category).sum ≤ 8 := lv_room hcat
  have run : va_Run p l e (mdG M) s m args below meth c H locs nc ns mc2 ms2 (F0 m pc lsA (av.reverse ++ .ref q :: rest)) rest (QcK G (FK q H.size) (P2 G q) (Value.ref q :: av).toArray) (FK q H.size) := by
    rcases hL with hL | ⟨host, hL⟩
    · have cb := callB_of (R := mdG M) (s := s) (args := args) av.length hts (good_wsM hm.2.1) rfl h0.1 h0.2 (hts _ hm.1) (hts _ hL) ⟨hm.2.2.1, hm.2.2.2, hn⟩ hR
      rw [hr] at cb
      exact va_runI (As := av) ⟨C0.1, C0.2.1, C0.2.2.1, hown, hts⟩ (hE l G q H.size) ⟨cb, hnm, hts _ hin⟩ hpre rfl rfl hsz rfl hcat2 d hcr
    · have cb := va_cnB (R := mdG M) (s := s) (args := args) (ret := mdR M2) av.length hts (good_wsM hm.2.1) rfl h0.1 h0.2 (hKC.2.1 _ hL) (hts _ hm.1) ⟨hm.2.2.1, hm.2.2.2, hn⟩ hR
      rw [hr] at cb
      exact va_runIN (As := av) ⟨C0.1, C0.2.1, C0.2.2.1, hown, hts⟩ (hE l G q H.size) ⟨cb, hnm, hts _ hin⟩ hpre rfl rfl hsz rfl hcat2 d hcr
  intro T hT X0
  obtain ⟨v, st₀, t, T', L, h0', X', hL', e1, e2', ⟨⟨ws2, hv, hp2, hw, hD2⟩, hF⟩, stp⟩ := run T hT X0
  cases hv
  obtain ⟨hz, hkp, hS1⟩ := vx_keep h0' e1 hS (fun x _ h => hFA x h) hFA hL' hF
  have hne : ∀ (k : Nat) (x : Nat × va_E), R[k]? = some x → x.1 < H.size ∧ x.1 ≠ q := fun k x hx => by
    refine ⟨vx_lt hPR hx, fun hq => ?_⟩
    obtain ⟨hkl, -⟩ := List.getElem?_eq_some_iff.mp hx
    have := hD.1 k R.length x (q, e2) (by rw [List.getElem?_append_left hkl]; exact hx) (by rw [List.getElem?_append_right (Nat.le_refl _), Nat.sub_self]; rfl) hq
    omega
  have hP2 : va_P G.1 vwCl (R ++ ws2) T'.heap := P_app.mpr ⟨P_cong hPR (fun k x hx => hkp _ (hne k x hx).1 (by
    rintro (h | h)
    · exact (hne k x hx).2 h
    · have := (hne k x hx).1; omega)), by rw [e1]; exact hw⟩
  have hDR : va_D A R := ⟨fun i j a b ha hb => hD.1 i j a b (by obtain ⟨h, -⟩ := List.getElem?_eq_some_iff.mp ha; rw [List.getElem?_append_left h]; exact ha) (by obtain ⟨h, -⟩ := List.getElem?_eq_some_iff.mp hb; rw [List.getElem?_append_left h]; exact hb), fun i a ha => hD.2 i a (by obtain ⟨h, -⟩ := List.getElem?_eq_some_iff.mp ha; rw [List.getElem?_append_left h]; exact ha)⟩
  have hDD : va_D A (R ++ ws2) := hDR.app (hD2.weaken (fun _ x _ h => hFA x.1 h)) (fun i j a b ha hb hab => by
    have h1 := hne i a ha
    rcases hD2.2 j b hb with h2 | h2
    · exact h1.2 (hab.trans h2)
    · rw [← hab] at h2; omega)
  have hk := k ws2 hp2 T'.heap (locs ++ L) lsA hP2 hDD hS1 hl
  obtain ⟨t2, a1, b1⟩ := hk T' rfl X'
  exact ⟨t2, stp t2 a1, b1⟩
end SS
theorem kz_i : Cond.instantiable "LampMural" 5 ∈ WS := mW 50 (by decide +kernel) (by decide +kernel)
theorem kz_c : Cond.classLink "LampMuralLaw" 10 "LampMural" ∈ WS := mW 49 (by decide +kernel) (by decide +kernel)
theorem kz_m : Cond.instanceMethod ⟨"LampMural", "<init>", "()V"⟩ ∈ WS := mW 52 (by decide +kernel) (by decide +kernel)
theorem kz_j : Cond.arrayClass FieldType.long ∈ WS := mW 1118 (by decide +kernel) (by decide +kernel)
theorem ZL_gl {w : (Option Value → Prop) ⊕ Unit} {M : MD} {gl gl2 : GLT} {A : Nat → Prop} {below : List Frame} {args : Array Value} {s : State} : ZL (.inr w) M gl A below args s = ZL (.inr w) M gl2 A below args s := by cases w <;> rfl
/-- new LampMural() -/
theorem L_newC {w : (Option Value → Prop) ⊕ Unit} {sc : SCT} {M : MD} {HH : List (Nat × Nat × Nat × Nat)} {nc ns ik ic : Nat} {ls : List (Nat × Value)} {ω : WDt} (pc : Nat) (d0 : decode (mdB M) pc = .ok (.new ik, 3)) (d3 : decode (mdB M) (pc + 3) = .ok (.dup, 1)) (d4 : decode (mdB M) (pc + 4) = .ok (.invokespecial ic, 3)) (hk : Cond.classLink (mdO M) ik RX6 ∈ WS) (hL : Cond.methodLink (mdO M) ic (mdY mX6_init) ∈ WS) (hR : ROK M mX6_init) (hc : nc + 110 ≤ (mdG M).cells ∧ ns + 7002 ≤ (mdG M).slots) (hls : ∀ (a : Nat → Nat) (gl : GLT), lm (adL gl) ls = lm (adL (a, gl.2)) ls)
    (k : ∀ f : Nat → Int64, XL (.inr w) sc 1 M HH (nc + 110) (ns + 7002) (pc + 7) ls [.ref 109] (V0, f)) : XL (.inr w) sc 0 M HH nc ns pc ls [] ω := by
  intro p l e s m args below meth c H locs gl A lsA C0 hP hS hl
  have hts := C0.2.2.2.2.1
  have hFA := C0.2.2.2.2.2.2.2.2.2.2.2.1
  have hAge := C0.2.2.2.2.2.2.2.2.2.2.1
  have C : CS M gl.2.1.1 A p s m args c := ⟨C0.1, C0.2.1, C0.2.2.1, C0.2.2.2.1, hts, hFA.1, hAge⟩
  have key : XS M gl.2.1.1 A p l e s m args below meth c (ZL (.inr w) M gl A below args s) nc ns pc (lm (adL gl) ls) [] [] := by
    refine S_new pc tyX6 [.null, .null, .null, .null, .null] C d0 iw6 tyX6_ok hk kz_i wmi_6.1 vc6 df_6 ⟨by omega, by omega⟩ fun q6 => ?_
    refine S_dup (pc + 3) C d3 ?_
    refine S_call (av := []) (pc + 4) C k_X6_init d4 (Or.inl hL) wmi_6 kz_m rfl rfl hnd_V hR ⟨rfl, rfl⟩ ⟨by omega, by omega⟩ rfl rfl (Nat.le_of_ble_eq_true rfl) ?_
    rintro _ ⟨a6, rfl, rfl⟩
    intro H2 locs2 lsA2 hP2 hD2 hS2 hl2
    rw [ZL_gl (gl2 := (adC a6 gl.2.1.2.2, gl.2))]
    have hP3 : va_P gl.2.1.1.1 vwCl (WX6 gl.2.1.1 a6) H2 := hP2
    have hD3 : va_D A (WX6 gl.2.1.1 a6) := hD2
    have hW : WPL 1 (adC a6 gl.2.1.2.2, gl.2) (V0, fun _ => 0) H2 := W_C hP3
    exact k (fun _ => 0) p l e s m args below meth c H2 locs2 (adC a6 gl.2.1.2.2, gl.2) A lsA2 ⟨C0.1, C0.2.1, C0.2.2.1, C0.2.2.2.1, hts, C0.2.2.2.2.2.1, C0.2.2.2.2.2.2.1, C0.2.2.2.2.2.2.2.1, C0.2.2.2.2.2.2.2.2.1, ⟨fun _ => ⟨AD_C hD3, fun q hq => adC_hi q hq⟩, fun h => absurd h (by decide)⟩, hAge, hFA, C0.2.2.2.2.2.2.2.2.2.2.2.2.1, C0.2.2.2.2.2.2.2.2.2.2.2.2.2⟩ hW hS2 (by rw [← hls (adC a6 gl.2.1.2.2) gl]; exact hl2)
  exact key H locs lsA (fun k q h => by cases h) ⟨fun i j p q h => (by cases h), fun k q h => (by cases h)⟩ hS hl
/-- new long[32] -/
theorem L_newl {w : (Option Value → Prop) ⊕ Unit} {sc : SCT} {M : MD} {HH : List (Nat × Nat × Nat × Nat)} {nc ns : Nat} {ls : List (Nat × Value)} {ω : WDt} (pc : Nat) (d : decode (mdB M) pc = .ok (.newarray .long, 2)) (hc : nc + 1 ≤ (mdG M).cells ∧ ns + 32 ≤ (mdG M).slots) (hls : ∀ (q : Nat) (gl : GLT), lm (adL gl) ls = lm (adL (gl.1, gl.2.1, q, gl.2.2.2)) ls)
    (k : XL (.inr w) sc 2 M HH (nc + 1) (ns + 32) (pc + 2) ls [.ref 2] (ω.1, fun _ => 0)) : XL (.inr w) sc 1 M HH nc ns pc ls [.int 32] ω := by
  intro p l e s m args below meth c H locs gl A lsA C0 hP hS hl
  have hts := C0.2.2.2.2.1
  have hFA := C0.2.2.2.2.2.2.2.2.2.2.2.1
  have hAge := C0.2.2.2.2.2.2.2.2.2.2.1
  have hD := C0.2.2.2.2.2.2.2.2.2.1.1 (Nat.le_refl 1)
  have hP1 : va_P gl.2.1.1.1 vwCl (wO (ggL gl) ΛC ω.1) H := hP
  refine va_newa (atype := .long) (N' := 32) (a0 := (32, .inr (.inl (fun _ => 0)))) C0.1 C0.2.1 (hts _ kz_j) (ty := .long) rfl hFA.1.1 hP1 (AD_D hD.1 ω.1) hS hAge (fun _ => rfl) (by decide) (by decide) (by decide) hc.1 hc.2 d fun q cA H1 hK1 hP2 hD2 hS2 => ?_
  have h1 : s.vm.findClass ("[" ++ FieldType.long.toString) = some cA := (hK1.2 2 (cA, .long) rfl).2
  have h2 : s.vm.findClass ("[" ++ FieldType.long.toString) = some gl.2.1.2.1 := (hFA.2.1.2 0 (gl.2.1.2.1, .long) rfl).2
  have hce : cA = gl.2.1.2.1 := Option.some.inj (h1.symm.trans h2)
  subst hce
  rw [ZL_gl (gl2 := (gl.1, gl.2.1, q, gl.2.2.2))]
  have hl110 : (wO (ggL gl) ΛC ω.1).length = 110 := by rw [wO_len, lenC]
  have hq : (wO (ggL gl) ΛC ω.1 ++ [(q, (.inl (gl.2.1.2.1, 32, .inr (.inl (fun _ => 0))) : va_E))])[110]? = some (q, .inl (gl.2.1.2.1, 32, .inr (.inl (fun _ => 0)))) := by
    rw [List.getElem?_append_right (by omega), hl110]; rfl
  have hW : WPL 2 (gl.1, gl.2.1, q, gl.2.2.2) (ω.1, fun _ => 0) H1 := hP2
  refine k p l e s m args below meth c H1 locs (gl.1, gl.2.1, q, gl.2.2.2) A lsA ⟨C0.1, C0.2.1, C0.2.2.1, C0.2.2.2.1, hts, C0.2.2.2.2.2.1, C0.2.2.2.2.2.2.1, C0.2.2.2.2.2.2.2.1, C0.2.2.2.2.2.2.2.2.1, ⟨fun _ => hD, fun _ => ⟨hD2.2 110 _ hq, fun i hi hiq => ?_⟩⟩, hAge, hFA, C0.2.2.2.2.2.2.2.2.2.2.2.2.1, C0.2.2.2.2.2.2.2.2.2.2.2.2.2⟩ hW hS2 (by rw [← hls q gl]; exact hl)
  rw [lenC] at hi
  obtain ⟨e0, he⟩ := wO_some (ggL gl) ΛC ω.1 (k := i) (by rw [lenC]; exact hi)
  have := hD2.1 i 110 _ _ (by rw [List.getElem?_append_left (by omega)]; exact he) hq hiq
  omega
section LRW
variable {who : WHO} {sc : SCT} {n : Nat} {M : MD} {HH : List (Nat × Nat × Nat × Nat)} {nc ns : Nat} {ls : List (Nat × Value)} {st : List Value} {ω : WDt}
theorem WL_at {gl : GLT} {ω : WDt} : (WL 2 gl ω)[110]? = some (gl.2.2.1, .inl (gl.2.1.2.1, 32, .inr (.inl ω.2))) := by
  rw [WL_2 (n := 0), List.getElem?_append_right (by rw [wO_len, lenC]; omega), wO_len, lenC]; rfl
theorem L_laload {i : Nat} (pc : Nat) (d : decode (mdB M) pc = .ok (.laload, 1)) (hi : i < 32) (k : XL who sc 2 M HH nc ns (pc + 1) ls (.long (ω.2 i) :: st) ω) : XL who sc 2 M HH nc ns pc ls (.int (nI i) :: .ref 2 :: st) ω := by
  intro p l e s m args below meth c H locs gl A lsA C0 hP hS hl
  refine va_lald C0.1 C0.2.1 C0.2.2.2.2.2.2.2.2.2.2.2.1.2.1 hP 110 0 (a := gl.2.2.1) (f := ω.2) (n := 32) WL_at rfl (vp_in_nI hi (by decide)) d ?_
  rw [nI_clamp (by omega)]
  exact k p l e s m args below meth c H locs gl A lsA C0 hP hS hl
theorem L_lastore {i : Nat} {v : Int64} (pc : Nat) (d : decode (mdB M) pc = .ok (.lastore, 1)) (hi : i < 32) (k : ∀ f : Nat → Int64, f i = v → (∀ j, j ≠ i → f j = ω.2 j) → XL who sc 2 M HH nc ns (pc + 1) ls st (ω.1, f)) : XL who sc 2 M HH nc ns pc ls (.long v :: .int (nI i) :: .ref 2 :: st) ω := by
  intro p l e s m args below meth c H locs gl A lsA C0 hP hS hl
  have hDL := C0.2.2.2.2.2.2.2.2.2.1
  have hlen : (wO (ggL gl) ΛC ω.1).length = 110 := by rw [wO_len, lenC]
  have hDD : va_D A (WL 2 gl ω) := by
    rw [WL_2 (n := 0)]
    refine (AD_D (hDL.1 (by decide)).1 ω.1).app ⟨fun i j p q hi hj _ => ?_, fun k q hk => ?_⟩ (fun i j p q hi hj hpq => ?_)
    · obtain ⟨a, -⟩ := List.getElem?_eq_some_iff.mp hi
      obtain ⟨b, -⟩ := List.getElem?_eq_some_iff.mp hj
      simp at a b; omega
    · obtain ⟨a, e9⟩ := List.getElem?_eq_some_iff.mp hk
      simp at a
      subst a
      rw [← e9]; exact (hDL.2 (by decide)).1
    · obtain ⟨a, ea⟩ := wO_fst hi
      obtain ⟨b, eb⟩ := List.getElem?_eq_some_iff.mp hj
      simp at b
      subst b
      rw [ea, ← eb] at hpq
      exact (hDL.2 (by decide)).2 i a hpq
  refine va_last C0.1 C0.2.1 C0.2.2.2.2.2.2.2.2.2.2.2.1.2.1 hP hDD hS 110 0 (a := gl.2.2.1) (f := ω.2) (n := 32) WL_at rfl (vp_in_nI hi (by decide)) d (fun H1 locs1 hP1 _ hS1 => ?_)
  rw [nI_clamp (by omega)] at hP1
  refine k (vp_updL ω.2 i v) (if_pos rfl) (fun j hj => if_neg hj) p l e s m args below meth c H1 locs1 gl A lsA C0 ?_ hS1 hl
  have e2 : (WL 2 gl ω).set 110 (gl.2.2.1, .inl (gl.2.1.2.1, 32, .inr (.inl (vp_updL ω.2 i v)))) = WL 2 gl (ω.1, vp_updL ω.2 i v) := by
    rw [WL_2 (n := 0), WL_2 (n := 0), List.set_append_right _ _ (by omega), hlen]; rfl
  unfold WPL
  rw [← e2]; exact hP1
end LRW
