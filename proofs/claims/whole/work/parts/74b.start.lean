theorem kn_102 : Cond.classLink "LampMuralLaw" 8 "LampMural" ∈ WS := mW 102 (by decide +kernel) (by decide +kernel)
theorem kn_103 : Cond.instantiable "LampMural" 5 ∈ WS := mW 103 (by decide +kernel) (by decide +kernel)
theorem kn_104 : Cond.methodLink "LampMuralLaw" 88 ⟨"LampMural", "<init>", "()V"⟩ ∈ WS := mW 104 (by decide +kernel) (by decide +kernel)
theorem kn_105 : Cond.instanceMethod ⟨"LampMural", "<init>", "()V"⟩ ∈ WS := mW 105 (by decide +kernel) (by decide +kernel)
theorem kn_1081 : Cond.classLink "LampMuralLaw" 89 "LampMuralModel" ∈ WS := mW 1081 (by decide +kernel) (by decide +kernel)
theorem kn_1082 : Cond.instantiable "LampMuralModel" 23 ∈ WS := mW 1082 (by decide +kernel) (by decide +kernel)
theorem kn_1083 : Cond.methodLink "LampMuralLaw" 91 ⟨"LampMuralModel", "<init>", "()V"⟩ ∈ WS := mW 1083 (by decide +kernel) (by decide +kernel)
theorem kn_1084 : Cond.instanceMethod ⟨"LampMuralModel", "<init>", "()V"⟩ ∈ WS := mW 1084 (by decide +kernel) (by decide +kernel)
theorem adC_hi {a u : Nat → Nat} (k : Nat) (h : 1000 ≤ k) : adC a u k = u k := by
  unfold adC
  have e : Nat.blt k 1000 = false := by
    cases e : Nat.blt k 1000 with
    | false => rfl
    | true => exact absurd (Nat.le_of_ble_eq_true e) (by omega)
  rw [e]
  rfl
theorem adM_hi {a u : Nat → Nat} (k : Nat) (h : 1000 ≤ k) : adM a u k = u k := by
  unfold adM
  have e : Nat.blt k 1000 = false := by
    cases e : Nat.blt k 1000 with
    | false => rfl
    | true => exact absurd (Nat.le_of_ble_eq_true e) (by omega)
  rw [e]
  rfl
theorem loop_at {L : Nat} {xs : Nat → Int32} (hL : L ≤ 3072) : XL (.inr (L, xs)) mLaw [] 120 10121 23 [(4, .int (nI 0)), (3, .ref 2), (2, .ref 1), (1, .ref 0), (0, .ref 3)] [] (V0, μ0, fun _ => 0) := by
  have h := law_loop (sc := (L, xs)) (HH := []) (c0 := 120) (s0 := 10121) hL (by omega) (by omega) (L + 1) 0 (V0, μ0, fun _ => 0) REL00 (by omega) (by show L < 6 * 0 + (L + 1); omega)
  exact L_sub [4, 3, 2, 1, 0] _ rfl h
theorem whole_start {p : Program} {e : Env} {s : State} {m : MethodId} {below : List Frame} {meth : Method} {c : Code} (l : Launch) (hflags : l.flags = flags0) {b L : Nat} {xs : Nat → Int32} (hL : L ≤ 3072) (C0 : lw_At p s m meth c b L xs) : W p l e room_1 s m #[Value.ref b] below meth c s.heap [] 0 0 (lw_Z below #[Value.ref b] s) (entryFrame m ([Value.ref b] : List Value).toArray 7) := by
  obtain ⟨hx, hb, hr, hml, hown, hts, hX, hbl, hlk, hgv⟩ := C0
  have hst : l.stackTraces = false := by
    unfold Launch.stackTraces
    rw [hflags]
    decide +kernel
  obtain ⟨A, hAd⟩ : ∃ A : Nat → Prop, A = fun q => s.heap.size ≤ q := ⟨_, rfl⟩
  have hA1 : ∀ q, A q → s.heap.size ≤ q := fun q h => by rw [hAd] at h; exact h
  have hA2 : ∀ q, s.heap.size ≤ q → A q := fun q h => by rw [hAd]; exact h
  have hA : ∀ a : Nat, a < s.heap.size → ¬ A a := fun a h q => Nat.not_le.mpr h (hA1 a q)
  have hg : ∀ c ∈ flG, c.before #[Value.ref b] s = true := flat_of_before _ hgv
  obtain ⟨G, cj, u, hKC, hJ, hSF, hn1, hn2⟩ := st_SF (A := A) hts hg hA
  have hWS : ∀ w ∈ WS, w.before #[Value.ref b] s = true := fun w hw => hts w (List.mem_filter.mp hw).1
  have C : CS G A p s m #[Value.ref b] c := ⟨hx, hb, hml, hown, hWS, hKC, hA2⟩
  have key : XS G A p l e s m #[Value.ref b] below meth c (lw_Z below #[Value.ref b] s) 0 0 0 [(0, .ref b)] [] [] := by
    refine S_new 0 tyX6 [.null, .null, .null, .null, .null] C dL_law_0 iw6 tyX6_ok kn_102 kn_103 wmi_6.1 vc6 df_6 ⟨Nat.le_of_ble_eq_true rfl, Nat.le_of_ble_eq_true rfl⟩ fun q6 => ?_
    refine S_dup 3 C dL_law_3 ?_
    refine S_call (av := []) 4 C k_X6_init dL_law_4 (Or.inl kn_104) wmi_6 kn_105 rfl rfl hnd_V ⟨Nat.le_of_ble_eq_true rfl, Nat.le_of_ble_eq_true rfl⟩ ⟨rfl, rfl⟩ ⟨Nat.le_of_ble_eq_true rfl, Nat.le_of_ble_eq_true rfl⟩ rfl rfl (Nat.le_of_ble_eq_true rfl) ?_
    rintro _ ⟨a6, rfl, rfl⟩
    refine S_astore_n 7 C dL_law_7 rfl (by decide) rfl ?_
    refine S_new 8 tyX7 _ C dL_law_8 iw7 tyX7_ok kn_1081 kn_1082 wmi_7.1 vc7 df_7 ⟨Nat.le_of_ble_eq_true rfl, Nat.le_of_ble_eq_true rfl⟩ fun q7 => ?_
    refine S_dup 11 C dL_law_11 ?_
    refine S_call (av := []) 12 C k_X7_init dL_law_12 (Or.inl kn_1083) wmi_7 kn_1084 rfl rfl hnd_V ⟨Nat.le_of_ble_eq_true rfl, Nat.le_of_ble_eq_true rfl⟩ ⟨rfl, rfl⟩ ⟨Nat.le_of_ble_eq_true rfl, Nat.le_of_ble_eq_true rfl⟩ rfl rfl (Nat.le_of_ble_eq_true rfl) ?_
    rintro _ ⟨a7, rfl, rfl⟩
    refine S_astore_n 15 C dL_law_15 rfl (by decide) rfl ?_
    refine S_iconst 16 1 C dL_law_16 (by decide) ?_
    refine S_newl 17 C hJ dL_law_17 ⟨Nat.le_of_ble_eq_true rfl, Nat.le_of_ble_eq_true rfl⟩ fun q => ?_
    refine S_astore_n 19 C dL_law_19 rfl (by decide) rfl ?_
    refine S_iconst 20 (nI 0) C dL_law_20 (by decide) ?_
    refine S_istore 21 C dL_law_21 (by decide) rfl ?_
    intro H locs lsA hP hD hS hl
    have hP2 : va_P G.1 vwCl ((WX6 G a6 ++ WX7 G a7) ++ [(q, outE cj (fun _ => 0))]) H := hP
    have hD2 : va_D A ((WX6 G a6 ++ WX7 G a7) ++ [(q, outE cj (fun _ => 0))]) := hD
    exact loop_at (xs := xs) hL p l e s m #[Value.ref b] below meth c H locs (ggC G a6 u, ggM G a7 u, q, cj, b, L, xs) A lsA
      ⟨hx, hb, hml, hown, hWS, hr, hlk, fun h => (by cases h), hst, DL_00 hD2, hA2, ⟨hSF _ adC_hi, hSF _ adM_hi, hJ, hn1, hn2⟩, fun r hr => by cases hr; exact ⟨rfl, hX, hbl, hA b hbl, hA1⟩⟩
      (WPL_00 hP2) hS hl
  rw [lg_entry_eq]
  exact key s.heap [] _ (fun k q h => by cases h) ⟨fun i j p q h => (by cases h), fun k q h => (by cases h)⟩ va_S.rf (lv_entry [Value.ref b] (n := 7) (Nat.le_of_ble_eq_true rfl))
