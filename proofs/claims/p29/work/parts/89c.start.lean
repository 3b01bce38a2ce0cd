theorem whole_start {p : Program} {e : Env} {s : State} {m : MethodId} {below : List Frame} {meth : Method} {c : Code} (l : Launch) (hflags : l.flags = flags0) {b L : Nat} {xs : Nat → Int32} (hL : L ≤ 260) (C0 : lw_At p s m meth c b L xs) : W p l e room_1 s m #[Value.ref b] below meth c s.heap [] 0 0 (lw_Z below #[Value.ref b] s) (entryFrame m ([Value.ref b] : List Value).toArray 12) := by
  obtain ⟨hx, hb, hr, hml, hown, hts, hX, hbl, hlk, hgv⟩ := C0
  have hst : l.stackTraces = false := by
    unfold Launch.stackTraces
    rw [hflags]
    decide +kernel
  obtain ⟨A, hAd⟩ : ∃ A : Nat → Prop, A = fun q => s.heap.size ≤ q := ⟨_, rfl⟩
  have hA1 : ∀ q, A q → s.heap.size ≤ q := fun q h => by rw [hAd] at h; exact h
  have hA2 : ∀ q, s.heap.size ≤ q → A q := fun q h => by rw [hAd]; exact h
  have hA : ∀ a : Nat, a < s.heap.size → ¬ A a := fun a h q => Nat.not_le.mpr h (hA1 a q)
  have hg : ∀ c ∈ flG, c.before #[Value.ref b] s = true := flat_of_before _ hgv
  obtain ⟨G, cj, u, hKC, hJ, hSF, hn1, hn2⟩ := st_SF (A := A) hts hg hA
  have hWS : ∀ w ∈ WS, w.before #[Value.ref b] s = true := fun w hw => hts w (List.mem_filter.mp hw).1
  have key := law_0 (sc := (L, xs)) hL (fun _ _ => 0, fun _ => 0) p l e s m #[Value.ref b] below meth c s.heap [] (u, (G, cj, u), 0, b, L, xs) A _ ⟨hx, hb, hml, hown, hWS, hr, hlk, fun h => absurd (show true = false from h) (by decide), hst, ⟨fun h => absurd h (by decide), fun h => absurd h (by decide)⟩, hA2, ⟨hKC, hJ, hSF, hn1, hn2⟩, fun r hr2 => by cases hr2; exact ⟨rfl, hX, hbl, hA b hbl⟩, fun _ => ⟨rfl, hA1⟩⟩ (fun k q h => by cases h) va_S.rf (lv_entry [Value.ref b] (n := 12) (Nat.le_of_ble_eq_true rfl))
  rw [lg_entry_eq]
  exact key
