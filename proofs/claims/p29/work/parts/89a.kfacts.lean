/-! what holds at the start, of the machine's state -/
theorem arr_int {args : Array Value} {s : State} (h : (Cond.arrayClass .int).before args s = true) : ∃ c : ClassId, (ArrOfT s c .int ∧ va_RA s c .int) ∧ s.vm.findClass ("[" ++ (newarray.typeOf .int).toString) = some c := by
  obtain ⟨c, k, comp, h1, h2, h3⟩ := Cond.arrayClass_spec (args := args) (first := s) (o := none) (s := s) (idx := []) h
  exact ⟨c, ⟨fun n z => ⟨fun k h => (by cases h), k, h2, comp, h3⟩, h1⟩, h1⟩
theorem arr_long {args : Array Value} {s : State} (h : (Cond.arrayClass .long).before args s = true) : ∃ c : ClassId, (ArrOfT s c .long ∧ va_RA s c .long) := by
  obtain ⟨c, k, comp, h1, h2, h3⟩ := Cond.arrayClass_spec (args := args) (first := s) (o := none) (s := s) (idx := []) h
  exact ⟨c, ⟨fun n z => ⟨fun k h => (by cases h), k, h2, comp, h3⟩, h1⟩⟩
theorem arr_obj {args : Array Value} {s : State} {C : String} (h : (Cond.arrayOver (.object C)).before args s = true) : ∃ c : ClassId, (ArrOfT s c (.object C) ∧ va_RA s c (.object C)) ∧ s.vm.findClass ("[" ++ (FieldType.object C).toString) = some c := by
  obtain ⟨comp, c, k, h1, h2, h3, h4, h5⟩ := Cond.arrayOver_spec (args := args) (first := s) (o := none) (s := s) (idx := []) h
  exact ⟨c, ⟨fun n z => ⟨fun k h => (by cases h), k, h3, comp, h4⟩, ⟨k, comp, h3, h4, h1, h5⟩⟩, h5⟩
/-- the classes -/
theorem st_K {args : Array Value} {s : State} (hts : ∀ w ∈ WS, w.before args s = true) (hO : (Cond.arrayOver (.object "LampMural$Scene")).before args s = true) : ∃ (G : G3) (cj : ClassId), va_K G.1 vwCl [(G.2.1, .int), (G.2.2, .object "LampMural$Scene")] s ∧ va_K G.1 vwCl [(cj, .long)] s ∧ s.vm.findClass ("[" ++ (newarray.typeOf .int).toString) = some G.2.1 ∧ s.vm.findClass ("[" ++ (FieldType.object "LampMural$Scene").toString) = some G.2.2 := by
  obtain ⟨c0, i0, k0⟩ := u_known hts iw0 (hts _ kn_220)
  obtain ⟨c1, i1, k1⟩ := u_known hts iw1 (hts _ kn_140)
  obtain ⟨c2, i2, k2⟩ := u_known hts iw2 (hts _ kn_200)
  obtain ⟨c3, i3, k3⟩ := u_known hts iw3 (hts _ kn_64)
  obtain ⟨c4, i4, k4⟩ := u_known hts iw4 (hts _ kn_58)
  obtain ⟨c5, i5, k5⟩ := u_known hts iw5 (hts _ kn_134)
  obtain ⟨c6, i6, k6⟩ := u_known hts iw6 (hts _ kz_i)
  obtain ⟨cI, hI, nI'⟩ := arr_int (hts _ kn_73)
  obtain ⟨cJ, hJ⟩ := arr_long (hts _ kz_j)
  obtain ⟨cS, hS, nS⟩ := arr_obj hO
  have hcl : ∀ (c : Nat) (q : vw_C), vwCl[c]? = some q → u_Kn s q.1 q.2.1 q.2.2 (([c0, c1, c2, c3, c4, c5, c6] : List ClassId).getD c c0) (([i0, i1, i2, i3, i4, i5, i6] : List (Nat → Nat)).getD c i0) := by
    intro c q hc
    match c, hc with
    | 0, hc => cases hc; exact k0
    | 1, hc => cases hc; exact k1
    | 2, hc => cases hc; exact k2
    | 3, hc => cases hc; exact k3
    | 4, hc => cases hc; exact k4
    | 5, hc => cases hc; exact k5
    | 6, hc => cases hc; exact k6
    | c + 7, hc => cases hc
  refine ⟨((fun c => ([c0, c1, c2, c3, c4, c5, c6] : List ClassId).getD c c0, fun c => ([i0, i1, i2, i3, i4, i5, i6] : List (Nat → Nat)).getD c i0), cI, cS), cJ, ⟨hcl, fun k q hk => ?_⟩, ⟨hcl, fun k q hk => ?_⟩, nI', nS⟩
  · match k, hk with
    | 0, hk => cases hk; exact hI
    | 1, hk => cases hk; exact hS
    | k + 2, hk => cases hk
  · match k, hk with
    | 0, hk => cases hk; exact hJ
    | k + 1, hk => cases hk
theorem tb_F : ∀ q ∈ NWF, Cond.fieldLinkNest q.1 q.2.1 q.2.2.1 q.2.2.2.1 q.2.2.2.2.1 q.2.2.2.2.2 ∈ lw_tbl := by decide +kernel
theorem tb_M : ∀ q ∈ NWM, Cond.methodLinkNest q.1 q.2.1 q.2.2.1 q.2.2.2 ∈ lw_tbl := by decide +kernel
theorem tb_S : ∀ q ∈ STR, Cond.stringRef q.1 q.2.1 q.2.2.1 ∈ lw_tbl := by decide +kernel
theorem tb_C : ∀ E ∈ EXC, Cond.castable E E ∈ lw_tbl := by decide +kernel
theorem tb_D : ∀ x ∈ DCL, Cond.declares x ∈ lw_tbl := by decide +kernel
