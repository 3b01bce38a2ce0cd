theorem va_P_kept {D : va_G} {cl : List vw_C} {ws : va_W} {H H1 : Heap} (h : va_P D cl ws H) (hk : ∀ q : Nat, q < H.size → H1[q]? = H[q]?) : va_P D cl ws H1 := fun k q hq => (h k q hq).kept (hk q.1 (h k q hq).lt)
/-- 'throw new E("text")' by a wide index, in a method without a table -/
theorem X_throwSW {Λ : List LE} {M : MD} {Q : Rs → Mm → Prop} {ls : List (Nat × Value)} {μ : Mm} {cls text : String} {names : List String} {ik is ic si : Nat} (pc : Nat)
    (d0 : decode (mdB M) pc = .ok (.new ik, 3)) (d3 : decode (mdB M) (pc + 3) = .ok (.dup, 1)) (d4 : decode (mdB M) (pc + 4) = .ok (.ldc_w is, 3)) (d7 : decode (mdB M) (pc + 7) = .ok (.invokespecial ic, 3)) (d10 : decode (mdB M) (pc + 10) = .ok (.athrow, 1))
    (hcls : Bundle.fit cls = true) (hnames : ∀ n ∈ names, Bundle.fit n = true) (hk : Cond.classLink (mdO M) ik cls ∈ WS) (hini : Cond.initialized cls ∈ WS) (hstr : (mdO M, is, text, si) ∈ STR)
    (hg1 : ∀ w ∈ (vx_atS (mdO M) ic cls names).filter goodWord, w ∈ WS) (hg2 : ∀ w ∈ (vx_atS (mdO M) ic cls names).filter (fun w => !goodWord w), w ∈ (Cond.castable cls cls :: DCL.map Cond.declares)) (hE : cls ∈ EXC)
    (hgood : ∀ w ∈ Cond.classLink (mdO M) ik cls :: Cond.initialized cls :: vx_atS (mdO M) ic cls names, vx_ot w = true)
    (hR : names.length + 3 < (mdG M).frames ∧ 13 * (names.length + 1) + 43 ≤ (mdG M).locals ∧ 1 ≤ (mdG M).cells ∧ 6 ≤ (mdG M).slots) (hQ : Q (.inr cls) μ) : X true Λ M Q pc ls [] μ := by
  intro p l e s m args below meth c H locs g A lsA C0 hP hS hl
  have hF := C0.2.2.2.2.2.2.2.2.2.2.2
  have hts := C0.2.2.2.2.1
  have hcast : ∀ w ∈ (Cond.castable cls cls :: DCL.map Cond.declares), w.before args s = true := by
    intro w hw
    rcases List.mem_cons.mp hw with rfl | hw
    · exact va_Nw.use rfl (hF.2.2.2.2.1.1 cls hE)
    · obtain ⟨x, hx, rfl⟩ := List.mem_map.mp hw
      exact va_Nw.use rfl (hF.2.2.2.2.1.2 x hx)
  refine vx_throwSW (A := A) C0.1 C0.2.1 C0.2.2.2.2.2.2.2.2.1 C0.2.2.2.1 hcls hnames (hts _ hk) (hts _ hini) (hF.2.2.2.1 _ hstr) (vx_hat (fun w hw => hts _ (hg1 w hw)) hg2 hcast) hgood hF.2.2.2.2.2.2.1 hF.2.2.2.2.2.2.2.1 hS (by rw [lv_size hl]; exact C0.2.2.1.symm) d0 d3 d4 d7 d10
    (fun x hx => ((C0.2.2.2.2.2.2.2.1 rfl) x hx).elim) hR.1 (by simpa using hR.2.1) (by omega) (by omega) C0.2.2.2.2.2.2.1 (fun t ha hz hk2 => ⟨⟨μ, hQ, va_P_kept hP hk2⟩, Nat.le_trans hS.1 hz, fun q h1 h2 => ?_⟩) hS.2.2 (by omega) (by omega)
  rw [hk2 q (Nat.lt_of_lt_of_le h1 hS.1)]
  exact hS.2.1 q h1 h2
