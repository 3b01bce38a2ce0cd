def flG : List Cond := flatC (Jvm.Cond.and given_1 narrow_1)
def tmS (i : Nat) : Term := Term.string (STR.getD i ("", 0, "", 0)).1 (STR.getD i ("", 0, "", 0)).2.1
theorem fs_ex : ∀ i, i < nST → Cond.exactly (tmS i) "java/lang/String" ∈ flG := by decide +kernel
theorem fs_co : ∀ i, i < nST → Cond.eq (.field (tmS i) "java/lang/String" "coder" "B") (.int 0) ∈ flG := by decide +kernel
theorem fs_ar : ∀ i, i < nST → Cond.arrayOf (.field (tmS i) "java/lang/String" "value" "[B") .byte ∈ flG := by decide +kernel
theorem fs_le : ∀ i, i < nST → Cond.eq (.length (.field (tmS i) "java/lang/String" "value" "[B")) (.int (Int32.ofNat (lnST.getD i 0))) ∈ flG := by decide +kernel
def elS (i j : Nat) : Cond := Cond.eq (.elem (.field (tmS i) "java/lang/String" "value" "[B") (.int (Int32.ofNat j))) (.int ((byST.getD i []).getD j 0))
def posS : List Nat := [163, 174, 187, 200, 216, 232, 248, 265, 38, 69, 112]
theorem fs_el0 : ∀ i, i < nST → (flG.drop (posS.getD i 0 + 4)).take (lnST.getD i 0) = (List.range (lnST.getD i 0)).map (elS i) := by decide +kernel
theorem fs_el (i : Nat) (hi : i < nST) (j : Nat) (hj : j < lnST.getD i 0) : elS i j ∈ flG := by
  have h : elS i j ∈ (List.range (lnST.getD i 0)).map (elS i) := List.mem_map_of_mem (List.mem_range.mpr hj)
  rw [← fs_el0 i hi] at h
  exact List.mem_of_mem_drop (List.mem_of_mem_take h)
theorem fs_ne : ∀ i, i < nST → ∀ j, j < nST → i ≠ j → Cond.not (Cond.eq (tmS i) (tmS j)) ∈ flG ∨ Cond.not (Cond.eq (tmS j) (tmS i)) ∈ flG := by decide +kernel
theorem fs_ln : ∀ i, i < nST → lnST.getD i 0 < 2 ^ 31 := by decide +kernel
theorem fs_st : ∀ q ∈ STR, q.2.2.2 < nST ∧ tmS q.2.2.2 = Term.string q.1 q.2.1 := by decide +kernel
theorem fg_u : Cond.isRef (.static Bundle.tN "UNASSIGNED_STACK" Bundle.steD) ∈ flG := by decide +kernel
theorem fg_n : Cond.isRef (.static Bundle.tN "SUPPRESSED_SENTINEL" Bundle.listD) ∈ flG := by decide +kernel
theorem fg_c : Cond.eq (.static "java/lang/String" "COMPACT_STRINGS" "Z") (.int 1) ∈ flG := by decide +kernel
theorem fg_p : Cond.isRef (.static "jdk/internal/util/Preconditions" "SIOOBE_FORMATTER" sfS) ∈ flG := by decide +kernel
theorem fg_a : Cond.not (.castable "java/lang/IllegalArgumentException" "java/lang/IndexOutOfBoundsException") ∈ flG := by decide +kernel
theorem fg_s : Cond.not (.castable "java/lang/IllegalStateException" "java/lang/IllegalArgumentException") ∈ flG := by decide +kernel
theorem tb_l1 : Cond.laysStatic Bundle.tN "UNASSIGNED_STACK" Bundle.steD ∈ lw_tbl := by decide +kernel
theorem tb_l2 : Cond.laysStatic Bundle.tN "SUPPRESSED_SENTINEL" Bundle.listD ∈ lw_tbl := by decide +kernel
theorem tb_l3 : Cond.laysStatic "java/lang/String" "COMPACT_STRINGS" "Z" ∈ lw_tbl := by decide +kernel
theorem tb_l4 : Cond.laysStatic "jdk/internal/util/Preconditions" "SIOOBE_FORMATTER" sfS ∈ lw_tbl := by decide +kernel
theorem tb_i1 : Cond.initialized Bundle.tN ∈ lw_tbl := by decide +kernel
theorem tb_i3 : Cond.initialized "java/lang/String" ∈ lw_tbl := by decide +kernel
theorem tb_i4 : Cond.initialized "jdk/internal/util/Preconditions" ∈ lw_tbl := by decide +kernel
theorem tb_ao : Cond.arrayOver (.object "LampMural$Scene") ∈ lw_tbl := by decide +kernel
theorem ot_R {own tx : String} {k : Nat} {A : Array Value} {U : State} {t : Value} (h : (Term.string own k).eval A U none [] U = some t) : (Term.string own k).eval #[] U none [] U = some t := h
theorem st_SF {args : Array Value} {s : State} {A : Nat → Prop} (ht : ∀ w ∈ lw_tbl, w.before args s = true) (hg : ∀ c ∈ flG, c.before args s = true) (hA : ∀ a : Nat, a < s.heap.size → ¬ A a) :
    ∃ (G : G3) (cj : ClassId) (u : Nat → Nat), KC G s ∧ va_K G.1 vwCl [(cj, .long)] s ∧ (∀ ad : Nat → Nat, (∀ k, 1000 ≤ k → ad k = u k) → SF (ad, G.1, G.2.1, G.2.2, fun _ => 0) A s s.heap) ∧ va_Nc "java/lang/IllegalArgumentException" "java/lang/IndexOutOfBoundsException" s ∧ va_Nc "java/lang/IllegalStateException" "java/lang/IllegalArgumentException" s := by
  have hts : ∀ w ∈ WS, w.before args s = true := fun w hw => ht w (List.mem_filter.mp hw).1
  obtain ⟨G, cj, hK, hJ, n1, n2⟩ := st_K hts (ht _ tb_ao)
  obtain ⟨adK, adV, hS, hE⟩ := vk_Sof (args := args) (s := s) (N := nST) (tm := tmS) (len := lnST) (byt := byST) (A := A) fs_ln (fun i hi => hg _ (fs_ex i hi)) (fun i hi => hg _ (fs_co i hi)) (fun i hi => hg _ (fs_ar i hi)) (fun i hi => hg _ (fs_le i hi)) (fun i hi j hj => hg _ (fs_el i hi j hj)) (fun i j hi hj hij => (fs_ne i hi j hj hij).imp (fun h => hg _ h) (fun h => hg _ h)) hA
  have hU := vx_Zqof (A := A) (ht _ tb_l1) (ht _ tb_i1) (hg _ fg_u) hA
  have hN := vx_Zqof (A := A) (ht _ tb_l2) (ht _ tb_i1) (hg _ fg_n) hA
  have hC := va_Zof (A := A) (ht _ tb_l3) (ht _ tb_i3) (va_eqi (hg _ fg_c)) hA
  have hM : ∀ q ∈ NWM, va_Nw (.methodLinkNest q.1 q.2.1 q.2.2.1 q.2.2.2) s := fun q hq => va_Nw.of rfl (ht _ (tb_M q hq))
  obtain ⟨t, hP⟩ : ∃ t : Nat, va_Z "jdk/internal/util/Preconditions" "SIOOBE_FORMATTER" sfS .null A s s.heap ∨ va_Z "jdk/internal/util/Preconditions" "SIOOBE_FORMATTER" sfS (.ref t) A s s.heap := by
    rcases va_Zqof (A := A) (ht _ tb_l4) (ht _ tb_i4) (hg _ fg_p) hA with h | ⟨t, h⟩
    · exact ⟨0, Or.inl h⟩
    · exact ⟨t, Or.inr h⟩
  refine ⟨G, cj, fun k => if k < 2000 then adK (k - 1000) else if k < 3000 then adV (k - 2000) else t, ⟨hK, hM, n1, n2, va_AO.of (ht _ tb_ao)⟩, hJ, fun ad had => ?_, va_Nc.of (hg _ fg_a), va_Nc.of (hg _ fg_s)⟩
  have e1 : ∀ i, i < 1000 → ad (1000 + i) = adK i := fun i hi => by
    rw [had _ (by omega)]
    show (if 1000 + i < 2000 then adK (1000 + i - 1000) else _) = _
    rw [if_pos (by omega), Nat.add_sub_cancel_left]
  have e2 : ∀ i, i < 1000 → ad (2000 + i) = adV i := fun i hi => by
    rw [had _ (by omega)]
    show (if 2000 + i < 2000 then _ else if 2000 + i < 3000 then adV (2000 + i - 2000) else _) = _
    rw [if_neg (by omega), if_pos (by omega), Nat.add_sub_cancel_left]
  have e3 : ad 3000 = t := (had 3000 (by omega)).trans rfl
  have hn : ∀ i, i < nST → i < 1000 := fun i hi => Nat.lt_of_lt_of_le hi (by decide)
  refine ⟨hK, fun q hq => va_Nw.of rfl (ht _ (tb_F q hq)), hM, fun q hq => ?_, ⟨fun E hE => va_Nw.of rfl (ht _ (tb_C E hE)), fun x hx => va_Nw.of rfl (ht _ (tb_D x hx))⟩, ⟨fun i hi => ?_, fun i j hi hj hij => ?_⟩, hU, hN, hC, ?_⟩
  · obtain ⟨h1, h2⟩ := fs_st q hq
    have h3 := hE _ h1
    rw [h2] at h3
    show vk_R q.1 q.2.1 q.2.2.1 (ad (1000 + q.2.2.2)) s
    rw [e1 _ (hn _ h1)]
    exact vk_R.of (A := args) (ht _ (tb_S q hq)) h3
  · show va_O "java/lang/String" (ad (1000 + i)) A s s.heap ∧ va_OF "java/lang/String" "coder" "B" (.int 0) (ad (1000 + i)) A s s.heap ∧ va_OF "java/lang/String" "value" "[B" (.ref (ad (2000 + i))) (ad (1000 + i)) A s s.heap ∧ va_T .byte (ad (2000 + i)) (lnST.getD i 0) (fun j => .int ((byST.getD i []).getD j 0)) A s s.heap
    rw [e1 i (hn i hi), e2 i (hn i hi)]
    exact hS.1 i hi
  · have hij2 : ad (1000 + i) = ad (1000 + j) := hij
    rw [e1 i (hn i hi), e1 j (hn j hj)] at hij2
    exact hS.2 i j hi hj hij2
  · show _ ∨ va_Z "jdk/internal/util/Preconditions" "SIOOBE_FORMATTER" sfS (.ref (ad 3000)) A s s.heap
    rw [e3]
    exact hP
