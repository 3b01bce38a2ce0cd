/-! strings: the text i lies at the place 1000 + i, its bytes at 2000 + i -/
/-- the char k of the text i -/
def chS (i k : Nat) : Int32 := (byST.getD i []).getD k 0
def lnS (i : Nat) : Nat := lnST.getD i 0
theorem lnS_lt {i : Nat} (h : i < nST) : lnS i < 256 := (by decide +kernel : ∀ i, i < nST → lnS i < 256) i h
theorem lnS_sh {i : Nat} (h : i < nST) : nI (lnS i) >>> ((0 : Int32) &&& 31) = nI (lnS i) := (by decide +kernel : ∀ i, i < nST → nI (lnS i) >>> ((0 : Int32) &&& 31) = nI (lnS i)) i h
theorem chS_c {i k : Nat} (h : i < nST) (hk : k < lnS i) : ((chS i k &&& 255).toUInt32 % 65536).toInt32 = chS i k := (by decide +kernel : ∀ i, i < nST → ∀ k, k < lnS i → ((chS i k &&& 255).toUInt32 % 65536).toInt32 = chS i k) i h k hk
theorem chS_n {i k : Nat} (h : i < nST) (hk : k < lnS i) : narrow .char (.int (chS i k)) = .int (chS i k) := (by decide +kernel : ∀ i, i < nST → ∀ k, k < lnS i → narrow .char (.int (chS i k)) = .int (chS i k)) i h k hk
section XS
variable {tw : Bool} {Λ : List LE} {M : MD} {Q : Rs → Mm → Prop} {ls : List (Nat × Value)} {st : List Value} {μ : Mm}
theorem X_ldcS {i index : Nat} {tx : String} (pc : Nat) (d : decode (mdB M) pc = .ok (.ldc index, 2)) (h : (mdO M, index, tx, i) ∈ STR) (k : X tw Λ M Q (pc + 2) ls (.ref (1000 + i) :: st) μ) : X tw Λ M Q pc ls st μ := by
  intro p l e s m args below meth c H locs g A lsA C0 hP hS hl
  have hF := C0.2.2.2.2.2.2.2.2.2.2.2
  exact va_ldcS C0.1 C0.2.1 C0.2.2.2.1 (hF.2.2.2.1 _ h) d (k p l e s m args below meth c H locs g A lsA C0 hP hS hl)
theorem X_getSv {i index : Nat} (pc : Nat) (d : decode (mdB M) pc = .ok (.getfield index, 3)) (hw : Cond.fieldLink (mdO M) index "java/lang/String" "value" "[B" ∈ WS) (hi : i < nST) (k : X tw Λ M Q (pc + 3) ls (.ref (2000 + i) :: st) μ) : X tw Λ M Q pc ls (.ref (1000 + i) :: st) μ := by
  intro p l e s m args below meth c H locs g A lsA C0 hP hS hl
  have hF := C0.2.2.2.2.2.2.2.2.2.2.2
  exact vk_getf C0.1 C0.2.1 (hF.2.2.2.2.2.1.1 i hi).2.2.1 hS C0.2.2.2.1 (C0.2.2.2.2.1 _ hw) (fun _ h => h) d (k p l e s m args below meth c H locs g A lsA C0 hP hS hl)
theorem X_getSc {i index : Nat} (pc : Nat) (d : decode (mdB M) pc = .ok (.getfield index, 3)) (hw : Cond.fieldLink (mdO M) index "java/lang/String" "coder" "B" ∈ WS) (hi : i < nST) (k : X tw Λ M Q (pc + 3) ls (.int 0 :: st) μ) : X tw Λ M Q pc ls (.ref (1000 + i) :: st) μ := by
  intro p l e s m args below meth c H locs g A lsA C0 hP hS hl
  have hF := C0.2.2.2.2.2.2.2.2.2.2.2
  exact vk_getf C0.1 C0.2.1 (hF.2.2.2.2.2.1.1 i hi).2.1 hS C0.2.2.2.1 (C0.2.2.2.2.1 _ hw) (fun _ h => h) d (k p l e s m args below meth c H locs g A lsA C0 hP hS hl)
theorem X_lenB {i : Nat} (pc : Nat) (d : decode (mdB M) pc = .ok (.arraylength, 1)) (hi : i < nST) (k : X tw Λ M Q (pc + 1) ls (.int (nI (lnS i)) :: st) μ) : X tw Λ M Q pc ls (.ref (2000 + i) :: st) μ := by
  intro p l e s m args below meth c H locs g A lsA C0 hP hS hl
  have hF := C0.2.2.2.2.2.2.2.2.2.2.2
  exact va_tlen C0.1 C0.2.1 (hF.2.2.2.2.2.1.1 i hi).2.2.2 hS rfl d (k p l e s m args below meth c H locs g A lsA C0 hP hS hl)
theorem X_bald {i : Nat} {x : Int32} (pc : Nat) (d : decode (mdB M) pc = .ok (.baload, 1)) (hi : i < nST) (hin : vp_in x (lnS i)) (k : X tw Λ M Q (pc + 1) ls (.int (chS i x.toNatClampNeg) :: st) μ) : X tw Λ M Q pc ls (.int x :: .ref (2000 + i) :: st) μ := by
  intro p l e s m args below meth c H locs g A lsA C0 hP hS hl
  have hF := C0.2.2.2.2.2.2.2.2.2.2.2
  exact va_tb C0.1 C0.2.1 (hF.2.2.2.2.2.1.1 i hi).2.2.2 hS hin rfl d (k p l e s m args below meth c H locs g A lsA C0 hP hS hl)
theorem X_i2c {x v : Int32} (pc : Nat) (d : decode (mdB M) pc = .ok (.i2c, 1)) (hv : (x.toUInt32 % 65536).toInt32 = v) (k : X tw Λ M Q (pc + 1) ls (.int v :: st) μ) : X tw Λ M Q pc ls (.int x :: st) μ := by
  intro p l e s m args below meth c H locs g A lsA C0 hP hS hl
  exact lv_i2c C0.1 C0.2.1 d hv (k p l e s m args below meth c H locs g A lsA C0 hP hS hl)
theorem X_getZ {index : Nat} (pc : Nat) (d : decode (mdB M) pc = .ok (.getstatic index, 3)) (hw : Cond.fieldLink (mdO M) index "java/lang/String" "COMPACT_STRINGS" "Z" ∈ WS) (k : X tw Λ M Q (pc + 3) ls (.int 1 :: st) μ) : X tw Λ M Q pc ls st μ := by
  intro p l e s m args below meth c H locs g A lsA C0 hP hS hl
  have hF := C0.2.2.2.2.2.2.2.2.2.2.2
  exact va_gets C0.1 C0.2.1 hF.2.2.2.2.2.2.2.2.1 hS C0.2.2.2.1 (C0.2.2.2.2.1 _ hw) (fun _ h => h) d (k p l e s m args below meth c H locs g A lsA C0 hP hS hl)
theorem X_getFm {index : Nat} (pc : Nat) (d : decode (mdB M) pc = .ok (.getstatic index, 3)) (hw : Cond.fieldLink (mdO M) index "jdk/internal/util/Preconditions" "SIOOBE_FORMATTER" sfS ∈ WS) (k1 : X tw Λ M Q (pc + 3) ls (.null :: st) μ) (k2 : X tw Λ M Q (pc + 3) ls (.ref 3000 :: st) μ) : X tw Λ M Q pc ls st μ := by
  intro p l e s m args below meth c H locs g A lsA C0 hP hS hl
  have hF := C0.2.2.2.2.2.2.2.2.2.2.2
  rcases hF.2.2.2.2.2.2.2.2.2 with hz | hz
  · exact va_gets C0.1 C0.2.1 hz hS C0.2.2.2.1 (C0.2.2.2.2.1 _ hw) (fun _ h => h) d (k1 p l e s m args below meth c H locs g A lsA C0 hP hS hl)
  · exact va_gets C0.1 C0.2.1 hz hS C0.2.2.2.1 (C0.2.2.2.2.1 _ hw) (fun _ h => h) d (k2 p l e s m args below meth c H locs g A lsA C0 hP hS hl)
theorem X_callT {M2 : MD} {i index : Nat} {rest : List Value} {P : Option Value → Mm → Prop} (pc : Nat) (As : List Value) (hE : EvN Λ M2 (.ref (1000 + i) :: As) μ P) (d : decode (mdB M) pc = .ok (.invokevirtual index, 3)) (hL : LKM (mdO M) index (mdY M2)) (hm : WMV M2) (hn : (parseMethodDescriptor (mdY M2).desc).map (fun d => d.parameters.length) = some As.length) (hR : ROK M M2) (h0 : (mdG M2).cells = 0 ∧ (mdG M2).slots = 0) (hi : i < nST) (hyc : (mdY M2).cls = "java/lang/String") (hst : st = As.reverse ++ .ref (1000 + i) :: rest) (hcat : (rest.map fun v => v.category).sum ≤ 8)
    (k : ∀ r μ', P r μ' → X tw Λ M Q (pc + 3) ls (r.toList ++ rest) μ') : X tw Λ M Q pc ls st μ := by
  subst hst
  intro p l e s m args below meth c H locs g A lsA C0 hP hS hl
  have hts := C0.2.2.2.2.1
  have hown := C0.2.2.2.1
  have hF := C0.2.2.2.2.2.2.2.2.2.2.2
  have hsz : lsA.size = mdN M := lv_size hl
  have hpre : PreV s H "java/lang/String" (g.1 (1000 + i)) (PcN Λ g H.size (.ref (1000 + i) :: As) μ) (As.map (cv g.1)) := ⟨PcN_blind, vk_recv (i := i) hF.2.2.2.2.2.1 hi hS, XPc C0 hP hS (.ref (1000 + i) :: As)⟩
  have hcat2 : 2 * (F0 m pc lsA ((As.reverse ++ .ref (1000 + i) :: rest).map (cv g.1))).monitorRoom + ((rest.map (cv g.1)).map fun v => v.category).sum ≤ 8 := by
    rw [cat_map]; exact lv_room hcat
  have hstk : (As.reverse ++ .ref (1000 + i) :: rest).map (cv g.1) = (As.map (cv g.1)).reverse ++ .ref (g.1 (1000 + i)) :: rest.map (cv g.1) := by
    rw [List.map_append, List.map_reverse]; rfl
  refine X_after (a2 := (Value.ref (g.1 (1000 + i)) :: As.map (cv g.1)).toArray) C0 hS hl (rest := rest) (P := P) ?_ k
  rw [← hyc] at hpre
  rcases hL with hL | ⟨host, hL⟩
  · exact va_runV (As := As.map (cv g.1)) ⟨C0.1, C0.2.1, C0.2.2.1, hown, hts⟩ (hE l g H.size C0.2.2.2.2.2.2.2.2.1) ⟨callB_of As.length hts (good_wsM hm.1.2.1) rfl h0.1 h0.2 (hts _ hm.1.1) (hts _ hL) ⟨hm.1.2.2.1, hm.1.2.2.2, hn⟩ hR, hts _ hm.2.1, hts _ hm.2.2⟩ hpre rfl (by simp) hsz hstk hcat2 d ⟨Nat.zero_le _, Nat.zero_le _⟩
  · exact va_runVN (As := As.map (cv g.1)) ⟨C0.1, C0.2.1, C0.2.2.1, hown, hts⟩ (hE l g H.size C0.2.2.2.2.2.2.2.2.1) ⟨va_cnB As.length hts (good_wsM hm.1.2.1) rfl h0.1 h0.2 (C0.2.2.2.2.2.2.2.2.2.2.2.2.2.1 _ hL) (hts _ hm.1.1) ⟨hm.1.2.2.1, hm.1.2.2.2, hn⟩ hR, hts _ hm.2.1, hts _ hm.2.2⟩ hpre rfl (by simp) hsz hstk hcat2 d ⟨Nat.zero_le _, Nat.zero_le _⟩
theorem X_cTI {M2 : MD} {i index : Nat} {rest : List Value} {P : Int32 → Mm → Prop} (pc : Nat) (As : List Value) (hE : EvN Λ M2 (.ref (1000 + i) :: As) μ (qI P)) (d : decode (mdB M) pc = .ok (.invokevirtual index, 3)) (hL : LKM (mdO M) index (mdY M2)) (n : Nat) (hm : WV M2 n) (hna : As.length = n) (hR : ROK M M2) (hi : i < nST) (hyc : (mdY M2).cls = "java/lang/String") (hst : st = As.reverse ++ .ref (1000 + i) :: rest) (hcat : (rest.map fun v => v.category).sum ≤ 8)
    (k : ∀ x μ', P x μ' → X tw Λ M Q (pc + 3) ls (.int x :: rest) μ') : X tw Λ M Q pc ls st μ :=
  X_callT pc As hE d hL hm.1 (by rw [hna]; exact hm.2.1) hR hm.2.2 hi hyc hst hcat (fun r μ' ⟨x, hr, hp⟩ => by subst hr; exact k x μ' hp)
end XS
theorem X_lsE {tw : Bool} {Λ : List LE} {M : MD} {Q : Rs → Mm → Prop} {ls2 ls : List (Nat × Value)} {st : List Value} {μ : Mm} {pc : Nat} (h : ls2 = ls) (k : X tw Λ M Q pc ls2 st μ) : X tw Λ M Q pc ls st μ := h ▸ k
