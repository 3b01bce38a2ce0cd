/-! the law itself -/
abbrev mL_law : MD := mLaw
abbrev NB : Nat → Int32 := fun _ => 0
def sn (S : Mm) : Int64 := snV S (tn (S 0 5)) (tn (S 0 0)) (tn (S 0 1))
theorem sn_D {S : Mm} {c r lc : Nat} (h : DM S c r lc) : snV S lc c r = sn S := by
  unfold sn
  have t : ∀ (x : Int32) (k : Nat), k < 1000 → x = nI k → tn x = k := fun x k hk e => by rw [e]; exact nI_clamp (by omega)
  rw [t _ lc (by have := h.2; omega) h.1.2.2, t _ c (by have := h.2; omega) h.1.1, t _ r (by have := h.2; omega) h.1.2.1]
/-- what was seen ahead of the latest changes -/
def HI (f : Nat → Int64) (n : Nat) (T : Nat → Mm) : Prop := ∀ j, j < 4 → j < n → f (n - 1 - j) = sn (T j)
theorem HI_0 (f : Nat → Int64) (T : Nat → Mm) : HI f 0 T := fun j _ h => absurd h (Nat.not_lt_zero j)
theorem HI_s {f f2 : Nat → Int64} {n : Nat} {S : Mm} {T : Nat → Mm} (h : HI f n T) (h1 : f2 n = sn S) (h2 : ∀ j, j ≠ n → f2 j = f j) : HI f2 (n + 1) (pT S T) := fun j hj hn => by
  cases j with
  | zero => exact h1
  | succ j =>
    show f2 (n + 1 - 1 - (j + 1)) = sn (T j)
    rw [h2 _ (by omega), ← h j (by omega) (by omega)]
    congr 1
    omega
theorem nx_min (n : Nat) : nx (min (n + 1) 4) = min (n + 2) 4 := by unfold nx; split <;> omega
theorem d_wall : ∀ p, p < 6 → ∀ q, q < 5 → (rgI (1 + nI p) 1 24 ∧ rgI (1 + nI q) 1 16) := by unfold rgI; decide +kernel
theorem d_wal2 : ∀ p, p < 5 → ∀ q, q < 4 → (rgI (2 + nI p) 1 24 ∧ rgI (2 + nI q) 1 16) := by unfold rgI; decide +kernel
theorem d_rc : ∀ p, p < 8 → ∀ q, q < 5 → rgI (nI p - 2) (-20) 39 ∧ (nI p - 2 < nI p - 2 + 1 + nI q ∧ nI p - 2 + 1 + nI q ≤ 40) := by unfold rgI; decide +kernel
theorem d_co : ∀ p, p < 8 → rgI (nI p - 2) (-20) 40 := by unfold rgI; decide +kernel
theorem d_sh : ∀ p, p < 5 → rgI (nI p - 2) (-10) 10 := by unfold rgI; decide +kernel
theorem d_bu : ∀ p, p < 400 → rgI (1 + nI p) 1 9999 := by unfold rgI; decide +kernel
theorem d_lv : ∀ w, w < 3 → ∀ x, x < 256 → lvOK (nI w) (nI x) := fun w hw x hx => by
  rcases (show w = 0 ∨ w = 1 ∨ w = 2 by omega) with rfl | rfl | rfl
  · exact ⟨⟨by decide, by decide⟩, rg_nI (n := 255) rfl (by decide) (by omega)⟩
  · exact ⟨⟨by decide, by decide⟩, rg_nI (n := 255) rfl (by decide) (by omega)⟩
  · exact ⟨⟨by decide, by decide⟩, rg_nI (n := 900) rfl (by decide) (by omega)⟩
/-! no answer is below 0 -/
theorem ptC_n {A : Nat} {t : Int32} {base : Nat} : ∀ (n k : Nat) (z : Int32 × Mm), z.1 = nI k → ∃ m, m ≤ k + n ∧ (ptC A t base n z).1 = nI m
  | 0, k, z, h => ⟨k, Nat.le_refl _, h⟩
  | n + 1, k, z, h => by
    obtain ⟨m, hm, e⟩ := ptC_n (A := A) (t := t) (base := base) n k z h
    show ∃ m2, m2 ≤ k + (n + 1) ∧ (if (ptC A t base n z).2 A (base + n) = t then (ptC A t base n z).1 else (ptC A t base n z).1 + 1) = nI m2
    split
    · exact ⟨m, by omega, e⟩
    · exact ⟨m + 1, by omega, by rw [e]; exact nI_add m 1⟩
theorem ptR_n {A : Nat} {t : Int32} {c a w b : Nat} : ∀ (n k : Nat) (z : Int32 × Mm), z.1 = nI k → ∃ m, m ≤ k + n * w ∧ (ptR A t c a w b n z).1 = nI m
  | 0, k, z, h => ⟨k, by omega, h⟩
  | n + 1, k, z, h => by
    obtain ⟨m, hm, e⟩ := ptR_n (A := A) (t := t) (c := c) (a := a) (w := w) (b := b) n k z h
    obtain ⟨m2, hm2, e2⟩ := ptC_n (A := A) (t := t) (base := (b + n) * c + a) w m _ e
    refine ⟨m2, ?_, e2⟩
    rw [Nat.succ_mul]; omega
theorem pnt_nn {S : Mm} {c u v : Nat} {t : Int32} (hu : u < 24) (hv : v < 16) : 0 ≤ (pnt S c 0 0 u v t).1 := by
  obtain ⟨m, hm, e⟩ := ptR_n (A := 8) (t := t) (c := c) (a := 0) (w := u - 0 + 1) (b := 0) (v - 0 + 1) 0 (0, S) rfl
  have h2 : (v - 0 + 1) * (u - 0 + 1) ≤ 16 * 24 := Nat.mul_le_mul (by omega) (by omega)
  show 0 ≤ (ptR 8 t c 0 (u - 0 + 1) 0 (v - 0 + 1) (0, S)).1
  rw [e]
  exact nI_pos' (by omega)
theorem nnI {x : Int32} (h : 0 ≤ x.toInt) : 0 ≤ x := Int32.le_iff_toInt_le.mpr (by rw [Int32.toInt_zero]; exact h)
theorem max_nn {f : Nat → Int32} : ∀ n, 0 ≤ maxN n f
  | 0 => Int32.le_refl _
  | n + 1 => by
    show 0 ≤ (if maxN n f < f n then f n else maxN n f)
    split
    · next h => exact Int32.le_trans (max_nn n) (Int32.le_of_lt h)
    · exact max_nn n
theorem one_nn {a : Bool} : 0 ≤ (if a = true then (1 : Int32) else 0) := by split <;> decide
theorem lv_nn {S : Mm} {c r lc k w : Nat} (g : RG S) (hk : k < 8) (hw : w < 3) : 0 ≤ lvV S lc c r k w := by
  rcases (show w = 0 ∨ w = 1 ∨ w = 2 by omega) with rfl | rfl | rfl
  · exact (g.2.2 k hk).1.1
  · exact (g.2.2 k hk).2.1.1
  · exact (g.2.2 k hk).2.2.1.1
theorem pst_nn {S : Mm} {c r lc : Nat} (h : c * r ≤ 384) : 0 ≤ nI (c * r) - pstJ S lc c r 0 := by
  have hb := cnt_bd (f := fun j => if stJ S lc c j = 0 then (1 : Int32) else 0) (fun j => by show (if _ then _ else _) = _ ∨ _; split; exact Or.inr rfl; exact Or.inl rfl) (c * r) h
  have hb2 : 0 ≤ (pstJ S lc c r 0).toInt ∧ (pstJ S lc c r 0).toInt ≤ (c * r : Nat) := hb
  have a := (bd_sub (x := nI (c * r)) (y := pstJ S lc c r 0) (a := 384) (b := 384) (by unfold bd; rw [nI_toInt (by omega)]; omega) (by unfold bd; omega) (by decide)).1
  apply nnI
  rw [a, nI_toInt (by omega)]
  omega
set_option maxHeartbeats 8000000 in
set_option maxRecDepth 100000 in
theorem law_579 {sc : Nat × (Nat → Int32)} {V S : Mm} {c r lc : Nat} {T : Nat → Mm} {f : Nat → Int64} {hd : Int32} (hS : ST V S c r lc T 0 0 NB) : XL (.inr (.inr ())) (some sc) 2 mL_law [] 4292 247748 579 [(5, .int (nI 5)), (4, .int (nI 24)), (3, .ref 2), (2, .int hd), (1, .ref 109), (0, .ref 3)] [] (V, f) := by
  refine L_aload_n 579 4 dL_law_579 rfl rfl ?_
  refine L_cT 580 [.ref 109] 4293 247754 (by decide) (t_undoing_3 V (x_X6_undo_State V (st0 hS))) dL_law_580 lk_199 hc_undoing hs_undoing hp_undoing rfl ⟨rfl, rfl⟩ ⟨Nat.le_of_ble_eq_true rfl, Nat.le_of_ble_eq_true rfl⟩ ⟨Nat.le_of_ble_eq_true rfl, Nat.le_of_ble_eq_true rfl⟩ rfl (Nat.le_of_ble_eq_true rfl) ?_
  rintro _ _ ⟨rfl, rfl⟩
  refine L_sipush 583 (-3003) dL_law_583 (by decide) ?_
  refine L_icmp_ne 586 593 dL_law_586 (by decide) (fun c_0 => absurd rfl c_0) (fun _ => ?_)
  refine L_iconst 589 (1) dL_law_589 (by decide) ?_
  refine L_goto 590 594 dL_law_590 (by decide) ?_
  exact L_end 594 dL_law_594 (by decide) (by decide)
set_option maxHeartbeats 8000000 in
set_option maxRecDepth 100000 in
theorem law_539 {sc : Nat × (Nat → Int32)} {f : Nat → Int64} {hd : Int32} : ∀ (q : Nat) (V S : Mm) (c r lc : Nat) (T : Nat → Mm), q ≤ 4 → ST V S c r lc T q 0 NB → (∀ j, j < q → f (19 + q - j) = sn (T j)) → XL (.inr (.inr ())) (some sc) 2 mL_law [] 4292 247748 539 [(5, .int (nI (5 - q))), (4, .int (nI 24)), (3, .ref 2), (2, .int hd), (1, .ref 109), (0, .ref 3)] [] (V, f) := by
  intro q
  induction q with
  | zero =>
    intro V S c r lc T hq hS hH
    refine L_iload 539 0 dL_law_539 rfl ?_
    refine L_iconst 541 (nI 4) dL_law_541 (by decide) ?_
    refine L_icmp_gt 542 579 dL_law_542 (by decide) (fun _ => ?_) (fun c_0 => absurd (by decide) c_0)
    exact law_579 hS
  | succ q ih =>
    intro V S c r lc T hq hS hH
    obtain ⟨-, c2, r2, l2, hD⟩ : SOK (T 0) := by
      obtain ⟨la, h⟩ := hS
      exact (h.2.2.2.1 0 (by omega)).2
    refine L_iload 539 0 dL_law_539 rfl ?_
    refine L_iconst 541 (nI 4) dL_law_541 (by decide) ?_
    refine L_icmp_gt 542 579 dL_law_542 (by decide) (fun c_0 => absurd ((nI_ltI (by omega) (by omega)).mp c_0) (by omega)) (fun _ => ?_)
    refine L_aload_n 545 4 dL_law_545 rfl rfl ?_
    refine L_cW 546 [.ref 109] (by decide) (w_undoing _ _ (o_undo2 hS hD)) dL_law_546 lk_199 hc_undoing hs_undoing hp_undoing rfl ⟨rfl, rfl⟩ ⟨Nat.le_of_ble_eq_true rfl, Nat.le_of_ble_eq_true rfl⟩ ⟨Nat.le_of_ble_eq_true rfl, Nat.le_of_ble_eq_true rfl⟩ rfl (Nat.le_of_ble_eq_true rfl) ?_
    rintro _ V2 ⟨rfl, hS2⟩
    refine L_iconst 549 (nI 4) dL_law_549 (by decide) ?_
    refine L_iload 550 0 dL_law_550 rfl ?_
    refine L_isub 552 dL_law_552 ?_
    rw [nI_sub (by omega) (by omega)]
    refine L_icmp_ne 553 571 dL_law_553 (by decide) (fun c_0 => absurd (congrArg nI (by omega)) c_0) (fun _ => ?_)
    refine L_aload_n 556 4 dL_law_556 rfl rfl ?_
    refine L_cWl 557 [.ref 109] (by decide) (w_seen hS2) dL_law_557 lk_318 hc_seen hs_seen hp_seen rfl ⟨rfl, rfl⟩ ⟨Nat.le_of_ble_eq_true rfl, Nat.le_of_ble_eq_true rfl⟩ ⟨Nat.le_of_ble_eq_true rfl, Nat.le_of_ble_eq_true rfl⟩ rfl (Nat.le_of_ble_eq_true rfl) ?_
    rintro _ V3 ⟨rfl, hS3⟩
    rw [sn_D hD]
    refine L_aload_n 560 2 dL_law_560 rfl rfl ?_
    refine L_iload 561 1 dL_law_561 rfl ?_
    refine L_iload 563 0 dL_law_563 rfl ?_
    refine L_isub 565 dL_law_565 ?_
    rw [nI_sub (by omega) (by omega)]
    refine L_laload 566 dL_law_566 (by omega) ?_
    refine L_lcmp 567 dL_law_567 ?_
    refine L_eq (pc2 := 568) (st2 := [.int 0]) ?_ rfl rfl (by show [Value.int 0] = [Value.int (lg_cmp (sn (T 0)) (f (24 - (5 - (q + 1)))))]; rw [show f (24 - (5 - (q + 1))) = sn (T 0) from by rw [← hH 0 (by omega)]; congr 1; omega, lg_cmp_rf]) rfl
    refine L_if_eq 568 573 dL_law_568 (by decide) (fun _ => ?_) (fun c_0 => absurd rfl c_0)
    refine L_iinc 573 0 (nI (5 - (q + 1) + 1)) [(5, .int _), (4, .int _), (3, .ref _), (2, .int _), (1, .ref _), (0, .ref _)] dL_law_573 rfl (nI_add _ 1) (by decide) rfl ?_
    refine L_goto 576 539 dL_law_576 (by decide) ?_
    rw [show 5 - (q + 1) + 1 = 5 - q by omega]
    exact ih V3 (T 0) c2 r2 l2 (fun j => T (j + 1)) (by omega) hS3 (fun j hj => by rw [← hH (j + 1) (by omega)]; congr 1; omega)
set_option maxHeartbeats 8000000 in
set_option maxRecDepth 100000 in
theorem law_519 {sc : Nat × (Nat → Int32)} {f : Nat → Int64} {hd : Int32} {V S : Mm} {c r : Nat} {T : Nat → Mm} (hS : ST V S c r 8 T 4 0 NB) (hH : HI f 24 T) : XL (.inr (.inr ())) (some sc) 2 mL_law [] 4191 247142 519 [(5, .int (nI 24)), (4, .int (nI 24)), (3, .ref 2), (2, .int hd), (1, .ref 109), (0, .ref 3)] [] (V, f) := by
  refine L_aload_n 519 4 dL_law_519 rfl rfl ?_
  refine L_cT 520 [.ref 109] 4292 247748 (by decide) (w_refused hS) dL_law_520 lk_294 hc_refused hs_refused hp_refused rfl ⟨rfl, rfl⟩ ⟨Nat.le_of_ble_eq_true rfl, Nat.le_of_ble_eq_true rfl⟩ ⟨Nat.le_of_ble_eq_true rfl, Nat.le_of_ble_eq_true rfl⟩ rfl (Nat.le_of_ble_eq_true rfl) ?_
  rintro _ V2 ⟨rfl, hS2⟩
  refine L_if_eq 523 534 dL_law_523 (by decide) (fun c_0 => absurd c_0 (by decide)) (fun _ => ?_)
  refine L_aload_n 526 4 dL_law_526 rfl rfl ?_
  refine L_iconst 527 (nI 4) dL_law_527 (by decide) ?_
  refine L_cW 528 [.ref 109, .int (nI 4)] (by decide) (w_isDigest hS2) dL_law_528 lk_297 hc_isDigest hs_isDigest hp_isDigest rfl ⟨rfl, rfl⟩ ⟨Nat.le_of_ble_eq_true rfl, Nat.le_of_ble_eq_true rfl⟩ ⟨Nat.le_of_ble_eq_true rfl, Nat.le_of_ble_eq_true rfl⟩ rfl (Nat.le_of_ble_eq_true rfl) ?_
  rintro _ V3 ⟨rfl, hS3⟩
  refine L_if_ne 531 536 dL_law_531 (by decide) (fun _ => ?_) (fun c_0 => absurd c_0 (by decide))
  refine L_iconst 536 (nI 1) dL_law_536 (by decide) ?_
  refine L_istore 537 [(5, .int _), (4, .int _), (3, .ref _), (2, .int _), (1, .ref _), (0, .ref _)] dL_law_537 (by decide) rfl ?_
  exact law_539 4 V3 S c r 8 T (Nat.le_refl _) hS3 (fun j hj => by rw [← hH j hj (by omega)])
set_option maxHeartbeats 8000000 in
set_option maxRecDepth 100000 in
theorem law_145 {sc : Nat × (Nat → Int32)} (hL : sc.1 ≤ 260) {hd : Int32} : ∀ (kf k : Nat) (V S : Mm) (c r : Nat) (T : Nat → Mm) (f : Nat → Int64), k ≤ 24 → 24 < k + kf → ST V S c r 8 T 4 0 NB → HI f k T → XL (.inr (.inr ())) (some sc) 2 mL_law [] 4191 247142 145 [(5, .int (nI k)), (4, .int (nI k)), (3, .ref 2), (2, .int hd), (1, .ref 109), (0, .ref 3)] [] (V, f) := by
  intro kf
  induction kf with
  | zero => intro k V S c r T f h1 h2; omega
  | succ kf ih =>
    intro k V S c r T f h1 h2 hS hH
    have hd8 := hS.dim
    have hDM := hS.dm
    have hRG := hS.rg
    refine L_iload 145 0 dL_law_145 rfl ?_
    refine L_bipush 147 (nI 24) dL_law_147 (by decide) ?_
    refine L_icmp_ge 149 519 dL_law_149 (by decide) (fun c_0 => ?_) (fun c_0 => ?_)
    · have e : k = 24 := by have := (nI_leI (by omega) (by omega)).mp c_0; omega
      subst e
      exact law_519 hS hH
    have hk : k < 24 := (nI_ltI (by omega) (by omega)).mp (Int32.not_le.mp c_0)
    have J : ∀ (V2 S2 : Mm) (c2 r2 : Nat) (f2 : Nat → Int64) (v y6 y7 y8 y9 y10 : Int32), 0 ≤ v → ST V2 S2 c2 r2 8 (pT S T) 4 0 NB → f2 k = sn S → (∀ j, j ≠ k → f2 j = f j) → XL (.inr (.inr ())) (some sc) 2 mL_law [] 4191 247142 501 [(10, .int y10), (9, .int y9), (8, .int y8), (7, .int y7), (6, .int y6), (5, .int (nI k)), (4, .int (nI k)), (3, .ref 2), (2, .int hd), (1, .ref 109), (0, .ref 3)] [.int v] (V2, f2) := by
      intro V2 S2 c2 r2 f2 v y6 y7 y8 y9 y10 hv hS2 hf1 hf2
      refine L_istore 501 [(11, .int _), (10, .int _), (9, .int _), (8, .int _), (7, .int _), (6, .int _), (5, .int _), (4, .int _), (3, .ref _), (2, .int _), (1, .ref _), (0, .ref _)] dL_law_501 (by decide) rfl ?_
      refine L_iload 503 0 dL_law_503 rfl ?_
      refine L_if_ge 505 510 dL_law_505 (by decide) (fun _ => ?_) (fun c_1 => absurd hv c_1)
      refine L_iinc 510 7 (nI (k + 1)) [(4, .int _), (11, .int _), (10, .int _), (9, .int _), (8, .int _), (7, .int _), (6, .int _), (5, .int _), (3, .ref _), (2, .int _), (1, .ref _), (0, .ref _)] dL_law_510 rfl (nI_add k 1) (by decide) rfl ?_
      refine L_iinc 513 7 (nI (k + 1)) [(5, .int _), (4, .int _), (11, .int _), (10, .int _), (9, .int _), (8, .int _), (7, .int _), (6, .int _), (3, .ref _), (2, .int _), (1, .ref _), (0, .ref _)] dL_law_513 rfl (nI_add k 1) (by decide) rfl ?_
      refine L_goto 516 145 dL_law_516 (by decide) ?_
      refine L_sub [0, 1, 8, 9, 10, 11] [(5, .int _), (4, .int _), (3, .ref _), (2, .int _), (1, .ref _), (0, .ref _)] rfl ?_
      exact ih (k + 1) V2 S2 c2 r2 (pT S T) f2 (by omega) (by omega) hS2 (HI_s hH hf1 hf2)
    refine L_aload_n 152 5 dL_law_152 rfl rfl ?_
    refine L_bipush 153 (nI 20) dL_law_153 (by decide) ?_
    refine L_iload 155 0 dL_law_155 rfl ?_
    refine L_iadd 157 dL_law_157 ?_
    rw [nI_add]
    refine L_cA 158 [.ref 3, .int (nI (20 + k))] 4191 247142 (fun r h => h) (a_take hL (by omega)) dL_law_158 lk_311 hc_take hs_take hp_take rfl ⟨rfl, rfl⟩ ⟨Nat.le_of_ble_eq_true rfl, Nat.le_of_ble_eq_true rfl⟩ ⟨Nat.le_of_ble_eq_true rfl, Nat.le_of_ble_eq_true rfl⟩ rfl (Nat.le_of_ble_eq_true rfl) ?_
    rintro x_158 _
    refine L_istore 161 [(6, .int _), (5, .int _), (4, .int _), (3, .ref _), (2, .int _), (1, .ref _), (0, .ref _)] dL_law_161 (by decide) rfl ?_
    refine L_iload 163 0 dL_law_163 rfl ?_
    refine L_bipush 165 (nI 10) dL_law_165 (by decide) ?_
    refine L_cA 167 [.int x_158, .int (nI 10)] 4191 247142 (fun r h => by cases h) (a_part x_158 (by omega) (by omega)) dL_law_167 lk_315 hc_part hs_part hp_part rfl ⟨rfl, rfl⟩ ⟨Nat.le_of_ble_eq_true rfl, Nat.le_of_ble_eq_true rfl⟩ ⟨Nat.le_of_ble_eq_true rfl, Nat.le_of_ble_eq_true rfl⟩ rfl (Nat.le_of_ble_eq_true rfl) ?_
    rintro _ ⟨kd, h_kd, rfl⟩
    refine L_istore 170 [(7, .int _), (6, .int _), (5, .int _), (4, .int _), (3, .ref _), (2, .int _), (1, .ref _), (0, .ref _)] dL_law_170 (by decide) rfl ?_
    refine L_iload 172 1 dL_law_172 rfl ?_
    refine L_iconst 174 4 dL_law_174 (by decide) ?_
    refine L_ishr 175 dL_law_175 ?_
    refine L_bipush 176 (nI 8) dL_law_176 (by decide) ?_
    refine L_cA 178 [.int _, .int (nI 8)] 4191 247142 (fun r h => by cases h) (a_part _ (by omega) (by omega)) dL_law_178 lk_315 hc_part hs_part hp_part rfl ⟨rfl, rfl⟩ ⟨Nat.le_of_ble_eq_true rfl, Nat.le_of_ble_eq_true rfl⟩ ⟨Nat.le_of_ble_eq_true rfl, Nat.le_of_ble_eq_true rfl⟩ rfl (Nat.le_of_ble_eq_true rfl) ?_
    rintro _ ⟨nl, h_nl, rfl⟩
    refine L_istore 181 [(8, .int _), (7, .int _), (6, .int _), (5, .int _), (4, .int _), (3, .ref _), (2, .int _), (1, .ref _), (0, .ref _)] dL_law_181 (by decide) rfl ?_
    refine L_iload 183 2 dL_law_183 rfl ?_
    refine L_bipush 185 7 dL_law_185 (by decide) ?_
    refine L_ishr 187 dL_law_187 ?_
    refine L_bipush 188 (nI 8) dL_law_188 (by decide) ?_
    refine L_cA 190 [.int _, .int (nI 8)] 4191 247142 (fun r h => by cases h) (a_part _ (by omega) (by omega)) dL_law_190 lk_315 hc_part hs_part hp_part rfl ⟨rfl, rfl⟩ ⟨Nat.le_of_ble_eq_true rfl, Nat.le_of_ble_eq_true rfl⟩ ⟨Nat.le_of_ble_eq_true rfl, Nat.le_of_ble_eq_true rfl⟩ rfl (Nat.le_of_ble_eq_true rfl) ?_
    rintro _ ⟨ja, h_ja, rfl⟩
    refine L_iconst 193 (2) dL_law_193 (by decide) ?_
    refine L_isub 194 dL_law_194 ?_
    refine L_istore 195 [(9, .int _), (8, .int _), (7, .int _), (6, .int _), (5, .int _), (4, .int _), (3, .ref _), (2, .int _), (1, .ref _), (0, .ref _)] dL_law_195 (by decide) rfl ?_
    refine L_iload 197 3 dL_law_197 rfl ?_
    refine L_bipush 199 10 dL_law_199 (by decide) ?_
    refine L_ishr 201 dL_law_201 ?_
    refine L_bipush 202 (nI 7) dL_law_202 (by decide) ?_
    refine L_cA 204 [.int _, .int (nI 7)] 4191 247142 (fun r h => by cases h) (a_part _ (by omega) (by omega)) dL_law_204 lk_315 hc_part hs_part hp_part rfl ⟨rfl, rfl⟩ ⟨Nat.le_of_ble_eq_true rfl, Nat.le_of_ble_eq_true rfl⟩ ⟨Nat.le_of_ble_eq_true rfl, Nat.le_of_ble_eq_true rfl⟩ rfl (Nat.le_of_ble_eq_true rfl) ?_
    rintro _ ⟨jb, h_jb, rfl⟩
    refine L_iconst 207 (2) dL_law_207 (by decide) ?_
    refine L_isub 208 dL_law_208 ?_
    refine L_istore 209 [(10, .int _), (9, .int _), (8, .int _), (7, .int _), (6, .int _), (5, .int _), (4, .int _), (3, .ref _), (2, .int _), (1, .ref _), (0, .ref _)] dL_law_209 (by decide) rfl ?_
    refine L_aload_n 211 7 dL_law_211 rfl rfl ?_
    refine L_iload 212 6 dL_law_212 rfl ?_
    refine L_aload_n 214 9 dL_law_214 rfl rfl ?_
    refine L_cWl 215 [.ref 109] (by decide) (w_seen hS) dL_law_215 lk_318 hc_seen hs_seen hp_seen rfl ⟨rfl, rfl⟩ ⟨Nat.le_of_ble_eq_true rfl, Nat.le_of_ble_eq_true rfl⟩ ⟨Nat.le_of_ble_eq_true rfl, Nat.le_of_ble_eq_true rfl⟩ rfl (Nat.le_of_ble_eq_true rfl) ?_
    rintro _ V ⟨rfl, hS⟩
    refine L_lastore 218 dL_law_218 (by omega) ?_
    intro f2 hf1 hf2
    rw [sn_D hDM] at hf1
    refine L_iload 219 3 dL_law_219 rfl ?_
    refine L_if_ne 221 253 dL_law_221 (by decide) (fun c_k => ?_) (fun c_k => ?_)
    rotate_left
    · refine L_aload_n 224 9 dL_law_224 rfl rfl ?_
      refine L_iconst 225 1 dL_law_225 (by decide) ?_
      refine L_iload 226 4 dL_law_226 rfl ?_
      refine L_iconst 228 (5) dL_law_228 (by decide) ?_
      refine L_ishr 229 dL_law_229 ?_
      refine L_bipush 230 (nI 6) dL_law_230 (by decide) ?_
      refine L_cA 232 [.int _, .int (nI 6)] 4191 247142 (fun r h => by cases h) (a_part _ (by omega) (by omega)) dL_law_232 lk_315 hc_part hs_part hp_part rfl ⟨rfl, rfl⟩ ⟨Nat.le_of_ble_eq_true rfl, Nat.le_of_ble_eq_true rfl⟩ ⟨Nat.le_of_ble_eq_true rfl, Nat.le_of_ble_eq_true rfl⟩ rfl (Nat.le_of_ble_eq_true rfl) ?_
      rintro _ ⟨p, h_p, rfl⟩
      refine L_iadd 235 dL_law_235 ?_
      refine L_iconst 236 1 dL_law_236 (by decide) ?_
      refine L_iload 237 4 dL_law_237 rfl ?_
      refine L_bipush 239 (8) dL_law_239 (by decide) ?_
      refine L_ishr 241 dL_law_241 ?_
      refine L_iconst 242 (nI 5) dL_law_242 (by decide) ?_
      refine L_cA 243 [.int _, .int (nI 5)] 4191 247142 (fun r h => by cases h) (a_part _ (by omega) (by omega)) dL_law_243 lk_315 hc_part hs_part hp_part rfl ⟨rfl, rfl⟩ ⟨Nat.le_of_ble_eq_true rfl, Nat.le_of_ble_eq_true rfl⟩ ⟨Nat.le_of_ble_eq_true rfl, Nat.le_of_ble_eq_true rfl⟩ rfl (Nat.le_of_ble_eq_true rfl) ?_
      rintro _ ⟨q, h_q, rfl⟩
      refine L_iadd 246 dL_law_246 ?_
      refine L_cW 247 [.ref 109, .int (1 + nI p), .int (1 + nI q)] (by decide) (w_beginning _ _ _ _ (o_begin hS (d_wall p h_p q h_q))) dL_law_247 lk_165 hc_beginning hs_beginning hp_beginning rfl ⟨rfl, rfl⟩ ⟨Nat.le_of_ble_eq_true rfl, Nat.le_of_ble_eq_true rfl⟩ ⟨Nat.le_of_ble_eq_true rfl, Nat.le_of_ble_eq_true rfl⟩ rfl (Nat.le_of_ble_eq_true rfl) ?_
      rintro _ V ⟨rfl, hS⟩
      refine L_goto 250 501 dL_law_250 (by decide) ?_
      exact J V _ _ _ f2 _ _ _ _ _ _ (nI_pos' (by have := cr_le hd8.1.2 hd8.2.1.2; omega)) hS hf1 hf2
    refine L_iload 253 3 dL_law_253 rfl ?_
    refine L_iconst 255 (3) dL_law_255 (by decide) ?_
    refine L_icmp_ge 256 304 dL_law_256 (by decide) (fun c_k => ?_) (fun c_k => ?_)
    rotate_left
    · refine L_aload_n 259 9 dL_law_259 rfl rfl ?_
      refine L_iconst 260 (nI 0) dL_law_260 (by decide) ?_
      refine L_iconst 261 (nI 0) dL_law_261 (by decide) ?_
      refine L_iload 262 4 dL_law_262 rfl ?_
      refine L_iconst 264 (5) dL_law_264 (by decide) ?_
      refine L_ishr 265 dL_law_265 ?_
      refine L_aload_n 266 9 dL_law_266 rfl rfl ?_
      refine L_iconst 267 (nI 0) dL_law_267 (by decide) ?_
      refine L_cW 268 [.ref 109, .int (nI 0)] (by decide) (w_all (nI 0) _ _ (o_whole hS (by decide))) dL_law_268 lk_92 hc_all hs_all hp_all rfl ⟨rfl, rfl⟩ ⟨Nat.le_of_ble_eq_true rfl, Nat.le_of_ble_eq_true rfl⟩ ⟨Nat.le_of_ble_eq_true rfl, Nat.le_of_ble_eq_true rfl⟩ rfl (Nat.le_of_ble_eq_true rfl) ?_
      rintro _ V ⟨rfl, hS⟩
      rw [wh0 hDM]
      refine L_cA 271 [.int _, .int (nI c)] 4191 247142 (fun r h => by cases h) (a_part _ (by omega) (by omega)) dL_law_271 lk_315 hc_part hs_part hp_part rfl ⟨rfl, rfl⟩ ⟨Nat.le_of_ble_eq_true rfl, Nat.le_of_ble_eq_true rfl⟩ ⟨Nat.le_of_ble_eq_true rfl, Nat.le_of_ble_eq_true rfl⟩ rfl (Nat.le_of_ble_eq_true rfl) ?_
      rintro _ ⟨u, h_u, rfl⟩
      refine L_iload 274 4 dL_law_274 rfl ?_
      refine L_bipush 276 (8) dL_law_276 (by decide) ?_
      refine L_ishr 278 dL_law_278 ?_
      refine L_aload_n 279 9 dL_law_279 rfl rfl ?_
      refine L_iconst 280 (nI 1) dL_law_280 (by decide) ?_
      refine L_cW 281 [.ref 109, .int (nI 1)] (by decide) (w_all (nI 1) _ _ (o_whole hS (by decide))) dL_law_281 lk_92 hc_all hs_all hp_all rfl ⟨rfl, rfl⟩ ⟨Nat.le_of_ble_eq_true rfl, Nat.le_of_ble_eq_true rfl⟩ ⟨Nat.le_of_ble_eq_true rfl, Nat.le_of_ble_eq_true rfl⟩ rfl (Nat.le_of_ble_eq_true rfl) ?_
      rintro _ V ⟨rfl, hS⟩
      rw [wh1 hDM]
      refine L_cA 284 [.int _, .int (nI r)] 4191 247142 (fun r h => by cases h) (a_part _ (by omega) (by omega)) dL_law_284 lk_315 hc_part hs_part hp_part rfl ⟨rfl, rfl⟩ ⟨Nat.le_of_ble_eq_true rfl, Nat.le_of_ble_eq_true rfl⟩ ⟨Nat.le_of_ble_eq_true rfl, Nat.le_of_ble_eq_true rfl⟩ rfl (Nat.le_of_ble_eq_true rfl) ?_
      rintro _ ⟨v, h_v, rfl⟩
      refine L_iload 287 4 dL_law_287 rfl ?_
      refine L_bipush 289 (6) dL_law_289 (by decide) ?_
      refine L_ishr 291 dL_law_291 ?_
      refine L_sipush 292 (nI 256) dL_law_292 (by decide) ?_
      refine L_cA 295 [.int _, .int (nI 256)] 4191 247142 (fun r h => by cases h) (a_part _ (by omega) (by omega)) dL_law_295 lk_315 hc_part hs_part hp_part rfl ⟨rfl, rfl⟩ ⟨Nat.le_of_ble_eq_true rfl, Nat.le_of_ble_eq_true rfl⟩ ⟨Nat.le_of_ble_eq_true rfl, Nat.le_of_ble_eq_true rfl⟩ rfl (Nat.le_of_ble_eq_true rfl) ?_
      rintro _ ⟨t, h_t, rfl⟩
      refine L_cW 298 [.ref 109, .int (nI 0), .int (nI 0), .int (nI u), .int (nI v), .int (nI t)] (by decide) (w_painting _ _ _ _ _ _ _ (o_paint hS (Nat.zero_le _) h_u (Nat.zero_le _) h_v (rg_nI (n := 255) rfl (by decide) (by omega)))) dL_law_298 lk_155 hc_painting hs_painting hp_painting rfl ⟨rfl, rfl⟩ ⟨Nat.le_of_ble_eq_true rfl, Nat.le_of_ble_eq_true rfl⟩ ⟨Nat.le_of_ble_eq_true rfl, Nat.le_of_ble_eq_true rfl⟩ rfl (Nat.le_of_ble_eq_true rfl) ?_
      rintro _ V ⟨rfl, hS⟩
      refine L_goto 301 501 dL_law_301 (by decide) ?_
      exact J V _ _ _ f2 _ _ _ _ _ _ (pnt_nn (by omega) (by omega)) hS hf1 hf2
    refine L_iload 304 3 dL_law_304 rfl ?_
    refine L_iconst 306 (5) dL_law_306 (by decide) ?_
    refine L_icmp_ge 307 351 dL_law_307 (by decide) (fun c_k => ?_) (fun c_k => ?_)
    rotate_left
    · refine L_aload_n 310 9 dL_law_310 rfl rfl ?_
      refine L_iload 311 2 dL_law_311 rfl ?_
      refine L_iload 313 1 dL_law_313 rfl ?_
      refine L_iload 315 0 dL_law_315 rfl ?_
      refine L_iload 317 1 dL_law_317 rfl ?_
      refine L_iconst 319 (1) dL_law_319 (by decide) ?_
      refine L_iadd 320 dL_law_320 ?_
      refine L_iload 321 4 dL_law_321 rfl ?_
      refine L_bipush 323 (6) dL_law_323 (by decide) ?_
      refine L_ishr 325 dL_law_325 ?_
      refine L_iconst 326 (nI 5) dL_law_326 (by decide) ?_
      refine L_cA 327 [.int _, .int (nI 5)] 4191 247142 (fun r h => by cases h) (a_part _ (by omega) (by omega)) dL_law_327 lk_315 hc_part hs_part hp_part rfl ⟨rfl, rfl⟩ ⟨Nat.le_of_ble_eq_true rfl, Nat.le_of_ble_eq_true rfl⟩ ⟨Nat.le_of_ble_eq_true rfl, Nat.le_of_ble_eq_true rfl⟩ rfl (Nat.le_of_ble_eq_true rfl) ?_
      rintro _ ⟨p, h_p, rfl⟩
      refine L_iadd 330 dL_law_330 ?_
      refine L_iload 331 0 dL_law_331 rfl ?_
      refine L_iconst 333 (1) dL_law_333 (by decide) ?_
      refine L_iadd 334 dL_law_334 ?_
      refine L_iload 335 4 dL_law_335 rfl ?_
      refine L_bipush 337 (9) dL_law_337 (by decide) ?_
      refine L_ishr 339 dL_law_339 ?_
      refine L_iconst 340 (nI 5) dL_law_340 (by decide) ?_
      refine L_cA 341 [.int _, .int (nI 5)] 4191 247142 (fun r h => by cases h) (a_part _ (by omega) (by omega)) dL_law_341 lk_315 hc_part hs_part hp_part rfl ⟨rfl, rfl⟩ ⟨Nat.le_of_ble_eq_true rfl, Nat.le_of_ble_eq_true rfl⟩ ⟨Nat.le_of_ble_eq_true rfl, Nat.le_of_ble_eq_true rfl⟩ rfl (Nat.le_of_ble_eq_true rfl) ?_
      rintro _ ⟨q, h_q, rfl⟩
      refine L_iadd 344 dL_law_344 ?_
      refine L_cW 345 [.ref 109, .int (nI nl), .int (nI ja - 2), .int (nI jb - 2), .int (nI ja - 2 + 1 + nI p), .int (nI jb - 2 + 1 + nI q)] (by decide) (w_squaring _ _ _ _ _ _ _ (o_setRectangle hS h_nl ⟨⟨(d_rc ja h_ja p h_p).1, (d_rc jb (by omega) q h_q).1⟩, (d_rc ja h_ja p h_p).2, (d_rc jb (by omega) q h_q).2⟩)) dL_law_345 lk_135 hc_squaring hs_squaring hp_squaring rfl ⟨rfl, rfl⟩ ⟨Nat.le_of_ble_eq_true rfl, Nat.le_of_ble_eq_true rfl⟩ ⟨Nat.le_of_ble_eq_true rfl, Nat.le_of_ble_eq_true rfl⟩ rfl (Nat.le_of_ble_eq_true rfl) ?_
      rintro _ V ⟨rfl, hS⟩
      refine L_goto 348 501 dL_law_348 (by decide) ?_
      exact J V _ _ _ f2 _ _ _ _ _ _ (nnI (plc_bd (cr_le hd8.1.2 hd8.2.1.2)).1) hS hf1 hf2
    refine L_iload 351 3 dL_law_351 rfl ?_
    refine L_iconst 353 (5) dL_law_353 (by decide) ?_
    refine L_icmp_ne 354 379 dL_law_354 (by decide) (fun c_k => ?_) (fun c_k => ?_)
    rotate_left
    · refine L_aload_n 357 9 dL_law_357 rfl rfl ?_
      refine L_iload 358 2 dL_law_358 rfl ?_
      refine L_iload 360 4 dL_law_360 rfl ?_
      refine L_bipush 362 (6) dL_law_362 (by decide) ?_
      refine L_ishr 364 dL_law_364 ?_
      refine L_iconst 365 (nI 4) dL_law_365 (by decide) ?_
      refine L_cA 366 [.int _, .int (nI 4)] 4191 247142 (fun r h => by cases h) (a_part _ (by omega) (by omega)) dL_law_366 lk_315 hc_part hs_part hp_part rfl ⟨rfl, rfl⟩ ⟨Nat.le_of_ble_eq_true rfl, Nat.le_of_ble_eq_true rfl⟩ ⟨Nat.le_of_ble_eq_true rfl, Nat.le_of_ble_eq_true rfl⟩ rfl (Nat.le_of_ble_eq_true rfl) ?_
      rintro _ ⟨i, h_i, rfl⟩
      refine L_iload 369 1 dL_law_369 rfl ?_
      refine L_iload 371 0 dL_law_371 rfl ?_
      refine L_cW 373 [.ref 109, .int (nI nl), .int (nI i), .int (nI ja - 2), .int (nI jb - 2)] (by decide) (w_cornering _ _ _ _ _ _ (o_setCorner hS h_nl h_i ⟨d_co ja h_ja, d_co jb (by omega)⟩)) dL_law_373 lk_131 hc_cornering hs_cornering hp_cornering rfl ⟨rfl, rfl⟩ ⟨Nat.le_of_ble_eq_true rfl, Nat.le_of_ble_eq_true rfl⟩ ⟨Nat.le_of_ble_eq_true rfl, Nat.le_of_ble_eq_true rfl⟩ rfl (Nat.le_of_ble_eq_true rfl) ?_
      rintro _ V ⟨rfl, hS⟩
      refine L_goto 376 501 dL_law_376 (by decide) ?_
      exact J V _ _ _ f2 _ _ _ _ _ _ one_nn hS hf1 hf2
    refine L_iload 379 3 dL_law_379 rfl ?_
    refine L_bipush 381 (6) dL_law_381 (by decide) ?_
    refine L_icmp_ne 383 415 dL_law_383 (by decide) (fun c_k => ?_) (fun c_k => ?_)
    rotate_left
    · refine L_aload_n 386 9 dL_law_386 rfl rfl ?_
      refine L_iload 387 2 dL_law_387 rfl ?_
      refine L_iload 389 4 dL_law_389 rfl ?_
      refine L_bipush 391 (6) dL_law_391 (by decide) ?_
      refine L_ishr 393 dL_law_393 ?_
      refine L_iconst 394 (nI 3) dL_law_394 (by decide) ?_
      refine L_cA 395 [.int _, .int (nI 3)] 4191 247142 (fun r h => by cases h) (a_part _ (by omega) (by omega)) dL_law_395 lk_315 hc_part hs_part hp_part rfl ⟨rfl, rfl⟩ ⟨Nat.le_of_ble_eq_true rfl, Nat.le_of_ble_eq_true rfl⟩ ⟨Nat.le_of_ble_eq_true rfl, Nat.le_of_ble_eq_true rfl⟩ rfl (Nat.le_of_ble_eq_true rfl) ?_
      rintro _ ⟨p, h_p, rfl⟩
      refine L_iload 398 4 dL_law_398 rfl ?_
      refine L_bipush 400 (8) dL_law_400 (by decide) ?_
      refine L_ishr 402 dL_law_402 ?_
      refine L_sipush 403 (nI 256) dL_law_403 (by decide) ?_
      refine L_cA 406 [.int _, .int (nI 256)] 4191 247142 (fun r h => by cases h) (a_part _ (by omega) (by omega)) dL_law_406 lk_315 hc_part hs_part hp_part rfl ⟨rfl, rfl⟩ ⟨Nat.le_of_ble_eq_true rfl, Nat.le_of_ble_eq_true rfl⟩ ⟨Nat.le_of_ble_eq_true rfl, Nat.le_of_ble_eq_true rfl⟩ rfl (Nat.le_of_ble_eq_true rfl) ?_
      rintro _ ⟨q, h_q, rfl⟩
      refine L_cW 409 [.ref 109, .int (nI nl), .int (nI p), .int (nI q)] (by decide) (w_setting _ _ _ _ _ (o_setLamp hS h_nl h_p (d_lv p h_p q h_q))) dL_law_409 lk_139 hc_setting hs_setting hp_setting rfl ⟨rfl, rfl⟩ ⟨Nat.le_of_ble_eq_true rfl, Nat.le_of_ble_eq_true rfl⟩ ⟨Nat.le_of_ble_eq_true rfl, Nat.le_of_ble_eq_true rfl⟩ rfl (Nat.le_of_ble_eq_true rfl) ?_
      rintro _ V ⟨rfl, hS⟩
      refine L_goto 412 501 dL_law_412 (by decide) ?_
      exact J V _ _ _ f2 _ _ _ _ _ _ (lv_nn hRG h_nl h_p) hS hf1 hf2
    refine L_iload 415 3 dL_law_415 rfl ?_
    refine L_bipush 417 (7) dL_law_417 (by decide) ?_
    refine L_icmp_ne 419 448 dL_law_419 (by decide) (fun c_k => ?_) (fun c_k => ?_)
    rotate_left
    · refine L_aload_n 422 9 dL_law_422 rfl rfl ?_
      refine L_iload 423 2 dL_law_423 rfl ?_
      refine L_iload 425 4 dL_law_425 rfl ?_
      refine L_bipush 427 (6) dL_law_427 (by decide) ?_
      refine L_ishr 429 dL_law_429 ?_
      refine L_iconst 430 (2) dL_law_430 (by decide) ?_
      refine L_cA 431 [.int _, .int (nI 2)] 4191 247142 (fun r h => by cases h) (a_part _ (by omega) (by omega)) dL_law_431 lk_315 hc_part hs_part hp_part rfl ⟨rfl, rfl⟩ ⟨Nat.le_of_ble_eq_true rfl, Nat.le_of_ble_eq_true rfl⟩ ⟨Nat.le_of_ble_eq_true rfl, Nat.le_of_ble_eq_true rfl⟩ rfl (Nat.le_of_ble_eq_true rfl) ?_
      rintro _ ⟨p, h_p, rfl⟩
      have JW : ∀ z : Int32, XL (.inr (.inr ())) (some sc) 2 mL_law [] 4191 247142 442 [(10, .int (nI jb - 2)), (9, .int (nI ja - 2)), (8, .int (nI nl)), (7, .int (nI kd)), (6, .int x_158), (5, .int (nI k)), (4, .int (nI k)), (3, .ref 2), (2, .int hd), (1, .ref 109), (0, .ref 3)] [.int z, .int (nI nl), .ref 109] (V, f2) := by
        intro z
        refine L_cW 442 [.ref 109, .int (nI nl), .int z] (by decide) (w_working _ _ _ _ (o_setWorks hS h_nl)) dL_law_442 lk_142 hc_working hs_working hp_working rfl ⟨rfl, rfl⟩ ⟨Nat.le_of_ble_eq_true rfl, Nat.le_of_ble_eq_true rfl⟩ ⟨Nat.le_of_ble_eq_true rfl, Nat.le_of_ble_eq_true rfl⟩ rfl (Nat.le_of_ble_eq_true rfl) ?_
        rintro _ V ⟨rfl, hS⟩
        refine L_goto 445 501 dL_law_445 (by decide) ?_
        exact J V _ _ _ f2 _ _ _ _ _ _ one_nn hS hf1 hf2
      refine L_if_ne 434 441 dL_law_434 (by decide) (fun _ => ?_) (fun _ => ?_)
      · refine L_iconst 441 (0) dL_law_441 (by decide) ?_
        exact JW 0
      · refine L_iconst 437 (1) dL_law_437 (by decide) ?_
        refine L_goto 438 442 dL_law_438 (by decide) ?_
        exact JW 1
    refine L_iload 448 3 dL_law_448 rfl ?_
    refine L_bipush 450 (8) dL_law_450 (by decide) ?_
    refine L_icmp_ne 452 484 dL_law_452 (by decide) (fun c_k => ?_) (fun c_k => ?_)
    rotate_left
    · refine L_aload_n 455 9 dL_law_455 rfl rfl ?_
      refine L_iload 456 4 dL_law_456 rfl ?_
      refine L_bipush 458 (6) dL_law_458 (by decide) ?_
      refine L_ishr 460 dL_law_460 ?_
      refine L_iconst 461 (nI 5) dL_law_461 (by decide) ?_
      refine L_cA 462 [.int _, .int (nI 5)] 4191 247142 (fun r h => by cases h) (a_part _ (by omega) (by omega)) dL_law_462 lk_315 hc_part hs_part hp_part rfl ⟨rfl, rfl⟩ ⟨Nat.le_of_ble_eq_true rfl, Nat.le_of_ble_eq_true rfl⟩ ⟨Nat.le_of_ble_eq_true rfl, Nat.le_of_ble_eq_true rfl⟩ rfl (Nat.le_of_ble_eq_true rfl) ?_
      rintro _ ⟨p, h_p, rfl⟩
      refine L_iconst 465 (2) dL_law_465 (by decide) ?_
      refine L_isub 466 dL_law_466 ?_
      refine L_iload 467 4 dL_law_467 rfl ?_
      refine L_bipush 469 (8) dL_law_469 (by decide) ?_
      refine L_ishr 471 dL_law_471 ?_
      refine L_iconst 472 (nI 5) dL_law_472 (by decide) ?_
      refine L_cA 473 [.int _, .int (nI 5)] 4191 247142 (fun r h => by cases h) (a_part _ (by omega) (by omega)) dL_law_473 lk_315 hc_part hs_part hp_part rfl ⟨rfl, rfl⟩ ⟨Nat.le_of_ble_eq_true rfl, Nat.le_of_ble_eq_true rfl⟩ ⟨Nat.le_of_ble_eq_true rfl, Nat.le_of_ble_eq_true rfl⟩ rfl (Nat.le_of_ble_eq_true rfl) ?_
      rintro _ ⟨q, h_q, rfl⟩
      refine L_iconst 476 (2) dL_law_476 (by decide) ?_
      refine L_isub 477 dL_law_477 ?_
      refine L_cW 478 [.ref 109, .int (nI p - 2), .int (nI q - 2)] (by decide) (w_shifting _ _ _ _ (o_shift hS ⟨d_sh p h_p, d_sh q h_q⟩)) dL_law_478 lk_171 hc_shifting hs_shifting hp_shifting rfl ⟨rfl, rfl⟩ ⟨Nat.le_of_ble_eq_true rfl, Nat.le_of_ble_eq_true rfl⟩ ⟨Nat.le_of_ble_eq_true rfl, Nat.le_of_ble_eq_true rfl⟩ rfl (Nat.le_of_ble_eq_true rfl) ?_
      rintro _ V ⟨rfl, hS⟩
      refine L_goto 481 501 dL_law_481 (by decide) ?_
      exact J V _ _ _ f2 _ _ _ _ _ _ (pst_nn (cr_le hd8.1.2 hd8.2.1.2)) hS hf1 hf2
    · refine L_aload_n 484 9 dL_law_484 rfl rfl ?_
      refine L_iconst 485 (1) dL_law_485 (by decide) ?_
      refine L_iload 486 4 dL_law_486 rfl ?_
      refine L_bipush 488 (6) dL_law_488 (by decide) ?_
      refine L_ishr 490 dL_law_490 ?_
      refine L_sipush 491 (nI 400) dL_law_491 (by decide) ?_
      refine L_cA 494 [.int _, .int (nI 400)] 4191 247142 (fun r h => by cases h) (a_part _ (by omega) (by omega)) dL_law_494 lk_315 hc_part hs_part hp_part rfl ⟨rfl, rfl⟩ ⟨Nat.le_of_ble_eq_true rfl, Nat.le_of_ble_eq_true rfl⟩ ⟨Nat.le_of_ble_eq_true rfl, Nat.le_of_ble_eq_true rfl⟩ rfl (Nat.le_of_ble_eq_true rfl) ?_
      rintro _ ⟨p, h_p, rfl⟩
      refine L_iadd 497 dL_law_497 ?_
      refine L_cW 498 [.ref 109, .int (1 + nI p)] (by decide) (w_burning _ _ _ (o_burn hS (d_bu p h_p))) dL_law_498 lk_174 hc_burning hs_burning hp_burning rfl ⟨rfl, rfl⟩ ⟨Nat.le_of_ble_eq_true rfl, Nat.le_of_ble_eq_true rfl⟩ ⟨Nat.le_of_ble_eq_true rfl, Nat.le_of_ble_eq_true rfl⟩ rfl (Nat.le_of_ble_eq_true rfl) ?_
      rintro _ V ⟨rfl, hS⟩
      exact J V _ _ _ f2 _ _ _ _ _ _ (max_nn _) hS hf1 hf2
set_option maxHeartbeats 8000000 in
set_option maxRecDepth 100000 in
theorem law_99 {sc : Nat × (Nat → Int32)} (hL : sc.1 ≤ 260) {hd : Int32} {V S : Mm} {c r : Nat} {T : Nat → Mm} {f : Nat → Int64} (hS : ST V S c r 8 T 4 0 NB) : XL (.inr (.inr ())) (some sc) 1 mL_law [] 4087 246492 99 [(3, .int (nI 8)), (2, .int hd), (1, .ref 109), (0, .ref 3)] [] (V, f) := by
  refine L_aload_n 99 2 dL_law_99 rfl rfl ?_
  refine L_iconst 100 (1) dL_law_100 (by decide) ?_
  refine L_iconst 101 (1) dL_law_101 (by decide) ?_
  refine L_cT 102 [.ref 109, .int 1, .int 1] 4088 246498 (Nat.le_refl 1) (t_adding_3 1 1 V (x_X6_addLamp_State 1 1 V ⟨⟨⟨by decide, by decide⟩, ⟨by decide, by decide⟩⟩, by rw [hS.v0.2.2]; decide⟩)) dL_law_102 lk_168 hc_adding hs_adding hp_adding rfl ⟨rfl, rfl⟩ ⟨Nat.le_of_ble_eq_true rfl, Nat.le_of_ble_eq_true rfl⟩ ⟨Nat.le_of_ble_eq_true rfl, Nat.le_of_ble_eq_true rfl⟩ rfl (Nat.le_of_ble_eq_true rfl) ?_
  rintro _ _ ⟨rfl, rfl⟩
  refine L_sipush 105 (-3003) dL_law_105 (by decide) ?_
  refine L_icmp_ne 108 132 dL_law_108 (by decide) (fun c_0 => absurd rfl c_0) (fun _ => ?_)
  refine L_aload_n 111 2 dL_law_111 rfl rfl ?_
  refine L_sipush 112 (256) dL_law_112 (by decide) ?_
  refine L_iconst 115 (1) dL_law_115 (by decide) ?_
  refine L_cT 116 [.ref 109, .int 256, .int 1] 4089 246504 (Nat.le_refl 1) (t_adding_2 256 1 V (x_X6_addLamp_Argument 256 1 V (by unfold nlOK rgI; decide))) dL_law_116 lk_168 hc_adding hs_adding hp_adding rfl ⟨rfl, rfl⟩ ⟨Nat.le_of_ble_eq_true rfl, Nat.le_of_ble_eq_true rfl⟩ ⟨Nat.le_of_ble_eq_true rfl, Nat.le_of_ble_eq_true rfl⟩ rfl (Nat.le_of_ble_eq_true rfl) ?_
  rintro _ _ ⟨rfl, rfl⟩
  refine L_sipush 119 (-3002) dL_law_119 (by decide) ?_
  refine L_icmp_ne 122 132 dL_law_122 (by decide) (fun c_0 => absurd rfl c_0) (fun _ => ?_)
  refine L_aload_n 125 2 dL_law_125 rfl rfl ?_
  refine L_cT 126 [.ref 109] 4190 247110 (Nat.le_refl 1) (w_refused hS) dL_law_126 lk_294 hc_refused hs_refused hp_refused rfl ⟨rfl, rfl⟩ ⟨Nat.le_of_ble_eq_true rfl, Nat.le_of_ble_eq_true rfl⟩ ⟨Nat.le_of_ble_eq_true rfl, Nat.le_of_ble_eq_true rfl⟩ rfl (Nat.le_of_ble_eq_true rfl) ?_
  rintro _ V ⟨rfl, hS⟩
  refine L_if_ne 129 134 dL_law_129 (by decide) (fun _ => ?_) (fun c_0 => absurd c_0 (by decide))
  refine L_bipush 134 32 dL_law_134 (by decide) ?_
  refine L_newl 136 dL_law_136 ⟨Nat.le_of_ble_eq_true rfl, Nat.le_of_ble_eq_true rfl⟩ (fun _ _ => rfl) ?_
  refine L_astore_n 138 [(3, .ref _), (2, .int _), (1, .ref _), (0, .ref _)] dL_law_138 rfl (by decide) rfl ?_
  refine L_iconst 139 (nI 0) dL_law_139 (by decide) ?_
  refine L_istore 140 [(4, .int _), (3, .ref _), (2, .int _), (1, .ref _), (0, .ref _)] dL_law_140 (by decide) rfl ?_
  refine L_iconst 142 (nI 0) dL_law_142 (by decide) ?_
  refine L_istore 143 [(5, .int _), (4, .int _), (3, .ref _), (2, .int _), (1, .ref _), (0, .ref _)] dL_law_143 (by decide) rfl ?_
  exact law_145 hL 25 0 V S c r T _ (by omega) (by omega) hS (HI_0 _ _)
set_option maxHeartbeats 8000000 in
set_option maxRecDepth 100000 in
theorem law_51 {sc : Nat × (Nat → Int32)} (hL : sc.1 ≤ 260) {hd : Int32} : ∀ (kf n : Nat) (V S : Mm) (c r : Nat) (T : Nat → Mm) (f : Nat → Int64), n ≤ 8 → 8 < n + kf → ST V S c r n T (min (n + 1) 4) 0 NB → XL (.inr (.inr ())) (some sc) 1 mL_law [] 4087 246492 51 [(3, .int (nI n)), (2, .int hd), (1, .ref 109), (0, .ref 3)] [] (V, f) := by
  intro kf
  induction kf with
  | zero => intro n V S c r T f h1 h2; omega
  | succ kf ih =>
    intro n V S c r T f h1 h2 hS
    refine L_iload_n 51 0 dL_law_51 rfl rfl ?_
    refine L_bipush 52 (nI 8) dL_law_52 (by decide) ?_
    refine L_icmp_ge 54 99 dL_law_54 (by decide) (fun c_0 => ?_) (fun c_0 => ?_)
    · have e : n = 8 := by have := (nI_leI (by omega) (by omega)).mp c_0; omega
      subst e
      exact law_99 hL hS
    have hn : n < 8 := (nI_ltI (by omega) (by omega)).mp (Int32.not_le.mp c_0)
    refine L_aload_n 57 2 dL_law_57 rfl rfl ?_
    refine L_aload_n 58 3 dL_law_58 rfl rfl ?_
    refine L_iconst 59 (nI 2) dL_law_59 (by decide) ?_
    refine L_iload_n 60 0 dL_law_60 rfl rfl ?_
    refine L_iadd 61 dL_law_61 ?_
    rw [nI_add]
    refine L_cA 62 [.ref 3, .int (nI (2 + n))] 4087 246492 (fun r h => h) (a_take hL (by omega)) dL_law_62 lk_311 hc_take hs_take hp_take rfl ⟨rfl, rfl⟩ ⟨Nat.le_of_ble_eq_true rfl, Nat.le_of_ble_eq_true rfl⟩ ⟨Nat.le_of_ble_eq_true rfl, Nat.le_of_ble_eq_true rfl⟩ rfl (Nat.le_of_ble_eq_true rfl) ?_
    rintro x_62 _
    refine L_sipush 65 (nI 256) dL_law_65 (by decide) ?_
    refine L_cA 68 [.int _, .int (nI 256)] 4087 246492 (fun r h => by cases h) (a_part _ (by omega) (by omega)) dL_law_68 lk_315 hc_part hs_part hp_part rfl ⟨rfl, rfl⟩ ⟨Nat.le_of_ble_eq_true rfl, Nat.le_of_ble_eq_true rfl⟩ ⟨Nat.le_of_ble_eq_true rfl, Nat.le_of_ble_eq_true rfl⟩ rfl (Nat.le_of_ble_eq_true rfl) ?_
    rintro _ ⟨p, h_p, rfl⟩
    refine L_aload_n 71 3 dL_law_71 rfl rfl ?_
    refine L_bipush 72 (nI 10) dL_law_72 (by decide) ?_
    refine L_iload_n 74 0 dL_law_74 rfl rfl ?_
    refine L_iadd 75 dL_law_75 ?_
    rw [nI_add 10 n]
    refine L_cA 76 [.ref 3, .int (nI (10 + n))] 4087 246492 (fun r h => h) (a_take hL (by omega)) dL_law_76 lk_311 hc_take hs_take hp_take rfl ⟨rfl, rfl⟩ ⟨Nat.le_of_ble_eq_true rfl, Nat.le_of_ble_eq_true rfl⟩ ⟨Nat.le_of_ble_eq_true rfl, Nat.le_of_ble_eq_true rfl⟩ rfl (Nat.le_of_ble_eq_true rfl) ?_
    rintro x_76 _
    refine L_bipush 79 (nI 40) dL_law_79 (by decide) ?_
    refine L_cA 81 [.int _, .int (nI 40)] 4087 246492 (fun r h => by cases h) (a_part _ (by omega) (by omega)) dL_law_81 lk_315 hc_part hs_part hp_part rfl ⟨rfl, rfl⟩ ⟨Nat.le_of_ble_eq_true rfl, Nat.le_of_ble_eq_true rfl⟩ ⟨Nat.le_of_ble_eq_true rfl, Nat.le_of_ble_eq_true rfl⟩ rfl (Nat.le_of_ble_eq_true rfl) ?_
    rintro _ ⟨q, h_q, rfl⟩
    refine L_cW 84 [.ref 109, .int (nI p), .int (nI q)] (Nat.le_refl 1) (w_adding _ _ _ _ (o_addLamp hS ⟨rg_nI (n := 255) rfl (by decide) (by omega), rg_nI (n := 255) rfl (by decide) (by omega)⟩ hn)) dL_law_84 lk_168 hc_adding hs_adding hp_adding rfl ⟨rfl, rfl⟩ ⟨Nat.le_of_ble_eq_true rfl, Nat.le_of_ble_eq_true rfl⟩ ⟨Nat.le_of_ble_eq_true rfl, Nat.le_of_ble_eq_true rfl⟩ rfl (Nat.le_of_ble_eq_true rfl) ?_
    rintro _ V ⟨rfl, hS⟩
    rw [nx_min] at hS
    refine L_iload_n 87 0 dL_law_87 rfl rfl ?_
    refine L_icmp_eq 88 93 dL_law_88 (by decide) (fun _ => ?_) (fun c_1 => absurd rfl c_1)
    refine L_iinc 93 0 (nI (n + 1)) [(3, .int _), (2, .int _), (1, .ref _), (0, .ref _)] dL_law_93 rfl (nI_add n 1) (by decide) rfl ?_
    refine L_goto 96 51 dL_law_96 (by decide) ?_
    exact ih (n + 1) V _ c r _ _ (by omega) (by omega) hS
set_option maxHeartbeats 8000000 in
set_option maxRecDepth 100000 in
theorem law_0 {sc : Nat × (Nat → Int32)} (hL : sc.1 ≤ 260) (ω : WDt) : XL (.inr (.inr ())) (some sc) 0 mL_law [] 0 0 0 [(0, .ref 3)] [] ω := by
  refine L_cA 0 [] 3665 231276 (fun r h => by cases h) (a_texts) dL_law_0 lk_304 hc_texts hs_texts hp_texts rfl ⟨rfl, rfl⟩ ⟨Nat.le_of_ble_eq_true rfl, Nat.le_of_ble_eq_true rfl⟩ ⟨Nat.le_of_ble_eq_true rfl, Nat.le_of_ble_eq_true rfl⟩ rfl (Nat.le_of_ble_eq_true rfl) ?_
  rintro _ rfl
  refine L_if_eq 3 12 dL_law_3 (by decide) (fun c_0 => absurd c_0 (by decide)) (fun _ => ?_)
  refine L_cA 6 [] 3977 239490 (fun r h => by cases h) (a_known) dL_law_6 lk_308 hc_known hs_known hp_known rfl ⟨rfl, rfl⟩ ⟨Nat.le_of_ble_eq_true rfl, Nat.le_of_ble_eq_true rfl⟩ ⟨Nat.le_of_ble_eq_true rfl, Nat.le_of_ble_eq_true rfl⟩ rfl (Nat.le_of_ble_eq_true rfl) ?_
  rintro _ rfl
  refine L_if_ne 9 14 dL_law_9 (by decide) (fun _ => ?_) (fun c_0 => absurd c_0 (by decide))
  refine L_newC 14 dL_law_14 dL_law_17 dL_law_18 kz_c lk_191 ⟨Nat.le_of_ble_eq_true rfl, Nat.le_of_ble_eq_true rfl⟩ ⟨Nat.le_of_ble_eq_true rfl, Nat.le_of_ble_eq_true rfl⟩ (fun _ _ => rfl) (fun f => ?_)
  have hS := ST00 (fun _ => V0)
  refine L_astore_n 21 [(1, .ref _), (0, .ref _)] dL_law_21 rfl (by decide) rfl ?_
  refine L_aload_n 22 0 dL_law_22 rfl rfl ?_
  refine L_iconst 23 2 dL_law_23 (by decide) ?_
  refine L_aload_n 24 1 dL_law_24 rfl rfl ?_
  refine L_iconst 25 (nI 0) dL_law_25 (by decide) ?_
  refine L_cA 26 [.ref 3, .int (nI 0)] 4087 246492 (fun r h => h) (a_take hL (by decide)) dL_law_26 lk_311 hc_take hs_take hp_take rfl ⟨rfl, rfl⟩ ⟨Nat.le_of_ble_eq_true rfl, Nat.le_of_ble_eq_true rfl⟩ ⟨Nat.le_of_ble_eq_true rfl, Nat.le_of_ble_eq_true rfl⟩ rfl (Nat.le_of_ble_eq_true rfl) ?_
  rintro x_26 _
  refine L_iconst 29 (nI 5) dL_law_29 (by decide) ?_
  refine L_cA 30 [.int _, .int (nI 5)] 4087 246492 (fun r h => by cases h) (a_part _ (by omega) (by omega)) dL_law_30 lk_315 hc_part hs_part hp_part rfl ⟨rfl, rfl⟩ ⟨Nat.le_of_ble_eq_true rfl, Nat.le_of_ble_eq_true rfl⟩ ⟨Nat.le_of_ble_eq_true rfl, Nat.le_of_ble_eq_true rfl⟩ rfl (Nat.le_of_ble_eq_true rfl) ?_
  rintro _ ⟨p, h_p, rfl⟩
  refine L_iadd 33 dL_law_33 ?_
  refine L_iconst 34 2 dL_law_34 (by decide) ?_
  refine L_aload_n 35 1 dL_law_35 rfl rfl ?_
  refine L_iconst 36 (nI 1) dL_law_36 (by decide) ?_
  refine L_cA 37 [.ref 3, .int (nI 1)] 4087 246492 (fun r h => h) (a_take hL (by decide)) dL_law_37 lk_311 hc_take hs_take hp_take rfl ⟨rfl, rfl⟩ ⟨Nat.le_of_ble_eq_true rfl, Nat.le_of_ble_eq_true rfl⟩ ⟨Nat.le_of_ble_eq_true rfl, Nat.le_of_ble_eq_true rfl⟩ rfl (Nat.le_of_ble_eq_true rfl) ?_
  rintro x_37 _
  refine L_iconst 40 (nI 4) dL_law_40 (by decide) ?_
  refine L_cA 41 [.int _, .int (nI 4)] 4087 246492 (fun r h => by cases h) (a_part _ (by omega) (by omega)) dL_law_41 lk_315 hc_part hs_part hp_part rfl ⟨rfl, rfl⟩ ⟨Nat.le_of_ble_eq_true rfl, Nat.le_of_ble_eq_true rfl⟩ ⟨Nat.le_of_ble_eq_true rfl, Nat.le_of_ble_eq_true rfl⟩ rfl (Nat.le_of_ble_eq_true rfl) ?_
  rintro _ ⟨q, h_q, rfl⟩
  refine L_iadd 44 dL_law_44 ?_
  refine L_cW 45 [.ref 109, .int (2 + nI p), .int (2 + nI q)] (Nat.le_refl 1) (w_beginning _ _ _ _ (o_begin hS (d_wal2 p h_p q h_q))) dL_law_45 lk_165 hc_beginning hs_beginning hp_beginning rfl ⟨rfl, rfl⟩ ⟨Nat.le_of_ble_eq_true rfl, Nat.le_of_ble_eq_true rfl⟩ ⟨Nat.le_of_ble_eq_true rfl, Nat.le_of_ble_eq_true rfl⟩ rfl (Nat.le_of_ble_eq_true rfl) ?_
  rintro hd V ⟨_, hS⟩
  refine L_istore_n 48 [(2, .int _), (1, .ref _), (0, .ref _)] dL_law_48 rfl (by decide) rfl ?_
  refine L_iconst 49 (nI 0) dL_law_49 (by decide) ?_
  refine L_istore_n 50 [(3, .int _), (2, .int _), (1, .ref _), (0, .ref _)] dL_law_50 rfl (by decide) rfl ?_
  exact law_51 hL 9 0 V _ _ _ _ _ (by omega) (by omega) hS
