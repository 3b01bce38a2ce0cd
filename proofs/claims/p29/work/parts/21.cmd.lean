set_option maxHeartbeats 4000000 in
set_option maxRecDepth 100000 in
theorem e_X0_append (L : Nat) (v : Int32) (μ : Mm) (h : μ 102 2 = nI L) (hL : L < 150) : EvN ΛC mX0_append [.ref 102, .int v] μ (qI (fun x μ' => nI (L + 1) = x ∧ uM (uM μ 105 L v) 102 2 (nI (L + 1)) = μ')) := by
  refine EvN_ofQ (by decide +kernel) rfl (fun _ => rfl) (fun _ => Nat.le_of_ble_eq_true rfl) (ls := [(0, .ref 102), (1, .int v)]) ?_
  refine X_aload_n 0 0 dX0_append_0 rfl rfl ?_
  refine X_getR (f := 0) 1 dX0_append_1 lf_RX0_14 iw0 vc0 (by decide) lyC rfl ?_
  refine X_aload_n 4 0 dX0_append_4 rfl rfl ?_
  refine X_getI (f := 2) 5 dX0_append_5 lf_RX0_30 iw0 vc0 (by decide) lyC rfl ?_
  rw [h]
  refine X_iload_n 8 1 dX0_append_8 rfl rfl ?_
  refine X_cVV 9 [.int _, .int _] (e_X3_set 103 105 150 rC_by _ _ _) dX0_append_9 lm_RX0_33 2 ⟨wm_X3_set, by decide +kernel, rfl, rfl⟩ rfl ⟨Nat.le_of_ble_eq_true rfl, Nat.le_of_ble_eq_true rfl⟩ rC_by.1 vc3 rfl rfl (Nat.le_of_ble_eq_true rfl) ?_
  rintro _ rfl
  rw [stR_nI hL (by decide)]
  refine X_aload_n 12 0 dX0_append_12 rfl rfl ?_
  refine X_dupr 13 dX0_append_13 ?_
  refine X_getI (f := 2) 14 dX0_append_14 lf_RX0_30 iw0 vc0 (by decide) lyC rfl ?_
  refine X_iconst 17 (1) dX0_append_17 (by decide) ?_
  refine X_iadd 18 dX0_append_18 ?_
  rw [uM_n (by omega), h, nI_1]
  refine X_putI (f := 2) 19 dX0_append_19 lf_RX0_30 iw0 vc0 (by decide) lyC tyX0_ok nmX0 rfl rfl rfl (by decide) rfl rfl ?_
  refine X_aload_n 22 0 dX0_append_22 rfl rfl ?_
  refine X_getI (f := 2) 23 dX0_append_23 lf_RX0_30 iw0 vc0 (by decide) lyC rfl ?_
  refine X_iret 26 dX0_append_26 rfl rfl ⟨_, rfl, _, rfl, ?_⟩
  exact ⟨(uM_s _ _ _ _).symm, rfl⟩
set_option maxHeartbeats 4000000 in
set_option maxRecDepth 100000 in
theorem e_X0_empty  (μ : Mm) : EvN ΛC mX0_empty [.ref 102] μ (qI (fun x μ' => μ 102 2 = x ∧ setRow (uM μ 102 2 0) 105 150 (fun _ => 0) = μ')) := by
  refine EvN_ofQ (by decide +kernel) rfl (fun _ => rfl) (fun _ => Nat.le_of_ble_eq_true rfl) (ls := [(0, .ref 102)]) ?_
  refine X_aload_n 0 0 dX0_empty_0 rfl rfl ?_
  refine X_getI (f := 2) 1 dX0_empty_1 lf_RX0_30 iw0 vc0 (by decide) lyC rfl ?_
  refine X_istore_n 4 [(1, .int _), (0, .ref _)] dX0_empty_4 rfl (by decide) rfl ?_
  refine X_aload_n 5 1 dX0_empty_5 rfl rfl ?_
  refine X_iconst 6 (0) dX0_empty_6 (by decide) ?_
  refine X_putI (f := 2) 7 dX0_empty_7 lf_RX0_30 iw0 vc0 (by decide) lyC tyX0_ok nmX0 rfl rfl rfl (by decide) rfl rfl ?_
  refine X_aload_n 10 1 dX0_empty_10 rfl rfl ?_
  refine X_getR (f := 0) 11 dX0_empty_11 lf_RX0_14 iw0 vc0 (by decide) lyC rfl ?_
  refine X_cVV 14 [] (e_X3_clear 103 105 150 rC_by _) dX0_empty_14 lm_RX0_37 0 ⟨wm_X3_clear, by decide +kernel, rfl, rfl⟩ rfl ⟨Nat.le_of_ble_eq_true rfl, Nat.le_of_ble_eq_true rfl⟩ rC_by.1 vc3 rfl rfl (Nat.le_of_ble_eq_true rfl) ?_
  rintro _ rfl
  refine X_iload_n 17 0 dX0_empty_17 rfl rfl ?_
  refine X_iret 18 dX0_empty_18 rfl rfl ⟨_, rfl, _, rfl, ?_⟩
  exact ⟨rfl, rfl⟩
set_option maxHeartbeats 4000000 in
set_option maxRecDepth 100000 in
theorem e_X0_rewind  (μ : Mm) : EvN ΛC mX0_rewind [.ref 102] μ (qV (fun μ' => uM (uM μ 102 3 0) 102 4 (-1000) = μ')) := by
  refine EvN_ofQ (by decide +kernel) rfl (fun _ => rfl) (fun _ => Nat.le_of_ble_eq_true rfl) (ls := [(0, .ref 102)]) ?_
  refine X_aload_n 0 0 dX0_rewind_0 rfl rfl ?_
  refine X_iconst 1 (0) dX0_rewind_1 (by decide) ?_
  refine X_putI (f := 3) 2 dX0_rewind_2 lf_RX0_40 iw0 vc0 (by decide) lyC tyX0_ok nmX0 rfl rfl rfl (by decide) rfl rfl ?_
  refine X_aload_n 5 0 dX0_rewind_5 rfl rfl ?_
  refine X_sipush 6 (-1000) dX0_rewind_6 (by decide) ?_
  refine X_putI (f := 4) 9 dX0_rewind_9 lf_RX0_23 iw0 vc0 (by decide) lyC tyX0_ok nmX0 rfl rfl rfl (by decide) rfl rfl ?_
  refine X_vret 12 dX0_rewind_12 rfl ⟨_, rfl, rfl, ?_⟩
  rfl
set_option maxHeartbeats 4000000 in
set_option maxRecDepth 100000 in
theorem e_X0_number (k : Nat) (μ : Mm) (hk : k < 5) : EvN ΛC mX0_number [.ref 102, .int (nI k)] μ (qE (μ 106 k) μ) := by
  refine EvN_ofQ (by decide +kernel) rfl (fun _ => rfl) (fun _ => Nat.le_of_ble_eq_true rfl) (ls := [(0, .ref 102), (1, .int (nI k))]) ?_
  refine X_aload_n 0 0 dX0_number_0 rfl rfl ?_
  refine X_getR (f := 1) 1 dX0_number_1 lf_RX0_20 iw0 vc0 (by decide) lyC rfl ?_
  refine X_iload_n 4 1 dX0_number_4 rfl rfl ?_
  refine X_cVI 5 [.int _] (e_X3_get 104 106 5 rC_nu _ _) dX0_number_5 lm_RX0_64 1 ⟨wm_X3_get, by decide +kernel, rfl, rfl⟩ rfl ⟨Nat.le_of_ble_eq_true rfl, Nat.le_of_ble_eq_true rfl⟩ rC_nu.1 vc3 rfl rfl (Nat.le_of_ble_eq_true rfl) ?_
  rintro _ _ ⟨rfl, rfl⟩
  refine X_iret 8 dX0_number_8 rfl rfl ⟨_, rfl, _, rfl, ?_⟩
  exact ⟨by rw [gt_nI hk (by decide)], rfl⟩
set_option maxHeartbeats 4000000 in
set_option maxRecDepth 100000 in
theorem e_X0_skipSpaces (p : Nat) (f w : Int32) (n : Nat → Int32) (L : Nat) (μ : Mm) (hT : TX μ L) (hp : p ≤ L) : EvN ΛC mX0_skipSpaces [.ref 102] (cmM μ p f w n) (qV (fun μ' => cmM μ (sk (bt μ) p) f w n = μ')) := by
  refine EvN_ofQ (by decide +kernel) rfl (fun _ => rfl) (fun _ => Nat.le_of_ble_eq_true rfl) (ls := [(0, .ref 102)]) ?_
  have hL := hT.2.1
  have L_0 : ∀ (kf : Nat) (q : Nat), q ≤ L → L < q + kf → sk (bt μ) q = sk (bt μ) p → ∀  (μ0 : Mm), cmM μ q f w n = μ0 → X false ΛC mX0_skipSpaces (QN (qV (fun μ' => cmM μ (sk (bt μ) p) f w n = μ'))) 0 [(0, .ref 102)] [] μ0 := by
    intro kf
    induction kf with
    | zero => intro q hp0_0 hp0_1 hp0_2; exfalso; omega
    | succ kf ih_0 =>
      intro q hp0_0 hp0_1 hp0_2  μ0
      rintro rfl
      refine X_aload_n 0 0 dX0_skipSpaces_0 rfl rfl ?_
      refine X_getI (f := 3) 1 dX0_skipSpaces_1 lf_RX0_40 iw0 vc0 (by decide) lyC rfl ?_
      refine X_aload_n 4 0 dX0_skipSpaces_4 rfl rfl ?_
      refine X_getI (f := 2) 5 dX0_skipSpaces_5 lf_RX0_30 iw0 vc0 (by decide) lyC rfl ?_
      rw [cm_3, cm_2, hT.1]
      refine X_icmp_ge 8 40 dX0_skipSpaces_8 (by decide) (fun c_8 => ?_) (fun c_8 => ?_)
      · have hge : L ≤ q := c_ge rfl (by omega) (by omega) c_8
        have hq : sk (bt μ) p = q := by rw [← hp0_2, sk_st (by rw [hT.2.2 q hge]; decide)]
        refine X_vret 40 dX0_skipSpaces_40 rfl ⟨_, rfl, rfl, ?_⟩
        rw [hq]
      · have hlt : q < L := c_lt rfl (by omega) (by omega) c_8
        refine X_aload_n 11 0 dX0_skipSpaces_11 rfl rfl ?_
        refine X_getR (f := 0) 12 dX0_skipSpaces_12 lf_RX0_14 iw0 vc0 (by decide) lyC rfl ?_
        refine X_aload_n 15 0 dX0_skipSpaces_15 rfl rfl ?_
        refine X_getI (f := 3) 16 dX0_skipSpaces_16 lf_RX0_40 iw0 vc0 (by decide) lyC rfl ?_
        rw [cm_3]
        refine X_cVI 19 [.int _] (e_X3_get 103 105 150 rC_by _ _) dX0_skipSpaces_19 lm_RX0_64 1 ⟨wm_X3_get, by decide +kernel, rfl, rfl⟩ rfl ⟨Nat.le_of_ble_eq_true rfl, Nat.le_of_ble_eq_true rfl⟩ rC_by.1 vc3 rfl rfl (Nat.le_of_ble_eq_true rfl) ?_
        rintro _ _ ⟨rfl, rfl⟩
        rw [gt_bt (by omega), bt_cm]
        refine X_bipush 22 (32) dX0_skipSpaces_22 (by decide) ?_
        refine X_icmp_ne 24 40 dX0_skipSpaces_24 (by decide) (fun c_24 => ?_) (fun c_24 => ?_)
        · have hq : sk (bt μ) p = q := by rw [← hp0_2, sk_st c_24]
          refine X_vret 40 dX0_skipSpaces_40 rfl ⟨_, rfl, rfl, ?_⟩
          rw [hq]
        · refine X_aload_n 27 0 dX0_skipSpaces_27 rfl rfl ?_
          refine X_dupr 28 dX0_skipSpaces_28 ?_
          refine X_getI (f := 3) 29 dX0_skipSpaces_29 lf_RX0_40 iw0 vc0 (by decide) lyC rfl ?_
          refine X_iconst 32 (1) dX0_skipSpaces_32 (by decide) ?_
          rw [cm_3]
          refine X_iadd 33 dX0_skipSpaces_33 ?_
          rw [nI_1]
          refine X_putI (f := 3) 34 dX0_skipSpaces_34 lf_RX0_40 iw0 vc0 (by decide) lyC tyX0_ok nmX0 rfl rfl rfl (by decide) rfl rfl ?_
          refine X_goto 37 0 dX0_skipSpaces_37 (by decide) ?_
          exact ih_0 (q + 1) (by omega) (by omega) (by rw [sk_go (by omega) c_24]; exact hp0_2) _  (by exact (cm_u3 _ _ _ _ _ _).symm)
  exact L_0 (L + 1) p (by omega) (by omega) rfl _  (by rfl)
set_option maxHeartbeats 4000000 in
set_option maxRecDepth 100000 in
theorem e_X0_failAt (v : Int32) (μ : Mm) : EvN ΛC mX0_failAt [.ref 102, .int v] μ (qI (fun x μ' => 0 = x ∧ uM μ 102 4 v = μ')) := by
  refine EvN_ofQ (by decide +kernel) rfl (fun _ => rfl) (fun _ => Nat.le_of_ble_eq_true rfl) (ls := [(0, .ref 102), (1, .int v)]) ?_
  refine X_aload_n 0 0 dX0_failAt_0 rfl rfl ?_
  refine X_iload_n 1 1 dX0_failAt_1 rfl rfl ?_
  refine X_putI (f := 4) 2 dX0_failAt_2 lf_RX0_23 iw0 vc0 (by decide) lyC tyX0_ok nmX0 rfl rfl rfl (by decide) rfl rfl ?_
  refine X_iconst 5 (0) dX0_failAt_5 (by decide) ?_
  refine X_iret 6 dX0_failAt_6 rfl rfl ⟨_, rfl, _, rfl, ?_⟩
  exact ⟨rfl, rfl⟩
set_option maxHeartbeats 4000000 in
set_option maxRecDepth 100000 in
theorem e_X0_isDigit (v : Int32) (μ : Mm) : EvN ΛC mX0_isDigit [.int v] μ (qB (isDg v) μ) := by
  refine EvN_ofQ (by decide +kernel) rfl (fun _ => rfl) (fun _ => Nat.le_of_ble_eq_true rfl) (ls := [(0, .int v)]) ?_
  refine X_iload_n 0 0 dX0_isDigit_0 rfl rfl ?_
  refine X_bipush 1 (48) dX0_isDigit_1 (by decide) ?_
  refine X_bipush 3 (57) dX0_isDigit_3 (by decide) ?_
  refine X_cSI 5 [.int _, .int _, .int _] (e_X6_within _ _ _ _) dX0_isDigit_5 lm_RX0_70 3 ⟨wm_X6_within, by decide +kernel, rfl, rfl⟩ rfl ⟨Nat.le_of_ble_eq_true rfl, Nat.le_of_ble_eq_true rfl⟩ rfl (Nat.le_of_ble_eq_true rfl) ?_
  rintro _ _ ⟨rfl, ⟨rfl, b_5⟩ | ⟨rfl, b_5⟩⟩
  · refine X_iret 8 dX0_isDigit_8 rfl rfl ⟨_, rfl, _, rfl, ?_⟩
    refine ⟨rfl, Or.inl ⟨rfl, ?_⟩⟩
    (first | assumption | (simp_all; done))
  · refine X_iret 8 dX0_isDigit_8 rfl rfl ⟨_, rfl, _, rfl, ?_⟩
    refine ⟨rfl, Or.inr ⟨rfl, ?_⟩⟩
    (first | assumption | (simp_all; done))
set_option maxHeartbeats 4000000 in
set_option maxRecDepth 100000 in
theorem e_X0_isWord (i : Nat) (hi : i < nST) (s e : Nat) (μ : Mm) (hs : s ≤ e) (he : e ≤ 150) : EvN ΛC mX0_isWord [.ref 102, .ref (1000 + i), .int (nI s), .int (nI e)] μ (qB (isW (bt μ) s e i) μ) := by
  refine EvN_ofQ (by decide +kernel) rfl (fun _ => rfl) (fun _ => Nat.le_of_ble_eq_true rfl) (ls := [(0, .ref 102), (1, .ref (1000 + i)), (2, .int (nI s)), (3, .int (nI e))]) ?_
  have hl := lnS_lt hi
  refine X_aload_n 0 1 dX0_isWord_0 rfl rfl ?_
  refine X_ifnull 1 dX0_isWord_1 ?_
  refine X_aload_n 4 1 dX0_isWord_4 rfl rfl ?_
  refine X_cTI 5 [] (e_J0_length_8abf5 i (by first | assumption | decide) _) dX0_isWord_5 lm_RX0_101 0 ⟨wm_J0_length_8abf5, by decide +kernel, rfl, rfl⟩ rfl ⟨Nat.le_of_ble_eq_true rfl, Nat.le_of_ble_eq_true rfl⟩ (by first | assumption | decide) rfl rfl (Nat.le_of_ble_eq_true rfl) ?_
  rintro _ _ ⟨rfl, rfl⟩
  refine X_iload_n 8 3 dX0_isWord_8 rfl rfl ?_
  refine X_iload_n 9 2 dX0_isWord_9 rfl rfl ?_
  refine X_isub 10 dX0_isWord_10 ?_
  rw [nI_sub hs (by omega)]
  refine X_icmp_eq 11 16 dX0_isWord_11 (by decide) (fun c_11 => ?_) (fun c_11 => ?_)
  · have hlen : lnS i = e - s := (nI_eq (by omega) (by omega)).mp c_11
    refine X_iconst 16 (0) dX0_isWord_16 (by decide) ?_
    refine X_istore 17 [(4, .int _), (0, .ref _), (1, .ref _), (2, .int _), (3, .int _)] dX0_isWord_17 (by decide) rfl ?_
    refine X_sub [1, 2, 3, 4, 0] [(0, .ref _), (1, .ref _), (2, .int _), (3, .int _), (4, .int _)] rfl ?_
    have L_19 : ∀ (kf : Nat) (k : Nat), k ≤ lnS i → lnS i < k + kf → (∀ j, j < k → bt μ (s + j) = chS i j) → ∀ (x19_4 : Int32), nI k = x19_4 → X false ΛC mX0_isWord (QN (qB (isW (bt μ) s e i) μ)) 19 [(0, .ref 102), (1, .ref (1000 + i)), (2, .int (nI s)), (3, .int (nI e)), (4, .int x19_4)] [] μ := by
      intro kf
      induction kf with
      | zero => intro k hp19_0 hp19_1 hp19_2; exfalso; omega
      | succ kf ih_19 =>
        intro k hp19_0 hp19_1 hp19_2 x19_4
        rintro rfl
        refine X_iload 19 4 dX0_isWord_19 rfl ?_
        refine X_aload_n 21 1 dX0_isWord_21 rfl rfl ?_
        refine X_cTI 22 [] (e_J0_length_8abf5 i (by first | assumption | decide) _) dX0_isWord_22 lm_RX0_101 0 ⟨wm_J0_length_8abf5, by decide +kernel, rfl, rfl⟩ rfl ⟨Nat.le_of_ble_eq_true rfl, Nat.le_of_ble_eq_true rfl⟩ (by first | assumption | decide) rfl rfl (Nat.le_of_ble_eq_true rfl) ?_
        rintro _ _ ⟨rfl, rfl⟩
        refine X_icmp_ge 25 56 dX0_isWord_25 (by decide) (fun c_25 => ?_) (fun c_25 => ?_)
        · have hge : lnS i ≤ k := c_ge rfl (by omega) (by omega) c_25
          refine X_iconst 56 (1) dX0_isWord_56 (by decide) ?_
          refine X_iret 57 dX0_isWord_57 rfl rfl ⟨_, rfl, _, rfl, ?_⟩
          refine ⟨rfl, Or.inl ⟨rfl, ?_⟩⟩
          exact ⟨by omega, fun j hj => hp19_2 j (by omega)⟩
        · have hlt : k < lnS i := c_lt rfl (by omega) (by omega) c_25
          refine X_aload_n 28 0 dX0_isWord_28 rfl rfl ?_
          refine X_getR (f := 0) 29 dX0_isWord_29 lf_RX0_14 iw0 vc0 (by decide) lyC rfl ?_
          refine X_iload_n 32 2 dX0_isWord_32 rfl rfl ?_
          refine X_iload 33 4 dX0_isWord_33 rfl ?_
          refine X_iadd 35 dX0_isWord_35 ?_
          rw [nI_add]
          refine X_cVI 36 [.int _] (e_X3_get 103 105 150 rC_by _ _) dX0_isWord_36 lm_RX0_64 1 ⟨wm_X3_get, by decide +kernel, rfl, rfl⟩ rfl ⟨Nat.le_of_ble_eq_true rfl, Nat.le_of_ble_eq_true rfl⟩ rC_by.1 vc3 rfl rfl (Nat.le_of_ble_eq_true rfl) ?_
          rintro _ _ ⟨rfl, rfl⟩
          rw [gt_bt (by omega)]
          refine X_aload_n 39 1 dX0_isWord_39 rfl rfl ?_
          refine X_iload 40 4 dX0_isWord_40 rfl ?_
          refine X_cTI 42 [.int _] (e_J0_charAt_5068e i (by first | assumption | decide) _ _ (by first | omega | assumption)) dX0_isWord_42 lm_RX0_106 1 ⟨wm_J0_charAt_5068e, by decide +kernel, rfl, rfl⟩ rfl ⟨Nat.le_of_ble_eq_true rfl, Nat.le_of_ble_eq_true rfl⟩ (by first | assumption | decide) rfl rfl (Nat.le_of_ble_eq_true rfl) ?_
          rintro _ _ ⟨rfl, rfl⟩
          refine X_icmp_eq 45 50 dX0_isWord_45 (by decide) (fun c_45 => ?_) (fun c_45 => ?_)
          · refine X_iinc 50 4 (_ + 1) [(4, .int _), (0, .ref _), (1, .ref _), (2, .int _), (3, .int _)] dX0_isWord_50 rfl rfl (by decide) rfl ?_
            refine X_goto 53 19 dX0_isWord_53 (by decide) ?_
            refine X_sub [1, 2, 3, 4, 0] [(0, .ref _), (1, .ref _), (2, .int _), (3, .int _), (4, .int _)] rfl ?_
            exact ih_19 (k + 1) (by omega) (by omega) (fun j hj => by rcases Nat.lt_succ_iff_lt_or_eq.mp hj with q | rfl; exact hp19_2 j q; exact c_45) _  (by exact (nI_1 k).symm)
          · refine X_iconst 48 (0) dX0_isWord_48 (by decide) ?_
            refine X_iret 49 dX0_isWord_49 rfl rfl ⟨_, rfl, _, rfl, ?_⟩
            refine ⟨rfl, Or.inr ⟨rfl, ?_⟩⟩
            exact fun h => c_45 (h.2 k hlt)
    exact L_19 (lnS i + 1) 0 (by omega) (by omega) (fun j hj => absurd hj (Nat.not_lt_zero j)) _  (by exact nI_0)
  · refine X_iconst 14 (0) dX0_isWord_14 (by decide) ?_
    refine X_iret 15 dX0_isWord_15 rfl rfl ⟨_, rfl, _, rfl, ?_⟩
    refine ⟨rfl, Or.inr ⟨rfl, ?_⟩⟩
    exact fun h => c_11 (by rw [show e - s = lnS i by have := h.1; omega])
set_option maxHeartbeats 4000000 in
set_option maxRecDepth 100000 in
theorem e_X0_wordBetween (s e : Nat) (μ : Mm) (hs : s ≤ e) (he : e ≤ 150) : EvN ΛC mX0_wordBetween [.ref 102, .int (nI s), .int (nI e)] μ (qE (nI (wdOf (bt μ) s e)) μ) := by
  refine EvN_ofQ (by decide +kernel) rfl (fun _ => rfl) (fun _ => Nat.le_of_ble_eq_true rfl) (ls := [(0, .ref 102), (1, .int (nI s)), (2, .int (nI e))]) ?_
  refine X_aload_n 0 0 dX0_wordBetween_0 rfl rfl ?_
  refine X_ldcS (i := 0) 1 dX0_wordBetween_1 (List.mem_of_getElem? (i := 0) rfl) ?_
  refine X_iload_n 3 1 dX0_wordBetween_3 rfl rfl ?_
  refine X_iload_n 4 2 dX0_wordBetween_4 rfl rfl ?_
  refine X_cVI 5 [.ref _, .int _, .int _] (e_X0_isWord 0 (by first | assumption | decide) _ _ _ (by first | omega | assumption) (by first | omega | assumption)) dX0_wordBetween_5 lm_RX0_83 3 ⟨wm_X0_isWord, by decide +kernel, rfl, rfl⟩ rfl ⟨Nat.le_of_ble_eq_true rfl, Nat.le_of_ble_eq_true rfl⟩ lyC vc0 rfl rfl (Nat.le_of_ble_eq_true rfl) ?_
  rintro _ _ ⟨rfl, ⟨rfl, b_5⟩ | ⟨rfl, b_5⟩⟩
  · refine X_if_eq 8 13 dX0_wordBetween_8 (by decide) (fun c_0 => by exact absurd c_0 (by decide)) (fun _ => ?_)
    refine X_iconst 11 (1) dX0_wordBetween_11 (by decide) ?_
    refine X_iret 12 dX0_wordBetween_12 rfl rfl ⟨_, rfl, _, rfl, ?_⟩
    exact ⟨by rw [wdOf, pI_t b_5]; first | rfl | done, rfl⟩
  · refine X_if_eq 8 13 dX0_wordBetween_8 (by decide) (fun _ => ?_) (fun c_0 => by exact absurd c_0 (by decide))
    refine X_aload_n 13 0 dX0_wordBetween_13 rfl rfl ?_
    refine X_ldcS (i := 1) 14 dX0_wordBetween_14 (List.mem_of_getElem? (i := 1) rfl) ?_
    refine X_iload_n 16 1 dX0_wordBetween_16 rfl rfl ?_
    refine X_iload_n 17 2 dX0_wordBetween_17 rfl rfl ?_
    refine X_cVI 18 [.ref _, .int _, .int _] (e_X0_isWord 1 (by first | assumption | decide) _ _ _ (by first | omega | assumption) (by first | omega | assumption)) dX0_wordBetween_18 lm_RX0_83 3 ⟨wm_X0_isWord, by decide +kernel, rfl, rfl⟩ rfl ⟨Nat.le_of_ble_eq_true rfl, Nat.le_of_ble_eq_true rfl⟩ lyC vc0 rfl rfl (Nat.le_of_ble_eq_true rfl) ?_
    rintro _ _ ⟨rfl, ⟨rfl, b_18⟩ | ⟨rfl, b_18⟩⟩
    · refine X_if_eq 21 26 dX0_wordBetween_21 (by decide) (fun c_0 => by exact absurd c_0 (by decide)) (fun _ => ?_)
      refine X_iconst 24 (2) dX0_wordBetween_24 (by decide) ?_
      refine X_iret 25 dX0_wordBetween_25 rfl rfl ⟨_, rfl, _, rfl, ?_⟩
      exact ⟨by rw [wdOf, pI_f b_5, pI_t b_18]; first | rfl | done, rfl⟩
    · refine X_if_eq 21 26 dX0_wordBetween_21 (by decide) (fun _ => ?_) (fun c_0 => by exact absurd c_0 (by decide))
      refine X_aload_n 26 0 dX0_wordBetween_26 rfl rfl ?_
      refine X_ldcS (i := 2) 27 dX0_wordBetween_27 (List.mem_of_getElem? (i := 2) rfl) ?_
      refine X_iload_n 29 1 dX0_wordBetween_29 rfl rfl ?_
      refine X_iload_n 30 2 dX0_wordBetween_30 rfl rfl ?_
      refine X_cVI 31 [.ref _, .int _, .int _] (e_X0_isWord 2 (by first | assumption | decide) _ _ _ (by first | omega | assumption) (by first | omega | assumption)) dX0_wordBetween_31 lm_RX0_83 3 ⟨wm_X0_isWord, by decide +kernel, rfl, rfl⟩ rfl ⟨Nat.le_of_ble_eq_true rfl, Nat.le_of_ble_eq_true rfl⟩ lyC vc0 rfl rfl (Nat.le_of_ble_eq_true rfl) ?_
      rintro _ _ ⟨rfl, ⟨rfl, b_31⟩ | ⟨rfl, b_31⟩⟩
      · refine X_if_eq 34 39 dX0_wordBetween_34 (by decide) (fun c_0 => by exact absurd c_0 (by decide)) (fun _ => ?_)
        refine X_iconst 37 (3) dX0_wordBetween_37 (by decide) ?_
        refine X_iret 38 dX0_wordBetween_38 rfl rfl ⟨_, rfl, _, rfl, ?_⟩
        exact ⟨by rw [wdOf, pI_f b_5, pI_f b_18, pI_t b_31]; first | rfl | done, rfl⟩
      · refine X_if_eq 34 39 dX0_wordBetween_34 (by decide) (fun _ => ?_) (fun c_0 => by exact absurd c_0 (by decide))
        refine X_aload_n 39 0 dX0_wordBetween_39 rfl rfl ?_
        refine X_ldcS (i := 3) 40 dX0_wordBetween_40 (List.mem_of_getElem? (i := 3) rfl) ?_
        refine X_iload_n 42 1 dX0_wordBetween_42 rfl rfl ?_
        refine X_iload_n 43 2 dX0_wordBetween_43 rfl rfl ?_
        refine X_cVI 44 [.ref _, .int _, .int _] (e_X0_isWord 3 (by first | assumption | decide) _ _ _ (by first | omega | assumption) (by first | omega | assumption)) dX0_wordBetween_44 lm_RX0_83 3 ⟨wm_X0_isWord, by decide +kernel, rfl, rfl⟩ rfl ⟨Nat.le_of_ble_eq_true rfl, Nat.le_of_ble_eq_true rfl⟩ lyC vc0 rfl rfl (Nat.le_of_ble_eq_true rfl) ?_
        rintro _ _ ⟨rfl, ⟨rfl, b_44⟩ | ⟨rfl, b_44⟩⟩
        · refine X_if_eq 47 52 dX0_wordBetween_47 (by decide) (fun c_0 => by exact absurd c_0 (by decide)) (fun _ => ?_)
          refine X_iconst 50 (4) dX0_wordBetween_50 (by decide) ?_
          refine X_iret 51 dX0_wordBetween_51 rfl rfl ⟨_, rfl, _, rfl, ?_⟩
          exact ⟨by rw [wdOf, pI_f b_5, pI_f b_18, pI_f b_31, pI_t b_44]; first | rfl | done, rfl⟩
        · refine X_if_eq 47 52 dX0_wordBetween_47 (by decide) (fun _ => ?_) (fun c_0 => by exact absurd c_0 (by decide))
          refine X_aload_n 52 0 dX0_wordBetween_52 rfl rfl ?_
          refine X_ldcS (i := 4) 53 dX0_wordBetween_53 (List.mem_of_getElem? (i := 4) rfl) ?_
          refine X_iload_n 55 1 dX0_wordBetween_55 rfl rfl ?_
          refine X_iload_n 56 2 dX0_wordBetween_56 rfl rfl ?_
          refine X_cVI 57 [.ref _, .int _, .int _] (e_X0_isWord 4 (by first | assumption | decide) _ _ _ (by first | omega | assumption) (by first | omega | assumption)) dX0_wordBetween_57 lm_RX0_83 3 ⟨wm_X0_isWord, by decide +kernel, rfl, rfl⟩ rfl ⟨Nat.le_of_ble_eq_true rfl, Nat.le_of_ble_eq_true rfl⟩ lyC vc0 rfl rfl (Nat.le_of_ble_eq_true rfl) ?_
          rintro _ _ ⟨rfl, ⟨rfl, b_57⟩ | ⟨rfl, b_57⟩⟩
          · refine X_if_eq 60 65 dX0_wordBetween_60 (by decide) (fun c_0 => by exact absurd c_0 (by decide)) (fun _ => ?_)
            refine X_iconst 63 (5) dX0_wordBetween_63 (by decide) ?_
            refine X_iret 64 dX0_wordBetween_64 rfl rfl ⟨_, rfl, _, rfl, ?_⟩
            exact ⟨by rw [wdOf, pI_f b_5, pI_f b_18, pI_f b_31, pI_f b_44, pI_t b_57]; first | rfl | done, rfl⟩
          · refine X_if_eq 60 65 dX0_wordBetween_60 (by decide) (fun _ => ?_) (fun c_0 => by exact absurd c_0 (by decide))
            refine X_aload_n 65 0 dX0_wordBetween_65 rfl rfl ?_
            refine X_ldcS (i := 5) 66 dX0_wordBetween_66 (List.mem_of_getElem? (i := 5) rfl) ?_
            refine X_iload_n 68 1 dX0_wordBetween_68 rfl rfl ?_
            refine X_iload_n 69 2 dX0_wordBetween_69 rfl rfl ?_
            refine X_cVI 70 [.ref _, .int _, .int _] (e_X0_isWord 5 (by first | assumption | decide) _ _ _ (by first | omega | assumption) (by first | omega | assumption)) dX0_wordBetween_70 lm_RX0_83 3 ⟨wm_X0_isWord, by decide +kernel, rfl, rfl⟩ rfl ⟨Nat.le_of_ble_eq_true rfl, Nat.le_of_ble_eq_true rfl⟩ lyC vc0 rfl rfl (Nat.le_of_ble_eq_true rfl) ?_
            rintro _ _ ⟨rfl, ⟨rfl, b_70⟩ | ⟨rfl, b_70⟩⟩
            · refine X_if_eq 73 79 dX0_wordBetween_73 (by decide) (fun c_0 => by exact absurd c_0 (by decide)) (fun _ => ?_)
              refine X_bipush 76 (6) dX0_wordBetween_76 (by decide) ?_
              refine X_iret 78 dX0_wordBetween_78 rfl rfl ⟨_, rfl, _, rfl, ?_⟩
              exact ⟨by rw [wdOf, pI_f b_5, pI_f b_18, pI_f b_31, pI_f b_44, pI_f b_57, pI_t b_70]; first | rfl | done, rfl⟩
            · refine X_if_eq 73 79 dX0_wordBetween_73 (by decide) (fun _ => ?_) (fun c_0 => by exact absurd c_0 (by decide))
              refine X_aload_n 79 0 dX0_wordBetween_79 rfl rfl ?_
              refine X_ldcS (i := 6) 80 dX0_wordBetween_80 (List.mem_of_getElem? (i := 6) rfl) ?_
              refine X_iload_n 82 1 dX0_wordBetween_82 rfl rfl ?_
              refine X_iload_n 83 2 dX0_wordBetween_83 rfl rfl ?_
              refine X_cVI 84 [.ref _, .int _, .int _] (e_X0_isWord 6 (by first | assumption | decide) _ _ _ (by first | omega | assumption) (by first | omega | assumption)) dX0_wordBetween_84 lm_RX0_83 3 ⟨wm_X0_isWord, by decide +kernel, rfl, rfl⟩ rfl ⟨Nat.le_of_ble_eq_true rfl, Nat.le_of_ble_eq_true rfl⟩ lyC vc0 rfl rfl (Nat.le_of_ble_eq_true rfl) ?_
              rintro _ _ ⟨rfl, ⟨rfl, b_84⟩ | ⟨rfl, b_84⟩⟩
              · refine X_if_eq 87 93 dX0_wordBetween_87 (by decide) (fun c_0 => by exact absurd c_0 (by decide)) (fun _ => ?_)
                refine X_bipush 90 (7) dX0_wordBetween_90 (by decide) ?_
                refine X_iret 92 dX0_wordBetween_92 rfl rfl ⟨_, rfl, _, rfl, ?_⟩
                exact ⟨by rw [wdOf, pI_f b_5, pI_f b_18, pI_f b_31, pI_f b_44, pI_f b_57, pI_f b_70, pI_t b_84]; first | rfl | done, rfl⟩
              · refine X_if_eq 87 93 dX0_wordBetween_87 (by decide) (fun _ => ?_) (fun c_0 => by exact absurd c_0 (by decide))
                refine X_aload_n 93 0 dX0_wordBetween_93 rfl rfl ?_
                refine X_ldcS (i := 7) 94 dX0_wordBetween_94 (List.mem_of_getElem? (i := 7) rfl) ?_
                refine X_iload_n 96 1 dX0_wordBetween_96 rfl rfl ?_
                refine X_iload_n 97 2 dX0_wordBetween_97 rfl rfl ?_
                refine X_cVI 98 [.ref _, .int _, .int _] (e_X0_isWord 7 (by first | assumption | decide) _ _ _ (by first | omega | assumption) (by first | omega | assumption)) dX0_wordBetween_98 lm_RX0_83 3 ⟨wm_X0_isWord, by decide +kernel, rfl, rfl⟩ rfl ⟨Nat.le_of_ble_eq_true rfl, Nat.le_of_ble_eq_true rfl⟩ lyC vc0 rfl rfl (Nat.le_of_ble_eq_true rfl) ?_
                rintro _ _ ⟨rfl, ⟨rfl, b_98⟩ | ⟨rfl, b_98⟩⟩
                · refine X_if_eq 101 109 dX0_wordBetween_101 (by decide) (fun c_0 => by exact absurd c_0 (by decide)) (fun _ => ?_)
                  refine X_bipush 104 (8) dX0_wordBetween_104 (by decide) ?_
                  refine X_goto 106 110 dX0_wordBetween_106 (by decide) ?_
                  refine X_iret 110 dX0_wordBetween_110 rfl rfl ⟨_, rfl, _, rfl, ?_⟩
                  first | exact ⟨by rw [wdOf, pI_f b_5, pI_f b_18, pI_f b_31, pI_f b_44, pI_f b_57, pI_f b_70, pI_f b_84, pI_t b_98]; first | rfl | done, rfl⟩ | exact ⟨by rw [wdOf, pI_f b_5, pI_f b_18, pI_f b_31, pI_f b_44, pI_f b_57, pI_f b_70, pI_f b_84, pI_f b_98]; first | rfl | done, rfl⟩
                · refine X_if_eq 101 109 dX0_wordBetween_101 (by decide) (fun _ => ?_) (fun c_0 => by exact absurd c_0 (by decide))
                  refine X_iconst 109 (0) dX0_wordBetween_109 (by decide) ?_
                  refine X_iret 110 dX0_wordBetween_110 rfl rfl ⟨_, rfl, _, rfl, ?_⟩
                  first | exact ⟨by rw [wdOf, pI_f b_5, pI_f b_18, pI_f b_31, pI_f b_44, pI_f b_57, pI_f b_70, pI_f b_84, pI_t b_98]; first | rfl | done, rfl⟩ | exact ⟨by rw [wdOf, pI_f b_5, pI_f b_18, pI_f b_31, pI_f b_44, pI_f b_57, pI_f b_70, pI_f b_84, pI_f b_98]; first | rfl | done, rfl⟩
set_option maxHeartbeats 4000000 in
set_option maxRecDepth 100000 in
theorem e_X0_numbersOf (v : Nat) (μ : Mm) (hv : v ≤ 8) : EvN ΛC mX0_numbersOf [.int (nI v)] μ (qE (nI (nOf v)) μ) := by
  refine EvN_ofQ (by decide +kernel) rfl (fun _ => rfl) (fun _ => Nat.le_of_ble_eq_true rfl) (ls := [(0, .int (nI v))]) ?_
  refine X_iload_n 0 0 dX0_numbersOf_0 rfl rfl ?_
  rcases (show v = 0 ∨ v = 1 ∨ v = 2 ∨ v = 3 ∨ v = 4 ∨ v = 5 ∨ v = 6 ∨ v = 7 ∨ v = 8 by omega) with rfl | rfl | rfl | rfl | rfl | rfl | rfl | rfl | rfl
  · refine X_tabOut 1 42 dX0_numbersOf_1 (by decide) (by decide) ?_
    refine X_iconst 42 (1) dX0_numbersOf_42 (by decide) ?_
    refine X_iret 43 dX0_numbersOf_43 rfl rfl ⟨_, rfl, _, rfl, ?_⟩
    exact ⟨by decide, rfl⟩
  · refine X_tabIn (off := 39) 1 40 dX0_numbersOf_1 (by decide) (by decide) (by decide +kernel) (by decide) ?_
    refine X_iconst 40 (2) dX0_numbersOf_40 (by decide) ?_
    refine X_iret 41 dX0_numbersOf_41 rfl rfl ⟨_, rfl, _, rfl, ?_⟩
    exact ⟨by decide, rfl⟩
  · refine X_tabIn (off := 35) 1 36 dX0_numbersOf_1 (by decide) (by decide) (by decide +kernel) (by decide) ?_
    refine X_iconst 36 (5) dX0_numbersOf_36 (by decide) ?_
    refine X_iret 37 dX0_numbersOf_37 rfl rfl ⟨_, rfl, _, rfl, ?_⟩
    exact ⟨by decide, rfl⟩
  · refine X_tabIn (off := 39) 1 40 dX0_numbersOf_1 (by decide) (by decide) (by decide +kernel) (by decide) ?_
    refine X_iconst 40 (2) dX0_numbersOf_40 (by decide) ?_
    refine X_iret 41 dX0_numbersOf_41 rfl rfl ⟨_, rfl, _, rfl, ?_⟩
    exact ⟨by decide, rfl⟩
  · refine X_tabIn (off := 37) 1 38 dX0_numbersOf_1 (by decide) (by decide) (by decide +kernel) (by decide) ?_
    refine X_iconst 38 (4) dX0_numbersOf_38 (by decide) ?_
    refine X_iret 39 dX0_numbersOf_39 rfl rfl ⟨_, rfl, _, rfl, ?_⟩
    exact ⟨by decide, rfl⟩
  · refine X_tabIn (off := 39) 1 40 dX0_numbersOf_1 (by decide) (by decide) (by decide +kernel) (by decide) ?_
    refine X_iconst 40 (2) dX0_numbersOf_40 (by decide) ?_
    refine X_iret 41 dX0_numbersOf_41 rfl rfl ⟨_, rfl, _, rfl, ?_⟩
    exact ⟨by decide, rfl⟩
  · refine X_tabOut 1 42 dX0_numbersOf_1 (by decide) (by decide) ?_
    refine X_iconst 42 (1) dX0_numbersOf_42 (by decide) ?_
    refine X_iret 43 dX0_numbersOf_43 rfl rfl ⟨_, rfl, _, rfl, ?_⟩
    exact ⟨by decide, rfl⟩
  · refine X_tabOut 1 42 dX0_numbersOf_1 (by decide) (by decide) ?_
    refine X_iconst 42 (1) dX0_numbersOf_42 (by decide) ?_
    refine X_iret 43 dX0_numbersOf_43 rfl rfl ⟨_, rfl, _, rfl, ?_⟩
    exact ⟨by decide, rfl⟩
  · refine X_tabOut 1 42 dX0_numbersOf_1 (by decide) (by decide) ?_
    refine X_iconst 42 (1) dX0_numbersOf_42 (by decide) ?_
    refine X_iret 43 dX0_numbersOf_43 rfl rfl ⟨_, rfl, _, rfl, ?_⟩
    exact ⟨by decide, rfl⟩
set_option maxHeartbeats 4000000 in
set_option maxRecDepth 100000 in
theorem e_X0_readWord (p : Nat) (f w : Int32) (n : Nat → Int32) (L : Nat) (μ : Mm) (hT : TX μ L) (hp : p ≤ L) : EvN ΛC mX0_readWord [.ref 102] (cmM μ p f w n) (qI (fun x μ' => (x = 1 ∧ ¬ wdOf (bt μ) p (lt (bt μ) p) = 0 ∧ cmM μ (lt (bt μ) p) f (nI (wdOf (bt μ) p (lt (bt μ) p))) n = μ') ∨ (x = 0 ∧ wdOf (bt μ) p (lt (bt μ) p) = 0 ∧ cmM μ (lt (bt μ) p) (nI p) 0 n = μ'))) := by
  refine EvN_ofQ (by decide +kernel) rfl (fun _ => rfl) (fun _ => Nat.le_of_ble_eq_true rfl) (ls := [(0, .ref 102)]) ?_
  have hL := hT.2.1
  have hb := lt_bd hT.2.2 hp
  refine X_aload_n 0 0 dX0_readWord_0 rfl rfl ?_
  refine X_getI (f := 3) 1 dX0_readWord_1 lf_RX0_40 iw0 vc0 (by decide) lyC rfl ?_
  rw [cm_3]
  refine X_istore_n 4 [(1, .int _), (0, .ref _)] dX0_readWord_4 rfl (by decide) rfl ?_
  refine X_sub [1, 0] [(0, .ref _), (1, .int _)] rfl ?_
  have L_5 : ∀ (kf : Nat) (q : Nat), q ≤ L → L < q + kf → lt (bt μ) q = lt (bt μ) p → ∀  (μ5 : Mm), cmM μ q f w n = μ5 → X false ΛC mX0_readWord (QN (qI (fun x μ' => (x = 1 ∧ ¬ wdOf (bt μ) p (lt (bt μ) p) = 0 ∧ cmM μ (lt (bt μ) p) f (nI (wdOf (bt μ) p (lt (bt μ) p))) n = μ') ∨ (x = 0 ∧ wdOf (bt μ) p (lt (bt μ) p) = 0 ∧ cmM μ (lt (bt μ) p) (nI p) 0 n = μ')))) 5 [(0, .ref 102), (1, .int (nI p))] [] μ5 := by
    intro kf
    induction kf with
    | zero => intro q hp5_0 hp5_1 hp5_2; exfalso; omega
    | succ kf ih_5 =>
      intro q hp5_0 hp5_1 hp5_2  μ5
      rintro rfl
      refine X_aload_n 5 0 dX0_readWord_5 rfl rfl ?_
      refine X_getI (f := 3) 6 dX0_readWord_6 lf_RX0_40 iw0 vc0 (by decide) lyC rfl ?_
      refine X_aload_n 9 0 dX0_readWord_9 rfl rfl ?_
      refine X_getI (f := 2) 10 dX0_readWord_10 lf_RX0_30 iw0 vc0 (by decide) lyC rfl ?_
      rw [cm_3, cm_2, hT.1]
      refine X_icmp_ge 13 50 dX0_readWord_13 (by decide) (fun c_13 => ?_) (fun c_13 => ?_)
      · have hge : L ≤ q := c_ge rfl (by omega) (by omega) c_13
        have hq : lt (bt μ) p = q := by rw [← hp5_2, lt_st (by rw [hT.2.2 q hge]; decide)]
        rw [hq] at hb
        refine X_aload_n 50 0 dX0_readWord_50 rfl rfl ?_
        refine X_aload_n 51 0 dX0_readWord_51 rfl rfl ?_
        refine X_iload_n 52 1 dX0_readWord_52 rfl rfl ?_
        refine X_aload_n 53 0 dX0_readWord_53 rfl rfl ?_
        refine X_getI (f := 3) 54 dX0_readWord_54 lf_RX0_40 iw0 vc0 (by decide) lyC rfl ?_
        rw [cm_3]
        refine X_cVI 57 [.int _, .int _] (e_X0_wordBetween _ _ _ (by first | omega | assumption) (by first | omega | assumption)) dX0_readWord_57 lm_RX0_74 2 ⟨wm_X0_wordBetween, by decide +kernel, rfl, rfl⟩ rfl ⟨Nat.le_of_ble_eq_true rfl, Nat.le_of_ble_eq_true rfl⟩ lyC vc0 rfl rfl (Nat.le_of_ble_eq_true rfl) ?_
        rintro _ _ ⟨rfl, rfl⟩
        rw [bt_cm]
        refine X_putI (f := 5) 60 dX0_readWord_60 lf_RX0_27 iw0 vc0 (by decide) lyC tyX0_ok nmX0 rfl rfl rfl (by decide) rfl rfl ?_
        rw [cm_u5]
        refine X_aload_n 63 0 dX0_readWord_63 rfl rfl ?_
        refine X_getI (f := 5) 64 dX0_readWord_64 lf_RX0_27 iw0 vc0 (by decide) lyC rfl ?_
        rw [cm_5]
        refine X_if_ne 67 78 dX0_readWord_67 (by decide) (fun c_67 => ?_) (fun c_67 => ?_)
        · refine X_iconst 78 (1) dX0_readWord_78 (by decide) ?_
          refine X_goto 79 83 dX0_readWord_79 (by decide) ?_
          refine X_iret 83 dX0_readWord_83 rfl rfl ⟨_, rfl, _, rfl, ?_⟩
          refine Or.inl ⟨rfl, ?_⟩
          rw [hq]
          first | exact ⟨fun z => c_67 (by rw [z]; rfl), rfl⟩ | exact ⟨hw0, by rw [hw0]; rfl⟩
        · have hw0 : wdOf (bt μ) p q = 0 := (nI_eq (by have := wdOf_le (bt μ) p q; omega) (by decide)).mp c_67
          refine X_aload_n 70 0 dX0_readWord_70 rfl rfl ?_
          refine X_iload_n 71 1 dX0_readWord_71 rfl rfl ?_
          refine X_cVI 72 [.int _] (e_X0_failAt _ _) dX0_readWord_72 lm_RX0_67 1 ⟨wm_X0_failAt, by decide +kernel, rfl, rfl⟩ rfl ⟨Nat.le_of_ble_eq_true rfl, Nat.le_of_ble_eq_true rfl⟩ lyC vc0 rfl rfl (Nat.le_of_ble_eq_true rfl) ?_
          rintro _ _ ⟨rfl, rfl⟩
          rw [cm_u4]
          refine X_if_eq 75 82 dX0_readWord_75 (by decide) (fun _ => ?_) (fun c_0 => by exact absurd c_0 (by decide))
          refine X_iconst 82 (0) dX0_readWord_82 (by decide) ?_
          refine X_iret 83 dX0_readWord_83 rfl rfl ⟨_, rfl, _, rfl, ?_⟩
          refine Or.inr ⟨rfl, ?_⟩
          rw [hq]
          first | exact ⟨fun z => c_67 (by rw [z]; rfl), rfl⟩ | exact ⟨hw0, by rw [hw0]; rfl⟩
      · have hlt : q < L := c_lt rfl (by omega) (by omega) c_13
        refine X_aload_n 16 0 dX0_readWord_16 rfl rfl ?_
        refine X_getR (f := 0) 17 dX0_readWord_17 lf_RX0_14 iw0 vc0 (by decide) lyC rfl ?_
        refine X_aload_n 20 0 dX0_readWord_20 rfl rfl ?_
        refine X_getI (f := 3) 21 dX0_readWord_21 lf_RX0_40 iw0 vc0 (by decide) lyC rfl ?_
        rw [cm_3]
        refine X_cVI 24 [.int _] (e_X3_get 103 105 150 rC_by _ _) dX0_readWord_24 lm_RX0_64 1 ⟨wm_X3_get, by decide +kernel, rfl, rfl⟩ rfl ⟨Nat.le_of_ble_eq_true rfl, Nat.le_of_ble_eq_true rfl⟩ rC_by.1 vc3 rfl rfl (Nat.le_of_ble_eq_true rfl) ?_
        rintro _ _ ⟨rfl, rfl⟩
        rw [gt_bt (by omega), bt_cm]
        refine X_bipush 27 (97) dX0_readWord_27 (by decide) ?_
        refine X_bipush 29 (122) dX0_readWord_29 (by decide) ?_
        refine X_cSI 31 [.int _, .int _, .int _] (e_X6_within _ _ _ _) dX0_readWord_31 lm_RX0_70 3 ⟨wm_X6_within, by decide +kernel, rfl, rfl⟩ rfl ⟨Nat.le_of_ble_eq_true rfl, Nat.le_of_ble_eq_true rfl⟩ rfl (Nat.le_of_ble_eq_true rfl) ?_
        rintro _ _ ⟨rfl, ⟨rfl, b_31⟩ | ⟨rfl, b_31⟩⟩
        · refine X_if_eq 34 50 dX0_readWord_34 (by decide) (fun c_0 => by exact absurd c_0 (by decide)) (fun _ => ?_)
          refine X_aload_n 37 0 dX0_readWord_37 rfl rfl ?_
          refine X_dupr 38 dX0_readWord_38 ?_
          refine X_getI (f := 3) 39 dX0_readWord_39 lf_RX0_40 iw0 vc0 (by decide) lyC rfl ?_
          refine X_iconst 42 (1) dX0_readWord_42 (by decide) ?_
          rw [cm_3]
          refine X_iadd 43 dX0_readWord_43 ?_
          rw [nI_1]
          refine X_putI (f := 3) 44 dX0_readWord_44 lf_RX0_40 iw0 vc0 (by decide) lyC tyX0_ok nmX0 rfl rfl rfl (by decide) rfl rfl ?_
          refine X_goto 47 5 dX0_readWord_47 (by decide) ?_
          exact ih_5 (q + 1) (by omega) (by omega) (by rw [lt_go (by omega) b_31]; exact hp5_2) _  (by exact (cm_u3 _ _ _ _ _ _).symm)
        · have hq : lt (bt μ) p = q := by rw [← hp5_2, lt_st b_31]
          rw [hq] at hb
          refine X_if_eq 34 50 dX0_readWord_34 (by decide) (fun _ => ?_) (fun c_0 => by exact absurd c_0 (by decide))
          refine X_aload_n 50 0 dX0_readWord_50 rfl rfl ?_
          refine X_aload_n 51 0 dX0_readWord_51 rfl rfl ?_
          refine X_iload_n 52 1 dX0_readWord_52 rfl rfl ?_
          refine X_aload_n 53 0 dX0_readWord_53 rfl rfl ?_
          refine X_getI (f := 3) 54 dX0_readWord_54 lf_RX0_40 iw0 vc0 (by decide) lyC rfl ?_
          rw [cm_3]
          refine X_cVI 57 [.int _, .int _] (e_X0_wordBetween _ _ _ (by first | omega | assumption) (by first | omega | assumption)) dX0_readWord_57 lm_RX0_74 2 ⟨wm_X0_wordBetween, by decide +kernel, rfl, rfl⟩ rfl ⟨Nat.le_of_ble_eq_true rfl, Nat.le_of_ble_eq_true rfl⟩ lyC vc0 rfl rfl (Nat.le_of_ble_eq_true rfl) ?_
          rintro _ _ ⟨rfl, rfl⟩
          rw [bt_cm]
          refine X_putI (f := 5) 60 dX0_readWord_60 lf_RX0_27 iw0 vc0 (by decide) lyC tyX0_ok nmX0 rfl rfl rfl (by decide) rfl rfl ?_
          rw [cm_u5]
          refine X_aload_n 63 0 dX0_readWord_63 rfl rfl ?_
          refine X_getI (f := 5) 64 dX0_readWord_64 lf_RX0_27 iw0 vc0 (by decide) lyC rfl ?_
          rw [cm_5]
          refine X_if_ne 67 78 dX0_readWord_67 (by decide) (fun c_67 => ?_) (fun c_67 => ?_)
          · refine X_iconst 78 (1) dX0_readWord_78 (by decide) ?_
            refine X_goto 79 83 dX0_readWord_79 (by decide) ?_
            refine X_iret 83 dX0_readWord_83 rfl rfl ⟨_, rfl, _, rfl, ?_⟩
            refine Or.inl ⟨rfl, ?_⟩
            rw [hq]
            first | exact ⟨fun z => c_67 (by rw [z]; rfl), rfl⟩ | exact ⟨hw0, by rw [hw0]; rfl⟩
          · have hw0 : wdOf (bt μ) p q = 0 := (nI_eq (by have := wdOf_le (bt μ) p q; omega) (by decide)).mp c_67
            refine X_aload_n 70 0 dX0_readWord_70 rfl rfl ?_
            refine X_iload_n 71 1 dX0_readWord_71 rfl rfl ?_
            refine X_cVI 72 [.int _] (e_X0_failAt _ _) dX0_readWord_72 lm_RX0_67 1 ⟨wm_X0_failAt, by decide +kernel, rfl, rfl⟩ rfl ⟨Nat.le_of_ble_eq_true rfl, Nat.le_of_ble_eq_true rfl⟩ lyC vc0 rfl rfl (Nat.le_of_ble_eq_true rfl) ?_
            rintro _ _ ⟨rfl, rfl⟩
            rw [cm_u4]
            refine X_if_eq 75 82 dX0_readWord_75 (by decide) (fun _ => ?_) (fun c_0 => by exact absurd c_0 (by decide))
            refine X_iconst 82 (0) dX0_readWord_82 (by decide) ?_
            refine X_iret 83 dX0_readWord_83 rfl rfl ⟨_, rfl, _, rfl, ?_⟩
            refine Or.inr ⟨rfl, ?_⟩
            rw [hq]
            first | exact ⟨fun z => c_67 (by rw [z]; rfl), rfl⟩ | exact ⟨hw0, by rw [hw0]; rfl⟩
  exact L_5 (L + 1) p (by omega) (by omega) rfl _  (by rfl)
set_option maxHeartbeats 4000000 in
set_option maxRecDepth 100000 in
theorem e_X0_readNumber (p : Nat) (f w : Int32) (n : Nat → Int32) (L : Nat) (k : Nat) (μ : Mm) (hT : TX μ L) (hp : p ≤ L) (hk : k < 5) : EvN ΛC mX0_readNumber [.ref 102, .int (nI k)] (cmM μ p f w n) (qI (fun x μ' => (x = 1 ∧ (rdN (bt μ) p).1 = true ∧ cmM μ (rdN (bt μ) p).2.1 f w (upN n k (rdN (bt μ) p).2.2) = μ') ∨ (x = 0 ∧ (rdN (bt μ) p).1 = false ∧ cmM μ (rdN (bt μ) p).2.1 (nI (rdN (bt μ) p).2.1) w n = μ'))) := by
  refine EvN_ofQ (by decide +kernel) rfl (fun _ => rfl) (fun _ => Nat.le_of_ble_eq_true rfl) (ls := [(0, .ref 102), (1, .int (nI k))]) ?_
  have hL := hT.2.1
  have hb := sk_bd hT.2.2 hp
  have hg := sgP_bd hT.2.2 hb.2
  refine X_aload_n 0 0 dX0_readNumber_0 rfl rfl ?_
  refine X_getR (f := 0) 1 dX0_readNumber_1 lf_RX0_14 iw0 vc0 (by decide) lyC rfl ?_
  refine X_aload_n 4 0 dX0_readNumber_4 rfl rfl ?_
  refine X_getI (f := 3) 5 dX0_readNumber_5 lf_RX0_40 iw0 vc0 (by decide) lyC rfl ?_
  rw [cm_3]
  refine X_cVI 8 [.int _] (e_X3_get 103 105 150 rC_by _ _) dX0_readNumber_8 lm_RX0_64 1 ⟨wm_X3_get, by decide +kernel, rfl, rfl⟩ rfl ⟨Nat.le_of_ble_eq_true rfl, Nat.le_of_ble_eq_true rfl⟩ rC_by.1 vc3 rfl rfl (Nat.le_of_ble_eq_true rfl) ?_
  rintro _ _ ⟨rfl, rfl⟩
  rw [gt_bt (by omega), bt_cm]
  refine X_bipush 11 (32) dX0_readNumber_11 (by decide) ?_
  refine X_icmp_eq 13 25 dX0_readNumber_13 (by decide) (fun c_13 => ?_) (fun c_13 => ?_)
  · refine X_aload_n 25 0 dX0_readNumber_25 rfl rfl ?_
    refine X_cVV 26 [] (e_X0_skipSpaces _ _ _ _ _ _ (by first | omega | assumption) (by first | omega | assumption)) dX0_readNumber_26 lm_RX0_50 0 ⟨wm_X0_skipSpaces, by decide +kernel, rfl, rfl⟩ rfl ⟨Nat.le_of_ble_eq_true rfl, Nat.le_of_ble_eq_true rfl⟩ lyC vc0 rfl rfl (Nat.le_of_ble_eq_true rfl) ?_
    rintro _ rfl
    refine X_aload_n 29 0 dX0_readNumber_29 rfl rfl ?_
    refine X_getR (f := 0) 30 dX0_readNumber_30 lf_RX0_14 iw0 vc0 (by decide) lyC rfl ?_
    refine X_aload_n 33 0 dX0_readNumber_33 rfl rfl ?_
    refine X_getI (f := 3) 34 dX0_readNumber_34 lf_RX0_40 iw0 vc0 (by decide) lyC rfl ?_
    rw [cm_3]
    refine X_cVI 37 [.int _] (e_X3_get 103 105 150 rC_by _ _) dX0_readNumber_37 lm_RX0_64 1 ⟨wm_X3_get, by decide +kernel, rfl, rfl⟩ rfl ⟨Nat.le_of_ble_eq_true rfl, Nat.le_of_ble_eq_true rfl⟩ rC_by.1 vc3 rfl rfl (Nat.le_of_ble_eq_true rfl) ?_
    rintro _ _ ⟨rfl, rfl⟩
    rw [gt_bt (by omega), bt_cm]
    refine X_bipush 40 (45) dX0_readNumber_40 (by decide) ?_
    refine X_icmp_ne 42 49 dX0_readNumber_42 (by decide) (fun c_42 => ?_) (fun c_42 => ?_)
    · have hs : (sgP (bt μ) (sk (bt μ) p)) = (sk (bt μ) p) := if_neg c_42
      have hz : sgI (bt μ) (sk (bt μ) p) = 0 := if_neg c_42
      refine X_iconst 49 (0) dX0_readNumber_49 (by decide) ?_
      refine X_istore_n 50 [(2, .int _), (0, .ref _), (1, .int _)] dX0_readNumber_50 rfl (by decide) rfl ?_
      refine X_iload_n 51 0 dX0_readNumber_51 rfl rfl ?_
      refine X_if_eq 52 65 dX0_readNumber_52 (by decide) (fun _ => ?_) (fun c_0 => by exact absurd c_0 (by decide))
      first | rw [cm_u3, ← hs] | rw [← hs]
      refine X_lsE (ls2 := [(2, .int (sgI (bt μ) (sk (bt μ) p))), (0, .ref 102), (1, .int (nI k))]) (by rw [hz]) ?_
      refine X_aload_n 65 1 dX0_readNumber_65 rfl rfl ?_
      refine X_getR (f := 0) 66 dX0_readNumber_66 lf_RX0_14 iw0 vc0 (by decide) lyC rfl ?_
      refine X_aload_n 69 1 dX0_readNumber_69 rfl rfl ?_
      refine X_getI (f := 3) 70 dX0_readNumber_70 lf_RX0_40 iw0 vc0 (by decide) lyC rfl ?_
      rw [cm_3]
      refine X_cVI 73 [.int _] (e_X3_get 103 105 150 rC_by _ _) dX0_readNumber_73 lm_RX0_64 1 ⟨wm_X3_get, by decide +kernel, rfl, rfl⟩ rfl ⟨Nat.le_of_ble_eq_true rfl, Nat.le_of_ble_eq_true rfl⟩ rC_by.1 vc3 rfl rfl (Nat.le_of_ble_eq_true rfl) ?_
      rintro _ _ ⟨rfl, rfl⟩
      rw [gt_bt (by omega), bt_cm]
      refine X_cSI 76 [.int _] (e_X0_isDigit _ _) dX0_readNumber_76 lm_RX0_78 1 ⟨wm_X0_isDigit, by decide +kernel, rfl, rfl⟩ rfl ⟨Nat.le_of_ble_eq_true rfl, Nat.le_of_ble_eq_true rfl⟩ rfl (Nat.le_of_ble_eq_true rfl) ?_
      rintro _ _ ⟨rfl, ⟨rfl, b_76⟩ | ⟨rfl, b_76⟩⟩
      · refine X_if_ne 79 91 dX0_readNumber_79 (by decide) (fun _ => ?_) (fun c_0 => by exact absurd c_0 (by decide))
        refine X_iconst 91 (0) dX0_readNumber_91 (by decide) ?_
        refine X_istore_n 92 [(3, .int _), (2, .int _), (0, .ref _), (1, .int _)] dX0_readNumber_92 rfl (by decide) rfl ?_
        refine X_iconst 93 (0) dX0_readNumber_93 (by decide) ?_
        refine X_istore 94 [(4, .int _), (3, .int _), (2, .int _), (0, .ref _), (1, .int _)] dX0_readNumber_94 (by decide) rfl ?_
        refine X_sub [3, 4, 2, 1, 0] [(0, .ref _), (1, .int _), (2, .int _), (3, .int _), (4, .int _)] rfl ?_
        have L_96 : ∀ (kf : Nat) (q : Nat) (m : Nat) (v : Int32), q ≤ L → m ≤ 4 → m < kf → dgF (bt μ) m q v = dgF (bt μ) 4 (sgP (bt μ) (sk (bt μ) p)) 0 → ∀ (x96_3 : Int32) (x96_4 : Int32) (μ96 : Mm), v = x96_3 → nI (4 - m) = x96_4 → cmM μ q f w n = μ96 → X false ΛC mX0_readNumber (QN (qI (fun x μ' => (x = 1 ∧ (rdN (bt μ) p).1 = true ∧ cmM μ (rdN (bt μ) p).2.1 f w (upN n k (rdN (bt μ) p).2.2) = μ') ∨ (x = 0 ∧ (rdN (bt μ) p).1 = false ∧ cmM μ (rdN (bt μ) p).2.1 (nI (rdN (bt μ) p).2.1) w n = μ')))) 96 [(0, .ref 102), (1, .int (nI k)), (2, .int (sgI (bt μ) (sk (bt μ) p))), (3, .int x96_3), (4, .int x96_4)] [] μ96 := by
          intro kf
          induction kf with
          | zero => intro q m v hp96_0 hp96_1 hp96_2 hp96_3; exfalso; omega
          | succ kf ih_96 =>
            intro q m v hp96_0 hp96_1 hp96_2 hp96_3 x96_3 x96_4 μ96
            rintro rfl rfl rfl
            refine X_iload 96 4 dX0_readNumber_96 rfl ?_
            refine X_iconst 98 (4) dX0_readNumber_98 (by decide) ?_
            refine X_icmp_ge 99 155 dX0_readNumber_99 (by decide) (fun c_99 => ?_) (fun c_99 => ?_)
            · have hm : m = 0 := by have := c_ge (k := 4) rfl (by decide) (by omega) c_99; omega
              subst hm
              have hd : dgF (bt μ) 4 (sgP (bt μ) (sk (bt μ) p)) 0 = (q, v) := hp96_3.symm
              refine X_aload_n 155 0 dX0_readNumber_155 rfl rfl ?_
              refine X_getR (f := 1) 156 dX0_readNumber_156 lf_RX0_20 iw0 vc0 (by decide) lyC rfl ?_
              refine X_iload_n 159 1 dX0_readNumber_159 rfl rfl ?_
              refine X_iload_n 160 2 dX0_readNumber_160 rfl rfl ?_
              refine X_if_eq 161 169 dX0_readNumber_161 (by decide) (fun c_161 => ?_) (fun c_161 => ?_)
              · rw [hz] at c_161
                refine X_iload_n 169 3 dX0_readNumber_169 rfl rfl ?_
                refine X_cVV 170 [.int _, .int _] (e_X3_set 104 106 5 rC_nu _ _ _) dX0_readNumber_170 lm_RX0_33 2 ⟨wm_X3_set, by decide +kernel, rfl, rfl⟩ rfl ⟨Nat.le_of_ble_eq_true rfl, Nat.le_of_ble_eq_true rfl⟩ rC_nu.1 vc3 rfl rfl (Nat.le_of_ble_eq_true rfl) ?_
                rintro _ rfl
                rw [cm_st _ _ _ _ _ _ hk]
                refine X_iconst 173 (1) dX0_readNumber_173 (by decide) ?_
                refine X_iret 174 dX0_readNumber_174 rfl rfl ⟨_, rfl, _, rfl, ?_⟩
                refine Or.inl ⟨rfl, ?_⟩
                first | exact absurd c_161 (by decide) | exact absurd rfl c_161 | (rw [rdN_2 c_13 b_76, hd]; refine ⟨rfl, ?_⟩; show cmM μ q f w (upN n k (sgV _ _ v)) = _; rw [sgV, if_neg c_42]) | (rw [rdN_2 c_13 b_76, hd]; refine ⟨rfl, ?_⟩; show cmM μ q f w (upN n k (sgV _ _ v)) = _; rw [sgV, if_pos c_42])
              · rw [hz] at c_161
                refine X_iload_n 164 3 dX0_readNumber_164 rfl rfl ?_
                refine X_ineg 165 dX0_readNumber_165 ?_
                refine X_goto 166 170 dX0_readNumber_166 (by decide) ?_
                refine X_cVV 170 [.int _, .int _] (e_X3_set 104 106 5 rC_nu _ _ _) dX0_readNumber_170 lm_RX0_33 2 ⟨wm_X3_set, by decide +kernel, rfl, rfl⟩ rfl ⟨Nat.le_of_ble_eq_true rfl, Nat.le_of_ble_eq_true rfl⟩ rC_nu.1 vc3 rfl rfl (Nat.le_of_ble_eq_true rfl) ?_
                rintro _ rfl
                rw [cm_st _ _ _ _ _ _ hk]
                refine X_iconst 173 (1) dX0_readNumber_173 (by decide) ?_
                refine X_iret 174 dX0_readNumber_174 rfl rfl ⟨_, rfl, _, rfl, ?_⟩
                refine Or.inl ⟨rfl, ?_⟩
                first | exact absurd c_161 (by decide) | exact absurd rfl c_161 | (rw [rdN_2 c_13 b_76, hd]; refine ⟨rfl, ?_⟩; show cmM μ q f w (upN n k (sgV _ _ v)) = _; rw [sgV, if_neg c_42]) | (rw [rdN_2 c_13 b_76, hd]; refine ⟨rfl, ?_⟩; show cmM μ q f w (upN n k (sgV _ _ v)) = _; rw [sgV, if_pos c_42])
            · have h4 : 4 - m < 4 := c_lt (k := 4) rfl (by decide) (by omega) c_99
              obtain ⟨m, rfl⟩ : ∃ j, m = j + 1 := ⟨m - 1, by omega⟩
              refine X_aload_n 102 0 dX0_readNumber_102 rfl rfl ?_
              refine X_getR (f := 0) 103 dX0_readNumber_103 lf_RX0_14 iw0 vc0 (by decide) lyC rfl ?_
              refine X_aload_n 106 0 dX0_readNumber_106 rfl rfl ?_
              refine X_getI (f := 3) 107 dX0_readNumber_107 lf_RX0_40 iw0 vc0 (by decide) lyC rfl ?_
              rw [cm_3]
              refine X_cVI 110 [.int _] (e_X3_get 103 105 150 rC_by _ _) dX0_readNumber_110 lm_RX0_64 1 ⟨wm_X3_get, by decide +kernel, rfl, rfl⟩ rfl ⟨Nat.le_of_ble_eq_true rfl, Nat.le_of_ble_eq_true rfl⟩ rC_by.1 vc3 rfl rfl (Nat.le_of_ble_eq_true rfl) ?_
              rintro _ _ ⟨rfl, rfl⟩
              rw [gt_bt (by omega), bt_cm]
              refine X_cSI 113 [.int _] (e_X0_isDigit _ _) dX0_readNumber_113 lm_RX0_78 1 ⟨wm_X0_isDigit, by decide +kernel, rfl, rfl⟩ rfl ⟨Nat.le_of_ble_eq_true rfl, Nat.le_of_ble_eq_true rfl⟩ rfl (Nat.le_of_ble_eq_true rfl) ?_
              rintro _ _ ⟨rfl, ⟨rfl, b_113⟩ | ⟨rfl, b_113⟩⟩
              · rw [dgF, if_pos b_113] at hp96_3
                have hql : q < L := by
                  rcases Nat.lt_or_ge q L with z | z
                  · exact z
                  · rw [hT.2.2 q z] at b_113; exact absurd b_113 (by decide)
                refine X_if_eq 116 155 dX0_readNumber_116 (by decide) (fun c_0 => by exact absurd c_0 (by decide)) (fun _ => ?_)
                refine X_bipush 119 (10) dX0_readNumber_119 (by decide) ?_
                refine X_iload_n 121 3 dX0_readNumber_121 rfl rfl ?_
                refine X_imul 122 dX0_readNumber_122 ?_
                refine X_aload_n 123 0 dX0_readNumber_123 rfl rfl ?_
                refine X_getR (f := 0) 124 dX0_readNumber_124 lf_RX0_14 iw0 vc0 (by decide) lyC rfl ?_
                refine X_aload_n 127 0 dX0_readNumber_127 rfl rfl ?_
                refine X_getI (f := 3) 128 dX0_readNumber_128 lf_RX0_40 iw0 vc0 (by decide) lyC rfl ?_
                rw [cm_3]
                refine X_cVI 131 [.int _] (e_X3_get 103 105 150 rC_by _ _) dX0_readNumber_131 lm_RX0_64 1 ⟨wm_X3_get, by decide +kernel, rfl, rfl⟩ rfl ⟨Nat.le_of_ble_eq_true rfl, Nat.le_of_ble_eq_true rfl⟩ rC_by.1 vc3 rfl rfl (Nat.le_of_ble_eq_true rfl) ?_
                rintro _ _ ⟨rfl, rfl⟩
                rw [gt_bt (by omega), bt_cm]
                refine X_iadd 134 dX0_readNumber_134 ?_
                refine X_bipush 135 (48) dX0_readNumber_135 (by decide) ?_
                refine X_isub 137 dX0_readNumber_137 ?_
                refine X_istore_n 138 [(3, .int _), (0, .ref _), (1, .int _), (2, .int _), (4, .int _)] dX0_readNumber_138 rfl (by decide) rfl ?_
                refine X_aload_n 139 1 dX0_readNumber_139 rfl rfl ?_
                refine X_dupr 140 dX0_readNumber_140 ?_
                refine X_getI (f := 3) 141 dX0_readNumber_141 lf_RX0_40 iw0 vc0 (by decide) lyC rfl ?_
                refine X_iconst 144 (1) dX0_readNumber_144 (by decide) ?_
                rw [cm_3]
                refine X_iadd 145 dX0_readNumber_145 ?_
                rw [nI_1]
                refine X_putI (f := 3) 146 dX0_readNumber_146 lf_RX0_40 iw0 vc0 (by decide) lyC tyX0_ok nmX0 rfl rfl rfl (by decide) rfl rfl ?_
                refine X_iinc 149 4 (_ + 1) [(4, .int _), (3, .int _), (0, .ref _), (1, .int _), (2, .int _)] dX0_readNumber_149 rfl rfl (by decide) rfl ?_
                refine X_goto 152 96 dX0_readNumber_152 (by decide) ?_
                refine X_sub [2, 3, 4, 1, 0] [(0, .ref _), (1, .int _), (2, .int _), (3, .int _), (4, .int _)] rfl ?_
                exact ih_96 (q + 1) m (10 * v + bt μ q - 48) (by omega) (by omega) (by omega) hp96_3 _ _ _  (by rfl) (by rw [nI_1]; congr 1; omega) (by exact (cm_u3 _ _ _ _ _ _).symm)
              · have hd : dgF (bt μ) 4 (sgP (bt μ) (sk (bt μ) p)) 0 = (q, v) := by rw [← hp96_3, dgF, if_neg b_113]
                refine X_if_eq 116 155 dX0_readNumber_116 (by decide) (fun _ => ?_) (fun c_0 => by exact absurd c_0 (by decide))
                refine X_aload_n 155 0 dX0_readNumber_155 rfl rfl ?_
                refine X_getR (f := 1) 156 dX0_readNumber_156 lf_RX0_20 iw0 vc0 (by decide) lyC rfl ?_
                refine X_iload_n 159 1 dX0_readNumber_159 rfl rfl ?_
                refine X_iload_n 160 2 dX0_readNumber_160 rfl rfl ?_
                refine X_if_eq 161 169 dX0_readNumber_161 (by decide) (fun c_161 => ?_) (fun c_161 => ?_)
                · rw [hz] at c_161
                  refine X_iload_n 169 3 dX0_readNumber_169 rfl rfl ?_
                  refine X_cVV 170 [.int _, .int _] (e_X3_set 104 106 5 rC_nu _ _ _) dX0_readNumber_170 lm_RX0_33 2 ⟨wm_X3_set, by decide +kernel, rfl, rfl⟩ rfl ⟨Nat.le_of_ble_eq_true rfl, Nat.le_of_ble_eq_true rfl⟩ rC_nu.1 vc3 rfl rfl (Nat.le_of_ble_eq_true rfl) ?_
                  rintro _ rfl
                  rw [cm_st _ _ _ _ _ _ hk]
                  refine X_iconst 173 (1) dX0_readNumber_173 (by decide) ?_
                  refine X_iret 174 dX0_readNumber_174 rfl rfl ⟨_, rfl, _, rfl, ?_⟩
                  refine Or.inl ⟨rfl, ?_⟩
                  first | exact absurd c_161 (by decide) | exact absurd rfl c_161 | (rw [rdN_2 c_13 b_76, hd]; refine ⟨rfl, ?_⟩; show cmM μ q f w (upN n k (sgV _ _ v)) = _; rw [sgV, if_neg c_42]) | (rw [rdN_2 c_13 b_76, hd]; refine ⟨rfl, ?_⟩; show cmM μ q f w (upN n k (sgV _ _ v)) = _; rw [sgV, if_pos c_42])
                · rw [hz] at c_161
                  refine X_iload_n 164 3 dX0_readNumber_164 rfl rfl ?_
                  refine X_ineg 165 dX0_readNumber_165 ?_
                  refine X_goto 166 170 dX0_readNumber_166 (by decide) ?_
                  refine X_cVV 170 [.int _, .int _] (e_X3_set 104 106 5 rC_nu _ _ _) dX0_readNumber_170 lm_RX0_33 2 ⟨wm_X3_set, by decide +kernel, rfl, rfl⟩ rfl ⟨Nat.le_of_ble_eq_true rfl, Nat.le_of_ble_eq_true rfl⟩ rC_nu.1 vc3 rfl rfl (Nat.le_of_ble_eq_true rfl) ?_
                  rintro _ rfl
                  rw [cm_st _ _ _ _ _ _ hk]
                  refine X_iconst 173 (1) dX0_readNumber_173 (by decide) ?_
                  refine X_iret 174 dX0_readNumber_174 rfl rfl ⟨_, rfl, _, rfl, ?_⟩
                  refine Or.inl ⟨rfl, ?_⟩
                  first | exact absurd c_161 (by decide) | exact absurd rfl c_161 | (rw [rdN_2 c_13 b_76, hd]; refine ⟨rfl, ?_⟩; show cmM μ q f w (upN n k (sgV _ _ v)) = _; rw [sgV, if_neg c_42]) | (rw [rdN_2 c_13 b_76, hd]; refine ⟨rfl, ?_⟩; show cmM μ q f w (upN n k (sgV _ _ v)) = _; rw [sgV, if_pos c_42])
        exact L_96 5 (sgP (bt μ) (sk (bt μ) p)) 4 0 hg.2 (by omega) (by omega) rfl _ _ _  (by rfl) (by rfl) (by rfl)
      · refine X_if_ne 79 91 dX0_readNumber_79 (by decide) (fun c_0 => by exact absurd c_0 (by decide)) (fun _ => ?_)
        refine X_aload_n 82 1 dX0_readNumber_82 rfl rfl ?_
        refine X_aload_n 83 1 dX0_readNumber_83 rfl rfl ?_
        refine X_getI (f := 3) 84 dX0_readNumber_84 lf_RX0_40 iw0 vc0 (by decide) lyC rfl ?_
        rw [cm_3]
        refine X_cVI 87 [.int _] (e_X0_failAt _ _) dX0_readNumber_87 lm_RX0_67 1 ⟨wm_X0_failAt, by decide +kernel, rfl, rfl⟩ rfl ⟨Nat.le_of_ble_eq_true rfl, Nat.le_of_ble_eq_true rfl⟩ lyC vc0 rfl rfl (Nat.le_of_ble_eq_true rfl) ?_
        rintro _ _ ⟨rfl, rfl⟩
        rw [cm_u4]
        refine X_iret 90 dX0_readNumber_90 rfl rfl ⟨_, rfl, _, rfl, ?_⟩
        refine Or.inr ⟨rfl, ?_⟩
        rw [rdN_1 c_13 b_76]; exact ⟨rfl, rfl⟩
    · have hs : (sgP (bt μ) (sk (bt μ) p)) = (sk (bt μ) p) + 1 := if_pos c_42
      have hz : sgI (bt μ) (sk (bt μ) p) = 1 := if_pos c_42
      refine X_iconst 45 (1) dX0_readNumber_45 (by decide) ?_
      refine X_goto 46 50 dX0_readNumber_46 (by decide) ?_
      refine X_istore_n 50 [(2, .int _), (0, .ref _), (1, .int _)] dX0_readNumber_50 rfl (by decide) rfl ?_
      refine X_iload_n 51 0 dX0_readNumber_51 rfl rfl ?_
      refine X_if_eq 52 65 dX0_readNumber_52 (by decide) (fun c_0 => by exact absurd c_0 (by decide)) (fun _ => ?_)
      refine X_aload_n 55 1 dX0_readNumber_55 rfl rfl ?_
      refine X_dupr 56 dX0_readNumber_56 ?_
      refine X_getI (f := 3) 57 dX0_readNumber_57 lf_RX0_40 iw0 vc0 (by decide) lyC rfl ?_
      refine X_iconst 60 (1) dX0_readNumber_60 (by decide) ?_
      rw [cm_3]
      refine X_iadd 61 dX0_readNumber_61 ?_
      rw [nI_1]
      refine X_putI (f := 3) 62 dX0_readNumber_62 lf_RX0_40 iw0 vc0 (by decide) lyC tyX0_ok nmX0 rfl rfl rfl (by decide) rfl rfl ?_
      first | rw [cm_u3, ← hs] | rw [← hs]
      refine X_lsE (ls2 := [(2, .int (sgI (bt μ) (sk (bt μ) p))), (0, .ref 102), (1, .int (nI k))]) (by rw [hz]) ?_
      refine X_aload_n 65 1 dX0_readNumber_65 rfl rfl ?_
      refine X_getR (f := 0) 66 dX0_readNumber_66 lf_RX0_14 iw0 vc0 (by decide) lyC rfl ?_
      refine X_aload_n 69 1 dX0_readNumber_69 rfl rfl ?_
      refine X_getI (f := 3) 70 dX0_readNumber_70 lf_RX0_40 iw0 vc0 (by decide) lyC rfl ?_
      rw [cm_3]
      refine X_cVI 73 [.int _] (e_X3_get 103 105 150 rC_by _ _) dX0_readNumber_73 lm_RX0_64 1 ⟨wm_X3_get, by decide +kernel, rfl, rfl⟩ rfl ⟨Nat.le_of_ble_eq_true rfl, Nat.le_of_ble_eq_true rfl⟩ rC_by.1 vc3 rfl rfl (Nat.le_of_ble_eq_true rfl) ?_
      rintro _ _ ⟨rfl, rfl⟩
      rw [gt_bt (by omega), bt_cm]
      refine X_cSI 76 [.int _] (e_X0_isDigit _ _) dX0_readNumber_76 lm_RX0_78 1 ⟨wm_X0_isDigit, by decide +kernel, rfl, rfl⟩ rfl ⟨Nat.le_of_ble_eq_true rfl, Nat.le_of_ble_eq_true rfl⟩ rfl (Nat.le_of_ble_eq_true rfl) ?_
      rintro _ _ ⟨rfl, ⟨rfl, b_76⟩ | ⟨rfl, b_76⟩⟩
      · refine X_if_ne 79 91 dX0_readNumber_79 (by decide) (fun _ => ?_) (fun c_0 => by exact absurd c_0 (by decide))
        refine X_iconst 91 (0) dX0_readNumber_91 (by decide) ?_
        refine X_istore_n 92 [(3, .int _), (2, .int _), (0, .ref _), (1, .int _)] dX0_readNumber_92 rfl (by decide) rfl ?_
        refine X_iconst 93 (0) dX0_readNumber_93 (by decide) ?_
        refine X_istore 94 [(4, .int _), (3, .int _), (2, .int _), (0, .ref _), (1, .int _)] dX0_readNumber_94 (by decide) rfl ?_
        refine X_sub [3, 4, 2, 1, 0] [(0, .ref _), (1, .int _), (2, .int _), (3, .int _), (4, .int _)] rfl ?_
        have L_96 : ∀ (kf : Nat) (q : Nat) (m : Nat) (v : Int32), q ≤ L → m ≤ 4 → m < kf → dgF (bt μ) m q v = dgF (bt μ) 4 (sgP (bt μ) (sk (bt μ) p)) 0 → ∀ (x96_3 : Int32) (x96_4 : Int32) (μ96 : Mm), v = x96_3 → nI (4 - m) = x96_4 → cmM μ q f w n = μ96 → X false ΛC mX0_readNumber (QN (qI (fun x μ' => (x = 1 ∧ (rdN (bt μ) p).1 = true ∧ cmM μ (rdN (bt μ) p).2.1 f w (upN n k (rdN (bt μ) p).2.2) = μ') ∨ (x = 0 ∧ (rdN (bt μ) p).1 = false ∧ cmM μ (rdN (bt μ) p).2.1 (nI (rdN (bt μ) p).2.1) w n = μ')))) 96 [(0, .ref 102), (1, .int (nI k)), (2, .int (sgI (bt μ) (sk (bt μ) p))), (3, .int x96_3), (4, .int x96_4)] [] μ96 := by
          intro kf
          induction kf with
          | zero => intro q m v hp96_0 hp96_1 hp96_2 hp96_3; exfalso; omega
          | succ kf ih_96 =>
            intro q m v hp96_0 hp96_1 hp96_2 hp96_3 x96_3 x96_4 μ96
            rintro rfl rfl rfl
            refine X_iload 96 4 dX0_readNumber_96 rfl ?_
            refine X_iconst 98 (4) dX0_readNumber_98 (by decide) ?_
            refine X_icmp_ge 99 155 dX0_readNumber_99 (by decide) (fun c_99 => ?_) (fun c_99 => ?_)
            · have hm : m = 0 := by have := c_ge (k := 4) rfl (by decide) (by omega) c_99; omega
              subst hm
              have hd : dgF (bt μ) 4 (sgP (bt μ) (sk (bt μ) p)) 0 = (q, v) := hp96_3.symm
              refine X_aload_n 155 0 dX0_readNumber_155 rfl rfl ?_
              refine X_getR (f := 1) 156 dX0_readNumber_156 lf_RX0_20 iw0 vc0 (by decide) lyC rfl ?_
              refine X_iload_n 159 1 dX0_readNumber_159 rfl rfl ?_
              refine X_iload_n 160 2 dX0_readNumber_160 rfl rfl ?_
              refine X_if_eq 161 169 dX0_readNumber_161 (by decide) (fun c_161 => ?_) (fun c_161 => ?_)
              · rw [hz] at c_161
                refine X_iload_n 169 3 dX0_readNumber_169 rfl rfl ?_
                refine X_cVV 170 [.int _, .int _] (e_X3_set 104 106 5 rC_nu _ _ _) dX0_readNumber_170 lm_RX0_33 2 ⟨wm_X3_set, by decide +kernel, rfl, rfl⟩ rfl ⟨Nat.le_of_ble_eq_true rfl, Nat.le_of_ble_eq_true rfl⟩ rC_nu.1 vc3 rfl rfl (Nat.le_of_ble_eq_true rfl) ?_
                rintro _ rfl
                rw [cm_st _ _ _ _ _ _ hk]
                refine X_iconst 173 (1) dX0_readNumber_173 (by decide) ?_
                refine X_iret 174 dX0_readNumber_174 rfl rfl ⟨_, rfl, _, rfl, ?_⟩
                refine Or.inl ⟨rfl, ?_⟩
                first | exact absurd c_161 (by decide) | exact absurd rfl c_161 | (rw [rdN_2 c_13 b_76, hd]; refine ⟨rfl, ?_⟩; show cmM μ q f w (upN n k (sgV _ _ v)) = _; rw [sgV, if_neg c_42]) | (rw [rdN_2 c_13 b_76, hd]; refine ⟨rfl, ?_⟩; show cmM μ q f w (upN n k (sgV _ _ v)) = _; rw [sgV, if_pos c_42])
              · rw [hz] at c_161
                refine X_iload_n 164 3 dX0_readNumber_164 rfl rfl ?_
                refine X_ineg 165 dX0_readNumber_165 ?_
                refine X_goto 166 170 dX0_readNumber_166 (by decide) ?_
                refine X_cVV 170 [.int _, .int _] (e_X3_set 104 106 5 rC_nu _ _ _) dX0_readNumber_170 lm_RX0_33 2 ⟨wm_X3_set, by decide +kernel, rfl, rfl⟩ rfl ⟨Nat.le_of_ble_eq_true rfl, Nat.le_of_ble_eq_true rfl⟩ rC_nu.1 vc3 rfl rfl (Nat.le_of_ble_eq_true rfl) ?_
                rintro _ rfl
                rw [cm_st _ _ _ _ _ _ hk]
                refine X_iconst 173 (1) dX0_readNumber_173 (by decide) ?_
                refine X_iret 174 dX0_readNumber_174 rfl rfl ⟨_, rfl, _, rfl, ?_⟩
                refine Or.inl ⟨rfl, ?_⟩
                first | exact absurd c_161 (by decide) | exact absurd rfl c_161 | (rw [rdN_2 c_13 b_76, hd]; refine ⟨rfl, ?_⟩; show cmM μ q f w (upN n k (sgV _ _ v)) = _; rw [sgV, if_neg c_42]) | (rw [rdN_2 c_13 b_76, hd]; refine ⟨rfl, ?_⟩; show cmM μ q f w (upN n k (sgV _ _ v)) = _; rw [sgV, if_pos c_42])
            · have h4 : 4 - m < 4 := c_lt (k := 4) rfl (by decide) (by omega) c_99
              obtain ⟨m, rfl⟩ : ∃ j, m = j + 1 := ⟨m - 1, by omega⟩
              refine X_aload_n 102 0 dX0_readNumber_102 rfl rfl ?_
              refine X_getR (f := 0) 103 dX0_readNumber_103 lf_RX0_14 iw0 vc0 (by decide) lyC rfl ?_
              refine X_aload_n 106 0 dX0_readNumber_106 rfl rfl ?_
              refine X_getI (f := 3) 107 dX0_readNumber_107 lf_RX0_40 iw0 vc0 (by decide) lyC rfl ?_
              rw [cm_3]
              refine X_cVI 110 [.int _] (e_X3_get 103 105 150 rC_by _ _) dX0_readNumber_110 lm_RX0_64 1 ⟨wm_X3_get, by decide +kernel, rfl, rfl⟩ rfl ⟨Nat.le_of_ble_eq_true rfl, Nat.le_of_ble_eq_true rfl⟩ rC_by.1 vc3 rfl rfl (Nat.le_of_ble_eq_true rfl) ?_
              rintro _ _ ⟨rfl, rfl⟩
              rw [gt_bt (by omega), bt_cm]
              refine X_cSI 113 [.int _] (e_X0_isDigit _ _) dX0_readNumber_113 lm_RX0_78 1 ⟨wm_X0_isDigit, by decide +kernel, rfl, rfl⟩ rfl ⟨Nat.le_of_ble_eq_true rfl, Nat.le_of_ble_eq_true rfl⟩ rfl (Nat.le_of_ble_eq_true rfl) ?_
              rintro _ _ ⟨rfl, ⟨rfl, b_113⟩ | ⟨rfl, b_113⟩⟩
              · rw [dgF, if_pos b_113] at hp96_3
                have hql : q < L := by
                  rcases Nat.lt_or_ge q L with z | z
                  · exact z
                  · rw [hT.2.2 q z] at b_113; exact absurd b_113 (by decide)
                refine X_if_eq 116 155 dX0_readNumber_116 (by decide) (fun c_0 => by exact absurd c_0 (by decide)) (fun _ => ?_)
                refine X_bipush 119 (10) dX0_readNumber_119 (by decide) ?_
                refine X_iload_n 121 3 dX0_readNumber_121 rfl rfl ?_
                refine X_imul 122 dX0_readNumber_122 ?_
                refine X_aload_n 123 0 dX0_readNumber_123 rfl rfl ?_
                refine X_getR (f := 0) 124 dX0_readNumber_124 lf_RX0_14 iw0 vc0 (by decide) lyC rfl ?_
                refine X_aload_n 127 0 dX0_readNumber_127 rfl rfl ?_
                refine X_getI (f := 3) 128 dX0_readNumber_128 lf_RX0_40 iw0 vc0 (by decide) lyC rfl ?_
                rw [cm_3]
                refine X_cVI 131 [.int _] (e_X3_get 103 105 150 rC_by _ _) dX0_readNumber_131 lm_RX0_64 1 ⟨wm_X3_get, by decide +kernel, rfl, rfl⟩ rfl ⟨Nat.le_of_ble_eq_true rfl, Nat.le_of_ble_eq_true rfl⟩ rC_by.1 vc3 rfl rfl (Nat.le_of_ble_eq_true rfl) ?_
                rintro _ _ ⟨rfl, rfl⟩
                rw [gt_bt (by omega), bt_cm]
                refine X_iadd 134 dX0_readNumber_134 ?_
                refine X_bipush 135 (48) dX0_readNumber_135 (by decide) ?_
                refine X_isub 137 dX0_readNumber_137 ?_
                refine X_istore_n 138 [(3, .int _), (0, .ref _), (1, .int _), (2, .int _), (4, .int _)] dX0_readNumber_138 rfl (by decide) rfl ?_
                refine X_aload_n 139 1 dX0_readNumber_139 rfl rfl ?_
                refine X_dupr 140 dX0_readNumber_140 ?_
                refine X_getI (f := 3) 141 dX0_readNumber_141 lf_RX0_40 iw0 vc0 (by decide) lyC rfl ?_
                refine X_iconst 144 (1) dX0_readNumber_144 (by decide) ?_
                rw [cm_3]
                refine X_iadd 145 dX0_readNumber_145 ?_
                rw [nI_1]
                refine X_putI (f := 3) 146 dX0_readNumber_146 lf_RX0_40 iw0 vc0 (by decide) lyC tyX0_ok nmX0 rfl rfl rfl (by decide) rfl rfl ?_
                refine X_iinc 149 4 (_ + 1) [(4, .int _), (3, .int _), (0, .ref _), (1, .int _), (2, .int _)] dX0_readNumber_149 rfl rfl (by decide) rfl ?_
                refine X_goto 152 96 dX0_readNumber_152 (by decide) ?_
                refine X_sub [2, 3, 4, 1, 0] [(0, .ref _), (1, .int _), (2, .int _), (3, .int _), (4, .int _)] rfl ?_
                exact ih_96 (q + 1) m (10 * v + bt μ q - 48) (by omega) (by omega) (by omega) hp96_3 _ _ _  (by rfl) (by rw [nI_1]; congr 1; omega) (by exact (cm_u3 _ _ _ _ _ _).symm)
              · have hd : dgF (bt μ) 4 (sgP (bt μ) (sk (bt μ) p)) 0 = (q, v) := by rw [← hp96_3, dgF, if_neg b_113]
                refine X_if_eq 116 155 dX0_readNumber_116 (by decide) (fun _ => ?_) (fun c_0 => by exact absurd c_0 (by decide))
                refine X_aload_n 155 0 dX0_readNumber_155 rfl rfl ?_
                refine X_getR (f := 1) 156 dX0_readNumber_156 lf_RX0_20 iw0 vc0 (by decide) lyC rfl ?_
                refine X_iload_n 159 1 dX0_readNumber_159 rfl rfl ?_
                refine X_iload_n 160 2 dX0_readNumber_160 rfl rfl ?_
                refine X_if_eq 161 169 dX0_readNumber_161 (by decide) (fun c_161 => ?_) (fun c_161 => ?_)
                · rw [hz] at c_161
                  refine X_iload_n 169 3 dX0_readNumber_169 rfl rfl ?_
                  refine X_cVV 170 [.int _, .int _] (e_X3_set 104 106 5 rC_nu _ _ _) dX0_readNumber_170 lm_RX0_33 2 ⟨wm_X3_set, by decide +kernel, rfl, rfl⟩ rfl ⟨Nat.le_of_ble_eq_true rfl, Nat.le_of_ble_eq_true rfl⟩ rC_nu.1 vc3 rfl rfl (Nat.le_of_ble_eq_true rfl) ?_
                  rintro _ rfl
                  rw [cm_st _ _ _ _ _ _ hk]
                  refine X_iconst 173 (1) dX0_readNumber_173 (by decide) ?_
                  refine X_iret 174 dX0_readNumber_174 rfl rfl ⟨_, rfl, _, rfl, ?_⟩
                  refine Or.inl ⟨rfl, ?_⟩
                  first | exact absurd c_161 (by decide) | exact absurd rfl c_161 | (rw [rdN_2 c_13 b_76, hd]; refine ⟨rfl, ?_⟩; show cmM μ q f w (upN n k (sgV _ _ v)) = _; rw [sgV, if_neg c_42]) | (rw [rdN_2 c_13 b_76, hd]; refine ⟨rfl, ?_⟩; show cmM μ q f w (upN n k (sgV _ _ v)) = _; rw [sgV, if_pos c_42])
                · rw [hz] at c_161
                  refine X_iload_n 164 3 dX0_readNumber_164 rfl rfl ?_
                  refine X_ineg 165 dX0_readNumber_165 ?_
                  refine X_goto 166 170 dX0_readNumber_166 (by decide) ?_
                  refine X_cVV 170 [.int _, .int _] (e_X3_set 104 106 5 rC_nu _ _ _) dX0_readNumber_170 lm_RX0_33 2 ⟨wm_X3_set, by decide +kernel, rfl, rfl⟩ rfl ⟨Nat.le_of_ble_eq_true rfl, Nat.le_of_ble_eq_true rfl⟩ rC_nu.1 vc3 rfl rfl (Nat.le_of_ble_eq_true rfl) ?_
                  rintro _ rfl
                  rw [cm_st _ _ _ _ _ _ hk]
                  refine X_iconst 173 (1) dX0_readNumber_173 (by decide) ?_
                  refine X_iret 174 dX0_readNumber_174 rfl rfl ⟨_, rfl, _, rfl, ?_⟩
                  refine Or.inl ⟨rfl, ?_⟩
                  first | exact absurd c_161 (by decide) | exact absurd rfl c_161 | (rw [rdN_2 c_13 b_76, hd]; refine ⟨rfl, ?_⟩; show cmM μ q f w (upN n k (sgV _ _ v)) = _; rw [sgV, if_neg c_42]) | (rw [rdN_2 c_13 b_76, hd]; refine ⟨rfl, ?_⟩; show cmM μ q f w (upN n k (sgV _ _ v)) = _; rw [sgV, if_pos c_42])
        exact L_96 5 (sgP (bt μ) (sk (bt μ) p)) 4 0 hg.2 (by omega) (by omega) rfl _ _ _  (by rfl) (by rfl) (by rfl)
      · refine X_if_ne 79 91 dX0_readNumber_79 (by decide) (fun c_0 => by exact absurd c_0 (by decide)) (fun _ => ?_)
        refine X_aload_n 82 1 dX0_readNumber_82 rfl rfl ?_
        refine X_aload_n 83 1 dX0_readNumber_83 rfl rfl ?_
        refine X_getI (f := 3) 84 dX0_readNumber_84 lf_RX0_40 iw0 vc0 (by decide) lyC rfl ?_
        rw [cm_3]
        refine X_cVI 87 [.int _] (e_X0_failAt _ _) dX0_readNumber_87 lm_RX0_67 1 ⟨wm_X0_failAt, by decide +kernel, rfl, rfl⟩ rfl ⟨Nat.le_of_ble_eq_true rfl, Nat.le_of_ble_eq_true rfl⟩ lyC vc0 rfl rfl (Nat.le_of_ble_eq_true rfl) ?_
        rintro _ _ ⟨rfl, rfl⟩
        rw [cm_u4]
        refine X_iret 90 dX0_readNumber_90 rfl rfl ⟨_, rfl, _, rfl, ?_⟩
        refine Or.inr ⟨rfl, ?_⟩
        rw [rdN_1 c_13 b_76]; exact ⟨rfl, rfl⟩
  · refine X_aload_n 16 0 dX0_readNumber_16 rfl rfl ?_
    refine X_aload_n 17 0 dX0_readNumber_17 rfl rfl ?_
    refine X_getI (f := 3) 18 dX0_readNumber_18 lf_RX0_40 iw0 vc0 (by decide) lyC rfl ?_
    rw [cm_3]
    refine X_cVI 21 [.int _] (e_X0_failAt _ _) dX0_readNumber_21 lm_RX0_67 1 ⟨wm_X0_failAt, by decide +kernel, rfl, rfl⟩ rfl ⟨Nat.le_of_ble_eq_true rfl, Nat.le_of_ble_eq_true rfl⟩ lyC vc0 rfl rfl (Nat.le_of_ble_eq_true rfl) ?_
    rintro _ _ ⟨rfl, rfl⟩
    rw [cm_u4]
    refine X_iret 24 dX0_readNumber_24 rfl rfl ⟨_, rfl, _, rfl, ?_⟩
    refine Or.inr ⟨rfl, ?_⟩
    rw [rdN_0 c_13]; exact ⟨rfl, rfl⟩
set_option maxHeartbeats 4000000 in
set_option maxRecDepth 100000 in
theorem e_X0_readCommand (p : Nat) (f w : Int32) (n : Nat → Int32) (L : Nat) (μ : Mm) (hT : TX μ L) (hp : p ≤ L) : EvN ΛC mX0_readCommand [.ref 102] (cmM μ p f w n) (qI (fun x μ' => (x = 1 ∧ (rdC (bt μ) L p f w n).1 = true ∧ CM μ (rdC (bt μ) L p f w n) = μ') ∨ (x = 0 ∧ (rdC (bt μ) L p f w n).1 = false ∧ CM μ (rdC (bt μ) L p f w n) = μ'))) := by
  refine EvN_ofQ (by decide +kernel) rfl (fun _ => rfl) (fun _ => Nat.le_of_ble_eq_true rfl) (ls := [(0, .ref 102)]) ?_
  have hL := hT.2.1
  have hb := sk_bd hT.2.2 hp
  have hb1 := lt_bd hT.2.2 hb.2
  have hw8 := wdOf_le (bt μ) (sk (bt μ) p) (lt (bt μ) (sk (bt μ) p))
  have hn5 : nOf (wdOf (bt μ) (sk (bt μ) p) (lt (bt μ) (sk (bt μ) p))) ≤ 5 := nOf_le _
  refine X_aload_n 0 0 dX0_readCommand_0 rfl rfl ?_
  refine X_cVV 1 [] (e_X0_skipSpaces _ _ _ _ _ _ (by first | omega | assumption) (by first | omega | assumption)) dX0_readCommand_1 lm_RX0_50 0 ⟨wm_X0_skipSpaces, by decide +kernel, rfl, rfl⟩ rfl ⟨Nat.le_of_ble_eq_true rfl, Nat.le_of_ble_eq_true rfl⟩ lyC vc0 rfl rfl (Nat.le_of_ble_eq_true rfl) ?_
  rintro _ rfl
  refine X_aload_n 4 0 dX0_readCommand_4 rfl rfl ?_
  refine X_getI (f := 3) 5 dX0_readCommand_5 lf_RX0_40 iw0 vc0 (by decide) lyC rfl ?_
  refine X_aload_n 8 0 dX0_readCommand_8 rfl rfl ?_
  refine X_getI (f := 2) 9 dX0_readCommand_9 lf_RX0_30 iw0 vc0 (by decide) lyC rfl ?_
  rw [cm_3, cm_2, hT.1]
  refine X_icmp_ge 12 22 dX0_readCommand_12 (by decide) (fun c_12 => ?_) (fun c_12 => ?_)
  · have hge : L ≤ (sk (bt μ) p) := c_ge rfl (by omega) (by omega) c_12
    refine X_iconst 22 (0) dX0_readCommand_22 (by decide) ?_
    refine X_iret 23 dX0_readCommand_23 rfl rfl ⟨_, rfl, _, rfl, ?_⟩
    refine Or.inr ⟨rfl, ?_⟩
    first | (rw [rdC, if_pos hge]; exact ⟨rfl, rfl⟩) | (rw [rdC, if_neg hnl, rdW, if_pos b_16]; exact ⟨rfl, rfl⟩)
  · have hnl : ¬ L ≤ (sk (bt μ) p) := fun z => c_12 ((nI_leI (by omega) (by omega)).mpr z)
    refine X_aload_n 15 0 dX0_readCommand_15 rfl rfl ?_
    refine X_cVI 16 [] (e_X0_readWord _ _ _ _ _ _ (by first | omega | assumption) (by first | omega | assumption)) dX0_readCommand_16 lm_RX0_53 0 ⟨wm_X0_readWord, by decide +kernel, rfl, rfl⟩ rfl ⟨Nat.le_of_ble_eq_true rfl, Nat.le_of_ble_eq_true rfl⟩ lyC vc0 rfl rfl (Nat.le_of_ble_eq_true rfl) ?_
    rintro _ _ (⟨rfl, b_16, rfl⟩ | ⟨rfl, b_16, rfl⟩)
    · refine X_if_ne 19 24 dX0_readCommand_19 (by decide) (fun _ => ?_) (fun c_0 => by exact absurd c_0 (by decide))
      refine X_aload_n 24 0 dX0_readCommand_24 rfl rfl ?_
      refine X_getR (f := 1) 25 dX0_readCommand_25 lf_RX0_20 iw0 vc0 (by decide) lyC rfl ?_
      refine X_cVV 28 [] (e_X3_clear 104 106 5 rC_nu _) dX0_readCommand_28 lm_RX0_37 0 ⟨wm_X3_clear, by decide +kernel, rfl, rfl⟩ rfl ⟨Nat.le_of_ble_eq_true rfl, Nat.le_of_ble_eq_true rfl⟩ rC_nu.1 vc3 rfl rfl (Nat.le_of_ble_eq_true rfl) ?_
      rintro _ rfl
      rw [cm_cl]
      refine X_iconst 31 (0) dX0_readCommand_31 (by decide) ?_
      refine X_istore_n 32 [(1, .int _), (0, .ref _)] dX0_readCommand_32 rfl (by decide) rfl ?_
      refine X_sub [1, 0] [(0, .ref _), (1, .int _)] rfl ?_
      have L_33 : ∀ (kf : Nat) (i : Nat) (q : Nat) (n2 : Nat → Int32), i ≤ nOf (wdOf (bt μ) (sk (bt μ) p) (lt (bt μ) (sk (bt μ) p))) → nOf (wdOf (bt μ) (sk (bt μ) p) (lt (bt μ) (sk (bt μ) p))) < i + kf → q ≤ L → rdNs (bt μ) (nOf (wdOf (bt μ) (sk (bt μ) p) (lt (bt μ) (sk (bt μ) p))) - i) i q n2 = rdNs (bt μ) (nOf (wdOf (bt μ) (sk (bt μ) p) (lt (bt μ) (sk (bt μ) p)))) 0 (lt (bt μ) (sk (bt μ) p)) (fun _ => 0) → ∀ (x33_1 : Int32) (μ33 : Mm), nI i = x33_1 → cmM μ q f (nI (wdOf (bt μ) (sk (bt μ) p) (lt (bt μ) (sk (bt μ) p)))) n2 = μ33 → X false ΛC mX0_readCommand (QN (qI (fun x μ' => (x = 1 ∧ (rdC (bt μ) L p f w n).1 = true ∧ CM μ (rdC (bt μ) L p f w n) = μ') ∨ (x = 0 ∧ (rdC (bt μ) L p f w n).1 = false ∧ CM μ (rdC (bt μ) L p f w n) = μ')))) 33 [(0, .ref 102), (1, .int x33_1)] [] μ33 := by
        intro kf
        induction kf with
        | zero => intro i q n2 hp33_0 hp33_1 hp33_2 hp33_3; exfalso; omega
        | succ kf ih_33 =>
          intro i q n2 hp33_0 hp33_1 hp33_2 hp33_3 x33_1 μ33
          rintro rfl rfl
          refine X_iload_n 33 1 dX0_readCommand_33 rfl rfl ?_
          refine X_aload_n 34 0 dX0_readCommand_34 rfl rfl ?_
          refine X_getI (f := 5) 35 dX0_readCommand_35 lf_RX0_27 iw0 vc0 (by decide) lyC rfl ?_
          rw [cm_5]
          refine X_cSI 38 [.int _] (e_X0_numbersOf _ _ (by first | omega | assumption)) dX0_readCommand_38 lm_RX0_56 1 ⟨wm_X0_numbersOf, by decide +kernel, rfl, rfl⟩ rfl ⟨Nat.le_of_ble_eq_true rfl, Nat.le_of_ble_eq_true rfl⟩ rfl (Nat.le_of_ble_eq_true rfl) ?_
          rintro _ _ ⟨rfl, rfl⟩
          refine X_icmp_ge 41 60 dX0_readCommand_41 (by decide) (fun c_41 => ?_) (fun c_41 => ?_)
          · have hi : nOf (wdOf (bt μ) (sk (bt μ) p) (lt (bt μ) (sk (bt μ) p))) ≤ i := c_ge rfl (by omega) (by omega) c_41
            have hd : rdNs (bt μ) (nOf (wdOf (bt μ) (sk (bt μ) p) (lt (bt μ) (sk (bt μ) p)))) 0 (lt (bt μ) (sk (bt μ) p)) (fun _ => 0) = (true, q, n2) := by rw [← hp33_3, show nOf (wdOf (bt μ) (sk (bt μ) p) (lt (bt μ) (sk (bt μ) p))) - i = 0 by omega]; rfl
            have hb2 := sk_bd hT.2.2 hp33_2
            refine X_aload_n 60 0 dX0_readCommand_60 rfl rfl ?_
            refine X_cVV 61 [] (e_X0_skipSpaces _ _ _ _ _ _ (by first | omega | assumption) (by first | omega | assumption)) dX0_readCommand_61 lm_RX0_50 0 ⟨wm_X0_skipSpaces, by decide +kernel, rfl, rfl⟩ rfl ⟨Nat.le_of_ble_eq_true rfl, Nat.le_of_ble_eq_true rfl⟩ lyC vc0 rfl rfl (Nat.le_of_ble_eq_true rfl) ?_
            rintro _ rfl
            refine X_aload_n 64 0 dX0_readCommand_64 rfl rfl ?_
            refine X_getR (f := 0) 65 dX0_readCommand_65 lf_RX0_14 iw0 vc0 (by decide) lyC rfl ?_
            refine X_aload_n 68 0 dX0_readCommand_68 rfl rfl ?_
            refine X_getI (f := 3) 69 dX0_readCommand_69 lf_RX0_40 iw0 vc0 (by decide) lyC rfl ?_
            rw [cm_3]
            refine X_cVI 72 [.int _] (e_X3_get 103 105 150 rC_by _ _) dX0_readCommand_72 lm_RX0_64 1 ⟨wm_X3_get, by decide +kernel, rfl, rfl⟩ rfl ⟨Nat.le_of_ble_eq_true rfl, Nat.le_of_ble_eq_true rfl⟩ rC_by.1 vc3 rfl rfl (Nat.le_of_ble_eq_true rfl) ?_
            rintro _ _ ⟨rfl, rfl⟩
            rw [gt_bt (by omega), bt_cm]
            refine X_bipush 75 (59) dX0_readCommand_75 (by decide) ?_
            refine X_icmp_eq 77 89 dX0_readCommand_77 (by decide) (fun c_77 => ?_) (fun c_77 => ?_)
            · refine X_aload_n 89 0 dX0_readCommand_89 rfl rfl ?_
              refine X_dupr 90 dX0_readCommand_90 ?_
              refine X_getI (f := 3) 91 dX0_readCommand_91 lf_RX0_40 iw0 vc0 (by decide) lyC rfl ?_
              refine X_iconst 94 (1) dX0_readCommand_94 (by decide) ?_
              rw [cm_3]
              refine X_iadd 95 dX0_readCommand_95 ?_
              rw [nI_1]
              refine X_putI (f := 3) 96 dX0_readCommand_96 lf_RX0_40 iw0 vc0 (by decide) lyC tyX0_ok nmX0 rfl rfl rfl (by decide) rfl rfl ?_
              refine X_iconst 99 (1) dX0_readCommand_99 (by decide) ?_
              refine X_iret 100 dX0_readCommand_100 rfl rfl ⟨_, rfl, _, rfl, ?_⟩
              refine Or.inl ⟨rfl, ?_⟩
              rw [show rdC (bt μ) L p f w n = (true, sk (bt μ) q + 1, f, nI (wdOf (bt μ) (sk (bt μ) p) (lt (bt μ) (sk (bt μ) p))), n2) by rw [rdC, if_neg hnl, rdW, if_neg b_16, hd]; exact (if_pos rfl).trans (if_pos c_77)]; exact ⟨rfl, (cm_u3 _ _ _ _ _ _).symm⟩
            · refine X_aload_n 80 0 dX0_readCommand_80 rfl rfl ?_
              refine X_aload_n 81 0 dX0_readCommand_81 rfl rfl ?_
              refine X_getI (f := 3) 82 dX0_readCommand_82 lf_RX0_40 iw0 vc0 (by decide) lyC rfl ?_
              rw [cm_3]
              refine X_cVI 85 [.int _] (e_X0_failAt _ _) dX0_readCommand_85 lm_RX0_67 1 ⟨wm_X0_failAt, by decide +kernel, rfl, rfl⟩ rfl ⟨Nat.le_of_ble_eq_true rfl, Nat.le_of_ble_eq_true rfl⟩ lyC vc0 rfl rfl (Nat.le_of_ble_eq_true rfl) ?_
              rintro _ _ ⟨rfl, rfl⟩
              rw [cm_u4]
              refine X_iret 88 dX0_readCommand_88 rfl rfl ⟨_, rfl, _, rfl, ?_⟩
              refine Or.inr ⟨rfl, ?_⟩
              rw [show rdC (bt μ) L p f w n = (false, sk (bt μ) q, nI (sk (bt μ) q), nI (wdOf (bt μ) (sk (bt μ) p) (lt (bt μ) (sk (bt μ) p))), n2) by rw [rdC, if_neg hnl, rdW, if_neg b_16, hd]; exact (if_pos rfl).trans (if_neg c_77)]; exact ⟨rfl, rfl⟩
          · have hi : i < nOf (wdOf (bt μ) (sk (bt μ) p) (lt (bt μ) (sk (bt μ) p))) := c_lt rfl (by omega) (by omega) c_41
            have hs := congrArg (fun m => rdNs (bt μ) m i q n2) (show nOf (wdOf (bt μ) (sk (bt μ) p) (lt (bt μ) (sk (bt μ) p))) - i = (nOf (wdOf (bt μ) (sk (bt μ) p) (lt (bt μ) (sk (bt μ) p))) - (i + 1)) + 1 by omega)
            simp only [rdNs] at hs
            refine X_aload_n 44 0 dX0_readCommand_44 rfl rfl ?_
            refine X_iload_n 45 1 dX0_readCommand_45 rfl rfl ?_
            refine X_cVI 46 [.int _] (e_X0_readNumber _ _ _ _ _ _ _ (by first | omega | assumption) (by first | omega | assumption) (by first | omega | assumption)) dX0_readCommand_46 lm_RX0_60 1 ⟨wm_X0_readNumber, by decide +kernel, rfl, rfl⟩ rfl ⟨Nat.le_of_ble_eq_true rfl, Nat.le_of_ble_eq_true rfl⟩ lyC vc0 rfl rfl (Nat.le_of_ble_eq_true rfl) ?_
            rintro _ _ (⟨rfl, b_46, rfl⟩ | ⟨rfl, b_46, rfl⟩)
            · rw [if_pos b_46] at hs
              refine X_if_ne 49 54 dX0_readCommand_49 (by decide) (fun _ => ?_) (fun c_0 => by exact absurd c_0 (by decide))
              refine X_iinc 54 1 (_ + 1) [(1, .int _), (0, .ref _)] dX0_readCommand_54 rfl rfl (by decide) rfl ?_
              refine X_goto 57 33 dX0_readCommand_57 (by decide) ?_
              refine X_sub [1, 0] [(0, .ref _), (1, .int _)] rfl ?_
              exact ih_33 (i + 1) (rdN (bt μ) q).2.1 (upN n2 i (rdN (bt μ) q).2.2) (by omega) (by omega) (rdN_bd hT.2.2 hp33_2).2 (by rw [← hs]; exact hp33_3) _ _  (by exact (nI_1 i).symm) (by rfl)
            · have hd : rdNs (bt μ) (nOf (wdOf (bt μ) (sk (bt μ) p) (lt (bt μ) (sk (bt μ) p)))) 0 (lt (bt μ) (sk (bt μ) p)) (fun _ => 0) = (false, (rdN (bt μ) q).2.1, n2) := by rw [← hp33_3, hs, if_neg (by rw [b_46]; decide)]
              refine X_if_ne 49 54 dX0_readCommand_49 (by decide) (fun c_0 => by exact absurd c_0 (by decide)) (fun _ => ?_)
              refine X_iconst 52 (0) dX0_readCommand_52 (by decide) ?_
              refine X_iret 53 dX0_readCommand_53 rfl rfl ⟨_, rfl, _, rfl, ?_⟩
              refine Or.inr ⟨rfl, ?_⟩
              rw [show rdC (bt μ) L p f w n = (false, (rdN (bt μ) q).2.1, nI (rdN (bt μ) q).2.1, nI (wdOf (bt μ) (sk (bt μ) p) (lt (bt μ) (sk (bt μ) p))), n2) by rw [rdC, if_neg hnl, rdW, if_neg b_16, hd]; rfl]; exact ⟨rfl, rfl⟩
      exact L_33 6 0 (lt (bt μ) (sk (bt μ) p)) (fun _ => 0) (by omega) (by omega) hb1.2 rfl _ _  (by rfl) (by rfl)
    · refine X_if_ne 19 24 dX0_readCommand_19 (by decide) (fun c_0 => by exact absurd c_0 (by decide)) (fun _ => ?_)
      refine X_iconst 22 (0) dX0_readCommand_22 (by decide) ?_
      refine X_iret 23 dX0_readCommand_23 rfl rfl ⟨_, rfl, _, rfl, ?_⟩
      refine Or.inr ⟨rfl, ?_⟩
      first | (rw [rdC, if_pos hge]; exact ⟨rfl, rfl⟩) | (rw [rdC, if_neg hnl, rdW, if_pos b_16]; exact ⟨rfl, rfl⟩)
set_option maxHeartbeats 4000000 in
set_option maxRecDepth 100000 in
theorem e_X0_findFault (L : Nat) (μ : Mm) (hT : TX μ L) : EvN ΛC mX0_findFault [.ref 102] μ (qI (fun x μ' => (ffC μ L).2.2.1 = x ∧ CM μ (ffC μ L) = μ')) := by
  refine EvN_ofQ (by decide +kernel) rfl (fun _ => rfl) (fun _ => Nat.le_of_ble_eq_true rfl) (ls := [(0, .ref 102)]) ?_
  have hL := hT.2.1
  refine X_aload_n 0 0 dX0_findFault_0 rfl rfl ?_
  refine X_cVV 1 [] (e_X0_rewind _) dX0_findFault_1 lm_RX0_43 0 ⟨wm_X0_rewind, by decide +kernel, rfl, rfl⟩ rfl ⟨Nat.le_of_ble_eq_true rfl, Nat.le_of_ble_eq_true rfl⟩ lyC vc0 rfl rfl (Nat.le_of_ble_eq_true rfl) ?_
  rintro _ rfl
  rw [cm_rw]
  refine X_iconst 4 (0) dX0_findFault_4 (by decide) ?_
  refine X_istore_n 5 [(1, .int _), (0, .ref _)] dX0_findFault_5 rfl (by decide) rfl ?_
  refine X_sub [1, 0] [(0, .ref _), (1, .int _)] rfl ?_
  have L_6 : ∀ (kf : Nat) (i : Nat) (r : CR), i ≤ 150 → 150 < i + kf → r.2.1 ≤ L → rdA (bt μ) L (150 - i) r = ffC μ L → ∀ (x6_1 : Int32) (μ6 : Mm), nI i = x6_1 → CM μ r = μ6 → X false ΛC mX0_findFault (QN (qI (fun x μ' => (ffC μ L).2.2.1 = x ∧ CM μ (ffC μ L) = μ'))) 6 [(0, .ref 102), (1, .int x6_1)] [] μ6 := by
    intro kf
    induction kf with
    | zero => intro i r hp6_0 hp6_1 hp6_2 hp6_3; exfalso; omega
    | succ kf ih_6 =>
      intro i r hp6_0 hp6_1 hp6_2 hp6_3 x6_1 μ6
      rintro rfl rfl
      refine X_iload_n 6 1 dX0_findFault_6 rfl rfl ?_
      refine X_sipush 7 (150) dX0_findFault_7 (by decide) ?_
      refine X_icmp_ge 10 29 dX0_findFault_10 (by decide) (fun c_10 => ?_) (fun c_10 => ?_)
      · have hge : 150 ≤ i := c_ge (k := 150) rfl (by decide) (by omega) c_10
        have hd : ffC μ L = r := by rw [← hp6_3, show 150 - i = 0 by omega]; rfl
        refine X_aload_n 29 0 dX0_findFault_29 rfl rfl ?_
        refine X_getI (f := 4) 30 dX0_findFault_30 lf_RX0_23 iw0 vc0 (by decide) lyC rfl ?_
        refine X_iret 33 dX0_findFault_33 rfl rfl ⟨_, rfl, _, rfl, ?_⟩
        rw [hd]; exact ⟨(cm_4 _ _ _ _ _).symm, rfl⟩
      · have hlt : i < 150 := c_lt (k := 150) rfl (by decide) (by omega) c_10
        have hs := congrArg (fun m => rdA (bt μ) L m r) (show 150 - i = (150 - (i + 1)) + 1 by omega)
        simp only [rdA] at hs
        refine X_aload_n 13 0 dX0_findFault_13 rfl rfl ?_
        refine X_cVI 14 [] (e_X0_readCommand _ _ _ _ _ _ (by first | omega | assumption) (by first | omega | assumption)) dX0_findFault_14 lm_RX0_46 0 ⟨wm_X0_readCommand, by decide +kernel, rfl, rfl⟩ rfl ⟨Nat.le_of_ble_eq_true rfl, Nat.le_of_ble_eq_true rfl⟩ lyC vc0 rfl rfl (Nat.le_of_ble_eq_true rfl) ?_
        rintro _ _ (⟨rfl, b_14, rfl⟩ | ⟨rfl, b_14, rfl⟩)
        · rw [if_pos b_14] at hs
          refine X_if_ne 17 23 dX0_findFault_17 (by decide) (fun _ => ?_) (fun c_0 => by exact absurd c_0 (by decide))
          refine X_iinc 23 1 (_ + 1) [(1, .int _), (0, .ref _)] dX0_findFault_23 rfl rfl (by decide) rfl ?_
          refine X_goto 26 6 dX0_findFault_26 (by decide) ?_
          refine X_sub [1, 0] [(0, .ref _), (1, .int _)] rfl ?_
          exact ih_6 (i + 1) (rdC (bt μ) L r.2.1 r.2.2.1 r.2.2.2.1 r.2.2.2.2) (by omega) (by omega) (rdC_bd hT.2.2 hp6_2 _ _ _).1 (by rw [← hs]; exact hp6_3) _ _  (by exact (nI_1 i).symm) (by rfl)
        · have hd : ffC μ L = (rdC (bt μ) L r.2.1 r.2.2.1 r.2.2.2.1 r.2.2.2.2) := by rw [← hp6_3, hs, if_neg (by rw [b_14]; decide)]
          refine X_if_ne 17 23 dX0_findFault_17 (by decide) (fun c_0 => by exact absurd c_0 (by decide)) (fun _ => ?_)
          refine X_goto 20 29 dX0_findFault_20 (by decide) ?_
          refine X_aload_n 29 0 dX0_findFault_29 rfl rfl ?_
          refine X_getI (f := 4) 30 dX0_findFault_30 lf_RX0_23 iw0 vc0 (by decide) lyC rfl ?_
          refine X_iret 33 dX0_findFault_33 rfl rfl ⟨_, rfl, _, rfl, ?_⟩
          rw [hd]; exact ⟨(cm_4 _ _ _ _ _).symm, rfl⟩
  exact L_6 151 0 (true, 0, -1000, μ 102 5, μ 106) (by omega) (by omega) (Nat.zero_le _) rfl _ _  (by rfl) (by rfl)
