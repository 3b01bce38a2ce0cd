set_option maxHeartbeats 4000000 in
set_option maxRecDepth 100000 in
theorem e_X7_here (b : Nat → Int32) (L p : Nat) (w : Int32) (n : Nat → Int32) (μ : Mm) (hT : TM b L μ) (hp : p ≤ 150) : EvN ΛM mX7_here [.ref 0] (pmM μ p w n) (qE (hrB b L p) (pmM μ p w n)) := by
  refine EvN_ofQ (by decide +kernel) rfl (fun _ => rfl) (fun _ => Nat.le_of_ble_eq_true rfl) (ls := [(0, .ref 0)]) ?_
  have hL := hT.2.1
  refine X_aload_n 0 0 dX7_here_0 rfl rfl ?_
  refine X_getI (f := 19) 1 dX7_here_1 lf_RX7_226 iw7 vc7 (by decide) lyM rfl ?_
  refine X_aload_n 4 0 dX7_here_4 rfl rfl ?_
  refine X_getI (f := 5) 5 dX7_here_5 lf_RX7_208 iw7 vc7 (by decide) lyM rfl ?_
  rw [pm_19, hT.len]
  refine X_icmp_ge 8 23 dX7_here_8 (by decide) (fun c_8 => ?_) (fun c_8 => ?_)
  · have hge := c_ge (k := L) rfl (by omega) (by omega) c_8
    refine X_iconst 23 (-1) dX7_here_23 (by decide) ?_
    refine X_iret 24 dX7_here_24 rfl rfl ⟨_, rfl, _, rfl, ?_⟩
    first | exact ⟨if_pos hlp, rfl⟩ | exact ⟨if_neg (by omega), rfl⟩
  · have hlp := c_lt (k := L) rfl (by omega) (by omega) c_8
    refine X_aload_n 11 0 dX7_here_11 rfl rfl ?_
    refine X_getR (f := 4) 12 dX7_here_12 lf_RX7_19 iw7 vc7 (by decide) lyM rfl ?_
    refine X_aload_n 15 0 dX7_here_15 rfl rfl ?_
    refine X_getI (f := 19) 16 dX7_here_16 lf_RX7_226 iw7 vc7 (by decide) lyM rfl ?_
    rw [pm_19]
    refine X_iald 19 dX7_here_19 lyM4 (vp_in_nI (N := 150) (by omega) (by decide)) ?_
    rw [nI_clamp (by omega), hT.tx hlp]
    refine X_goto 20 24 dX7_here_20 (by decide) ?_
    refine X_iret 24 dX7_here_24 rfl rfl ⟨_, rfl, _, rfl, ?_⟩
    first | exact ⟨if_pos hlp, rfl⟩ | exact ⟨if_neg (by omega), rfl⟩
set_option maxHeartbeats 4000000 in
set_option maxRecDepth 100000 in
theorem e_X7_skips (b : Nat → Int32) (L p : Nat) (w : Int32) (n : Nat → Int32) (μ : Mm) (hT : TM b L μ) (hp : p ≤ L) : EvN ΛM mX7_skips [.ref 0] (pmM μ p w n) (qI (fun x m => (x = 1 ∧ b p = 32 ∧ pmM μ (sk b p) w n = m) ∨ (x = 0 ∧ ¬ b p = 32 ∧ pmM μ (sk b p) w n = m))) := by
  refine EvN_ofQ (by decide +kernel) rfl (fun _ => rfl) (fun _ => Nat.le_of_ble_eq_true rfl) (ls := [(0, .ref 0)]) ?_
  have hL := hT.2.1
  refine X_aload_n 0 0 dX7_skips_0 rfl rfl ?_
  refine X_getI (f := 19) 1 dX7_skips_1 lf_RX7_226 iw7 vc7 (by decide) lyM rfl ?_
  rw [pm_19]
  refine X_istore_n 4 [(1, .int _), (0, .ref _)] dX7_skips_4 rfl (by decide) rfl ?_
  refine X_sub [1, 0] [(0, .ref _), (1, .int _)] rfl ?_
  have L_5 : ∀ (kf : Nat) (q : Nat), p ≤ q → q ≤ L → L < q + kf → sk b q = sk b p → (p < q → b p = 32) → ∀  (μ5 : Mm), pmM μ q w n = μ5 → X false ΛM mX7_skips (QN (qI (fun x m => (x = 1 ∧ b p = 32 ∧ pmM μ (sk b p) w n = m) ∨ (x = 0 ∧ ¬ b p = 32 ∧ pmM μ (sk b p) w n = m)))) 5 [(0, .ref 0), (1, .int (nI p))] [] μ5 := by
    intro kf
    induction kf with
    | zero => intro q hp5_0 hp5_1 hp5_2 hp5_3 hp5_4; exfalso; omega
    | succ kf ih_5 =>
      intro q hp5_0 hp5_1 hp5_2 hp5_3 hp5_4  μ5
      rintro rfl
      refine X_aload_n 5 0 dX7_skips_5 rfl rfl ?_
      refine X_cVI 6 [] (e_X7_here b L q _ _ _ hT (by omega)) dX7_skips_6 lm_RX7_229 0 ⟨wm_X7_here, by decide +kernel, rfl, rfl⟩ rfl ⟨Nat.le_of_ble_eq_true rfl, Nat.le_of_ble_eq_true rfl⟩ lyM vc7 rfl rfl (Nat.le_of_ble_eq_true rfl) ?_
      rintro _ _ ⟨rfl, rfl⟩
      refine X_bipush 9 (32) dX7_skips_9 (by decide) ?_
      refine X_icmp_ne 11 27 dX7_skips_11 (by decide) (fun c_11 => ?_) (fun c_11 => ?_)
      · rw [hr_P hT.2.2.2 (fun x => x = 32) (by decide) (by decide)] at c_11
        have hq : sk b p = q := by rw [← hp5_3, sk_st c_11]
        refine X_aload_n 27 0 dX7_skips_27 rfl rfl ?_
        refine X_getI (f := 19) 28 dX7_skips_28 lf_RX7_226 iw7 vc7 (by decide) lyM rfl ?_
        refine X_iload_n 31 1 dX7_skips_31 rfl rfl ?_
        rw [pm_19]
        refine X_icmp_le 32 39 dX7_skips_32 (by decide) (fun c_32 => ?_) (fun c_32 => ?_)
        · have hn : ¬ b p = 32 := fun z => by
            have z2 := (nI_leI (by omega) (by omega)).mp c_32
            have z3 : sk b (p + 1) = sk b p := sk_go (by omega) z
            have z4 := (sk_bd hT.2.2.2 (show p + 1 ≤ L from hr_lt hT.2.2.2 (fun x => x = 32) (by decide) z)).1
            omega
          refine X_iconst 39 (0) dX7_skips_39 (by decide) ?_
          refine X_iret 40 dX7_skips_40 rfl rfl ⟨_, rfl, _, rfl, ?_⟩
          refine Or.inr ⟨rfl, ?_⟩
          rw [hq]
          first | exact ⟨hy, rfl⟩ | exact ⟨hn, rfl⟩
        · have hy : b p = 32 := hp5_4 (by
            rcases Nat.lt_or_ge p q with z | z
            · exact z
            · exact absurd (nI_le z (by omega)) c_32)
          refine X_iconst 35 (1) dX7_skips_35 (by decide) ?_
          refine X_goto 36 40 dX7_skips_36 (by decide) ?_
          refine X_iret 40 dX7_skips_40 rfl rfl ⟨_, rfl, _, rfl, ?_⟩
          refine Or.inl ⟨rfl, ?_⟩
          rw [hq]
          first | exact ⟨hy, rfl⟩ | exact ⟨hn, rfl⟩
      · rw [hr_P hT.2.2.2 (fun x => x = 32) (by decide) (by decide)] at c_11
        have hlq := hr_lt hT.2.2.2 (fun x => x = 32) (by decide) c_11
        refine X_aload_n 14 0 dX7_skips_14 rfl rfl ?_
        refine X_dupr 15 dX7_skips_15 ?_
        refine X_getI (f := 19) 16 dX7_skips_16 lf_RX7_226 iw7 vc7 (by decide) lyM rfl ?_
        rw [pm_19]
        refine X_iconst 19 (1) dX7_skips_19 (by decide) ?_
        refine X_iadd 20 dX7_skips_20 ?_
        rw [nI_1]
        refine X_putI (f := 19) 21 dX7_skips_21 lf_RX7_226 iw7 vc7 (by decide) lyM tyX7_ok nmX7 rfl rfl rfl (by decide) rfl rfl ?_
        refine X_goto 24 5 dX7_skips_24 (by decide) ?_
        exact ih_5 (q + 1) (by omega) (by omega) (by omega) (by rw [sk_go (by omega) c_11]; exact hp5_3) (fun _ => by rcases Nat.lt_or_ge p q with z | z; exact hp5_4 z; rw [show p = q by omega]; exact c_11) _  (by exact (pm_u19 _ _ _ _ _).symm)
  exact L_5 (L + 1) p (by omega) (by omega) (by omega) rfl (by omega) _  (by rfl)
set_option maxHeartbeats 4000000 in
set_option maxRecDepth 100000 in
theorem e_X7_isWord (b : Nat → Int32) (L p : Nat) (w : Int32) (n : Nat → Int32) (s many : Nat) (a0 a1 a2 a3 : Int32) (μ : Mm) (hT : TM b L μ) (hp : p ≤ L) (hs : s + 4 ≤ p) (hm : many ≤ 6) : EvN ΛM mX7_isWord [.ref 0, .int (nI s), .int (nI many), .int a0, .int a1, .int a2, .int a3] (pmM μ p w n) (qB (iw b s p many a0 a1 a2 a3) (pmM μ p w n)) := by
  refine EvN_ofQ (by decide +kernel) rfl (fun _ => rfl) (fun _ => Nat.le_of_ble_eq_true rfl) (ls := [(0, .ref 0), (1, .int (nI s)), (2, .int (nI many)), (3, .int a0), (4, .int a1), (5, .int a2), (6, .int a3)]) ?_
  have hL := hT.2.1
  refine X_aload_n 0 0 dX7_isWord_0 rfl rfl ?_
  refine X_getI (f := 19) 1 dX7_isWord_1 lf_RX7_226 iw7 vc7 (by decide) lyM rfl ?_
  refine X_iload_n 4 1 dX7_isWord_4 rfl rfl ?_
  rw [pm_19]
  refine X_isub 5 dX7_isWord_5 ?_
  refine X_iload_n 6 2 dX7_isWord_6 rfl rfl ?_
  rw [nI_sub (by omega) (by omega)]
  refine X_icmp_ne 7 63 dX7_isWord_7 (by decide) (fun c_7 => ?_) (fun c_7 => ?_)
  · refine X_iconst 63 (0) dX7_isWord_63 (by decide) ?_
    refine X_iret 64 dX7_isWord_64 rfl rfl ⟨_, rfl, _, rfl, ?_⟩
    refine ⟨rfl, Or.inr ⟨rfl, ?_⟩⟩
    first
      | exact ⟨by omega, c_17, c_30, c_43, c_56⟩
      | exact fun z => c_7 (by rw [show p - s = many by have := z.1; omega])
      | exact fun z => c_17 z.2.1
      | exact fun z => c_30 z.2.2.1
      | exact fun z => c_43 z.2.2.2.1
      | exact fun z => c_56 z.2.2.2.2
  · have hlen : p - s = many := (nI_eq (by omega) (by omega)).mp c_7
    refine X_aload_n 10 0 dX7_isWord_10 rfl rfl ?_
    refine X_getR (f := 4) 11 dX7_isWord_11 lf_RX7_19 iw7 vc7 (by decide) lyM rfl ?_
    refine X_iload_n 14 1 dX7_isWord_14 rfl rfl ?_
    refine X_iald 15 dX7_isWord_15 lyM4 (vp_in_nI (N := 150) (by omega) (by decide)) ?_
    rw [nI_clamp (by omega), hT.tx (by omega)]
    refine X_iload_n 16 3 dX7_isWord_16 rfl rfl ?_
    refine X_icmp_ne 17 63 dX7_isWord_17 (by decide) (fun c_17 => ?_) (fun c_17 => ?_)
    · refine X_iconst 63 (0) dX7_isWord_63 (by decide) ?_
      refine X_iret 64 dX7_isWord_64 rfl rfl ⟨_, rfl, _, rfl, ?_⟩
      refine ⟨rfl, Or.inr ⟨rfl, ?_⟩⟩
      first
        | exact ⟨by omega, c_17, c_30, c_43, c_56⟩
        | exact fun z => c_7 (by rw [show p - s = many by have := z.1; omega])
        | exact fun z => c_17 z.2.1
        | exact fun z => c_30 z.2.2.1
        | exact fun z => c_43 z.2.2.2.1
        | exact fun z => c_56 z.2.2.2.2
    · refine X_aload_n 20 0 dX7_isWord_20 rfl rfl ?_
      refine X_getR (f := 4) 21 dX7_isWord_21 lf_RX7_19 iw7 vc7 (by decide) lyM rfl ?_
      refine X_iload_n 24 1 dX7_isWord_24 rfl rfl ?_
      refine X_iconst 25 (1) dX7_isWord_25 (by decide) ?_
      refine X_iadd 26 dX7_isWord_26 ?_
      rw [nI_1]
      refine X_iald 27 dX7_isWord_27 lyM4 (vp_in_nI (N := 150) (by omega) (by decide)) ?_
      rw [nI_clamp (by omega), hT.tx (by omega)]
      refine X_iload 28 4 dX7_isWord_28 rfl ?_
      refine X_icmp_ne 30 63 dX7_isWord_30 (by decide) (fun c_30 => ?_) (fun c_30 => ?_)
      · refine X_iconst 63 (0) dX7_isWord_63 (by decide) ?_
        refine X_iret 64 dX7_isWord_64 rfl rfl ⟨_, rfl, _, rfl, ?_⟩
        refine ⟨rfl, Or.inr ⟨rfl, ?_⟩⟩
        first
          | exact ⟨by omega, c_17, c_30, c_43, c_56⟩
          | exact fun z => c_7 (by rw [show p - s = many by have := z.1; omega])
          | exact fun z => c_17 z.2.1
          | exact fun z => c_30 z.2.2.1
          | exact fun z => c_43 z.2.2.2.1
          | exact fun z => c_56 z.2.2.2.2
      · refine X_aload_n 33 0 dX7_isWord_33 rfl rfl ?_
        refine X_getR (f := 4) 34 dX7_isWord_34 lf_RX7_19 iw7 vc7 (by decide) lyM rfl ?_
        refine X_iload_n 37 1 dX7_isWord_37 rfl rfl ?_
        refine X_iconst 38 (2) dX7_isWord_38 (by decide) ?_
        refine X_iadd 39 dX7_isWord_39 ?_
        rw [show nI s + 2 = nI (s + 2) from nI_add s 2]
        refine X_iald 40 dX7_isWord_40 lyM4 (vp_in_nI (N := 150) (by omega) (by decide)) ?_
        rw [nI_clamp (by omega), hT.tx (by omega)]
        refine X_iload 41 5 dX7_isWord_41 rfl ?_
        refine X_icmp_ne 43 63 dX7_isWord_43 (by decide) (fun c_43 => ?_) (fun c_43 => ?_)
        · refine X_iconst 63 (0) dX7_isWord_63 (by decide) ?_
          refine X_iret 64 dX7_isWord_64 rfl rfl ⟨_, rfl, _, rfl, ?_⟩
          refine ⟨rfl, Or.inr ⟨rfl, ?_⟩⟩
          first
            | exact ⟨by omega, c_17, c_30, c_43, c_56⟩
            | exact fun z => c_7 (by rw [show p - s = many by have := z.1; omega])
            | exact fun z => c_17 z.2.1
            | exact fun z => c_30 z.2.2.1
            | exact fun z => c_43 z.2.2.2.1
            | exact fun z => c_56 z.2.2.2.2
        · refine X_aload_n 46 0 dX7_isWord_46 rfl rfl ?_
          refine X_getR (f := 4) 47 dX7_isWord_47 lf_RX7_19 iw7 vc7 (by decide) lyM rfl ?_
          refine X_iload_n 50 1 dX7_isWord_50 rfl rfl ?_
          refine X_iconst 51 (3) dX7_isWord_51 (by decide) ?_
          refine X_iadd 52 dX7_isWord_52 ?_
          rw [show nI s + 3 = nI (s + 3) from nI_add s 3]
          refine X_iald 53 dX7_isWord_53 lyM4 (vp_in_nI (N := 150) (by omega) (by decide)) ?_
          rw [nI_clamp (by omega), hT.tx (by omega)]
          refine X_iload 54 6 dX7_isWord_54 rfl ?_
          refine X_icmp_ne 56 63 dX7_isWord_56 (by decide) (fun c_56 => ?_) (fun c_56 => ?_)
          · refine X_iconst 63 (0) dX7_isWord_63 (by decide) ?_
            refine X_iret 64 dX7_isWord_64 rfl rfl ⟨_, rfl, _, rfl, ?_⟩
            refine ⟨rfl, Or.inr ⟨rfl, ?_⟩⟩
            first
              | exact ⟨by omega, c_17, c_30, c_43, c_56⟩
              | exact fun z => c_7 (by rw [show p - s = many by have := z.1; omega])
              | exact fun z => c_17 z.2.1
              | exact fun z => c_30 z.2.2.1
              | exact fun z => c_43 z.2.2.2.1
              | exact fun z => c_56 z.2.2.2.2
          · refine X_iconst 59 (1) dX7_isWord_59 (by decide) ?_
            refine X_goto 60 64 dX7_isWord_60 (by decide) ?_
            refine X_iret 64 dX7_isWord_64 rfl rfl ⟨_, rfl, _, rfl, ?_⟩
            refine ⟨rfl, Or.inl ⟨rfl, ?_⟩⟩
            first
              | exact ⟨by omega, c_17, c_30, c_43, c_56⟩
              | exact fun z => c_7 (by rw [show p - s = many by have := z.1; omega])
              | exact fun z => c_17 z.2.1
              | exact fun z => c_30 z.2.2.1
              | exact fun z => c_43 z.2.2.2.1
              | exact fun z => c_56 z.2.2.2.2
set_option maxHeartbeats 4000000 in
set_option maxRecDepth 100000 in
theorem e_X7_wordFrom (b : Nat → Int32) (L p : Nat) (w : Int32) (n : Nat → Int32) (s : Nat) (μ : Mm) (hT : TM b L μ) (hp : p ≤ L) (hs : s ≤ p) : EvN ΛM mX7_wordFrom [.ref 0, .int (nI s)] (pmM μ p w n) (qE (nI (wdOf b s p) - 1) (pmM μ p w n)) := by
  refine EvN_ofQ (by decide +kernel) rfl (fun _ => rfl) (fun _ => Nat.le_of_ble_eq_true rfl) (ls := [(0, .ref 0), (1, .int (nI s))]) ?_
  have hL := hT.2.1
  refine X_aload_n 0 0 dX7_wordFrom_0 rfl rfl ?_
  refine X_getI (f := 19) 1 dX7_wordFrom_1 lf_RX7_226 iw7 vc7 (by decide) lyM rfl ?_
  refine X_iload_n 4 1 dX7_wordFrom_4 rfl rfl ?_
  rw [pm_19]
  refine X_isub 5 dX7_wordFrom_5 ?_
  refine X_iconst 6 (4) dX7_wordFrom_6 (by decide) ?_
  rw [nI_sub (by omega) (by omega)]
  refine X_icmp_ge 7 12 dX7_wordFrom_7 (by decide) (fun c_7 => ?_) (fun c_7 => ?_)
  · have hs4 : 4 ≤ p - s := c_ge (k := 4) rfl (by decide) (by omega) c_7
    refine X_aload_n 12 0 dX7_wordFrom_12 rfl rfl ?_
    refine X_getR (f := 4) 13 dX7_wordFrom_13 lf_RX7_19 iw7 vc7 (by decide) lyM rfl ?_
    refine X_aload_n 16 0 dX7_wordFrom_16 rfl rfl ?_
    refine X_getI (f := 19) 17 dX7_wordFrom_17 lf_RX7_226 iw7 vc7 (by decide) lyM rfl ?_
    refine X_iconst 20 (1) dX7_wordFrom_20 (by decide) ?_
    rw [pm_19]
    refine X_isub 21 dX7_wordFrom_21 ?_
    rw [show nI p - 1 = nI (p - 1) from nI_sub (a := p) (b := 1) (by omega) (by omega)]
    refine X_iald 22 dX7_wordFrom_22 lyM4 (vp_in_nI (N := 150) (by omega) (by decide)) ?_
    rw [nI_clamp (by omega), hT.tx (by omega)]
    refine X_istore_n 23 [(2, .int _), (0, .ref _), (1, .int _)] dX7_wordFrom_23 rfl (by decide) rfl ?_
    refine X_aload_n 24 1 dX7_wordFrom_24 rfl rfl ?_
    refine X_iload_n 25 2 dX7_wordFrom_25 rfl rfl ?_
    refine X_iconst 26 (4) dX7_wordFrom_26 (by decide) ?_
    refine X_bipush 27 (119) dX7_wordFrom_27 (by decide) ?_
    refine X_bipush 29 (97) dX7_wordFrom_29 (by decide) ?_
    refine X_bipush 31 (108) dX7_wordFrom_31 (by decide) ?_
    refine X_bipush 33 (108) dX7_wordFrom_33 (by decide) ?_
    refine X_cVI 35 [.int _, .int _, .int _, .int _, .int _, .int _] (e_X7_isWord b L p w n s 4 119 97 108 108 _ hT hp (by omega) (by decide)) dX7_wordFrom_35 lm_RX7_232 6 ⟨wm_X7_isWord, by decide +kernel, rfl, rfl⟩ rfl ⟨Nat.le_of_ble_eq_true rfl, Nat.le_of_ble_eq_true rfl⟩ lyM vc7 rfl rfl (Nat.le_of_ble_eq_true rfl) ?_
    rintro _ _ ⟨rfl, ⟨rfl, b_35⟩ | ⟨rfl, b_35⟩⟩
    · have h0 := w_0.mpr b_35
      refine X_if_eq 38 45 dX7_wordFrom_38 (by decide) (fun c_0 => by exact absurd c_0 (by decide)) (fun _ => ?_)
      refine X_iconst 41 (0) dX7_wordFrom_41 (by decide) ?_
      refine X_goto 42 227 dX7_wordFrom_42 (by decide) ?_
      refine X_iret 227 dX7_wordFrom_227 rfl rfl ⟨_, rfl, _, rfl, ?_⟩
      first
        | exact ⟨by rw [wdOf, pI_t h0]; rfl, rfl⟩
        | exact ⟨by rw [wdOf, pI_f h0, pI_t h1]; rfl, rfl⟩
        | exact ⟨by rw [wdOf, pI_f h0, pI_f h1, pI_t h2]; rfl, rfl⟩
        | exact ⟨by rw [wdOf, pI_f h0, pI_f h1, pI_f h2, pI_t h3]; rfl, rfl⟩
        | exact ⟨by rw [wdOf, pI_f h0, pI_f h1, pI_f h2, pI_f h3, pI_t h4]; rfl, rfl⟩
        | exact ⟨by rw [wdOf, pI_f h0, pI_f h1, pI_f h2, pI_f h3, pI_f h4, pI_t h5]; rfl, rfl⟩
        | exact ⟨by rw [wdOf, pI_f h0, pI_f h1, pI_f h2, pI_f h3, pI_f h4, pI_f h5, pI_t h6]; rfl, rfl⟩
        | exact ⟨by rw [wdOf, pI_f h0, pI_f h1, pI_f h2, pI_f h3, pI_f h4, pI_f h5, pI_f h6, pI_t h7]; rfl, rfl⟩
        | exact ⟨by rw [wdOf, pI_f h0, pI_f h1, pI_f h2, pI_f h3, pI_f h4, pI_f h5, pI_f h6, pI_f h7]; rfl, rfl⟩
    · have h0 : ¬ isW b s p 0 := fun z => b_35 (w_0.mp z)
      refine X_if_eq 38 45 dX7_wordFrom_38 (by decide) (fun _ => ?_) (fun c_0 => by exact absurd c_0 (by decide))
      refine X_aload_n 45 1 dX7_wordFrom_45 rfl rfl ?_
      refine X_iload_n 46 2 dX7_wordFrom_46 rfl rfl ?_
      refine X_iconst 47 (5) dX7_wordFrom_47 (by decide) ?_
      refine X_bipush 48 (112) dX7_wordFrom_48 (by decide) ?_
      refine X_bipush 50 (97) dX7_wordFrom_50 (by decide) ?_
      refine X_bipush 52 (105) dX7_wordFrom_52 (by decide) ?_
      refine X_bipush 54 (110) dX7_wordFrom_54 (by decide) ?_
      refine X_cVI 56 [.int _, .int _, .int _, .int _, .int _, .int _] (e_X7_isWord b L p w n s 5 112 97 105 110 _ hT hp (by omega) (by decide)) dX7_wordFrom_56 lm_RX7_232 6 ⟨wm_X7_isWord, by decide +kernel, rfl, rfl⟩ rfl ⟨Nat.le_of_ble_eq_true rfl, Nat.le_of_ble_eq_true rfl⟩ lyM vc7 rfl rfl (Nat.le_of_ble_eq_true rfl) ?_
      rintro _ _ ⟨rfl, ⟨rfl, b_56⟩ | ⟨rfl, b_56⟩⟩
      · refine X_if_eq 59 72 dX7_wordFrom_59 (by decide) (fun c_0 => by exact absurd c_0 (by decide)) (fun _ => ?_)
        refine X_iload_n 62 0 dX7_wordFrom_62 rfl rfl ?_
        refine X_bipush 63 (116) dX7_wordFrom_63 (by decide) ?_
        refine X_icmp_ne 65 72 dX7_wordFrom_65 (by decide) (fun c_65 => ?_) (fun c_65 => ?_)
        · have h1 : ¬ isW b s p 1 := fun z => c_65 (by rw [show p - 1 = s + 4 by have := (w_1.mp z).1.1; omega]; exact (w_1.mp z).2)
          refine X_aload_n 72 1 dX7_wordFrom_72 rfl rfl ?_
          refine X_iload_n 73 2 dX7_wordFrom_73 rfl rfl ?_
          refine X_iconst 74 (4) dX7_wordFrom_74 (by decide) ?_
          refine X_bipush 75 (108) dX7_wordFrom_75 (by decide) ?_
          refine X_bipush 77 (97) dX7_wordFrom_77 (by decide) ?_
          refine X_bipush 79 (109) dX7_wordFrom_79 (by decide) ?_
          refine X_bipush 81 (112) dX7_wordFrom_81 (by decide) ?_
          refine X_cVI 83 [.int _, .int _, .int _, .int _, .int _, .int _] (e_X7_isWord b L p w n s 4 108 97 109 112 _ hT hp (by omega) (by decide)) dX7_wordFrom_83 lm_RX7_232 6 ⟨wm_X7_isWord, by decide +kernel, rfl, rfl⟩ rfl ⟨Nat.le_of_ble_eq_true rfl, Nat.le_of_ble_eq_true rfl⟩ lyM vc7 rfl rfl (Nat.le_of_ble_eq_true rfl) ?_
          rintro _ _ ⟨rfl, ⟨rfl, b_83⟩ | ⟨rfl, b_83⟩⟩
          · have h2 := w_2.mpr b_83
            refine X_if_eq 86 93 dX7_wordFrom_86 (by decide) (fun c_0 => by exact absurd c_0 (by decide)) (fun _ => ?_)
            refine X_iconst 89 (2) dX7_wordFrom_89 (by decide) ?_
            refine X_goto 90 227 dX7_wordFrom_90 (by decide) ?_
            refine X_iret 227 dX7_wordFrom_227 rfl rfl ⟨_, rfl, _, rfl, ?_⟩
            first
              | exact ⟨by rw [wdOf, pI_t h0]; rfl, rfl⟩
              | exact ⟨by rw [wdOf, pI_f h0, pI_t h1]; rfl, rfl⟩
              | exact ⟨by rw [wdOf, pI_f h0, pI_f h1, pI_t h2]; rfl, rfl⟩
              | exact ⟨by rw [wdOf, pI_f h0, pI_f h1, pI_f h2, pI_t h3]; rfl, rfl⟩
              | exact ⟨by rw [wdOf, pI_f h0, pI_f h1, pI_f h2, pI_f h3, pI_t h4]; rfl, rfl⟩
              | exact ⟨by rw [wdOf, pI_f h0, pI_f h1, pI_f h2, pI_f h3, pI_f h4, pI_t h5]; rfl, rfl⟩
              | exact ⟨by rw [wdOf, pI_f h0, pI_f h1, pI_f h2, pI_f h3, pI_f h4, pI_f h5, pI_t h6]; rfl, rfl⟩
              | exact ⟨by rw [wdOf, pI_f h0, pI_f h1, pI_f h2, pI_f h3, pI_f h4, pI_f h5, pI_f h6, pI_t h7]; rfl, rfl⟩
              | exact ⟨by rw [wdOf, pI_f h0, pI_f h1, pI_f h2, pI_f h3, pI_f h4, pI_f h5, pI_f h6, pI_f h7]; rfl, rfl⟩
          · have h2 : ¬ isW b s p 2 := fun z => b_83 (w_2.mp z)
            refine X_if_eq 86 93 dX7_wordFrom_86 (by decide) (fun _ => ?_) (fun c_0 => by exact absurd c_0 (by decide))
            refine X_aload_n 93 1 dX7_wordFrom_93 rfl rfl ?_
            refine X_iload_n 94 2 dX7_wordFrom_94 rfl rfl ?_
            refine X_bipush 95 (6) dX7_wordFrom_95 (by decide) ?_
            refine X_bipush 97 (99) dX7_wordFrom_97 (by decide) ?_
            refine X_bipush 99 (111) dX7_wordFrom_99 (by decide) ?_
            refine X_bipush 101 (114) dX7_wordFrom_101 (by decide) ?_
            refine X_bipush 103 (110) dX7_wordFrom_103 (by decide) ?_
            refine X_cVI 105 [.int _, .int _, .int _, .int _, .int _, .int _] (e_X7_isWord b L p w n s 6 99 111 114 110 _ hT hp (by omega) (by decide)) dX7_wordFrom_105 lm_RX7_232 6 ⟨wm_X7_isWord, by decide +kernel, rfl, rfl⟩ rfl ⟨Nat.le_of_ble_eq_true rfl, Nat.le_of_ble_eq_true rfl⟩ lyM vc7 rfl rfl (Nat.le_of_ble_eq_true rfl) ?_
            rintro _ _ ⟨rfl, ⟨rfl, b_105⟩ | ⟨rfl, b_105⟩⟩
            · refine X_if_eq 108 134 dX7_wordFrom_108 (by decide) (fun c_0 => by exact absurd c_0 (by decide)) (fun _ => ?_)
              refine X_aload_n 111 1 dX7_wordFrom_111 rfl rfl ?_
              refine X_getR (f := 4) 112 dX7_wordFrom_112 lf_RX7_19 iw7 vc7 (by decide) lyM rfl ?_
              refine X_iload_n 115 2 dX7_wordFrom_115 rfl rfl ?_
              refine X_iconst 116 (4) dX7_wordFrom_116 (by decide) ?_
              refine X_iadd 117 dX7_wordFrom_117 ?_
              rw [show nI s + 4 = nI (s + 4) from nI_add s 4]
              refine X_iald 118 dX7_wordFrom_118 lyM4 (vp_in_nI (N := 150) (by have := b_105.1; omega) (by decide)) ?_
              rw [nI_clamp (by omega), hT.tx (by have := b_105.1; omega)]
              refine X_bipush 119 (101) dX7_wordFrom_119 (by decide) ?_
              refine X_icmp_ne 121 134 dX7_wordFrom_121 (by decide) (fun c_121 => ?_) (fun c_121 => ?_)
              · have h3 : ¬ isW b s p 3 := fun z => c_121 (w_3.mp z).2.1
                refine X_aload_n 134 1 dX7_wordFrom_134 rfl rfl ?_
                refine X_iload_n 135 2 dX7_wordFrom_135 rfl rfl ?_
                refine X_iconst 136 (5) dX7_wordFrom_136 (by decide) ?_
                refine X_bipush 137 (115) dX7_wordFrom_137 (by decide) ?_
                refine X_bipush 139 (104) dX7_wordFrom_139 (by decide) ?_
                refine X_bipush 141 (105) dX7_wordFrom_141 (by decide) ?_
                refine X_bipush 143 (102) dX7_wordFrom_143 (by decide) ?_
                refine X_cVI 145 [.int _, .int _, .int _, .int _, .int _, .int _] (e_X7_isWord b L p w n s 5 115 104 105 102 _ hT hp (by omega) (by decide)) dX7_wordFrom_145 lm_RX7_232 6 ⟨wm_X7_isWord, by decide +kernel, rfl, rfl⟩ rfl ⟨Nat.le_of_ble_eq_true rfl, Nat.le_of_ble_eq_true rfl⟩ lyM vc7 rfl rfl (Nat.le_of_ble_eq_true rfl) ?_
                rintro _ _ ⟨rfl, ⟨rfl, b_145⟩ | ⟨rfl, b_145⟩⟩
                · refine X_if_eq 148 161 dX7_wordFrom_148 (by decide) (fun c_0 => by exact absurd c_0 (by decide)) (fun _ => ?_)
                  refine X_iload_n 151 0 dX7_wordFrom_151 rfl rfl ?_
                  refine X_bipush 152 (116) dX7_wordFrom_152 (by decide) ?_
                  refine X_icmp_ne 154 161 dX7_wordFrom_154 (by decide) (fun c_154 => ?_) (fun c_154 => ?_)
                  · have h4 : ¬ isW b s p 4 := fun z => c_154 (by rw [show p - 1 = s + 4 by have := (w_4.mp z).1.1; omega]; exact (w_4.mp z).2)
                    refine X_aload_n 161 1 dX7_wordFrom_161 rfl rfl ?_
                    refine X_iload_n 162 2 dX7_wordFrom_162 rfl rfl ?_
                    refine X_iconst 163 (4) dX7_wordFrom_163 (by decide) ?_
                    refine X_bipush 164 (102) dX7_wordFrom_164 (by decide) ?_
                    refine X_bipush 166 (97) dX7_wordFrom_166 (by decide) ?_
                    refine X_bipush 168 (105) dX7_wordFrom_168 (by decide) ?_
                    refine X_bipush 170 (108) dX7_wordFrom_170 (by decide) ?_
                    refine X_cVI 172 [.int _, .int _, .int _, .int _, .int _, .int _] (e_X7_isWord b L p w n s 4 102 97 105 108 _ hT hp (by omega) (by decide)) dX7_wordFrom_172 lm_RX7_232 6 ⟨wm_X7_isWord, by decide +kernel, rfl, rfl⟩ rfl ⟨Nat.le_of_ble_eq_true rfl, Nat.le_of_ble_eq_true rfl⟩ lyM vc7 rfl rfl (Nat.le_of_ble_eq_true rfl) ?_
                    rintro _ _ ⟨rfl, ⟨rfl, b_172⟩ | ⟨rfl, b_172⟩⟩
                    · have h5 := w_5.mpr b_172
                      refine X_if_eq 175 182 dX7_wordFrom_175 (by decide) (fun c_0 => by exact absurd c_0 (by decide)) (fun _ => ?_)
                      refine X_iconst 178 (5) dX7_wordFrom_178 (by decide) ?_
                      refine X_goto 179 227 dX7_wordFrom_179 (by decide) ?_
                      refine X_iret 227 dX7_wordFrom_227 rfl rfl ⟨_, rfl, _, rfl, ?_⟩
                      first
                        | exact ⟨by rw [wdOf, pI_t h0]; rfl, rfl⟩
                        | exact ⟨by rw [wdOf, pI_f h0, pI_t h1]; rfl, rfl⟩
                        | exact ⟨by rw [wdOf, pI_f h0, pI_f h1, pI_t h2]; rfl, rfl⟩
                        | exact ⟨by rw [wdOf, pI_f h0, pI_f h1, pI_f h2, pI_t h3]; rfl, rfl⟩
                        | exact ⟨by rw [wdOf, pI_f h0, pI_f h1, pI_f h2, pI_f h3, pI_t h4]; rfl, rfl⟩
                        | exact ⟨by rw [wdOf, pI_f h0, pI_f h1, pI_f h2, pI_f h3, pI_f h4, pI_t h5]; rfl, rfl⟩
                        | exact ⟨by rw [wdOf, pI_f h0, pI_f h1, pI_f h2, pI_f h3, pI_f h4, pI_f h5, pI_t h6]; rfl, rfl⟩
                        | exact ⟨by rw [wdOf, pI_f h0, pI_f h1, pI_f h2, pI_f h3, pI_f h4, pI_f h5, pI_f h6, pI_t h7]; rfl, rfl⟩
                        | exact ⟨by rw [wdOf, pI_f h0, pI_f h1, pI_f h2, pI_f h3, pI_f h4, pI_f h5, pI_f h6, pI_f h7]; rfl, rfl⟩
                    · have h5 : ¬ isW b s p 5 := fun z => b_172 (w_5.mp z)
                      refine X_if_eq 175 182 dX7_wordFrom_175 (by decide) (fun _ => ?_) (fun c_0 => by exact absurd c_0 (by decide))
                      refine X_aload_n 182 1 dX7_wordFrom_182 rfl rfl ?_
                      refine X_iload_n 183 2 dX7_wordFrom_183 rfl rfl ?_
                      refine X_iconst 184 (4) dX7_wordFrom_184 (by decide) ?_
                      refine X_bipush 185 (109) dX7_wordFrom_185 (by decide) ?_
                      refine X_bipush 187 (101) dX7_wordFrom_187 (by decide) ?_
                      refine X_bipush 189 (110) dX7_wordFrom_189 (by decide) ?_
                      refine X_bipush 191 (100) dX7_wordFrom_191 (by decide) ?_
                      refine X_cVI 193 [.int _, .int _, .int _, .int _, .int _, .int _] (e_X7_isWord b L p w n s 4 109 101 110 100 _ hT hp (by omega) (by decide)) dX7_wordFrom_193 lm_RX7_232 6 ⟨wm_X7_isWord, by decide +kernel, rfl, rfl⟩ rfl ⟨Nat.le_of_ble_eq_true rfl, Nat.le_of_ble_eq_true rfl⟩ lyM vc7 rfl rfl (Nat.le_of_ble_eq_true rfl) ?_
                      rintro _ _ ⟨rfl, ⟨rfl, b_193⟩ | ⟨rfl, b_193⟩⟩
                      · have h6 := w_6.mpr b_193
                        refine X_if_eq 196 204 dX7_wordFrom_196 (by decide) (fun c_0 => by exact absurd c_0 (by decide)) (fun _ => ?_)
                        refine X_bipush 199 (6) dX7_wordFrom_199 (by decide) ?_
                        refine X_goto 201 227 dX7_wordFrom_201 (by decide) ?_
                        refine X_iret 227 dX7_wordFrom_227 rfl rfl ⟨_, rfl, _, rfl, ?_⟩
                        first
                          | exact ⟨by rw [wdOf, pI_t h0]; rfl, rfl⟩
                          | exact ⟨by rw [wdOf, pI_f h0, pI_t h1]; rfl, rfl⟩
                          | exact ⟨by rw [wdOf, pI_f h0, pI_f h1, pI_t h2]; rfl, rfl⟩
                          | exact ⟨by rw [wdOf, pI_f h0, pI_f h1, pI_f h2, pI_t h3]; rfl, rfl⟩
                          | exact ⟨by rw [wdOf, pI_f h0, pI_f h1, pI_f h2, pI_f h3, pI_t h4]; rfl, rfl⟩
                          | exact ⟨by rw [wdOf, pI_f h0, pI_f h1, pI_f h2, pI_f h3, pI_f h4, pI_t h5]; rfl, rfl⟩
                          | exact ⟨by rw [wdOf, pI_f h0, pI_f h1, pI_f h2, pI_f h3, pI_f h4, pI_f h5, pI_t h6]; rfl, rfl⟩
                          | exact ⟨by rw [wdOf, pI_f h0, pI_f h1, pI_f h2, pI_f h3, pI_f h4, pI_f h5, pI_f h6, pI_t h7]; rfl, rfl⟩
                          | exact ⟨by rw [wdOf, pI_f h0, pI_f h1, pI_f h2, pI_f h3, pI_f h4, pI_f h5, pI_f h6, pI_f h7]; rfl, rfl⟩
                      · have h6 : ¬ isW b s p 6 := fun z => b_193 (w_6.mp z)
                        refine X_if_eq 196 204 dX7_wordFrom_196 (by decide) (fun _ => ?_) (fun c_0 => by exact absurd c_0 (by decide))
                        refine X_aload_n 204 1 dX7_wordFrom_204 rfl rfl ?_
                        refine X_iload_n 205 2 dX7_wordFrom_205 rfl rfl ?_
                        refine X_iconst 206 (4) dX7_wordFrom_206 (by decide) ?_
                        refine X_bipush 207 (98) dX7_wordFrom_207 (by decide) ?_
                        refine X_bipush 209 (117) dX7_wordFrom_209 (by decide) ?_
                        refine X_bipush 211 (114) dX7_wordFrom_211 (by decide) ?_
                        refine X_bipush 213 (110) dX7_wordFrom_213 (by decide) ?_
                        refine X_cVI 215 [.int _, .int _, .int _, .int _, .int _, .int _] (e_X7_isWord b L p w n s 4 98 117 114 110 _ hT hp (by omega) (by decide)) dX7_wordFrom_215 lm_RX7_232 6 ⟨wm_X7_isWord, by decide +kernel, rfl, rfl⟩ rfl ⟨Nat.le_of_ble_eq_true rfl, Nat.le_of_ble_eq_true rfl⟩ lyM vc7 rfl rfl (Nat.le_of_ble_eq_true rfl) ?_
                        rintro _ _ ⟨rfl, ⟨rfl, b_215⟩ | ⟨rfl, b_215⟩⟩
                        · have h7 := w_7.mpr b_215
                          refine X_if_eq 218 226 dX7_wordFrom_218 (by decide) (fun c_0 => by exact absurd c_0 (by decide)) (fun _ => ?_)
                          refine X_bipush 221 (7) dX7_wordFrom_221 (by decide) ?_
                          refine X_goto 223 227 dX7_wordFrom_223 (by decide) ?_
                          refine X_iret 227 dX7_wordFrom_227 rfl rfl ⟨_, rfl, _, rfl, ?_⟩
                          first
                            | exact ⟨by rw [wdOf, pI_t h0]; rfl, rfl⟩
                            | exact ⟨by rw [wdOf, pI_f h0, pI_t h1]; rfl, rfl⟩
                            | exact ⟨by rw [wdOf, pI_f h0, pI_f h1, pI_t h2]; rfl, rfl⟩
                            | exact ⟨by rw [wdOf, pI_f h0, pI_f h1, pI_f h2, pI_t h3]; rfl, rfl⟩
                            | exact ⟨by rw [wdOf, pI_f h0, pI_f h1, pI_f h2, pI_f h3, pI_t h4]; rfl, rfl⟩
                            | exact ⟨by rw [wdOf, pI_f h0, pI_f h1, pI_f h2, pI_f h3, pI_f h4, pI_t h5]; rfl, rfl⟩
                            | exact ⟨by rw [wdOf, pI_f h0, pI_f h1, pI_f h2, pI_f h3, pI_f h4, pI_f h5, pI_t h6]; rfl, rfl⟩
                            | exact ⟨by rw [wdOf, pI_f h0, pI_f h1, pI_f h2, pI_f h3, pI_f h4, pI_f h5, pI_f h6, pI_t h7]; rfl, rfl⟩
                            | exact ⟨by rw [wdOf, pI_f h0, pI_f h1, pI_f h2, pI_f h3, pI_f h4, pI_f h5, pI_f h6, pI_f h7]; rfl, rfl⟩
                        · have h7 : ¬ isW b s p 7 := fun z => b_215 (w_7.mp z)
                          refine X_if_eq 218 226 dX7_wordFrom_218 (by decide) (fun _ => ?_) (fun c_0 => by exact absurd c_0 (by decide))
                          refine X_iconst 226 (-1) dX7_wordFrom_226 (by decide) ?_
                          refine X_iret 227 dX7_wordFrom_227 rfl rfl ⟨_, rfl, _, rfl, ?_⟩
                          first
                            | exact ⟨by rw [wdOf, pI_t h0]; rfl, rfl⟩
                            | exact ⟨by rw [wdOf, pI_f h0, pI_t h1]; rfl, rfl⟩
                            | exact ⟨by rw [wdOf, pI_f h0, pI_f h1, pI_t h2]; rfl, rfl⟩
                            | exact ⟨by rw [wdOf, pI_f h0, pI_f h1, pI_f h2, pI_t h3]; rfl, rfl⟩
                            | exact ⟨by rw [wdOf, pI_f h0, pI_f h1, pI_f h2, pI_f h3, pI_t h4]; rfl, rfl⟩
                            | exact ⟨by rw [wdOf, pI_f h0, pI_f h1, pI_f h2, pI_f h3, pI_f h4, pI_t h5]; rfl, rfl⟩
                            | exact ⟨by rw [wdOf, pI_f h0, pI_f h1, pI_f h2, pI_f h3, pI_f h4, pI_f h5, pI_t h6]; rfl, rfl⟩
                            | exact ⟨by rw [wdOf, pI_f h0, pI_f h1, pI_f h2, pI_f h3, pI_f h4, pI_f h5, pI_f h6, pI_t h7]; rfl, rfl⟩
                            | exact ⟨by rw [wdOf, pI_f h0, pI_f h1, pI_f h2, pI_f h3, pI_f h4, pI_f h5, pI_f h6, pI_f h7]; rfl, rfl⟩
                  · have h4 : isW b s p 4 := w_4.mpr ⟨b_145, by rw [show s + 4 = p - 1 by have := b_145.1; omega]; exact c_154⟩
                    refine X_iconst 157 (4) dX7_wordFrom_157 (by decide) ?_
                    refine X_goto 158 227 dX7_wordFrom_158 (by decide) ?_
                    refine X_iret 227 dX7_wordFrom_227 rfl rfl ⟨_, rfl, _, rfl, ?_⟩
                    first
                      | exact ⟨by rw [wdOf, pI_t h0]; rfl, rfl⟩
                      | exact ⟨by rw [wdOf, pI_f h0, pI_t h1]; rfl, rfl⟩
                      | exact ⟨by rw [wdOf, pI_f h0, pI_f h1, pI_t h2]; rfl, rfl⟩
                      | exact ⟨by rw [wdOf, pI_f h0, pI_f h1, pI_f h2, pI_t h3]; rfl, rfl⟩
                      | exact ⟨by rw [wdOf, pI_f h0, pI_f h1, pI_f h2, pI_f h3, pI_t h4]; rfl, rfl⟩
                      | exact ⟨by rw [wdOf, pI_f h0, pI_f h1, pI_f h2, pI_f h3, pI_f h4, pI_t h5]; rfl, rfl⟩
                      | exact ⟨by rw [wdOf, pI_f h0, pI_f h1, pI_f h2, pI_f h3, pI_f h4, pI_f h5, pI_t h6]; rfl, rfl⟩
                      | exact ⟨by rw [wdOf, pI_f h0, pI_f h1, pI_f h2, pI_f h3, pI_f h4, pI_f h5, pI_f h6, pI_t h7]; rfl, rfl⟩
                      | exact ⟨by rw [wdOf, pI_f h0, pI_f h1, pI_f h2, pI_f h3, pI_f h4, pI_f h5, pI_f h6, pI_f h7]; rfl, rfl⟩
                · have h4 : ¬ isW b s p 4 := fun z => b_145 (w_4.mp z).1
                  refine X_if_eq 148 161 dX7_wordFrom_148 (by decide) (fun _ => ?_) (fun c_0 => by exact absurd c_0 (by decide))
                  refine X_aload_n 161 1 dX7_wordFrom_161 rfl rfl ?_
                  refine X_iload_n 162 2 dX7_wordFrom_162 rfl rfl ?_
                  refine X_iconst 163 (4) dX7_wordFrom_163 (by decide) ?_
                  refine X_bipush 164 (102) dX7_wordFrom_164 (by decide) ?_
                  refine X_bipush 166 (97) dX7_wordFrom_166 (by decide) ?_
                  refine X_bipush 168 (105) dX7_wordFrom_168 (by decide) ?_
                  refine X_bipush 170 (108) dX7_wordFrom_170 (by decide) ?_
                  refine X_cVI 172 [.int _, .int _, .int _, .int _, .int _, .int _] (e_X7_isWord b L p w n s 4 102 97 105 108 _ hT hp (by omega) (by decide)) dX7_wordFrom_172 lm_RX7_232 6 ⟨wm_X7_isWord, by decide +kernel, rfl, rfl⟩ rfl ⟨Nat.le_of_ble_eq_true rfl, Nat.le_of_ble_eq_true rfl⟩ lyM vc7 rfl rfl (Nat.le_of_ble_eq_true rfl) ?_
                  rintro _ _ ⟨rfl, ⟨rfl, b_172⟩ | ⟨rfl, b_172⟩⟩
                  · have h5 := w_5.mpr b_172
                    refine X_if_eq 175 182 dX7_wordFrom_175 (by decide) (fun c_0 => by exact absurd c_0 (by decide)) (fun _ => ?_)
                    refine X_iconst 178 (5) dX7_wordFrom_178 (by decide) ?_
                    refine X_goto 179 227 dX7_wordFrom_179 (by decide) ?_
                    refine X_iret 227 dX7_wordFrom_227 rfl rfl ⟨_, rfl, _, rfl, ?_⟩
                    first
                      | exact ⟨by rw [wdOf, pI_t h0]; rfl, rfl⟩
                      | exact ⟨by rw [wdOf, pI_f h0, pI_t h1]; rfl, rfl⟩
                      | exact ⟨by rw [wdOf, pI_f h0, pI_f h1, pI_t h2]; rfl, rfl⟩
                      | exact ⟨by rw [wdOf, pI_f h0, pI_f h1, pI_f h2, pI_t h3]; rfl, rfl⟩
                      | exact ⟨by rw [wdOf, pI_f h0, pI_f h1, pI_f h2, pI_f h3, pI_t h4]; rfl, rfl⟩
                      | exact ⟨by rw [wdOf, pI_f h0, pI_f h1, pI_f h2, pI_f h3, pI_f h4, pI_t h5]; rfl, rfl⟩
                      | exact ⟨by rw [wdOf, pI_f h0, pI_f h1, pI_f h2, pI_f h3, pI_f h4, pI_f h5, pI_t h6]; rfl, rfl⟩
                      | exact ⟨by rw [wdOf, pI_f h0, pI_f h1, pI_f h2, pI_f h3, pI_f h4, pI_f h5, pI_f h6, pI_t h7]; rfl, rfl⟩
                      | exact ⟨by rw [wdOf, pI_f h0, pI_f h1, pI_f h2, pI_f h3, pI_f h4, pI_f h5, pI_f h6, pI_f h7]; rfl, rfl⟩
                  · have h5 : ¬ isW b s p 5 := fun z => b_172 (w_5.mp z)
                    refine X_if_eq 175 182 dX7_wordFrom_175 (by decide) (fun _ => ?_) (fun c_0 => by exact absurd c_0 (by decide))
                    refine X_aload_n 182 1 dX7_wordFrom_182 rfl rfl ?_
                    refine X_iload_n 183 2 dX7_wordFrom_183 rfl rfl ?_
                    refine X_iconst 184 (4) dX7_wordFrom_184 (by decide) ?_
                    refine X_bipush 185 (109) dX7_wordFrom_185 (by decide) ?_
                    refine X_bipush 187 (101) dX7_wordFrom_187 (by decide) ?_
                    refine X_bipush 189 (110) dX7_wordFrom_189 (by decide) ?_
                    refine X_bipush 191 (100) dX7_wordFrom_191 (by decide) ?_
                    refine X_cVI 193 [.int _, .int _, .int _, .int _, .int _, .int _] (e_X7_isWord b L p w n s 4 109 101 110 100 _ hT hp (by omega) (by decide)) dX7_wordFrom_193 lm_RX7_232 6 ⟨wm_X7_isWord, by decide +kernel, rfl, rfl⟩ rfl ⟨Nat.le_of_ble_eq_true rfl, Nat.le_of_ble_eq_true rfl⟩ lyM vc7 rfl rfl (Nat.le_of_ble_eq_true rfl) ?_
                    rintro _ _ ⟨rfl, ⟨rfl, b_193⟩ | ⟨rfl, b_193⟩⟩
                    · have h6 := w_6.mpr b_193
                      refine X_if_eq 196 204 dX7_wordFrom_196 (by decide) (fun c_0 => by exact absurd c_0 (by decide)) (fun _ => ?_)
                      refine X_bipush 199 (6) dX7_wordFrom_199 (by decide) ?_
                      refine X_goto 201 227 dX7_wordFrom_201 (by decide) ?_
                      refine X_iret 227 dX7_wordFrom_227 rfl rfl ⟨_, rfl, _, rfl, ?_⟩
                      first
                        | exact ⟨by rw [wdOf, pI_t h0]; rfl, rfl⟩
                        | exact ⟨by rw [wdOf, pI_f h0, pI_t h1]; rfl, rfl⟩
                        | exact ⟨by rw [wdOf, pI_f h0, pI_f h1, pI_t h2]; rfl, rfl⟩
                        | exact ⟨by rw [wdOf, pI_f h0, pI_f h1, pI_f h2, pI_t h3]; rfl, rfl⟩
                        | exact ⟨by rw [wdOf, pI_f h0, pI_f h1, pI_f h2, pI_f h3, pI_t h4]; rfl, rfl⟩
                        | exact ⟨by rw [wdOf, pI_f h0, pI_f h1, pI_f h2, pI_f h3, pI_f h4, pI_t h5]; rfl, rfl⟩
                        | exact ⟨by rw [wdOf, pI_f h0, pI_f h1, pI_f h2, pI_f h3, pI_f h4, pI_f h5, pI_t h6]; rfl, rfl⟩
                        | exact ⟨by rw [wdOf, pI_f h0, pI_f h1, pI_f h2, pI_f h3, pI_f h4, pI_f h5, pI_f h6, pI_t h7]; rfl, rfl⟩
                        | exact ⟨by rw [wdOf, pI_f h0, pI_f h1, pI_f h2, pI_f h3, pI_f h4, pI_f h5, pI_f h6, pI_f h7]; rfl, rfl⟩
                    · have h6 : ¬ isW b s p 6 := fun z => b_193 (w_6.mp z)
                      refine X_if_eq 196 204 dX7_wordFrom_196 (by decide) (fun _ => ?_) (fun c_0 => by exact absurd c_0 (by decide))
                      refine X_aload_n 204 1 dX7_wordFrom_204 rfl rfl ?_
                      refine X_iload_n 205 2 dX7_wordFrom_205 rfl rfl ?_
                      refine X_iconst 206 (4) dX7_wordFrom_206 (by decide) ?_
                      refine X_bipush 207 (98) dX7_wordFrom_207 (by decide) ?_
                      refine X_bipush 209 (117) dX7_wordFrom_209 (by decide) ?_
                      refine X_bipush 211 (114) dX7_wordFrom_211 (by decide) ?_
                      refine X_bipush 213 (110) dX7_wordFrom_213 (by decide) ?_
                      refine X_cVI 215 [.int _, .int _, .int _, .int _, .int _, .int _] (e_X7_isWord b L p w n s 4 98 117 114 110 _ hT hp (by omega) (by decide)) dX7_wordFrom_215 lm_RX7_232 6 ⟨wm_X7_isWord, by decide +kernel, rfl, rfl⟩ rfl ⟨Nat.le_of_ble_eq_true rfl, Nat.le_of_ble_eq_true rfl⟩ lyM vc7 rfl rfl (Nat.le_of_ble_eq_true rfl) ?_
                      rintro _ _ ⟨rfl, ⟨rfl, b_215⟩ | ⟨rfl, b_215⟩⟩
                      · have h7 := w_7.mpr b_215
                        refine X_if_eq 218 226 dX7_wordFrom_218 (by decide) (fun c_0 => by exact absurd c_0 (by decide)) (fun _ => ?_)
                        refine X_bipush 221 (7) dX7_wordFrom_221 (by decide) ?_
                        refine X_goto 223 227 dX7_wordFrom_223 (by decide) ?_
                        refine X_iret 227 dX7_wordFrom_227 rfl rfl ⟨_, rfl, _, rfl, ?_⟩
                        first
                          | exact ⟨by rw [wdOf, pI_t h0]; rfl, rfl⟩
                          | exact ⟨by rw [wdOf, pI_f h0, pI_t h1]; rfl, rfl⟩
                          | exact ⟨by rw [wdOf, pI_f h0, pI_f h1, pI_t h2]; rfl, rfl⟩
                          | exact ⟨by rw [wdOf, pI_f h0, pI_f h1, pI_f h2, pI_t h3]; rfl, rfl⟩
                          | exact ⟨by rw [wdOf, pI_f h0, pI_f h1, pI_f h2, pI_f h3, pI_t h4]; rfl, rfl⟩
                          | exact ⟨by rw [wdOf, pI_f h0, pI_f h1, pI_f h2, pI_f h3, pI_f h4, pI_t h5]; rfl, rfl⟩
                          | exact ⟨by rw [wdOf, pI_f h0, pI_f h1, pI_f h2, pI_f h3, pI_f h4, pI_f h5, pI_t h6]; rfl, rfl⟩
                          | exact ⟨by rw [wdOf, pI_f h0, pI_f h1, pI_f h2, pI_f h3, pI_f h4, pI_f h5, pI_f h6, pI_t h7]; rfl, rfl⟩
                          | exact ⟨by rw [wdOf, pI_f h0, pI_f h1, pI_f h2, pI_f h3, pI_f h4, pI_f h5, pI_f h6, pI_f h7]; rfl, rfl⟩
                      · have h7 : ¬ isW b s p 7 := fun z => b_215 (w_7.mp z)
                        refine X_if_eq 218 226 dX7_wordFrom_218 (by decide) (fun _ => ?_) (fun c_0 => by exact absurd c_0 (by decide))
                        refine X_iconst 226 (-1) dX7_wordFrom_226 (by decide) ?_
                        refine X_iret 227 dX7_wordFrom_227 rfl rfl ⟨_, rfl, _, rfl, ?_⟩
                        first
                          | exact ⟨by rw [wdOf, pI_t h0]; rfl, rfl⟩
                          | exact ⟨by rw [wdOf, pI_f h0, pI_t h1]; rfl, rfl⟩
                          | exact ⟨by rw [wdOf, pI_f h0, pI_f h1, pI_t h2]; rfl, rfl⟩
                          | exact ⟨by rw [wdOf, pI_f h0, pI_f h1, pI_f h2, pI_t h3]; rfl, rfl⟩
                          | exact ⟨by rw [wdOf, pI_f h0, pI_f h1, pI_f h2, pI_f h3, pI_t h4]; rfl, rfl⟩
                          | exact ⟨by rw [wdOf, pI_f h0, pI_f h1, pI_f h2, pI_f h3, pI_f h4, pI_t h5]; rfl, rfl⟩
                          | exact ⟨by rw [wdOf, pI_f h0, pI_f h1, pI_f h2, pI_f h3, pI_f h4, pI_f h5, pI_t h6]; rfl, rfl⟩
                          | exact ⟨by rw [wdOf, pI_f h0, pI_f h1, pI_f h2, pI_f h3, pI_f h4, pI_f h5, pI_f h6, pI_t h7]; rfl, rfl⟩
                          | exact ⟨by rw [wdOf, pI_f h0, pI_f h1, pI_f h2, pI_f h3, pI_f h4, pI_f h5, pI_f h6, pI_f h7]; rfl, rfl⟩
              · refine X_iload_n 124 0 dX7_wordFrom_124 rfl rfl ?_
                refine X_bipush 125 (114) dX7_wordFrom_125 (by decide) ?_
                refine X_icmp_ne 127 134 dX7_wordFrom_127 (by decide) (fun c_127 => ?_) (fun c_127 => ?_)
                · have h3 : ¬ isW b s p 3 := fun z => c_127 (by rw [show p - 1 = s + 5 by have := (w_3.mp z).1.1; omega]; exact (w_3.mp z).2.2)
                  refine X_aload_n 134 1 dX7_wordFrom_134 rfl rfl ?_
                  refine X_iload_n 135 2 dX7_wordFrom_135 rfl rfl ?_
                  refine X_iconst 136 (5) dX7_wordFrom_136 (by decide) ?_
                  refine X_bipush 137 (115) dX7_wordFrom_137 (by decide) ?_
                  refine X_bipush 139 (104) dX7_wordFrom_139 (by decide) ?_
                  refine X_bipush 141 (105) dX7_wordFrom_141 (by decide) ?_
                  refine X_bipush 143 (102) dX7_wordFrom_143 (by decide) ?_
                  refine X_cVI 145 [.int _, .int _, .int _, .int _, .int _, .int _] (e_X7_isWord b L p w n s 5 115 104 105 102 _ hT hp (by omega) (by decide)) dX7_wordFrom_145 lm_RX7_232 6 ⟨wm_X7_isWord, by decide +kernel, rfl, rfl⟩ rfl ⟨Nat.le_of_ble_eq_true rfl, Nat.le_of_ble_eq_true rfl⟩ lyM vc7 rfl rfl (Nat.le_of_ble_eq_true rfl) ?_
                  rintro _ _ ⟨rfl, ⟨rfl, b_145⟩ | ⟨rfl, b_145⟩⟩
                  · refine X_if_eq 148 161 dX7_wordFrom_148 (by decide) (fun c_0 => by exact absurd c_0 (by decide)) (fun _ => ?_)
                    refine X_iload_n 151 0 dX7_wordFrom_151 rfl rfl ?_
                    refine X_bipush 152 (116) dX7_wordFrom_152 (by decide) ?_
                    refine X_icmp_ne 154 161 dX7_wordFrom_154 (by decide) (fun c_154 => ?_) (fun c_154 => ?_)
                    · have h4 : ¬ isW b s p 4 := fun z => c_154 (by rw [show p - 1 = s + 4 by have := (w_4.mp z).1.1; omega]; exact (w_4.mp z).2)
                      refine X_aload_n 161 1 dX7_wordFrom_161 rfl rfl ?_
                      refine X_iload_n 162 2 dX7_wordFrom_162 rfl rfl ?_
                      refine X_iconst 163 (4) dX7_wordFrom_163 (by decide) ?_
                      refine X_bipush 164 (102) dX7_wordFrom_164 (by decide) ?_
                      refine X_bipush 166 (97) dX7_wordFrom_166 (by decide) ?_
                      refine X_bipush 168 (105) dX7_wordFrom_168 (by decide) ?_
                      refine X_bipush 170 (108) dX7_wordFrom_170 (by decide) ?_
                      refine X_cVI 172 [.int _, .int _, .int _, .int _, .int _, .int _] (e_X7_isWord b L p w n s 4 102 97 105 108 _ hT hp (by omega) (by decide)) dX7_wordFrom_172 lm_RX7_232 6 ⟨wm_X7_isWord, by decide +kernel, rfl, rfl⟩ rfl ⟨Nat.le_of_ble_eq_true rfl, Nat.le_of_ble_eq_true rfl⟩ lyM vc7 rfl rfl (Nat.le_of_ble_eq_true rfl) ?_
                      rintro _ _ ⟨rfl, ⟨rfl, b_172⟩ | ⟨rfl, b_172⟩⟩
                      · have h5 := w_5.mpr b_172
                        refine X_if_eq 175 182 dX7_wordFrom_175 (by decide) (fun c_0 => by exact absurd c_0 (by decide)) (fun _ => ?_)
                        refine X_iconst 178 (5) dX7_wordFrom_178 (by decide) ?_
                        refine X_goto 179 227 dX7_wordFrom_179 (by decide) ?_
                        refine X_iret 227 dX7_wordFrom_227 rfl rfl ⟨_, rfl, _, rfl, ?_⟩
                        first
                          | exact ⟨by rw [wdOf, pI_t h0]; rfl, rfl⟩
                          | exact ⟨by rw [wdOf, pI_f h0, pI_t h1]; rfl, rfl⟩
                          | exact ⟨by rw [wdOf, pI_f h0, pI_f h1, pI_t h2]; rfl, rfl⟩
                          | exact ⟨by rw [wdOf, pI_f h0, pI_f h1, pI_f h2, pI_t h3]; rfl, rfl⟩
                          | exact ⟨by rw [wdOf, pI_f h0, pI_f h1, pI_f h2, pI_f h3, pI_t h4]; rfl, rfl⟩
                          | exact ⟨by rw [wdOf, pI_f h0, pI_f h1, pI_f h2, pI_f h3, pI_f h4, pI_t h5]; rfl, rfl⟩
                          | exact ⟨by rw [wdOf, pI_f h0, pI_f h1, pI_f h2, pI_f h3, pI_f h4, pI_f h5, pI_t h6]; rfl, rfl⟩
                          | exact ⟨by rw [wdOf, pI_f h0, pI_f h1, pI_f h2, pI_f h3, pI_f h4, pI_f h5, pI_f h6, pI_t h7]; rfl, rfl⟩
                          | exact ⟨by rw [wdOf, pI_f h0, pI_f h1, pI_f h2, pI_f h3, pI_f h4, pI_f h5, pI_f h6, pI_f h7]; rfl, rfl⟩
                      · have h5 : ¬ isW b s p 5 := fun z => b_172 (w_5.mp z)
                        refine X_if_eq 175 182 dX7_wordFrom_175 (by decide) (fun _ => ?_) (fun c_0 => by exact absurd c_0 (by decide))
                        refine X_aload_n 182 1 dX7_wordFrom_182 rfl rfl ?_
                        refine X_iload_n 183 2 dX7_wordFrom_183 rfl rfl ?_
                        refine X_iconst 184 (4) dX7_wordFrom_184 (by decide) ?_
                        refine X_bipush 185 (109) dX7_wordFrom_185 (by decide) ?_
                        refine X_bipush 187 (101) dX7_wordFrom_187 (by decide) ?_
                        refine X_bipush 189 (110) dX7_wordFrom_189 (by decide) ?_
                        refine X_bipush 191 (100) dX7_wordFrom_191 (by decide) ?_
                        refine X_cVI 193 [.int _, .int _, .int _, .int _, .int _, .int _] (e_X7_isWord b L p w n s 4 109 101 110 100 _ hT hp (by omega) (by decide)) dX7_wordFrom_193 lm_RX7_232 6 ⟨wm_X7_isWord, by decide +kernel, rfl, rfl⟩ rfl ⟨Nat.le_of_ble_eq_true rfl, Nat.le_of_ble_eq_true rfl⟩ lyM vc7 rfl rfl (Nat.le_of_ble_eq_true rfl) ?_
                        rintro _ _ ⟨rfl, ⟨rfl, b_193⟩ | ⟨rfl, b_193⟩⟩
                        · have h6 := w_6.mpr b_193
                          refine X_if_eq 196 204 dX7_wordFrom_196 (by decide) (fun c_0 => by exact absurd c_0 (by decide)) (fun _ => ?_)
                          refine X_bipush 199 (6) dX7_wordFrom_199 (by decide) ?_
                          refine X_goto 201 227 dX7_wordFrom_201 (by decide) ?_
                          refine X_iret 227 dX7_wordFrom_227 rfl rfl ⟨_, rfl, _, rfl, ?_⟩
                          first
                            | exact ⟨by rw [wdOf, pI_t h0]; rfl, rfl⟩
                            | exact ⟨by rw [wdOf, pI_f h0, pI_t h1]; rfl, rfl⟩
                            | exact ⟨by rw [wdOf, pI_f h0, pI_f h1, pI_t h2]; rfl, rfl⟩
                            | exact ⟨by rw [wdOf, pI_f h0, pI_f h1, pI_f h2, pI_t h3]; rfl, rfl⟩
                            | exact ⟨by rw [wdOf, pI_f h0, pI_f h1, pI_f h2, pI_f h3, pI_t h4]; rfl, rfl⟩
                            | exact ⟨by rw [wdOf, pI_f h0, pI_f h1, pI_f h2, pI_f h3, pI_f h4, pI_t h5]; rfl, rfl⟩
                            | exact ⟨by rw [wdOf, pI_f h0, pI_f h1, pI_f h2, pI_f h3, pI_f h4, pI_f h5, pI_t h6]; rfl, rfl⟩
                            | exact ⟨by rw [wdOf, pI_f h0, pI_f h1, pI_f h2, pI_f h3, pI_f h4, pI_f h5, pI_f h6, pI_t h7]; rfl, rfl⟩
                            | exact ⟨by rw [wdOf, pI_f h0, pI_f h1, pI_f h2, pI_f h3, pI_f h4, pI_f h5, pI_f h6, pI_f h7]; rfl, rfl⟩
                        · have h6 : ¬ isW b s p 6 := fun z => b_193 (w_6.mp z)
                          refine X_if_eq 196 204 dX7_wordFrom_196 (by decide) (fun _ => ?_) (fun c_0 => by exact absurd c_0 (by decide))
                          refine X_aload_n 204 1 dX7_wordFrom_204 rfl rfl ?_
                          refine X_iload_n 205 2 dX7_wordFrom_205 rfl rfl ?_
                          refine X_iconst 206 (4) dX7_wordFrom_206 (by decide) ?_
                          refine X_bipush 207 (98) dX7_wordFrom_207 (by decide) ?_
                          refine X_bipush 209 (117) dX7_wordFrom_209 (by decide) ?_
                          refine X_bipush 211 (114) dX7_wordFrom_211 (by decide) ?_
                          refine X_bipush 213 (110) dX7_wordFrom_213 (by decide) ?_
                          refine X_cVI 215 [.int _, .int _, .int _, .int _, .int _, .int _] (e_X7_isWord b L p w n s 4 98 117 114 110 _ hT hp (by omega) (by decide)) dX7_wordFrom_215 lm_RX7_232 6 ⟨wm_X7_isWord, by decide +kernel, rfl, rfl⟩ rfl ⟨Nat.le_of_ble_eq_true rfl, Nat.le_of_ble_eq_true rfl⟩ lyM vc7 rfl rfl (Nat.le_of_ble_eq_true rfl) ?_
                          rintro _ _ ⟨rfl, ⟨rfl, b_215⟩ | ⟨rfl, b_215⟩⟩
                          · have h7 := w_7.mpr b_215
                            refine X_if_eq 218 226 dX7_wordFrom_218 (by decide) (fun c_0 => by exact absurd c_0 (by decide)) (fun _ => ?_)
                            refine X_bipush 221 (7) dX7_wordFrom_221 (by decide) ?_
                            refine X_goto 223 227 dX7_wordFrom_223 (by decide) ?_
                            refine X_iret 227 dX7_wordFrom_227 rfl rfl ⟨_, rfl, _, rfl, ?_⟩
                            first
                              | exact ⟨by rw [wdOf, pI_t h0]; rfl, rfl⟩
                              | exact ⟨by rw [wdOf, pI_f h0, pI_t h1]; rfl, rfl⟩
                              | exact ⟨by rw [wdOf, pI_f h0, pI_f h1, pI_t h2]; rfl, rfl⟩
                              | exact ⟨by rw [wdOf, pI_f h0, pI_f h1, pI_f h2, pI_t h3]; rfl, rfl⟩
                              | exact ⟨by rw [wdOf, pI_f h0, pI_f h1, pI_f h2, pI_f h3, pI_t h4]; rfl, rfl⟩
                              | exact ⟨by rw [wdOf, pI_f h0, pI_f h1, pI_f h2, pI_f h3, pI_f h4, pI_t h5]; rfl, rfl⟩
                              | exact ⟨by rw [wdOf, pI_f h0, pI_f h1, pI_f h2, pI_f h3, pI_f h4, pI_f h5, pI_t h6]; rfl, rfl⟩
                              | exact ⟨by rw [wdOf, pI_f h0, pI_f h1, pI_f h2, pI_f h3, pI_f h4, pI_f h5, pI_f h6, pI_t h7]; rfl, rfl⟩
                              | exact ⟨by rw [wdOf, pI_f h0, pI_f h1, pI_f h2, pI_f h3, pI_f h4, pI_f h5, pI_f h6, pI_f h7]; rfl, rfl⟩
                          · have h7 : ¬ isW b s p 7 := fun z => b_215 (w_7.mp z)
                            refine X_if_eq 218 226 dX7_wordFrom_218 (by decide) (fun _ => ?_) (fun c_0 => by exact absurd c_0 (by decide))
                            refine X_iconst 226 (-1) dX7_wordFrom_226 (by decide) ?_
                            refine X_iret 227 dX7_wordFrom_227 rfl rfl ⟨_, rfl, _, rfl, ?_⟩
                            first
                              | exact ⟨by rw [wdOf, pI_t h0]; rfl, rfl⟩
                              | exact ⟨by rw [wdOf, pI_f h0, pI_t h1]; rfl, rfl⟩
                              | exact ⟨by rw [wdOf, pI_f h0, pI_f h1, pI_t h2]; rfl, rfl⟩
                              | exact ⟨by rw [wdOf, pI_f h0, pI_f h1, pI_f h2, pI_t h3]; rfl, rfl⟩
                              | exact ⟨by rw [wdOf, pI_f h0, pI_f h1, pI_f h2, pI_f h3, pI_t h4]; rfl, rfl⟩
                              | exact ⟨by rw [wdOf, pI_f h0, pI_f h1, pI_f h2, pI_f h3, pI_f h4, pI_t h5]; rfl, rfl⟩
                              | exact ⟨by rw [wdOf, pI_f h0, pI_f h1, pI_f h2, pI_f h3, pI_f h4, pI_f h5, pI_t h6]; rfl, rfl⟩
                              | exact ⟨by rw [wdOf, pI_f h0, pI_f h1, pI_f h2, pI_f h3, pI_f h4, pI_f h5, pI_f h6, pI_t h7]; rfl, rfl⟩
                              | exact ⟨by rw [wdOf, pI_f h0, pI_f h1, pI_f h2, pI_f h3, pI_f h4, pI_f h5, pI_f h6, pI_f h7]; rfl, rfl⟩
                    · have h4 : isW b s p 4 := w_4.mpr ⟨b_145, by rw [show s + 4 = p - 1 by have := b_145.1; omega]; exact c_154⟩
                      refine X_iconst 157 (4) dX7_wordFrom_157 (by decide) ?_
                      refine X_goto 158 227 dX7_wordFrom_158 (by decide) ?_
                      refine X_iret 227 dX7_wordFrom_227 rfl rfl ⟨_, rfl, _, rfl, ?_⟩
                      first
                        | exact ⟨by rw [wdOf, pI_t h0]; rfl, rfl⟩
                        | exact ⟨by rw [wdOf, pI_f h0, pI_t h1]; rfl, rfl⟩
                        | exact ⟨by rw [wdOf, pI_f h0, pI_f h1, pI_t h2]; rfl, rfl⟩
                        | exact ⟨by rw [wdOf, pI_f h0, pI_f h1, pI_f h2, pI_t h3]; rfl, rfl⟩
                        | exact ⟨by rw [wdOf, pI_f h0, pI_f h1, pI_f h2, pI_f h3, pI_t h4]; rfl, rfl⟩
                        | exact ⟨by rw [wdOf, pI_f h0, pI_f h1, pI_f h2, pI_f h3, pI_f h4, pI_t h5]; rfl, rfl⟩
                        | exact ⟨by rw [wdOf, pI_f h0, pI_f h1, pI_f h2, pI_f h3, pI_f h4, pI_f h5, pI_t h6]; rfl, rfl⟩
                        | exact ⟨by rw [wdOf, pI_f h0, pI_f h1, pI_f h2, pI_f h3, pI_f h4, pI_f h5, pI_f h6, pI_t h7]; rfl, rfl⟩
                        | exact ⟨by rw [wdOf, pI_f h0, pI_f h1, pI_f h2, pI_f h3, pI_f h4, pI_f h5, pI_f h6, pI_f h7]; rfl, rfl⟩
                  · have h4 : ¬ isW b s p 4 := fun z => b_145 (w_4.mp z).1
                    refine X_if_eq 148 161 dX7_wordFrom_148 (by decide) (fun _ => ?_) (fun c_0 => by exact absurd c_0 (by decide))
                    refine X_aload_n 161 1 dX7_wordFrom_161 rfl rfl ?_
                    refine X_iload_n 162 2 dX7_wordFrom_162 rfl rfl ?_
                    refine X_iconst 163 (4) dX7_wordFrom_163 (by decide) ?_
                    refine X_bipush 164 (102) dX7_wordFrom_164 (by decide) ?_
                    refine X_bipush 166 (97) dX7_wordFrom_166 (by decide) ?_
                    refine X_bipush 168 (105) dX7_wordFrom_168 (by decide) ?_
                    refine X_bipush 170 (108) dX7_wordFrom_170 (by decide) ?_
                    refine X_cVI 172 [.int _, .int _, .int _, .int _, .int _, .int _] (e_X7_isWord b L p w n s 4 102 97 105 108 _ hT hp (by omega) (by decide)) dX7_wordFrom_172 lm_RX7_232 6 ⟨wm_X7_isWord, by decide +kernel, rfl, rfl⟩ rfl ⟨Nat.le_of_ble_eq_true rfl, Nat.le_of_ble_eq_true rfl⟩ lyM vc7 rfl rfl (Nat.le_of_ble_eq_true rfl) ?_
                    rintro _ _ ⟨rfl, ⟨rfl, b_172⟩ | ⟨rfl, b_172⟩⟩
                    · have h5 := w_5.mpr b_172
                      refine X_if_eq 175 182 dX7_wordFrom_175 (by decide) (fun c_0 => by exact absurd c_0 (by decide)) (fun _ => ?_)
                      refine X_iconst 178 (5) dX7_wordFrom_178 (by decide) ?_
                      refine X_goto 179 227 dX7_wordFrom_179 (by decide) ?_
                      refine X_iret 227 dX7_wordFrom_227 rfl rfl ⟨_, rfl, _, rfl, ?_⟩
                      first
                        | exact ⟨by rw [wdOf, pI_t h0]; rfl, rfl⟩
                        | exact ⟨by rw [wdOf, pI_f h0, pI_t h1]; rfl, rfl⟩
                        | exact ⟨by rw [wdOf, pI_f h0, pI_f h1, pI_t h2]; rfl, rfl⟩
                        | exact ⟨by rw [wdOf, pI_f h0, pI_f h1, pI_f h2, pI_t h3]; rfl, rfl⟩
                        | exact ⟨by rw [wdOf, pI_f h0, pI_f h1, pI_f h2, pI_f h3, pI_t h4]; rfl, rfl⟩
                        | exact ⟨by rw [wdOf, pI_f h0, pI_f h1, pI_f h2, pI_f h3, pI_f h4, pI_t h5]; rfl, rfl⟩
                        | exact ⟨by rw [wdOf, pI_f h0, pI_f h1, pI_f h2, pI_f h3, pI_f h4, pI_f h5, pI_t h6]; rfl, rfl⟩
                        | exact ⟨by rw [wdOf, pI_f h0, pI_f h1, pI_f h2, pI_f h3, pI_f h4, pI_f h5, pI_f h6, pI_t h7]; rfl, rfl⟩
                        | exact ⟨by rw [wdOf, pI_f h0, pI_f h1, pI_f h2, pI_f h3, pI_f h4, pI_f h5, pI_f h6, pI_f h7]; rfl, rfl⟩
                    · have h5 : ¬ isW b s p 5 := fun z => b_172 (w_5.mp z)
                      refine X_if_eq 175 182 dX7_wordFrom_175 (by decide) (fun _ => ?_) (fun c_0 => by exact absurd c_0 (by decide))
                      refine X_aload_n 182 1 dX7_wordFrom_182 rfl rfl ?_
                      refine X_iload_n 183 2 dX7_wordFrom_183 rfl rfl ?_
                      refine X_iconst 184 (4) dX7_wordFrom_184 (by decide) ?_
                      refine X_bipush 185 (109) dX7_wordFrom_185 (by decide) ?_
                      refine X_bipush 187 (101) dX7_wordFrom_187 (by decide) ?_
                      refine X_bipush 189 (110) dX7_wordFrom_189 (by decide) ?_
                      refine X_bipush 191 (100) dX7_wordFrom_191 (by decide) ?_
                      refine X_cVI 193 [.int _, .int _, .int _, .int _, .int _, .int _] (e_X7_isWord b L p w n s 4 109 101 110 100 _ hT hp (by omega) (by decide)) dX7_wordFrom_193 lm_RX7_232 6 ⟨wm_X7_isWord, by decide +kernel, rfl, rfl⟩ rfl ⟨Nat.le_of_ble_eq_true rfl, Nat.le_of_ble_eq_true rfl⟩ lyM vc7 rfl rfl (Nat.le_of_ble_eq_true rfl) ?_
                      rintro _ _ ⟨rfl, ⟨rfl, b_193⟩ | ⟨rfl, b_193⟩⟩
                      · have h6 := w_6.mpr b_193
                        refine X_if_eq 196 204 dX7_wordFrom_196 (by decide) (fun c_0 => by exact absurd c_0 (by decide)) (fun _ => ?_)
                        refine X_bipush 199 (6) dX7_wordFrom_199 (by decide) ?_
                        refine X_goto 201 227 dX7_wordFrom_201 (by decide) ?_
                        refine X_iret 227 dX7_wordFrom_227 rfl rfl ⟨_, rfl, _, rfl, ?_⟩
                        first
                          | exact ⟨by rw [wdOf, pI_t h0]; rfl, rfl⟩
                          | exact ⟨by rw [wdOf, pI_f h0, pI_t h1]; rfl, rfl⟩
                          | exact ⟨by rw [wdOf, pI_f h0, pI_f h1, pI_t h2]; rfl, rfl⟩
                          | exact ⟨by rw [wdOf, pI_f h0, pI_f h1, pI_f h2, pI_t h3]; rfl, rfl⟩
                          | exact ⟨by rw [wdOf, pI_f h0, pI_f h1, pI_f h2, pI_f h3, pI_t h4]; rfl, rfl⟩
                          | exact ⟨by rw [wdOf, pI_f h0, pI_f h1, pI_f h2, pI_f h3, pI_f h4, pI_t h5]; rfl, rfl⟩
                          | exact ⟨by rw [wdOf, pI_f h0, pI_f h1, pI_f h2, pI_f h3, pI_f h4, pI_f h5, pI_t h6]; rfl, rfl⟩
                          | exact ⟨by rw [wdOf, pI_f h0, pI_f h1, pI_f h2, pI_f h3, pI_f h4, pI_f h5, pI_f h6, pI_t h7]; rfl, rfl⟩
                          | exact ⟨by rw [wdOf, pI_f h0, pI_f h1, pI_f h2, pI_f h3, pI_f h4, pI_f h5, pI_f h6, pI_f h7]; rfl, rfl⟩
                      · have h6 : ¬ isW b s p 6 := fun z => b_193 (w_6.mp z)
                        refine X_if_eq 196 204 dX7_wordFrom_196 (by decide) (fun _ => ?_) (fun c_0 => by exact absurd c_0 (by decide))
                        refine X_aload_n 204 1 dX7_wordFrom_204 rfl rfl ?_
                        refine X_iload_n 205 2 dX7_wordFrom_205 rfl rfl ?_
                        refine X_iconst 206 (4) dX7_wordFrom_206 (by decide) ?_
                        refine X_bipush 207 (98) dX7_wordFrom_207 (by decide) ?_
                        refine X_bipush 209 (117) dX7_wordFrom_209 (by decide) ?_
                        refine X_bipush 211 (114) dX7_wordFrom_211 (by decide) ?_
                        refine X_bipush 213 (110) dX7_wordFrom_213 (by decide) ?_
                        refine X_cVI 215 [.int _, .int _, .int _, .int _, .int _, .int _] (e_X7_isWord b L p w n s 4 98 117 114 110 _ hT hp (by omega) (by decide)) dX7_wordFrom_215 lm_RX7_232 6 ⟨wm_X7_isWord, by decide +kernel, rfl, rfl⟩ rfl ⟨Nat.le_of_ble_eq_true rfl, Nat.le_of_ble_eq_true rfl⟩ lyM vc7 rfl rfl (Nat.le_of_ble_eq_true rfl) ?_
                        rintro _ _ ⟨rfl, ⟨rfl, b_215⟩ | ⟨rfl, b_215⟩⟩
                        · have h7 := w_7.mpr b_215
                          refine X_if_eq 218 226 dX7_wordFrom_218 (by decide) (fun c_0 => by exact absurd c_0 (by decide)) (fun _ => ?_)
                          refine X_bipush 221 (7) dX7_wordFrom_221 (by decide) ?_
                          refine X_goto 223 227 dX7_wordFrom_223 (by decide) ?_
                          refine X_iret 227 dX7_wordFrom_227 rfl rfl ⟨_, rfl, _, rfl, ?_⟩
                          first
                            | exact ⟨by rw [wdOf, pI_t h0]; rfl, rfl⟩
                            | exact ⟨by rw [wdOf, pI_f h0, pI_t h1]; rfl, rfl⟩
                            | exact ⟨by rw [wdOf, pI_f h0, pI_f h1, pI_t h2]; rfl, rfl⟩
                            | exact ⟨by rw [wdOf, pI_f h0, pI_f h1, pI_f h2, pI_t h3]; rfl, rfl⟩
                            | exact ⟨by rw [wdOf, pI_f h0, pI_f h1, pI_f h2, pI_f h3, pI_t h4]; rfl, rfl⟩
                            | exact ⟨by rw [wdOf, pI_f h0, pI_f h1, pI_f h2, pI_f h3, pI_f h4, pI_t h5]; rfl, rfl⟩
                            | exact ⟨by rw [wdOf, pI_f h0, pI_f h1, pI_f h2, pI_f h3, pI_f h4, pI_f h5, pI_t h6]; rfl, rfl⟩
                            | exact ⟨by rw [wdOf, pI_f h0, pI_f h1, pI_f h2, pI_f h3, pI_f h4, pI_f h5, pI_f h6, pI_t h7]; rfl, rfl⟩
                            | exact ⟨by rw [wdOf, pI_f h0, pI_f h1, pI_f h2, pI_f h3, pI_f h4, pI_f h5, pI_f h6, pI_f h7]; rfl, rfl⟩
                        · have h7 : ¬ isW b s p 7 := fun z => b_215 (w_7.mp z)
                          refine X_if_eq 218 226 dX7_wordFrom_218 (by decide) (fun _ => ?_) (fun c_0 => by exact absurd c_0 (by decide))
                          refine X_iconst 226 (-1) dX7_wordFrom_226 (by decide) ?_
                          refine X_iret 227 dX7_wordFrom_227 rfl rfl ⟨_, rfl, _, rfl, ?_⟩
                          first
                            | exact ⟨by rw [wdOf, pI_t h0]; rfl, rfl⟩
                            | exact ⟨by rw [wdOf, pI_f h0, pI_t h1]; rfl, rfl⟩
                            | exact ⟨by rw [wdOf, pI_f h0, pI_f h1, pI_t h2]; rfl, rfl⟩
                            | exact ⟨by rw [wdOf, pI_f h0, pI_f h1, pI_f h2, pI_t h3]; rfl, rfl⟩
                            | exact ⟨by rw [wdOf, pI_f h0, pI_f h1, pI_f h2, pI_f h3, pI_t h4]; rfl, rfl⟩
                            | exact ⟨by rw [wdOf, pI_f h0, pI_f h1, pI_f h2, pI_f h3, pI_f h4, pI_t h5]; rfl, rfl⟩
                            | exact ⟨by rw [wdOf, pI_f h0, pI_f h1, pI_f h2, pI_f h3, pI_f h4, pI_f h5, pI_t h6]; rfl, rfl⟩
                            | exact ⟨by rw [wdOf, pI_f h0, pI_f h1, pI_f h2, pI_f h3, pI_f h4, pI_f h5, pI_f h6, pI_t h7]; rfl, rfl⟩
                            | exact ⟨by rw [wdOf, pI_f h0, pI_f h1, pI_f h2, pI_f h3, pI_f h4, pI_f h5, pI_f h6, pI_f h7]; rfl, rfl⟩
                · have h3 : isW b s p 3 := w_3.mpr ⟨b_105, c_121, by rw [show s + 5 = p - 1 by have := b_105.1; omega]; exact c_127⟩
                  refine X_iconst 130 (3) dX7_wordFrom_130 (by decide) ?_
                  refine X_goto 131 227 dX7_wordFrom_131 (by decide) ?_
                  refine X_iret 227 dX7_wordFrom_227 rfl rfl ⟨_, rfl, _, rfl, ?_⟩
                  first
                    | exact ⟨by rw [wdOf, pI_t h0]; rfl, rfl⟩
                    | exact ⟨by rw [wdOf, pI_f h0, pI_t h1]; rfl, rfl⟩
                    | exact ⟨by rw [wdOf, pI_f h0, pI_f h1, pI_t h2]; rfl, rfl⟩
                    | exact ⟨by rw [wdOf, pI_f h0, pI_f h1, pI_f h2, pI_t h3]; rfl, rfl⟩
                    | exact ⟨by rw [wdOf, pI_f h0, pI_f h1, pI_f h2, pI_f h3, pI_t h4]; rfl, rfl⟩
                    | exact ⟨by rw [wdOf, pI_f h0, pI_f h1, pI_f h2, pI_f h3, pI_f h4, pI_t h5]; rfl, rfl⟩
                    | exact ⟨by rw [wdOf, pI_f h0, pI_f h1, pI_f h2, pI_f h3, pI_f h4, pI_f h5, pI_t h6]; rfl, rfl⟩
                    | exact ⟨by rw [wdOf, pI_f h0, pI_f h1, pI_f h2, pI_f h3, pI_f h4, pI_f h5, pI_f h6, pI_t h7]; rfl, rfl⟩
                    | exact ⟨by rw [wdOf, pI_f h0, pI_f h1, pI_f h2, pI_f h3, pI_f h4, pI_f h5, pI_f h6, pI_f h7]; rfl, rfl⟩
            · have h3 : ¬ isW b s p 3 := fun z => b_105 (w_3.mp z).1
              refine X_if_eq 108 134 dX7_wordFrom_108 (by decide) (fun _ => ?_) (fun c_0 => by exact absurd c_0 (by decide))
              refine X_aload_n 134 1 dX7_wordFrom_134 rfl rfl ?_
              refine X_iload_n 135 2 dX7_wordFrom_135 rfl rfl ?_
              refine X_iconst 136 (5) dX7_wordFrom_136 (by decide) ?_
              refine X_bipush 137 (115) dX7_wordFrom_137 (by decide) ?_
              refine X_bipush 139 (104) dX7_wordFrom_139 (by decide) ?_
              refine X_bipush 141 (105) dX7_wordFrom_141 (by decide) ?_
              refine X_bipush 143 (102) dX7_wordFrom_143 (by decide) ?_
              refine X_cVI 145 [.int _, .int _, .int _, .int _, .int _, .int _] (e_X7_isWord b L p w n s 5 115 104 105 102 _ hT hp (by omega) (by decide)) dX7_wordFrom_145 lm_RX7_232 6 ⟨wm_X7_isWord, by decide +kernel, rfl, rfl⟩ rfl ⟨Nat.le_of_ble_eq_true rfl, Nat.le_of_ble_eq_true rfl⟩ lyM vc7 rfl rfl (Nat.le_of_ble_eq_true rfl) ?_
              rintro _ _ ⟨rfl, ⟨rfl, b_145⟩ | ⟨rfl, b_145⟩⟩
              · refine X_if_eq 148 161 dX7_wordFrom_148 (by decide) (fun c_0 => by exact absurd c_0 (by decide)) (fun _ => ?_)
                refine X_iload_n 151 0 dX7_wordFrom_151 rfl rfl ?_
                refine X_bipush 152 (116) dX7_wordFrom_152 (by decide) ?_
                refine X_icmp_ne 154 161 dX7_wordFrom_154 (by decide) (fun c_154 => ?_) (fun c_154 => ?_)
                · have h4 : ¬ isW b s p 4 := fun z => c_154 (by rw [show p - 1 = s + 4 by have := (w_4.mp z).1.1; omega]; exact (w_4.mp z).2)
                  refine X_aload_n 161 1 dX7_wordFrom_161 rfl rfl ?_
                  refine X_iload_n 162 2 dX7_wordFrom_162 rfl rfl ?_
                  refine X_iconst 163 (4) dX7_wordFrom_163 (by decide) ?_
                  refine X_bipush 164 (102) dX7_wordFrom_164 (by decide) ?_
                  refine X_bipush 166 (97) dX7_wordFrom_166 (by decide) ?_
                  refine X_bipush 168 (105) dX7_wordFrom_168 (by decide) ?_
                  refine X_bipush 170 (108) dX7_wordFrom_170 (by decide) ?_
                  refine X_cVI 172 [.int _, .int _, .int _, .int _, .int _, .int _] (e_X7_isWord b L p w n s 4 102 97 105 108 _ hT hp (by omega) (by decide)) dX7_wordFrom_172 lm_RX7_232 6 ⟨wm_X7_isWord, by decide +kernel, rfl, rfl⟩ rfl ⟨Nat.le_of_ble_eq_true rfl, Nat.le_of_ble_eq_true rfl⟩ lyM vc7 rfl rfl (Nat.le_of_ble_eq_true rfl) ?_
                  rintro _ _ ⟨rfl, ⟨rfl, b_172⟩ | ⟨rfl, b_172⟩⟩
                  · have h5 := w_5.mpr b_172
                    refine X_if_eq 175 182 dX7_wordFrom_175 (by decide) (fun c_0 => by exact absurd c_0 (by decide)) (fun _ => ?_)
                    refine X_iconst 178 (5) dX7_wordFrom_178 (by decide) ?_
                    refine X_goto 179 227 dX7_wordFrom_179 (by decide) ?_
                    refine X_iret 227 dX7_wordFrom_227 rfl rfl ⟨_, rfl, _, rfl, ?_⟩
                    first
                      | exact ⟨by rw [wdOf, pI_t h0]; rfl, rfl⟩
                      | exact ⟨by rw [wdOf, pI_f h0, pI_t h1]; rfl, rfl⟩
                      | exact ⟨by rw [wdOf, pI_f h0, pI_f h1, pI_t h2]; rfl, rfl⟩
                      | exact ⟨by rw [wdOf, pI_f h0, pI_f h1, pI_f h2, pI_t h3]; rfl, rfl⟩
                      | exact ⟨by rw [wdOf, pI_f h0, pI_f h1, pI_f h2, pI_f h3, pI_t h4]; rfl, rfl⟩
                      | exact ⟨by rw [wdOf, pI_f h0, pI_f h1, pI_f h2, pI_f h3, pI_f h4, pI_t h5]; rfl, rfl⟩
                      | exact ⟨by rw [wdOf, pI_f h0, pI_f h1, pI_f h2, pI_f h3, pI_f h4, pI_f h5, pI_t h6]; rfl, rfl⟩
                      | exact ⟨by rw [wdOf, pI_f h0, pI_f h1, pI_f h2, pI_f h3, pI_f h4, pI_f h5, pI_f h6, pI_t h7]; rfl, rfl⟩
                      | exact ⟨by rw [wdOf, pI_f h0, pI_f h1, pI_f h2, pI_f h3, pI_f h4, pI_f h5, pI_f h6, pI_f h7]; rfl, rfl⟩
                  · have h5 : ¬ isW b s p 5 := fun z => b_172 (w_5.mp z)
                    refine X_if_eq 175 182 dX7_wordFrom_175 (by decide) (fun _ => ?_) (fun c_0 => by exact absurd c_0 (by decide))
                    refine X_aload_n 182 1 dX7_wordFrom_182 rfl rfl ?_
                    refine X_iload_n 183 2 dX7_wordFrom_183 rfl rfl ?_
                    refine X_iconst 184 (4) dX7_wordFrom_184 (by decide) ?_
                    refine X_bipush 185 (109) dX7_wordFrom_185 (by decide) ?_
                    refine X_bipush 187 (101) dX7_wordFrom_187 (by decide) ?_
                    refine X_bipush 189 (110) dX7_wordFrom_189 (by decide) ?_
                    refine X_bipush 191 (100) dX7_wordFrom_191 (by decide) ?_
                    refine X_cVI 193 [.int _, .int _, .int _, .int _, .int _, .int _] (e_X7_isWord b L p w n s 4 109 101 110 100 _ hT hp (by omega) (by decide)) dX7_wordFrom_193 lm_RX7_232 6 ⟨wm_X7_isWord, by decide +kernel, rfl, rfl⟩ rfl ⟨Nat.le_of_ble_eq_true rfl, Nat.le_of_ble_eq_true rfl⟩ lyM vc7 rfl rfl (Nat.le_of_ble_eq_true rfl) ?_
                    rintro _ _ ⟨rfl, ⟨rfl, b_193⟩ | ⟨rfl, b_193⟩⟩
                    · have h6 := w_6.mpr b_193
                      refine X_if_eq 196 204 dX7_wordFrom_196 (by decide) (fun c_0 => by exact absurd c_0 (by decide)) (fun _ => ?_)
                      refine X_bipush 199 (6) dX7_wordFrom_199 (by decide) ?_
                      refine X_goto 201 227 dX7_wordFrom_201 (by decide) ?_
                      refine X_iret 227 dX7_wordFrom_227 rfl rfl ⟨_, rfl, _, rfl, ?_⟩
                      first
                        | exact ⟨by rw [wdOf, pI_t h0]; rfl, rfl⟩
                        | exact ⟨by rw [wdOf, pI_f h0, pI_t h1]; rfl, rfl⟩
                        | exact ⟨by rw [wdOf, pI_f h0, pI_f h1, pI_t h2]; rfl, rfl⟩
                        | exact ⟨by rw [wdOf, pI_f h0, pI_f h1, pI_f h2, pI_t h3]; rfl, rfl⟩
                        | exact ⟨by rw [wdOf, pI_f h0, pI_f h1, pI_f h2, pI_f h3, pI_t h4]; rfl, rfl⟩
                        | exact ⟨by rw [wdOf, pI_f h0, pI_f h1, pI_f h2, pI_f h3, pI_f h4, pI_t h5]; rfl, rfl⟩
                        | exact ⟨by rw [wdOf, pI_f h0, pI_f h1, pI_f h2, pI_f h3, pI_f h4, pI_f h5, pI_t h6]; rfl, rfl⟩
                        | exact ⟨by rw [wdOf, pI_f h0, pI_f h1, pI_f h2, pI_f h3, pI_f h4, pI_f h5, pI_f h6, pI_t h7]; rfl, rfl⟩
                        | exact ⟨by rw [wdOf, pI_f h0, pI_f h1, pI_f h2, pI_f h3, pI_f h4, pI_f h5, pI_f h6, pI_f h7]; rfl, rfl⟩
                    · have h6 : ¬ isW b s p 6 := fun z => b_193 (w_6.mp z)
                      refine X_if_eq 196 204 dX7_wordFrom_196 (by decide) (fun _ => ?_) (fun c_0 => by exact absurd c_0 (by decide))
                      refine X_aload_n 204 1 dX7_wordFrom_204 rfl rfl ?_
                      refine X_iload_n 205 2 dX7_wordFrom_205 rfl rfl ?_
                      refine X_iconst 206 (4) dX7_wordFrom_206 (by decide) ?_
                      refine X_bipush 207 (98) dX7_wordFrom_207 (by decide) ?_
                      refine X_bipush 209 (117) dX7_wordFrom_209 (by decide) ?_
                      refine X_bipush 211 (114) dX7_wordFrom_211 (by decide) ?_
                      refine X_bipush 213 (110) dX7_wordFrom_213 (by decide) ?_
                      refine X_cVI 215 [.int _, .int _, .int _, .int _, .int _, .int _] (e_X7_isWord b L p w n s 4 98 117 114 110 _ hT hp (by omega) (by decide)) dX7_wordFrom_215 lm_RX7_232 6 ⟨wm_X7_isWord, by decide +kernel, rfl, rfl⟩ rfl ⟨Nat.le_of_ble_eq_true rfl, Nat.le_of_ble_eq_true rfl⟩ lyM vc7 rfl rfl (Nat.le_of_ble_eq_true rfl) ?_
                      rintro _ _ ⟨rfl, ⟨rfl, b_215⟩ | ⟨rfl, b_215⟩⟩
                      · have h7 := w_7.mpr b_215
                        refine X_if_eq 218 226 dX7_wordFrom_218 (by decide) (fun c_0 => by exact absurd c_0 (by decide)) (fun _ => ?_)
                        refine X_bipush 221 (7) dX7_wordFrom_221 (by decide) ?_
                        refine X_goto 223 227 dX7_wordFrom_223 (by decide) ?_
                        refine X_iret 227 dX7_wordFrom_227 rfl rfl ⟨_, rfl, _, rfl, ?_⟩
                        first
                          | exact ⟨by rw [wdOf, pI_t h0]; rfl, rfl⟩
                          | exact ⟨by rw [wdOf, pI_f h0, pI_t h1]; rfl, rfl⟩
                          | exact ⟨by rw [wdOf, pI_f h0, pI_f h1, pI_t h2]; rfl, rfl⟩
                          | exact ⟨by rw [wdOf, pI_f h0, pI_f h1, pI_f h2, pI_t h3]; rfl, rfl⟩
                          | exact ⟨by rw [wdOf, pI_f h0, pI_f h1, pI_f h2, pI_f h3, pI_t h4]; rfl, rfl⟩
                          | exact ⟨by rw [wdOf, pI_f h0, pI_f h1, pI_f h2, pI_f h3, pI_f h4, pI_t h5]; rfl, rfl⟩
                          | exact ⟨by rw [wdOf, pI_f h0, pI_f h1, pI_f h2, pI_f h3, pI_f h4, pI_f h5, pI_t h6]; rfl, rfl⟩
                          | exact ⟨by rw [wdOf, pI_f h0, pI_f h1, pI_f h2, pI_f h3, pI_f h4, pI_f h5, pI_f h6, pI_t h7]; rfl, rfl⟩
                          | exact ⟨by rw [wdOf, pI_f h0, pI_f h1, pI_f h2, pI_f h3, pI_f h4, pI_f h5, pI_f h6, pI_f h7]; rfl, rfl⟩
                      · have h7 : ¬ isW b s p 7 := fun z => b_215 (w_7.mp z)
                        refine X_if_eq 218 226 dX7_wordFrom_218 (by decide) (fun _ => ?_) (fun c_0 => by exact absurd c_0 (by decide))
                        refine X_iconst 226 (-1) dX7_wordFrom_226 (by decide) ?_
                        refine X_iret 227 dX7_wordFrom_227 rfl rfl ⟨_, rfl, _, rfl, ?_⟩
                        first
                          | exact ⟨by rw [wdOf, pI_t h0]; rfl, rfl⟩
                          | exact ⟨by rw [wdOf, pI_f h0, pI_t h1]; rfl, rfl⟩
                          | exact ⟨by rw [wdOf, pI_f h0, pI_f h1, pI_t h2]; rfl, rfl⟩
                          | exact ⟨by rw [wdOf, pI_f h0, pI_f h1, pI_f h2, pI_t h3]; rfl, rfl⟩
                          | exact ⟨by rw [wdOf, pI_f h0, pI_f h1, pI_f h2, pI_f h3, pI_t h4]; rfl, rfl⟩
                          | exact ⟨by rw [wdOf, pI_f h0, pI_f h1, pI_f h2, pI_f h3, pI_f h4, pI_t h5]; rfl, rfl⟩
                          | exact ⟨by rw [wdOf, pI_f h0, pI_f h1, pI_f h2, pI_f h3, pI_f h4, pI_f h5, pI_t h6]; rfl, rfl⟩
                          | exact ⟨by rw [wdOf, pI_f h0, pI_f h1, pI_f h2, pI_f h3, pI_f h4, pI_f h5, pI_f h6, pI_t h7]; rfl, rfl⟩
                          | exact ⟨by rw [wdOf, pI_f h0, pI_f h1, pI_f h2, pI_f h3, pI_f h4, pI_f h5, pI_f h6, pI_f h7]; rfl, rfl⟩
                · have h4 : isW b s p 4 := w_4.mpr ⟨b_145, by rw [show s + 4 = p - 1 by have := b_145.1; omega]; exact c_154⟩
                  refine X_iconst 157 (4) dX7_wordFrom_157 (by decide) ?_
                  refine X_goto 158 227 dX7_wordFrom_158 (by decide) ?_
                  refine X_iret 227 dX7_wordFrom_227 rfl rfl ⟨_, rfl, _, rfl, ?_⟩
                  first
                    | exact ⟨by rw [wdOf, pI_t h0]; rfl, rfl⟩
                    | exact ⟨by rw [wdOf, pI_f h0, pI_t h1]; rfl, rfl⟩
                    | exact ⟨by rw [wdOf, pI_f h0, pI_f h1, pI_t h2]; rfl, rfl⟩
                    | exact ⟨by rw [wdOf, pI_f h0, pI_f h1, pI_f h2, pI_t h3]; rfl, rfl⟩
                    | exact ⟨by rw [wdOf, pI_f h0, pI_f h1, pI_f h2, pI_f h3, pI_t h4]; rfl, rfl⟩
                    | exact ⟨by rw [wdOf, pI_f h0, pI_f h1, pI_f h2, pI_f h3, pI_f h4, pI_t h5]; rfl, rfl⟩
                    | exact ⟨by rw [wdOf, pI_f h0, pI_f h1, pI_f h2, pI_f h3, pI_f h4, pI_f h5, pI_t h6]; rfl, rfl⟩
                    | exact ⟨by rw [wdOf, pI_f h0, pI_f h1, pI_f h2, pI_f h3, pI_f h4, pI_f h5, pI_f h6, pI_t h7]; rfl, rfl⟩
                    | exact ⟨by rw [wdOf, pI_f h0, pI_f h1, pI_f h2, pI_f h3, pI_f h4, pI_f h5, pI_f h6, pI_f h7]; rfl, rfl⟩
              · have h4 : ¬ isW b s p 4 := fun z => b_145 (w_4.mp z).1
                refine X_if_eq 148 161 dX7_wordFrom_148 (by decide) (fun _ => ?_) (fun c_0 => by exact absurd c_0 (by decide))
                refine X_aload_n 161 1 dX7_wordFrom_161 rfl rfl ?_
                refine X_iload_n 162 2 dX7_wordFrom_162 rfl rfl ?_
                refine X_iconst 163 (4) dX7_wordFrom_163 (by decide) ?_
                refine X_bipush 164 (102) dX7_wordFrom_164 (by decide) ?_
                refine X_bipush 166 (97) dX7_wordFrom_166 (by decide) ?_
                refine X_bipush 168 (105) dX7_wordFrom_168 (by decide) ?_
                refine X_bipush 170 (108) dX7_wordFrom_170 (by decide) ?_
                refine X_cVI 172 [.int _, .int _, .int _, .int _, .int _, .int _] (e_X7_isWord b L p w n s 4 102 97 105 108 _ hT hp (by omega) (by decide)) dX7_wordFrom_172 lm_RX7_232 6 ⟨wm_X7_isWord, by decide +kernel, rfl, rfl⟩ rfl ⟨Nat.le_of_ble_eq_true rfl, Nat.le_of_ble_eq_true rfl⟩ lyM vc7 rfl rfl (Nat.le_of_ble_eq_true rfl) ?_
                rintro _ _ ⟨rfl, ⟨rfl, b_172⟩ | ⟨rfl, b_172⟩⟩
                · have h5 := w_5.mpr b_172
                  refine X_if_eq 175 182 dX7_wordFrom_175 (by decide) (fun c_0 => by exact absurd c_0 (by decide)) (fun _ => ?_)
                  refine X_iconst 178 (5) dX7_wordFrom_178 (by decide) ?_
                  refine X_goto 179 227 dX7_wordFrom_179 (by decide) ?_
                  refine X_iret 227 dX7_wordFrom_227 rfl rfl ⟨_, rfl, _, rfl, ?_⟩
                  first
                    | exact ⟨by rw [wdOf, pI_t h0]; rfl, rfl⟩
                    | exact ⟨by rw [wdOf, pI_f h0, pI_t h1]; rfl, rfl⟩
                    | exact ⟨by rw [wdOf, pI_f h0, pI_f h1, pI_t h2]; rfl, rfl⟩
                    | exact ⟨by rw [wdOf, pI_f h0, pI_f h1, pI_f h2, pI_t h3]; rfl, rfl⟩
                    | exact ⟨by rw [wdOf, pI_f h0, pI_f h1, pI_f h2, pI_f h3, pI_t h4]; rfl, rfl⟩
                    | exact ⟨by rw [wdOf, pI_f h0, pI_f h1, pI_f h2, pI_f h3, pI_f h4, pI_t h5]; rfl, rfl⟩
                    | exact ⟨by rw [wdOf, pI_f h0, pI_f h1, pI_f h2, pI_f h3, pI_f h4, pI_f h5, pI_t h6]; rfl, rfl⟩
                    | exact ⟨by rw [wdOf, pI_f h0, pI_f h1, pI_f h2, pI_f h3, pI_f h4, pI_f h5, pI_f h6, pI_t h7]; rfl, rfl⟩
                    | exact ⟨by rw [wdOf, pI_f h0, pI_f h1, pI_f h2, pI_f h3, pI_f h4, pI_f h5, pI_f h6, pI_f h7]; rfl, rfl⟩
                · have h5 : ¬ isW b s p 5 := fun z => b_172 (w_5.mp z)
                  refine X_if_eq 175 182 dX7_wordFrom_175 (by decide) (fun _ => ?_) (fun c_0 => by exact absurd c_0 (by decide))
                  refine X_aload_n 182 1 dX7_wordFrom_182 rfl rfl ?_
                  refine X_iload_n 183 2 dX7_wordFrom_183 rfl rfl ?_
                  refine X_iconst 184 (4) dX7_wordFrom_184 (by decide) ?_
                  refine X_bipush 185 (109) dX7_wordFrom_185 (by decide) ?_
                  refine X_bipush 187 (101) dX7_wordFrom_187 (by decide) ?_
                  refine X_bipush 189 (110) dX7_wordFrom_189 (by decide) ?_
                  refine X_bipush 191 (100) dX7_wordFrom_191 (by decide) ?_
                  refine X_cVI 193 [.int _, .int _, .int _, .int _, .int _, .int _] (e_X7_isWord b L p w n s 4 109 101 110 100 _ hT hp (by omega) (by decide)) dX7_wordFrom_193 lm_RX7_232 6 ⟨wm_X7_isWord, by decide +kernel, rfl, rfl⟩ rfl ⟨Nat.le_of_ble_eq_true rfl, Nat.le_of_ble_eq_true rfl⟩ lyM vc7 rfl rfl (Nat.le_of_ble_eq_true rfl) ?_
                  rintro _ _ ⟨rfl, ⟨rfl, b_193⟩ | ⟨rfl, b_193⟩⟩
                  · have h6 := w_6.mpr b_193
                    refine X_if_eq 196 204 dX7_wordFrom_196 (by decide) (fun c_0 => by exact absurd c_0 (by decide)) (fun _ => ?_)
                    refine X_bipush 199 (6) dX7_wordFrom_199 (by decide) ?_
                    refine X_goto 201 227 dX7_wordFrom_201 (by decide) ?_
                    refine X_iret 227 dX7_wordFrom_227 rfl rfl ⟨_, rfl, _, rfl, ?_⟩
                    first
                      | exact ⟨by rw [wdOf, pI_t h0]; rfl, rfl⟩
                      | exact ⟨by rw [wdOf, pI_f h0, pI_t h1]; rfl, rfl⟩
                      | exact ⟨by rw [wdOf, pI_f h0, pI_f h1, pI_t h2]; rfl, rfl⟩
                      | exact ⟨by rw [wdOf, pI_f h0, pI_f h1, pI_f h2, pI_t h3]; rfl, rfl⟩
                      | exact ⟨by rw [wdOf, pI_f h0, pI_f h1, pI_f h2, pI_f h3, pI_t h4]; rfl, rfl⟩
                      | exact ⟨by rw [wdOf, pI_f h0, pI_f h1, pI_f h2, pI_f h3, pI_f h4, pI_t h5]; rfl, rfl⟩
                      | exact ⟨by rw [wdOf, pI_f h0, pI_f h1, pI_f h2, pI_f h3, pI_f h4, pI_f h5, pI_t h6]; rfl, rfl⟩
                      | exact ⟨by rw [wdOf, pI_f h0, pI_f h1, pI_f h2, pI_f h3, pI_f h4, pI_f h5, pI_f h6, pI_t h7]; rfl, rfl⟩
                      | exact ⟨by rw [wdOf, pI_f h0, pI_f h1, pI_f h2, pI_f h3, pI_f h4, pI_f h5, pI_f h6, pI_f h7]; rfl, rfl⟩
                  · have h6 : ¬ isW b s p 6 := fun z => b_193 (w_6.mp z)
                    refine X_if_eq 196 204 dX7_wordFrom_196 (by decide) (fun _ => ?_) (fun c_0 => by exact absurd c_0 (by decide))
                    refine X_aload_n 204 1 dX7_wordFrom_204 rfl rfl ?_
                    refine X_iload_n 205 2 dX7_wordFrom_205 rfl rfl ?_
                    refine X_iconst 206 (4) dX7_wordFrom_206 (by decide) ?_
                    refine X_bipush 207 (98) dX7_wordFrom_207 (by decide) ?_
                    refine X_bipush 209 (117) dX7_wordFrom_209 (by decide) ?_
                    refine X_bipush 211 (114) dX7_wordFrom_211 (by decide) ?_
                    refine X_bipush 213 (110) dX7_wordFrom_213 (by decide) ?_
                    refine X_cVI 215 [.int _, .int _, .int _, .int _, .int _, .int _] (e_X7_isWord b L p w n s 4 98 117 114 110 _ hT hp (by omega) (by decide)) dX7_wordFrom_215 lm_RX7_232 6 ⟨wm_X7_isWord, by decide +kernel, rfl, rfl⟩ rfl ⟨Nat.le_of_ble_eq_true rfl, Nat.le_of_ble_eq_true rfl⟩ lyM vc7 rfl rfl (Nat.le_of_ble_eq_true rfl) ?_
                    rintro _ _ ⟨rfl, ⟨rfl, b_215⟩ | ⟨rfl, b_215⟩⟩
                    · have h7 := w_7.mpr b_215
                      refine X_if_eq 218 226 dX7_wordFrom_218 (by decide) (fun c_0 => by exact absurd c_0 (by decide)) (fun _ => ?_)
                      refine X_bipush 221 (7) dX7_wordFrom_221 (by decide) ?_
                      refine X_goto 223 227 dX7_wordFrom_223 (by decide) ?_
                      refine X_iret 227 dX7_wordFrom_227 rfl rfl ⟨_, rfl, _, rfl, ?_⟩
                      first
                        | exact ⟨by rw [wdOf, pI_t h0]; rfl, rfl⟩
                        | exact ⟨by rw [wdOf, pI_f h0, pI_t h1]; rfl, rfl⟩
                        | exact ⟨by rw [wdOf, pI_f h0, pI_f h1, pI_t h2]; rfl, rfl⟩
                        | exact ⟨by rw [wdOf, pI_f h0, pI_f h1, pI_f h2, pI_t h3]; rfl, rfl⟩
                        | exact ⟨by rw [wdOf, pI_f h0, pI_f h1, pI_f h2, pI_f h3, pI_t h4]; rfl, rfl⟩
                        | exact ⟨by rw [wdOf, pI_f h0, pI_f h1, pI_f h2, pI_f h3, pI_f h4, pI_t h5]; rfl, rfl⟩
                        | exact ⟨by rw [wdOf, pI_f h0, pI_f h1, pI_f h2, pI_f h3, pI_f h4, pI_f h5, pI_t h6]; rfl, rfl⟩
                        | exact ⟨by rw [wdOf, pI_f h0, pI_f h1, pI_f h2, pI_f h3, pI_f h4, pI_f h5, pI_f h6, pI_t h7]; rfl, rfl⟩
                        | exact ⟨by rw [wdOf, pI_f h0, pI_f h1, pI_f h2, pI_f h3, pI_f h4, pI_f h5, pI_f h6, pI_f h7]; rfl, rfl⟩
                    · have h7 : ¬ isW b s p 7 := fun z => b_215 (w_7.mp z)
                      refine X_if_eq 218 226 dX7_wordFrom_218 (by decide) (fun _ => ?_) (fun c_0 => by exact absurd c_0 (by decide))
                      refine X_iconst 226 (-1) dX7_wordFrom_226 (by decide) ?_
                      refine X_iret 227 dX7_wordFrom_227 rfl rfl ⟨_, rfl, _, rfl, ?_⟩
                      first
                        | exact ⟨by rw [wdOf, pI_t h0]; rfl, rfl⟩
                        | exact ⟨by rw [wdOf, pI_f h0, pI_t h1]; rfl, rfl⟩
                        | exact ⟨by rw [wdOf, pI_f h0, pI_f h1, pI_t h2]; rfl, rfl⟩
                        | exact ⟨by rw [wdOf, pI_f h0, pI_f h1, pI_f h2, pI_t h3]; rfl, rfl⟩
                        | exact ⟨by rw [wdOf, pI_f h0, pI_f h1, pI_f h2, pI_f h3, pI_t h4]; rfl, rfl⟩
                        | exact ⟨by rw [wdOf, pI_f h0, pI_f h1, pI_f h2, pI_f h3, pI_f h4, pI_t h5]; rfl, rfl⟩
                        | exact ⟨by rw [wdOf, pI_f h0, pI_f h1, pI_f h2, pI_f h3, pI_f h4, pI_f h5, pI_t h6]; rfl, rfl⟩
                        | exact ⟨by rw [wdOf, pI_f h0, pI_f h1, pI_f h2, pI_f h3, pI_f h4, pI_f h5, pI_f h6, pI_t h7]; rfl, rfl⟩
                        | exact ⟨by rw [wdOf, pI_f h0, pI_f h1, pI_f h2, pI_f h3, pI_f h4, pI_f h5, pI_f h6, pI_f h7]; rfl, rfl⟩
        · have h1 : isW b s p 1 := w_1.mpr ⟨b_56, by rw [show s + 4 = p - 1 by have := b_56.1; omega]; exact c_65⟩
          refine X_iconst 68 (1) dX7_wordFrom_68 (by decide) ?_
          refine X_goto 69 227 dX7_wordFrom_69 (by decide) ?_
          refine X_iret 227 dX7_wordFrom_227 rfl rfl ⟨_, rfl, _, rfl, ?_⟩
          first
            | exact ⟨by rw [wdOf, pI_t h0]; rfl, rfl⟩
            | exact ⟨by rw [wdOf, pI_f h0, pI_t h1]; rfl, rfl⟩
            | exact ⟨by rw [wdOf, pI_f h0, pI_f h1, pI_t h2]; rfl, rfl⟩
            | exact ⟨by rw [wdOf, pI_f h0, pI_f h1, pI_f h2, pI_t h3]; rfl, rfl⟩
            | exact ⟨by rw [wdOf, pI_f h0, pI_f h1, pI_f h2, pI_f h3, pI_t h4]; rfl, rfl⟩
            | exact ⟨by rw [wdOf, pI_f h0, pI_f h1, pI_f h2, pI_f h3, pI_f h4, pI_t h5]; rfl, rfl⟩
            | exact ⟨by rw [wdOf, pI_f h0, pI_f h1, pI_f h2, pI_f h3, pI_f h4, pI_f h5, pI_t h6]; rfl, rfl⟩
            | exact ⟨by rw [wdOf, pI_f h0, pI_f h1, pI_f h2, pI_f h3, pI_f h4, pI_f h5, pI_f h6, pI_t h7]; rfl, rfl⟩
            | exact ⟨by rw [wdOf, pI_f h0, pI_f h1, pI_f h2, pI_f h3, pI_f h4, pI_f h5, pI_f h6, pI_f h7]; rfl, rfl⟩
      · have h1 : ¬ isW b s p 1 := fun z => b_56 (w_1.mp z).1
        refine X_if_eq 59 72 dX7_wordFrom_59 (by decide) (fun _ => ?_) (fun c_0 => by exact absurd c_0 (by decide))
        refine X_aload_n 72 1 dX7_wordFrom_72 rfl rfl ?_
        refine X_iload_n 73 2 dX7_wordFrom_73 rfl rfl ?_
        refine X_iconst 74 (4) dX7_wordFrom_74 (by decide) ?_
        refine X_bipush 75 (108) dX7_wordFrom_75 (by decide) ?_
        refine X_bipush 77 (97) dX7_wordFrom_77 (by decide) ?_
        refine X_bipush 79 (109) dX7_wordFrom_79 (by decide) ?_
        refine X_bipush 81 (112) dX7_wordFrom_81 (by decide) ?_
        refine X_cVI 83 [.int _, .int _, .int _, .int _, .int _, .int _] (e_X7_isWord b L p w n s 4 108 97 109 112 _ hT hp (by omega) (by decide)) dX7_wordFrom_83 lm_RX7_232 6 ⟨wm_X7_isWord, by decide +kernel, rfl, rfl⟩ rfl ⟨Nat.le_of_ble_eq_true rfl, Nat.le_of_ble_eq_true rfl⟩ lyM vc7 rfl rfl (Nat.le_of_ble_eq_true rfl) ?_
        rintro _ _ ⟨rfl, ⟨rfl, b_83⟩ | ⟨rfl, b_83⟩⟩
        · have h2 := w_2.mpr b_83
          refine X_if_eq 86 93 dX7_wordFrom_86 (by decide) (fun c_0 => by exact absurd c_0 (by decide)) (fun _ => ?_)
          refine X_iconst 89 (2) dX7_wordFrom_89 (by decide) ?_
          refine X_goto 90 227 dX7_wordFrom_90 (by decide) ?_
          refine X_iret 227 dX7_wordFrom_227 rfl rfl ⟨_, rfl, _, rfl, ?_⟩
          first
            | exact ⟨by rw [wdOf, pI_t h0]; rfl, rfl⟩
            | exact ⟨by rw [wdOf, pI_f h0, pI_t h1]; rfl, rfl⟩
            | exact ⟨by rw [wdOf, pI_f h0, pI_f h1, pI_t h2]; rfl, rfl⟩
            | exact ⟨by rw [wdOf, pI_f h0, pI_f h1, pI_f h2, pI_t h3]; rfl, rfl⟩
            | exact ⟨by rw [wdOf, pI_f h0, pI_f h1, pI_f h2, pI_f h3, pI_t h4]; rfl, rfl⟩
            | exact ⟨by rw [wdOf, pI_f h0, pI_f h1, pI_f h2, pI_f h3, pI_f h4, pI_t h5]; rfl, rfl⟩
            | exact ⟨by rw [wdOf, pI_f h0, pI_f h1, pI_f h2, pI_f h3, pI_f h4, pI_f h5, pI_t h6]; rfl, rfl⟩
            | exact ⟨by rw [wdOf, pI_f h0, pI_f h1, pI_f h2, pI_f h3, pI_f h4, pI_f h5, pI_f h6, pI_t h7]; rfl, rfl⟩
            | exact ⟨by rw [wdOf, pI_f h0, pI_f h1, pI_f h2, pI_f h3, pI_f h4, pI_f h5, pI_f h6, pI_f h7]; rfl, rfl⟩
        · have h2 : ¬ isW b s p 2 := fun z => b_83 (w_2.mp z)
          refine X_if_eq 86 93 dX7_wordFrom_86 (by decide) (fun _ => ?_) (fun c_0 => by exact absurd c_0 (by decide))
          refine X_aload_n 93 1 dX7_wordFrom_93 rfl rfl ?_
          refine X_iload_n 94 2 dX7_wordFrom_94 rfl rfl ?_
          refine X_bipush 95 (6) dX7_wordFrom_95 (by decide) ?_
          refine X_bipush 97 (99) dX7_wordFrom_97 (by decide) ?_
          refine X_bipush 99 (111) dX7_wordFrom_99 (by decide) ?_
          refine X_bipush 101 (114) dX7_wordFrom_101 (by decide) ?_
          refine X_bipush 103 (110) dX7_wordFrom_103 (by decide) ?_
          refine X_cVI 105 [.int _, .int _, .int _, .int _, .int _, .int _] (e_X7_isWord b L p w n s 6 99 111 114 110 _ hT hp (by omega) (by decide)) dX7_wordFrom_105 lm_RX7_232 6 ⟨wm_X7_isWord, by decide +kernel, rfl, rfl⟩ rfl ⟨Nat.le_of_ble_eq_true rfl, Nat.le_of_ble_eq_true rfl⟩ lyM vc7 rfl rfl (Nat.le_of_ble_eq_true rfl) ?_
          rintro _ _ ⟨rfl, ⟨rfl, b_105⟩ | ⟨rfl, b_105⟩⟩
          · refine X_if_eq 108 134 dX7_wordFrom_108 (by decide) (fun c_0 => by exact absurd c_0 (by decide)) (fun _ => ?_)
            refine X_aload_n 111 1 dX7_wordFrom_111 rfl rfl ?_
            refine X_getR (f := 4) 112 dX7_wordFrom_112 lf_RX7_19 iw7 vc7 (by decide) lyM rfl ?_
            refine X_iload_n 115 2 dX7_wordFrom_115 rfl rfl ?_
            refine X_iconst 116 (4) dX7_wordFrom_116 (by decide) ?_
            refine X_iadd 117 dX7_wordFrom_117 ?_
            rw [show nI s + 4 = nI (s + 4) from nI_add s 4]
            refine X_iald 118 dX7_wordFrom_118 lyM4 (vp_in_nI (N := 150) (by have := b_105.1; omega) (by decide)) ?_
            rw [nI_clamp (by omega), hT.tx (by have := b_105.1; omega)]
            refine X_bipush 119 (101) dX7_wordFrom_119 (by decide) ?_
            refine X_icmp_ne 121 134 dX7_wordFrom_121 (by decide) (fun c_121 => ?_) (fun c_121 => ?_)
            · have h3 : ¬ isW b s p 3 := fun z => c_121 (w_3.mp z).2.1
              refine X_aload_n 134 1 dX7_wordFrom_134 rfl rfl ?_
              refine X_iload_n 135 2 dX7_wordFrom_135 rfl rfl ?_
              refine X_iconst 136 (5) dX7_wordFrom_136 (by decide) ?_
              refine X_bipush 137 (115) dX7_wordFrom_137 (by decide) ?_
              refine X_bipush 139 (104) dX7_wordFrom_139 (by decide) ?_
              refine X_bipush 141 (105) dX7_wordFrom_141 (by decide) ?_
              refine X_bipush 143 (102) dX7_wordFrom_143 (by decide) ?_
              refine X_cVI 145 [.int _, .int _, .int _, .int _, .int _, .int _] (e_X7_isWord b L p w n s 5 115 104 105 102 _ hT hp (by omega) (by decide)) dX7_wordFrom_145 lm_RX7_232 6 ⟨wm_X7_isWord, by decide +kernel, rfl, rfl⟩ rfl ⟨Nat.le_of_ble_eq_true rfl, Nat.le_of_ble_eq_true rfl⟩ lyM vc7 rfl rfl (Nat.le_of_ble_eq_true rfl) ?_
              rintro _ _ ⟨rfl, ⟨rfl, b_145⟩ | ⟨rfl, b_145⟩⟩
              · refine X_if_eq 148 161 dX7_wordFrom_148 (by decide) (fun c_0 => by exact absurd c_0 (by decide)) (fun _ => ?_)
                refine X_iload_n 151 0 dX7_wordFrom_151 rfl rfl ?_
                refine X_bipush 152 (116) dX7_wordFrom_152 (by decide) ?_
                refine X_icmp_ne 154 161 dX7_wordFrom_154 (by decide) (fun c_154 => ?_) (fun c_154 => ?_)
                · have h4 : ¬ isW b s p 4 := fun z => c_154 (by rw [show p - 1 = s + 4 by have := (w_4.mp z).1.1; omega]; exact (w_4.mp z).2)
                  refine X_aload_n 161 1 dX7_wordFrom_161 rfl rfl ?_
                  refine X_iload_n 162 2 dX7_wordFrom_162 rfl rfl ?_
                  refine X_iconst 163 (4) dX7_wordFrom_163 (by decide) ?_
                  refine X_bipush 164 (102) dX7_wordFrom_164 (by decide) ?_
                  refine X_bipush 166 (97) dX7_wordFrom_166 (by decide) ?_
                  refine X_bipush 168 (105) dX7_wordFrom_168 (by decide) ?_
                  refine X_bipush 170 (108) dX7_wordFrom_170 (by decide) ?_
                  refine X_cVI 172 [.int _, .int _, .int _, .int _, .int _, .int _] (e_X7_isWord b L p w n s 4 102 97 105 108 _ hT hp (by omega) (by decide)) dX7_wordFrom_172 lm_RX7_232 6 ⟨wm_X7_isWord, by decide +kernel, rfl, rfl⟩ rfl ⟨Nat.le_of_ble_eq_true rfl, Nat.le_of_ble_eq_true rfl⟩ lyM vc7 rfl rfl (Nat.le_of_ble_eq_true rfl) ?_
                  rintro _ _ ⟨rfl, ⟨rfl, b_172⟩ | ⟨rfl, b_172⟩⟩
                  · have h5 := w_5.mpr b_172
                    refine X_if_eq 175 182 dX7_wordFrom_175 (by decide) (fun c_0 => by exact absurd c_0 (by decide)) (fun _ => ?_)
                    refine X_iconst 178 (5) dX7_wordFrom_178 (by decide) ?_
                    refine X_goto 179 227 dX7_wordFrom_179 (by decide) ?_
                    refine X_iret 227 dX7_wordFrom_227 rfl rfl ⟨_, rfl, _, rfl, ?_⟩
                    first
                      | exact ⟨by rw [wdOf, pI_t h0]; rfl, rfl⟩
                      | exact ⟨by rw [wdOf, pI_f h0, pI_t h1]; rfl, rfl⟩
                      | exact ⟨by rw [wdOf, pI_f h0, pI_f h1, pI_t h2]; rfl, rfl⟩
                      | exact ⟨by rw [wdOf, pI_f h0, pI_f h1, pI_f h2, pI_t h3]; rfl, rfl⟩
                      | exact ⟨by rw [wdOf, pI_f h0, pI_f h1, pI_f h2, pI_f h3, pI_t h4]; rfl, rfl⟩
                      | exact ⟨by rw [wdOf, pI_f h0, pI_f h1, pI_f h2, pI_f h3, pI_f h4, pI_t h5]; rfl, rfl⟩
                      | exact ⟨by rw [wdOf, pI_f h0, pI_f h1, pI_f h2, pI_f h3, pI_f h4, pI_f h5, pI_t h6]; rfl, rfl⟩
                      | exact ⟨by rw [wdOf, pI_f h0, pI_f h1, pI_f h2, pI_f h3, pI_f h4, pI_f h5, pI_f h6, pI_t h7]; rfl, rfl⟩
                      | exact ⟨by rw [wdOf, pI_f h0, pI_f h1, pI_f h2, pI_f h3, pI_f h4, pI_f h5, pI_f h6, pI_f h7]; rfl, rfl⟩
                  · have h5 : ¬ isW b s p 5 := fun z => b_172 (w_5.mp z)
                    refine X_if_eq 175 182 dX7_wordFrom_175 (by decide) (fun _ => ?_) (fun c_0 => by exact absurd c_0 (by decide))
                    refine X_aload_n 182 1 dX7_wordFrom_182 rfl rfl ?_
                    refine X_iload_n 183 2 dX7_wordFrom_183 rfl rfl ?_
                    refine X_iconst 184 (4) dX7_wordFrom_184 (by decide) ?_
                    refine X_bipush 185 (109) dX7_wordFrom_185 (by decide) ?_
                    refine X_bipush 187 (101) dX7_wordFrom_187 (by decide) ?_
                    refine X_bipush 189 (110) dX7_wordFrom_189 (by decide) ?_
                    refine X_bipush 191 (100) dX7_wordFrom_191 (by decide) ?_
                    refine X_cVI 193 [.int _, .int _, .int _, .int _, .int _, .int _] (e_X7_isWord b L p w n s 4 109 101 110 100 _ hT hp (by omega) (by decide)) dX7_wordFrom_193 lm_RX7_232 6 ⟨wm_X7_isWord, by decide +kernel, rfl, rfl⟩ rfl ⟨Nat.le_of_ble_eq_true rfl, Nat.le_of_ble_eq_true rfl⟩ lyM vc7 rfl rfl (Nat.le_of_ble_eq_true rfl) ?_
                    rintro _ _ ⟨rfl, ⟨rfl, b_193⟩ | ⟨rfl, b_193⟩⟩
                    · have h6 := w_6.mpr b_193
                      refine X_if_eq 196 204 dX7_wordFrom_196 (by decide) (fun c_0 => by exact absurd c_0 (by decide)) (fun _ => ?_)
                      refine X_bipush 199 (6) dX7_wordFrom_199 (by decide) ?_
                      refine X_goto 201 227 dX7_wordFrom_201 (by decide) ?_
                      refine X_iret 227 dX7_wordFrom_227 rfl rfl ⟨_, rfl, _, rfl, ?_⟩
                      first
                        | exact ⟨by rw [wdOf, pI_t h0]; rfl, rfl⟩
                        | exact ⟨by rw [wdOf, pI_f h0, pI_t h1]; rfl, rfl⟩
                        | exact ⟨by rw [wdOf, pI_f h0, pI_f h1, pI_t h2]; rfl, rfl⟩
                        | exact ⟨by rw [wdOf, pI_f h0, pI_f h1, pI_f h2, pI_t h3]; rfl, rfl⟩
                        | exact ⟨by rw [wdOf, pI_f h0, pI_f h1, pI_f h2, pI_f h3, pI_t h4]; rfl, rfl⟩
                        | exact ⟨by rw [wdOf, pI_f h0, pI_f h1, pI_f h2, pI_f h3, pI_f h4, pI_t h5]; rfl, rfl⟩
                        | exact ⟨by rw [wdOf, pI_f h0, pI_f h1, pI_f h2, pI_f h3, pI_f h4, pI_f h5, pI_t h6]; rfl, rfl⟩
                        | exact ⟨by rw [wdOf, pI_f h0, pI_f h1, pI_f h2, pI_f h3, pI_f h4, pI_f h5, pI_f h6, pI_t h7]; rfl, rfl⟩
                        | exact ⟨by rw [wdOf, pI_f h0, pI_f h1, pI_f h2, pI_f h3, pI_f h4, pI_f h5, pI_f h6, pI_f h7]; rfl, rfl⟩
                    · have h6 : ¬ isW b s p 6 := fun z => b_193 (w_6.mp z)
                      refine X_if_eq 196 204 dX7_wordFrom_196 (by decide) (fun _ => ?_) (fun c_0 => by exact absurd c_0 (by decide))
                      refine X_aload_n 204 1 dX7_wordFrom_204 rfl rfl ?_
                      refine X_iload_n 205 2 dX7_wordFrom_205 rfl rfl ?_
                      refine X_iconst 206 (4) dX7_wordFrom_206 (by decide) ?_
                      refine X_bipush 207 (98) dX7_wordFrom_207 (by decide) ?_
                      refine X_bipush 209 (117) dX7_wordFrom_209 (by decide) ?_
                      refine X_bipush 211 (114) dX7_wordFrom_211 (by decide) ?_
                      refine X_bipush 213 (110) dX7_wordFrom_213 (by decide) ?_
                      refine X_cVI 215 [.int _, .int _, .int _, .int _, .int _, .int _] (e_X7_isWord b L p w n s 4 98 117 114 110 _ hT hp (by omega) (by decide)) dX7_wordFrom_215 lm_RX7_232 6 ⟨wm_X7_isWord, by decide +kernel, rfl, rfl⟩ rfl ⟨Nat.le_of_ble_eq_true rfl, Nat.le_of_ble_eq_true rfl⟩ lyM vc7 rfl rfl (Nat.le_of_ble_eq_true rfl) ?_
                      rintro _ _ ⟨rfl, ⟨rfl, b_215⟩ | ⟨rfl, b_215⟩⟩
                      · have h7 := w_7.mpr b_215
                        refine X_if_eq 218 226 dX7_wordFrom_218 (by decide) (fun c_0 => by exact absurd c_0 (by decide)) (fun _ => ?_)
                        refine X_bipush 221 (7) dX7_wordFrom_221 (by decide) ?_
                        refine X_goto 223 227 dX7_wordFrom_223 (by decide) ?_
                        refine X_iret 227 dX7_wordFrom_227 rfl rfl ⟨_, rfl, _, rfl, ?_⟩
                        first
                          | exact ⟨by rw [wdOf, pI_t h0]; rfl, rfl⟩
                          | exact ⟨by rw [wdOf, pI_f h0, pI_t h1]; rfl, rfl⟩
                          | exact ⟨by rw [wdOf, pI_f h0, pI_f h1, pI_t h2]; rfl, rfl⟩
                          | exact ⟨by rw [wdOf, pI_f h0, pI_f h1, pI_f h2, pI_t h3]; rfl, rfl⟩
                          | exact ⟨by rw [wdOf, pI_f h0, pI_f h1, pI_f h2, pI_f h3, pI_t h4]; rfl, rfl⟩
                          | exact ⟨by rw [wdOf, pI_f h0, pI_f h1, pI_f h2, pI_f h3, pI_f h4, pI_t h5]; rfl, rfl⟩
                          | exact ⟨by rw [wdOf, pI_f h0, pI_f h1, pI_f h2, pI_f h3, pI_f h4, pI_f h5, pI_t h6]; rfl, rfl⟩
                          | exact ⟨by rw [wdOf, pI_f h0, pI_f h1, pI_f h2, pI_f h3, pI_f h4, pI_f h5, pI_f h6, pI_t h7]; rfl, rfl⟩
                          | exact ⟨by rw [wdOf, pI_f h0, pI_f h1, pI_f h2, pI_f h3, pI_f h4, pI_f h5, pI_f h6, pI_f h7]; rfl, rfl⟩
                      · have h7 : ¬ isW b s p 7 := fun z => b_215 (w_7.mp z)
                        refine X_if_eq 218 226 dX7_wordFrom_218 (by decide) (fun _ => ?_) (fun c_0 => by exact absurd c_0 (by decide))
                        refine X_iconst 226 (-1) dX7_wordFrom_226 (by decide) ?_
                        refine X_iret 227 dX7_wordFrom_227 rfl rfl ⟨_, rfl, _, rfl, ?_⟩
                        first
                          | exact ⟨by rw [wdOf, pI_t h0]; rfl, rfl⟩
                          | exact ⟨by rw [wdOf, pI_f h0, pI_t h1]; rfl, rfl⟩
                          | exact ⟨by rw [wdOf, pI_f h0, pI_f h1, pI_t h2]; rfl, rfl⟩
                          | exact ⟨by rw [wdOf, pI_f h0, pI_f h1, pI_f h2, pI_t h3]; rfl, rfl⟩
                          | exact ⟨by rw [wdOf, pI_f h0, pI_f h1, pI_f h2, pI_f h3, pI_t h4]; rfl, rfl⟩
                          | exact ⟨by rw [wdOf, pI_f h0, pI_f h1, pI_f h2, pI_f h3, pI_f h4, pI_t h5]; rfl, rfl⟩
                          | exact ⟨by rw [wdOf, pI_f h0, pI_f h1, pI_f h2, pI_f h3, pI_f h4, pI_f h5, pI_t h6]; rfl, rfl⟩
                          | exact ⟨by rw [wdOf, pI_f h0, pI_f h1, pI_f h2, pI_f h3, pI_f h4, pI_f h5, pI_f h6, pI_t h7]; rfl, rfl⟩
                          | exact ⟨by rw [wdOf, pI_f h0, pI_f h1, pI_f h2, pI_f h3, pI_f h4, pI_f h5, pI_f h6, pI_f h7]; rfl, rfl⟩
                · have h4 : isW b s p 4 := w_4.mpr ⟨b_145, by rw [show s + 4 = p - 1 by have := b_145.1; omega]; exact c_154⟩
                  refine X_iconst 157 (4) dX7_wordFrom_157 (by decide) ?_
                  refine X_goto 158 227 dX7_wordFrom_158 (by decide) ?_
                  refine X_iret 227 dX7_wordFrom_227 rfl rfl ⟨_, rfl, _, rfl, ?_⟩
                  first
                    | exact ⟨by rw [wdOf, pI_t h0]; rfl, rfl⟩
                    | exact ⟨by rw [wdOf, pI_f h0, pI_t h1]; rfl, rfl⟩
                    | exact ⟨by rw [wdOf, pI_f h0, pI_f h1, pI_t h2]; rfl, rfl⟩
                    | exact ⟨by rw [wdOf, pI_f h0, pI_f h1, pI_f h2, pI_t h3]; rfl, rfl⟩
                    | exact ⟨by rw [wdOf, pI_f h0, pI_f h1, pI_f h2, pI_f h3, pI_t h4]; rfl, rfl⟩
                    | exact ⟨by rw [wdOf, pI_f h0, pI_f h1, pI_f h2, pI_f h3, pI_f h4, pI_t h5]; rfl, rfl⟩
                    | exact ⟨by rw [wdOf, pI_f h0, pI_f h1, pI_f h2, pI_f h3, pI_f h4, pI_f h5, pI_t h6]; rfl, rfl⟩
                    | exact ⟨by rw [wdOf, pI_f h0, pI_f h1, pI_f h2, pI_f h3, pI_f h4, pI_f h5, pI_f h6, pI_t h7]; rfl, rfl⟩
                    | exact ⟨by rw [wdOf, pI_f h0, pI_f h1, pI_f h2, pI_f h3, pI_f h4, pI_f h5, pI_f h6, pI_f h7]; rfl, rfl⟩
              · have h4 : ¬ isW b s p 4 := fun z => b_145 (w_4.mp z).1
                refine X_if_eq 148 161 dX7_wordFrom_148 (by decide) (fun _ => ?_) (fun c_0 => by exact absurd c_0 (by decide))
                refine X_aload_n 161 1 dX7_wordFrom_161 rfl rfl ?_
                refine X_iload_n 162 2 dX7_wordFrom_162 rfl rfl ?_
                refine X_iconst 163 (4) dX7_wordFrom_163 (by decide) ?_
                refine X_bipush 164 (102) dX7_wordFrom_164 (by decide) ?_
                refine X_bipush 166 (97) dX7_wordFrom_166 (by decide) ?_
                refine X_bipush 168 (105) dX7_wordFrom_168 (by decide) ?_
                refine X_bipush 170 (108) dX7_wordFrom_170 (by decide) ?_
                refine X_cVI 172 [.int _, .int _, .int _, .int _, .int _, .int _] (e_X7_isWord b L p w n s 4 102 97 105 108 _ hT hp (by omega) (by decide)) dX7_wordFrom_172 lm_RX7_232 6 ⟨wm_X7_isWord, by decide +kernel, rfl, rfl⟩ rfl ⟨Nat.le_of_ble_eq_true rfl, Nat.le_of_ble_eq_true rfl⟩ lyM vc7 rfl rfl (Nat.le_of_ble_eq_true rfl) ?_
                rintro _ _ ⟨rfl, ⟨rfl, b_172⟩ | ⟨rfl, b_172⟩⟩
                · have h5 := w_5.mpr b_172
                  refine X_if_eq 175 182 dX7_wordFrom_175 (by decide) (fun c_0 => by exact absurd c_0 (by decide)) (fun _ => ?_)
                  refine X_iconst 178 (5) dX7_wordFrom_178 (by decide) ?_
                  refine X_goto 179 227 dX7_wordFrom_179 (by decide) ?_
                  refine X_iret 227 dX7_wordFrom_227 rfl rfl ⟨_, rfl, _, rfl, ?_⟩
                  first
                    | exact ⟨by rw [wdOf, pI_t h0]; rfl, rfl⟩
                    | exact ⟨by rw [wdOf, pI_f h0, pI_t h1]; rfl, rfl⟩
                    | exact ⟨by rw [wdOf, pI_f h0, pI_f h1, pI_t h2]; rfl, rfl⟩
                    | exact ⟨by rw [wdOf, pI_f h0, pI_f h1, pI_f h2, pI_t h3]; rfl, rfl⟩
                    | exact ⟨by rw [wdOf, pI_f h0, pI_f h1, pI_f h2, pI_f h3, pI_t h4]; rfl, rfl⟩
                    | exact ⟨by rw [wdOf, pI_f h0, pI_f h1, pI_f h2, pI_f h3, pI_f h4, pI_t h5]; rfl, rfl⟩
                    | exact ⟨by rw [wdOf, pI_f h0, pI_f h1, pI_f h2, pI_f h3, pI_f h4, pI_f h5, pI_t h6]; rfl, rfl⟩
                    | exact ⟨by rw [wdOf, pI_f h0, pI_f h1, pI_f h2, pI_f h3, pI_f h4, pI_f h5, pI_f h6, pI_t h7]; rfl, rfl⟩
                    | exact ⟨by rw [wdOf, pI_f h0, pI_f h1, pI_f h2, pI_f h3, pI_f h4, pI_f h5, pI_f h6, pI_f h7]; rfl, rfl⟩
                · have h5 : ¬ isW b s p 5 := fun z => b_172 (w_5.mp z)
                  refine X_if_eq 175 182 dX7_wordFrom_175 (by decide) (fun _ => ?_) (fun c_0 => by exact absurd c_0 (by decide))
                  refine X_aload_n 182 1 dX7_wordFrom_182 rfl rfl ?_
                  refine X_iload_n 183 2 dX7_wordFrom_183 rfl rfl ?_
                  refine X_iconst 184 (4) dX7_wordFrom_184 (by decide) ?_
                  refine X_bipush 185 (109) dX7_wordFrom_185 (by decide) ?_
                  refine X_bipush 187 (101) dX7_wordFrom_187 (by decide) ?_
                  refine X_bipush 189 (110) dX7_wordFrom_189 (by decide) ?_
                  refine X_bipush 191 (100) dX7_wordFrom_191 (by decide) ?_
                  refine X_cVI 193 [.int _, .int _, .int _, .int _, .int _, .int _] (e_X7_isWord b L p w n s 4 109 101 110 100 _ hT hp (by omega) (by decide)) dX7_wordFrom_193 lm_RX7_232 6 ⟨wm_X7_isWord, by decide +kernel, rfl, rfl⟩ rfl ⟨Nat.le_of_ble_eq_true rfl, Nat.le_of_ble_eq_true rfl⟩ lyM vc7 rfl rfl (Nat.le_of_ble_eq_true rfl) ?_
                  rintro _ _ ⟨rfl, ⟨rfl, b_193⟩ | ⟨rfl, b_193⟩⟩
                  · have h6 := w_6.mpr b_193
                    refine X_if_eq 196 204 dX7_wordFrom_196 (by decide) (fun c_0 => by exact absurd c_0 (by decide)) (fun _ => ?_)
                    refine X_bipush 199 (6) dX7_wordFrom_199 (by decide) ?_
                    refine X_goto 201 227 dX7_wordFrom_201 (by decide) ?_
                    refine X_iret 227 dX7_wordFrom_227 rfl rfl ⟨_, rfl, _, rfl, ?_⟩
                    first
                      | exact ⟨by rw [wdOf, pI_t h0]; rfl, rfl⟩
                      | exact ⟨by rw [wdOf, pI_f h0, pI_t h1]; rfl, rfl⟩
                      | exact ⟨by rw [wdOf, pI_f h0, pI_f h1, pI_t h2]; rfl, rfl⟩
                      | exact ⟨by rw [wdOf, pI_f h0, pI_f h1, pI_f h2, pI_t h3]; rfl, rfl⟩
                      | exact ⟨by rw [wdOf, pI_f h0, pI_f h1, pI_f h2, pI_f h3, pI_t h4]; rfl, rfl⟩
                      | exact ⟨by rw [wdOf, pI_f h0, pI_f h1, pI_f h2, pI_f h3, pI_f h4, pI_t h5]; rfl, rfl⟩
                      | exact ⟨by rw [wdOf, pI_f h0, pI_f h1, pI_f h2, pI_f h3, pI_f h4, pI_f h5, pI_t h6]; rfl, rfl⟩
                      | exact ⟨by rw [wdOf, pI_f h0, pI_f h1, pI_f h2, pI_f h3, pI_f h4, pI_f h5, pI_f h6, pI_t h7]; rfl, rfl⟩
                      | exact ⟨by rw [wdOf, pI_f h0, pI_f h1, pI_f h2, pI_f h3, pI_f h4, pI_f h5, pI_f h6, pI_f h7]; rfl, rfl⟩
                  · have h6 : ¬ isW b s p 6 := fun z => b_193 (w_6.mp z)
                    refine X_if_eq 196 204 dX7_wordFrom_196 (by decide) (fun _ => ?_) (fun c_0 => by exact absurd c_0 (by decide))
                    refine X_aload_n 204 1 dX7_wordFrom_204 rfl rfl ?_
                    refine X_iload_n 205 2 dX7_wordFrom_205 rfl rfl ?_
                    refine X_iconst 206 (4) dX7_wordFrom_206 (by decide) ?_
                    refine X_bipush 207 (98) dX7_wordFrom_207 (by decide) ?_
                    refine X_bipush 209 (117) dX7_wordFrom_209 (by decide) ?_
                    refine X_bipush 211 (114) dX7_wordFrom_211 (by decide) ?_
                    refine X_bipush 213 (110) dX7_wordFrom_213 (by decide) ?_
                    refine X_cVI 215 [.int _, .int _, .int _, .int _, .int _, .int _] (e_X7_isWord b L p w n s 4 98 117 114 110 _ hT hp (by omega) (by decide)) dX7_wordFrom_215 lm_RX7_232 6 ⟨wm_X7_isWord, by decide +kernel, rfl, rfl⟩ rfl ⟨Nat.le_of_ble_eq_true rfl, Nat.le_of_ble_eq_true rfl⟩ lyM vc7 rfl rfl (Nat.le_of_ble_eq_true rfl) ?_
                    rintro _ _ ⟨rfl, ⟨rfl, b_215⟩ | ⟨rfl, b_215⟩⟩
                    · have h7 := w_7.mpr b_215
                      refine X_if_eq 218 226 dX7_wordFrom_218 (by decide) (fun c_0 => by exact absurd c_0 (by decide)) (fun _ => ?_)
                      refine X_bipush 221 (7) dX7_wordFrom_221 (by decide) ?_
                      refine X_goto 223 227 dX7_wordFrom_223 (by decide) ?_
                      refine X_iret 227 dX7_wordFrom_227 rfl rfl ⟨_, rfl, _, rfl, ?_⟩
                      first
                        | exact ⟨by rw [wdOf, pI_t h0]; rfl, rfl⟩
                        | exact ⟨by rw [wdOf, pI_f h0, pI_t h1]; rfl, rfl⟩
                        | exact ⟨by rw [wdOf, pI_f h0, pI_f h1, pI_t h2]; rfl, rfl⟩
                        | exact ⟨by rw [wdOf, pI_f h0, pI_f h1, pI_f h2, pI_t h3]; rfl, rfl⟩
                        | exact ⟨by rw [wdOf, pI_f h0, pI_f h1, pI_f h2, pI_f h3, pI_t h4]; rfl, rfl⟩
                        | exact ⟨by rw [wdOf, pI_f h0, pI_f h1, pI_f h2, pI_f h3, pI_f h4, pI_t h5]; rfl, rfl⟩
                        | exact ⟨by rw [wdOf, pI_f h0, pI_f h1, pI_f h2, pI_f h3, pI_f h4, pI_f h5, pI_t h6]; rfl, rfl⟩
                        | exact ⟨by rw [wdOf, pI_f h0, pI_f h1, pI_f h2, pI_f h3, pI_f h4, pI_f h5, pI_f h6, pI_t h7]; rfl, rfl⟩
                        | exact ⟨by rw [wdOf, pI_f h0, pI_f h1, pI_f h2, pI_f h3, pI_f h4, pI_f h5, pI_f h6, pI_f h7]; rfl, rfl⟩
                    · have h7 : ¬ isW b s p 7 := fun z => b_215 (w_7.mp z)
                      refine X_if_eq 218 226 dX7_wordFrom_218 (by decide) (fun _ => ?_) (fun c_0 => by exact absurd c_0 (by decide))
                      refine X_iconst 226 (-1) dX7_wordFrom_226 (by decide) ?_
                      refine X_iret 227 dX7_wordFrom_227 rfl rfl ⟨_, rfl, _, rfl, ?_⟩
                      first
                        | exact ⟨by rw [wdOf, pI_t h0]; rfl, rfl⟩
                        | exact ⟨by rw [wdOf, pI_f h0, pI_t h1]; rfl, rfl⟩
                        | exact ⟨by rw [wdOf, pI_f h0, pI_f h1, pI_t h2]; rfl, rfl⟩
                        | exact ⟨by rw [wdOf, pI_f h0, pI_f h1, pI_f h2, pI_t h3]; rfl, rfl⟩
                        | exact ⟨by rw [wdOf, pI_f h0, pI_f h1, pI_f h2, pI_f h3, pI_t h4]; rfl, rfl⟩
                        | exact ⟨by rw [wdOf, pI_f h0, pI_f h1, pI_f h2, pI_f h3, pI_f h4, pI_t h5]; rfl, rfl⟩
                        | exact ⟨by rw [wdOf, pI_f h0, pI_f h1, pI_f h2, pI_f h3, pI_f h4, pI_f h5, pI_t h6]; rfl, rfl⟩
                        | exact ⟨by rw [wdOf, pI_f h0, pI_f h1, pI_f h2, pI_f h3, pI_f h4, pI_f h5, pI_f h6, pI_t h7]; rfl, rfl⟩
                        | exact ⟨by rw [wdOf, pI_f h0, pI_f h1, pI_f h2, pI_f h3, pI_f h4, pI_f h5, pI_f h6, pI_f h7]; rfl, rfl⟩
            · refine X_iload_n 124 0 dX7_wordFrom_124 rfl rfl ?_
              refine X_bipush 125 (114) dX7_wordFrom_125 (by decide) ?_
              refine X_icmp_ne 127 134 dX7_wordFrom_127 (by decide) (fun c_127 => ?_) (fun c_127 => ?_)
              · have h3 : ¬ isW b s p 3 := fun z => c_127 (by rw [show p - 1 = s + 5 by have := (w_3.mp z).1.1; omega]; exact (w_3.mp z).2.2)
                refine X_aload_n 134 1 dX7_wordFrom_134 rfl rfl ?_
                refine X_iload_n 135 2 dX7_wordFrom_135 rfl rfl ?_
                refine X_iconst 136 (5) dX7_wordFrom_136 (by decide) ?_
                refine X_bipush 137 (115) dX7_wordFrom_137 (by decide) ?_
                refine X_bipush 139 (104) dX7_wordFrom_139 (by decide) ?_
                refine X_bipush 141 (105) dX7_wordFrom_141 (by decide) ?_
                refine X_bipush 143 (102) dX7_wordFrom_143 (by decide) ?_
                refine X_cVI 145 [.int _, .int _, .int _, .int _, .int _, .int _] (e_X7_isWord b L p w n s 5 115 104 105 102 _ hT hp (by omega) (by decide)) dX7_wordFrom_145 lm_RX7_232 6 ⟨wm_X7_isWord, by decide +kernel, rfl, rfl⟩ rfl ⟨Nat.le_of_ble_eq_true rfl, Nat.le_of_ble_eq_true rfl⟩ lyM vc7 rfl rfl (Nat.le_of_ble_eq_true rfl) ?_
                rintro _ _ ⟨rfl, ⟨rfl, b_145⟩ | ⟨rfl, b_145⟩⟩
                · refine X_if_eq 148 161 dX7_wordFrom_148 (by decide) (fun c_0 => by exact absurd c_0 (by decide)) (fun _ => ?_)
                  refine X_iload_n 151 0 dX7_wordFrom_151 rfl rfl ?_
                  refine X_bipush 152 (116) dX7_wordFrom_152 (by decide) ?_
                  refine X_icmp_ne 154 161 dX7_wordFrom_154 (by decide) (fun c_154 => ?_) (fun c_154 => ?_)
                  · have h4 : ¬ isW b s p 4 := fun z => c_154 (by rw [show p - 1 = s + 4 by have := (w_4.mp z).1.1; omega]; exact (w_4.mp z).2)
                    refine X_aload_n 161 1 dX7_wordFrom_161 rfl rfl ?_
                    refine X_iload_n 162 2 dX7_wordFrom_162 rfl rfl ?_
                    refine X_iconst 163 (4) dX7_wordFrom_163 (by decide) ?_
                    refine X_bipush 164 (102) dX7_wordFrom_164 (by decide) ?_
                    refine X_bipush 166 (97) dX7_wordFrom_166 (by decide) ?_
                    refine X_bipush 168 (105) dX7_wordFrom_168 (by decide) ?_
                    refine X_bipush 170 (108) dX7_wordFrom_170 (by decide) ?_
                    refine X_cVI 172 [.int _, .int _, .int _, .int _, .int _, .int _] (e_X7_isWord b L p w n s 4 102 97 105 108 _ hT hp (by omega) (by decide)) dX7_wordFrom_172 lm_RX7_232 6 ⟨wm_X7_isWord, by decide +kernel, rfl, rfl⟩ rfl ⟨Nat.le_of_ble_eq_true rfl, Nat.le_of_ble_eq_true rfl⟩ lyM vc7 rfl rfl (Nat.le_of_ble_eq_true rfl) ?_
                    rintro _ _ ⟨rfl, ⟨rfl, b_172⟩ | ⟨rfl, b_172⟩⟩
                    · have h5 := w_5.mpr b_172
                      refine X_if_eq 175 182 dX7_wordFrom_175 (by decide) (fun c_0 => by exact absurd c_0 (by decide)) (fun _ => ?_)
                      refine X_iconst 178 (5) dX7_wordFrom_178 (by decide) ?_
                      refine X_goto 179 227 dX7_wordFrom_179 (by decide) ?_
                      refine X_iret 227 dX7_wordFrom_227 rfl rfl ⟨_, rfl, _, rfl, ?_⟩
                      first
                        | exact ⟨by rw [wdOf, pI_t h0]; rfl, rfl⟩
                        | exact ⟨by rw [wdOf, pI_f h0, pI_t h1]; rfl, rfl⟩
                        | exact ⟨by rw [wdOf, pI_f h0, pI_f h1, pI_t h2]; rfl, rfl⟩
                        | exact ⟨by rw [wdOf, pI_f h0, pI_f h1, pI_f h2, pI_t h3]; rfl, rfl⟩
                        | exact ⟨by rw [wdOf, pI_f h0, pI_f h1, pI_f h2, pI_f h3, pI_t h4]; rfl, rfl⟩
                        | exact ⟨by rw [wdOf, pI_f h0, pI_f h1, pI_f h2, pI_f h3, pI_f h4, pI_t h5]; rfl, rfl⟩
                        | exact ⟨by rw [wdOf, pI_f h0, pI_f h1, pI_f h2, pI_f h3, pI_f h4, pI_f h5, pI_t h6]; rfl, rfl⟩
                        | exact ⟨by rw [wdOf, pI_f h0, pI_f h1, pI_f h2, pI_f h3, pI_f h4, pI_f h5, pI_f h6, pI_t h7]; rfl, rfl⟩
                        | exact ⟨by rw [wdOf, pI_f h0, pI_f h1, pI_f h2, pI_f h3, pI_f h4, pI_f h5, pI_f h6, pI_f h7]; rfl, rfl⟩
                    · have h5 : ¬ isW b s p 5 := fun z => b_172 (w_5.mp z)
                      refine X_if_eq 175 182 dX7_wordFrom_175 (by decide) (fun _ => ?_) (fun c_0 => by exact absurd c_0 (by decide))
                      refine X_aload_n 182 1 dX7_wordFrom_182 rfl rfl ?_
                      refine X_iload_n 183 2 dX7_wordFrom_183 rfl rfl ?_
                      refine X_iconst 184 (4) dX7_wordFrom_184 (by decide) ?_
                      refine X_bipush 185 (109) dX7_wordFrom_185 (by decide) ?_
                      refine X_bipush 187 (101) dX7_wordFrom_187 (by decide) ?_
                      refine X_bipush 189 (110) dX7_wordFrom_189 (by decide) ?_
                      refine X_bipush 191 (100) dX7_wordFrom_191 (by decide) ?_
                      refine X_cVI 193 [.int _, .int _, .int _, .int _, .int _, .int _] (e_X7_isWord b L p w n s 4 109 101 110 100 _ hT hp (by omega) (by decide)) dX7_wordFrom_193 lm_RX7_232 6 ⟨wm_X7_isWord, by decide +kernel, rfl, rfl⟩ rfl ⟨Nat.le_of_ble_eq_true rfl, Nat.le_of_ble_eq_true rfl⟩ lyM vc7 rfl rfl (Nat.le_of_ble_eq_true rfl) ?_
                      rintro _ _ ⟨rfl, ⟨rfl, b_193⟩ | ⟨rfl, b_193⟩⟩
                      · have h6 := w_6.mpr b_193
                        refine X_if_eq 196 204 dX7_wordFrom_196 (by decide) (fun c_0 => by exact absurd c_0 (by decide)) (fun _ => ?_)
                        refine X_bipush 199 (6) dX7_wordFrom_199 (by decide) ?_
                        refine X_goto 201 227 dX7_wordFrom_201 (by decide) ?_
                        refine X_iret 227 dX7_wordFrom_227 rfl rfl ⟨_, rfl, _, rfl, ?_⟩
                        first
                          | exact ⟨by rw [wdOf, pI_t h0]; rfl, rfl⟩
                          | exact ⟨by rw [wdOf, pI_f h0, pI_t h1]; rfl, rfl⟩
                          | exact ⟨by rw [wdOf, pI_f h0, pI_f h1, pI_t h2]; rfl, rfl⟩
                          | exact ⟨by rw [wdOf, pI_f h0, pI_f h1, pI_f h2, pI_t h3]; rfl, rfl⟩
                          | exact ⟨by rw [wdOf, pI_f h0, pI_f h1, pI_f h2, pI_f h3, pI_t h4]; rfl, rfl⟩
                          | exact ⟨by rw [wdOf, pI_f h0, pI_f h1, pI_f h2, pI_f h3, pI_f h4, pI_t h5]; rfl, rfl⟩
                          | exact ⟨by rw [wdOf, pI_f h0, pI_f h1, pI_f h2, pI_f h3, pI_f h4, pI_f h5, pI_t h6]; rfl, rfl⟩
                          | exact ⟨by rw [wdOf, pI_f h0, pI_f h1, pI_f h2, pI_f h3, pI_f h4, pI_f h5, pI_f h6, pI_t h7]; rfl, rfl⟩
                          | exact ⟨by rw [wdOf, pI_f h0, pI_f h1, pI_f h2, pI_f h3, pI_f h4, pI_f h5, pI_f h6, pI_f h7]; rfl, rfl⟩
                      · have h6 : ¬ isW b s p 6 := fun z => b_193 (w_6.mp z)
                        refine X_if_eq 196 204 dX7_wordFrom_196 (by decide) (fun _ => ?_) (fun c_0 => by exact absurd c_0 (by decide))
                        refine X_aload_n 204 1 dX7_wordFrom_204 rfl rfl ?_
                        refine X_iload_n 205 2 dX7_wordFrom_205 rfl rfl ?_
                        refine X_iconst 206 (4) dX7_wordFrom_206 (by decide) ?_
                        refine X_bipush 207 (98) dX7_wordFrom_207 (by decide) ?_
                        refine X_bipush 209 (117) dX7_wordFrom_209 (by decide) ?_
                        refine X_bipush 211 (114) dX7_wordFrom_211 (by decide) ?_
                        refine X_bipush 213 (110) dX7_wordFrom_213 (by decide) ?_
                        refine X_cVI 215 [.int _, .int _, .int _, .int _, .int _, .int _] (e_X7_isWord b L p w n s 4 98 117 114 110 _ hT hp (by omega) (by decide)) dX7_wordFrom_215 lm_RX7_232 6 ⟨wm_X7_isWord, by decide +kernel, rfl, rfl⟩ rfl ⟨Nat.le_of_ble_eq_true rfl, Nat.le_of_ble_eq_true rfl⟩ lyM vc7 rfl rfl (Nat.le_of_ble_eq_true rfl) ?_
                        rintro _ _ ⟨rfl, ⟨rfl, b_215⟩ | ⟨rfl, b_215⟩⟩
                        · have h7 := w_7.mpr b_215
                          refine X_if_eq 218 226 dX7_wordFrom_218 (by decide) (fun c_0 => by exact absurd c_0 (by decide)) (fun _ => ?_)
                          refine X_bipush 221 (7) dX7_wordFrom_221 (by decide) ?_
                          refine X_goto 223 227 dX7_wordFrom_223 (by decide) ?_
                          refine X_iret 227 dX7_wordFrom_227 rfl rfl ⟨_, rfl, _, rfl, ?_⟩
                          first
                            | exact ⟨by rw [wdOf, pI_t h0]; rfl, rfl⟩
                            | exact ⟨by rw [wdOf, pI_f h0, pI_t h1]; rfl, rfl⟩
                            | exact ⟨by rw [wdOf, pI_f h0, pI_f h1, pI_t h2]; rfl, rfl⟩
                            | exact ⟨by rw [wdOf, pI_f h0, pI_f h1, pI_f h2, pI_t h3]; rfl, rfl⟩
                            | exact ⟨by rw [wdOf, pI_f h0, pI_f h1, pI_f h2, pI_f h3, pI_t h4]; rfl, rfl⟩
                            | exact ⟨by rw [wdOf, pI_f h0, pI_f h1, pI_f h2, pI_f h3, pI_f h4, pI_t h5]; rfl, rfl⟩
                            | exact ⟨by rw [wdOf, pI_f h0, pI_f h1, pI_f h2, pI_f h3, pI_f h4, pI_f h5, pI_t h6]; rfl, rfl⟩
                            | exact ⟨by rw [wdOf, pI_f h0, pI_f h1, pI_f h2, pI_f h3, pI_f h4, pI_f h5, pI_f h6, pI_t h7]; rfl, rfl⟩
                            | exact ⟨by rw [wdOf, pI_f h0, pI_f h1, pI_f h2, pI_f h3, pI_f h4, pI_f h5, pI_f h6, pI_f h7]; rfl, rfl⟩
                        · have h7 : ¬ isW b s p 7 := fun z => b_215 (w_7.mp z)
                          refine X_if_eq 218 226 dX7_wordFrom_218 (by decide) (fun _ => ?_) (fun c_0 => by exact absurd c_0 (by decide))
                          refine X_iconst 226 (-1) dX7_wordFrom_226 (by decide) ?_
                          refine X_iret 227 dX7_wordFrom_227 rfl rfl ⟨_, rfl, _, rfl, ?_⟩
                          first
                            | exact ⟨by rw [wdOf, pI_t h0]; rfl, rfl⟩
                            | exact ⟨by rw [wdOf, pI_f h0, pI_t h1]; rfl, rfl⟩
                            | exact ⟨by rw [wdOf, pI_f h0, pI_f h1, pI_t h2]; rfl, rfl⟩
                            | exact ⟨by rw [wdOf, pI_f h0, pI_f h1, pI_f h2, pI_t h3]; rfl, rfl⟩
                            | exact ⟨by rw [wdOf, pI_f h0, pI_f h1, pI_f h2, pI_f h3, pI_t h4]; rfl, rfl⟩
                            | exact ⟨by rw [wdOf, pI_f h0, pI_f h1, pI_f h2, pI_f h3, pI_f h4, pI_t h5]; rfl, rfl⟩
                            | exact ⟨by rw [wdOf, pI_f h0, pI_f h1, pI_f h2, pI_f h3, pI_f h4, pI_f h5, pI_t h6]; rfl, rfl⟩
                            | exact ⟨by rw [wdOf, pI_f h0, pI_f h1, pI_f h2, pI_f h3, pI_f h4, pI_f h5, pI_f h6, pI_t h7]; rfl, rfl⟩
                            | exact ⟨by rw [wdOf, pI_f h0, pI_f h1, pI_f h2, pI_f h3, pI_f h4, pI_f h5, pI_f h6, pI_f h7]; rfl, rfl⟩
                  · have h4 : isW b s p 4 := w_4.mpr ⟨b_145, by rw [show s + 4 = p - 1 by have := b_145.1; omega]; exact c_154⟩
                    refine X_iconst 157 (4) dX7_wordFrom_157 (by decide) ?_
                    refine X_goto 158 227 dX7_wordFrom_158 (by decide) ?_
                    refine X_iret 227 dX7_wordFrom_227 rfl rfl ⟨_, rfl, _, rfl, ?_⟩
                    first
                      | exact ⟨by rw [wdOf, pI_t h0]; rfl, rfl⟩
                      | exact ⟨by rw [wdOf, pI_f h0, pI_t h1]; rfl, rfl⟩
                      | exact ⟨by rw [wdOf, pI_f h0, pI_f h1, pI_t h2]; rfl, rfl⟩
                      | exact ⟨by rw [wdOf, pI_f h0, pI_f h1, pI_f h2, pI_t h3]; rfl, rfl⟩
                      | exact ⟨by rw [wdOf, pI_f h0, pI_f h1, pI_f h2, pI_f h3, pI_t h4]; rfl, rfl⟩
                      | exact ⟨by rw [wdOf, pI_f h0, pI_f h1, pI_f h2, pI_f h3, pI_f h4, pI_t h5]; rfl, rfl⟩
                      | exact ⟨by rw [wdOf, pI_f h0, pI_f h1, pI_f h2, pI_f h3, pI_f h4, pI_f h5, pI_t h6]; rfl, rfl⟩
                      | exact ⟨by rw [wdOf, pI_f h0, pI_f h1, pI_f h2, pI_f h3, pI_f h4, pI_f h5, pI_f h6, pI_t h7]; rfl, rfl⟩
                      | exact ⟨by rw [wdOf, pI_f h0, pI_f h1, pI_f h2, pI_f h3, pI_f h4, pI_f h5, pI_f h6, pI_f h7]; rfl, rfl⟩
                · have h4 : ¬ isW b s p 4 := fun z => b_145 (w_4.mp z).1
                  refine X_if_eq 148 161 dX7_wordFrom_148 (by decide) (fun _ => ?_) (fun c_0 => by exact absurd c_0 (by decide))
                  refine X_aload_n 161 1 dX7_wordFrom_161 rfl rfl ?_
                  refine X_iload_n 162 2 dX7_wordFrom_162 rfl rfl ?_
                  refine X_iconst 163 (4) dX7_wordFrom_163 (by decide) ?_
                  refine X_bipush 164 (102) dX7_wordFrom_164 (by decide) ?_
                  refine X_bipush 166 (97) dX7_wordFrom_166 (by decide) ?_
                  refine X_bipush 168 (105) dX7_wordFrom_168 (by decide) ?_
                  refine X_bipush 170 (108) dX7_wordFrom_170 (by decide) ?_
                  refine X_cVI 172 [.int _, .int _, .int _, .int _, .int _, .int _] (e_X7_isWord b L p w n s 4 102 97 105 108 _ hT hp (by omega) (by decide)) dX7_wordFrom_172 lm_RX7_232 6 ⟨wm_X7_isWord, by decide +kernel, rfl, rfl⟩ rfl ⟨Nat.le_of_ble_eq_true rfl, Nat.le_of_ble_eq_true rfl⟩ lyM vc7 rfl rfl (Nat.le_of_ble_eq_true rfl) ?_
                  rintro _ _ ⟨rfl, ⟨rfl, b_172⟩ | ⟨rfl, b_172⟩⟩
                  · have h5 := w_5.mpr b_172
                    refine X_if_eq 175 182 dX7_wordFrom_175 (by decide) (fun c_0 => by exact absurd c_0 (by decide)) (fun _ => ?_)
                    refine X_iconst 178 (5) dX7_wordFrom_178 (by decide) ?_
                    refine X_goto 179 227 dX7_wordFrom_179 (by decide) ?_
                    refine X_iret 227 dX7_wordFrom_227 rfl rfl ⟨_, rfl, _, rfl, ?_⟩
                    first
                      | exact ⟨by rw [wdOf, pI_t h0]; rfl, rfl⟩
                      | exact ⟨by rw [wdOf, pI_f h0, pI_t h1]; rfl, rfl⟩
                      | exact ⟨by rw [wdOf, pI_f h0, pI_f h1, pI_t h2]; rfl, rfl⟩
                      | exact ⟨by rw [wdOf, pI_f h0, pI_f h1, pI_f h2, pI_t h3]; rfl, rfl⟩
                      | exact ⟨by rw [wdOf, pI_f h0, pI_f h1, pI_f h2, pI_f h3, pI_t h4]; rfl, rfl⟩
                      | exact ⟨by rw [wdOf, pI_f h0, pI_f h1, pI_f h2, pI_f h3, pI_f h4, pI_t h5]; rfl, rfl⟩
                      | exact ⟨by rw [wdOf, pI_f h0, pI_f h1, pI_f h2, pI_f h3, pI_f h4, pI_f h5, pI_t h6]; rfl, rfl⟩
                      | exact ⟨by rw [wdOf, pI_f h0, pI_f h1, pI_f h2, pI_f h3, pI_f h4, pI_f h5, pI_f h6, pI_t h7]; rfl, rfl⟩
                      | exact ⟨by rw [wdOf, pI_f h0, pI_f h1, pI_f h2, pI_f h3, pI_f h4, pI_f h5, pI_f h6, pI_f h7]; rfl, rfl⟩
                  · have h5 : ¬ isW b s p 5 := fun z => b_172 (w_5.mp z)
                    refine X_if_eq 175 182 dX7_wordFrom_175 (by decide) (fun _ => ?_) (fun c_0 => by exact absurd c_0 (by decide))
                    refine X_aload_n 182 1 dX7_wordFrom_182 rfl rfl ?_
                    refine X_iload_n 183 2 dX7_wordFrom_183 rfl rfl ?_
                    refine X_iconst 184 (4) dX7_wordFrom_184 (by decide) ?_
                    refine X_bipush 185 (109) dX7_wordFrom_185 (by decide) ?_
                    refine X_bipush 187 (101) dX7_wordFrom_187 (by decide) ?_
                    refine X_bipush 189 (110) dX7_wordFrom_189 (by decide) ?_
                    refine X_bipush 191 (100) dX7_wordFrom_191 (by decide) ?_
                    refine X_cVI 193 [.int _, .int _, .int _, .int _, .int _, .int _] (e_X7_isWord b L p w n s 4 109 101 110 100 _ hT hp (by omega) (by decide)) dX7_wordFrom_193 lm_RX7_232 6 ⟨wm_X7_isWord, by decide +kernel, rfl, rfl⟩ rfl ⟨Nat.le_of_ble_eq_true rfl, Nat.le_of_ble_eq_true rfl⟩ lyM vc7 rfl rfl (Nat.le_of_ble_eq_true rfl) ?_
                    rintro _ _ ⟨rfl, ⟨rfl, b_193⟩ | ⟨rfl, b_193⟩⟩
                    · have h6 := w_6.mpr b_193
                      refine X_if_eq 196 204 dX7_wordFrom_196 (by decide) (fun c_0 => by exact absurd c_0 (by decide)) (fun _ => ?_)
                      refine X_bipush 199 (6) dX7_wordFrom_199 (by decide) ?_
                      refine X_goto 201 227 dX7_wordFrom_201 (by decide) ?_
                      refine X_iret 227 dX7_wordFrom_227 rfl rfl ⟨_, rfl, _, rfl, ?_⟩
                      first
                        | exact ⟨by rw [wdOf, pI_t h0]; rfl, rfl⟩
                        | exact ⟨by rw [wdOf, pI_f h0, pI_t h1]; rfl, rfl⟩
                        | exact ⟨by rw [wdOf, pI_f h0, pI_f h1, pI_t h2]; rfl, rfl⟩
                        | exact ⟨by rw [wdOf, pI_f h0, pI_f h1, pI_f h2, pI_t h3]; rfl, rfl⟩
                        | exact ⟨by rw [wdOf, pI_f h0, pI_f h1, pI_f h2, pI_f h3, pI_t h4]; rfl, rfl⟩
                        | exact ⟨by rw [wdOf, pI_f h0, pI_f h1, pI_f h2, pI_f h3, pI_f h4, pI_t h5]; rfl, rfl⟩
                        | exact ⟨by rw [wdOf, pI_f h0, pI_f h1, pI_f h2, pI_f h3, pI_f h4, pI_f h5, pI_t h6]; rfl, rfl⟩
                        | exact ⟨by rw [wdOf, pI_f h0, pI_f h1, pI_f h2, pI_f h3, pI_f h4, pI_f h5, pI_f h6, pI_t h7]; rfl, rfl⟩
                        | exact ⟨by rw [wdOf, pI_f h0, pI_f h1, pI_f h2, pI_f h3, pI_f h4, pI_f h5, pI_f h6, pI_f h7]; rfl, rfl⟩
                    · have h6 : ¬ isW b s p 6 := fun z => b_193 (w_6.mp z)
                      refine X_if_eq 196 204 dX7_wordFrom_196 (by decide) (fun _ => ?_) (fun c_0 => by exact absurd c_0 (by decide))
                      refine X_aload_n 204 1 dX7_wordFrom_204 rfl rfl ?_
                      refine X_iload_n 205 2 dX7_wordFrom_205 rfl rfl ?_
                      refine X_iconst 206 (4) dX7_wordFrom_206 (by decide) ?_
                      refine X_bipush 207 (98) dX7_wordFrom_207 (by decide) ?_
                      refine X_bipush 209 (117) dX7_wordFrom_209 (by decide) ?_
                      refine X_bipush 211 (114) dX7_wordFrom_211 (by decide) ?_
                      refine X_bipush 213 (110) dX7_wordFrom_213 (by decide) ?_
                      refine X_cVI 215 [.int _, .int _, .int _, .int _, .int _, .int _] (e_X7_isWord b L p w n s 4 98 117 114 110 _ hT hp (by omega) (by decide)) dX7_wordFrom_215 lm_RX7_232 6 ⟨wm_X7_isWord, by decide +kernel, rfl, rfl⟩ rfl ⟨Nat.le_of_ble_eq_true rfl, Nat.le_of_ble_eq_true rfl⟩ lyM vc7 rfl rfl (Nat.le_of_ble_eq_true rfl) ?_
                      rintro _ _ ⟨rfl, ⟨rfl, b_215⟩ | ⟨rfl, b_215⟩⟩
                      · have h7 := w_7.mpr b_215
                        refine X_if_eq 218 226 dX7_wordFrom_218 (by decide) (fun c_0 => by exact absurd c_0 (by decide)) (fun _ => ?_)
                        refine X_bipush 221 (7) dX7_wordFrom_221 (by decide) ?_
                        refine X_goto 223 227 dX7_wordFrom_223 (by decide) ?_
                        refine X_iret 227 dX7_wordFrom_227 rfl rfl ⟨_, rfl, _, rfl, ?_⟩
                        first
                          | exact ⟨by rw [wdOf, pI_t h0]; rfl, rfl⟩
                          | exact ⟨by rw [wdOf, pI_f h0, pI_t h1]; rfl, rfl⟩
                          | exact ⟨by rw [wdOf, pI_f h0, pI_f h1, pI_t h2]; rfl, rfl⟩
                          | exact ⟨by rw [wdOf, pI_f h0, pI_f h1, pI_f h2, pI_t h3]; rfl, rfl⟩
                          | exact ⟨by rw [wdOf, pI_f h0, pI_f h1, pI_f h2, pI_f h3, pI_t h4]; rfl, rfl⟩
                          | exact ⟨by rw [wdOf, pI_f h0, pI_f h1, pI_f h2, pI_f h3, pI_f h4, pI_t h5]; rfl, rfl⟩
                          | exact ⟨by rw [wdOf, pI_f h0, pI_f h1, pI_f h2, pI_f h3, pI_f h4, pI_f h5, pI_t h6]; rfl, rfl⟩
                          | exact ⟨by rw [wdOf, pI_f h0, pI_f h1, pI_f h2, pI_f h3, pI_f h4, pI_f h5, pI_f h6, pI_t h7]; rfl, rfl⟩
                          | exact ⟨by rw [wdOf, pI_f h0, pI_f h1, pI_f h2, pI_f h3, pI_f h4, pI_f h5, pI_f h6, pI_f h7]; rfl, rfl⟩
                      · have h7 : ¬ isW b s p 7 := fun z => b_215 (w_7.mp z)
                        refine X_if_eq 218 226 dX7_wordFrom_218 (by decide) (fun _ => ?_) (fun c_0 => by exact absurd c_0 (by decide))
                        refine X_iconst 226 (-1) dX7_wordFrom_226 (by decide) ?_
                        refine X_iret 227 dX7_wordFrom_227 rfl rfl ⟨_, rfl, _, rfl, ?_⟩
                        first
                          | exact ⟨by rw [wdOf, pI_t h0]; rfl, rfl⟩
                          | exact ⟨by rw [wdOf, pI_f h0, pI_t h1]; rfl, rfl⟩
                          | exact ⟨by rw [wdOf, pI_f h0, pI_f h1, pI_t h2]; rfl, rfl⟩
                          | exact ⟨by rw [wdOf, pI_f h0, pI_f h1, pI_f h2, pI_t h3]; rfl, rfl⟩
                          | exact ⟨by rw [wdOf, pI_f h0, pI_f h1, pI_f h2, pI_f h3, pI_t h4]; rfl, rfl⟩
                          | exact ⟨by rw [wdOf, pI_f h0, pI_f h1, pI_f h2, pI_f h3, pI_f h4, pI_t h5]; rfl, rfl⟩
                          | exact ⟨by rw [wdOf, pI_f h0, pI_f h1, pI_f h2, pI_f h3, pI_f h4, pI_f h5, pI_t h6]; rfl, rfl⟩
                          | exact ⟨by rw [wdOf, pI_f h0, pI_f h1, pI_f h2, pI_f h3, pI_f h4, pI_f h5, pI_f h6, pI_t h7]; rfl, rfl⟩
                          | exact ⟨by rw [wdOf, pI_f h0, pI_f h1, pI_f h2, pI_f h3, pI_f h4, pI_f h5, pI_f h6, pI_f h7]; rfl, rfl⟩
              · have h3 : isW b s p 3 := w_3.mpr ⟨b_105, c_121, by rw [show s + 5 = p - 1 by have := b_105.1; omega]; exact c_127⟩
                refine X_iconst 130 (3) dX7_wordFrom_130 (by decide) ?_
                refine X_goto 131 227 dX7_wordFrom_131 (by decide) ?_
                refine X_iret 227 dX7_wordFrom_227 rfl rfl ⟨_, rfl, _, rfl, ?_⟩
                first
                  | exact ⟨by rw [wdOf, pI_t h0]; rfl, rfl⟩
                  | exact ⟨by rw [wdOf, pI_f h0, pI_t h1]; rfl, rfl⟩
                  | exact ⟨by rw [wdOf, pI_f h0, pI_f h1, pI_t h2]; rfl, rfl⟩
                  | exact ⟨by rw [wdOf, pI_f h0, pI_f h1, pI_f h2, pI_t h3]; rfl, rfl⟩
                  | exact ⟨by rw [wdOf, pI_f h0, pI_f h1, pI_f h2, pI_f h3, pI_t h4]; rfl, rfl⟩
                  | exact ⟨by rw [wdOf, pI_f h0, pI_f h1, pI_f h2, pI_f h3, pI_f h4, pI_t h5]; rfl, rfl⟩
                  | exact ⟨by rw [wdOf, pI_f h0, pI_f h1, pI_f h2, pI_f h3, pI_f h4, pI_f h5, pI_t h6]; rfl, rfl⟩
                  | exact ⟨by rw [wdOf, pI_f h0, pI_f h1, pI_f h2, pI_f h3, pI_f h4, pI_f h5, pI_f h6, pI_t h7]; rfl, rfl⟩
                  | exact ⟨by rw [wdOf, pI_f h0, pI_f h1, pI_f h2, pI_f h3, pI_f h4, pI_f h5, pI_f h6, pI_f h7]; rfl, rfl⟩
          · have h3 : ¬ isW b s p 3 := fun z => b_105 (w_3.mp z).1
            refine X_if_eq 108 134 dX7_wordFrom_108 (by decide) (fun _ => ?_) (fun c_0 => by exact absurd c_0 (by decide))
            refine X_aload_n 134 1 dX7_wordFrom_134 rfl rfl ?_
            refine X_iload_n 135 2 dX7_wordFrom_135 rfl rfl ?_
            refine X_iconst 136 (5) dX7_wordFrom_136 (by decide) ?_
            refine X_bipush 137 (115) dX7_wordFrom_137 (by decide) ?_
            refine X_bipush 139 (104) dX7_wordFrom_139 (by decide) ?_
            refine X_bipush 141 (105) dX7_wordFrom_141 (by decide) ?_
            refine X_bipush 143 (102) dX7_wordFrom_143 (by decide) ?_
            refine X_cVI 145 [.int _, .int _, .int _, .int _, .int _, .int _] (e_X7_isWord b L p w n s 5 115 104 105 102 _ hT hp (by omega) (by decide)) dX7_wordFrom_145 lm_RX7_232 6 ⟨wm_X7_isWord, by decide +kernel, rfl, rfl⟩ rfl ⟨Nat.le_of_ble_eq_true rfl, Nat.le_of_ble_eq_true rfl⟩ lyM vc7 rfl rfl (Nat.le_of_ble_eq_true rfl) ?_
            rintro _ _ ⟨rfl, ⟨rfl, b_145⟩ | ⟨rfl, b_145⟩⟩
            · refine X_if_eq 148 161 dX7_wordFrom_148 (by decide) (fun c_0 => by exact absurd c_0 (by decide)) (fun _ => ?_)
              refine X_iload_n 151 0 dX7_wordFrom_151 rfl rfl ?_
              refine X_bipush 152 (116) dX7_wordFrom_152 (by decide) ?_
              refine X_icmp_ne 154 161 dX7_wordFrom_154 (by decide) (fun c_154 => ?_) (fun c_154 => ?_)
              · have h4 : ¬ isW b s p 4 := fun z => c_154 (by rw [show p - 1 = s + 4 by have := (w_4.mp z).1.1; omega]; exact (w_4.mp z).2)
                refine X_aload_n 161 1 dX7_wordFrom_161 rfl rfl ?_
                refine X_iload_n 162 2 dX7_wordFrom_162 rfl rfl ?_
                refine X_iconst 163 (4) dX7_wordFrom_163 (by decide) ?_
                refine X_bipush 164 (102) dX7_wordFrom_164 (by decide) ?_
                refine X_bipush 166 (97) dX7_wordFrom_166 (by decide) ?_
                refine X_bipush 168 (105) dX7_wordFrom_168 (by decide) ?_
                refine X_bipush 170 (108) dX7_wordFrom_170 (by decide) ?_
                refine X_cVI 172 [.int _, .int _, .int _, .int _, .int _, .int _] (e_X7_isWord b L p w n s 4 102 97 105 108 _ hT hp (by omega) (by decide)) dX7_wordFrom_172 lm_RX7_232 6 ⟨wm_X7_isWord, by decide +kernel, rfl, rfl⟩ rfl ⟨Nat.le_of_ble_eq_true rfl, Nat.le_of_ble_eq_true rfl⟩ lyM vc7 rfl rfl (Nat.le_of_ble_eq_true rfl) ?_
                rintro _ _ ⟨rfl, ⟨rfl, b_172⟩ | ⟨rfl, b_172⟩⟩
                · have h5 := w_5.mpr b_172
                  refine X_if_eq 175 182 dX7_wordFrom_175 (by decide) (fun c_0 => by exact absurd c_0 (by decide)) (fun _ => ?_)
                  refine X_iconst 178 (5) dX7_wordFrom_178 (by decide) ?_
                  refine X_goto 179 227 dX7_wordFrom_179 (by decide) ?_
                  refine X_iret 227 dX7_wordFrom_227 rfl rfl ⟨_, rfl, _, rfl, ?_⟩
                  first
                    | exact ⟨by rw [wdOf, pI_t h0]; rfl, rfl⟩
                    | exact ⟨by rw [wdOf, pI_f h0, pI_t h1]; rfl, rfl⟩
                    | exact ⟨by rw [wdOf, pI_f h0, pI_f h1, pI_t h2]; rfl, rfl⟩
                    | exact ⟨by rw [wdOf, pI_f h0, pI_f h1, pI_f h2, pI_t h3]; rfl, rfl⟩
                    | exact ⟨by rw [wdOf, pI_f h0, pI_f h1, pI_f h2, pI_f h3, pI_t h4]; rfl, rfl⟩
                    | exact ⟨by rw [wdOf, pI_f h0, pI_f h1, pI_f h2, pI_f h3, pI_f h4, pI_t h5]; rfl, rfl⟩
                    | exact ⟨by rw [wdOf, pI_f h0, pI_f h1, pI_f h2, pI_f h3, pI_f h4, pI_f h5, pI_t h6]; rfl, rfl⟩
                    | exact ⟨by rw [wdOf, pI_f h0, pI_f h1, pI_f h2, pI_f h3, pI_f h4, pI_f h5, pI_f h6, pI_t h7]; rfl, rfl⟩
                    | exact ⟨by rw [wdOf, pI_f h0, pI_f h1, pI_f h2, pI_f h3, pI_f h4, pI_f h5, pI_f h6, pI_f h7]; rfl, rfl⟩
                · have h5 : ¬ isW b s p 5 := fun z => b_172 (w_5.mp z)
                  refine X_if_eq 175 182 dX7_wordFrom_175 (by decide) (fun _ => ?_) (fun c_0 => by exact absurd c_0 (by decide))
                  refine X_aload_n 182 1 dX7_wordFrom_182 rfl rfl ?_
                  refine X_iload_n 183 2 dX7_wordFrom_183 rfl rfl ?_
                  refine X_iconst 184 (4) dX7_wordFrom_184 (by decide) ?_
                  refine X_bipush 185 (109) dX7_wordFrom_185 (by decide) ?_
                  refine X_bipush 187 (101) dX7_wordFrom_187 (by decide) ?_
                  refine X_bipush 189 (110) dX7_wordFrom_189 (by decide) ?_
                  refine X_bipush 191 (100) dX7_wordFrom_191 (by decide) ?_
                  refine X_cVI 193 [.int _, .int _, .int _, .int _, .int _, .int _] (e_X7_isWord b L p w n s 4 109 101 110 100 _ hT hp (by omega) (by decide)) dX7_wordFrom_193 lm_RX7_232 6 ⟨wm_X7_isWord, by decide +kernel, rfl, rfl⟩ rfl ⟨Nat.le_of_ble_eq_true rfl, Nat.le_of_ble_eq_true rfl⟩ lyM vc7 rfl rfl (Nat.le_of_ble_eq_true rfl) ?_
                  rintro _ _ ⟨rfl, ⟨rfl, b_193⟩ | ⟨rfl, b_193⟩⟩
                  · have h6 := w_6.mpr b_193
                    refine X_if_eq 196 204 dX7_wordFrom_196 (by decide) (fun c_0 => by exact absurd c_0 (by decide)) (fun _ => ?_)
                    refine X_bipush 199 (6) dX7_wordFrom_199 (by decide) ?_
                    refine X_goto 201 227 dX7_wordFrom_201 (by decide) ?_
                    refine X_iret 227 dX7_wordFrom_227 rfl rfl ⟨_, rfl, _, rfl, ?_⟩
                    first
                      | exact ⟨by rw [wdOf, pI_t h0]; rfl, rfl⟩
                      | exact ⟨by rw [wdOf, pI_f h0, pI_t h1]; rfl, rfl⟩
                      | exact ⟨by rw [wdOf, pI_f h0, pI_f h1, pI_t h2]; rfl, rfl⟩
                      | exact ⟨by rw [wdOf, pI_f h0, pI_f h1, pI_f h2, pI_t h3]; rfl, rfl⟩
                      | exact ⟨by rw [wdOf, pI_f h0, pI_f h1, pI_f h2, pI_f h3, pI_t h4]; rfl, rfl⟩
                      | exact ⟨by rw [wdOf, pI_f h0, pI_f h1, pI_f h2, pI_f h3, pI_f h4, pI_t h5]; rfl, rfl⟩
                      | exact ⟨by rw [wdOf, pI_f h0, pI_f h1, pI_f h2, pI_f h3, pI_f h4, pI_f h5, pI_t h6]; rfl, rfl⟩
                      | exact ⟨by rw [wdOf, pI_f h0, pI_f h1, pI_f h2, pI_f h3, pI_f h4, pI_f h5, pI_f h6, pI_t h7]; rfl, rfl⟩
                      | exact ⟨by rw [wdOf, pI_f h0, pI_f h1, pI_f h2, pI_f h3, pI_f h4, pI_f h5, pI_f h6, pI_f h7]; rfl, rfl⟩
                  · have h6 : ¬ isW b s p 6 := fun z => b_193 (w_6.mp z)
                    refine X_if_eq 196 204 dX7_wordFrom_196 (by decide) (fun _ => ?_) (fun c_0 => by exact absurd c_0 (by decide))
                    refine X_aload_n 204 1 dX7_wordFrom_204 rfl rfl ?_
                    refine X_iload_n 205 2 dX7_wordFrom_205 rfl rfl ?_
                    refine X_iconst 206 (4) dX7_wordFrom_206 (by decide) ?_
                    refine X_bipush 207 (98) dX7_wordFrom_207 (by decide) ?_
                    refine X_bipush 209 (117) dX7_wordFrom_209 (by decide) ?_
                    refine X_bipush 211 (114) dX7_wordFrom_211 (by decide) ?_
                    refine X_bipush 213 (110) dX7_wordFrom_213 (by decide) ?_
                    refine X_cVI 215 [.int _, .int _, .int _, .int _, .int _, .int _] (e_X7_isWord b L p w n s 4 98 117 114 110 _ hT hp (by omega) (by decide)) dX7_wordFrom_215 lm_RX7_232 6 ⟨wm_X7_isWord, by decide +kernel, rfl, rfl⟩ rfl ⟨Nat.le_of_ble_eq_true rfl, Nat.le_of_ble_eq_true rfl⟩ lyM vc7 rfl rfl (Nat.le_of_ble_eq_true rfl) ?_
                    rintro _ _ ⟨rfl, ⟨rfl, b_215⟩ | ⟨rfl, b_215⟩⟩
                    · have h7 := w_7.mpr b_215
                      refine X_if_eq 218 226 dX7_wordFrom_218 (by decide) (fun c_0 => by exact absurd c_0 (by decide)) (fun _ => ?_)
                      refine X_bipush 221 (7) dX7_wordFrom_221 (by decide) ?_
                      refine X_goto 223 227 dX7_wordFrom_223 (by decide) ?_
                      refine X_iret 227 dX7_wordFrom_227 rfl rfl ⟨_, rfl, _, rfl, ?_⟩
                      first
                        | exact ⟨by rw [wdOf, pI_t h0]; rfl, rfl⟩
                        | exact ⟨by rw [wdOf, pI_f h0, pI_t h1]; rfl, rfl⟩
                        | exact ⟨by rw [wdOf, pI_f h0, pI_f h1, pI_t h2]; rfl, rfl⟩
                        | exact ⟨by rw [wdOf, pI_f h0, pI_f h1, pI_f h2, pI_t h3]; rfl, rfl⟩
                        | exact ⟨by rw [wdOf, pI_f h0, pI_f h1, pI_f h2, pI_f h3, pI_t h4]; rfl, rfl⟩
                        | exact ⟨by rw [wdOf, pI_f h0, pI_f h1, pI_f h2, pI_f h3, pI_f h4, pI_t h5]; rfl, rfl⟩
                        | exact ⟨by rw [wdOf, pI_f h0, pI_f h1, pI_f h2, pI_f h3, pI_f h4, pI_f h5, pI_t h6]; rfl, rfl⟩
                        | exact ⟨by rw [wdOf, pI_f h0, pI_f h1, pI_f h2, pI_f h3, pI_f h4, pI_f h5, pI_f h6, pI_t h7]; rfl, rfl⟩
                        | exact ⟨by rw [wdOf, pI_f h0, pI_f h1, pI_f h2, pI_f h3, pI_f h4, pI_f h5, pI_f h6, pI_f h7]; rfl, rfl⟩
                    · have h7 : ¬ isW b s p 7 := fun z => b_215 (w_7.mp z)
                      refine X_if_eq 218 226 dX7_wordFrom_218 (by decide) (fun _ => ?_) (fun c_0 => by exact absurd c_0 (by decide))
                      refine X_iconst 226 (-1) dX7_wordFrom_226 (by decide) ?_
                      refine X_iret 227 dX7_wordFrom_227 rfl rfl ⟨_, rfl, _, rfl, ?_⟩
                      first
                        | exact ⟨by rw [wdOf, pI_t h0]; rfl, rfl⟩
                        | exact ⟨by rw [wdOf, pI_f h0, pI_t h1]; rfl, rfl⟩
                        | exact ⟨by rw [wdOf, pI_f h0, pI_f h1, pI_t h2]; rfl, rfl⟩
                        | exact ⟨by rw [wdOf, pI_f h0, pI_f h1, pI_f h2, pI_t h3]; rfl, rfl⟩
                        | exact ⟨by rw [wdOf, pI_f h0, pI_f h1, pI_f h2, pI_f h3, pI_t h4]; rfl, rfl⟩
                        | exact ⟨by rw [wdOf, pI_f h0, pI_f h1, pI_f h2, pI_f h3, pI_f h4, pI_t h5]; rfl, rfl⟩
                        | exact ⟨by rw [wdOf, pI_f h0, pI_f h1, pI_f h2, pI_f h3, pI_f h4, pI_f h5, pI_t h6]; rfl, rfl⟩
                        | exact ⟨by rw [wdOf, pI_f h0, pI_f h1, pI_f h2, pI_f h3, pI_f h4, pI_f h5, pI_f h6, pI_t h7]; rfl, rfl⟩
                        | exact ⟨by rw [wdOf, pI_f h0, pI_f h1, pI_f h2, pI_f h3, pI_f h4, pI_f h5, pI_f h6, pI_f h7]; rfl, rfl⟩
              · have h4 : isW b s p 4 := w_4.mpr ⟨b_145, by rw [show s + 4 = p - 1 by have := b_145.1; omega]; exact c_154⟩
                refine X_iconst 157 (4) dX7_wordFrom_157 (by decide) ?_
                refine X_goto 158 227 dX7_wordFrom_158 (by decide) ?_
                refine X_iret 227 dX7_wordFrom_227 rfl rfl ⟨_, rfl, _, rfl, ?_⟩
                first
                  | exact ⟨by rw [wdOf, pI_t h0]; rfl, rfl⟩
                  | exact ⟨by rw [wdOf, pI_f h0, pI_t h1]; rfl, rfl⟩
                  | exact ⟨by rw [wdOf, pI_f h0, pI_f h1, pI_t h2]; rfl, rfl⟩
                  | exact ⟨by rw [wdOf, pI_f h0, pI_f h1, pI_f h2, pI_t h3]; rfl, rfl⟩
                  | exact ⟨by rw [wdOf, pI_f h0, pI_f h1, pI_f h2, pI_f h3, pI_t h4]; rfl, rfl⟩
                  | exact ⟨by rw [wdOf, pI_f h0, pI_f h1, pI_f h2, pI_f h3, pI_f h4, pI_t h5]; rfl, rfl⟩
                  | exact ⟨by rw [wdOf, pI_f h0, pI_f h1, pI_f h2, pI_f h3, pI_f h4, pI_f h5, pI_t h6]; rfl, rfl⟩
                  | exact ⟨by rw [wdOf, pI_f h0, pI_f h1, pI_f h2, pI_f h3, pI_f h4, pI_f h5, pI_f h6, pI_t h7]; rfl, rfl⟩
                  | exact ⟨by rw [wdOf, pI_f h0, pI_f h1, pI_f h2, pI_f h3, pI_f h4, pI_f h5, pI_f h6, pI_f h7]; rfl, rfl⟩
            · have h4 : ¬ isW b s p 4 := fun z => b_145 (w_4.mp z).1
              refine X_if_eq 148 161 dX7_wordFrom_148 (by decide) (fun _ => ?_) (fun c_0 => by exact absurd c_0 (by decide))
              refine X_aload_n 161 1 dX7_wordFrom_161 rfl rfl ?_
              refine X_iload_n 162 2 dX7_wordFrom_162 rfl rfl ?_
              refine X_iconst 163 (4) dX7_wordFrom_163 (by decide) ?_
              refine X_bipush 164 (102) dX7_wordFrom_164 (by decide) ?_
              refine X_bipush 166 (97) dX7_wordFrom_166 (by decide) ?_
              refine X_bipush 168 (105) dX7_wordFrom_168 (by decide) ?_
              refine X_bipush 170 (108) dX7_wordFrom_170 (by decide) ?_
              refine X_cVI 172 [.int _, .int _, .int _, .int _, .int _, .int _] (e_X7_isWord b L p w n s 4 102 97 105 108 _ hT hp (by omega) (by decide)) dX7_wordFrom_172 lm_RX7_232 6 ⟨wm_X7_isWord, by decide +kernel, rfl, rfl⟩ rfl ⟨Nat.le_of_ble_eq_true rfl, Nat.le_of_ble_eq_true rfl⟩ lyM vc7 rfl rfl (Nat.le_of_ble_eq_true rfl) ?_
              rintro _ _ ⟨rfl, ⟨rfl, b_172⟩ | ⟨rfl, b_172⟩⟩
              · have h5 := w_5.mpr b_172
                refine X_if_eq 175 182 dX7_wordFrom_175 (by decide) (fun c_0 => by exact absurd c_0 (by decide)) (fun _ => ?_)
                refine X_iconst 178 (5) dX7_wordFrom_178 (by decide) ?_
                refine X_goto 179 227 dX7_wordFrom_179 (by decide) ?_
                refine X_iret 227 dX7_wordFrom_227 rfl rfl ⟨_, rfl, _, rfl, ?_⟩
                first
                  | exact ⟨by rw [wdOf, pI_t h0]; rfl, rfl⟩
                  | exact ⟨by rw [wdOf, pI_f h0, pI_t h1]; rfl, rfl⟩
                  | exact ⟨by rw [wdOf, pI_f h0, pI_f h1, pI_t h2]; rfl, rfl⟩
                  | exact ⟨by rw [wdOf, pI_f h0, pI_f h1, pI_f h2, pI_t h3]; rfl, rfl⟩
                  | exact ⟨by rw [wdOf, pI_f h0, pI_f h1, pI_f h2, pI_f h3, pI_t h4]; rfl, rfl⟩
                  | exact ⟨by rw [wdOf, pI_f h0, pI_f h1, pI_f h2, pI_f h3, pI_f h4, pI_t h5]; rfl, rfl⟩
                  | exact ⟨by rw [wdOf, pI_f h0, pI_f h1, pI_f h2, pI_f h3, pI_f h4, pI_f h5, pI_t h6]; rfl, rfl⟩
                  | exact ⟨by rw [wdOf, pI_f h0, pI_f h1, pI_f h2, pI_f h3, pI_f h4, pI_f h5, pI_f h6, pI_t h7]; rfl, rfl⟩
                  | exact ⟨by rw [wdOf, pI_f h0, pI_f h1, pI_f h2, pI_f h3, pI_f h4, pI_f h5, pI_f h6, pI_f h7]; rfl, rfl⟩
              · have h5 : ¬ isW b s p 5 := fun z => b_172 (w_5.mp z)
                refine X_if_eq 175 182 dX7_wordFrom_175 (by decide) (fun _ => ?_) (fun c_0 => by exact absurd c_0 (by decide))
                refine X_aload_n 182 1 dX7_wordFrom_182 rfl rfl ?_
                refine X_iload_n 183 2 dX7_wordFrom_183 rfl rfl ?_
                refine X_iconst 184 (4) dX7_wordFrom_184 (by decide) ?_
                refine X_bipush 185 (109) dX7_wordFrom_185 (by decide) ?_
                refine X_bipush 187 (101) dX7_wordFrom_187 (by decide) ?_
                refine X_bipush 189 (110) dX7_wordFrom_189 (by decide) ?_
                refine X_bipush 191 (100) dX7_wordFrom_191 (by decide) ?_
                refine X_cVI 193 [.int _, .int _, .int _, .int _, .int _, .int _] (e_X7_isWord b L p w n s 4 109 101 110 100 _ hT hp (by omega) (by decide)) dX7_wordFrom_193 lm_RX7_232 6 ⟨wm_X7_isWord, by decide +kernel, rfl, rfl⟩ rfl ⟨Nat.le_of_ble_eq_true rfl, Nat.le_of_ble_eq_true rfl⟩ lyM vc7 rfl rfl (Nat.le_of_ble_eq_true rfl) ?_
                rintro _ _ ⟨rfl, ⟨rfl, b_193⟩ | ⟨rfl, b_193⟩⟩
                · have h6 := w_6.mpr b_193
                  refine X_if_eq 196 204 dX7_wordFrom_196 (by decide) (fun c_0 => by exact absurd c_0 (by decide)) (fun _ => ?_)
                  refine X_bipush 199 (6) dX7_wordFrom_199 (by decide) ?_
                  refine X_goto 201 227 dX7_wordFrom_201 (by decide) ?_
                  refine X_iret 227 dX7_wordFrom_227 rfl rfl ⟨_, rfl, _, rfl, ?_⟩
                  first
                    | exact ⟨by rw [wdOf, pI_t h0]; rfl, rfl⟩
                    | exact ⟨by rw [wdOf, pI_f h0, pI_t h1]; rfl, rfl⟩
                    | exact ⟨by rw [wdOf, pI_f h0, pI_f h1, pI_t h2]; rfl, rfl⟩
                    | exact ⟨by rw [wdOf, pI_f h0, pI_f h1, pI_f h2, pI_t h3]; rfl, rfl⟩
                    | exact ⟨by rw [wdOf, pI_f h0, pI_f h1, pI_f h2, pI_f h3, pI_t h4]; rfl, rfl⟩
                    | exact ⟨by rw [wdOf, pI_f h0, pI_f h1, pI_f h2, pI_f h3, pI_f h4, pI_t h5]; rfl, rfl⟩
                    | exact ⟨by rw [wdOf, pI_f h0, pI_f h1, pI_f h2, pI_f h3, pI_f h4, pI_f h5, pI_t h6]; rfl, rfl⟩
                    | exact ⟨by rw [wdOf, pI_f h0, pI_f h1, pI_f h2, pI_f h3, pI_f h4, pI_f h5, pI_f h6, pI_t h7]; rfl, rfl⟩
                    | exact ⟨by rw [wdOf, pI_f h0, pI_f h1, pI_f h2, pI_f h3, pI_f h4, pI_f h5, pI_f h6, pI_f h7]; rfl, rfl⟩
                · have h6 : ¬ isW b s p 6 := fun z => b_193 (w_6.mp z)
                  refine X_if_eq 196 204 dX7_wordFrom_196 (by decide) (fun _ => ?_) (fun c_0 => by exact absurd c_0 (by decide))
                  refine X_aload_n 204 1 dX7_wordFrom_204 rfl rfl ?_
                  refine X_iload_n 205 2 dX7_wordFrom_205 rfl rfl ?_
                  refine X_iconst 206 (4) dX7_wordFrom_206 (by decide) ?_
                  refine X_bipush 207 (98) dX7_wordFrom_207 (by decide) ?_
                  refine X_bipush 209 (117) dX7_wordFrom_209 (by decide) ?_
                  refine X_bipush 211 (114) dX7_wordFrom_211 (by decide) ?_
                  refine X_bipush 213 (110) dX7_wordFrom_213 (by decide) ?_
                  refine X_cVI 215 [.int _, .int _, .int _, .int _, .int _, .int _] (e_X7_isWord b L p w n s 4 98 117 114 110 _ hT hp (by omega) (by decide)) dX7_wordFrom_215 lm_RX7_232 6 ⟨wm_X7_isWord, by decide +kernel, rfl, rfl⟩ rfl ⟨Nat.le_of_ble_eq_true rfl, Nat.le_of_ble_eq_true rfl⟩ lyM vc7 rfl rfl (Nat.le_of_ble_eq_true rfl) ?_
                  rintro _ _ ⟨rfl, ⟨rfl, b_215⟩ | ⟨rfl, b_215⟩⟩
                  · have h7 := w_7.mpr b_215
                    refine X_if_eq 218 226 dX7_wordFrom_218 (by decide) (fun c_0 => by exact absurd c_0 (by decide)) (fun _ => ?_)
                    refine X_bipush 221 (7) dX7_wordFrom_221 (by decide) ?_
                    refine X_goto 223 227 dX7_wordFrom_223 (by decide) ?_
                    refine X_iret 227 dX7_wordFrom_227 rfl rfl ⟨_, rfl, _, rfl, ?_⟩
                    first
                      | exact ⟨by rw [wdOf, pI_t h0]; rfl, rfl⟩
                      | exact ⟨by rw [wdOf, pI_f h0, pI_t h1]; rfl, rfl⟩
                      | exact ⟨by rw [wdOf, pI_f h0, pI_f h1, pI_t h2]; rfl, rfl⟩
                      | exact ⟨by rw [wdOf, pI_f h0, pI_f h1, pI_f h2, pI_t h3]; rfl, rfl⟩
                      | exact ⟨by rw [wdOf, pI_f h0, pI_f h1, pI_f h2, pI_f h3, pI_t h4]; rfl, rfl⟩
                      | exact ⟨by rw [wdOf, pI_f h0, pI_f h1, pI_f h2, pI_f h3, pI_f h4, pI_t h5]; rfl, rfl⟩
                      | exact ⟨by rw [wdOf, pI_f h0, pI_f h1, pI_f h2, pI_f h3, pI_f h4, pI_f h5, pI_t h6]; rfl, rfl⟩
                      | exact ⟨by rw [wdOf, pI_f h0, pI_f h1, pI_f h2, pI_f h3, pI_f h4, pI_f h5, pI_f h6, pI_t h7]; rfl, rfl⟩
                      | exact ⟨by rw [wdOf, pI_f h0, pI_f h1, pI_f h2, pI_f h3, pI_f h4, pI_f h5, pI_f h6, pI_f h7]; rfl, rfl⟩
                  · have h7 : ¬ isW b s p 7 := fun z => b_215 (w_7.mp z)
                    refine X_if_eq 218 226 dX7_wordFrom_218 (by decide) (fun _ => ?_) (fun c_0 => by exact absurd c_0 (by decide))
                    refine X_iconst 226 (-1) dX7_wordFrom_226 (by decide) ?_
                    refine X_iret 227 dX7_wordFrom_227 rfl rfl ⟨_, rfl, _, rfl, ?_⟩
                    first
                      | exact ⟨by rw [wdOf, pI_t h0]; rfl, rfl⟩
                      | exact ⟨by rw [wdOf, pI_f h0, pI_t h1]; rfl, rfl⟩
                      | exact ⟨by rw [wdOf, pI_f h0, pI_f h1, pI_t h2]; rfl, rfl⟩
                      | exact ⟨by rw [wdOf, pI_f h0, pI_f h1, pI_f h2, pI_t h3]; rfl, rfl⟩
                      | exact ⟨by rw [wdOf, pI_f h0, pI_f h1, pI_f h2, pI_f h3, pI_t h4]; rfl, rfl⟩
                      | exact ⟨by rw [wdOf, pI_f h0, pI_f h1, pI_f h2, pI_f h3, pI_f h4, pI_t h5]; rfl, rfl⟩
                      | exact ⟨by rw [wdOf, pI_f h0, pI_f h1, pI_f h2, pI_f h3, pI_f h4, pI_f h5, pI_t h6]; rfl, rfl⟩
                      | exact ⟨by rw [wdOf, pI_f h0, pI_f h1, pI_f h2, pI_f h3, pI_f h4, pI_f h5, pI_f h6, pI_t h7]; rfl, rfl⟩
                      | exact ⟨by rw [wdOf, pI_f h0, pI_f h1, pI_f h2, pI_f h3, pI_f h4, pI_f h5, pI_f h6, pI_f h7]; rfl, rfl⟩
  · have hs4 : p - s < 4 := c_lt (k := 4) rfl (by decide) (by omega) c_7
    refine X_iconst 10 (-1) dX7_wordFrom_10 (by decide) ?_
    refine X_iret 11 dX7_wordFrom_11 rfl rfl ⟨_, rfl, _, rfl, ?_⟩
    exact ⟨by rw [wd_short (by omega)]; rfl, rfl⟩
