theorem wh_tl {S : Mm} {lc c r w : Nat} {x y : Int32} (h : w < 14) : whV S lc c r x w = whV S lc c r y w := by
  rcases (show w = 0 ∨ w = 1 ∨ w = 2 ∨ w = 3 ∨ w = 4 ∨ w = 5 ∨ w = 6 ∨ w = 7 ∨ w = 8 ∨ w = 9 ∨ w = 10 ∨ w = 11 ∨ w = 12 ∨ w = 13 by omega) with rfl | rfl | rfl | rfl | rfl | rfl | rfl | rfl | rfl | rfl | rfl | rfl | rfl | rfl <;> rfl
theorem nI_nn {n : Nat} (h : n < 2147483648) : ¬ nI n < 0 := Int32.not_lt.mpr (nI_pos' h)
theorem lg_cmp_rf (x : Int64) : lg_cmp x x = 0 := by simp [lg_cmp]
set_option maxHeartbeats 4000000 in
set_option maxRecDepth 100000 in
theorem w_placesOf {V S : Mm} {c r lc cn L : Nat} {T : Nat → Mm} {b : Nat → Int32} (hS : ST V S c r lc T cn L b) (a : Int64) : EvW mL_placesOf none [.ref 109, .long a] V (qL (fun v V2 => dgPs S lc c a (c * r) = v ∧ ST V2 S c r lc T cn L b)) := by
  refine EvW_of (by decide +kernel) rfl (fun _ => rfl) (fun _ => Nat.le_of_ble_eq_true rfl) (ls := [(0, .ref 109), (1, .long a)]) (fun f => ?_)
  have hd := hS.dim
  have hDM := hS.dm
  have hcr := hS.cr
  have L5 : ∀ (kf k : Nat) (V : Mm), k ≤ c * r → c * r < k + kf → ST V S c r lc T cn L b → XL (.inl (qL (fun v V2 => dgPs S lc c a (c * r) = v ∧ ST V2 S c r lc T cn L b))) none 1 mL_placesOf [] 0 0 5 [(5, .int (nI k)), (3, .long (dgPs S lc c a k)), (0, .ref 109), (1, .long a)] [] (V, f) := by
    intro kf
    induction kf with
    | zero => intro k V h1 h2; omega
    | succ kf ih =>
      intro k V h1 h2 hS
      refine L_iload 5 0 dL_placesOf_5 rfl ?_
      refine L_aload_n 7 2 dL_placesOf_7 rfl rfl ?_
      refine L_iconst 8 (nI 0) dL_placesOf_8 (by decide) ?_
      refine L_cW 9 [.ref 109, .int (nI 0)] (Nat.le_refl 1) (w_all (nI 0) _ _ (o_whole hS (by decide))) dL_placesOf_9 lk_92 hc_all hs_all hp_all rfl ⟨rfl, rfl⟩ ⟨Nat.le_of_ble_eq_true rfl, Nat.le_of_ble_eq_true rfl⟩ ⟨Nat.le_of_ble_eq_true rfl, Nat.le_of_ble_eq_true rfl⟩ rfl (Nat.le_of_ble_eq_true rfl) ?_
      rintro _ V ⟨rfl, hS⟩
      rw [wh0 hDM]
      refine L_aload_n 12 2 dL_placesOf_12 rfl rfl ?_
      refine L_iconst 13 (nI 1) dL_placesOf_13 (by decide) ?_
      refine L_cW 14 [.ref 109, .int (nI 1)] (Nat.le_refl 1) (w_all (nI 1) _ _ (o_whole hS (by decide))) dL_placesOf_14 lk_92 hc_all hs_all hp_all rfl ⟨rfl, rfl⟩ ⟨Nat.le_of_ble_eq_true rfl, Nat.le_of_ble_eq_true rfl⟩ ⟨Nat.le_of_ble_eq_true rfl, Nat.le_of_ble_eq_true rfl⟩ rfl (Nat.le_of_ble_eq_true rfl) ?_
      rintro _ V ⟨rfl, hS⟩
      rw [wh1 hDM]
      refine L_imul 17 dL_placesOf_17 ?_
      rw [pk_mul]
      refine L_icmp_ge 18 118 dL_placesOf_18 (by decide) (fun c_18 => ?_) (fun c_18 => ?_)
      · refine L_lload_n 118 1 dL_placesOf_118 rfl rfl ?_
        have e : k = c * r := by have := (nI_leI (by omega) (by omega)).mp c_18; omega
        subst e
        exact L_lret 119 dL_placesOf_119 rfl ⟨Nat.zero_le _, Nat.zero_le _⟩ ⟨_, rfl, rfl, hS⟩
      have hk : k < c * r := (nI_ltI (by omega) (by omega)).mp (Int32.not_le.mp c_18)
      obtain ⟨hx, hy, -⟩ := ix_of hk
      have L68 : ∀ (kg n : Nat) (V : Mm), n ≤ lc → lc < n + kg → ST V S c r lc T cn L b → XL (.inl (qL (fun v V2 => dgPs S lc c a (c * r) = v ∧ ST V2 S c r lc T cn L b))) none 1 mL_placesOf [] 0 0 68 [(6, .int (nI n)), (5, .int (nI k)), (3, .long (hF (hF (dgPs S lc c a k) (plV S lc c (k % c) (k / c)) 6) (ltV S lc c (k % c) (k / c)) n)), (0, .ref 109), (1, .long a)] [] (V, f) := by
        intro kg
        induction kg with
        | zero => intro n V h1 h2; omega
        | succ kg ig =>
          intro n V h1 h2 hS
          refine L_iload 68 0 dL_placesOf_68 rfl ?_
          refine L_aload_n 70 3 dL_placesOf_70 rfl rfl ?_
          refine L_iconst 71 (nI 4) dL_placesOf_71 (by decide) ?_
          refine L_cW 72 [.ref 109, .int (nI 4)] (Nat.le_refl 1) (w_all (nI 4) _ _ (o_whole hS (by decide))) dL_placesOf_72 lk_92 hc_all hs_all hp_all rfl ⟨rfl, rfl⟩ ⟨Nat.le_of_ble_eq_true rfl, Nat.le_of_ble_eq_true rfl⟩ ⟨Nat.le_of_ble_eq_true rfl, Nat.le_of_ble_eq_true rfl⟩ rfl (Nat.le_of_ble_eq_true rfl) ?_
          rintro _ V ⟨rfl, hS⟩
          rw [wh4 hDM]
          refine L_icmp_ge 75 112 dL_placesOf_75 (by decide) (fun c_75 => ?_) (fun c_75 => ?_)
          · have e : n = lc := by have := (nI_leI (by omega) (by omega)).mp c_75; omega
            subst e
            refine L_iinc 112 1 (nI (k + 1)) [(5, .int _), (6, .int _), (3, .long _), (0, .ref _), (1, .long _)] dL_placesOf_112 rfl (nI_add k 1) (by decide) rfl ?_
            refine L_goto 115 5 dL_placesOf_115 (by decide) ?_
            refine L_sub [0, 2, 3, 4] [(5, .int _), (3, .long _), (0, .ref _), (1, .long _)] rfl ?_
            exact ih (k + 1) V (by omega) (by omega) hS
          have hn : n < lc := (nI_ltI (by omega) (by omega)).mp (Int32.not_le.mp c_75)
          refine L_lload_n 78 2 dL_placesOf_78 rfl rfl ?_
          refine L_aload_n 79 3 dL_placesOf_79 rfl rfl ?_
          refine L_iload 80 0 dL_placesOf_80 rfl ?_
          refine L_iload 82 1 dL_placesOf_82 rfl ?_
          refine L_aload_n 84 3 dL_placesOf_84 rfl rfl ?_
          refine L_iconst 85 (nI 0) dL_placesOf_85 (by decide) ?_
          refine L_cW 86 [.ref 109, .int (nI 0)] (Nat.le_refl 1) (w_all (nI 0) _ _ (o_whole hS (by decide))) dL_placesOf_86 lk_92 hc_all hs_all hp_all rfl ⟨rfl, rfl⟩ ⟨Nat.le_of_ble_eq_true rfl, Nat.le_of_ble_eq_true rfl⟩ ⟨Nat.le_of_ble_eq_true rfl, Nat.le_of_ble_eq_true rfl⟩ rfl (Nat.le_of_ble_eq_true rfl) ?_
          rintro _ V ⟨rfl, hS⟩
          rw [wh0 hDM]
          refine L_irem 89 dL_placesOf_89 (nI_nz (by omega) (by omega)) ?_
          rw [pk_rem (a := k) (by omega) (by omega) (by omega)]
          refine L_iload 90 1 dL_placesOf_90 rfl ?_
          refine L_aload_n 92 3 dL_placesOf_92 rfl rfl ?_
          refine L_iconst 93 (nI 0) dL_placesOf_93 (by decide) ?_
          refine L_cW 94 [.ref 109, .int (nI 0)] (Nat.le_refl 1) (w_all (nI 0) _ _ (o_whole hS (by decide))) dL_placesOf_94 lk_92 hc_all hs_all hp_all rfl ⟨rfl, rfl⟩ ⟨Nat.le_of_ble_eq_true rfl, Nat.le_of_ble_eq_true rfl⟩ ⟨Nat.le_of_ble_eq_true rfl, Nat.le_of_ble_eq_true rfl⟩ rfl (Nat.le_of_ble_eq_true rfl) ?_
          rintro _ V ⟨rfl, hS⟩
          rw [wh0 hDM]
          refine L_idiv 97 dL_placesOf_97 (nI_nz (by omega) (by omega)) ?_
          rw [pk_div (a := k) (by omega) (by omega) (by omega)]
          refine L_cW 98 [.ref 109, .int (nI n), .int (nI (k % c)), .int (nI (k / c))] (Nat.le_refl 1) (w_lighting _ _ _ _ _ (o_light hS hn hx hy)) dL_placesOf_98 lk_113 hc_lighting hs_lighting hp_lighting rfl ⟨rfl, rfl⟩ ⟨Nat.le_of_ble_eq_true rfl, Nat.le_of_ble_eq_true rfl⟩ ⟨Nat.le_of_ble_eq_true rfl, Nat.le_of_ble_eq_true rfl⟩ rfl (Nat.le_of_ble_eq_true rfl) ?_
          rintro _ V ⟨rfl, hS⟩
          refine L_i2l 101 dL_placesOf_101 ?_
          refine L_cAl 102 [.long _, .long _] (a_mixed _ _) dL_placesOf_102 lk_102 hc_mixed hs_mixed hp_mixed rfl ⟨rfl, rfl⟩ ⟨Nat.le_of_ble_eq_true rfl, Nat.le_of_ble_eq_true rfl⟩ ⟨Nat.le_of_ble_eq_true rfl, Nat.le_of_ble_eq_true rfl⟩ rfl (Nat.le_of_ble_eq_true rfl) ?_
          rintro _ rfl
          refine L_lstore_n 105 [(3, .long _), (6, .int _), (5, .int _), (0, .ref _), (1, .long _)] dL_placesOf_105 rfl (by decide) rfl ?_
          refine L_iinc 106 1 (nI (n + 1)) [(6, .int _), (3, .long _), (5, .int _), (0, .ref _), (1, .long _)] dL_placesOf_106 rfl (nI_add n 1) (by decide) rfl ?_
          refine L_goto 109 68 dL_placesOf_109 (by decide) ?_
          refine L_sub [0, 2, 1, 3, 4] [(6, .int _), (5, .int _), (3, .long _), (0, .ref _), (1, .long _)] rfl ?_
          exact ig (n + 1) V (by omega) (by omega) hS
      have L24 : ∀ (kg w : Nat) (V : Mm), w ≤ 6 → 6 < w + kg → ST V S c r lc T cn L b → XL (.inl (qL (fun v V2 => dgPs S lc c a (c * r) = v ∧ ST V2 S c r lc T cn L b))) none 1 mL_placesOf [] 0 0 24 [(6, .int (nI w)), (5, .int (nI k)), (3, .long (hF (dgPs S lc c a k) (plV S lc c (k % c) (k / c)) w)), (0, .ref 109), (1, .long a)] [] (V, f) := by
        intro kg
        induction kg with
        | zero => intro w V h1 h2; omega
        | succ kg ig =>
          intro w V h1 h2 hS
          refine L_iload 24 0 dL_placesOf_24 rfl ?_
          refine L_bipush 26 (nI 6) dL_placesOf_26 (by decide) ?_
          refine L_icmp_ge 28 65 dL_placesOf_28 (by decide) (fun c_28 => ?_) (fun c_28 => ?_)
          · have e : w = 6 := by have := (nI_leI (by omega) (by omega)).mp c_28; omega
            subst e
            refine L_iconst 65 (nI 0) dL_placesOf_65 (by decide) ?_
            refine L_istore 66 [(6, .int _), (5, .int _), (3, .long _), (0, .ref _), (1, .long _)] dL_placesOf_66 (by decide) rfl ?_
            refine L_sub [0, 1, 2, 3, 4] [(6, .int _), (5, .int _), (3, .long _), (0, .ref _), (1, .long _)] rfl ?_
            exact L68 (lc + 1) 0 V (by omega) (by omega) hS
          have hw : w < 6 := (nI_ltI (by omega) (by omega)).mp (Int32.not_le.mp c_28)
          refine L_lload_n 31 2 dL_placesOf_31 rfl rfl ?_
          refine L_aload_n 32 3 dL_placesOf_32 rfl rfl ?_
          refine L_iload 33 1 dL_placesOf_33 rfl ?_
          refine L_aload_n 35 3 dL_placesOf_35 rfl rfl ?_
          refine L_iconst 36 (nI 0) dL_placesOf_36 (by decide) ?_
          refine L_cW 37 [.ref 109, .int (nI 0)] (Nat.le_refl 1) (w_all (nI 0) _ _ (o_whole hS (by decide))) dL_placesOf_37 lk_92 hc_all hs_all hp_all rfl ⟨rfl, rfl⟩ ⟨Nat.le_of_ble_eq_true rfl, Nat.le_of_ble_eq_true rfl⟩ ⟨Nat.le_of_ble_eq_true rfl, Nat.le_of_ble_eq_true rfl⟩ rfl (Nat.le_of_ble_eq_true rfl) ?_
          rintro _ V ⟨rfl, hS⟩
          rw [wh0 hDM]
          refine L_irem 40 dL_placesOf_40 (nI_nz (by omega) (by omega)) ?_
          rw [pk_rem (a := k) (by omega) (by omega) (by omega)]
          refine L_iload 41 1 dL_placesOf_41 rfl ?_
          refine L_aload_n 43 3 dL_placesOf_43 rfl rfl ?_
          refine L_iconst 44 (nI 0) dL_placesOf_44 (by decide) ?_
          refine L_cW 45 [.ref 109, .int (nI 0)] (Nat.le_refl 1) (w_all (nI 0) _ _ (o_whole hS (by decide))) dL_placesOf_45 lk_92 hc_all hs_all hp_all rfl ⟨rfl, rfl⟩ ⟨Nat.le_of_ble_eq_true rfl, Nat.le_of_ble_eq_true rfl⟩ ⟨Nat.le_of_ble_eq_true rfl, Nat.le_of_ble_eq_true rfl⟩ rfl (Nat.le_of_ble_eq_true rfl) ?_
          rintro _ V ⟨rfl, hS⟩
          rw [wh0 hDM]
          refine L_idiv 48 dL_placesOf_48 (nI_nz (by omega) (by omega)) ?_
          rw [pk_div (a := k) (by omega) (by omega) (by omega)]
          refine L_iload 49 0 dL_placesOf_49 rfl ?_
          refine L_cW 51 [.ref 109, .int (nI (k % c)), .int (nI (k / c)), .int (nI w)] (Nat.le_refl 1) (w_placing _ _ _ _ _ (o_place hS hx hy (by omega))) dL_placesOf_51 lk_110 hc_placing hs_placing hp_placing rfl ⟨rfl, rfl⟩ ⟨Nat.le_of_ble_eq_true rfl, Nat.le_of_ble_eq_true rfl⟩ ⟨Nat.le_of_ble_eq_true rfl, Nat.le_of_ble_eq_true rfl⟩ rfl (Nat.le_of_ble_eq_true rfl) ?_
          rintro _ V ⟨rfl, hS⟩
          refine L_i2l 54 dL_placesOf_54 ?_
          refine L_cAl 55 [.long _, .long _] (a_mixed _ _) dL_placesOf_55 lk_102 hc_mixed hs_mixed hp_mixed rfl ⟨rfl, rfl⟩ ⟨Nat.le_of_ble_eq_true rfl, Nat.le_of_ble_eq_true rfl⟩ ⟨Nat.le_of_ble_eq_true rfl, Nat.le_of_ble_eq_true rfl⟩ rfl (Nat.le_of_ble_eq_true rfl) ?_
          rintro _ rfl
          refine L_lstore_n 58 [(3, .long _), (6, .int _), (5, .int _), (0, .ref _), (1, .long _)] dL_placesOf_58 rfl (by decide) rfl ?_
          refine L_iinc 59 1 (nI (w + 1)) [(6, .int _), (3, .long _), (5, .int _), (0, .ref _), (1, .long _)] dL_placesOf_59 rfl (nI_add w 1) (by decide) rfl ?_
          refine L_goto 62 24 dL_placesOf_62 (by decide) ?_
          refine L_sub [0, 2, 1, 3, 4] [(6, .int _), (5, .int _), (3, .long _), (0, .ref _), (1, .long _)] rfl ?_
          exact ig (w + 1) V (by omega) (by omega) hS
      refine L_iconst 21 (nI 0) dL_placesOf_21 (by decide) ?_
      refine L_istore 22 [(6, .int _), (5, .int _), (3, .long _), (0, .ref _), (1, .long _)] dL_placesOf_22 (by decide) rfl ?_
      refine L_sub [0, 1, 2, 3, 4] [(6, .int _), (5, .int _), (3, .long _), (0, .ref _), (1, .long _)] rfl ?_
      exact L24 7 0 V (by omega) (by omega) hS
  refine L_lload_n 0 1 dL_placesOf_0 rfl rfl ?_
  refine L_lstore_n 1 [(3, .long _), (0, .ref _), (1, .long _)] dL_placesOf_1 rfl (by decide) rfl ?_
  refine L_iconst 2 (nI 0) dL_placesOf_2 (by decide) ?_
  refine L_istore 3 [(5, .int _), (3, .long _), (0, .ref _), (1, .long _)] dL_placesOf_3 (by decide) rfl ?_
  refine L_sub [0, 1, 2, 3] [(5, .int _), (3, .long _), (0, .ref _), (1, .long _)] rfl ?_
  exact L5 (c * r + 1) 0 V (by omega) (by omega) hS
set_option maxHeartbeats 4000000 in
set_option maxRecDepth 100000 in
theorem w_seen {V S : Mm} {c r lc cn L : Nat} {T : Nat → Mm} {b : Nat → Int32} (hS : ST V S c r lc T cn L b) : EvW mL_seen none [.ref 109] V (qL (fun v V2 => snV S lc c r = v ∧ ST V2 S c r lc T cn L b)) := by
  refine EvW_of (by decide +kernel) rfl (fun _ => rfl) (fun _ => Nat.le_of_ble_eq_true rfl) (ls := [(0, .ref 109)]) (fun f => ?_)
  have L6 : ∀ (kf w : Nat) (V : Mm), w ≤ 14 → 14 < w + kf → ST V S c r lc T cn L b → XL (.inl (qL (fun v V2 => snV S lc c r = v ∧ ST V2 S c r lc T cn L b))) none 1 mL_seen [] 0 0 6 [(3, .int (nI w)), (1, .long (hF 7 (whV S lc c r 0) w)), (0, .ref 109)] [] (V, f) := by
    intro kf
    induction kf with
    | zero => intro w V h1 h2; omega
    | succ kf ih =>
      intro w V h1 h2 hS
      refine L_iload_n 6 0 dL_seen_6 rfl rfl ?_
      refine L_bipush 7 (nI 14) dL_seen_7 (by decide) ?_
      refine L_icmp_ge 9 29 dL_seen_9 (by decide) (fun c_9 => ?_) (fun c_9 => ?_)
      · have e : w = 14 := by have := (nI_leI (by omega) (by omega)).mp c_9; omega
        subst e
        refine L_aload_n 29 2 dL_seen_29 rfl rfl ?_
        refine L_aload_n 30 2 dL_seen_30 rfl rfl ?_
        refine L_lload_n 31 1 dL_seen_31 rfl rfl ?_
        refine L_cWl 32 [.ref 109, .long _] (Nat.le_refl 1) (w_lampsOf hS _) dL_seen_32 lk_118 hc_lampsOf hs_lampsOf hp_lampsOf rfl ⟨rfl, rfl⟩ ⟨Nat.le_of_ble_eq_true rfl, Nat.le_of_ble_eq_true rfl⟩ ⟨Nat.le_of_ble_eq_true rfl, Nat.le_of_ble_eq_true rfl⟩ rfl (Nat.le_of_ble_eq_true rfl) ?_
        rintro _ V ⟨rfl, hS⟩
        refine L_cWl 35 [.ref 109, .long _] (Nat.le_refl 1) (w_placesOf hS _) dL_seen_35 lk_122 hc_placesOf hs_placesOf hp_placesOf rfl ⟨rfl, rfl⟩ ⟨Nat.le_of_ble_eq_true rfl, Nat.le_of_ble_eq_true rfl⟩ ⟨Nat.le_of_ble_eq_true rfl, Nat.le_of_ble_eq_true rfl⟩ rfl (Nat.le_of_ble_eq_true rfl) ?_
        rintro _ V ⟨rfl, hS⟩
        exact L_lret 38 dL_seen_38 rfl ⟨Nat.zero_le _, Nat.zero_le _⟩ ⟨_, rfl, rfl, hS⟩
      have hw : w < 14 := (nI_ltI (by omega) (by omega)).mp (Int32.not_le.mp c_9)
      refine L_lload_n 12 1 dL_seen_12 rfl rfl ?_
      refine L_aload_n 13 2 dL_seen_13 rfl rfl ?_
      refine L_iload_n 14 0 dL_seen_14 rfl rfl ?_
      refine L_cW 15 [.ref 109, .int (nI w)] (Nat.le_refl 1) (w_all (nI w) _ _ (o_whole hS (by omega))) dL_seen_15 lk_92 hc_all hs_all hp_all rfl ⟨rfl, rfl⟩ ⟨Nat.le_of_ble_eq_true rfl, Nat.le_of_ble_eq_true rfl⟩ ⟨Nat.le_of_ble_eq_true rfl, Nat.le_of_ble_eq_true rfl⟩ rfl (Nat.le_of_ble_eq_true rfl) ?_
      rintro _ V ⟨rfl, hS⟩
      rw [wh_tl (y := 0) hw]
      refine L_i2l 18 dL_seen_18 ?_
      refine L_cAl 19 [.long _, .long _] (a_mixed _ _) dL_seen_19 lk_102 hc_mixed hs_mixed hp_mixed rfl ⟨rfl, rfl⟩ ⟨Nat.le_of_ble_eq_true rfl, Nat.le_of_ble_eq_true rfl⟩ ⟨Nat.le_of_ble_eq_true rfl, Nat.le_of_ble_eq_true rfl⟩ rfl (Nat.le_of_ble_eq_true rfl) ?_
      rintro _ rfl
      refine L_lstore_n 22 [(1, .long _), (3, .int _), (0, .ref _)] dL_seen_22 rfl (by decide) rfl ?_
      refine L_iinc 23 1 (nI (w + 1)) [(3, .int _), (1, .long _), (0, .ref _)] dL_seen_23 rfl (nI_add w 1) (by decide) rfl ?_
      refine L_goto 26 6 dL_seen_26 (by decide) ?_
      refine L_sub [0, 1, 2] [(3, .int _), (1, .long _), (0, .ref _)] rfl ?_
      exact ih (w + 1) V (by omega) (by omega) hS
  refine L_ldc2 0 dL_seen_0 cj_116 ?_
  refine L_lstore_n 3 [(1, .long _), (0, .ref _)] dL_seen_3 rfl (by decide) rfl ?_
  refine L_iconst 4 (nI 0) dL_seen_4 (by decide) ?_
  refine L_istore_n 5 [(3, .int _), (1, .long _), (0, .ref _)] dL_seen_5 rfl (by decide) rfl ?_
  refine L_sub [0, 1, 2] [(3, .int _), (1, .long _), (0, .ref _)] rfl ?_
  exact L6 15 0 V (by omega) (by omega) hS
set_option maxHeartbeats 4000000 in
set_option maxRecDepth 100000 in
theorem w_isDigest {V S : Mm} {c r lc cn L : Nat} {T : Nat → Mm} {b : Nat → Int32} (hS : ST V S c r lc T cn L b) : EvW mL_isDigest none [.ref 109, .int (nI cn)] V (qI (fun v V2 => 1 = v ∧ ST V2 S c r lc T cn L b)) := by
  refine EvW_of (by decide +kernel) rfl (fun _ => rfl) (fun _ => Nat.le_of_ble_eq_true rfl) (ls := [(0, .ref 109), (1, .int (nI cn))]) (fun f => ?_)
  have L12 : ∀ (kf w : Nat) (V : Mm), w ≤ 15 → 15 < w + kf → ST V S c r lc T cn L b → XL (.inl (qI (fun v V2 => 1 = v ∧ ST V2 S c r lc T cn L b))) none 1 mL_isDigest [] 0 0 12 [(4, .int (nI w)), (2, .long (hF (31 * 43276 + (nI cn).toInt64) (whV S lc c r (nI L)) w)), (0, .ref 109), (1, .int (nI cn))] [] (V, f) := by
    intro kf
    induction kf with
    | zero => intro w V h1 h2; omega
    | succ kf ih =>
      intro w V h1 h2 hS
      refine L_iload 12 0 dL_isDigest_12 rfl ?_
      refine L_bipush 14 (nI 15) dL_isDigest_14 (by decide) ?_
      refine L_icmp_ge 16 37 dL_isDigest_16 (by decide) (fun c_16 => ?_) (fun c_16 => ?_)
      · have e : w = 15 := by have := (nI_leI (by omega) (by omega)).mp c_16; omega
        subst e
        refine L_aload_n 37 2 dL_isDigest_37 rfl rfl ?_
        refine L_aload_n 38 2 dL_isDigest_38 rfl rfl ?_
        refine L_lload_n 39 1 dL_isDigest_39 rfl rfl ?_
        refine L_cWl 40 [.ref 109, .long _] (Nat.le_refl 1) (w_lampsOf hS _) dL_isDigest_40 lk_118 hc_lampsOf hs_lampsOf hp_lampsOf rfl ⟨rfl, rfl⟩ ⟨Nat.le_of_ble_eq_true rfl, Nat.le_of_ble_eq_true rfl⟩ ⟨Nat.le_of_ble_eq_true rfl, Nat.le_of_ble_eq_true rfl⟩ rfl (Nat.le_of_ble_eq_true rfl) ?_
        rintro _ V ⟨rfl, hS⟩
        refine L_cWl 43 [.ref 109, .long _] (Nat.le_refl 1) (w_placesOf hS _) dL_isDigest_43 lk_122 hc_placesOf hs_placesOf hp_placesOf rfl ⟨rfl, rfl⟩ ⟨Nat.le_of_ble_eq_true rfl, Nat.le_of_ble_eq_true rfl⟩ ⟨Nat.le_of_ble_eq_true rfl, Nat.le_of_ble_eq_true rfl⟩ rfl (Nat.le_of_ble_eq_true rfl) ?_
        rintro _ V ⟨rfl, hS⟩
        refine L_aload_n 46 2 dL_isDigest_46 rfl rfl ?_
        refine L_cCl 47 (Nat.le_refl 1) (o_digest hS) dL_isDigest_47 lk_127 wm_X6_digest hq_digest rfl ⟨rfl, rfl⟩ ⟨Nat.le_of_ble_eq_true rfl, Nat.le_of_ble_eq_true rfl⟩ ⟨Nat.le_of_ble_eq_true rfl, Nat.le_of_ble_eq_true rfl⟩ rfl (Nat.le_of_ble_eq_true rfl) ?_
        rintro _ V ⟨rfl, hS⟩
        refine L_lcmp 50 dL_isDigest_50 ?_
        rw [show lg_cmp (dgPs S lc c (dgLs S lc c r (hF (31 * 43276 + (nI cn).toInt64) (whV S lc c r (nI L)) 15) lc) (c * r)) (dgV S lc c r (nI L) (nI cn)) = 0 from lg_cmp_rf _]
        refine L_if_ne 51 58 dL_isDigest_51 (by decide) (fun c_51 => absurd rfl c_51) (fun _ => ?_)
        refine L_iconst 54 (1) dL_isDigest_54 (by decide) ?_
        refine L_goto 55 59 dL_isDigest_55 (by decide) ?_
        exact L_iret 59 dL_isDigest_59 rfl rfl ⟨Nat.zero_le _, Nat.zero_le _⟩ ⟨_, rfl, rfl, hS⟩
      have hw : w < 15 := (nI_ltI (by omega) (by omega)).mp (Int32.not_le.mp c_16)
      refine L_lload_n 19 1 dL_isDigest_19 rfl rfl ?_
      refine L_aload_n 20 2 dL_isDigest_20 rfl rfl ?_
      refine L_iload 21 0 dL_isDigest_21 rfl ?_
      refine L_cW 23 [.ref 109, .int (nI w)] (Nat.le_refl 1) (w_all (nI w) _ _ (o_whole hS (by omega))) dL_isDigest_23 lk_92 hc_all hs_all hp_all rfl ⟨rfl, rfl⟩ ⟨Nat.le_of_ble_eq_true rfl, Nat.le_of_ble_eq_true rfl⟩ ⟨Nat.le_of_ble_eq_true rfl, Nat.le_of_ble_eq_true rfl⟩ rfl (Nat.le_of_ble_eq_true rfl) ?_
      rintro _ V ⟨rfl, hS⟩
      refine L_i2l 26 dL_isDigest_26 ?_
      refine L_cAl 27 [.long _, .long _] (a_mixed _ _) dL_isDigest_27 lk_102 hc_mixed hs_mixed hp_mixed rfl ⟨rfl, rfl⟩ ⟨Nat.le_of_ble_eq_true rfl, Nat.le_of_ble_eq_true rfl⟩ ⟨Nat.le_of_ble_eq_true rfl, Nat.le_of_ble_eq_true rfl⟩ rfl (Nat.le_of_ble_eq_true rfl) ?_
      rintro _ rfl
      refine L_lstore_n 30 [(2, .long _), (4, .int _), (0, .ref _), (1, .int _)] dL_isDigest_30 rfl (by decide) rfl ?_
      refine L_iinc 31 1 (nI (w + 1)) [(4, .int _), (2, .long _), (0, .ref _), (1, .int _)] dL_isDigest_31 rfl (nI_add w 1) (by decide) rfl ?_
      refine L_goto 34 12 dL_isDigest_34 (by decide) ?_
      refine L_sub [0, 1, 2, 3] [(4, .int _), (2, .long _), (0, .ref _), (1, .int _)] rfl ?_
      exact ih (w + 1) V (by omega) (by omega) hS
  refine L_ldc2 0 dL_isDigest_0 cj_125 ?_
  refine L_iload_n 3 1 dL_isDigest_3 rfl rfl ?_
  refine L_i2l 4 dL_isDigest_4 ?_
  refine L_cAl 5 [.long _, .long _] (a_mixed _ _) dL_isDigest_5 lk_102 hc_mixed hs_mixed hp_mixed rfl ⟨rfl, rfl⟩ ⟨Nat.le_of_ble_eq_true rfl, Nat.le_of_ble_eq_true rfl⟩ ⟨Nat.le_of_ble_eq_true rfl, Nat.le_of_ble_eq_true rfl⟩ rfl (Nat.le_of_ble_eq_true rfl) ?_
  rintro _ rfl
  refine L_lstore_n 8 [(2, .long _), (0, .ref _), (1, .int _)] dL_isDigest_8 rfl (by decide) rfl ?_
  refine L_iconst 9 (nI 0) dL_isDigest_9 (by decide) ?_
  refine L_istore 10 [(4, .int _), (2, .long _), (0, .ref _), (1, .int _)] dL_isDigest_10 (by decide) rfl ?_
  refine L_sub [0, 1, 2, 3] [(4, .int _), (2, .long _), (0, .ref _), (1, .int _)] rfl ?_
  exact L12 16 0 V (by omega) (by omega) hS
/-- the character k of a word of eight -/
def bK (x : Int64) (k : Nat) : Int32 := ((x >>> ((8 * nI k : Int32).toInt64 &&& 63)) &&& 255).toInt32
/-- the text behind the characters below n, from the highest on -/
def tyF (x : Int64) : Nat → Nat → (Nat → Int32) → Nat × (Nat → Int32)
  | 0, L, b => (L, b)
  | k + 1, L, b => if bK x k = 0 then tyF x k L b else tyF x k (L + 1) (upB b L (bK x k))
theorem nI_m1 (m : Nat) : nI (m + 1) - 1 = nI m := by rw [← nI_add]; exact Int32.add_sub_cancel _ _
theorem nI_dec (m : Nat) : nI m + Int32.ofInt (-1) = nI m - 1 := by rw [Int32.sub_eq_add_neg]; rfl
set_option maxHeartbeats 4000000 in
set_option maxRecDepth 100000 in
theorem w_types {V S : Mm} {c r lc cn L : Nat} {T : Nat → Mm} {b : Nat → Int32} (hS : ST V S c r lc T cn L b) {x : Int64} (hx : ∀ k, k < 8 → bK x k = 0 ∨ rgI (bK x k) 0 127) (hL : L + 8 ≤ 150) : EvW mL_types none [.ref 109, .long x] V (qV (fun V2 => ST V2 S c r lc T cn (tyF x 8 L b).1 (tyF x 8 L b).2)) := by
  refine EvW_of (by decide +kernel) rfl (fun _ => rfl) (fun _ => Nat.le_of_ble_eq_true rfl) (ls := [(0, .ref 109), (1, .long x)]) (fun f => ?_)
  have L3 : ∀ (n L1 : Nat) (b1 : Nat → Int32) (V : Mm), n ≤ 8 → L1 + n ≤ 150 → tyF x n L1 b1 = tyF x 8 L b → ST V S c r lc T cn L1 b1 → XL (.inl (qV (fun V2 => ST V2 S c r lc T cn (tyF x 8 L b).1 (tyF x 8 L b).2))) none 1 mL_types [] 0 0 3 [(3, .int (nI n - 1)), (0, .ref 109), (1, .long x)] [] (V, f) := by
    intro n
    induction n with
    | zero =>
      intro L1 b1 V h1 h2 he hS
      refine L_iload_n 3 0 dL_types_3 rfl rfl ?_
      refine L_if_lt 4 41 dL_types_4 (by decide) (fun _ => ?_) (fun c_4 => absurd (by decide) c_4)
      refine L_vret 41 dL_types_41 rfl ⟨Nat.zero_le _, Nat.zero_le _⟩ ⟨rfl, ?_⟩
      rw [← he]; exact hS
    | succ m ih =>
      intro L1 b1 V h1 h2 he hS
      rw [nI_m1]
      refine L_iload_n 3 0 dL_types_3 rfl rfl ?_
      refine L_if_lt 4 41 dL_types_4 (by decide) (fun c_4 => absurd c_4 (nI_nn (by omega))) (fun _ => ?_)
      refine L_lload_n 7 2 dL_types_7 rfl rfl ?_
      refine L_bipush 8 8 dL_types_8 (by decide) ?_
      refine L_iload_n 10 0 dL_types_10 rfl rfl ?_
      refine L_imul 11 dL_types_11 ?_
      refine L_lshr 12 dL_types_12 ?_
      refine L_ldc2 13 dL_types_13 cj_189 ?_
      refine L_land 16 dL_types_16 ?_
      refine L_l2i 17 dL_types_17 ?_
      refine L_istore 18 [(4, .int _), (3, .int _), (0, .ref _), (1, .long _)] dL_types_18 (by decide) rfl ?_
      refine L_iload 20 0 dL_types_20 rfl ?_
      refine L_eq (st2 := [.int (bK x m)]) (ls2 := [(4, .int (bK x m)), (3, .int (nI m)), (0, .ref 109), (1, .long x)]) ?_ rfl rfl rfl rfl
      refine L_if_eq 22 35 dL_types_22 (by decide) (fun c_22 => ?_) (fun c_22 => ?_)
      · refine L_iinc 35 1 (nI m - 1) [(3, .int _), (4, .int _), (0, .ref _), (1, .long _)] dL_types_35 rfl (nI_dec m) (by decide) rfl ?_
        refine L_goto 38 3 dL_types_38 (by decide) ?_
        refine L_sub [0, 2, 3] [(3, .int _), (0, .ref _), (1, .long _)] rfl ?_
        refine ih L1 b1 V (by omega) (by omega) ?_ hS
        rw [← he]
        show _ = (if bK x m = 0 then _ else _)
        rw [if_pos c_22]
      · refine L_aload_n 25 2 dL_types_25 rfl rfl ?_
        refine L_iload 26 0 dL_types_26 rfl ?_
        refine L_cW 28 [.ref 109, .int (bK x m)] (Nat.le_refl 1) (w_typing _ _ _ (o_type hS (by rcases hx m (by omega) with h | h; exact absurd h c_22; exact h) (by omega))) dL_types_28 lk_183 hc_typing hs_typing hp_typing rfl ⟨rfl, rfl⟩ ⟨Nat.le_of_ble_eq_true rfl, Nat.le_of_ble_eq_true rfl⟩ ⟨Nat.le_of_ble_eq_true rfl, Nat.le_of_ble_eq_true rfl⟩ rfl (Nat.le_of_ble_eq_true rfl) ?_
        rintro _ V ⟨rfl, hS⟩
        refine L_if_ge 31 35 dL_types_31 (by decide) (fun _ => ?_) (fun c_31 => absurd (nI_pos' (by omega)) c_31)
        refine L_iinc 35 1 (nI m - 1) [(3, .int _), (4, .int _), (0, .ref _), (1, .long _)] dL_types_35 rfl (nI_dec m) (by decide) rfl ?_
        refine L_goto 38 3 dL_types_38 (by decide) ?_
        refine L_sub [0, 2, 3] [(3, .int _), (0, .ref _), (1, .long _)] rfl ?_
        refine ih (L1 + 1) (upB b1 L1 (bK x m)) V (by omega) (by omega) ?_ hS
        rw [← he]
        show _ = (if bK x m = 0 then _ else _)
        rw [if_neg c_22]
  refine L_bipush 0 (nI 8 - 1) dL_types_0 (by decide) ?_
  refine L_istore_n 2 [(3, .int _), (0, .ref _), (1, .long _)] dL_types_2 rfl (by decide) rfl ?_
  refine L_sub [0, 1, 2] [(3, .int _), (0, .ref _), (1, .long _)] rfl ?_
  exact L3 8 L b V (by omega) (by omega) rfl hS
