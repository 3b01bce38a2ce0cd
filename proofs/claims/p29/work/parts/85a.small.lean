/-! the law's small methods -/
theorem andM (v : Int32) : ∃ k, k < 2147483648 ∧ v &&& 2147483647 = nI k := by
  refine ⟨(v &&& 2147483647).toBitVec.toNat, ?_, ?_⟩
  · rw [Int32.toBitVec_and, BitVec.toNat_and]
    exact Nat.lt_succ_of_le Nat.and_le_right
  · apply Int32.toBitVec_inj.mp
    apply BitVec.eq_of_toNat_eq
    show _ = (BitVec.ofNat 32 _).toNat
    rw [BitVec.toNat_ofNat, Nat.mod_eq_of_lt (BitVec.isLt _)]
theorem nI_nz {N : Nat} (h : 0 < N) (h2 : N < 2147483648) : ¬ nI N = 0 := fun e => by
  have := congrArg Int32.toNatClampNeg e
  rw [nI_clamp (by omega)] at this
  rw [this] at h
  exact absurd h (by decide)
set_option maxHeartbeats 4000000 in
set_option maxRecDepth 100000 in
theorem a_part (v : Int32) {N : Nat} (hN : 0 < N) (hN2 : N < 2147483648) : EvA mL_part none [.int v, .int (nI N)] (fun r => ∃ x : Int32, r = some (.int x) ∧ ∃ j, j < N ∧ x = nI j) := by
  refine EvA_of (by decide +kernel) rfl (fun _ => rfl) (fun _ => Nat.le_of_ble_eq_true rfl) (ls := [(0, .int v), (1, .int (nI N))]) (fun ω => ?_)
  refine L_iload_n 0 0 dL_part_0 rfl rfl ?_
  refine L_ldc 1 dL_part_1 ci_7 ?_
  refine L_iand 3 dL_part_3 ?_
  refine L_iload_n 4 1 dL_part_4 rfl rfl ?_
  refine L_irem 5 dL_part_5 (nI_nz hN hN2) ?_
  obtain ⟨m, hm, em⟩ := andM v
  rw [em, pk_rem (by omega) hN (by omega)]
  exact L_iretA 6 dL_part_6 rfl rfl ⟨Nat.zero_le _, Nat.zero_le _⟩ ⟨_, rfl, _, Nat.mod_lt _ hN, rfl⟩
set_option maxHeartbeats 4000000 in
set_option maxRecDepth 100000 in
theorem a_mixed (h v : Int64) : EvA mL_mixed none [.long h, .long v] (fun r => ∃ x : Int64, r = some (.long x) ∧ 31 * h + v = x) := by
  refine EvA_of (by decide +kernel) rfl (fun _ => rfl) (fun _ => Nat.le_of_ble_eq_true rfl) (ls := [(0, .long h), (2, .long v)]) (fun ω => ?_)
  refine L_ldc2 0 dL_mixed_0 cj_90 ?_
  refine L_lload_n 3 0 dL_mixed_3 rfl rfl ?_
  refine L_lmul 4 dL_mixed_4 ?_
  refine L_lload_n 5 1 dL_mixed_5 rfl rfl ?_
  refine L_ladd 6 dL_mixed_6 ?_
  exact L_lretA 7 dL_mixed_7 rfl ⟨Nat.zero_le _, Nat.zero_le _⟩ ⟨_, rfl, rfl⟩
set_option maxHeartbeats 4000000 in
set_option maxRecDepth 100000 in
theorem a_take {r : Nat × (Nat → Int32)} (hL : r.1 ≤ 260) {k : Nat} (hk : k < 1000) : EvA mL_take (some r) [.ref 3, .int (nI k)] (fun v => ∃ x : Int32, v = some (.int x) ∧ True) := by
  refine EvA_of (by decide +kernel) rfl (fun _ => rfl) (fun _ => Nat.le_of_ble_eq_true rfl) (ls := [(0, .ref 3), (1, .int (nI k))]) (fun ω => ?_)
  refine L_aload_n 0 0 dL_take_0 rfl rfl ?_
  refine L_slen 1 dL_take_1 ?_
  refine L_if_ne 2 15 dL_take_2 (by decide) (fun c_0 => ?_) (fun c_0 => ?_)
  · have hp : 0 < r.1 := Nat.pos_of_ne_zero (fun e => c_0 (by rw [e]; rfl))
    refine L_aload_n 15 0 dL_take_15 rfl rfl ?_
    refine L_iload_n 16 1 dL_take_16 rfl rfl ?_
    refine L_aload_n 17 0 dL_take_17 rfl rfl ?_
    refine L_slen 18 dL_take_18 ?_
    refine L_irem 19 dL_take_19 (nI_nz hp (by omega)) ?_
    rw [pk_rem (by omega) hp (by omega)]
    refine L_sld 20 dL_take_20 (Nat.mod_lt _ hp) (by omega) ?_
    refine L_iload_n 21 1 dL_take_21 rfl rfl ?_
    refine L_bipush 22 (7) dL_take_22 (by decide) ?_
    refine L_irem 24 dL_take_24 (by decide) ?_
    refine L_ishr 25 dL_take_25 ?_
    refine L_iload_n 26 1 dL_take_26 rfl rfl ?_
    refine L_aload_n 27 0 dL_take_27 rfl rfl ?_
    refine L_slen 28 dL_take_28 ?_
    refine L_idiv 29 dL_take_29 (nI_nz hp (by omega)) ?_
    refine L_bipush 30 (31) dL_take_30 (by decide) ?_
    refine L_imul 32 dL_take_32 ?_
    refine L_ixor 33 dL_take_33 ?_
    refine L_iload_n 34 1 dL_take_34 rfl rfl ?_
    refine L_ldc 35 dL_take_35 ci_8 ?_
    refine L_imul 37 dL_take_37 ?_
    refine L_ixor 38 dL_take_38 ?_
    exact L_iretA 39 dL_take_39 rfl rfl ⟨Nat.zero_le _, Nat.zero_le _⟩ ⟨_, rfl, trivial⟩
  · refine L_sipush 5 (7919) dL_take_5 (by decide) ?_
    refine L_iload_n 8 1 dL_take_8 rfl rfl ?_
    refine L_imul 9 dL_take_9 ?_
    refine L_iconst 10 (3) dL_take_10 (by decide) ?_
    refine L_iadd 11 dL_take_11 ?_
    refine L_goto 12 39 dL_take_12 (by decide) ?_
    exact L_iretA 39 dL_take_39 rfl rfl ⟨Nat.zero_le _, Nat.zero_le _⟩ ⟨_, rfl, trivial⟩
theorem wh4 {S : Mm} {c r lc : Nat} {tl : Int32} (h : DM S c r lc) : whV S lc c r tl 4 = nI lc := h.1.2.2
theorem wh0 {S : Mm} {c r lc : Nat} {tl : Int32} (h : DM S c r lc) : whV S lc c r tl 0 = nI c := h.1.1
theorem wh1 {S : Mm} {c r lc : Nat} {tl : Int32} (h : DM S c r lc) : whV S lc c r tl 1 = nI r := h.1.2.1
theorem nI_div2 {i : Nat} (h : i < 1000) : nI i / 2 = nI (i / 2) := pk_div (d := 2) (by omega) (by decide) (by decide)
theorem nI_rem2 {i : Nat} (h : i < 1000) : nI i - nI i / 2 * 2 = nI (i % 2) := pk_rem (d := 2) (by omega) (by decide) (by decide)
theorem crV {S : Mm} {n i : Nat} : (if i % 2 = 0 then S 13 (4 * n + i / 2) else S 14 (4 * n + i / 2)) = (fun i => if i % 2 = 0 then S 13 (4 * n + i / 2) else S 14 (4 * n + i / 2)) i := rfl
set_option maxHeartbeats 4000000 in
set_option maxRecDepth 100000 in
theorem w_lampsOf {V S : Mm} {c r lc cn L : Nat} {T : Nat → Mm} {b : Nat → Int32} (hS : ST V S c r lc T cn L b) (a : Int64) : EvW mL_lampsOf none [.ref 109, .long a] V (qL (fun v V2 => dgLs S lc c r a lc = v ∧ ST V2 S c r lc T cn L b)) := by
  refine EvW_of (by decide +kernel) rfl (fun _ => rfl) (fun _ => Nat.le_of_ble_eq_true rfl) (ls := [(0, .ref 109), (1, .long a)]) (fun f => ?_)
  have hd := hS.dim
  have hDM := hS.dm
  have L5 : ∀ (kf n : Nat) (V : Mm), n ≤ lc → lc < n + kf → ST V S c r lc T cn L b → XL (.inl (qL (fun v V2 => dgLs S lc c r a lc = v ∧ ST V2 S c r lc T cn L b))) none 1 mL_lampsOf [] 0 0 5 [(5, .int (nI n)), (3, .long (dgLs S lc c r a n)), (0, .ref 109), (1, .long a)] [] (V, f) := by
    intro kf
    induction kf with
    | zero => intro n V h1 h2; omega
    | succ kf ih =>
      intro n V h1 h2 hS
      refine L_iload 5 0 dL_lampsOf_5 rfl ?_
      refine L_aload_n 7 2 dL_lampsOf_7 rfl rfl ?_
      refine L_iconst 8 (nI 4) dL_lampsOf_8 (by decide) ?_
      refine L_cW 9 [.ref 109, .int (nI 4)] (Nat.le_refl 1) (w_all (nI 4) _ _ (o_whole hS (by decide))) dL_lampsOf_9 lk_92 hc_all hs_all hp_all rfl ⟨rfl, rfl⟩ ⟨Nat.le_of_ble_eq_true rfl, Nat.le_of_ble_eq_true rfl⟩ ⟨Nat.le_of_ble_eq_true rfl, Nat.le_of_ble_eq_true rfl⟩ rfl (Nat.le_of_ble_eq_true rfl) ?_
      rintro _ V ⟨rfl, hS⟩
      rw [wh4 hDM]
      refine L_icmp_ge 12 87 dL_lampsOf_12 (by decide) (fun c_12 => ?_) (fun c_12 => ?_)
      · refine L_lload_n 87 1 dL_lampsOf_87 rfl rfl ?_
        have e : n = lc := by have := (nI_leI (by omega) (by omega)).mp c_12; omega
        subst e
        exact L_lret 88 dL_lampsOf_88 rfl ⟨Nat.zero_le _, Nat.zero_le _⟩ ⟨_, rfl, rfl, hS⟩
      have hn : n < lc := (nI_ltI (by omega) (by omega)).mp (Int32.not_le.mp c_12)
      have L48 : ∀ (kg i : Nat) (V : Mm), i ≤ 8 → 8 < i + kg → ST V S c r lc T cn L b → XL (.inl (qL (fun v V2 => dgLs S lc c r a lc = v ∧ ST V2 S c r lc T cn L b))) none 1 mL_lampsOf [] 0 0 48 [(6, .int (nI i)), (5, .int (nI n)), (3, .long (hF (hF (dgLs S lc c r a n) (lvV S lc c r n) 12) (fun i => if i % 2 = 0 then S 13 (4 * n + i / 2) else S 14 (4 * n + i / 2)) i)), (0, .ref 109), (1, .long a)] [] (V, f) := by
        intro kg
        induction kg with
        | zero => intro i V h1 h2; omega
        | succ kg ig =>
          intro i V h1 h2 hS
          refine L_iload 48 0 dL_lampsOf_48 rfl ?_
          refine L_bipush 50 (nI 8) dL_lampsOf_50 (by decide) ?_
          refine L_icmp_ge 52 81 dL_lampsOf_52 (by decide) (fun c_52 => ?_) (fun c_52 => ?_)
          · have e : i = 8 := by have := (nI_leI (by omega) (by omega)).mp c_52; omega
            subst e
            refine L_iinc 81 1 (nI (n + 1)) [(5, .int _), (6, .int _), (3, .long _), (0, .ref _), (1, .long _)] dL_lampsOf_81 rfl (nI_add n 1) (by decide) rfl ?_
            refine L_goto 84 5 dL_lampsOf_84 (by decide) ?_
            refine L_sub [0, 2, 3, 4] [(5, .int _), (3, .long _), (0, .ref _), (1, .long _)] rfl ?_
            exact ih (n + 1) V (by omega) (by omega) hS
          have hi : i < 8 := (nI_ltI (by omega) (by omega)).mp (Int32.not_le.mp c_52)
          refine L_lload_n 55 2 dL_lampsOf_55 rfl rfl ?_
          refine L_aload_n 56 3 dL_lampsOf_56 rfl rfl ?_
          refine L_iload 57 1 dL_lampsOf_57 rfl ?_
          refine L_iload 59 0 dL_lampsOf_59 rfl ?_
          refine L_iconst 61 (2) dL_lampsOf_61 (by decide) ?_
          refine L_idiv 62 dL_lampsOf_62 (by decide) ?_
          refine L_iload 63 0 dL_lampsOf_63 rfl ?_
          refine L_iconst 65 (2) dL_lampsOf_65 (by decide) ?_
          refine L_irem 66 dL_lampsOf_66 (by decide) ?_
          rw [nI_rem2 (i := i) (by omega), nI_div2 (i := i) (by omega)]
          refine L_cW 67 [.ref 109, .int (nI n), .int (nI (i / 2)), .int (nI (i % 2))] (Nat.le_refl 1) (w_cornerAt _ _ _ _ _ (o_corner hS hn (by omega) (by omega))) dL_lampsOf_67 lk_106 hc_cornerAt hs_cornerAt hp_cornerAt rfl ⟨rfl, rfl⟩ ⟨Nat.le_of_ble_eq_true rfl, Nat.le_of_ble_eq_true rfl⟩ ⟨Nat.le_of_ble_eq_true rfl, Nat.le_of_ble_eq_true rfl⟩ rfl (Nat.le_of_ble_eq_true rfl) ?_
          rintro _ V ⟨rfl, hS⟩
          refine L_i2l 70 dL_lampsOf_70 ?_
          refine L_cAl 71 [.long _, .long _] (a_mixed _ _) dL_lampsOf_71 lk_102 hc_mixed hs_mixed hp_mixed rfl ⟨rfl, rfl⟩ ⟨Nat.le_of_ble_eq_true rfl, Nat.le_of_ble_eq_true rfl⟩ ⟨Nat.le_of_ble_eq_true rfl, Nat.le_of_ble_eq_true rfl⟩ rfl (Nat.le_of_ble_eq_true rfl) ?_
          rintro _ rfl
          refine L_lstore_n 74 [(3, .long _), (6, .int _), (5, .int _), (0, .ref _), (1, .long _)] dL_lampsOf_74 rfl (by decide) rfl ?_
          refine L_iinc 75 1 (nI (i + 1)) [(6, .int _), (3, .long _), (5, .int _), (0, .ref _), (1, .long _)] dL_lampsOf_75 rfl (nI_add i 1) (by decide) rfl ?_
          refine L_goto 78 48 dL_lampsOf_78 (by decide) ?_
          refine L_sub [0, 2, 1, 3, 4] [(6, .int _), (5, .int _), (3, .long _), (0, .ref _), (1, .long _)] rfl ?_
          exact ig (i + 1) V (by omega) (by omega) hS
      have L18 : ∀ (kg w : Nat) (V : Mm), w ≤ 12 → 12 < w + kg → ST V S c r lc T cn L b → XL (.inl (qL (fun v V2 => dgLs S lc c r a lc = v ∧ ST V2 S c r lc T cn L b))) none 1 mL_lampsOf [] 0 0 18 [(6, .int (nI w)), (5, .int (nI n)), (3, .long (hF (dgLs S lc c r a n) (lvV S lc c r n) w)), (0, .ref 109), (1, .long a)] [] (V, f) := by
        intro kg
        induction kg with
        | zero => intro w V h1 h2; omega
        | succ kg ig =>
          intro w V h1 h2 hS
          refine L_iload 18 0 dL_lampsOf_18 rfl ?_
          refine L_bipush 20 (nI 12) dL_lampsOf_20 (by decide) ?_
          refine L_icmp_ge 22 45 dL_lampsOf_22 (by decide) (fun c_22 => ?_) (fun c_22 => ?_)
          · have e : w = 12 := by have := (nI_leI (by omega) (by omega)).mp c_22; omega
            subst e
            refine L_iconst 45 (nI 0) dL_lampsOf_45 (by decide) ?_
            refine L_istore 46 [(6, .int _), (5, .int _), (3, .long _), (0, .ref _), (1, .long _)] dL_lampsOf_46 (by decide) rfl ?_
            refine L_sub [0, 1, 2, 3, 4] [(6, .int _), (5, .int _), (3, .long _), (0, .ref _), (1, .long _)] rfl ?_
            exact L48 9 0 V (by omega) (by omega) hS
          have hw : w < 12 := (nI_ltI (by omega) (by omega)).mp (Int32.not_le.mp c_22)
          refine L_lload_n 25 2 dL_lampsOf_25 rfl rfl ?_
          refine L_aload_n 26 3 dL_lampsOf_26 rfl rfl ?_
          refine L_iload 27 1 dL_lampsOf_27 rfl ?_
          refine L_iload 29 0 dL_lampsOf_29 rfl ?_
          refine L_cW 31 [.ref 109, .int (nI n), .int (nI w)] (Nat.le_refl 1) (w_lamping _ _ _ _ (o_lamp hS hn (by omega))) dL_lampsOf_31 lk_98 hc_lamping hs_lamping hp_lamping rfl ⟨rfl, rfl⟩ ⟨Nat.le_of_ble_eq_true rfl, Nat.le_of_ble_eq_true rfl⟩ ⟨Nat.le_of_ble_eq_true rfl, Nat.le_of_ble_eq_true rfl⟩ rfl (Nat.le_of_ble_eq_true rfl) ?_
          rintro _ V ⟨rfl, hS⟩
          refine L_i2l 34 dL_lampsOf_34 ?_
          refine L_cAl 35 [.long _, .long _] (a_mixed _ _) dL_lampsOf_35 lk_102 hc_mixed hs_mixed hp_mixed rfl ⟨rfl, rfl⟩ ⟨Nat.le_of_ble_eq_true rfl, Nat.le_of_ble_eq_true rfl⟩ ⟨Nat.le_of_ble_eq_true rfl, Nat.le_of_ble_eq_true rfl⟩ rfl (Nat.le_of_ble_eq_true rfl) ?_
          rintro _ rfl
          refine L_lstore_n 38 [(3, .long _), (6, .int _), (5, .int _), (0, .ref _), (1, .long _)] dL_lampsOf_38 rfl (by decide) rfl ?_
          refine L_iinc 39 1 (nI (w + 1)) [(6, .int _), (3, .long _), (5, .int _), (0, .ref _), (1, .long _)] dL_lampsOf_39 rfl (nI_add w 1) (by decide) rfl ?_
          refine L_goto 42 18 dL_lampsOf_42 (by decide) ?_
          refine L_sub [0, 2, 1, 3, 4] [(6, .int _), (5, .int _), (3, .long _), (0, .ref _), (1, .long _)] rfl ?_
          exact ig (w + 1) V (by omega) (by omega) hS
      refine L_iconst 15 (nI 0) dL_lampsOf_15 (by decide) ?_
      refine L_istore 16 [(6, .int _), (5, .int _), (3, .long _), (0, .ref _), (1, .long _)] dL_lampsOf_16 (by decide) rfl ?_
      refine L_sub [0, 1, 2, 3, 4] [(6, .int _), (5, .int _), (3, .long _), (0, .ref _), (1, .long _)] rfl ?_
      exact L18 13 0 V (by omega) (by omega) hS
  refine L_lload_n 0 1 dL_lampsOf_0 rfl rfl ?_
  refine L_lstore_n 1 [(3, .long _), (0, .ref _), (1, .long _)] dL_lampsOf_1 rfl (by decide) rfl ?_
  refine L_iconst 2 (nI 0) dL_lampsOf_2 (by decide) ?_
  refine L_istore 3 [(5, .int _), (3, .long _), (0, .ref _), (1, .long _)] dL_lampsOf_3 (by decide) rfl ?_
  refine L_sub [0, 1, 2, 3] [(5, .int _), (3, .long _), (0, .ref _), (1, .long _)] rfl ?_
  exact L5 (lc + 1) 0 V (by omega) (by omega) hS
