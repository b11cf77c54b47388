/-! RateChainsModel: the small methods -/
abbrev mP (S : cs_S) (x : Int32) : Prop := 0 ≤ x ∧ x < S.2.2 0
theorem mP_ex {S : cs_S} {x : Int32} {n : Nat} (h : mP S x) (hn : S.2.2 0 = nI n) (h5 : n ≤ 5) : ∃ j : Nat, j < n ∧ x = nI j := by
  unfold mP at h
  rw [hn] at h
  exact in_ex h (by omega)
abbrev iF (a b : Int64) : Prop := (b = lN 1 ∨ b = lN 2 ∨ b = lN 5 ∨ b = lN 10) ∧ lN 0 ≤ a ∧ a ≤ b
theorem iF_ne {a b : Int64} (h : iF a b) : ¬ b = 0 := by
  rcases h.1 with e | e | e | e <;> rw [e] <;> decide
abbrev mt_n (a b : Int64) : Int32 := (lN 10 / b * a).toInt32
def ma_f (f : Nat → Int32) (p t : Nat) : Nat → Int32
  | 0 => nI 0
  | q + 1 => ma_f f p t q + (if q = t then nI 0 else f (5 * p + q))
def sd_f (f : Nat → Int32) (p : Nat) : Nat → Int32
  | 0 => nI 0
  | q + 1 => sd_f f p q + f (5 * p + q)
theorem c_Mo_isKind (w : List am_C) (x : Int32) : am_ct y_Mo_isKind 0 [.int x] (w) (some (.int (bI (iR x 4)))) (w) 0 0 := by
  refine am_ct.of rfl (Nat.le_of_ble_eq_true rfl) ?_
  refine aw_iload_n d_Mo_isKind_0 rfl ?_
  refine aw_if_lt (tgt := 13) d_Mo_isKind_1 (by decide) (fun h1 => ?_) (fun h1 => ?_)
  · refine aw_iconst (v := nI 0) d_Mo_isKind_13 (by decide) ?_
    exact aw_zretE d_Mo_isKind_14 rfl rfl (bI_f (fun e => absurd e.1 (Int32.not_le.mpr h1))).symm rfl rfl rfl
  · refine aw_iload_n d_Mo_isKind_4 rfl ?_
    refine aw_iconst (v := nI 4) d_Mo_isKind_5 (by decide) ?_
    refine aw_icmp_ge (tgt := 13) d_Mo_isKind_6 (by decide) (fun hc => ?_) (fun hc => ?_)
    · refine aw_iconst (v := nI 0) d_Mo_isKind_13 (by decide) ?_
      exact aw_zretE d_Mo_isKind_14 rfl rfl (bI_f (fun e => absurd hc (Int32.not_le.mpr e.2))).symm rfl rfl rfl
    · refine aw_iconst (v := nI 1) d_Mo_isKind_9 (by decide) ?_
      refine aw_goto (tgt := 14) d_Mo_isKind_10 (by decide) ?_
      exact aw_zretE d_Mo_isKind_14 rfl rfl (bI_t ⟨(i32_nlt _ _).mp h1, Int32.not_le.mp hc⟩).symm rfl rfl rfl
theorem c_Mo_isYear (w : List am_C) (x : Int32) : am_ct y_Mo_isYear 0 [.int x] (w) (some (.int (bI (iR x 10)))) (w) 0 0 := by
  refine am_ct.of rfl (Nat.le_of_ble_eq_true rfl) ?_
  refine aw_iload_n d_Mo_isYear_0 rfl ?_
  refine aw_if_lt (tgt := 14) d_Mo_isYear_1 (by decide) (fun h1 => ?_) (fun h1 => ?_)
  · refine aw_iconst (v := nI 0) d_Mo_isYear_14 (by decide) ?_
    exact aw_zretE d_Mo_isYear_15 rfl rfl (bI_f (fun e => absurd e.1 (Int32.not_le.mpr h1))).symm rfl rfl rfl
  · refine aw_iload_n d_Mo_isYear_4 rfl ?_
    refine aw_bipush (v := nI 10) d_Mo_isYear_5 (by decide) ?_
    refine aw_icmp_ge (tgt := 14) d_Mo_isYear_7 (by decide) (fun hc => ?_) (fun hc => ?_)
    · refine aw_iconst (v := nI 0) d_Mo_isYear_14 (by decide) ?_
      exact aw_zretE d_Mo_isYear_15 rfl rfl (bI_f (fun e => absurd hc (Int32.not_le.mpr e.2))).symm rfl rfl rfl
    · refine aw_iconst (v := nI 1) d_Mo_isYear_10 (by decide) ?_
      refine aw_goto (tgt := 15) d_Mo_isYear_11 (by decide) ?_
      exact aw_zretE d_Mo_isYear_15 rfl rfl (bI_t ⟨(i32_nlt _ _).mp h1, Int32.not_le.mp hc⟩).symm rfl rfl rfl
theorem c_Mo_isCountry (w : List am_C) (x : Int32) : am_ct y_Mo_isCountry 0 [.int x] (w) (some (.int (bI (iR x 4)))) (w) 0 0 := by
  refine am_ct.of rfl (Nat.le_of_ble_eq_true rfl) ?_
  refine aw_iload_n d_Mo_isCountry_0 rfl ?_
  refine aw_if_lt (tgt := 13) d_Mo_isCountry_1 (by decide) (fun h1 => ?_) (fun h1 => ?_)
  · refine aw_iconst (v := nI 0) d_Mo_isCountry_13 (by decide) ?_
    exact aw_zretE d_Mo_isCountry_14 rfl rfl (bI_f (fun e => absurd e.1 (Int32.not_le.mpr h1))).symm rfl rfl rfl
  · refine aw_iload_n d_Mo_isCountry_4 rfl ?_
    refine aw_iconst (v := nI 4) d_Mo_isCountry_5 (by decide) ?_
    refine aw_icmp_ge (tgt := 13) d_Mo_isCountry_6 (by decide) (fun hc => ?_) (fun hc => ?_)
    · refine aw_iconst (v := nI 0) d_Mo_isCountry_13 (by decide) ?_
      exact aw_zretE d_Mo_isCountry_14 rfl rfl (bI_f (fun e => absurd hc (Int32.not_le.mpr e.2))).symm rfl rfl rfl
    · refine aw_iconst (v := nI 1) d_Mo_isCountry_9 (by decide) ?_
      refine aw_goto (tgt := 14) d_Mo_isCountry_10 (by decide) ?_
      exact aw_zretE d_Mo_isCountry_14 rfl rfl (bI_t ⟨(i32_nlt _ _).mp h1, Int32.not_le.mp hc⟩).symm rfl rfl rfl
theorem c_Mo_isIn (w : List am_C) (g l m : Int64) : am_ct y_Mo_isIn 0 [.long g, .long l, .long m] (w) (some (.int (bI (iW g l m)))) (w) 0 0 := by
  refine am_ct.of rfl (Nat.le_of_ble_eq_true rfl) ?_
  refine aw_lload_n d_Mo_isIn_0 rfl ?_
  refine aw_lload_n d_Mo_isIn_1 rfl ?_
  refine aw_lc_lt (tgt := 17) d_Mo_isIn_2 d_Mo_isIn_3 (by decide) (fun h3 => ?_) (fun h3 => ?_)
  · refine aw_iconst (v := nI 0) d_Mo_isIn_17 (by decide) ?_
    exact aw_zretE d_Mo_isIn_18 rfl rfl (bI_f (fun e => (i64_nlt _ _).mpr e.1 h3)).symm rfl rfl rfl
  · refine aw_lload_n d_Mo_isIn_6 rfl ?_
    refine aw_lload d_Mo_isIn_7 rfl ?_
    refine aw_lc_gt (tgt := 17) d_Mo_isIn_9 d_Mo_isIn_10 (by decide) (fun h10 => ?_) (fun h10 => ?_)
    · refine aw_iconst (v := nI 0) d_Mo_isIn_17 (by decide) ?_
      exact aw_zretE d_Mo_isIn_18 rfl rfl (bI_f (fun e => (i64_nlt _ _).mpr e.2 h10)).symm rfl rfl rfl
    · refine aw_iconst (v := nI 1) d_Mo_isIn_13 (by decide) ?_
      refine aw_goto (tgt := 18) d_Mo_isIn_14 (by decide) ?_
      exact aw_zretE d_Mo_isIn_18 rfl rfl (bI_t ⟨(i64_nlt _ _).mp h3, (i64_nlt _ _).mp h10⟩).symm rfl rfl rfl
theorem c_Mo_isPlant (C S : cs_S) (x : Int32) : am_ct y_Mo_isPlant 0 [.ref 36, .int x] (cs_w C ++ ms_w S) (some (.int (bI (mP S x)))) (cs_w C ++ ms_w S) 0 0 := by
  refine am_ct.of rfl (Nat.le_of_ble_eq_true rfl) ?_
  refine aw_iload_n d_Mo_isPlant_0 rfl ?_
  refine aw_if_lt (tgt := 16) d_Mo_isPlant_1 (by decide) (fun h1 => ?_) (fun h1 => ?_)
  · refine aw_iconst (v := nI 0) d_Mo_isPlant_16 (by decide) ?_
    exact aw_zretE d_Mo_isPlant_17 rfl rfl (bI_f (fun e => absurd e.1 (Int32.not_le.mpr h1))).symm rfl rfl rfl
  · refine aw_iload_n d_Mo_isPlant_4 rfl ?_
    refine aw_aload_n d_Mo_isPlant_5 rfl ?_
    refine aw_get d_Mo_isPlant_6 fl_Mo_72 rfl rfl ?_
    refine aw_icmp_ge (tgt := 16) d_Mo_isPlant_9 (by decide) (fun h9 => ?_) (fun h9 => ?_)
    · refine aw_iconst (v := nI 0) d_Mo_isPlant_16 (by decide) ?_
      exact aw_zretE d_Mo_isPlant_17 rfl rfl (bI_f (fun e => absurd h9 (Int32.not_le.mpr e.2))).symm rfl rfl rfl
    · refine aw_iconst (v := nI 1) d_Mo_isPlant_12 (by decide) ?_
      refine aw_goto (tgt := 17) d_Mo_isPlant_13 (by decide) ?_
      exact aw_zretE d_Mo_isPlant_17 rfl rfl (bI_t ⟨(i32_nlt _ _).mp h1, Int32.not_le.mp h9⟩).symm rfl rfl rfl
theorem c_Mo_isFraction (w : List am_C) (a b : Int64) : am_ct y_Mo_isFraction 1 [.long a, .long b] (w) (some (.int (bI (iF a b)))) (w) 0 0 := by
  refine am_ct.of rfl (Nat.le_of_ble_eq_true rfl) ?_
  refine aw_lload_n d_Mo_isFraction_0 rfl ?_
  refine aw_lconst (v := lN 1) d_Mo_isFraction_1 rfl ?_
  refine aw_lc_eq (tgt := 30) d_Mo_isFraction_2 d_Mo_isFraction_3 (by decide) (fun h3 => ?_) (fun h3 => ?_)
  · refine aw_lload_n d_Mo_isFraction_30 rfl ?_
    refine aw_lconst (v := lN 0) d_Mo_isFraction_31 rfl ?_
    refine aw_lload_n d_Mo_isFraction_32 rfl ?_
    refine aw_cS1 d_Mo_isFraction_33 (c_Mo_isIn _ a (lN 0) b) mk_Mo_isIn is_Mo_isIn ln_Mo_82 rfl rfl (Nat.le_of_ble_eq_true rfl) (Nat.le_of_ble_eq_true rfl) (Nat.le_of_ble_eq_true rfl) (Nat.le_of_ble_eq_true rfl) ?_
    refine aw_if_eq (tgt := 43) d_Mo_isFraction_36 (by decide) (fun h36 => ?_) (fun h36 => ?_)
    · refine aw_iconst (v := nI 0) d_Mo_isFraction_43 (by decide) ?_
      exact aw_zretE d_Mo_isFraction_44 rfl rfl (bI_f (fun e => (bI_0 _).mp h36 e.2)).symm rfl rfl rfl
    · refine aw_iconst (v := nI 1) d_Mo_isFraction_39 (by decide) ?_
      refine aw_goto (tgt := 44) d_Mo_isFraction_40 (by decide) ?_
      exact aw_zretE d_Mo_isFraction_44 rfl rfl (bI_t ⟨Or.inl h3, bI_n h36⟩).symm rfl rfl rfl
  · refine aw_lload_n d_Mo_isFraction_6 rfl ?_
    refine aw_ldc2 (v := lN 2) d_Mo_isFraction_7 kl_Mo_76 ?_
    refine aw_lc_eq (tgt := 30) d_Mo_isFraction_10 d_Mo_isFraction_11 (by decide) (fun h11 => ?_) (fun h11 => ?_)
    · refine aw_lload_n d_Mo_isFraction_30 rfl ?_
      refine aw_lconst (v := lN 0) d_Mo_isFraction_31 rfl ?_
      refine aw_lload_n d_Mo_isFraction_32 rfl ?_
      refine aw_cS1 d_Mo_isFraction_33 (c_Mo_isIn _ a (lN 0) b) mk_Mo_isIn is_Mo_isIn ln_Mo_82 rfl rfl (Nat.le_of_ble_eq_true rfl) (Nat.le_of_ble_eq_true rfl) (Nat.le_of_ble_eq_true rfl) (Nat.le_of_ble_eq_true rfl) ?_
      refine aw_if_eq (tgt := 43) d_Mo_isFraction_36 (by decide) (fun h36 => ?_) (fun h36 => ?_)
      · refine aw_iconst (v := nI 0) d_Mo_isFraction_43 (by decide) ?_
        exact aw_zretE d_Mo_isFraction_44 rfl rfl (bI_f (fun e => (bI_0 _).mp h36 e.2)).symm rfl rfl rfl
      · refine aw_iconst (v := nI 1) d_Mo_isFraction_39 (by decide) ?_
        refine aw_goto (tgt := 44) d_Mo_isFraction_40 (by decide) ?_
        exact aw_zretE d_Mo_isFraction_44 rfl rfl (bI_t ⟨Or.inr (Or.inl h11), bI_n h36⟩).symm rfl rfl rfl
    · refine aw_lload_n d_Mo_isFraction_14 rfl ?_
      refine aw_ldc2 (v := lN 5) d_Mo_isFraction_15 kl_Mo_78 ?_
      refine aw_lc_eq (tgt := 30) d_Mo_isFraction_18 d_Mo_isFraction_19 (by decide) (fun h19 => ?_) (fun h19 => ?_)
      · refine aw_lload_n d_Mo_isFraction_30 rfl ?_
        refine aw_lconst (v := lN 0) d_Mo_isFraction_31 rfl ?_
        refine aw_lload_n d_Mo_isFraction_32 rfl ?_
        refine aw_cS1 d_Mo_isFraction_33 (c_Mo_isIn _ a (lN 0) b) mk_Mo_isIn is_Mo_isIn ln_Mo_82 rfl rfl (Nat.le_of_ble_eq_true rfl) (Nat.le_of_ble_eq_true rfl) (Nat.le_of_ble_eq_true rfl) (Nat.le_of_ble_eq_true rfl) ?_
        refine aw_if_eq (tgt := 43) d_Mo_isFraction_36 (by decide) (fun h36 => ?_) (fun h36 => ?_)
        · refine aw_iconst (v := nI 0) d_Mo_isFraction_43 (by decide) ?_
          exact aw_zretE d_Mo_isFraction_44 rfl rfl (bI_f (fun e => (bI_0 _).mp h36 e.2)).symm rfl rfl rfl
        · refine aw_iconst (v := nI 1) d_Mo_isFraction_39 (by decide) ?_
          refine aw_goto (tgt := 44) d_Mo_isFraction_40 (by decide) ?_
          exact aw_zretE d_Mo_isFraction_44 rfl rfl (bI_t ⟨Or.inr (Or.inr (Or.inl h19)), bI_n h36⟩).symm rfl rfl rfl
      · refine aw_lload_n d_Mo_isFraction_22 rfl ?_
        refine aw_ldc2 (v := lN 10) d_Mo_isFraction_23 kl_Mo_80 ?_
        refine aw_lc_ne (tgt := 43) d_Mo_isFraction_26 d_Mo_isFraction_27 (by decide) (fun h27 => ?_) (fun h27 => ?_)
        · refine aw_iconst (v := nI 0) d_Mo_isFraction_43 (by decide) ?_
          exact aw_zretE d_Mo_isFraction_44 rfl rfl (bI_f (fun e => e.1.elim h3 (fun e => e.elim h11 (fun e => e.elim h19 h27)))).symm rfl rfl rfl
        · refine aw_lload_n d_Mo_isFraction_30 rfl ?_
          refine aw_lconst (v := lN 0) d_Mo_isFraction_31 rfl ?_
          refine aw_lload_n d_Mo_isFraction_32 rfl ?_
          refine aw_cS1 d_Mo_isFraction_33 (c_Mo_isIn _ a (lN 0) b) mk_Mo_isIn is_Mo_isIn ln_Mo_82 rfl rfl (Nat.le_of_ble_eq_true rfl) (Nat.le_of_ble_eq_true rfl) (Nat.le_of_ble_eq_true rfl) (Nat.le_of_ble_eq_true rfl) ?_
          refine aw_if_eq (tgt := 43) d_Mo_isFraction_36 (by decide) (fun h36 => ?_) (fun h36 => ?_)
          · refine aw_iconst (v := nI 0) d_Mo_isFraction_43 (by decide) ?_
            exact aw_zretE d_Mo_isFraction_44 rfl rfl (bI_f (fun e => (bI_0 _).mp h36 e.2)).symm rfl rfl rfl
          · refine aw_iconst (v := nI 1) d_Mo_isFraction_39 (by decide) ?_
            refine aw_goto (tgt := 44) d_Mo_isFraction_40 (by decide) ?_
            exact aw_zretE d_Mo_isFraction_44 rfl rfl (bI_t ⟨Or.inr (Or.inr (Or.inr h27)), bI_n h36⟩).symm rfl rfl rfl
theorem c_Mo_plant (C S : cs_S) : am_ct y_Mo_plant 0 [.ref 36] (cs_w C ++ ms_w S) (some (.int (if S.2.2 0 = nI 5 then -1 else S.2.2 0 + nI 1 - nI 1))) (cs_w C ++ ms_w (if S.2.2 0 = nI 5 then S else cs_F S 0 (S.2.2 0 + nI 1))) 0 0 := by
  refine am_ct.of rfl (Nat.le_of_ble_eq_true rfl) ?_
  refine aw_aload_n d_Mo_plant_0 rfl ?_
  refine aw_get d_Mo_plant_1 fl_Mo_72 rfl rfl ?_
  refine aw_iconst (v := nI 5) d_Mo_plant_4 (by decide) ?_
  refine aw_icmp_ne (tgt := 10) d_Mo_plant_5 (by decide) (fun h5 => ?_) (fun h5 => ?_)
  · refine aw_aload_n d_Mo_plant_10 rfl ?_
    refine aw_dup d_Mo_plant_11 rfl ?_
    refine aw_get d_Mo_plant_12 fl_Mo_72 rfl rfl ?_
    refine aw_iconst (v := nI 1) d_Mo_plant_15 (by decide) ?_
    refine aw_iadd d_Mo_plant_16 ?_
    refine aw_putW d_Mo_plant_17 fp_Mo_72 rfl (Nat.le_of_ble_eq_true rfl) (fun _ _ => ⟨rfl, rfl⟩) (ms_f36_0 _ _ _) ?_
    refine aw_aload_n d_Mo_plant_20 rfl ?_
    refine aw_get d_Mo_plant_21 fl_Mo_72 rfl rfl ?_
    refine aw_iconst (v := nI 1) d_Mo_plant_24 (by decide) ?_
    refine aw_isub d_Mo_plant_25 ?_
    exact aw_iretE d_Mo_plant_26 rfl (by rw [if_neg h5]; rfl) (by rw [if_neg h5]) rfl rfl
  · refine aw_iconst (v := -1) d_Mo_plant_8 (by decide) ?_
    exact aw_iretE d_Mo_plant_9 rfl (by rw [if_pos h5]) (by rw [if_pos h5]) rfl rfl
theorem lp_Mo_sh (C S : cs_S) (p t : Nat) (hp : p < 5) (ht : t < 5) (a b : Int64) (Z : am_E) (K : AW (am_Mof y_Mo_share) 2 0 0 71 [(8, .int (nI 5)), (7, .int (ma_f (S.1 37) p t 5)), (0, .ref 36), (1, .int (nI p)), (2, .int (nI t)), (3, .long a), (5, .long b)] [] (cs_w C ++ ms_w S) 0 0 Z) : ∀ (n q : Nat), q + n = 5 → AW (am_Mof y_Mo_share) 2 0 0 33 [(8, .int (nI q)), (7, .int (ma_f (S.1 37) p t q)), (0, .ref 36), (1, .int (nI p)), (2, .int (nI t)), (3, .long a), (5, .long b)] [] (cs_w C ++ ms_w S) 0 0 Z := by
  intro n
  induction n with
  | zero =>
    intro q hq
    obtain rfl : q = 5 := by omega
    refine aw_iload d_Mo_share_33 rfl ?_
    refine aw_iconst (v := nI 5) d_Mo_share_35 (by decide) ?_
    refine aw_icmp_ge (tgt := 71) d_Mo_share_36 (by decide) (fun h36 => ?_) (fun h36 => absurd (nI_le (Nat.le_refl 5) (by omega)) h36)
    exact K
  | succ n ih =>
    intro q hq
    refine aw_iload d_Mo_share_33 rfl ?_
    refine aw_iconst (v := nI 5) d_Mo_share_35 (by decide) ?_
    refine aw_icmp_ge (tgt := 71) d_Mo_share_36 (by decide) (fun h36 => absurd h36 (nI_ge (by omega) (by omega))) (fun h36 => ?_)
    refine aw_iload d_Mo_share_39 rfl ?_
    refine aw_iload d_Mo_share_41 rfl ?_
    refine aw_iload_n d_Mo_share_43 rfl ?_
    refine aw_icmp_ne (tgt := 51) d_Mo_share_44 (by decide) (fun h44 => ?_) (fun h44 => ?_)
    · have hqt : ¬ q = t := fun e => h44 (by rw [e])
      refine aw_aload_n d_Mo_share_51 rfl ?_
      refine aw_get d_Mo_share_52 fl_Mo_7 rfl rfl ?_
      refine aw_iconst (v := nI 5) d_Mo_share_55 (by decide) ?_
      refine aw_iload_n d_Mo_share_56 rfl ?_
      refine aw_imul d_Mo_share_57 ?_
      try simp only [pk_mul, nI_add]
      refine aw_iload d_Mo_share_58 rfl ?_
      refine aw_iadd d_Mo_share_60 ?_
      try simp only [pk_mul, nI_add]
      refine aw_ialdN d_Mo_share_61 rfl (by omega) (Nat.le_of_ble_eq_true rfl) ?_
      refine aw_eqs (st' := [.int (if q = t then nI 0 else S.1 37 (5 * p + q)), .int (ma_f (S.1 37) p t q)]) (by rw [if_neg hqt]) ?_
      refine aw_iadd d_Mo_share_62 ?_
      refine aw_istore d_Mo_share_63 (Nat.le_of_ble_eq_true rfl) ?_
      refine aw_iinc d_Mo_share_65 rfl (nI_1 _) (Nat.le_of_ble_eq_true rfl) ?_
      refine aw_goto (tgt := 33) d_Mo_share_68 (by decide) ?_
      exact aw_eql rfl (ih (q + 1) (by omega))
    · have hqt : q = t := (nI_eq (by omega) (by omega)).mp h44
      refine aw_iconst (v := nI 0) d_Mo_share_47 (by decide) ?_
      refine aw_goto (tgt := 62) d_Mo_share_48 (by decide) ?_
      refine aw_eqs (st' := [.int (if q = t then nI 0 else S.1 37 (5 * p + q)), .int (ma_f (S.1 37) p t q)]) (by rw [if_pos hqt]) ?_
      refine aw_iadd d_Mo_share_62 ?_
      refine aw_istore d_Mo_share_63 (Nat.le_of_ble_eq_true rfl) ?_
      refine aw_iinc d_Mo_share_65 rfl (nI_1 _) (Nat.le_of_ble_eq_true rfl) ?_
      refine aw_goto (tgt := 33) d_Mo_share_68 (by decide) ?_
      exact aw_eql rfl (ih (q + 1) (by omega))
abbrev mk_share (S : cs_S) (x t : Int32) (a b : Int64) : Prop := mP S x ∧ mP S t ∧ iF a b
abbrev ms_c (S : cs_S) (x t : Int32) (a b : Int64) : Prop := ma_f (S.1 37) (cN x) (cN t) 5 + mt_n a b ≤ nI 10
theorem c_Mo_share (C S : cs_S) (x t : Int32) (a b : Int64) (n1 : Nat) (hn1 : S.2.2 0 = nI n1) (hn5 : n1 ≤ 5) : am_ct y_Mo_share 2 [.ref 36, .int x, .int t, .long a, .long b] (cs_w C ++ ms_w S) (some (.int (bI (mk_share S x t a b ∧ ms_c S x t a b)))) (cs_w C ++ ms_w (if mk_share S x t a b ∧ ms_c S x t a b then cs_I S 37 (upd (S.1 37) (5 * cN x + cN t) (mt_n a b)) else S)) 0 0 := by
  refine am_ct.of rfl (Nat.le_of_ble_eq_true rfl) ?_
  refine aw_aload_n d_Mo_share_0 rfl ?_
  refine aw_iload_n d_Mo_share_1 rfl ?_
  refine aw_cV1 d_Mo_share_2 (c_Mo_isPlant C S x) mk_Mo_isPlant is_Mo_isPlant ln_Mo_86 rfl rfl rfl rfl (Nat.le_of_ble_eq_true rfl) (Nat.le_of_ble_eq_true rfl) (Nat.le_of_ble_eq_true rfl) (Nat.le_of_ble_eq_true rfl) ?_
  refine aw_if_eq (tgt := 25) d_Mo_share_5 (by decide) (fun h5 => ?_) (fun h5 => ?_)
  · refine aw_iconst (v := nI 0) d_Mo_share_25 (by decide) ?_
    exact aw_zretE d_Mo_share_26 rfl rfl (bI_f (fun c => (bI_0 _).mp h5 c.1.1)).symm (by rw [if_neg (fun c => (bI_0 _).mp h5 c.1.1)]) rfl rfl
  · refine aw_aload_n d_Mo_share_8 rfl ?_
    refine aw_iload_n d_Mo_share_9 rfl ?_
    refine aw_cV1 d_Mo_share_10 (c_Mo_isPlant C S t) mk_Mo_isPlant is_Mo_isPlant ln_Mo_86 rfl rfl rfl rfl (Nat.le_of_ble_eq_true rfl) (Nat.le_of_ble_eq_true rfl) (Nat.le_of_ble_eq_true rfl) (Nat.le_of_ble_eq_true rfl) ?_
    refine aw_if_eq (tgt := 25) d_Mo_share_13 (by decide) (fun h13 => ?_) (fun h13 => ?_)
    · refine aw_iconst (v := nI 0) d_Mo_share_25 (by decide) ?_
      exact aw_zretE d_Mo_share_26 rfl rfl (bI_f (fun c => (bI_0 _).mp h13 c.1.2.1)).symm (by rw [if_neg (fun c => (bI_0 _).mp h13 c.1.2.1)]) rfl rfl
    · refine aw_lload_n d_Mo_share_16 rfl ?_
      refine aw_lload d_Mo_share_17 rfl ?_
      refine aw_cS1 d_Mo_share_19 (c_Mo_isFraction _ a b) mk_Mo_isFraction is_Mo_isFraction ln_Mo_90 rfl rfl (Nat.le_of_ble_eq_true rfl) (Nat.le_of_ble_eq_true rfl) (Nat.le_of_ble_eq_true rfl) (Nat.le_of_ble_eq_true rfl) ?_
      refine aw_if_ne (tgt := 27) d_Mo_share_22 (by decide) (fun h22 => ?_) (fun h22 => ?_)
      · have hok : mk_share S x t a b := ⟨bI_n h5, bI_n h13, bI_n h22⟩
        obtain ⟨p, hp, ep⟩ := mP_ex hok.1 hn1 hn5
        obtain ⟨q, hq, eq⟩ := mP_ex hok.2.1 hn1 hn5
        subst ep
        subst eq
        unfold ms_c
        rw [cN_nI (n := p) (by omega), cN_nI (n := q) (by omega)]
        refine aw_iconst (v := nI 0) d_Mo_share_27 (by decide) ?_
        refine aw_istore d_Mo_share_28 (Nat.le_of_ble_eq_true rfl) ?_
        refine aw_iconst (v := nI 0) d_Mo_share_30 (by decide) ?_
        refine aw_istore d_Mo_share_31 (Nat.le_of_ble_eq_true rfl) ?_
        refine aw_pick (lv' := [(8, .int (nI 0)), (7, .int (ma_f (S.1 37) p q 0)), (0, .ref 36), (1, .int (nI p)), (2, .int (nI q)), (3, .long a), (5, .long b)]) ⟨rfl, rfl, rfl, rfl, rfl, rfl, rfl, trivial⟩ ?_
        refine lp_Mo_sh C S p q (by omega) (by omega) a b _ ?_ 5 0 rfl
        refine aw_ldc2 (v := lN 10) d_Mo_share_71 kl_Mo_80 ?_
        refine aw_lload d_Mo_share_74 rfl ?_
        refine aw_ldiv d_Mo_share_76 (iF_ne hok.2.2) ?_
        refine aw_lload_n d_Mo_share_77 rfl ?_
        refine aw_lmul d_Mo_share_78 ?_
        refine aw_l2i d_Mo_share_79 ?_
        refine aw_istore d_Mo_share_80 (Nat.le_of_ble_eq_true rfl) ?_
        refine aw_iload d_Mo_share_82 rfl ?_
        refine aw_iload d_Mo_share_84 rfl ?_
        refine aw_iadd d_Mo_share_86 ?_
        refine aw_bipush (v := nI 10) d_Mo_share_87 (by decide) ?_
        refine aw_icmp_le (tgt := 94) d_Mo_share_89 (by decide) (fun h89 => ?_) (fun h89 => ?_)
        · refine aw_aload_n d_Mo_share_94 rfl ?_
          refine aw_get d_Mo_share_95 fl_Mo_7 rfl rfl ?_
          refine aw_iconst (v := nI 5) d_Mo_share_98 (by decide) ?_
          refine aw_iload_n d_Mo_share_99 rfl ?_
          refine aw_imul d_Mo_share_100 ?_
          try simp only [pk_mul, nI_add]
          refine aw_iload_n d_Mo_share_101 rfl ?_
          refine aw_iadd d_Mo_share_102 ?_
          try simp only [pk_mul, nI_add]
          refine aw_iload d_Mo_share_103 rfl ?_
          refine aw_iastN d_Mo_share_105 rfl (by omega) (Nat.le_of_ble_eq_true rfl) (ms_s37 _ _ _) ?_
          refine aw_iconst (v := nI 1) d_Mo_share_106 (by decide) ?_
          exact aw_zretE d_Mo_share_107 rfl rfl (bI_t ⟨hok, h89⟩).symm (by rw [if_pos ⟨hok, h89⟩]) rfl rfl
        · refine aw_iconst (v := nI 0) d_Mo_share_92 (by decide) ?_
          exact aw_zretE d_Mo_share_93 rfl rfl (bI_f (fun c => h89 c.2)).symm (by rw [if_neg (fun c => h89 c.2)]) rfl rfl
      · refine aw_iconst (v := nI 0) d_Mo_share_25 (by decide) ?_
        exact aw_zretE d_Mo_share_26 rfl rfl (bI_f (fun c => (bI_0 _).mp h22 c.1.2.2)).symm (by rw [if_neg (fun c => (bI_0 _).mp h22 c.1.2.2)]) rfl rfl
theorem c_Mo_point (C S : cs_S) (x k : Int32) (n1 : Nat) (hn1 : S.2.2 0 = nI n1) (hn5 : n1 ≤ 5) : am_ct y_Mo_point 1 [.ref 36, .int x, .int k] (cs_w C ++ ms_w S) (some (.int (bI ((mP S x ∧ iR k 4) ∧ S.1 38 (4 * cN x + cN k) = 0)))) (cs_w C ++ ms_w (if (mP S x ∧ iR k 4) ∧ S.1 38 (4 * cN x + cN k) = 0 then cs_I S 38 (upd (S.1 38) (4 * cN x + cN k) 1) else S)) 0 0 := by
  refine am_ct.of rfl (Nat.le_of_ble_eq_true rfl) ?_
  refine aw_aload_n d_Mo_point_0 rfl ?_
  refine aw_iload_n d_Mo_point_1 rfl ?_
  refine aw_cV1 d_Mo_point_2 (c_Mo_isPlant C S x) mk_Mo_isPlant is_Mo_isPlant ln_Mo_86 rfl rfl rfl rfl (Nat.le_of_ble_eq_true rfl) (Nat.le_of_ble_eq_true rfl) (Nat.le_of_ble_eq_true rfl) (Nat.le_of_ble_eq_true rfl) ?_
  refine aw_if_eq (tgt := 28) d_Mo_point_5 (by decide) (fun h5 => ?_) (fun h5 => ?_)
  · refine aw_iconst (v := nI 0) d_Mo_point_28 (by decide) ?_
    exact aw_zretE d_Mo_point_29 rfl rfl (bI_f (fun c => (bI_0 _).mp h5 c.1.1)).symm (by rw [if_neg (fun c => (bI_0 _).mp h5 c.1.1)]) rfl rfl
  · refine aw_iload_n d_Mo_point_8 rfl ?_
    refine aw_cS1 d_Mo_point_9 (c_Mo_isKind _ k) mk_Mo_isKind is_Mo_isKind ln_Mo_94 rfl rfl (Nat.le_of_ble_eq_true rfl) (Nat.le_of_ble_eq_true rfl) (Nat.le_of_ble_eq_true rfl) (Nat.le_of_ble_eq_true rfl) ?_
    refine aw_if_eq (tgt := 28) d_Mo_point_12 (by decide) (fun h12 => ?_) (fun h12 => ?_)
    · refine aw_iconst (v := nI 0) d_Mo_point_28 (by decide) ?_
      exact aw_zretE d_Mo_point_29 rfl rfl (bI_f (fun c => (bI_0 _).mp h12 c.1.2)).symm (by rw [if_neg (fun c => (bI_0 _).mp h12 c.1.2)]) rfl rfl
    · have hok : mP S x ∧ iR k 4 := ⟨bI_n h5, bI_n h12⟩
      obtain ⟨p, hp, ep⟩ := mP_ex hok.1 hn1 hn5
      obtain ⟨q, hq, eq⟩ := in_ex hok.2 (by decide)
      subst ep
      subst eq
      rw [cN_nI (n := p) (by omega), cN_nI (n := q) (by omega)]
      refine aw_aload_n d_Mo_point_15 rfl ?_
      refine aw_get d_Mo_point_16 fl_Mo_13 rfl rfl ?_
      refine aw_iconst (v := nI 4) d_Mo_point_19 (by decide) ?_
      refine aw_iload_n d_Mo_point_20 rfl ?_
      refine aw_imul d_Mo_point_21 ?_
      try simp only [pk_mul, nI_add]
      refine aw_iload_n d_Mo_point_22 rfl ?_
      refine aw_iadd d_Mo_point_23 ?_
      try simp only [pk_mul, nI_add]
      refine aw_zaldN d_Mo_point_24 rfl (by omega) (Nat.le_of_ble_eq_true rfl) ?_
      refine aw_if_eq (tgt := 30) d_Mo_point_25 (by decide) (fun h25 => ?_) (fun h25 => ?_)
      · refine aw_aload_n d_Mo_point_30 rfl ?_
        refine aw_get d_Mo_point_31 fl_Mo_13 rfl rfl ?_
        refine aw_iconst (v := nI 4) d_Mo_point_34 (by decide) ?_
        refine aw_iload_n d_Mo_point_35 rfl ?_
        refine aw_imul d_Mo_point_36 ?_
        try simp only [pk_mul, nI_add]
        refine aw_iload_n d_Mo_point_37 rfl ?_
        refine aw_iadd d_Mo_point_38 ?_
        try simp only [pk_mul, nI_add]
        refine aw_iconst (v := nI 1) d_Mo_point_39 (by decide) ?_
        refine aw_zastN d_Mo_point_40 rfl (by omega) (Nat.le_of_ble_eq_true rfl) (ms_s38 _ _ _) ?_
        refine aw_iconst (v := nI 1) d_Mo_point_41 (by decide) ?_
        exact aw_zretE d_Mo_point_42 rfl rfl (bI_t ⟨hok, h25⟩).symm (by rw [if_pos ⟨hok, h25⟩]; rfl) rfl rfl
      · refine aw_iconst (v := nI 0) d_Mo_point_28 (by decide) ?_
        exact aw_zretE d_Mo_point_29 rfl rfl (bI_f (fun c => h25 c.2)).symm (by rw [if_neg (fun c => h25 c.2)]) rfl rfl
theorem c_Mo_average (C S : cs_S) (x : Int32) (a b : Int64) (n1 : Nat) (hn1 : S.2.2 0 = nI n1) (hn5 : n1 ≤ 5) : am_ct y_Mo_average 2 [.ref 36, .int x, .long a, .long b] (cs_w C ++ ms_w S) (some (.int (bI (mP S x ∧ iF a b)))) (cs_w C ++ ms_w (if mP S x ∧ iF a b then cs_I (cs_I S 39 (upd (S.1 39) (cN x) 1)) 40 (upd (S.1 40) (cN x) (mt_n a b)) else S)) 0 0 := by
  refine am_ct.of rfl (Nat.le_of_ble_eq_true rfl) ?_
  refine aw_aload_n d_Mo_average_0 rfl ?_
  refine aw_iload_n d_Mo_average_1 rfl ?_
  refine aw_cV1 d_Mo_average_2 (c_Mo_isPlant C S x) mk_Mo_isPlant is_Mo_isPlant ln_Mo_86 rfl rfl rfl rfl (Nat.le_of_ble_eq_true rfl) (Nat.le_of_ble_eq_true rfl) (Nat.le_of_ble_eq_true rfl) (Nat.le_of_ble_eq_true rfl) ?_
  refine aw_if_eq (tgt := 17) d_Mo_average_5 (by decide) (fun h5 => ?_) (fun h5 => ?_)
  · refine aw_iconst (v := nI 0) d_Mo_average_17 (by decide) ?_
    exact aw_zretE d_Mo_average_18 rfl rfl (bI_f (fun c => (bI_0 _).mp h5 c.1)).symm (by rw [if_neg (fun c => (bI_0 _).mp h5 c.1)]) rfl rfl
  · refine aw_lload_n d_Mo_average_8 rfl ?_
    refine aw_lload d_Mo_average_9 rfl ?_
    refine aw_cS1 d_Mo_average_11 (c_Mo_isFraction _ a b) mk_Mo_isFraction is_Mo_isFraction ln_Mo_90 rfl rfl (Nat.le_of_ble_eq_true rfl) (Nat.le_of_ble_eq_true rfl) (Nat.le_of_ble_eq_true rfl) (Nat.le_of_ble_eq_true rfl) ?_
    refine aw_if_ne (tgt := 19) d_Mo_average_14 (by decide) (fun h14 => ?_) (fun h14 => ?_)
    · have hok : mP S x ∧ iF a b := ⟨bI_n h5, bI_n h14⟩
      obtain ⟨p, hp, ep⟩ := mP_ex hok.1 hn1 hn5
      subst ep
      rw [cN_nI (n := p) (by omega)]
      refine aw_aload_n d_Mo_average_19 rfl ?_
      refine aw_get d_Mo_average_20 fl_Mo_17 rfl rfl ?_
      refine aw_iload_n d_Mo_average_23 rfl ?_
      refine aw_iconst (v := nI 1) d_Mo_average_24 (by decide) ?_
      refine aw_zastN d_Mo_average_25 rfl (by omega) (Nat.le_of_ble_eq_true rfl) (ms_s39 _ _ _) ?_
      refine aw_aload_n d_Mo_average_26 rfl ?_
      refine aw_get d_Mo_average_27 fl_Mo_20 rfl rfl ?_
      refine aw_iload_n d_Mo_average_30 rfl ?_
      refine aw_ldc2 (v := lN 10) d_Mo_average_31 kl_Mo_80 ?_
      refine aw_lload d_Mo_average_34 rfl ?_
      refine aw_ldiv d_Mo_average_36 (iF_ne hok.2) ?_
      refine aw_lload_n d_Mo_average_37 rfl ?_
      refine aw_lmul d_Mo_average_38 ?_
      refine aw_l2i d_Mo_average_39 ?_
      refine aw_iastN d_Mo_average_40 rfl (by omega) (Nat.le_of_ble_eq_true rfl) (ms_s40 _ _ _) ?_
      refine aw_iconst (v := nI 1) d_Mo_average_41 (by decide) ?_
      exact aw_zretE d_Mo_average_42 rfl rfl (bI_t hok).symm (by rw [if_pos hok]; rfl) rfl rfl
    · refine aw_iconst (v := nI 0) d_Mo_average_17 (by decide) ?_
      exact aw_zretE d_Mo_average_18 rfl rfl (bI_f (fun c => (bI_0 _).mp h14 c.2)).symm (by rw [if_neg (fun c => (bI_0 _).mp h14 c.2)]) rfl rfl
abbrev mk_feed (S : cs_S) (x k : Int32) (g : Int64) (y c : Int32) : Prop := mP S x ∧ iR k 4 ∧ iW g (lN 0) (lN 1000000000) ∧ iR y 10 ∧ iR c 4
theorem c_Mo_feed (C S : cs_S) (x k : Int32) (g : Int64) (y c : Int32) (n : Nat) (hn : S.2.2 5 = nI n) (h60 : n ≤ 60) : am_ct y_Mo_feed 1 [.ref 36, .int x, .int k, .long g, .int y, .int c] (cs_w C ++ ms_w S) (some (.int (bI (mk_feed S x k g y c ∧ n < 60)))) (cs_w C ++ ms_w (if mk_feed S x k g y c ∧ n < 60 then cs_F (cs_I (cs_I (cs_J (cs_I (cs_I S 41 (upd (S.1 41) n x)) 42 (upd (S.1 42) n k)) 45 (vp_updL (S.2.1 45) n g)) 43 (upd (S.1 43) n y)) 44 (upd (S.1 44) n c)) 5 (nI (n + 1)) else S)) 0 0 := by
  refine am_ct.of rfl (Nat.le_of_ble_eq_true rfl) ?_
  refine aw_aload_n d_Mo_feed_0 rfl ?_
  refine aw_get d_Mo_feed_1 fl_Mo_97 rfl rfl ?_
  refine aw_eqs (congrArg (fun z => Value.int z :: _) hn) ?_
  refine aw_bipush (v := nI 60) d_Mo_feed_4 (by decide) ?_
  refine aw_icmp_eq (tgt := 51) d_Mo_feed_6 (by decide) (fun h6 => ?_) (fun h6 => ?_)
  · have h6 : ¬ n < 60 := by have := (nI_eq (by omega) (by omega)).mp h6; omega
    refine aw_iconst (v := nI 0) d_Mo_feed_51 (by decide) ?_
    exact aw_zretE d_Mo_feed_52 rfl rfl (bI_f (fun e => h6 e.2)).symm (by rw [if_neg (fun e => h6 e.2)]) rfl rfl
  · have h6 : n < 60 := by rcases Nat.lt_or_ge n 60 with h | h; exact h; exact absurd (by rw [show n = 60 by omega]) h6
    refine aw_aload_n d_Mo_feed_9 rfl ?_
    refine aw_iload_n d_Mo_feed_10 rfl ?_
    refine aw_cV1 d_Mo_feed_11 (c_Mo_isPlant C S x) mk_Mo_isPlant is_Mo_isPlant ln_Mo_86 rfl rfl rfl rfl (Nat.le_of_ble_eq_true rfl) (Nat.le_of_ble_eq_true rfl) (Nat.le_of_ble_eq_true rfl) (Nat.le_of_ble_eq_true rfl) ?_
    refine aw_if_eq (tgt := 51) d_Mo_feed_14 (by decide) (fun h14 => ?_) (fun h14 => ?_)
    · refine aw_iconst (v := nI 0) d_Mo_feed_51 (by decide) ?_
      exact aw_zretE d_Mo_feed_52 rfl rfl (bI_f (fun e => (bI_0 _).mp h14 e.1.1)).symm (by rw [if_neg (fun e => (bI_0 _).mp h14 e.1.1)]) rfl rfl
    · refine aw_iload_n d_Mo_feed_17 rfl ?_
      refine aw_cS1 d_Mo_feed_18 (c_Mo_isKind _ k) mk_Mo_isKind is_Mo_isKind ln_Mo_94 rfl rfl (Nat.le_of_ble_eq_true rfl) (Nat.le_of_ble_eq_true rfl) (Nat.le_of_ble_eq_true rfl) (Nat.le_of_ble_eq_true rfl) ?_
      refine aw_if_eq (tgt := 51) d_Mo_feed_21 (by decide) (fun h21 => ?_) (fun h21 => ?_)
      · refine aw_iconst (v := nI 0) d_Mo_feed_51 (by decide) ?_
        exact aw_zretE d_Mo_feed_52 rfl rfl (bI_f (fun e => (bI_0 _).mp h21 e.1.2.1)).symm (by rw [if_neg (fun e => (bI_0 _).mp h21 e.1.2.1)]) rfl rfl
      · refine aw_lload_n d_Mo_feed_24 rfl ?_
        refine aw_lconst (v := lN 0) d_Mo_feed_25 rfl ?_
        refine aw_ldc2 (v := lN 1000000000) d_Mo_feed_26 kl_Mo_100 ?_
        refine aw_cS1 d_Mo_feed_29 (c_Mo_isIn _ g (lN 0) (lN 1000000000)) mk_Mo_isIn is_Mo_isIn ln_Mo_82 rfl rfl (Nat.le_of_ble_eq_true rfl) (Nat.le_of_ble_eq_true rfl) (Nat.le_of_ble_eq_true rfl) (Nat.le_of_ble_eq_true rfl) ?_
        refine aw_if_eq (tgt := 51) d_Mo_feed_32 (by decide) (fun h32 => ?_) (fun h32 => ?_)
        · refine aw_iconst (v := nI 0) d_Mo_feed_51 (by decide) ?_
          exact aw_zretE d_Mo_feed_52 rfl rfl (bI_f (fun e => (bI_0 _).mp h32 e.1.2.2.1)).symm (by rw [if_neg (fun e => (bI_0 _).mp h32 e.1.2.2.1)]) rfl rfl
        · refine aw_iload d_Mo_feed_35 rfl ?_
          refine aw_cS1 d_Mo_feed_37 (c_Mo_isYear _ y) mk_Mo_isYear is_Mo_isYear ln_Mo_102 rfl rfl (Nat.le_of_ble_eq_true rfl) (Nat.le_of_ble_eq_true rfl) (Nat.le_of_ble_eq_true rfl) (Nat.le_of_ble_eq_true rfl) ?_
          refine aw_if_eq (tgt := 51) d_Mo_feed_40 (by decide) (fun h40 => ?_) (fun h40 => ?_)
          · refine aw_iconst (v := nI 0) d_Mo_feed_51 (by decide) ?_
            exact aw_zretE d_Mo_feed_52 rfl rfl (bI_f (fun e => (bI_0 _).mp h40 e.1.2.2.2.1)).symm (by rw [if_neg (fun e => (bI_0 _).mp h40 e.1.2.2.2.1)]) rfl rfl
          · refine aw_iload d_Mo_feed_43 rfl ?_
            refine aw_cS1 d_Mo_feed_45 (c_Mo_isCountry _ c) mk_Mo_isCountry is_Mo_isCountry ln_Mo_105 rfl rfl (Nat.le_of_ble_eq_true rfl) (Nat.le_of_ble_eq_true rfl) (Nat.le_of_ble_eq_true rfl) (Nat.le_of_ble_eq_true rfl) ?_
            refine aw_if_ne (tgt := 53) d_Mo_feed_48 (by decide) (fun h48 => ?_) (fun h48 => ?_)
            · refine aw_aload_n d_Mo_feed_53 rfl ?_
              refine aw_get d_Mo_feed_54 fl_Mo_23 rfl rfl ?_
              refine aw_aload_n d_Mo_feed_57 rfl ?_
              refine aw_get d_Mo_feed_58 fl_Mo_97 rfl rfl ?_
              refine aw_eqs (congrArg (fun z => Value.int z :: _) hn) ?_
              refine aw_iload_n d_Mo_feed_61 rfl ?_
              refine aw_iastN d_Mo_feed_62 rfl (by omega) (Nat.le_of_ble_eq_true rfl) (ms_s41 _ _ _) ?_
              refine aw_aload_n d_Mo_feed_63 rfl ?_
              refine aw_get d_Mo_feed_64 fl_Mo_26 rfl rfl ?_
              refine aw_aload_n d_Mo_feed_67 rfl ?_
              refine aw_get d_Mo_feed_68 fl_Mo_97 rfl rfl ?_
              refine aw_eqs (congrArg (fun z => Value.int z :: _) hn) ?_
              refine aw_iload_n d_Mo_feed_71 rfl ?_
              refine aw_iastN d_Mo_feed_72 rfl (by omega) (Nat.le_of_ble_eq_true rfl) (ms_s42 _ _ _) ?_
              refine aw_aload_n d_Mo_feed_73 rfl ?_
              refine aw_get d_Mo_feed_74 fl_Mo_35 rfl rfl ?_
              refine aw_aload_n d_Mo_feed_77 rfl ?_
              refine aw_get d_Mo_feed_78 fl_Mo_97 rfl rfl ?_
              refine aw_eqs (congrArg (fun z => Value.int z :: _) hn) ?_
              refine aw_lload_n d_Mo_feed_81 rfl ?_
              refine aw_lastN d_Mo_feed_82 rfl (by omega) (Nat.le_of_ble_eq_true rfl) (ms_s45 _ _ _) ?_
              refine aw_aload_n d_Mo_feed_83 rfl ?_
              refine aw_get d_Mo_feed_84 fl_Mo_29 rfl rfl ?_
              refine aw_aload_n d_Mo_feed_87 rfl ?_
              refine aw_get d_Mo_feed_88 fl_Mo_97 rfl rfl ?_
              refine aw_eqs (congrArg (fun z => Value.int z :: _) hn) ?_
              refine aw_iload d_Mo_feed_91 rfl ?_
              refine aw_iastN d_Mo_feed_93 rfl (by omega) (Nat.le_of_ble_eq_true rfl) (ms_s43 _ _ _) ?_
              refine aw_aload_n d_Mo_feed_94 rfl ?_
              refine aw_get d_Mo_feed_95 fl_Mo_32 rfl rfl ?_
              refine aw_aload_n d_Mo_feed_98 rfl ?_
              refine aw_get d_Mo_feed_99 fl_Mo_97 rfl rfl ?_
              refine aw_eqs (congrArg (fun z => Value.int z :: _) hn) ?_
              refine aw_iload d_Mo_feed_102 rfl ?_
              refine aw_iastN d_Mo_feed_104 rfl (by omega) (Nat.le_of_ble_eq_true rfl) (ms_s44 _ _ _) ?_
              refine aw_aload_n d_Mo_feed_105 rfl ?_
              refine aw_dup d_Mo_feed_106 rfl ?_
              refine aw_get d_Mo_feed_107 fl_Mo_97 rfl rfl ?_
              refine aw_eqs (congrArg (fun z => Value.int z :: _) hn) ?_
              refine aw_iconst (v := nI 1) d_Mo_feed_110 (by decide) ?_
              refine aw_iadd d_Mo_feed_111 ?_
              rw [nI_add]
              refine aw_putW d_Mo_feed_112 fp_Mo_97 rfl (Nat.le_of_ble_eq_true rfl) (fun _ _ => ⟨rfl, rfl⟩) (ms_f36_5 _ _ _) ?_
              refine aw_iconst (v := nI 1) d_Mo_feed_115 (by decide) ?_
              have hok : mk_feed S x k g y c ∧ n < 60 := ⟨⟨bI_n h14, bI_n h21, bI_n h32, bI_n h40, bI_n h48⟩, h6⟩
              exact aw_zretE d_Mo_feed_116 rfl rfl (bI_t hok).symm (by rw [if_pos hok]; rfl) rfl rfl
            · refine aw_iconst (v := nI 0) d_Mo_feed_51 (by decide) ?_
              exact aw_zretE d_Mo_feed_52 rfl rfl (bI_f (fun e => (bI_0 _).mp h48 e.1.2.2.2.2)).symm (by rw [if_neg (fun e => (bI_0 _).mp h48 e.1.2.2.2.2)]) rfl rfl
theorem c_Mo_metals (C S : cs_S) (y : Int32) (g : Int64) : am_ct y_Mo_metals 1 [.ref 36, .int y, .long g] (cs_w C ++ ms_w S) (some (.int (bI (iR y 10 ∧ iW g (lN 0) (lN 1000000000))))) (cs_w C ++ ms_w (if iR y 10 ∧ iW g (lN 0) (lN 1000000000) then cs_J S 46 (vp_updL (S.2.1 46) (cN y) g) else S)) 0 0 := by
  refine am_ct.of rfl (Nat.le_of_ble_eq_true rfl) ?_
  refine aw_iload_n d_Mo_metals_0 rfl ?_
  refine aw_cS1 d_Mo_metals_1 (c_Mo_isYear _ y) mk_Mo_isYear is_Mo_isYear ln_Mo_102 rfl rfl (Nat.le_of_ble_eq_true rfl) (Nat.le_of_ble_eq_true rfl) (Nat.le_of_ble_eq_true rfl) (Nat.le_of_ble_eq_true rfl) ?_
  refine aw_if_eq (tgt := 18) d_Mo_metals_4 (by decide) (fun h4 => ?_) (fun h4 => ?_)
  · refine aw_iconst (v := nI 0) d_Mo_metals_18 (by decide) ?_
    exact aw_zretE d_Mo_metals_19 rfl rfl (bI_f (fun c => (bI_0 _).mp h4 c.1)).symm (by rw [if_neg (fun c => (bI_0 _).mp h4 c.1)]) rfl rfl
  · refine aw_lload_n d_Mo_metals_7 rfl ?_
    refine aw_lconst (v := lN 0) d_Mo_metals_8 rfl ?_
    refine aw_ldc2 (v := lN 1000000000) d_Mo_metals_9 kl_Mo_100 ?_
    refine aw_cS1 d_Mo_metals_12 (c_Mo_isIn _ g (lN 0) (lN 1000000000)) mk_Mo_isIn is_Mo_isIn ln_Mo_82 rfl rfl (Nat.le_of_ble_eq_true rfl) (Nat.le_of_ble_eq_true rfl) (Nat.le_of_ble_eq_true rfl) (Nat.le_of_ble_eq_true rfl) ?_
    refine aw_if_ne (tgt := 20) d_Mo_metals_15 (by decide) (fun h15 => ?_) (fun h15 => ?_)
    · have hok : iR y 10 ∧ iW g (lN 0) (lN 1000000000) := ⟨bI_n h4, bI_n h15⟩
      obtain ⟨j, hj, ej⟩ := in_ex hok.1 (by decide)
      subst ej
      rw [cN_nI (n := j) (by omega)]
      refine aw_aload_n d_Mo_metals_20 rfl ?_
      refine aw_get d_Mo_metals_21 fl_Mo_39 rfl rfl ?_
      refine aw_iload_n d_Mo_metals_24 rfl ?_
      refine aw_lload_n d_Mo_metals_25 rfl ?_
      refine aw_lastN d_Mo_metals_26 rfl (by omega) (Nat.le_of_ble_eq_true rfl) (ms_s46 _ _ _) ?_
      refine aw_iconst (v := nI 1) d_Mo_metals_27 (by decide) ?_
      exact aw_zretE d_Mo_metals_28 rfl rfl (bI_t hok).symm (by rw [if_pos hok]) rfl rfl
    · refine aw_iconst (v := nI 0) d_Mo_metals_18 (by decide) ?_
      exact aw_zretE d_Mo_metals_19 rfl rfl (bI_f (fun c => (bI_0 _).mp h15 c.2)).symm (by rw [if_neg (fun c => (bI_0 _).mp h15 c.2)]) rfl rfl
theorem c_Mo_placed (C S : cs_S) (k y : Int32) (g : Int64) : am_ct y_Mo_placed 1 [.ref 36, .int k, .int y, .long g] (cs_w C ++ ms_w S) (some (.int (bI (iR k 4 ∧ iR y 10 ∧ iW g (lN 0) (lN 100000000000))))) (cs_w C ++ ms_w (if iR k 4 ∧ iR y 10 ∧ iW g (lN 0) (lN 100000000000) then cs_J S 47 (vp_updL (S.2.1 47) (10 * cN k + cN y) g) else S)) 0 0 := by
  refine am_ct.of rfl (Nat.le_of_ble_eq_true rfl) ?_
  refine aw_iload_n d_Mo_placed_0 rfl ?_
  refine aw_cS1 d_Mo_placed_1 (c_Mo_isKind _ k) mk_Mo_isKind is_Mo_isKind ln_Mo_94 rfl rfl (Nat.le_of_ble_eq_true rfl) (Nat.le_of_ble_eq_true rfl) (Nat.le_of_ble_eq_true rfl) (Nat.le_of_ble_eq_true rfl) ?_
  refine aw_if_eq (tgt := 25) d_Mo_placed_4 (by decide) (fun h4 => ?_) (fun h4 => ?_)
  · refine aw_iconst (v := nI 0) d_Mo_placed_25 (by decide) ?_
    exact aw_zretE d_Mo_placed_26 rfl rfl (bI_f (fun c => (bI_0 _).mp h4 c.1)).symm (by rw [if_neg (fun c => (bI_0 _).mp h4 c.1)]) rfl rfl
  · refine aw_iload_n d_Mo_placed_7 rfl ?_
    refine aw_cS1 d_Mo_placed_8 (c_Mo_isYear _ y) mk_Mo_isYear is_Mo_isYear ln_Mo_102 rfl rfl (Nat.le_of_ble_eq_true rfl) (Nat.le_of_ble_eq_true rfl) (Nat.le_of_ble_eq_true rfl) (Nat.le_of_ble_eq_true rfl) ?_
    refine aw_if_eq (tgt := 25) d_Mo_placed_11 (by decide) (fun h11 => ?_) (fun h11 => ?_)
    · refine aw_iconst (v := nI 0) d_Mo_placed_25 (by decide) ?_
      exact aw_zretE d_Mo_placed_26 rfl rfl (bI_f (fun c => (bI_0 _).mp h11 c.2.1)).symm (by rw [if_neg (fun c => (bI_0 _).mp h11 c.2.1)]) rfl rfl
    · refine aw_lload_n d_Mo_placed_14 rfl ?_
      refine aw_lconst (v := lN 0) d_Mo_placed_15 rfl ?_
      refine aw_ldc2 (v := lN 100000000000) d_Mo_placed_16 kl_Mo_108 ?_
      refine aw_cS1 d_Mo_placed_19 (c_Mo_isIn _ g (lN 0) (lN 100000000000)) mk_Mo_isIn is_Mo_isIn ln_Mo_82 rfl rfl (Nat.le_of_ble_eq_true rfl) (Nat.le_of_ble_eq_true rfl) (Nat.le_of_ble_eq_true rfl) (Nat.le_of_ble_eq_true rfl) ?_
      refine aw_if_ne (tgt := 27) d_Mo_placed_22 (by decide) (fun h22 => ?_) (fun h22 => ?_)
      · have hok : iR k 4 ∧ iR y 10 ∧ iW g (lN 0) (lN 100000000000) := ⟨bI_n h4, bI_n h11, bI_n h22⟩
        obtain ⟨i, hi, ei⟩ := in_ex hok.1 (by decide)
        obtain ⟨j, hj, ej⟩ := in_ex hok.2.1 (by decide)
        subst ei
        subst ej
        rw [cN_nI (n := i) (by omega), cN_nI (n := j) (by omega)]
        refine aw_aload_n d_Mo_placed_27 rfl ?_
        refine aw_get d_Mo_placed_28 fl_Mo_42 rfl rfl ?_
        refine aw_bipush (v := nI 10) d_Mo_placed_31 (by decide) ?_
        refine aw_iload_n d_Mo_placed_33 rfl ?_
        refine aw_imul d_Mo_placed_34 ?_
        try simp only [pk_mul, nI_add]
        refine aw_iload_n d_Mo_placed_35 rfl ?_
        refine aw_iadd d_Mo_placed_36 ?_
        try simp only [pk_mul, nI_add]
        refine aw_lload_n d_Mo_placed_37 rfl ?_
        refine aw_lastN d_Mo_placed_38 rfl (by omega) (Nat.le_of_ble_eq_true rfl) (ms_s47 _ _ _) ?_
        refine aw_iconst (v := nI 1) d_Mo_placed_39 (by decide) ?_
        exact aw_zretE d_Mo_placed_40 rfl rfl (bI_t hok).symm (by rw [if_pos hok]) rfl rfl
      · refine aw_iconst (v := nI 0) d_Mo_placed_25 (by decide) ?_
        exact aw_zretE d_Mo_placed_26 rfl rfl (bI_f (fun c => (bI_0 _).mp h22 c.2.2)).symm (by rw [if_neg (fun c => (bI_0 _).mp h22 c.2.2)]) rfl rfl
theorem lp_Mo_sd (C S : cs_S) (p : Nat) (hp : p < 5) : ∀ (n q : Nat), q + n = 5 → AW (am_Mof y_Mo_shared) 0 0 0 4 [(3, .int (nI q)), (2, .int (sd_f (S.1 37) p q)), (0, .ref 36), (1, .int (nI p))] [] (cs_w C ++ ms_w S) 0 0 (am_Z (some (.int (sd_f (S.1 37) p 5))) (cs_w C ++ ms_w S) 0 0) := by
  intro n
  induction n with
  | zero =>
    intro q hq
    obtain rfl : q = 5 := by omega
    refine aw_iload_n d_Mo_shared_4 rfl ?_
    refine aw_iconst (v := nI 5) d_Mo_shared_5 (by decide) ?_
    refine aw_icmp_ge (tgt := 28) d_Mo_shared_6 (by decide) (fun h6 => ?_) (fun h6 => absurd (nI_le (Nat.le_refl 5) (by omega)) h6)
    refine aw_iload_n d_Mo_shared_28 rfl ?_
    exact aw_iretE d_Mo_shared_29 rfl rfl rfl rfl rfl
  | succ n ih =>
    intro q hq
    refine aw_iload_n d_Mo_shared_4 rfl ?_
    refine aw_iconst (v := nI 5) d_Mo_shared_5 (by decide) ?_
    refine aw_icmp_ge (tgt := 28) d_Mo_shared_6 (by decide) (fun h6 => absurd h6 (nI_ge (by omega) (by omega))) (fun h6 => ?_)
    refine aw_iload_n d_Mo_shared_9 rfl ?_
    refine aw_aload_n d_Mo_shared_10 rfl ?_
    refine aw_get d_Mo_shared_11 fl_Mo_7 rfl rfl ?_
    refine aw_iconst (v := nI 5) d_Mo_shared_14 (by decide) ?_
    refine aw_iload_n d_Mo_shared_15 rfl ?_
    refine aw_imul d_Mo_shared_16 ?_
    try simp only [pk_mul, nI_add]
    refine aw_iload_n d_Mo_shared_17 rfl ?_
    refine aw_iadd d_Mo_shared_18 ?_
    try simp only [pk_mul, nI_add]
    refine aw_ialdN d_Mo_shared_19 rfl (by omega) (Nat.le_of_ble_eq_true rfl) ?_
    refine aw_iadd d_Mo_shared_20 ?_
    refine aw_istore_n d_Mo_shared_21 (Nat.le_of_ble_eq_true rfl) ?_
    refine aw_iinc d_Mo_shared_22 rfl (nI_1 _) (Nat.le_of_ble_eq_true rfl) ?_
    refine aw_goto (tgt := 4) d_Mo_shared_25 (by decide) ?_
    exact aw_eql rfl (ih (q + 1) (by omega))
theorem c_Mo_shared (C S : cs_S) (p : Nat) (hp : p < 5) : am_ct y_Mo_shared 0 [.ref 36, .int (nI p)] (cs_w C ++ ms_w S) (some (.int (sd_f (S.1 37) p 5))) (cs_w C ++ ms_w S) 0 0 := by
  refine am_ct.of rfl (Nat.le_of_ble_eq_true rfl) ?_
  refine aw_iconst (v := nI 0) d_Mo_shared_0 (by decide) ?_
  refine aw_istore_n d_Mo_shared_1 (Nat.le_of_ble_eq_true rfl) ?_
  refine aw_iconst (v := nI 0) d_Mo_shared_2 (by decide) ?_
  refine aw_istore_n d_Mo_shared_3 (Nat.le_of_ble_eq_true rfl) ?_
  exact aw_eql rfl (lp_Mo_sd C S p hp 5 0 rfl)
