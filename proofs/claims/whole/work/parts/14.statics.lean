/-! the class's own small methods; Feeds -/
theorem vp_in_lt {x : Int32} {c N : Nat} (h0 : ¬ x < 0) (h : ¬ nI c ≤ x) (hc : c ≤ N) (hN : N < 2 ^ 31) : vp_in x N := by
  rw [Int32.lt_iff_toInt_lt, Int32.toInt_zero] at h0
  rw [Int32.le_iff_toInt_le, nI_toInt (by omega)] at h
  rw [vp_in_iff]
  omega
/-- the fraction a / b in tenths, -1 when it is none -/
def tn_f (a b : Int64) : Int32 := if (b = lN 1 ∨ b = lN 2 ∨ b = lN 5 ∨ b = lN 10) ∧ lN 0 ≤ a ∧ a ≤ b then (a * (lN 10 / b)).toInt32 else -1
/-- Euclid, n steps at most -/
def eu_f : Nat → Int64 → Int64 → Int64
  | 0, h, _ => h
  | n + 1, h, l => if l = lN 0 then h else eu_f n l (h - h / l * l)
def pt_f (a b : Int64) (k : Int32) : Int64 := if eu_f 128 (if lN 0 ≤ a then a else -a) b = lN 0 then lN 0 else if k = 0 then a / eu_f 128 (if lN 0 ≤ a then a else -a) b else b / eu_f 128 (if lN 0 ≤ a then a else -a) b
theorem c_RC_isKind (w : List am_C) (x : Int32) : am_ct y_RC_isKind 0 [.int x] (w) (some (.int (bI (0 ≤ x ∧ x < nI 4)))) (w) 0 0 := by
  refine am_ct.of rfl (Nat.le_of_ble_eq_true rfl) ?_
  refine aw_iload_n d_RC_isKind_0 rfl ?_
  refine aw_if_lt (tgt := 13) d_RC_isKind_1 (by decide) (fun h1 => ?_) (fun h1 => ?_)
  · refine aw_iconst (v := nI 0) d_RC_isKind_13 (by decide) ?_
    exact aw_zretE d_RC_isKind_14 rfl rfl (bI_f (fun e => absurd e.1 (Int32.not_le.mpr h1))).symm rfl rfl rfl
  · refine aw_iload_n d_RC_isKind_4 rfl ?_
    refine aw_iconst (v := nI 4) d_RC_isKind_5 (by decide) ?_
    refine aw_icmp_ge (tgt := 13) d_RC_isKind_6 (by decide) (fun hc => ?_) (fun hc => ?_)
    · refine aw_iconst (v := nI 0) d_RC_isKind_13 (by decide) ?_
      exact aw_zretE d_RC_isKind_14 rfl rfl (bI_f (fun e => absurd hc (Int32.not_le.mpr e.2))).symm rfl rfl rfl
    · refine aw_iconst (v := nI 1) d_RC_isKind_9 (by decide) ?_
      refine aw_goto (tgt := 14) d_RC_isKind_10 (by decide) ?_
      exact aw_zretE d_RC_isKind_14 rfl rfl (bI_t ⟨(i32_nlt _ _).mp h1, Int32.not_le.mp hc⟩).symm rfl rfl rfl
theorem c_RC_isYear (w : List am_C) (x : Int32) : am_ct y_RC_isYear 0 [.int x] (w) (some (.int (bI (0 ≤ x ∧ x < nI 10)))) (w) 0 0 := by
  refine am_ct.of rfl (Nat.le_of_ble_eq_true rfl) ?_
  refine aw_iload_n d_RC_isYear_0 rfl ?_
  refine aw_if_lt (tgt := 14) d_RC_isYear_1 (by decide) (fun h1 => ?_) (fun h1 => ?_)
  · refine aw_iconst (v := nI 0) d_RC_isYear_14 (by decide) ?_
    exact aw_zretE d_RC_isYear_15 rfl rfl (bI_f (fun e => absurd e.1 (Int32.not_le.mpr h1))).symm rfl rfl rfl
  · refine aw_iload_n d_RC_isYear_4 rfl ?_
    refine aw_bipush (v := nI 10) d_RC_isYear_5 (by decide) ?_
    refine aw_icmp_ge (tgt := 14) d_RC_isYear_7 (by decide) (fun hc => ?_) (fun hc => ?_)
    · refine aw_iconst (v := nI 0) d_RC_isYear_14 (by decide) ?_
      exact aw_zretE d_RC_isYear_15 rfl rfl (bI_f (fun e => absurd hc (Int32.not_le.mpr e.2))).symm rfl rfl rfl
    · refine aw_iconst (v := nI 1) d_RC_isYear_10 (by decide) ?_
      refine aw_goto (tgt := 15) d_RC_isYear_11 (by decide) ?_
      exact aw_zretE d_RC_isYear_15 rfl rfl (bI_t ⟨(i32_nlt _ _).mp h1, Int32.not_le.mp hc⟩).symm rfl rfl rfl
theorem c_RC_isCountry (w : List am_C) (x : Int32) : am_ct y_RC_isCountry 0 [.int x] (w) (some (.int (bI (0 ≤ x ∧ x < nI 4)))) (w) 0 0 := by
  refine am_ct.of rfl (Nat.le_of_ble_eq_true rfl) ?_
  refine aw_iload_n d_RC_isCountry_0 rfl ?_
  refine aw_if_lt (tgt := 13) d_RC_isCountry_1 (by decide) (fun h1 => ?_) (fun h1 => ?_)
  · refine aw_iconst (v := nI 0) d_RC_isCountry_13 (by decide) ?_
    exact aw_zretE d_RC_isCountry_14 rfl rfl (bI_f (fun e => absurd e.1 (Int32.not_le.mpr h1))).symm rfl rfl rfl
  · refine aw_iload_n d_RC_isCountry_4 rfl ?_
    refine aw_iconst (v := nI 4) d_RC_isCountry_5 (by decide) ?_
    refine aw_icmp_ge (tgt := 13) d_RC_isCountry_6 (by decide) (fun hc => ?_) (fun hc => ?_)
    · refine aw_iconst (v := nI 0) d_RC_isCountry_13 (by decide) ?_
      exact aw_zretE d_RC_isCountry_14 rfl rfl (bI_f (fun e => absurd hc (Int32.not_le.mpr e.2))).symm rfl rfl rfl
    · refine aw_iconst (v := nI 1) d_RC_isCountry_9 (by decide) ?_
      refine aw_goto (tgt := 14) d_RC_isCountry_10 (by decide) ?_
      exact aw_zretE d_RC_isCountry_14 rfl rfl (bI_t ⟨(i32_nlt _ _).mp h1, Int32.not_le.mp hc⟩).symm rfl rfl rfl
theorem c_RC_isPart (w : List am_C) (x : Int32) : am_ct y_RC_isPart 0 [.int x] (w) (some (.int (bI (x = 0 ∨ x = nI 1)))) (w) 0 0 := by
  refine am_ct.of rfl (Nat.le_of_ble_eq_true rfl) ?_
  refine aw_iload_n d_RC_isPart_0 rfl ?_
  refine aw_if_eq (tgt := 9) d_RC_isPart_1 (by decide) (fun h1 => ?_) (fun h1 => ?_)
  · refine aw_iconst (v := nI 1) d_RC_isPart_9 (by decide) ?_
    refine aw_goto (tgt := 14) d_RC_isPart_10 (by decide) ?_
    exact aw_zretE d_RC_isPart_14 rfl rfl (bI_t (Or.inl h1)).symm rfl rfl rfl
  · refine aw_iload_n d_RC_isPart_4 rfl ?_
    refine aw_iconst (v := nI 1) d_RC_isPart_5 (by decide) ?_
    refine aw_icmp_ne (tgt := 13) d_RC_isPart_6 (by decide) (fun h6 => ?_) (fun h6 => ?_)
    · refine aw_iconst (v := nI 0) d_RC_isPart_13 (by decide) ?_
      exact aw_zretE d_RC_isPart_14 rfl rfl (bI_f (fun e => e.elim h1 h6)).symm rfl rfl rfl
    · refine aw_iconst (v := nI 1) d_RC_isPart_9 (by decide) ?_
      refine aw_goto (tgt := 14) d_RC_isPart_10 (by decide) ?_
      exact aw_zretE d_RC_isPart_14 rfl rfl (bI_t (Or.inr h6)).symm rfl rfl rfl
theorem c_RC_isWithin (w : List am_C) (g l m : Int64) : am_ct y_RC_isWithin 0 [.long g, .long l, .long m] (w) (some (.int (bI (l ≤ g ∧ g ≤ m)))) (w) 0 0 := by
  refine am_ct.of rfl (Nat.le_of_ble_eq_true rfl) ?_
  refine aw_lload_n d_RC_isWithin_0 rfl ?_
  refine aw_lload_n d_RC_isWithin_1 rfl ?_
  refine aw_lc_lt (tgt := 17) d_RC_isWithin_2 d_RC_isWithin_3 (by decide) (fun h3 => ?_) (fun h3 => ?_)
  · refine aw_iconst (v := nI 0) d_RC_isWithin_17 (by decide) ?_
    exact aw_zretE d_RC_isWithin_18 rfl rfl (bI_f (fun e => (i64_nlt _ _).mpr e.1 h3)).symm rfl rfl rfl
  · refine aw_lload_n d_RC_isWithin_6 rfl ?_
    refine aw_lload d_RC_isWithin_7 rfl ?_
    refine aw_lc_gt (tgt := 17) d_RC_isWithin_9 d_RC_isWithin_10 (by decide) (fun h10 => ?_) (fun h10 => ?_)
    · refine aw_iconst (v := nI 0) d_RC_isWithin_17 (by decide) ?_
      exact aw_zretE d_RC_isWithin_18 rfl rfl (bI_f (fun e => (i64_nlt _ _).mpr e.2 h10)).symm rfl rfl rfl
    · refine aw_iconst (v := nI 1) d_RC_isWithin_13 (by decide) ?_
      refine aw_goto (tgt := 18) d_RC_isWithin_14 (by decide) ?_
      exact aw_zretE d_RC_isWithin_18 rfl rfl (bI_t ⟨(i64_nlt _ _).mp h3, (i64_nlt _ _).mp h10⟩).symm rfl rfl rfl
theorem c_RC_tenthsOf (w : List am_C) (a b : Int64) : am_ct y_RC_tenthsOf 0 [.long a, .long b] (w) (some (.int (tn_f a b))) (w) 0 0 := by
  refine am_ct.of rfl (Nat.le_of_ble_eq_true rfl) ?_
  refine aw_lload_n d_RC_tenthsOf_0 rfl ?_
  refine aw_lconst (v := lN 1) d_RC_tenthsOf_1 rfl ?_
  refine aw_lc_eq (tgt := 30) d_RC_tenthsOf_2 d_RC_tenthsOf_3 (by decide) (fun h3 => ?_) (fun h3 => ?_)
  · refine aw_iconst (v := nI 1) d_RC_tenthsOf_30 (by decide) ?_
    refine aw_goto (tgt := 35) d_RC_tenthsOf_31 (by decide) ?_
    refine aw_istore d_RC_tenthsOf_35 (Nat.le_of_ble_eq_true rfl) ?_
    refine aw_iload d_RC_tenthsOf_37 rfl ?_
    refine aw_if_eq (tgt := 54) d_RC_tenthsOf_39 (by decide) (fun h39 => absurd h39 (by decide)) (fun h39 => ?_)
    refine aw_lload_n d_RC_tenthsOf_42 rfl ?_
    refine aw_lconst (v := lN 0) d_RC_tenthsOf_43 rfl ?_
    refine aw_lc_lt (tgt := 54) d_RC_tenthsOf_44 d_RC_tenthsOf_45 (by decide) (fun h45 => ?_) (fun h45 => ?_)
    · refine aw_iconst (v := -1) d_RC_tenthsOf_54 (by decide) ?_
      exact aw_iretE d_RC_tenthsOf_55 rfl (by unfold tn_f; rw [if_neg (fun e => (i64_nlt _ _).mpr e.2.1 h45)]) rfl rfl rfl
    · refine aw_lload_n d_RC_tenthsOf_48 rfl ?_
      refine aw_lload_n d_RC_tenthsOf_49 rfl ?_
      refine aw_lc_le (tgt := 56) d_RC_tenthsOf_50 d_RC_tenthsOf_51 (by decide) (fun h51 => ?_) (fun h51 => ?_)
      · refine aw_lload_n d_RC_tenthsOf_56 rfl ?_
        refine aw_ldc2 (v := lN 10) d_RC_tenthsOf_57 kl_RC_176 ?_
        refine aw_lload_n d_RC_tenthsOf_60 rfl ?_
        refine aw_ldiv d_RC_tenthsOf_61 (by rw [h3]; decide) ?_
        refine aw_lmul d_RC_tenthsOf_62 ?_
        refine aw_l2i d_RC_tenthsOf_63 ?_
        exact aw_iretE d_RC_tenthsOf_64 rfl (by unfold tn_f; rw [if_pos ⟨Or.inl h3, (i64_nlt _ _).mp h45, h51⟩]) rfl rfl rfl
      · refine aw_iconst (v := -1) d_RC_tenthsOf_54 (by decide) ?_
        exact aw_iretE d_RC_tenthsOf_55 rfl (by unfold tn_f; rw [if_neg (fun e => h51 e.2.2)]) rfl rfl rfl
  · refine aw_lload_n d_RC_tenthsOf_6 rfl ?_
    refine aw_ldc2 (v := lN 2) d_RC_tenthsOf_7 kl_RC_172 ?_
    refine aw_lc_eq (tgt := 30) d_RC_tenthsOf_10 d_RC_tenthsOf_11 (by decide) (fun h11 => ?_) (fun h11 => ?_)
    · refine aw_iconst (v := nI 1) d_RC_tenthsOf_30 (by decide) ?_
      refine aw_goto (tgt := 35) d_RC_tenthsOf_31 (by decide) ?_
      refine aw_istore d_RC_tenthsOf_35 (Nat.le_of_ble_eq_true rfl) ?_
      refine aw_iload d_RC_tenthsOf_37 rfl ?_
      refine aw_if_eq (tgt := 54) d_RC_tenthsOf_39 (by decide) (fun h39 => absurd h39 (by decide)) (fun h39 => ?_)
      refine aw_lload_n d_RC_tenthsOf_42 rfl ?_
      refine aw_lconst (v := lN 0) d_RC_tenthsOf_43 rfl ?_
      refine aw_lc_lt (tgt := 54) d_RC_tenthsOf_44 d_RC_tenthsOf_45 (by decide) (fun h45 => ?_) (fun h45 => ?_)
      · refine aw_iconst (v := -1) d_RC_tenthsOf_54 (by decide) ?_
        exact aw_iretE d_RC_tenthsOf_55 rfl (by unfold tn_f; rw [if_neg (fun e => (i64_nlt _ _).mpr e.2.1 h45)]) rfl rfl rfl
      · refine aw_lload_n d_RC_tenthsOf_48 rfl ?_
        refine aw_lload_n d_RC_tenthsOf_49 rfl ?_
        refine aw_lc_le (tgt := 56) d_RC_tenthsOf_50 d_RC_tenthsOf_51 (by decide) (fun h51 => ?_) (fun h51 => ?_)
        · refine aw_lload_n d_RC_tenthsOf_56 rfl ?_
          refine aw_ldc2 (v := lN 10) d_RC_tenthsOf_57 kl_RC_176 ?_
          refine aw_lload_n d_RC_tenthsOf_60 rfl ?_
          refine aw_ldiv d_RC_tenthsOf_61 (by rw [h11]; decide) ?_
          refine aw_lmul d_RC_tenthsOf_62 ?_
          refine aw_l2i d_RC_tenthsOf_63 ?_
          exact aw_iretE d_RC_tenthsOf_64 rfl (by unfold tn_f; rw [if_pos ⟨Or.inr (Or.inl h11), (i64_nlt _ _).mp h45, h51⟩]) rfl rfl rfl
        · refine aw_iconst (v := -1) d_RC_tenthsOf_54 (by decide) ?_
          exact aw_iretE d_RC_tenthsOf_55 rfl (by unfold tn_f; rw [if_neg (fun e => h51 e.2.2)]) rfl rfl rfl
    · refine aw_lload_n d_RC_tenthsOf_14 rfl ?_
      refine aw_ldc2 (v := lN 5) d_RC_tenthsOf_15 kl_RC_174 ?_
      refine aw_lc_eq (tgt := 30) d_RC_tenthsOf_18 d_RC_tenthsOf_19 (by decide) (fun h19 => ?_) (fun h19 => ?_)
      · refine aw_iconst (v := nI 1) d_RC_tenthsOf_30 (by decide) ?_
        refine aw_goto (tgt := 35) d_RC_tenthsOf_31 (by decide) ?_
        refine aw_istore d_RC_tenthsOf_35 (Nat.le_of_ble_eq_true rfl) ?_
        refine aw_iload d_RC_tenthsOf_37 rfl ?_
        refine aw_if_eq (tgt := 54) d_RC_tenthsOf_39 (by decide) (fun h39 => absurd h39 (by decide)) (fun h39 => ?_)
        refine aw_lload_n d_RC_tenthsOf_42 rfl ?_
        refine aw_lconst (v := lN 0) d_RC_tenthsOf_43 rfl ?_
        refine aw_lc_lt (tgt := 54) d_RC_tenthsOf_44 d_RC_tenthsOf_45 (by decide) (fun h45 => ?_) (fun h45 => ?_)
        · refine aw_iconst (v := -1) d_RC_tenthsOf_54 (by decide) ?_
          exact aw_iretE d_RC_tenthsOf_55 rfl (by unfold tn_f; rw [if_neg (fun e => (i64_nlt _ _).mpr e.2.1 h45)]) rfl rfl rfl
        · refine aw_lload_n d_RC_tenthsOf_48 rfl ?_
          refine aw_lload_n d_RC_tenthsOf_49 rfl ?_
          refine aw_lc_le (tgt := 56) d_RC_tenthsOf_50 d_RC_tenthsOf_51 (by decide) (fun h51 => ?_) (fun h51 => ?_)
          · refine aw_lload_n d_RC_tenthsOf_56 rfl ?_
            refine aw_ldc2 (v := lN 10) d_RC_tenthsOf_57 kl_RC_176 ?_
            refine aw_lload_n d_RC_tenthsOf_60 rfl ?_
            refine aw_ldiv d_RC_tenthsOf_61 (by rw [h19]; decide) ?_
            refine aw_lmul d_RC_tenthsOf_62 ?_
            refine aw_l2i d_RC_tenthsOf_63 ?_
            exact aw_iretE d_RC_tenthsOf_64 rfl (by unfold tn_f; rw [if_pos ⟨Or.inr (Or.inr (Or.inl h19)), (i64_nlt _ _).mp h45, h51⟩]) rfl rfl rfl
          · refine aw_iconst (v := -1) d_RC_tenthsOf_54 (by decide) ?_
            exact aw_iretE d_RC_tenthsOf_55 rfl (by unfold tn_f; rw [if_neg (fun e => h51 e.2.2)]) rfl rfl rfl
      · refine aw_lload_n d_RC_tenthsOf_22 rfl ?_
        refine aw_ldc2 (v := lN 10) d_RC_tenthsOf_23 kl_RC_176 ?_
        refine aw_lc_ne (tgt := 34) d_RC_tenthsOf_26 d_RC_tenthsOf_27 (by decide) (fun h27 => ?_) (fun h27 => ?_)
        · refine aw_iconst (v := nI 0) d_RC_tenthsOf_34 (by decide) ?_
          refine aw_istore d_RC_tenthsOf_35 (Nat.le_of_ble_eq_true rfl) ?_
          refine aw_iload d_RC_tenthsOf_37 rfl ?_
          refine aw_if_eq (tgt := 54) d_RC_tenthsOf_39 (by decide) (fun h39 => ?_) (fun h39 => absurd (by decide) h39)
          refine aw_iconst (v := -1) d_RC_tenthsOf_54 (by decide) ?_
          exact aw_iretE d_RC_tenthsOf_55 rfl (by unfold tn_f; rw [if_neg (fun e => e.1.elim h3 (fun e => e.elim h11 (fun e => e.elim h19 h27)))]) rfl rfl rfl
        · refine aw_iconst (v := nI 1) d_RC_tenthsOf_30 (by decide) ?_
          refine aw_goto (tgt := 35) d_RC_tenthsOf_31 (by decide) ?_
          refine aw_istore d_RC_tenthsOf_35 (Nat.le_of_ble_eq_true rfl) ?_
          refine aw_iload d_RC_tenthsOf_37 rfl ?_
          refine aw_if_eq (tgt := 54) d_RC_tenthsOf_39 (by decide) (fun h39 => absurd h39 (by decide)) (fun h39 => ?_)
          refine aw_lload_n d_RC_tenthsOf_42 rfl ?_
          refine aw_lconst (v := lN 0) d_RC_tenthsOf_43 rfl ?_
          refine aw_lc_lt (tgt := 54) d_RC_tenthsOf_44 d_RC_tenthsOf_45 (by decide) (fun h45 => ?_) (fun h45 => ?_)
          · refine aw_iconst (v := -1) d_RC_tenthsOf_54 (by decide) ?_
            exact aw_iretE d_RC_tenthsOf_55 rfl (by unfold tn_f; rw [if_neg (fun e => (i64_nlt _ _).mpr e.2.1 h45)]) rfl rfl rfl
          · refine aw_lload_n d_RC_tenthsOf_48 rfl ?_
            refine aw_lload_n d_RC_tenthsOf_49 rfl ?_
            refine aw_lc_le (tgt := 56) d_RC_tenthsOf_50 d_RC_tenthsOf_51 (by decide) (fun h51 => ?_) (fun h51 => ?_)
            · refine aw_lload_n d_RC_tenthsOf_56 rfl ?_
              refine aw_ldc2 (v := lN 10) d_RC_tenthsOf_57 kl_RC_176 ?_
              refine aw_lload_n d_RC_tenthsOf_60 rfl ?_
              refine aw_ldiv d_RC_tenthsOf_61 (by rw [h27]; decide) ?_
              refine aw_lmul d_RC_tenthsOf_62 ?_
              refine aw_l2i d_RC_tenthsOf_63 ?_
              exact aw_iretE d_RC_tenthsOf_64 rfl (by unfold tn_f; rw [if_pos ⟨Or.inr (Or.inr (Or.inr h27)), (i64_nlt _ _).mp h45, h51⟩]) rfl rfl rfl
            · refine aw_iconst (v := -1) d_RC_tenthsOf_54 (by decide) ?_
              exact aw_iretE d_RC_tenthsOf_55 rfl (by unfold tn_f; rw [if_neg (fun e => h51 e.2.2)]) rfl rfl rfl
theorem lp_RC_co (w : List am_C) : ∀ (n i : Nat) (h l : Int64), i + n = 128 → AW (am_Mof y_RC_commonOf) 0 0 0 9 [(8, .int (nI i)), (6, .long l), (4, .long h)] [] w 0 0 (am_Z (some (.long (eu_f n h l))) w 0 0) := by
  intro n
  induction n with
  | zero =>
    intro i h l hi
    obtain rfl : i = 128 := by omega
    refine aw_iload d_RC_commonOf_9 rfl ?_
    refine aw_sipush (v := nI 128) d_RC_commonOf_11 (by decide) ?_
    refine aw_icmp_ge (tgt := 45) d_RC_commonOf_14 (by decide) (fun h14 => ?_) (fun h14 => absurd (nI_le (Nat.le_refl 128) (by omega)) h14)
    refine aw_lload d_RC_commonOf_45 rfl ?_
    exact aw_lretE d_RC_commonOf_47 rfl rfl rfl rfl rfl
  | succ n ih =>
    intro i h l hi
    refine aw_iload d_RC_commonOf_9 rfl ?_
    refine aw_sipush (v := nI 128) d_RC_commonOf_11 (by decide) ?_
    refine aw_icmp_ge (tgt := 45) d_RC_commonOf_14 (by decide) (fun h14 => absurd h14 (nI_ge (by omega) (by omega))) (fun h14 => ?_)
    refine aw_lload d_RC_commonOf_17 rfl ?_
    refine aw_lconst (v := lN 0) d_RC_commonOf_19 rfl ?_
    refine aw_lc_eq (tgt := 45) d_RC_commonOf_20 d_RC_commonOf_21 (by decide) (fun h21 => ?_) (fun h21 => ?_)
    · refine aw_lload d_RC_commonOf_45 rfl ?_
      exact aw_lretE d_RC_commonOf_47 rfl (by exact (if_pos h21).symm) rfl rfl rfl
    · refine aw_lload d_RC_commonOf_24 rfl ?_
      refine aw_lload d_RC_commonOf_26 rfl ?_
      refine aw_lrem d_RC_commonOf_28 h21 ?_
      refine aw_lstore d_RC_commonOf_29 (Nat.le_of_ble_eq_true rfl) ?_
      refine aw_lload d_RC_commonOf_31 rfl ?_
      refine aw_lstore d_RC_commonOf_33 (Nat.le_of_ble_eq_true rfl) ?_
      refine aw_lload d_RC_commonOf_35 rfl ?_
      refine aw_lstore d_RC_commonOf_37 (Nat.le_of_ble_eq_true rfl) ?_
      refine aw_iinc d_RC_commonOf_39 rfl (nI_1 _) (Nat.le_of_ble_eq_true rfl) ?_
      refine aw_goto (tgt := 9) d_RC_commonOf_42 (by decide) ?_
      have hq : eu_f (n + 1) h l = eu_f n l (h - h / l * l) := if_neg h21
      rw [hq]
      refine aw_pick (lv' := [(8, .int (nI (i + 1))), (6, .long (h - h / l * l)), (4, .long l)]) ⟨rfl, rfl, rfl, trivial⟩ ?_
      exact ih (i + 1) l (h - h / l * l) (by omega)
theorem c_RC_commonOf (w : List am_C) (a b : Int64) : am_ct y_RC_commonOf 0 [.long a, .long b] (w) (some (.long (eu_f 128 a b))) (w) 0 0 := by
  refine am_ct.of rfl (Nat.le_of_ble_eq_true rfl) ?_
  refine aw_lload_n d_RC_commonOf_0 rfl ?_
  refine aw_lstore d_RC_commonOf_1 (Nat.le_of_ble_eq_true rfl) ?_
  refine aw_lload_n d_RC_commonOf_3 rfl ?_
  refine aw_lstore d_RC_commonOf_4 (Nat.le_of_ble_eq_true rfl) ?_
  refine aw_iconst (v := nI 0) d_RC_commonOf_6 (by decide) ?_
  refine aw_istore d_RC_commonOf_7 (Nat.le_of_ble_eq_true rfl) ?_
  refine aw_pick (lv' := [(8, .int (nI 0)), (6, .long b), (4, .long a)]) ⟨rfl, rfl, rfl, trivial⟩ ?_
  exact lp_RC_co w 128 0 a b rfl
theorem c_RC_partOf (w : List am_C) (a b : Int64) (k : Int32) : am_ct y_RC_partOf 1 [.long a, .long b, .int k] (w) (some (.long (pt_f a b k))) (w) 0 0 := by
  refine am_ct.of rfl (Nat.le_of_ble_eq_true rfl) ?_
  refine aw_lload_n d_RC_partOf_0 rfl ?_
  refine aw_lconst (v := lN 0) d_RC_partOf_1 rfl ?_
  refine aw_lc_ge (tgt := 11) d_RC_partOf_2 d_RC_partOf_3 (by decide) (fun h3 => ?_) (fun h3 => ?_)
  · refine aw_lload_n d_RC_partOf_11 rfl ?_
    refine aw_lload_n d_RC_partOf_12 rfl ?_
    refine aw_cS1 d_RC_partOf_13 (c_RC_commonOf w a b) mk_RC_commonOf is_RC_commonOf ln_RC_178 rfl rfl (Nat.le_of_ble_eq_true rfl) (Nat.le_of_ble_eq_true rfl) (Nat.le_of_ble_eq_true rfl) (Nat.le_of_ble_eq_true rfl) ?_
    have hA : (if lN 0 ≤ a then a else -a) = a := if_pos h3
    refine aw_lstore d_RC_partOf_16 (Nat.le_of_ble_eq_true rfl) ?_
    refine aw_lload d_RC_partOf_18 rfl ?_
    refine aw_lconst (v := lN 0) d_RC_partOf_20 rfl ?_
    refine aw_lc_ne (tgt := 27) d_RC_partOf_21 d_RC_partOf_22 (by decide) (fun h22 => ?_) (fun h22 => ?_)
    · refine aw_iload d_RC_partOf_27 rfl ?_
      refine aw_if_ne (tgt := 39) d_RC_partOf_29 (by decide) (fun h29 => ?_) (fun h29 => ?_)
      · refine aw_lload_n d_RC_partOf_39 rfl ?_
        refine aw_lload d_RC_partOf_40 rfl ?_
        refine aw_ldiv d_RC_partOf_42 h22 ?_
        exact aw_lretE d_RC_partOf_43 rfl (by unfold pt_f; rw [hA, if_neg h22, if_neg h29]) rfl rfl rfl
      · refine aw_lload_n d_RC_partOf_32 rfl ?_
        refine aw_lload d_RC_partOf_33 rfl ?_
        refine aw_ldiv d_RC_partOf_35 h22 ?_
        refine aw_goto (tgt := 43) d_RC_partOf_36 (by decide) ?_
        exact aw_lretE d_RC_partOf_43 rfl (by unfold pt_f; rw [hA, if_neg h22, if_pos h29]) rfl rfl rfl
    · refine aw_lconst (v := lN 0) d_RC_partOf_25 rfl ?_
      exact aw_lretE d_RC_partOf_26 rfl (by unfold pt_f; rw [hA, if_pos h22]) rfl rfl rfl
  · refine aw_lload_n d_RC_partOf_6 rfl ?_
    refine aw_lneg d_RC_partOf_7 ?_
    refine aw_goto (tgt := 12) d_RC_partOf_8 (by decide) ?_
    refine aw_lload_n d_RC_partOf_12 rfl ?_
    refine aw_cS1 d_RC_partOf_13 (c_RC_commonOf w (-a) b) mk_RC_commonOf is_RC_commonOf ln_RC_178 rfl rfl (Nat.le_of_ble_eq_true rfl) (Nat.le_of_ble_eq_true rfl) (Nat.le_of_ble_eq_true rfl) (Nat.le_of_ble_eq_true rfl) ?_
    have hA : (if lN 0 ≤ a then a else -a) = (-a) := if_neg h3
    refine aw_lstore d_RC_partOf_16 (Nat.le_of_ble_eq_true rfl) ?_
    refine aw_lload d_RC_partOf_18 rfl ?_
    refine aw_lconst (v := lN 0) d_RC_partOf_20 rfl ?_
    refine aw_lc_ne (tgt := 27) d_RC_partOf_21 d_RC_partOf_22 (by decide) (fun h22 => ?_) (fun h22 => ?_)
    · refine aw_iload d_RC_partOf_27 rfl ?_
      refine aw_if_ne (tgt := 39) d_RC_partOf_29 (by decide) (fun h29 => ?_) (fun h29 => ?_)
      · refine aw_lload_n d_RC_partOf_39 rfl ?_
        refine aw_lload d_RC_partOf_40 rfl ?_
        refine aw_ldiv d_RC_partOf_42 h22 ?_
        exact aw_lretE d_RC_partOf_43 rfl (by unfold pt_f; rw [hA, if_neg h22, if_neg h29]) rfl rfl rfl
      · refine aw_lload_n d_RC_partOf_32 rfl ?_
        refine aw_lload d_RC_partOf_33 rfl ?_
        refine aw_ldiv d_RC_partOf_35 h22 ?_
        refine aw_goto (tgt := 43) d_RC_partOf_36 (by decide) ?_
        exact aw_lretE d_RC_partOf_43 rfl (by unfold pt_f; rw [hA, if_neg h22, if_pos h29]) rfl rfl rfl
    · refine aw_lconst (v := lN 0) d_RC_partOf_25 rfl ?_
      exact aw_lretE d_RC_partOf_26 rfl (by unfold pt_f; rw [hA, if_pos h22]) rfl rfl rfl
theorem c_Fe_add (S : cs_S) (r : List am_C) (a b y c : Int32) (g : Int64) (n : Nat) (hn : S.2.2 8 = nI n) (h60 : n ≤ 60) : am_ct y_Fe_add 0 [.ref 8, .int a, .int b, .long g, .int y, .int c] (cs_w S ++ r) (some (.int (bI (n < 60)))) (cs_w (if n < 60 then cs_F (cs_J (cs_I (cs_I (cs_I (cs_I S 9 (upd (S.1 9) n a)) 10 (upd (S.1 10) n b)) 11 (upd (S.1 11) n y)) 12 (upd (S.1 12) n c)) 13 (vp_updL (S.2.1 13) n g)) 8 (nI (n + 1)) else S) ++ r) 0 0 := by
  refine am_ct.of rfl (Nat.le_of_ble_eq_true rfl) ?_
  refine aw_aload_n d_Fe_add_0 rfl ?_
  refine aw_get d_Fe_add_1 fl_Fe_28 rfl rfl ?_
  refine aw_eqs (congrArg (fun z => Value.int z :: _) hn) ?_
  refine aw_bipush (v := nI 60) d_Fe_add_4 (by decide) ?_
  refine aw_icmp_lt (tgt := 11) d_Fe_add_6 (by decide) (fun h6 => ?_) (fun h6 => ?_)
  · have h6 := (nI_ltI (by omega) (by omega)).mp h6
    refine aw_aload_n d_Fe_add_11 rfl ?_
    refine aw_get d_Fe_add_12 fl_Fe_9 rfl rfl ?_
    refine aw_aload_n d_Fe_add_15 rfl ?_
    refine aw_get d_Fe_add_16 fl_Fe_28 rfl rfl ?_
    refine aw_eqs (congrArg (fun z => Value.int z :: _) hn) ?_
    refine aw_iload_n d_Fe_add_19 rfl ?_
    refine aw_iastN d_Fe_add_20 rfl (by omega) (Nat.le_of_ble_eq_true rfl) (cs_s9 _ _ _) ?_
    refine aw_aload_n d_Fe_add_21 rfl ?_
    refine aw_get d_Fe_add_22 fl_Fe_15 rfl rfl ?_
    refine aw_aload_n d_Fe_add_25 rfl ?_
    refine aw_get d_Fe_add_26 fl_Fe_28 rfl rfl ?_
    refine aw_eqs (congrArg (fun z => Value.int z :: _) hn) ?_
    refine aw_iload_n d_Fe_add_29 rfl ?_
    refine aw_iastN d_Fe_add_30 rfl (by omega) (Nat.le_of_ble_eq_true rfl) (cs_s10 _ _ _) ?_
    refine aw_aload_n d_Fe_add_31 rfl ?_
    refine aw_get d_Fe_add_32 fl_Fe_18 rfl rfl ?_
    refine aw_aload_n d_Fe_add_35 rfl ?_
    refine aw_get d_Fe_add_36 fl_Fe_28 rfl rfl ?_
    refine aw_eqs (congrArg (fun z => Value.int z :: _) hn) ?_
    refine aw_iload d_Fe_add_39 rfl ?_
    refine aw_iastN d_Fe_add_41 rfl (by omega) (Nat.le_of_ble_eq_true rfl) (cs_s11 _ _ _) ?_
    refine aw_aload_n d_Fe_add_42 rfl ?_
    refine aw_get d_Fe_add_43 fl_Fe_21 rfl rfl ?_
    refine aw_aload_n d_Fe_add_46 rfl ?_
    refine aw_get d_Fe_add_47 fl_Fe_28 rfl rfl ?_
    refine aw_eqs (congrArg (fun z => Value.int z :: _) hn) ?_
    refine aw_iload d_Fe_add_50 rfl ?_
    refine aw_iastN d_Fe_add_52 rfl (by omega) (Nat.le_of_ble_eq_true rfl) (cs_s12 _ _ _) ?_
    refine aw_aload_n d_Fe_add_53 rfl ?_
    refine aw_get d_Fe_add_54 fl_Fe_24 rfl rfl ?_
    refine aw_aload_n d_Fe_add_57 rfl ?_
    refine aw_get d_Fe_add_58 fl_Fe_28 rfl rfl ?_
    refine aw_eqs (congrArg (fun z => Value.int z :: _) hn) ?_
    refine aw_lload_n d_Fe_add_61 rfl ?_
    refine aw_lastN d_Fe_add_62 rfl (by omega) (Nat.le_of_ble_eq_true rfl) (cs_s13 _ _ _) ?_
    refine aw_aload_n d_Fe_add_63 rfl ?_
    refine aw_dup d_Fe_add_64 rfl ?_
    refine aw_get d_Fe_add_65 fl_Fe_28 rfl rfl ?_
    refine aw_eqs (congrArg (fun z => Value.int z :: _) hn) ?_
    refine aw_iconst (v := nI 1) d_Fe_add_68 (by decide) ?_
    refine aw_iadd d_Fe_add_69 ?_
    rw [nI_add]
    refine aw_putW d_Fe_add_70 fp_Fe_28 rfl (Nat.le_of_ble_eq_true rfl) (fun _ _ => ⟨rfl, rfl⟩) (cs_f8_5 _ _ _) ?_
    refine aw_iconst (v := nI 1) d_Fe_add_73 (by decide) ?_
    exact aw_zretE d_Fe_add_74 rfl rfl (bI_t h6).symm (by rw [if_pos h6]; rfl) rfl rfl
  · have h6 : ¬ n < 60 := fun e => h6 ((nI_ltI (by omega) (by omega)).mpr e)
    refine aw_iconst (v := nI 0) d_Fe_add_9 (by decide) ?_
    exact aw_zretE d_Fe_add_10 rfl rfl (bI_f h6).symm (by rw [if_neg h6]) rfl rfl
theorem c_Fe_size (S : cs_S) (r : List am_C) : am_ct y_Fe_size 0 [.ref 8] (cs_w S ++ r) (some (.int (S.2.2 8))) (cs_w S ++ r) 0 0 := by
  refine am_ct.of rfl (Nat.le_of_ble_eq_true rfl) ?_
  refine aw_aload_n d_Fe_size_0 rfl ?_
  refine aw_get d_Fe_size_1 fl_Fe_28 rfl rfl ?_
  exact aw_iretE d_Fe_size_4 rfl rfl rfl rfl rfl
theorem c_Fe_plantOf (S : cs_S) (r : List am_C) (j : Nat) (hj : j < 60) : am_ct y_Fe_plantOf 0 [.ref 8, .int (nI j)] (cs_w S ++ r) (some (.int (S.1 9 j))) (cs_w S ++ r) 0 0 := by
  refine am_ct.of rfl (Nat.le_of_ble_eq_true rfl) ?_
  refine aw_aload_n d_Fe_plantOf_0 rfl ?_
  refine aw_get d_Fe_plantOf_1 fl_Fe_9 rfl rfl ?_
  refine aw_iload_n d_Fe_plantOf_4 rfl ?_
  refine aw_ialdN d_Fe_plantOf_5 rfl (by omega) (Nat.le_of_ble_eq_true rfl) ?_
  exact aw_iretE d_Fe_plantOf_6 rfl rfl rfl rfl rfl
theorem c_Fe_kindOf (S : cs_S) (r : List am_C) (j : Nat) (hj : j < 60) : am_ct y_Fe_kindOf 0 [.ref 8, .int (nI j)] (cs_w S ++ r) (some (.int (S.1 10 j))) (cs_w S ++ r) 0 0 := by
  refine am_ct.of rfl (Nat.le_of_ble_eq_true rfl) ?_
  refine aw_aload_n d_Fe_kindOf_0 rfl ?_
  refine aw_get d_Fe_kindOf_1 fl_Fe_15 rfl rfl ?_
  refine aw_iload_n d_Fe_kindOf_4 rfl ?_
  refine aw_ialdN d_Fe_kindOf_5 rfl (by omega) (Nat.le_of_ble_eq_true rfl) ?_
  exact aw_iretE d_Fe_kindOf_6 rfl rfl rfl rfl rfl
theorem c_Fe_yearOf (S : cs_S) (r : List am_C) (j : Nat) (hj : j < 60) : am_ct y_Fe_yearOf 0 [.ref 8, .int (nI j)] (cs_w S ++ r) (some (.int (S.1 11 j))) (cs_w S ++ r) 0 0 := by
  refine am_ct.of rfl (Nat.le_of_ble_eq_true rfl) ?_
  refine aw_aload_n d_Fe_yearOf_0 rfl ?_
  refine aw_get d_Fe_yearOf_1 fl_Fe_18 rfl rfl ?_
  refine aw_iload_n d_Fe_yearOf_4 rfl ?_
  refine aw_ialdN d_Fe_yearOf_5 rfl (by omega) (Nat.le_of_ble_eq_true rfl) ?_
  exact aw_iretE d_Fe_yearOf_6 rfl rfl rfl rfl rfl
theorem c_Fe_countryOf (S : cs_S) (r : List am_C) (j : Nat) (hj : j < 60) : am_ct y_Fe_countryOf 0 [.ref 8, .int (nI j)] (cs_w S ++ r) (some (.int (S.1 12 j))) (cs_w S ++ r) 0 0 := by
  refine am_ct.of rfl (Nat.le_of_ble_eq_true rfl) ?_
  refine aw_aload_n d_Fe_countryOf_0 rfl ?_
  refine aw_get d_Fe_countryOf_1 fl_Fe_21 rfl rfl ?_
  refine aw_iload_n d_Fe_countryOf_4 rfl ?_
  refine aw_ialdN d_Fe_countryOf_5 rfl (by omega) (Nat.le_of_ble_eq_true rfl) ?_
  exact aw_iretE d_Fe_countryOf_6 rfl rfl rfl rfl rfl
theorem c_Fe_gramsOf (S : cs_S) (r : List am_C) (j : Nat) (hj : j < 60) : am_ct y_Fe_gramsOf 0 [.ref 8, .int (nI j)] (cs_w S ++ r) (some (.long (S.2.1 13 j))) (cs_w S ++ r) 0 0 := by
  refine am_ct.of rfl (Nat.le_of_ble_eq_true rfl) ?_
  refine aw_aload_n d_Fe_gramsOf_0 rfl ?_
  refine aw_get d_Fe_gramsOf_1 fl_Fe_24 rfl rfl ?_
  refine aw_iload_n d_Fe_gramsOf_4 rfl ?_
  refine aw_laldN d_Fe_gramsOf_5 rfl (by omega) (Nat.le_of_ble_eq_true rfl) ?_
  exact aw_lretE d_Fe_gramsOf_6 rfl rfl rfl rfl rfl
