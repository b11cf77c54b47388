/-! RateChains$Text -/
abbrev mk_c (S : cs_S) (n a : Nat) : Prop := a + 2 < n ∧ S.1 35 a = nI 35 ∧ (0 ≤ S.1 35 (a + 1) - nI 48 ∧ S.1 35 (a + 1) - nI 48 < nI 4) ∧ (0 ≤ S.1 35 (a + 2) - nI 48 ∧ S.1 35 (a + 2) - nI 48 < nI 10)
abbrev tx_k (S : cs_S) (a : Nat) : Nat := (S.1 35 (a + 1) - nI 48).toNatClampNeg
abbrev tx_y (S : cs_S) (a : Nat) : Nat := (S.1 35 (a + 2) - nI 48).toNatClampNeg
def nm_x (S : cs_S) (a : Nat) : Int64 := dn_f (S.2.1 24 (tx_k S a)) (ab_f (S.2.1 28) (tx_k S a) (tx_y S a) 4)
def wd_f : Nat → Int64 → Nat → Nat
  | 0, _, w => w
  | n + 1, x, w => if x < lN 10 then w else wd_f n (x / lN 10) (w + 1)
def dv_f : Nat → Int64 → Int64
  | 0, x => x
  | n + 1, x => dv_f n (x / lN 10)
def wd_x (S : cs_S) (a : Nat) : Nat := if S.2.2 16 = 0 then 1 else wd_f 18 (nm_x S a) 1
def nb_x (S : cs_S) (a f : Nat) : Int32 := if S.2.2 16 = 0 then nI 45 else nI 48 + (dv_f f (nm_x S a) - dv_f f (nm_x S a) / lN 10 * lN 10).toInt32
def fa_f (S : cs_S) (n : Nat) : Nat → Nat → Nat → Int32
  | 0, _, _ => -1
  | f + 1, a, m => if n ≤ a then -1 else if mk_c S n a then (if m < wd_x S a then nb_x S a (wd_x S a - 1 - m) else fa_f S n f (a + 3) (m - wd_x S a)) else (if m < 1 then S.1 35 a else fa_f S n f (a + 1) (m - 1))
theorem wd_f_le : ∀ (n : Nat) (x : Int64) (w : Nat), w ≤ wd_f n x w ∧ wd_f n x w ≤ w + n
  | 0, _, w => ⟨Nat.le_refl _, Nat.le_refl _⟩
  | n + 1, x, w => by
    unfold wd_f
    split
    · omega
    · have := wd_f_le n (x / lN 10) (w + 1); omega
theorem wd_x_le (S : cs_S) (a : Nat) : 1 ≤ wd_x S a ∧ wd_x S a ≤ 19 := by
  unfold wd_x
  split
  · omega
  · have := wd_f_le 18 (nm_x S a) 1; omega
theorem in_of_c {x : Int32} {n : Nat} (h : 0 ≤ x ∧ x < nI n) (hn : n < 2 ^ 31) : vp_in x n := vp_in_lt ((i32_nlt _ _).mpr h.1) (Int32.not_le.mpr h.2) (Nat.le_refl _) hn
theorem c_Te_add (S : cs_S) (r : List am_C) (u : Int32) (n : Nat) (hn : S.2.2 34 = nI n) (h200 : n ≤ 200) : am_ct y_Te_add 0 [.ref 34, .int u] (cs_w S ++ r) (some (.int (bI (n < 200)))) (cs_w (if n < 200 then cs_F (cs_I S 35 (upd (S.1 35) n u)) 34 (nI (n + 1)) else S) ++ r) 0 0 := by
  refine am_ct.of rfl (Nat.le_of_ble_eq_true rfl) ?_
  refine aw_aload_n d_Te_add_0 rfl ?_
  refine aw_get d_Te_add_1 fl_Te_15 rfl rfl ?_
  refine aw_eqs (congrArg (fun z => Value.int z :: _) hn) ?_
  refine aw_sipush (v := nI 200) d_Te_add_4 (by decide) ?_
  refine aw_icmp_lt (tgt := 12) d_Te_add_7 (by decide) (fun h7 => ?_) (fun h7 => ?_)
  · have h7 := (nI_ltI (by omega) (by omega)).mp h7
    refine aw_aload_n d_Te_add_12 rfl ?_
    refine aw_get d_Te_add_13 fl_Te_9 rfl rfl ?_
    refine aw_aload_n d_Te_add_16 rfl ?_
    refine aw_get d_Te_add_17 fl_Te_15 rfl rfl ?_
    refine aw_eqs (congrArg (fun z => Value.int z :: _) hn) ?_
    refine aw_iload_n d_Te_add_20 rfl ?_
    refine aw_iastN d_Te_add_21 rfl (by omega) (Nat.le_of_ble_eq_true rfl) (cs_s35 _ _ _) ?_
    refine aw_aload_n d_Te_add_22 rfl ?_
    refine aw_dup d_Te_add_23 rfl ?_
    refine aw_get d_Te_add_24 fl_Te_15 rfl rfl ?_
    refine aw_eqs (congrArg (fun z => Value.int z :: _) hn) ?_
    refine aw_iconst (v := nI 1) d_Te_add_27 (by decide) ?_
    refine aw_iadd d_Te_add_28 ?_
    rw [nI_add]
    refine aw_putW d_Te_add_29 fp_Te_15 rfl (Nat.le_of_ble_eq_true rfl) (fun _ _ => ⟨rfl, rfl⟩) (cs_f34_1 _ _ _) ?_
    refine aw_iconst (v := nI 1) d_Te_add_32 (by decide) ?_
    exact aw_zretE d_Te_add_33 rfl rfl (bI_t h7).symm (by rw [if_pos h7]) rfl rfl
  · have h7 : ¬ n < 200 := fun e => h7 ((nI_ltI (by omega) (by omega)).mpr e)
    refine aw_iconst (v := nI 0) d_Te_add_10 (by decide) ?_
    exact aw_zretE d_Te_add_11 rfl rfl (bI_f h7).symm (by rw [if_neg h7]) rfl rfl
theorem c_Te_isMark (S : cs_S) (r : List am_C) (a : Nat) (n : Nat) (hn : S.2.2 34 = nI n) (h200 : n ≤ 200) (ha : a < n) : am_ct y_Te_isMark 1 [.ref 34, .int (nI a)] (cs_w S ++ r) (some (.int (bI (mk_c S n a)))) (cs_w S ++ r) 0 0 := by
  refine am_ct.of rfl (Nat.le_of_ble_eq_true rfl) ?_
  refine aw_iload_n d_Te_isMark_0 rfl ?_
  refine aw_iconst (v := nI 2) d_Te_isMark_1 (by decide) ?_
  refine aw_iadd d_Te_isMark_2 ?_
  try simp only [nI_add]
  refine aw_aload_n d_Te_isMark_3 rfl ?_
  refine aw_get d_Te_isMark_4 fl_Te_15 rfl rfl ?_
  refine aw_eqs (congrArg (fun z => Value.int z :: _) hn) ?_
  refine aw_icmp_ge (tgt := 59) d_Te_isMark_7 (by decide) (fun h7 => ?_) (fun h7 => ?_)
  · have h7 : ¬ a + 2 < n := fun e => absurd h7 (nI_ge e (by omega))
    refine aw_iconst (v := nI 0) d_Te_isMark_59 (by decide) ?_
    exact aw_zretE d_Te_isMark_60 rfl rfl (bI_f (fun c => h7 c.1)).symm rfl rfl rfl
  · have h7 : a + 2 < n := Nat.lt_of_not_le (fun e => h7 (nI_le e (by omega)))
    refine aw_aload_n d_Te_isMark_10 rfl ?_
    refine aw_get d_Te_isMark_11 fl_Te_9 rfl rfl ?_
    refine aw_iload_n d_Te_isMark_14 rfl ?_
    refine aw_ialdN d_Te_isMark_15 rfl (by omega) (Nat.le_of_ble_eq_true rfl) ?_
    refine aw_bipush (v := nI 35) d_Te_isMark_16 (by decide) ?_
    refine aw_icmp_ne (tgt := 59) d_Te_isMark_18 (by decide) (fun h18 => ?_) (fun h18 => ?_)
    · refine aw_iconst (v := nI 0) d_Te_isMark_59 (by decide) ?_
      exact aw_zretE d_Te_isMark_60 rfl rfl (bI_f (fun c => h18 c.2.1)).symm rfl rfl rfl
    · refine aw_aload_n d_Te_isMark_21 rfl ?_
      refine aw_get d_Te_isMark_22 fl_Te_9 rfl rfl ?_
      refine aw_iload_n d_Te_isMark_25 rfl ?_
      refine aw_iconst (v := nI 1) d_Te_isMark_26 (by decide) ?_
      refine aw_iadd d_Te_isMark_27 ?_
      try simp only [nI_add]
      refine aw_ialdN d_Te_isMark_28 rfl (by omega) (Nat.le_of_ble_eq_true rfl) ?_
      refine aw_bipush (v := nI 48) d_Te_isMark_29 (by decide) ?_
      refine aw_isub d_Te_isMark_31 ?_
      refine aw_cSN1 d_Te_isMark_32 (c_RC_isKind _ _) mk_RC_isKind is_RC_isKind ln_Te_31 rfl rfl (Nat.le_of_ble_eq_true rfl) (Nat.le_of_ble_eq_true rfl) (Nat.le_of_ble_eq_true rfl) (Nat.le_of_ble_eq_true rfl) ?_
      refine aw_if_eq (tgt := 59) d_Te_isMark_35 (by decide) (fun h35 => ?_) (fun h35 => ?_)
      · refine aw_iconst (v := nI 0) d_Te_isMark_59 (by decide) ?_
        exact aw_zretE d_Te_isMark_60 rfl rfl (bI_f (fun c => (bI_0 _).mp h35 c.2.2.1)).symm rfl rfl rfl
      · refine aw_aload_n d_Te_isMark_38 rfl ?_
        refine aw_get d_Te_isMark_39 fl_Te_9 rfl rfl ?_
        refine aw_iload_n d_Te_isMark_42 rfl ?_
        refine aw_iconst (v := nI 2) d_Te_isMark_43 (by decide) ?_
        refine aw_iadd d_Te_isMark_44 ?_
        try simp only [nI_add]
        refine aw_ialdN d_Te_isMark_45 rfl (by omega) (Nat.le_of_ble_eq_true rfl) ?_
        refine aw_bipush (v := nI 48) d_Te_isMark_46 (by decide) ?_
        refine aw_isub d_Te_isMark_48 ?_
        refine aw_cSN1 d_Te_isMark_49 (c_RC_isYear _ _) mk_RC_isYear is_RC_isYear ln_Te_34 rfl rfl (Nat.le_of_ble_eq_true rfl) (Nat.le_of_ble_eq_true rfl) (Nat.le_of_ble_eq_true rfl) (Nat.le_of_ble_eq_true rfl) ?_
        refine aw_if_eq (tgt := 59) d_Te_isMark_52 (by decide) (fun h52 => ?_) (fun h52 => ?_)
        · refine aw_iconst (v := nI 0) d_Te_isMark_59 (by decide) ?_
          exact aw_zretE d_Te_isMark_60 rfl rfl (bI_f (fun c => (bI_0 _).mp h52 c.2.2.2)).symm rfl rfl rfl
        · refine aw_iconst (v := nI 1) d_Te_isMark_55 (by decide) ?_
          refine aw_goto (tgt := 60) d_Te_isMark_56 (by decide) ?_
          exact aw_zretE d_Te_isMark_60 rfl rfl (bI_t ⟨h7, h18, Decidable.not_not.mp (fun c2 => h35 ((bI_0 _).mpr c2)), Decidable.not_not.mp (fun c2 => h52 ((bI_0 _).mpr c2))⟩).symm rfl rfl rfl
theorem c_Te_numberOf (S : cs_S) (r : List am_C) (a : Nat) (ha : a + 2 < 200) (hk : vp_in (S.1 35 (a + 1) - nI 48) 4) (hy : vp_in (S.1 35 (a + 2) - nI 48) 10) : am_ct y_Te_numberOf 5 [.ref 34, .int (nI a), .ref 16] (cs_w S ++ r) (some (.long (nm_x S a))) (cs_w S ++ r) 0 0 := by
  refine am_ct.of rfl (Nat.le_of_ble_eq_true rfl) ?_
  refine aw_aload_n d_Te_numberOf_0 rfl ?_
  refine aw_aload_n d_Te_numberOf_1 rfl ?_
  refine aw_get d_Te_numberOf_2 fl_Te_9 rfl rfl ?_
  refine aw_iload_n d_Te_numberOf_5 rfl ?_
  refine aw_iconst (v := nI 1) d_Te_numberOf_6 (by decide) ?_
  refine aw_iadd d_Te_numberOf_7 ?_
  try simp only [nI_add]
  refine aw_ialdN d_Te_numberOf_8 rfl (by omega) (Nat.le_of_ble_eq_true rfl) ?_
  refine aw_bipush (v := nI 48) d_Te_numberOf_9 (by decide) ?_
  refine aw_isub d_Te_numberOf_11 ?_
  refine aw_aload_n d_Te_numberOf_12 rfl ?_
  refine aw_get d_Te_numberOf_13 fl_Te_9 rfl rfl ?_
  refine aw_iload_n d_Te_numberOf_16 rfl ?_
  refine aw_iconst (v := nI 2) d_Te_numberOf_17 (by decide) ?_
  refine aw_iadd d_Te_numberOf_18 ?_
  try simp only [nI_add]
  refine aw_ialdN d_Te_numberOf_19 rfl (by omega) (Nat.le_of_ble_eq_true rfl) ?_
  refine aw_bipush (v := nI 48) d_Te_numberOf_20 (by decide) ?_
  refine aw_isub d_Te_numberOf_22 ?_
  refine aw_eqs (st' := [.int (nI (tx_y S a)), .int (nI (tx_k S a)), .ref 16]) (by rw [← (vp_in_cl hk (by decide)).2, ← (vp_in_cl hy (by decide)).2]) ?_
  refine aw_cV1 d_Te_numberOf_23 (c_So_wholeGrams S r (tx_k S a) (tx_y S a) (vp_in_cl hk (by decide)).1 (vp_in_cl hy (by decide)).1) mk_So_wholeGrams is_So_wholeGrams ln_Te_37 rfl rfl rfl rfl (Nat.le_of_ble_eq_true rfl) (Nat.le_of_ble_eq_true rfl) (Nat.le_of_ble_eq_true rfl) (Nat.le_of_ble_eq_true rfl) ?_
  exact aw_lretE d_Te_numberOf_26 rfl rfl rfl rfl rfl
theorem lp_Te_wd (S : cs_S) (r : List am_C) (a : Nat) : ∀ (n w : Nat) (x : Int64), w + n = 19 → AW (am_Mof y_Te_widthOf) 6 0 0 19 [(5, .int (nI w)), (3, .long x), (0, .ref 34), (1, .int (nI a)), (2, .ref 16)] [] (cs_w S ++ r) 0 0 (am_Z (some (.int (nI (wd_f n x w)))) (cs_w S ++ r) 0 0) := by
  intro n
  induction n with
  | zero =>
    intro w x hw
    obtain rfl : w = 19 := by omega
    refine aw_lload_n d_Te_widthOf_19 rfl ?_
    refine aw_ldc2 (v := lN 10) d_Te_widthOf_20 kl_Te_51 ?_
    refine aw_lc_lt (tgt := 46) d_Te_widthOf_23 d_Te_widthOf_24 (by decide) (fun h24 => ?_) (fun h24 => ?_)
    · refine aw_iload d_Te_widthOf_46 rfl ?_
      exact aw_iretE d_Te_widthOf_48 rfl rfl rfl rfl rfl
    · refine aw_iload d_Te_widthOf_27 rfl ?_
      refine aw_bipush (v := nI 19) d_Te_widthOf_29 (by decide) ?_
      refine aw_icmp_ge (tgt := 46) d_Te_widthOf_31 (by decide) (fun h31 => ?_) (fun h31 => absurd (nI_le (Nat.le_refl 19) (by omega)) h31)
      refine aw_iload d_Te_widthOf_46 rfl ?_
      exact aw_iretE d_Te_widthOf_48 rfl rfl rfl rfl rfl
  | succ n ih =>
    intro w x hw
    refine aw_lload_n d_Te_widthOf_19 rfl ?_
    refine aw_ldc2 (v := lN 10) d_Te_widthOf_20 kl_Te_51 ?_
    refine aw_lc_lt (tgt := 46) d_Te_widthOf_23 d_Te_widthOf_24 (by decide) (fun h24 => ?_) (fun h24 => ?_)
    · refine aw_iload d_Te_widthOf_46 rfl ?_
      exact aw_iretE d_Te_widthOf_48 rfl (by rw [show wd_f (n + 1) x w = w from if_pos h24]) rfl rfl rfl
    · refine aw_iload d_Te_widthOf_27 rfl ?_
      refine aw_bipush (v := nI 19) d_Te_widthOf_29 (by decide) ?_
      refine aw_icmp_ge (tgt := 46) d_Te_widthOf_31 (by decide) (fun h31 => absurd h31 (nI_ge (by omega) (by omega))) (fun h31 => ?_)
      refine aw_lload_n d_Te_widthOf_34 rfl ?_
      refine aw_ldc2 (v := lN 10) d_Te_widthOf_35 kl_Te_51 ?_
      refine aw_ldiv d_Te_widthOf_38 (by decide) ?_
      refine aw_lstore_n d_Te_widthOf_39 (Nat.le_of_ble_eq_true rfl) ?_
      refine aw_iinc d_Te_widthOf_40 rfl (nI_1 _) (Nat.le_of_ble_eq_true rfl) ?_
      refine aw_goto (tgt := 19) d_Te_widthOf_43 (by decide) ?_
      have hq : wd_f (n + 1) x w = wd_f n (x / lN 10) (w + 1) := if_neg h24
      rw [hq]
      exact aw_eql rfl (ih (w + 1) (x / lN 10) (by omega))
theorem c_Te_widthOf (S : cs_S) (r : List am_C) (a : Nat) (ha : a + 2 < 200) (hk : vp_in (S.1 35 (a + 1) - nI 48) 4) (hy : vp_in (S.1 35 (a + 2) - nI 48) 10) (h16 : narrow .boolean (.int (S.2.2 16)) = .int (S.2.2 16)) : am_ct y_Te_widthOf 6 [.ref 34, .int (nI a), .ref 16] (cs_w S ++ r) (some (.int (nI (wd_x S a)))) (cs_w S ++ r) 0 0 := by
  refine am_ct.of rfl (Nat.le_of_ble_eq_true rfl) ?_
  refine aw_aload_n d_Te_widthOf_0 rfl ?_
  refine aw_cV1 d_Te_widthOf_1 (c_So_isThere S r h16) mk_So_isThere is_So_isThere ln_Te_43 rfl rfl rfl rfl (Nat.le_of_ble_eq_true rfl) (Nat.le_of_ble_eq_true rfl) (Nat.le_of_ble_eq_true rfl) (Nat.le_of_ble_eq_true rfl) ?_
  refine aw_if_ne (tgt := 9) d_Te_widthOf_4 (by decide) (fun h4 => ?_) (fun h4 => ?_)
  · refine aw_aload_n d_Te_widthOf_9 rfl ?_
    refine aw_iload_n d_Te_widthOf_10 rfl ?_
    refine aw_aload_n d_Te_widthOf_11 rfl ?_
    refine aw_cV1 d_Te_widthOf_12 (c_Te_numberOf S r a ha hk hy) mk_Te_numberOf is_Te_numberOf ln_Te_47 rfl rfl rfl rfl (Nat.le_of_ble_eq_true rfl) (Nat.le_of_ble_eq_true rfl) (Nat.le_of_ble_eq_true rfl) (Nat.le_of_ble_eq_true rfl) ?_
    refine aw_lstore_n d_Te_widthOf_15 (Nat.le_of_ble_eq_true rfl) ?_
    refine aw_iconst (v := nI 1) d_Te_widthOf_16 (by decide) ?_
    refine aw_istore d_Te_widthOf_17 (Nat.le_of_ble_eq_true rfl) ?_
    rw [show wd_x S a = wd_f 18 (nm_x S a) 1 from if_neg h4]
    exact aw_eql rfl (lp_Te_wd S r a 18 1 (nm_x S a) rfl)
  · refine aw_iconst (v := nI 1) d_Te_widthOf_7 (by decide) ?_
    exact aw_iretE d_Te_widthOf_8 rfl (by rw [show wd_x S a = 1 from if_pos h4]) rfl rfl rfl
theorem lp_Te_nb (S : cs_S) (r : List am_C) (a f : Nat) (hf : f < 2 ^ 31) (v : Int32) : ∀ (n i : Nat) (x : Int64), i + n = f → nI 48 + (dv_f n x - dv_f n x / lN 10 * lN 10).toInt32 = v → AW (am_Mof y_Te_numberByte) 6 0 0 21 [(6, .int (nI i)), (4, .long x), (0, .ref 34), (1, .int (nI a)), (2, .int (nI f)), (3, .ref 16)] [] (cs_w S ++ r) 0 0 (am_Z (some (.int v)) (cs_w S ++ r) 0 0) := by
  intro n
  induction n with
  | zero =>
    intro i x hi hv
    obtain rfl : i = f := by omega
    refine aw_iload d_Te_numberByte_21 rfl ?_
    refine aw_iload_n d_Te_numberByte_23 rfl ?_
    refine aw_icmp_ge (tgt := 41) d_Te_numberByte_24 (by decide) (fun h24 => ?_) (fun h24 => absurd (nI_le (Nat.le_refl _) hf) h24)
    refine aw_bipush (v := nI 48) d_Te_numberByte_41 (by decide) ?_
    refine aw_lload d_Te_numberByte_43 rfl ?_
    refine aw_ldc2 (v := lN 10) d_Te_numberByte_45 kl_Te_51 ?_
    refine aw_lrem d_Te_numberByte_48 (by decide) ?_
    refine aw_l2i d_Te_numberByte_49 ?_
    refine aw_iadd d_Te_numberByte_50 ?_
    exact aw_iretE d_Te_numberByte_51 rfl hv rfl rfl rfl
  | succ n ih =>
    intro i x hi hv
    refine aw_iload d_Te_numberByte_21 rfl ?_
    refine aw_iload_n d_Te_numberByte_23 rfl ?_
    refine aw_icmp_ge (tgt := 41) d_Te_numberByte_24 (by decide) (fun h24 => absurd h24 (nI_ge (by omega) hf)) (fun h24 => ?_)
    refine aw_lload d_Te_numberByte_27 rfl ?_
    refine aw_ldc2 (v := lN 10) d_Te_numberByte_29 kl_Te_51 ?_
    refine aw_ldiv d_Te_numberByte_32 (by decide) ?_
    refine aw_lstore d_Te_numberByte_33 (Nat.le_of_ble_eq_true rfl) ?_
    refine aw_iinc d_Te_numberByte_35 rfl (nI_1 _) (Nat.le_of_ble_eq_true rfl) ?_
    refine aw_goto (tgt := 21) d_Te_numberByte_38 (by decide) ?_
    exact aw_eql rfl (ih (i + 1) (x / lN 10) (by omega) hv)
theorem c_Te_numberByte (S : cs_S) (r : List am_C) (f : Nat) (hf : f < 2 ^ 31) (a : Nat) (ha : a + 2 < 200) (hk : vp_in (S.1 35 (a + 1) - nI 48) 4) (hy : vp_in (S.1 35 (a + 2) - nI 48) 10) (h16 : narrow .boolean (.int (S.2.2 16)) = .int (S.2.2 16)) : am_ct y_Te_numberByte 6 [.ref 34, .int (nI a), .int (nI f), .ref 16] (cs_w S ++ r) (some (.int (nb_x S a f))) (cs_w S ++ r) 0 0 := by
  refine am_ct.of rfl (Nat.le_of_ble_eq_true rfl) ?_
  refine aw_aload_n d_Te_numberByte_0 rfl ?_
  refine aw_cV1 d_Te_numberByte_1 (c_So_isThere S r h16) mk_So_isThere is_So_isThere ln_Te_43 rfl rfl rfl rfl (Nat.le_of_ble_eq_true rfl) (Nat.le_of_ble_eq_true rfl) (Nat.le_of_ble_eq_true rfl) (Nat.le_of_ble_eq_true rfl) ?_
  refine aw_if_ne (tgt := 10) d_Te_numberByte_4 (by decide) (fun h4 => ?_) (fun h4 => ?_)
  · refine aw_aload_n d_Te_numberByte_10 rfl ?_
    refine aw_iload_n d_Te_numberByte_11 rfl ?_
    refine aw_aload_n d_Te_numberByte_12 rfl ?_
    refine aw_cV1 d_Te_numberByte_13 (c_Te_numberOf S r a ha hk hy) mk_Te_numberOf is_Te_numberOf ln_Te_47 rfl rfl rfl rfl (Nat.le_of_ble_eq_true rfl) (Nat.le_of_ble_eq_true rfl) (Nat.le_of_ble_eq_true rfl) (Nat.le_of_ble_eq_true rfl) ?_
    refine aw_lstore d_Te_numberByte_16 (Nat.le_of_ble_eq_true rfl) ?_
    refine aw_iconst (v := nI 0) d_Te_numberByte_18 (by decide) ?_
    refine aw_istore d_Te_numberByte_19 (Nat.le_of_ble_eq_true rfl) ?_
    exact aw_eql rfl (lp_Te_nb S r a f hf _ f 0 (nm_x S a) (by omega) (show nb_x S a f = _ from if_neg h4).symm)
  · refine aw_bipush (v := nI 45) d_Te_numberByte_7 (by decide) ?_
    exact aw_iretE d_Te_numberByte_9 rfl (show nb_x S a f = nI 45 from if_pos h4).symm rfl rfl rfl
theorem lp_Te_fa (S : cs_S) (r : List am_C) (n : Nat) (hn : S.2.2 34 = nI n) (h200 : n ≤ 200) (h16 : narrow .boolean (.int (S.2.2 16)) = .int (S.2.2 16)) (i0 : Int32) : ∀ (f a m : Nat) (x : List (Nat × Value)), n ≤ a + f → a ≤ n → m < 2 ^ 31 → AW (am_Mof y_Te_filledAt) 7 0 0 5 ([(4, .int (nI a)), (3, .int (nI m)), (0, .ref 34), (1, .int i0), (2, .ref 16)] ++ x) [] (cs_w S ++ r) 0 0 (am_Z (some (.int (fa_f S n f a m))) (cs_w S ++ r) 0 0) := by
  intro f
  induction f with
  | zero =>
    intro a m x hf ha hm
    refine aw_sub (lv' := [(4, .int (nI a)), (3, .int (nI m)), (0, .ref 34), (1, .int i0), (2, .ref 16)]) (by simp) ?_
    refine aw_iload d_Te_filledAt_5 rfl ?_
    refine aw_aload_n d_Te_filledAt_7 rfl ?_
    refine aw_get d_Te_filledAt_8 fl_Te_15 rfl rfl ?_
    refine aw_eqs (congrArg (fun z => Value.int z :: _) hn) ?_
    refine aw_icmp_ge (tgt := 98) d_Te_filledAt_11 (by decide) (fun h11 => ?_) (fun h11 => absurd (nI_le hf (by omega)) h11)
    refine aw_iconst (v := -1) d_Te_filledAt_98 (by decide) ?_
    exact aw_iretE d_Te_filledAt_99 rfl rfl rfl rfl rfl
  | succ f ih =>
    intro a m x hf ha hm
    refine aw_sub (lv' := [(4, .int (nI a)), (3, .int (nI m)), (0, .ref 34), (1, .int i0), (2, .ref 16)]) (by simp) ?_
    refine aw_iload d_Te_filledAt_5 rfl ?_
    refine aw_aload_n d_Te_filledAt_7 rfl ?_
    refine aw_get d_Te_filledAt_8 fl_Te_15 rfl rfl ?_
    refine aw_eqs (congrArg (fun z => Value.int z :: _) hn) ?_
    refine aw_icmp_ge (tgt := 98) d_Te_filledAt_11 (by decide) (fun h11 => ?_) (fun h11 => ?_)
    · have h11 : n ≤ a := Nat.le_of_not_lt (fun e => absurd h11 (nI_ge e (by omega)))
      refine aw_iconst (v := -1) d_Te_filledAt_98 (by decide) ?_
      exact aw_iretE d_Te_filledAt_99 rfl (by show _ = (if n ≤ a then _ else _); rw [if_pos h11]) rfl rfl rfl
    · have h11 : ¬ n ≤ a := fun e => h11 (nI_le e (by omega))
      refine aw_aload_n d_Te_filledAt_14 rfl ?_
      refine aw_iload d_Te_filledAt_15 rfl ?_
      refine aw_cV1 d_Te_filledAt_17 (c_Te_isMark S r a n hn h200 (by omega)) mk_Te_isMark is_Te_isMark ln_Te_19 rfl rfl rfl rfl (Nat.le_of_ble_eq_true rfl) (Nat.le_of_ble_eq_true rfl) (Nat.le_of_ble_eq_true rfl) (Nat.le_of_ble_eq_true rfl) ?_
      refine aw_istore d_Te_filledAt_20 (Nat.le_of_ble_eq_true rfl) ?_
      refine aw_iload d_Te_filledAt_22 rfl ?_
      refine aw_if_eq (tgt := 37) d_Te_filledAt_24 (by decide) (fun h24 => ?_) (fun h24 => ?_)
      · have hM : ¬ mk_c S n a := (bI_0 _).mp h24
        refine aw_iconst (v := nI 1) d_Te_filledAt_37 (by decide) ?_
        refine aw_istore d_Te_filledAt_38 (Nat.le_of_ble_eq_true rfl) ?_
        refine aw_iload_n d_Te_filledAt_40 rfl ?_
        refine aw_iload d_Te_filledAt_41 rfl ?_
        refine aw_icmp_ge (tgt := 75) d_Te_filledAt_43 (by decide) (fun h43 => ?_) (fun h43 => ?_)
        · have hlt : ¬ m < 1 := fun e => absurd h43 (nI_ge e (by omega))
          refine aw_iload_n d_Te_filledAt_75 rfl ?_
          refine aw_iload d_Te_filledAt_76 rfl ?_
          refine aw_isub d_Te_filledAt_78 ?_
          rw [pk_sub (by omega)]
          refine aw_istore_n d_Te_filledAt_79 (Nat.le_of_ble_eq_true rfl) ?_
          refine aw_iload d_Te_filledAt_80 rfl ?_
          refine aw_iload d_Te_filledAt_82 rfl ?_
          refine aw_if_eq (tgt := 91) d_Te_filledAt_84 (by decide) (fun h84 => ?_) (fun h84 => absurd h24 h84)
          refine aw_iconst (v := nI 1) d_Te_filledAt_91 (by decide) ?_
          refine aw_iadd d_Te_filledAt_92 ?_
          try simp only [nI_add]
          refine aw_istore d_Te_filledAt_93 (Nat.le_of_ble_eq_true rfl) ?_
          refine aw_goto (tgt := 5) d_Te_filledAt_95 (by decide) ?_
          have hq : fa_f S n (f + 1) a m = fa_f S n f (a + 1) (m - 1) := by
            show (if n ≤ a then _ else _) = _
            rw [if_neg h11, if_neg hM, if_neg hlt]
          rw [hq]
          refine aw_pick (lv' := [(4, .int (nI (a + 1))), (3, .int (nI (m - 1))), (0, .ref 34), (1, .int i0), (2, .ref 16)]) ⟨rfl, rfl, rfl, rfl, rfl, trivial⟩ ?_
          exact ih (a + 1) (m - 1) [] (by omega) (by omega) (by omega)
        · have hlt : m < 1 := Nat.lt_of_not_le (fun e => h43 (nI_le e (by omega)))
          refine aw_iload d_Te_filledAt_46 rfl ?_
          refine aw_if_eq (tgt := 67) d_Te_filledAt_48 (by decide) (fun h48 => ?_) (fun h48 => absurd h24 h48)
          refine aw_aload_n d_Te_filledAt_67 rfl ?_
          refine aw_get d_Te_filledAt_68 fl_Te_9 rfl rfl ?_
          refine aw_iload d_Te_filledAt_71 rfl ?_
          refine aw_ialdN d_Te_filledAt_73 rfl (by omega) (Nat.le_of_ble_eq_true rfl) ?_
          exact aw_iretE d_Te_filledAt_74 rfl (by show _ = (if n ≤ a then _ else _); rw [if_neg h11, if_neg hM, if_pos hlt]) rfl rfl rfl
      · have hM : mk_c S n a := Decidable.not_not.mp (fun c2 => h24 ((bI_0 _).mpr c2))
        have hK := in_of_c hM.2.2.1 (by decide)
        have hY := in_of_c hM.2.2.2 (by decide)
        have ha2 : a + 2 < 200 := by have := hM.1; omega
        have hwd := wd_x_le S a
        refine aw_aload_n d_Te_filledAt_27 rfl ?_
        refine aw_iload d_Te_filledAt_28 rfl ?_
        refine aw_aload_n d_Te_filledAt_30 rfl ?_
        refine aw_cV1 d_Te_filledAt_31 (c_Te_widthOf S r a ha2 hK hY h16) mk_Te_widthOf is_Te_widthOf ln_Te_23 rfl rfl rfl rfl (Nat.le_of_ble_eq_true rfl) (Nat.le_of_ble_eq_true rfl) (Nat.le_of_ble_eq_true rfl) (Nat.le_of_ble_eq_true rfl) ?_
        refine aw_goto (tgt := 38) d_Te_filledAt_34 (by decide) ?_
        refine aw_istore d_Te_filledAt_38 (Nat.le_of_ble_eq_true rfl) ?_
        refine aw_iload_n d_Te_filledAt_40 rfl ?_
        refine aw_iload d_Te_filledAt_41 rfl ?_
        refine aw_icmp_ge (tgt := 75) d_Te_filledAt_43 (by decide) (fun h43 => ?_) (fun h43 => ?_)
        · have hlt : ¬ m < wd_x S a := fun e => absurd h43 (nI_ge e (by omega))
          refine aw_iload_n d_Te_filledAt_75 rfl ?_
          refine aw_iload d_Te_filledAt_76 rfl ?_
          refine aw_isub d_Te_filledAt_78 ?_
          rw [pk_sub (by omega)]
          refine aw_istore_n d_Te_filledAt_79 (Nat.le_of_ble_eq_true rfl) ?_
          refine aw_iload d_Te_filledAt_80 rfl ?_
          refine aw_iload d_Te_filledAt_82 rfl ?_
          refine aw_if_eq (tgt := 91) d_Te_filledAt_84 (by decide) (fun h84 => absurd h84 h24) (fun h84 => ?_)
          refine aw_iconst (v := nI 3) d_Te_filledAt_87 (by decide) ?_
          refine aw_goto (tgt := 92) d_Te_filledAt_88 (by decide) ?_
          refine aw_iadd d_Te_filledAt_92 ?_
          try simp only [nI_add]
          refine aw_istore d_Te_filledAt_93 (Nat.le_of_ble_eq_true rfl) ?_
          refine aw_goto (tgt := 5) d_Te_filledAt_95 (by decide) ?_
          have hq : fa_f S n (f + 1) a m = fa_f S n f (a + 3) (m - wd_x S a) := by
            show (if n ≤ a then _ else _) = _
            rw [if_neg h11, if_pos hM, if_neg hlt]
          rw [hq]
          refine aw_pick (lv' := [(4, .int (nI (a + 3))), (3, .int (nI (m - wd_x S a))), (0, .ref 34), (1, .int i0), (2, .ref 16)]) ⟨rfl, rfl, rfl, rfl, rfl, trivial⟩ ?_
          exact ih (a + 3) (m - wd_x S a) [] (by omega) (by have := hM.1; omega) (by omega)
        · have hlt : m < wd_x S a := Nat.lt_of_not_le (fun e => h43 (nI_le e (by omega)))
          refine aw_iload d_Te_filledAt_46 rfl ?_
          refine aw_if_eq (tgt := 67) d_Te_filledAt_48 (by decide) (fun h48 => absurd h48 h24) (fun h48 => ?_)
          refine aw_aload_n d_Te_filledAt_51 rfl ?_
          refine aw_iload d_Te_filledAt_52 rfl ?_
          refine aw_iload d_Te_filledAt_54 rfl ?_
          refine aw_iconst (v := nI 1) d_Te_filledAt_56 (by decide) ?_
          refine aw_isub d_Te_filledAt_57 ?_
          rw [pk_sub hwd.1]
          refine aw_iload_n d_Te_filledAt_58 rfl ?_
          refine aw_isub d_Te_filledAt_59 ?_
          rw [pk_sub (by omega)]
          refine aw_aload_n d_Te_filledAt_60 rfl ?_
          refine aw_cV1 d_Te_filledAt_61 (c_Te_numberByte S r (wd_x S a - 1 - m) (by omega) a ha2 hK hY h16) mk_Te_numberByte is_Te_numberByte ln_Te_27 rfl rfl rfl rfl (Nat.le_of_ble_eq_true rfl) (Nat.le_of_ble_eq_true rfl) (Nat.le_of_ble_eq_true rfl) (Nat.le_of_ble_eq_true rfl) ?_
          refine aw_goto (tgt := 74) d_Te_filledAt_64 (by decide) ?_
          exact aw_iretE d_Te_filledAt_74 rfl (by show _ = (if n ≤ a then _ else _); rw [if_neg h11, if_pos hM, if_pos hlt]) rfl rfl rfl
theorem c_Te_filledAt (S : cs_S) (r : List am_C) (n : Nat) (hn : S.2.2 34 = nI n) (h200 : n ≤ 200) (h16 : narrow .boolean (.int (S.2.2 16)) = .int (S.2.2 16)) (m : Nat) (hm : m < 2 ^ 31) : am_ct y_Te_filledAt 7 [.ref 34, .int (nI m), .ref 16] (cs_w S ++ r) (some (.int (fa_f S n n 0 m))) (cs_w S ++ r) 0 0 := by
  refine am_ct.of rfl (Nat.le_of_ble_eq_true rfl) ?_
  refine aw_iload_n d_Te_filledAt_0 rfl ?_
  refine aw_istore_n d_Te_filledAt_1 (Nat.le_of_ble_eq_true rfl) ?_
  refine aw_iconst (v := nI 0) d_Te_filledAt_2 (by decide) ?_
  refine aw_istore d_Te_filledAt_3 (Nat.le_of_ble_eq_true rfl) ?_
  refine aw_pick (lv' := [(4, .int (nI 0)), (3, .int (nI m)), (0, .ref 34), (1, .int (nI m)), (2, .ref 16)]) ⟨rfl, rfl, rfl, rfl, rfl, trivial⟩ ?_
  exact lp_Te_fa S r n hn h200 h16 (nI m) n 0 m [] (by omega) (by omega) hm
