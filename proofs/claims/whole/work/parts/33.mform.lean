/-! RateChainsModel.form -/
theorem mu_in {x : Int32} {m : Nat} (hm : m < 1000) (h1 : ¬ x < nI 48) (h2 : x ≤ nI (48 + m)) : iR (x - nI 48) (m + 1) ∧ 48 ≤ cN x ∧ x = nI (cN x) ∧ cN x ≤ 48 + m := by
  have h0 : ¬ x < 0 := fun e => h1 (Int32.lt_trans e (by decide))
  obtain ⟨j, hj, rfl⟩ := nI_of h0
  have a1 : 48 ≤ j := Nat.le_of_not_lt (fun e => h1 (nI_lt e (by omega)))
  have a2 : j ≤ 48 + m := (nI_leI hj (by omega)).mp h2
  rw [pk_sub a1, cN_nI hj]
  exact ⟨⟨nI_pos' (by omega), nI_lt (by omega) (by omega)⟩, a1, rfl, a2⟩
abbrev fm_k (S : cs_S) (a : Nat) : Nat := cN (S.1 54 (a + 1) - nI 48)
abbrev fm_y (S : cs_S) (a : Nat) : Nat := cN (S.1 54 (a + 2) - nI 48)
def fm_n (S : cs_S) (ns : Nat) (q w : Nat → Int) (a : Nat) : Nat := (ct_T S ns q w (fm_k S a) (fm_y S a) (-1) / q (fm_k S a)).toNat
def fm_w (S : cs_S) (ns : Nat) (q w : Nat → Int) (a : Nat) : Nat := if S.2.2 13 = 0 then 1 else lg_n (fm_n S ns q w a)
def fm_b (S : cs_S) (ns : Nat) (q w : Nat → Int) (a m : Nat) : Int32 := if S.2.2 13 = 0 then nI 45 else nI 48 + (dv_f (lg_n (fm_n S ns q w a) - 1 - m) (lN (fm_n S ns q w a)) - dv_f (lg_n (fm_n S ns q w a) - 1 - m) (lN (fm_n S ns q w a)) / lN 10 * lN 10).toInt32
def fm_f (S : cs_S) (ns : Nat) (q w : Nat → Int) (n : Nat) : Nat → Nat → Nat → Int32
  | 0, _, _ => -1
  | f + 1, a, m => if n ≤ a then -1 else if mu_c S n a then (if m < fm_w S ns q w a then fm_b S ns q w a m else fm_f S ns q w n f (a + 3) (m - fm_w S ns q w a)) else (if m < 1 then S.1 54 a else fm_f S ns q w n f (a + 1) (m - 1))
theorem lp_Mo_form (C S : cs_S) (ns : Nat) (q w : Nat → Int) (h : S.2.2 13 ≠ 0 → mO S ns q w) (n : Nat) (hn : S.2.2 24 = nI n) (h200 : n ≤ 200) (x : Int32) : ∀ (f a m : Nat) (v : Int × Int) (e : List (Nat × Value)), n ≤ a + f → a < 2 ^ 20 → m < 2 ^ 31 → ∃ v', AW (am_Mof y_Mo_form) 4 0 0 10 ([(2, .int (nI a)), (3, .int (nI m)), (0, .ref 36), (1, .int x)] ++ e) [] (cs_w C ++ ms_w (mQ S (v))) 0 0 (am_Z (some (.int (fm_f S ns q w n f a m))) (cs_w C ++ ms_w (mQ S (v'))) 0 0) := by
  intro f
  induction f with
  | zero =>
    intro a m v e hf ha hm
    refine ⟨v, ?_⟩
    refine aw_sub (lv' := [(2, .int (nI a)), (3, .int (nI m)), (0, .ref 36), (1, .int x)]) (by simp) ?_
    refine aw_iload_n d_Mo_form_10 rfl ?_
    refine aw_aload_n d_Mo_form_11 rfl ?_
    refine aw_get d_Mo_form_12 fl_Mo_191 rfl rfl ?_
    refine aw_eqs (congrArg (fun z => Value.int z :: _) hn) ?_
    refine aw_icmp_ge (tgt := 153) d_Mo_form_15 (by decide) (fun h15 => ?_) (fun h15 => absurd (nI_le (by omega) (by omega)) h15)
    refine aw_iconst (v := -1) d_Mo_form_153 (by decide) ?_
    exact aw_iretE d_Mo_form_154 rfl rfl rfl rfl rfl
  | succ f ih =>
    intro a m v e hf ha hm
    by_cases hA : n ≤ a
    · have hq : fm_f S ns q w n (f + 1) a m = -1 := if_pos hA
      rw [hq]
      refine ⟨v, ?_⟩
      refine aw_sub (lv' := [(2, .int (nI a)), (3, .int (nI m)), (0, .ref 36), (1, .int x)]) (by simp) ?_
      refine aw_iload_n d_Mo_form_10 rfl ?_
      refine aw_aload_n d_Mo_form_11 rfl ?_
      refine aw_get d_Mo_form_12 fl_Mo_191 rfl rfl ?_
      refine aw_eqs (congrArg (fun z => Value.int z :: _) hn) ?_
      refine aw_icmp_ge (tgt := 153) d_Mo_form_15 (by decide) (fun h15 => ?_) (fun h15 => absurd (nI_le (by omega) (by omega)) h15)
      refine aw_iconst (v := -1) d_Mo_form_153 (by decide) ?_
      exact aw_iretE d_Mo_form_154 rfl rfl rfl rfl rfl
    · by_cases hM : mu_c S n a
      · by_cases hs : S.2.2 13 = 0
        · have hw : fm_w S ns q w a = 1 := if_pos hs
          by_cases hm1 : m < 1
          · have hq : fm_f S ns q w n (f + 1) a m = nI 45 := ((if_neg hA).trans ((if_pos hM).trans (if_pos (by rw [hw]; exact hm1)))).trans (if_pos hs)
            rw [hq]
            refine ⟨v, ?_⟩
            refine aw_sub (lv' := [(2, .int (nI a)), (3, .int (nI m)), (0, .ref 36), (1, .int x)]) (by simp) ?_
            refine aw_iload_n d_Mo_form_10 rfl ?_
            refine aw_aload_n d_Mo_form_11 rfl ?_
            refine aw_get d_Mo_form_12 fl_Mo_191 rfl rfl ?_
            refine aw_eqs (congrArg (fun z => Value.int z :: _) hn) ?_
            refine aw_icmp_ge (tgt := 153) d_Mo_form_15 (by decide) (fun h15 => absurd h15 (nI_ge (by omega) (by omega))) (fun h15 => ?_)
            refine aw_iconst (v := nI 1) d_Mo_form_18 (by decide) ?_
            refine aw_istore d_Mo_form_19 (Nat.le_of_ble_eq_true rfl) ?_
            refine aw_ldc2 (v := (-1)) d_Mo_form_21 kl_Mo_172 ?_
            refine aw_lstore d_Mo_form_24 (Nat.le_of_ble_eq_true rfl) ?_
            refine aw_aload_n d_Mo_form_26 rfl ?_
            refine aw_iload_n d_Mo_form_27 rfl ?_
            refine aw_cV1 d_Mo_form_28 (c_Mo_isNumberAt C (mQ S v) a n hn h200 (by omega)) mk_Mo_isNumberAt is_Mo_isNumberAt ln_Mo_198 rfl rfl rfl rfl (Nat.le_of_ble_eq_true rfl) (Nat.le_of_ble_eq_true rfl) (Nat.le_of_ble_eq_true rfl) (Nat.le_of_ble_eq_true rfl) ?_
            refine aw_istore d_Mo_form_31 (Nat.le_of_ble_eq_true rfl) ?_
            refine aw_iload d_Mo_form_33 rfl ?_
            refine aw_if_eq (tgt := 90) d_Mo_form_35 (by decide) (fun h35 => absurd h35 (fun e => (bI_0 _).mp e hM)) (fun h35 => ?_)
            refine aw_aload_n d_Mo_form_38 rfl ?_
            refine aw_get d_Mo_form_39 fl_Mo_141 rfl rfl ?_
            refine aw_if_eq (tgt := 90) d_Mo_form_42 (by decide) (fun h42 => ?_) (fun h42 => absurd hs h42)
            refine aw_iload_n d_Mo_form_90 rfl ?_
            refine aw_iload d_Mo_form_91 rfl ?_
            refine aw_icmp_ge (tgt := 132) d_Mo_form_93 (by decide) (fun h93 => absurd h93 (nI_ge hm1 (by omega))) (fun h93 => ?_)
            refine aw_iload d_Mo_form_96 rfl ?_
            refine aw_if_ne (tgt := 110) d_Mo_form_98 (by decide) (fun h98 => ?_) (fun h98 => absurd hM ((bI_0 _).mp h98))
            refine aw_aload_n d_Mo_form_110 rfl ?_
            refine aw_get d_Mo_form_111 fl_Mo_141 rfl rfl ?_
            refine aw_if_eq (tgt := 129) d_Mo_form_114 (by decide) (fun h114 => ?_) (fun h114 => absurd hs h114)
            refine aw_bipush (v := nI 45) d_Mo_form_129 (by decide) ?_
            exact aw_iretE d_Mo_form_131 rfl rfl rfl rfl rfl
          · have hq : fm_f S ns q w n (f + 1) a m = fm_f S ns q w n f (a + 3) (m - 1) := ((if_neg hA).trans ((if_pos hM).trans (if_neg (by rw [hw]; exact hm1)))).trans (by rw [hw])
            obtain ⟨v', hv⟩ := ih (a + 3) (m - 1) v [] (by omega) (by omega) (by omega)
            refine ⟨v', ?_⟩
            refine aw_sub (lv' := [(2, .int (nI a)), (3, .int (nI m)), (0, .ref 36), (1, .int x)]) (by simp) ?_
            refine aw_iload_n d_Mo_form_10 rfl ?_
            refine aw_aload_n d_Mo_form_11 rfl ?_
            refine aw_get d_Mo_form_12 fl_Mo_191 rfl rfl ?_
            refine aw_eqs (congrArg (fun z => Value.int z :: _) hn) ?_
            refine aw_icmp_ge (tgt := 153) d_Mo_form_15 (by decide) (fun h15 => absurd h15 (nI_ge (by omega) (by omega))) (fun h15 => ?_)
            refine aw_iconst (v := nI 1) d_Mo_form_18 (by decide) ?_
            refine aw_istore d_Mo_form_19 (Nat.le_of_ble_eq_true rfl) ?_
            refine aw_ldc2 (v := (-1)) d_Mo_form_21 kl_Mo_172 ?_
            refine aw_lstore d_Mo_form_24 (Nat.le_of_ble_eq_true rfl) ?_
            refine aw_aload_n d_Mo_form_26 rfl ?_
            refine aw_iload_n d_Mo_form_27 rfl ?_
            refine aw_cV1 d_Mo_form_28 (c_Mo_isNumberAt C (mQ S v) a n hn h200 (by omega)) mk_Mo_isNumberAt is_Mo_isNumberAt ln_Mo_198 rfl rfl rfl rfl (Nat.le_of_ble_eq_true rfl) (Nat.le_of_ble_eq_true rfl) (Nat.le_of_ble_eq_true rfl) (Nat.le_of_ble_eq_true rfl) ?_
            refine aw_istore d_Mo_form_31 (Nat.le_of_ble_eq_true rfl) ?_
            refine aw_iload d_Mo_form_33 rfl ?_
            refine aw_if_eq (tgt := 90) d_Mo_form_35 (by decide) (fun h35 => absurd h35 (fun e => (bI_0 _).mp e hM)) (fun h35 => ?_)
            refine aw_aload_n d_Mo_form_38 rfl ?_
            refine aw_get d_Mo_form_39 fl_Mo_141 rfl rfl ?_
            refine aw_if_eq (tgt := 90) d_Mo_form_42 (by decide) (fun h42 => ?_) (fun h42 => absurd hs h42)
            refine aw_iload_n d_Mo_form_90 rfl ?_
            refine aw_iload d_Mo_form_91 rfl ?_
            refine aw_icmp_ge (tgt := 132) d_Mo_form_93 (by decide) (fun h93 => ?_) (fun h93 => absurd (nI_le (by omega) (by omega)) h93)
            refine aw_iload_n d_Mo_form_132 rfl ?_
            refine aw_iload d_Mo_form_133 rfl ?_
            refine aw_isub d_Mo_form_135 ?_
            rw [pk_sub (by omega)]
            refine aw_istore_n d_Mo_form_136 (Nat.le_of_ble_eq_true rfl) ?_
            refine aw_iload_n d_Mo_form_137 rfl ?_
            refine aw_iload d_Mo_form_138 rfl ?_
            refine aw_if_eq (tgt := 147) d_Mo_form_140 (by decide) (fun h140 => absurd h140 (fun e => (bI_0 _).mp e hM)) (fun h140 => ?_)
            refine aw_iconst (v := nI 3) d_Mo_form_143 (by decide) ?_
            refine aw_goto (tgt := 148) d_Mo_form_144 (by decide) ?_
            refine aw_iadd d_Mo_form_148 ?_
            try simp only [pk_mul, nI_add]
            refine aw_istore_n d_Mo_form_149 (Nat.le_of_ble_eq_true rfl) ?_
            refine aw_goto (tgt := 10) d_Mo_form_150 (by decide) ?_
            refine aw_pick (lv' := [(2, .int (nI (a + 3))), (3, .int (nI (m - 1))), (0, .ref 36), (1, .int x)]) ⟨rfl, rfl, rfl, rfl, trivial⟩ ?_
            rw [hq]
            exact hv
        · have h := h hs
          obtain ⟨i1, j1, j2, j3⟩ := mu_in (m := 3) (by omega) hM.2.2.1 hM.2.2.2.1
          obtain ⟨i2, l1, l2, l3⟩ := mu_in (m := 9) (by omega) hM.2.2.2.2.1 hM.2.2.2.2.2
          obtain ⟨k, hk, ek⟩ := in_ex i1 (by decide)
          obtain ⟨y, hy, ey⟩ := in_ex i2 (by decide)
          have hfk : fm_k S a = k := by unfold fm_k; rw [ek, cN_nI (by omega)]
          have hfy : fm_y S a = y := by unfold fm_y; rw [ey, cN_nI (by omega)]
          have hb := ct_b h hk hy (-1)
          have hqk := h.2.2.2.1 k hk
          have hN : fm_n S ns q w a = (ct_T S ns q w k y (-1) / q k).toNat := by unfold fm_n; rw [hfk, hfy]
          have hd0 : 0 ≤ ct_T S ns q w k y (-1) / q k := Int.ediv_nonneg hb.1 (Int.le_of_lt hqk.1)
          have hd1 : ct_T S ns q w k y (-1) / q k ≤ ct_T S ns q w k y (-1) := Int.ediv_le_self _ hb.1
          have hNl : fm_n S ns q w a < 2 ^ 63 := by rw [hN]; omega
          have hzN : zL (ct_T S ns q w k y (-1) / q k) = lN (fm_n S ns q w a) := by rw [hN, ← zL_n, Int.toNat_of_nonneg hd0]
          have hw : fm_w S ns q w a = lg_n (fm_n S ns q w a) := if_neg hs
          have hlg : 1 ≤ lg_n (fm_n S ns q w a) ∧ lg_n (fm_n S ns q w a) ≤ 1 + 19 := lg_f_le 19 (fm_n S ns q w a / 10) 1
          by_cases hm1 : m < lg_n (fm_n S ns q w a)
          · have hq : fm_f S ns q w n (f + 1) a m = _ := ((if_neg hA).trans ((if_pos hM).trans (if_pos (by rw [hw]; exact hm1)))).trans (if_neg hs)
            rw [hq]
            refine ⟨ct_v S ns q w k y (-1), ?_⟩
            refine aw_sub (lv' := [(2, .int (nI a)), (3, .int (nI m)), (0, .ref 36), (1, .int x)]) (by simp) ?_
            refine aw_iload_n d_Mo_form_10 rfl ?_
            refine aw_aload_n d_Mo_form_11 rfl ?_
            refine aw_get d_Mo_form_12 fl_Mo_191 rfl rfl ?_
            refine aw_eqs (congrArg (fun z => Value.int z :: _) hn) ?_
            refine aw_icmp_ge (tgt := 153) d_Mo_form_15 (by decide) (fun h15 => absurd h15 (nI_ge (by omega) (by omega))) (fun h15 => ?_)
            refine aw_iconst (v := nI 1) d_Mo_form_18 (by decide) ?_
            refine aw_istore d_Mo_form_19 (Nat.le_of_ble_eq_true rfl) ?_
            refine aw_ldc2 (v := (-1)) d_Mo_form_21 kl_Mo_172 ?_
            refine aw_lstore d_Mo_form_24 (Nat.le_of_ble_eq_true rfl) ?_
            refine aw_aload_n d_Mo_form_26 rfl ?_
            refine aw_iload_n d_Mo_form_27 rfl ?_
            refine aw_cV1 d_Mo_form_28 (c_Mo_isNumberAt C (mQ S v) a n hn h200 (by omega)) mk_Mo_isNumberAt is_Mo_isNumberAt ln_Mo_198 rfl rfl rfl rfl (Nat.le_of_ble_eq_true rfl) (Nat.le_of_ble_eq_true rfl) (Nat.le_of_ble_eq_true rfl) (Nat.le_of_ble_eq_true rfl) ?_
            refine aw_istore d_Mo_form_31 (Nat.le_of_ble_eq_true rfl) ?_
            refine aw_iload d_Mo_form_33 rfl ?_
            refine aw_if_eq (tgt := 90) d_Mo_form_35 (by decide) (fun h35 => absurd h35 (fun e => (bI_0 _).mp e hM)) (fun h35 => ?_)
            refine aw_aload_n d_Mo_form_38 rfl ?_
            refine aw_get d_Mo_form_39 fl_Mo_141 rfl rfl ?_
            refine aw_if_eq (tgt := 90) d_Mo_form_42 (by decide) (fun h42 => absurd h42 hs) (fun h42 => ?_)
            refine aw_aload_n d_Mo_form_45 rfl ?_
            refine aw_aload_n d_Mo_form_46 rfl ?_
            refine aw_get d_Mo_form_47 fl_Mo_63 rfl rfl ?_
            refine aw_iload_n d_Mo_form_50 rfl ?_
            refine aw_iconst (v := nI 1) d_Mo_form_51 (by decide) ?_
            refine aw_iadd d_Mo_form_52 ?_
            try simp only [pk_mul, nI_add]
            refine aw_ialdN d_Mo_form_53 rfl (by omega) (Nat.le_of_ble_eq_true rfl) ?_
            refine aw_bipush (v := nI 48) d_Mo_form_54 (by decide) ?_
            refine aw_isub d_Mo_form_56 ?_
            refine aw_eqs (congrArg (fun z => Value.int z :: _) ek) ?_
            refine aw_aload_n d_Mo_form_57 rfl ?_
            refine aw_get d_Mo_form_58 fl_Mo_63 rfl rfl ?_
            refine aw_iload_n d_Mo_form_61 rfl ?_
            refine aw_iconst (v := nI 2) d_Mo_form_62 (by decide) ?_
            refine aw_iadd d_Mo_form_63 ?_
            try simp only [pk_mul, nI_add]
            refine aw_ialdN d_Mo_form_64 rfl (by omega) (Nat.le_of_ble_eq_true rfl) ?_
            refine aw_bipush (v := nI 48) d_Mo_form_65 (by decide) ?_
            refine aw_isub d_Mo_form_67 ?_
            refine aw_eqs (congrArg (fun z => Value.int z :: _) ey) ?_
            refine aw_iconst (v := -1) d_Mo_form_68 (by decide) ?_
            refine aw_cV0 d_Mo_form_69 (c_Mo_countQ C S v ns q w h k y hk hy (-1)) mk_Mo_count is_Mo_count ln_Mo_174 rfl rfl rfl rfl (Nat.le_of_ble_eq_true rfl) (Nat.le_of_ble_eq_true rfl) (Nat.le_of_ble_eq_true rfl) (Nat.le_of_ble_eq_true rfl) ?_
            refine aw_aload_n d_Mo_form_72 rfl ?_
            refine aw_get d_Mo_form_73 fl_Mo_154 rfl rfl ?_
            refine aw_eqs (st' := [.long (zL (ct_v S ns q w k y (-1)).1)]) rfl ?_
            refine aw_aload_n d_Mo_form_76 rfl ?_
            refine aw_get d_Mo_form_77 fl_Mo_158 rfl rfl ?_
            refine aw_eqs (st' := [.long (zL (ct_v S ns q w k y (-1)).2), .long (zL (ct_v S ns q w k y (-1)).1)]) rfl ?_
            refine aw_ldiv d_Mo_form_80 (ct_ne h hk _) ?_
            rw [ct_dn h hk hy, hzN]
            refine aw_lstore d_Mo_form_81 (Nat.le_of_ble_eq_true rfl) ?_
            refine aw_lload d_Mo_form_83 rfl ?_
            refine aw_cS1 d_Mo_form_85 (c_Mo_length _ (fm_n S ns q w a) hNl) mk_Mo_length is_Mo_length ln_Mo_194 rfl rfl (Nat.le_of_ble_eq_true rfl) (Nat.le_of_ble_eq_true rfl) (Nat.le_of_ble_eq_true rfl) (Nat.le_of_ble_eq_true rfl) ?_
            refine aw_istore d_Mo_form_88 (Nat.le_of_ble_eq_true rfl) ?_
            refine aw_iload_n d_Mo_form_90 rfl ?_
            refine aw_iload d_Mo_form_91 rfl ?_
            refine aw_icmp_ge (tgt := 132) d_Mo_form_93 (by decide) (fun h93 => absurd h93 (nI_ge hm1 (by omega))) (fun h93 => ?_)
            refine aw_iload d_Mo_form_96 rfl ?_
            refine aw_if_ne (tgt := 110) d_Mo_form_98 (by decide) (fun h98 => ?_) (fun h98 => absurd hM ((bI_0 _).mp h98))
            refine aw_aload_n d_Mo_form_110 rfl ?_
            refine aw_get d_Mo_form_111 fl_Mo_141 rfl rfl ?_
            refine aw_if_eq (tgt := 129) d_Mo_form_114 (by decide) (fun h114 => absurd h114 hs) (fun h114 => ?_)
            refine aw_bipush (v := nI 48) d_Mo_form_117 (by decide) ?_
            refine aw_lload d_Mo_form_119 rfl ?_
            refine aw_iload_n d_Mo_form_121 rfl ?_
            refine aw_cS1 d_Mo_form_122 (c_Mo_digit _ (fm_n S ns q w a) m hNl hm1) mk_Mo_digit is_Mo_digit ln_Mo_201 rfl rfl (Nat.le_of_ble_eq_true rfl) (Nat.le_of_ble_eq_true rfl) (Nat.le_of_ble_eq_true rfl) (Nat.le_of_ble_eq_true rfl) ?_
            refine aw_iadd d_Mo_form_125 ?_
            refine aw_goto (tgt := 131) d_Mo_form_126 (by decide) ?_
            exact aw_iretE d_Mo_form_131 rfl rfl rfl rfl rfl
          · have hq : fm_f S ns q w n (f + 1) a m = fm_f S ns q w n f (a + 3) (m - lg_n (fm_n S ns q w a)) := ((if_neg hA).trans ((if_pos hM).trans (if_neg (by rw [hw]; exact hm1)))).trans (by rw [hw])
            obtain ⟨v', hv⟩ := ih (a + 3) (m - lg_n (fm_n S ns q w a)) (ct_v S ns q w k y (-1)) [] (by omega) (by omega) (by omega)
            refine ⟨v', ?_⟩
            refine aw_sub (lv' := [(2, .int (nI a)), (3, .int (nI m)), (0, .ref 36), (1, .int x)]) (by simp) ?_
            refine aw_iload_n d_Mo_form_10 rfl ?_
            refine aw_aload_n d_Mo_form_11 rfl ?_
            refine aw_get d_Mo_form_12 fl_Mo_191 rfl rfl ?_
            refine aw_eqs (congrArg (fun z => Value.int z :: _) hn) ?_
            refine aw_icmp_ge (tgt := 153) d_Mo_form_15 (by decide) (fun h15 => absurd h15 (nI_ge (by omega) (by omega))) (fun h15 => ?_)
            refine aw_iconst (v := nI 1) d_Mo_form_18 (by decide) ?_
            refine aw_istore d_Mo_form_19 (Nat.le_of_ble_eq_true rfl) ?_
            refine aw_ldc2 (v := (-1)) d_Mo_form_21 kl_Mo_172 ?_
            refine aw_lstore d_Mo_form_24 (Nat.le_of_ble_eq_true rfl) ?_
            refine aw_aload_n d_Mo_form_26 rfl ?_
            refine aw_iload_n d_Mo_form_27 rfl ?_
            refine aw_cV1 d_Mo_form_28 (c_Mo_isNumberAt C (mQ S v) a n hn h200 (by omega)) mk_Mo_isNumberAt is_Mo_isNumberAt ln_Mo_198 rfl rfl rfl rfl (Nat.le_of_ble_eq_true rfl) (Nat.le_of_ble_eq_true rfl) (Nat.le_of_ble_eq_true rfl) (Nat.le_of_ble_eq_true rfl) ?_
            refine aw_istore d_Mo_form_31 (Nat.le_of_ble_eq_true rfl) ?_
            refine aw_iload d_Mo_form_33 rfl ?_
            refine aw_if_eq (tgt := 90) d_Mo_form_35 (by decide) (fun h35 => absurd h35 (fun e => (bI_0 _).mp e hM)) (fun h35 => ?_)
            refine aw_aload_n d_Mo_form_38 rfl ?_
            refine aw_get d_Mo_form_39 fl_Mo_141 rfl rfl ?_
            refine aw_if_eq (tgt := 90) d_Mo_form_42 (by decide) (fun h42 => absurd h42 hs) (fun h42 => ?_)
            refine aw_aload_n d_Mo_form_45 rfl ?_
            refine aw_aload_n d_Mo_form_46 rfl ?_
            refine aw_get d_Mo_form_47 fl_Mo_63 rfl rfl ?_
            refine aw_iload_n d_Mo_form_50 rfl ?_
            refine aw_iconst (v := nI 1) d_Mo_form_51 (by decide) ?_
            refine aw_iadd d_Mo_form_52 ?_
            try simp only [pk_mul, nI_add]
            refine aw_ialdN d_Mo_form_53 rfl (by omega) (Nat.le_of_ble_eq_true rfl) ?_
            refine aw_bipush (v := nI 48) d_Mo_form_54 (by decide) ?_
            refine aw_isub d_Mo_form_56 ?_
            refine aw_eqs (congrArg (fun z => Value.int z :: _) ek) ?_
            refine aw_aload_n d_Mo_form_57 rfl ?_
            refine aw_get d_Mo_form_58 fl_Mo_63 rfl rfl ?_
            refine aw_iload_n d_Mo_form_61 rfl ?_
            refine aw_iconst (v := nI 2) d_Mo_form_62 (by decide) ?_
            refine aw_iadd d_Mo_form_63 ?_
            try simp only [pk_mul, nI_add]
            refine aw_ialdN d_Mo_form_64 rfl (by omega) (Nat.le_of_ble_eq_true rfl) ?_
            refine aw_bipush (v := nI 48) d_Mo_form_65 (by decide) ?_
            refine aw_isub d_Mo_form_67 ?_
            refine aw_eqs (congrArg (fun z => Value.int z :: _) ey) ?_
            refine aw_iconst (v := -1) d_Mo_form_68 (by decide) ?_
            refine aw_cV0 d_Mo_form_69 (c_Mo_countQ C S v ns q w h k y hk hy (-1)) mk_Mo_count is_Mo_count ln_Mo_174 rfl rfl rfl rfl (Nat.le_of_ble_eq_true rfl) (Nat.le_of_ble_eq_true rfl) (Nat.le_of_ble_eq_true rfl) (Nat.le_of_ble_eq_true rfl) ?_
            refine aw_aload_n d_Mo_form_72 rfl ?_
            refine aw_get d_Mo_form_73 fl_Mo_154 rfl rfl ?_
            refine aw_eqs (st' := [.long (zL (ct_v S ns q w k y (-1)).1)]) rfl ?_
            refine aw_aload_n d_Mo_form_76 rfl ?_
            refine aw_get d_Mo_form_77 fl_Mo_158 rfl rfl ?_
            refine aw_eqs (st' := [.long (zL (ct_v S ns q w k y (-1)).2), .long (zL (ct_v S ns q w k y (-1)).1)]) rfl ?_
            refine aw_ldiv d_Mo_form_80 (ct_ne h hk _) ?_
            rw [ct_dn h hk hy, hzN]
            refine aw_lstore d_Mo_form_81 (Nat.le_of_ble_eq_true rfl) ?_
            refine aw_lload d_Mo_form_83 rfl ?_
            refine aw_cS1 d_Mo_form_85 (c_Mo_length _ (fm_n S ns q w a) hNl) mk_Mo_length is_Mo_length ln_Mo_194 rfl rfl (Nat.le_of_ble_eq_true rfl) (Nat.le_of_ble_eq_true rfl) (Nat.le_of_ble_eq_true rfl) (Nat.le_of_ble_eq_true rfl) ?_
            refine aw_istore d_Mo_form_88 (Nat.le_of_ble_eq_true rfl) ?_
            refine aw_iload_n d_Mo_form_90 rfl ?_
            refine aw_iload d_Mo_form_91 rfl ?_
            refine aw_icmp_ge (tgt := 132) d_Mo_form_93 (by decide) (fun h93 => ?_) (fun h93 => absurd (nI_le (by omega) (by omega)) h93)
            refine aw_iload_n d_Mo_form_132 rfl ?_
            refine aw_iload d_Mo_form_133 rfl ?_
            refine aw_isub d_Mo_form_135 ?_
            rw [pk_sub (by omega)]
            refine aw_istore_n d_Mo_form_136 (Nat.le_of_ble_eq_true rfl) ?_
            refine aw_iload_n d_Mo_form_137 rfl ?_
            refine aw_iload d_Mo_form_138 rfl ?_
            refine aw_if_eq (tgt := 147) d_Mo_form_140 (by decide) (fun h140 => absurd h140 (fun e => (bI_0 _).mp e hM)) (fun h140 => ?_)
            refine aw_iconst (v := nI 3) d_Mo_form_143 (by decide) ?_
            refine aw_goto (tgt := 148) d_Mo_form_144 (by decide) ?_
            refine aw_iadd d_Mo_form_148 ?_
            try simp only [pk_mul, nI_add]
            refine aw_istore_n d_Mo_form_149 (Nat.le_of_ble_eq_true rfl) ?_
            refine aw_goto (tgt := 10) d_Mo_form_150 (by decide) ?_
            refine aw_pick (lv' := [(2, .int (nI (a + 3))), (3, .int (nI (m - lg_n (fm_n S ns q w a)))), (0, .ref 36), (1, .int x)]) ⟨rfl, rfl, rfl, rfl, trivial⟩ ?_
            rw [hq]
            exact hv
      · by_cases hm1 : m < 1
        · have hq : fm_f S ns q w n (f + 1) a m = S.1 54 a := (if_neg hA).trans ((if_neg hM).trans (if_pos hm1))
          rw [hq]
          refine ⟨v, ?_⟩
          refine aw_sub (lv' := [(2, .int (nI a)), (3, .int (nI m)), (0, .ref 36), (1, .int x)]) (by simp) ?_
          refine aw_iload_n d_Mo_form_10 rfl ?_
          refine aw_aload_n d_Mo_form_11 rfl ?_
          refine aw_get d_Mo_form_12 fl_Mo_191 rfl rfl ?_
          refine aw_eqs (congrArg (fun z => Value.int z :: _) hn) ?_
          refine aw_icmp_ge (tgt := 153) d_Mo_form_15 (by decide) (fun h15 => absurd h15 (nI_ge (by omega) (by omega))) (fun h15 => ?_)
          refine aw_iconst (v := nI 1) d_Mo_form_18 (by decide) ?_
          refine aw_istore d_Mo_form_19 (Nat.le_of_ble_eq_true rfl) ?_
          refine aw_ldc2 (v := (-1)) d_Mo_form_21 kl_Mo_172 ?_
          refine aw_lstore d_Mo_form_24 (Nat.le_of_ble_eq_true rfl) ?_
          refine aw_aload_n d_Mo_form_26 rfl ?_
          refine aw_iload_n d_Mo_form_27 rfl ?_
          refine aw_cV1 d_Mo_form_28 (c_Mo_isNumberAt C (mQ S v) a n hn h200 (by omega)) mk_Mo_isNumberAt is_Mo_isNumberAt ln_Mo_198 rfl rfl rfl rfl (Nat.le_of_ble_eq_true rfl) (Nat.le_of_ble_eq_true rfl) (Nat.le_of_ble_eq_true rfl) (Nat.le_of_ble_eq_true rfl) ?_
          refine aw_istore d_Mo_form_31 (Nat.le_of_ble_eq_true rfl) ?_
          refine aw_iload d_Mo_form_33 rfl ?_
          refine aw_if_eq (tgt := 90) d_Mo_form_35 (by decide) (fun h35 => ?_) (fun h35 => absurd ((bI_0 _).mpr hM) h35)
          refine aw_iload_n d_Mo_form_90 rfl ?_
          refine aw_iload d_Mo_form_91 rfl ?_
          refine aw_icmp_ge (tgt := 132) d_Mo_form_93 (by decide) (fun h93 => absurd h93 (nI_ge hm1 (by omega))) (fun h93 => ?_)
          refine aw_iload d_Mo_form_96 rfl ?_
          refine aw_if_ne (tgt := 110) d_Mo_form_98 (by decide) (fun h98 => absurd ((bI_0 _).mpr hM) h98) (fun h98 => ?_)
          refine aw_aload_n d_Mo_form_101 rfl ?_
          refine aw_get d_Mo_form_102 fl_Mo_63 rfl rfl ?_
          refine aw_iload_n d_Mo_form_105 rfl ?_
          refine aw_ialdN d_Mo_form_106 rfl (by omega) (Nat.le_of_ble_eq_true rfl) ?_
          refine aw_goto (tgt := 131) d_Mo_form_107 (by decide) ?_
          exact aw_iretE d_Mo_form_131 rfl rfl rfl rfl rfl
        · have hq : fm_f S ns q w n (f + 1) a m = fm_f S ns q w n f (a + 1) (m - 1) := (if_neg hA).trans ((if_neg hM).trans (if_neg hm1))
          obtain ⟨v', hv⟩ := ih (a + 1) (m - 1) v [] (by omega) (by omega) (by omega)
          refine ⟨v', ?_⟩
          refine aw_sub (lv' := [(2, .int (nI a)), (3, .int (nI m)), (0, .ref 36), (1, .int x)]) (by simp) ?_
          refine aw_iload_n d_Mo_form_10 rfl ?_
          refine aw_aload_n d_Mo_form_11 rfl ?_
          refine aw_get d_Mo_form_12 fl_Mo_191 rfl rfl ?_
          refine aw_eqs (congrArg (fun z => Value.int z :: _) hn) ?_
          refine aw_icmp_ge (tgt := 153) d_Mo_form_15 (by decide) (fun h15 => absurd h15 (nI_ge (by omega) (by omega))) (fun h15 => ?_)
          refine aw_iconst (v := nI 1) d_Mo_form_18 (by decide) ?_
          refine aw_istore d_Mo_form_19 (Nat.le_of_ble_eq_true rfl) ?_
          refine aw_ldc2 (v := (-1)) d_Mo_form_21 kl_Mo_172 ?_
          refine aw_lstore d_Mo_form_24 (Nat.le_of_ble_eq_true rfl) ?_
          refine aw_aload_n d_Mo_form_26 rfl ?_
          refine aw_iload_n d_Mo_form_27 rfl ?_
          refine aw_cV1 d_Mo_form_28 (c_Mo_isNumberAt C (mQ S v) a n hn h200 (by omega)) mk_Mo_isNumberAt is_Mo_isNumberAt ln_Mo_198 rfl rfl rfl rfl (Nat.le_of_ble_eq_true rfl) (Nat.le_of_ble_eq_true rfl) (Nat.le_of_ble_eq_true rfl) (Nat.le_of_ble_eq_true rfl) ?_
          refine aw_istore d_Mo_form_31 (Nat.le_of_ble_eq_true rfl) ?_
          refine aw_iload d_Mo_form_33 rfl ?_
          refine aw_if_eq (tgt := 90) d_Mo_form_35 (by decide) (fun h35 => ?_) (fun h35 => absurd ((bI_0 _).mpr hM) h35)
          refine aw_iload_n d_Mo_form_90 rfl ?_
          refine aw_iload d_Mo_form_91 rfl ?_
          refine aw_icmp_ge (tgt := 132) d_Mo_form_93 (by decide) (fun h93 => ?_) (fun h93 => absurd (nI_le (by omega) (by omega)) h93)
          refine aw_iload_n d_Mo_form_132 rfl ?_
          refine aw_iload d_Mo_form_133 rfl ?_
          refine aw_isub d_Mo_form_135 ?_
          rw [pk_sub (by omega)]
          refine aw_istore_n d_Mo_form_136 (Nat.le_of_ble_eq_true rfl) ?_
          refine aw_iload_n d_Mo_form_137 rfl ?_
          refine aw_iload d_Mo_form_138 rfl ?_
          refine aw_if_eq (tgt := 147) d_Mo_form_140 (by decide) (fun h140 => ?_) (fun h140 => absurd ((bI_0 _).mpr hM) h140)
          refine aw_iconst (v := nI 1) d_Mo_form_147 (by decide) ?_
          refine aw_iadd d_Mo_form_148 ?_
          try simp only [pk_mul, nI_add]
          refine aw_istore_n d_Mo_form_149 (Nat.le_of_ble_eq_true rfl) ?_
          refine aw_goto (tgt := 10) d_Mo_form_150 (by decide) ?_
          refine aw_pick (lv' := [(2, .int (nI (a + 1))), (3, .int (nI (m - 1))), (0, .ref 36), (1, .int x)]) ⟨rfl, rfl, rfl, rfl, trivial⟩ ?_
          rw [hq]
          exact hv
theorem c_Mo_form (C S : cs_S) (ns : Nat) (q w : Nat → Int) (h : S.2.2 13 ≠ 0 → mO S ns q w) (n : Nat) (hn : S.2.2 24 = nI n) (h200 : n ≤ 200) (x : Int32) : ∃ v', am_ct y_Mo_form 4 [.ref 36, .int x] (cs_w C ++ ms_w S) (some (.int (if 0 ≤ x then fm_f S ns q w n n 0 (cN x) else -1))) (cs_w C ++ ms_w (mQ S (v'))) 0 0 := by
  by_cases h0 : 0 ≤ x
  · rw [if_pos h0]
    obtain ⟨m, hm, rfl⟩ := nI_of ((i32_nlt _ _).mpr h0)
    rw [cN_nI hm]
    obtain ⟨v', hv⟩ := lp_Mo_form C S ns q w h n hn h200 (nI m) n 0 m (qo S) [] (by omega) (by omega) hm
    refine ⟨v', ?_⟩
    refine am_ct.of rfl (Nat.le_of_ble_eq_true rfl) ?_
    refine aw_iload_n d_Mo_form_0 rfl ?_
    refine aw_if_ge (tgt := 6) d_Mo_form_1 (by decide) (fun h1 => ?_) (fun h1 => absurd h0 h1)
    refine aw_iconst (v := nI 0) d_Mo_form_6 (by decide) ?_
    refine aw_istore_n d_Mo_form_7 (Nat.le_of_ble_eq_true rfl) ?_
    refine aw_iload_n d_Mo_form_8 rfl ?_
    refine aw_istore_n d_Mo_form_9 (Nat.le_of_ble_eq_true rfl) ?_
    refine aw_eqw (w' := cs_w C ++ ms_w (mQ S (qo S))) (by rw [qo_w]) ?_
    exact aw_pick (lv' := [(2, .int (nI 0)), (3, .int (nI m)), (0, .ref 36), (1, .int (nI m))]) ⟨rfl, rfl, rfl, rfl, trivial⟩ hv
  · rw [if_neg h0]
    refine ⟨qo S, ?_⟩
    refine am_ct.of rfl (Nat.le_of_ble_eq_true rfl) ?_
    refine aw_iload_n d_Mo_form_0 rfl ?_
    refine aw_if_ge (tgt := 6) d_Mo_form_1 (by decide) (fun h1 => absurd h1 h0) (fun h1 => ?_)
    refine aw_iconst (v := -1) d_Mo_form_4 (by decide) ?_
    exact aw_iretE d_Mo_form_5 rfl rfl (by rw [qo_w]) rfl rfl
