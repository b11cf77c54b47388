/-! RateChains.slotOf and the small static ones; RateChains$Plants -/
def b01 (f : Nat → Int32) : Prop := ∀ j, f j = 0 ∨ f j = 1
theorem b01_nar {f : Nat → Int32} (h : b01 f) (j : Nat) : narrow .boolean (.int (f j)) = .int (f j) := by rcases h j with e | e <;> rw [e] <;> rfl
theorem b01_upd {f : Nat → Int32} (h : b01 f) (k : Nat) (c : Prop) [Decidable c] : b01 (upd f k (bI c)) := by
  intro j
  unfold upd bI
  split
  · split
    · exact Or.inr rfl
    · exact Or.inl rfl
  · exact h j
def ex_n (f : Nat → Bool) : Nat → Bool
  | 0 => false
  | n + 1 => ex_n f n || f n
theorem ex_n_iff (f : Nat → Bool) : ∀ n, ex_n f n = true ↔ ∃ t, t < n ∧ f t = true
  | 0 => by simp [ex_n]
  | n + 1 => by
    simp only [ex_n, Bool.or_eq_true, ex_n_iff f n]
    constructor
    · rintro (⟨t, h1, h2⟩ | h)
      · exact ⟨t, by omega, h2⟩
      · exact ⟨n, by omega, h⟩
    · rintro ⟨t, h1, h2⟩
      by_cases e : t = n
      · subst e; exact Or.inr h2
      · exact Or.inl ⟨t, by omega, h2⟩
theorem cs_II (S : cs_S) (k : Nat) (e e' : Nat → Int32) : cs_I (cs_I S k e) k e' = cs_I S k e' := by unfold cs_I; simp only [bx_uu]
theorem cs_JJ (S : cs_S) (k : Nat) (e e' : Nat → Int64) : cs_J (cs_J S k e) k e' = cs_J S k e' := by unfold cs_J; simp only [bx_uu]
theorem cs_FF (S : cs_S) (k : Nat) (e e' : Int32) : cs_F (cs_F S k e) k e' = cs_F S k e' := by unfold cs_F; simp only [bx_uu]
theorem c_Pl_shareOf (S : cs_S) (r : List am_C) (p t : Nat) (hp : p < 5) (ht : t < 5) : am_ct y_Pl_shareOf 0 [.ref 1, .int (nI p), .int (nI t)] (cs_w S ++ r) (some (.int (S.1 2 (p * 5 + t)))) (cs_w S ++ r) 0 0 := by
  refine am_ct.of rfl (Nat.le_of_ble_eq_true rfl) ?_
  refine aw_aload_n d_Pl_shareOf_0 rfl ?_
  refine aw_get d_Pl_shareOf_1 fl_Pl_9 rfl rfl ?_
  refine aw_iload_n d_Pl_shareOf_4 rfl ?_
  refine aw_iconst (v := nI 5) d_Pl_shareOf_5 rfl ?_
  refine aw_imul d_Pl_shareOf_6 ?_
  refine aw_iload_n d_Pl_shareOf_7 rfl ?_
  refine aw_iadd d_Pl_shareOf_8 ?_
  refine aw_iald d_Pl_shareOf_9 rfl (by rw [pk_mul, nI_add]; exact vp_in_nI (by omega) (by omega)) ?_
  rw [pk_mul, nI_add, nI_clamp (by omega)]
  exact aw_iret d_Pl_shareOf_10 rfl
theorem c_Pl_setLoss (S : cs_S) (r : List am_C) (p : Nat) (x : Int32) (hp : p < 5) : am_ct y_Pl_setLoss 0 [.ref 1, .int (nI p), .int x] (cs_w S ++ r) none (cs_w (cs_I (cs_I S 5 (upd (S.1 5) p 1)) 6 (upd (S.1 6) p x)) ++ r) 0 0 := by
  refine am_ct.of rfl (Nat.le_of_ble_eq_true rfl) ?_
  refine aw_aload_n d_Pl_setLoss_0 rfl ?_
  refine aw_get d_Pl_setLoss_1 fl_Pl_22 rfl rfl ?_
  refine aw_iload_n d_Pl_setLoss_4 rfl ?_
  refine aw_iconst (v := nI 1) d_Pl_setLoss_5 rfl ?_
  refine aw_zast d_Pl_setLoss_6 rfl (vp_in_nI hp (by omega)) ?_
  rw [nI_clamp (by omega)]
  refine aw_aload_n d_Pl_setLoss_7 rfl ?_
  refine aw_get d_Pl_setLoss_8 fl_Pl_25 rfl rfl ?_
  refine aw_iload_n d_Pl_setLoss_11 rfl ?_
  refine aw_iload_n d_Pl_setLoss_12 rfl ?_
  refine aw_iast d_Pl_setLoss_13 rfl (vp_in_nI hp (by omega)) ?_
  rw [nI_clamp (by omega)]
  refine aw_eqw (w' := (cs_w (cs_I (cs_I S 5 (upd (S.1 5) p 1)) 6 (upd (S.1 6) p x)) ++ r)) rfl ?_
  exact aw_vret d_Pl_setLoss_14 rfl
theorem c_RC_slotOf (w : List am_C) (p k : Nat) : am_ct y_RC_slotOf 0 [.int (nI p), .int (nI k)] (w) (some (.int (nI (p * 4 + k)))) (w) 0 0 := by
  refine am_ct.of rfl (Nat.le_of_ble_eq_true rfl) ?_
  refine aw_iload_n d_RC_slotOf_0 rfl ?_
  refine aw_iconst (v := nI 4) d_RC_slotOf_1 (by decide) ?_
  refine aw_imul d_RC_slotOf_2 ?_
  try simp only [pk_mul, nI_add]
  refine aw_iload_n d_RC_slotOf_3 rfl ?_
  refine aw_iadd d_RC_slotOf_4 ?_
  try simp only [pk_mul, nI_add]
  exact aw_iretE d_RC_slotOf_5 rfl rfl rfl rfl rfl
theorem c_RC_cell (w : List am_C) (p k : Nat) : am_ct y_RC_cell 0 [.int (nI p), .int (nI k)] (w) (some (.int (nI (p * 10 + k)))) (w) 0 0 := by
  refine am_ct.of rfl (Nat.le_of_ble_eq_true rfl) ?_
  refine aw_iload_n d_RC_cell_0 rfl ?_
  refine aw_bipush (v := nI 10) d_RC_cell_1 (by decide) ?_
  refine aw_imul d_RC_cell_3 ?_
  try simp only [pk_mul, nI_add]
  refine aw_iload_n d_RC_cell_4 rfl ?_
  refine aw_iadd d_RC_cell_5 ?_
  try simp only [pk_mul, nI_add]
  exact aw_iretE d_RC_cell_6 rfl rfl rfl rfl rfl
theorem c_Pl_isPoint (S : cs_S) (r : List am_C) (p k : Nat) (hp : p < 5) (hk : k < 4) (hb : b01 (S.1 4)) : am_ct y_Pl_isPoint 1 [.ref 1, .int (nI p), .int (nI k)] (cs_w S ++ r) (some (.int (S.1 4 (p * 4 + k)))) (cs_w S ++ r) 0 0 := by
  refine am_ct.of rfl (Nat.le_of_ble_eq_true rfl) ?_
  refine aw_aload_n d_Pl_isPoint_0 rfl ?_
  refine aw_get d_Pl_isPoint_1 fl_Pl_18 rfl rfl ?_
  refine aw_iload_n d_Pl_isPoint_4 rfl ?_
  refine aw_iload_n d_Pl_isPoint_5 rfl ?_
  refine aw_cSN1 d_Pl_isPoint_6 (c_RC_slotOf _ p k) mk_RC_slotOf is_RC_slotOf ln_Pl_43 rfl rfl (Nat.le_of_ble_eq_true rfl) (Nat.le_of_ble_eq_true rfl) (Nat.le_of_ble_eq_true rfl) (Nat.le_of_ble_eq_true rfl) ?_
  refine aw_zaldN d_Pl_isPoint_9 rfl (by omega) (Nat.le_of_ble_eq_true rfl) ?_
  exact aw_zretE d_Pl_isPoint_10 rfl (b01_nar hb _) rfl rfl rfl rfl
theorem c_Pl_add (S : cs_S) (r : List am_C) : am_ct y_Pl_add 0 [.ref 1] (cs_w S ++ r) (some (.int (if S.2.2 1 < nI 5 then S.2.2 1 + nI 1 - nI 1 else -1))) (cs_w (if S.2.2 1 < nI 5 then cs_F S 1 (S.2.2 1 + nI 1) else S) ++ r) 0 0 := by
  refine am_ct.of rfl (Nat.le_of_ble_eq_true rfl) ?_
  refine aw_aload_n d_Pl_add_0 rfl ?_
  refine aw_get d_Pl_add_1 fl_Pl_31 rfl rfl ?_
  refine aw_iconst (v := nI 5) d_Pl_add_4 (by decide) ?_
  refine aw_icmp_lt (tgt := 10) d_Pl_add_5 (by decide) (fun h5 => ?_) (fun h5 => ?_)
  · refine aw_aload_n d_Pl_add_10 rfl ?_
    refine aw_dup d_Pl_add_11 rfl ?_
    refine aw_get d_Pl_add_12 fl_Pl_31 rfl rfl ?_
    refine aw_iconst (v := nI 1) d_Pl_add_15 (by decide) ?_
    refine aw_iadd d_Pl_add_16 ?_
    refine aw_putW d_Pl_add_17 fp_Pl_31 rfl (Nat.le_of_ble_eq_true rfl) (fun _ _ => ⟨rfl, rfl⟩) (cs_f1_6 _ _ _) ?_
    refine aw_aload_n d_Pl_add_20 rfl ?_
    refine aw_get d_Pl_add_21 fl_Pl_31 rfl rfl ?_
    refine aw_iconst (v := nI 1) d_Pl_add_24 (by decide) ?_
    refine aw_isub d_Pl_add_25 ?_
    exact aw_iretE d_Pl_add_26 rfl (by rw [if_pos h5]; rfl) (by rw [if_pos h5]) rfl rfl
  · refine aw_iconst (v := -1) d_Pl_add_8 (by decide) ?_
    exact aw_iretE d_Pl_add_9 rfl (by rw [if_neg h5]) (by rw [if_neg h5]) rfl rfl
theorem c_Pl_has (S : cs_S) (r : List am_C) (x : Int32) : am_ct y_Pl_has 0 [.ref 1, .int x] (cs_w S ++ r) (some (.int (bI (0 ≤ x ∧ x < S.2.2 1)))) (cs_w S ++ r) 0 0 := by
  refine am_ct.of rfl (Nat.le_of_ble_eq_true rfl) ?_
  refine aw_iload_n d_Pl_has_0 rfl ?_
  refine aw_if_lt (tgt := 16) d_Pl_has_1 (by decide) (fun h1 => ?_) (fun h1 => ?_)
  · refine aw_iconst (v := nI 0) d_Pl_has_16 (by decide) ?_
    exact aw_zretE d_Pl_has_17 rfl rfl (by first | exact (bI_t ⟨(i32_nlt _ _).mp h1, Int32.not_le.mp h9⟩).symm | exact (bI_f (fun e => absurd e.1 (Int32.not_le.mpr h1))).symm | exact (bI_f (fun e => absurd h9 (Int32.not_le.mpr e.2))).symm) rfl rfl rfl
  · refine aw_iload_n d_Pl_has_4 rfl ?_
    refine aw_aload_n d_Pl_has_5 rfl ?_
    refine aw_get d_Pl_has_6 fl_Pl_31 rfl rfl ?_
    refine aw_icmp_ge (tgt := 16) d_Pl_has_9 (by decide) (fun h9 => ?_) (fun h9 => ?_)
    · refine aw_iconst (v := nI 0) d_Pl_has_16 (by decide) ?_
      exact aw_zretE d_Pl_has_17 rfl rfl (by first | exact (bI_t ⟨(i32_nlt _ _).mp h1, Int32.not_le.mp h9⟩).symm | exact (bI_f (fun e => absurd e.1 (Int32.not_le.mpr h1))).symm | exact (bI_f (fun e => absurd h9 (Int32.not_le.mpr e.2))).symm) rfl rfl rfl
    · refine aw_iconst (v := nI 1) d_Pl_has_12 (by decide) ?_
      refine aw_goto (tgt := 17) d_Pl_has_13 (by decide) ?_
      exact aw_zretE d_Pl_has_17 rfl rfl (by first | exact (bI_t ⟨(i32_nlt _ _).mp h1, Int32.not_le.mp h9⟩).symm | exact (bI_f (fun e => absurd e.1 (Int32.not_le.mpr h1))).symm | exact (bI_f (fun e => absurd h9 (Int32.not_le.mpr e.2))).symm) rfl rfl rfl
theorem c_Pl_setShare (S : cs_S) (r : List am_C) (p t : Nat) (x : Int32) (hp : p < 5) (ht : t < 5) : am_ct y_Pl_setShare 1 [.ref 1, .int (nI p), .int (nI t), .int x] (cs_w S ++ r) (some (.int (bI (S.1 3 p - S.1 2 (p * 5 + t) + x ≤ nI 10)))) (cs_w (if S.1 3 p - S.1 2 (p * 5 + t) + x ≤ nI 10 then cs_I (cs_I S 2 (upd (S.1 2) (p * 5 + t) x)) 3 (upd (S.1 3) p (S.1 3 p - S.1 2 (p * 5 + t) + x)) else S) ++ r) 0 0 := by
  refine am_ct.of rfl (Nat.le_of_ble_eq_true rfl) ?_
  refine aw_aload_n d_Pl_setShare_0 rfl ?_
  refine aw_get d_Pl_setShare_1 fl_Pl_15 rfl rfl ?_
  refine aw_iload_n d_Pl_setShare_4 rfl ?_
  refine aw_ialdN d_Pl_setShare_5 rfl (by omega) (Nat.le_of_ble_eq_true rfl) ?_
  refine aw_aload_n d_Pl_setShare_6 rfl ?_
  refine aw_iload_n d_Pl_setShare_7 rfl ?_
  refine aw_iload_n d_Pl_setShare_8 rfl ?_
  refine aw_cV1 d_Pl_setShare_9 (c_Pl_shareOf S r p t hp ht) mk_Pl_shareOf is_Pl_shareOf ln_Pl_35 rfl rfl rfl rfl (Nat.le_of_ble_eq_true rfl) (Nat.le_of_ble_eq_true rfl) (Nat.le_of_ble_eq_true rfl) (Nat.le_of_ble_eq_true rfl) ?_
  refine aw_isub d_Pl_setShare_12 ?_
  refine aw_iload_n d_Pl_setShare_13 rfl ?_
  refine aw_iadd d_Pl_setShare_14 ?_
  refine aw_istore d_Pl_setShare_15 (Nat.le_of_ble_eq_true rfl) ?_
  refine aw_iload d_Pl_setShare_17 rfl ?_
  refine aw_bipush (v := nI 10) d_Pl_setShare_19 (by decide) ?_
  refine aw_icmp_le (tgt := 26) d_Pl_setShare_21 (by decide) (fun h21 => ?_) (fun h21 => ?_)
  · refine aw_aload_n d_Pl_setShare_26 rfl ?_
    refine aw_get d_Pl_setShare_27 fl_Pl_9 rfl rfl ?_
    refine aw_iload_n d_Pl_setShare_30 rfl ?_
    refine aw_iconst (v := nI 5) d_Pl_setShare_31 (by decide) ?_
    refine aw_imul d_Pl_setShare_32 ?_
    try simp only [pk_mul, nI_add]
    refine aw_iload_n d_Pl_setShare_33 rfl ?_
    refine aw_iadd d_Pl_setShare_34 ?_
    try simp only [pk_mul, nI_add]
    refine aw_iload_n d_Pl_setShare_35 rfl ?_
    refine aw_iastN d_Pl_setShare_36 rfl (by omega) (Nat.le_of_ble_eq_true rfl) (cs_s2 _ _ _) ?_
    refine aw_aload_n d_Pl_setShare_37 rfl ?_
    refine aw_get d_Pl_setShare_38 fl_Pl_15 rfl rfl ?_
    refine aw_iload_n d_Pl_setShare_41 rfl ?_
    refine aw_iload d_Pl_setShare_42 rfl ?_
    refine aw_iastN d_Pl_setShare_44 rfl (by omega) (Nat.le_of_ble_eq_true rfl) (cs_s3 _ _ _) ?_
    refine aw_iconst (v := nI 1) d_Pl_setShare_45 (by decide) ?_
    exact aw_zretE d_Pl_setShare_46 rfl rfl (by rw [bI_t h21]; rfl) (by rw [if_pos h21]; rfl) rfl rfl
  · refine aw_iconst (v := nI 0) d_Pl_setShare_24 (by decide) ?_
    exact aw_zretE d_Pl_setShare_25 rfl rfl (by rw [bI_f h21]; rfl) (by rw [if_neg h21]) rfl rfl
theorem c_Pl_setPoint (S : cs_S) (r : List am_C) (p k : Nat) (hp : p < 5) (hk : k < 4) (hb : b01 (S.1 4)) : am_ct y_Pl_setPoint 2 [.ref 1, .int (nI p), .int (nI k)] (cs_w S ++ r) (some (.int (bI (S.1 4 (p * 4 + k) = 0)))) (cs_w (if S.1 4 (p * 4 + k) = 0 then cs_I S 4 (upd (S.1 4) (p * 4 + k) 1) else S) ++ r) 0 0 := by
  refine am_ct.of rfl (Nat.le_of_ble_eq_true rfl) ?_
  refine aw_aload_n d_Pl_setPoint_0 rfl ?_
  refine aw_iload_n d_Pl_setPoint_1 rfl ?_
  refine aw_iload_n d_Pl_setPoint_2 rfl ?_
  refine aw_cV1 d_Pl_setPoint_3 (c_Pl_isPoint S r p k hp hk hb) mk_Pl_isPoint is_Pl_isPoint ln_Pl_39 rfl rfl rfl rfl (Nat.le_of_ble_eq_true rfl) (Nat.le_of_ble_eq_true rfl) (Nat.le_of_ble_eq_true rfl) (Nat.le_of_ble_eq_true rfl) ?_
  refine aw_if_eq (tgt := 11) d_Pl_setPoint_6 (by decide) (fun h6 => ?_) (fun h6 => ?_)
  · refine aw_aload_n d_Pl_setPoint_11 rfl ?_
    refine aw_get d_Pl_setPoint_12 fl_Pl_18 rfl rfl ?_
    refine aw_iload_n d_Pl_setPoint_15 rfl ?_
    refine aw_iload_n d_Pl_setPoint_16 rfl ?_
    refine aw_cSN1 d_Pl_setPoint_17 (c_RC_slotOf _ p k) mk_RC_slotOf is_RC_slotOf ln_Pl_43 rfl rfl (Nat.le_of_ble_eq_true rfl) (Nat.le_of_ble_eq_true rfl) (Nat.le_of_ble_eq_true rfl) (Nat.le_of_ble_eq_true rfl) ?_
    refine aw_iconst (v := nI 1) d_Pl_setPoint_20 (by decide) ?_
    refine aw_zastN d_Pl_setPoint_21 rfl (by omega) (Nat.le_of_ble_eq_true rfl) (cs_s4 _ _ _) ?_
    refine aw_iconst (v := nI 1) d_Pl_setPoint_22 (by decide) ?_
    exact aw_zretE d_Pl_setPoint_23 rfl rfl (by rw [bI_t h6]; rfl) (by rw [if_pos h6]; rfl) rfl rfl
  · refine aw_iconst (v := nI 0) d_Pl_setPoint_9 (by decide) ?_
    exact aw_zretE d_Pl_setPoint_10 rfl rfl (by rw [bI_f h6]; rfl) (by rw [if_neg h6]) rfl rfl
theorem c_Pl_isPointWithAverage (S : cs_S) (r : List am_C) (p k : Nat) (hp : p < 5) (hk : k < 4) (hb : b01 (S.1 4)) : am_ct y_Pl_isPointWithAverage 2 [.ref 1, .int (nI p), .int (nI k)] (cs_w S ++ r) (some (.int (bI (S.1 5 p ≠ 0 ∧ S.1 4 (p * 4 + k) ≠ 0)))) (cs_w S ++ r) 0 0 := by
  refine am_ct.of rfl (Nat.le_of_ble_eq_true rfl) ?_
  refine aw_aload_n d_Pl_isPointWithAverage_0 rfl ?_
  refine aw_get d_Pl_isPointWithAverage_1 fl_Pl_22 rfl rfl ?_
  refine aw_iload_n d_Pl_isPointWithAverage_4 rfl ?_
  refine aw_zaldN d_Pl_isPointWithAverage_5 rfl (by omega) (Nat.le_of_ble_eq_true rfl) ?_
  refine aw_if_eq (tgt := 22) d_Pl_isPointWithAverage_6 (by decide) (fun h6 => ?_) (fun h6 => ?_)
  · refine aw_iconst (v := nI 0) d_Pl_isPointWithAverage_22 (by decide) ?_
    exact aw_zretE d_Pl_isPointWithAverage_23 rfl rfl (bI_f (fun e => e.1 h6)).symm rfl rfl rfl
  · refine aw_aload_n d_Pl_isPointWithAverage_9 rfl ?_
    refine aw_iload_n d_Pl_isPointWithAverage_10 rfl ?_
    refine aw_iload_n d_Pl_isPointWithAverage_11 rfl ?_
    refine aw_cV1 d_Pl_isPointWithAverage_12 (c_Pl_isPoint S r p k hp hk hb) mk_Pl_isPoint is_Pl_isPoint ln_Pl_39 rfl rfl rfl rfl (Nat.le_of_ble_eq_true rfl) (Nat.le_of_ble_eq_true rfl) (Nat.le_of_ble_eq_true rfl) (Nat.le_of_ble_eq_true rfl) ?_
    refine aw_if_eq (tgt := 22) d_Pl_isPointWithAverage_15 (by decide) (fun h15 => ?_) (fun h15 => ?_)
    · refine aw_iconst (v := nI 0) d_Pl_isPointWithAverage_22 (by decide) ?_
      exact aw_zretE d_Pl_isPointWithAverage_23 rfl rfl (bI_f (fun e => e.2 h15)).symm rfl rfl rfl
    · refine aw_iconst (v := nI 1) d_Pl_isPointWithAverage_18 (by decide) ?_
      refine aw_goto (tgt := 23) d_Pl_isPointWithAverage_19 (by decide) ?_
      exact aw_zretE d_Pl_isPointWithAverage_23 rfl rfl (bI_t ⟨h6, h15⟩).symm rfl rfl rfl
theorem c_Pl_goesOn (S : cs_S) (r : List am_C) (p k : Nat) (hp : p < 5) (hk : k < 4) (hb : b01 (S.1 4)) : am_ct y_Pl_goesOn 2 [.ref 1, .int (nI p), .int (nI k)] (cs_w S ++ r) (some (.int (bI (S.1 4 (p * 4 + k) = 0 ∧ 0 < S.1 3 p)))) (cs_w S ++ r) 0 0 := by
  refine am_ct.of rfl (Nat.le_of_ble_eq_true rfl) ?_
  refine aw_aload_n d_Pl_goesOn_0 rfl ?_
  refine aw_iload_n d_Pl_goesOn_1 rfl ?_
  refine aw_iload_n d_Pl_goesOn_2 rfl ?_
  refine aw_cV1 d_Pl_goesOn_3 (c_Pl_isPoint S r p k hp hk hb) mk_Pl_isPoint is_Pl_isPoint ln_Pl_39 rfl rfl rfl rfl (Nat.le_of_ble_eq_true rfl) (Nat.le_of_ble_eq_true rfl) (Nat.le_of_ble_eq_true rfl) (Nat.le_of_ble_eq_true rfl) ?_
  refine aw_if_ne (tgt := 22) d_Pl_goesOn_6 (by decide) (fun h6 => ?_) (fun h6 => ?_)
  · refine aw_iconst (v := nI 0) d_Pl_goesOn_22 (by decide) ?_
    exact aw_zretE d_Pl_goesOn_23 rfl rfl (by first | exact (bI_t ⟨h6, Int32.not_le.mp h15⟩).symm | exact (bI_f (fun e => h6 e.1)).symm | exact (bI_f (fun e => absurd h15 (Int32.not_le.mpr e.2))).symm) rfl rfl rfl
  · refine aw_aload_n d_Pl_goesOn_9 rfl ?_
    refine aw_get d_Pl_goesOn_10 fl_Pl_15 rfl rfl ?_
    refine aw_iload_n d_Pl_goesOn_13 rfl ?_
    refine aw_ialdN d_Pl_goesOn_14 rfl (by omega) (Nat.le_of_ble_eq_true rfl) ?_
    refine aw_if_le (tgt := 22) d_Pl_goesOn_15 (by decide) (fun h15 => ?_) (fun h15 => ?_)
    · refine aw_iconst (v := nI 0) d_Pl_goesOn_22 (by decide) ?_
      exact aw_zretE d_Pl_goesOn_23 rfl rfl (by first | exact (bI_t ⟨h6, Int32.not_le.mp h15⟩).symm | exact (bI_f (fun e => h6 e.1)).symm | exact (bI_f (fun e => absurd h15 (Int32.not_le.mpr e.2))).symm) rfl rfl rfl
    · refine aw_iconst (v := nI 1) d_Pl_goesOn_18 (by decide) ?_
      refine aw_goto (tgt := 23) d_Pl_goesOn_19 (by decide) ?_
      exact aw_zretE d_Pl_goesOn_23 rfl rfl (by first | exact (bI_t ⟨h6, Int32.not_le.mp h15⟩).symm | exact (bI_f (fun e => h6 e.1)).symm | exact (bI_f (fun e => absurd h15 (Int32.not_le.mpr e.2))).symm) rfl rfl rfl
theorem c_Pl_isBare (S : cs_S) (r : List am_C) (p k : Nat) (hp : p < 5) (hk : k < 4) (hb : b01 (S.1 4)) : am_ct y_Pl_isBare 2 [.ref 1, .int (nI p), .int (nI k)] (cs_w S ++ r) (some (.int (bI (S.1 4 (p * 4 + k) = 0 ∧ S.1 3 p = 0 ∧ S.1 5 p = 0)))) (cs_w S ++ r) 0 0 := by
  refine am_ct.of rfl (Nat.le_of_ble_eq_true rfl) ?_
  refine aw_aload_n d_Pl_isBare_0 rfl ?_
  refine aw_iload_n d_Pl_isBare_1 rfl ?_
  refine aw_iload_n d_Pl_isBare_2 rfl ?_
  refine aw_cV1 d_Pl_isBare_3 (c_Pl_isPoint S r p k hp hk hb) mk_Pl_isPoint is_Pl_isPoint ln_Pl_39 rfl rfl rfl rfl (Nat.le_of_ble_eq_true rfl) (Nat.le_of_ble_eq_true rfl) (Nat.le_of_ble_eq_true rfl) (Nat.le_of_ble_eq_true rfl) ?_
  refine aw_if_ne (tgt := 31) d_Pl_isBare_6 (by decide) (fun h6 => ?_) (fun h6 => ?_)
  · refine aw_iconst (v := nI 0) d_Pl_isBare_31 (by decide) ?_
    exact aw_zretE d_Pl_isBare_32 rfl rfl (by first | exact (bI_t ⟨h6, h15, h24⟩).symm | exact (bI_f (fun e => h6 e.1)).symm | exact (bI_f (fun e => h15 e.2.1)).symm | exact (bI_f (fun e => h24 e.2.2)).symm) rfl rfl rfl
  · refine aw_aload_n d_Pl_isBare_9 rfl ?_
    refine aw_get d_Pl_isBare_10 fl_Pl_15 rfl rfl ?_
    refine aw_iload_n d_Pl_isBare_13 rfl ?_
    refine aw_ialdN d_Pl_isBare_14 rfl (by omega) (Nat.le_of_ble_eq_true rfl) ?_
    refine aw_if_ne (tgt := 31) d_Pl_isBare_15 (by decide) (fun h15 => ?_) (fun h15 => ?_)
    · refine aw_iconst (v := nI 0) d_Pl_isBare_31 (by decide) ?_
      exact aw_zretE d_Pl_isBare_32 rfl rfl (by first | exact (bI_t ⟨h6, h15, h24⟩).symm | exact (bI_f (fun e => h6 e.1)).symm | exact (bI_f (fun e => h15 e.2.1)).symm | exact (bI_f (fun e => h24 e.2.2)).symm) rfl rfl rfl
    · refine aw_aload_n d_Pl_isBare_18 rfl ?_
      refine aw_get d_Pl_isBare_19 fl_Pl_22 rfl rfl ?_
      refine aw_iload_n d_Pl_isBare_22 rfl ?_
      refine aw_zaldN d_Pl_isBare_23 rfl (by omega) (Nat.le_of_ble_eq_true rfl) ?_
      refine aw_if_ne (tgt := 31) d_Pl_isBare_24 (by decide) (fun h24 => ?_) (fun h24 => ?_)
      · refine aw_iconst (v := nI 0) d_Pl_isBare_31 (by decide) ?_
        exact aw_zretE d_Pl_isBare_32 rfl rfl (by first | exact (bI_t ⟨h6, h15, h24⟩).symm | exact (bI_f (fun e => h6 e.1)).symm | exact (bI_f (fun e => h15 e.2.1)).symm | exact (bI_f (fun e => h24 e.2.2)).symm) rfl rfl rfl
      · refine aw_iconst (v := nI 1) d_Pl_isBare_27 (by decide) ?_
        refine aw_goto (tgt := 32) d_Pl_isBare_28 (by decide) ?_
        exact aw_zretE d_Pl_isBare_32 rfl rfl (by first | exact (bI_t ⟨h6, h15, h24⟩).symm | exact (bI_f (fun e => h6 e.1)).symm | exact (bI_f (fun e => h15 e.2.1)).symm | exact (bI_f (fun e => h24 e.2.2)).symm) rfl rfl rfl
theorem c_Pl_tenthsCounted (S : cs_S) (r : List am_C) (p k : Nat) (hp : p < 5) (hk : k < 4) (hb : b01 (S.1 4)) : am_ct y_Pl_tenthsCounted 2 [.ref 1, .int (nI p), .int (nI k)] (cs_w S ++ r) (some (.int (if S.1 4 (p * 4 + k) = 0 then (if S.1 5 p = 0 then nI 0 else nI 10 - S.1 6 p) else nI 10))) (cs_w S ++ r) 0 0 := by
  refine am_ct.of rfl (Nat.le_of_ble_eq_true rfl) ?_
  refine aw_aload_n d_Pl_tenthsCounted_0 rfl ?_
  refine aw_iload_n d_Pl_tenthsCounted_1 rfl ?_
  refine aw_iload_n d_Pl_tenthsCounted_2 rfl ?_
  refine aw_cV1 d_Pl_tenthsCounted_3 (c_Pl_isPoint S r p k hp hk hb) mk_Pl_isPoint is_Pl_isPoint ln_Pl_39 rfl rfl rfl rfl (Nat.le_of_ble_eq_true rfl) (Nat.le_of_ble_eq_true rfl) (Nat.le_of_ble_eq_true rfl) (Nat.le_of_ble_eq_true rfl) ?_
  refine aw_if_eq (tgt := 12) d_Pl_tenthsCounted_6 (by decide) (fun h6 => ?_) (fun h6 => ?_)
  · refine aw_aload_n d_Pl_tenthsCounted_12 rfl ?_
    refine aw_get d_Pl_tenthsCounted_13 fl_Pl_22 rfl rfl ?_
    refine aw_iload_n d_Pl_tenthsCounted_16 rfl ?_
    refine aw_zaldN d_Pl_tenthsCounted_17 rfl (by omega) (Nat.le_of_ble_eq_true rfl) ?_
    refine aw_if_eq (tgt := 33) d_Pl_tenthsCounted_18 (by decide) (fun h18 => ?_) (fun h18 => ?_)
    · refine aw_iconst (v := nI 0) d_Pl_tenthsCounted_33 (by decide) ?_
      exact aw_iretE d_Pl_tenthsCounted_34 rfl (by first | rw [if_pos h6, if_pos h18] | rw [if_pos h6, if_neg h18]) rfl rfl rfl
    · refine aw_bipush (v := nI 10) d_Pl_tenthsCounted_21 (by decide) ?_
      refine aw_aload_n d_Pl_tenthsCounted_23 rfl ?_
      refine aw_get d_Pl_tenthsCounted_24 fl_Pl_25 rfl rfl ?_
      refine aw_iload_n d_Pl_tenthsCounted_27 rfl ?_
      refine aw_ialdN d_Pl_tenthsCounted_28 rfl (by omega) (Nat.le_of_ble_eq_true rfl) ?_
      refine aw_isub d_Pl_tenthsCounted_29 ?_
      refine aw_goto (tgt := 34) d_Pl_tenthsCounted_30 (by decide) ?_
      exact aw_iretE d_Pl_tenthsCounted_34 rfl (by first | rw [if_pos h6, if_pos h18] | rw [if_pos h6, if_neg h18]) rfl rfl rfl
  · refine aw_bipush (v := nI 10) d_Pl_tenthsCounted_9 (by decide) ?_
    exact aw_iretE d_Pl_tenthsCounted_11 rfl (by rw [if_neg h6]) rfl rfl rfl
theorem lp_Pl_gte (S : cs_S) (r : List am_C) (p : Nat) (hp : p < 5) : ∀ (n i : Nat), i + n = 5 → (∀ t, t < i → ¬ (S.1 7 t ≠ 0 ∧ 0 < S.1 2 (p * 5 + t))) → AW (am_Mof y_Pl_goesToAnEnd) 1 0 0 2 [(2, .int (nI i)), (0, .ref 1), (1, .int (nI p))] [] (cs_w S ++ r) 0 0 (am_Z (some (.int (bI (ex_n (fun t => decide (S.1 7 t ≠ 0 ∧ 0 < S.1 2 (p * 5 + t))) 5 = true)))) (cs_w S ++ r) 0 0) := by
  intro n
  induction n with
  | zero =>
    intro i hi hno
    have hi5 : i = 5 := by omega
    subst hi5
    have hx : ¬ (ex_n (fun t => decide (S.1 7 t ≠ 0 ∧ 0 < S.1 2 (p * 5 + t))) 5 = true) := fun h => by
      obtain ⟨t, h1, h2⟩ := (ex_n_iff _ _).mp h
      exact hno t h1 (of_decide_eq_true h2)
    refine aw_iload_n d_Pl_goesToAnEnd_2 rfl ?_
    refine aw_iconst (v := nI 5) d_Pl_goesToAnEnd_3 (by decide) ?_
    refine aw_icmp_ge (tgt := 33) d_Pl_goesToAnEnd_4 (by decide) (fun h4 => ?_) (fun h4 => absurd (nI_le (Nat.le_refl 5) (by omega)) h4)
    refine aw_iconst (v := nI 0) d_Pl_goesToAnEnd_33 (by decide) ?_
    exact aw_zretE d_Pl_goesToAnEnd_34 rfl rfl (bI_f hx).symm rfl rfl rfl
  | succ n ih =>
    intro i hi hno
    refine aw_iload_n d_Pl_goesToAnEnd_2 rfl ?_
    refine aw_iconst (v := nI 5) d_Pl_goesToAnEnd_3 (by decide) ?_
    refine aw_icmp_ge (tgt := 33) d_Pl_goesToAnEnd_4 (by decide) (fun h4 => absurd h4 (nI_ge (by omega) (by omega))) (fun h4 => ?_)
    refine aw_aload_n d_Pl_goesToAnEnd_7 rfl ?_
    refine aw_get d_Pl_goesToAnEnd_8 fl_Pl_28 rfl rfl ?_
    refine aw_iload_n d_Pl_goesToAnEnd_11 rfl ?_
    refine aw_zaldN d_Pl_goesToAnEnd_12 rfl (by omega) (Nat.le_of_ble_eq_true rfl) ?_
    refine aw_if_eq (tgt := 27) d_Pl_goesToAnEnd_13 (by decide) (fun h13 => ?_) (fun h13 => ?_)
    · refine aw_iinc d_Pl_goesToAnEnd_27 rfl (nI_1 _) (Nat.le_of_ble_eq_true rfl) ?_
      refine aw_goto (tgt := 2) d_Pl_goesToAnEnd_30 (by decide) ?_
      exact aw_eql rfl (ih (i + 1) (by omega) (fun t ht hc => by
        rcases (show t < i ∨ t = i by omega) with h | h
        · exact hno t h hc
        · subst h; exact hc.1 h13))
    · refine aw_aload_n d_Pl_goesToAnEnd_16 rfl ?_
      refine aw_iload_n d_Pl_goesToAnEnd_17 rfl ?_
      refine aw_iload_n d_Pl_goesToAnEnd_18 rfl ?_
      refine aw_cV1 d_Pl_goesToAnEnd_19 (c_Pl_shareOf S r p i hp (by omega)) mk_Pl_shareOf is_Pl_shareOf ln_Pl_35 rfl rfl rfl rfl (Nat.le_of_ble_eq_true rfl) (Nat.le_of_ble_eq_true rfl) (Nat.le_of_ble_eq_true rfl) (Nat.le_of_ble_eq_true rfl) ?_
      refine aw_if_le (tgt := 27) d_Pl_goesToAnEnd_22 (by decide) (fun h22 => ?_) (fun h22 => ?_)
      · refine aw_iinc d_Pl_goesToAnEnd_27 rfl (nI_1 _) (Nat.le_of_ble_eq_true rfl) ?_
        refine aw_goto (tgt := 2) d_Pl_goesToAnEnd_30 (by decide) ?_
        exact aw_eql rfl (ih (i + 1) (by omega) (fun t ht hc => by
          rcases (show t < i ∨ t = i by omega) with h | h
          · exact hno t h hc
          · subst h; exact absurd h22 (Int32.not_le.mpr hc.2)))
      · refine aw_iconst (v := nI 1) d_Pl_goesToAnEnd_25 (by decide) ?_
        exact aw_zretE d_Pl_goesToAnEnd_26 rfl rfl (bI_t ((ex_n_iff _ _).mpr ⟨i, by omega, decide_eq_true ⟨h13, Int32.not_le.mp h22⟩⟩)).symm rfl rfl rfl
theorem c_Pl_goesToAnEnd (S : cs_S) (r : List am_C) (p : Nat) (hp : p < 5) : am_ct y_Pl_goesToAnEnd 1 [.ref 1, .int (nI p)] (cs_w S ++ r) (some (.int (bI (ex_n (fun t => decide (S.1 7 t ≠ 0 ∧ 0 < S.1 2 (p * 5 + t))) 5 = true)))) (cs_w S ++ r) 0 0 := by
  refine am_ct.of rfl (Nat.le_of_ble_eq_true rfl) ?_
  refine aw_iconst (v := nI 0) d_Pl_goesToAnEnd_0 (by decide) ?_
  refine aw_istore_n d_Pl_goesToAnEnd_1 (Nat.le_of_ble_eq_true rfl) ?_
  exact aw_eql rfl (lp_Pl_gte S r p hp 5 0 rfl (fun t h => absurd h (Nat.not_lt_zero t)))
