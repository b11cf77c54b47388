/-! RateChains$Plants: rings -/
def fe_a (e : Nat → Int32) (S : cs_S) (k : Nat) : Nat → (Nat → Int32)
  | 0 => e
  | i + 1 => upd (fe_a e S k i) i (bI (¬ (S.1 4 (i * 4 + k) = 0 ∧ 0 < S.1 3 i) ∨ S.1 3 i < nI 10))
def fe_b (sh e : Nat → Int32) : Nat → (Nat → Int32)
  | 0 => e
  | i + 1 => upd (fe_b sh e i) i (bI (fe_b sh e i i ≠ 0 ∨ ex_n (fun t => decide (fe_b sh e i t ≠ 0 ∧ 0 < sh (i * 5 + t))) 5 = true))
def fe_c (sh e : Nat → Int32) : Nat → (Nat → Int32)
  | 0 => e
  | s + 1 => fe_b sh (fe_c sh e s) 5
def fe_R (e : Nat → Int32) (S : cs_S) (k : Nat) : Nat → Int32 := fe_c (S.1 2) (fe_a e S k 5) 4
def lr_f (e : Nat → Int32) : Nat → Nat → Int32
  | 0, _ => -1
  | n + 1, i => if e i = 0 then nI i else lr_f e n (i + 1)
def lr_st (S : cs_S) : Nat → (Nat → Int32)
  | 0 => S.1 7
  | k + 1 => fe_R (lr_st S k) S k
def lr_v (S : cs_S) : Nat → Int32
  | 0 => -1
  | k + 1 => if lr_f (lr_st S (k + 1)) 5 0 ≠ -1 ∧ (lr_v S k = -1 ∨ lr_f (lr_st S (k + 1)) 5 0 < lr_v S k) then lr_f (lr_st S (k + 1)) 5 0 else lr_v S k
theorem lp_Pl_fe1 (S : cs_S) (r : List am_C) (e : Nat → Int32) (k : Nat) (hk : k < 4) (hb : b01 (S.1 4)) (Z : am_E) (K : AW (am_Mof y_Pl_findEnds) 3 0 0 44 [(2, .int (nI 5)), (0, .ref 1), (1, .int (nI k))] [] (cs_w (cs_I S 7 (fe_a e S k 5)) ++ r) 0 0 Z) : ∀ (n i : Nat), i + n = 5 → AW (am_Mof y_Pl_findEnds) 3 0 0 2 [(2, .int (nI i)), (0, .ref 1), (1, .int (nI k))] [] (cs_w (cs_I S 7 (fe_a e S k i)) ++ r) 0 0 Z := by
  intro n
  induction n with
  | zero =>
    intro i hi
    obtain rfl : i = 5 := by omega
    refine aw_iload_n d_Pl_findEnds_2 rfl ?_
    refine aw_iconst (v := nI 5) d_Pl_findEnds_3 (by decide) ?_
    refine aw_icmp_ge (tgt := 44) d_Pl_findEnds_4 (by decide) (fun h4 => ?_) (fun h4 => absurd (nI_le (Nat.le_refl 5) (by omega)) h4)
    exact K
  | succ n ih =>
    intro i hi
    refine aw_iload_n d_Pl_findEnds_2 rfl ?_
    refine aw_iconst (v := nI 5) d_Pl_findEnds_3 (by decide) ?_
    refine aw_icmp_ge (tgt := 44) d_Pl_findEnds_4 (by decide) (fun h4 => absurd h4 (nI_ge (by omega) (by omega))) (fun h4 => ?_)
    refine aw_aload_n d_Pl_findEnds_7 rfl ?_
    refine aw_get d_Pl_findEnds_8 fl_Pl_28 rfl rfl ?_
    refine aw_iload_n d_Pl_findEnds_11 rfl ?_
    refine aw_aload_n d_Pl_findEnds_12 rfl ?_
    refine aw_iload_n d_Pl_findEnds_13 rfl ?_
    refine aw_iload_n d_Pl_findEnds_14 rfl ?_
    refine aw_cV1 d_Pl_findEnds_15 (c_Pl_goesOn (cs_I S 7 (fe_a e S k i)) r i k (by omega) hk hb) mk_Pl_goesOn is_Pl_goesOn ln_Pl_54 rfl rfl rfl rfl (Nat.le_of_ble_eq_true rfl) (Nat.le_of_ble_eq_true rfl) (Nat.le_of_ble_eq_true rfl) (Nat.le_of_ble_eq_true rfl) ?_
    refine aw_if_eq (tgt := 32) d_Pl_findEnds_18 (by decide) (fun h18 => ?_) (fun h18 => ?_)
    · refine aw_iconst (v := nI 1) d_Pl_findEnds_32 (by decide) ?_
      refine aw_goto (tgt := 37) d_Pl_findEnds_33 (by decide) ?_
      have hv : bI (¬ (S.1 4 (i * 4 + k) = 0 ∧ 0 < S.1 3 i) ∨ S.1 3 i < nI 10) = 1 := bI_t (Or.inl (fun c => (bI_0 _).mp h18 c))
      refine aw_eqs (st' := [.int (bI (¬ (S.1 4 (i * 4 + k) = 0 ∧ 0 < S.1 3 i) ∨ S.1 3 i < nI 10)), .int (nI i), .ref 7]) (by rw [hv]; rfl) ?_
      refine aw_zastN d_Pl_findEnds_37 rfl (by omega) (Nat.le_of_ble_eq_true rfl) (show _ = cs_w (cs_I S 7 (fe_a e S k (i + 1))) ++ r from by rw [bI_vp]; exact (cs_s7 _ _ _).trans (by rw [cs_II]; rfl)) ?_
      refine aw_iinc d_Pl_findEnds_38 rfl (nI_1 _) (Nat.le_of_ble_eq_true rfl) ?_
      refine aw_goto (tgt := 2) d_Pl_findEnds_41 (by decide) ?_
      exact aw_eql rfl (ih (i + 1) (by omega))
    · refine aw_aload_n d_Pl_findEnds_21 rfl ?_
      refine aw_get d_Pl_findEnds_22 fl_Pl_15 rfl rfl ?_
      refine aw_iload_n d_Pl_findEnds_25 rfl ?_
      refine aw_ialdN d_Pl_findEnds_26 rfl (by omega) (Nat.le_of_ble_eq_true rfl) ?_
      refine aw_bipush (v := nI 10) d_Pl_findEnds_27 (by decide) ?_
      refine aw_icmp_ge (tgt := 36) d_Pl_findEnds_29 (by decide) (fun h29 => ?_) (fun h29 => ?_)
      · refine aw_iconst (v := nI 0) d_Pl_findEnds_36 (by decide) ?_
        have hv : bI (¬ (S.1 4 (i * 4 + k) = 0 ∧ 0 < S.1 3 i) ∨ S.1 3 i < nI 10) = 0 := bI_f (fun c => c.elim (fun c => c (Decidable.not_not.mp (fun c2 => h18 ((bI_0 _).mpr c2)))) (fun c => absurd h29 (Int32.not_le.mpr c)))
        refine aw_eqs (st' := [.int (bI (¬ (S.1 4 (i * 4 + k) = 0 ∧ 0 < S.1 3 i) ∨ S.1 3 i < nI 10)), .int (nI i), .ref 7]) (by rw [hv]; rfl) ?_
        refine aw_zastN d_Pl_findEnds_37 rfl (by omega) (Nat.le_of_ble_eq_true rfl) (show _ = cs_w (cs_I S 7 (fe_a e S k (i + 1))) ++ r from by rw [bI_vp]; exact (cs_s7 _ _ _).trans (by rw [cs_II]; rfl)) ?_
        refine aw_iinc d_Pl_findEnds_38 rfl (nI_1 _) (Nat.le_of_ble_eq_true rfl) ?_
        refine aw_goto (tgt := 2) d_Pl_findEnds_41 (by decide) ?_
        exact aw_eql rfl (ih (i + 1) (by omega))
      · refine aw_iconst (v := nI 1) d_Pl_findEnds_32 (by decide) ?_
        refine aw_goto (tgt := 37) d_Pl_findEnds_33 (by decide) ?_
        have hv : bI (¬ (S.1 4 (i * 4 + k) = 0 ∧ 0 < S.1 3 i) ∨ S.1 3 i < nI 10) = 1 := bI_t (Or.inr (Int32.not_le.mp h29))
        refine aw_eqs (st' := [.int (bI (¬ (S.1 4 (i * 4 + k) = 0 ∧ 0 < S.1 3 i) ∨ S.1 3 i < nI 10)), .int (nI i), .ref 7]) (by rw [hv]; rfl) ?_
        refine aw_zastN d_Pl_findEnds_37 rfl (by omega) (Nat.le_of_ble_eq_true rfl) (show _ = cs_w (cs_I S 7 (fe_a e S k (i + 1))) ++ r from by rw [bI_vp]; exact (cs_s7 _ _ _).trans (by rw [cs_II]; rfl)) ?_
        refine aw_iinc d_Pl_findEnds_38 rfl (nI_1 _) (Nat.le_of_ble_eq_true rfl) ?_
        refine aw_goto (tgt := 2) d_Pl_findEnds_41 (by decide) ?_
        exact aw_eql rfl (ih (i + 1) (by omega))
theorem lp_Pl_fe2 (S : cs_S) (r : List am_C) (e : Nat → Int32) (k s : Nat) (Z : am_E) (K : AW (am_Mof y_Pl_findEnds) 3 0 0 92 [(3, .int (nI 5)), (2, .int (nI s)), (0, .ref 1), (1, .int (nI k))] [] (cs_w (cs_I S 7 (fe_b (S.1 2) e 5)) ++ r) 0 0 Z) : ∀ (n i : Nat), i + n = 5 → AW (am_Mof y_Pl_findEnds) 3 0 0 53 [(3, .int (nI i)), (2, .int (nI s)), (0, .ref 1), (1, .int (nI k))] [] (cs_w (cs_I S 7 (fe_b (S.1 2) e i)) ++ r) 0 0 Z := by
  intro n
  induction n with
  | zero =>
    intro i hi
    obtain rfl : i = 5 := by omega
    refine aw_iload_n d_Pl_findEnds_53 rfl ?_
    refine aw_iconst (v := nI 5) d_Pl_findEnds_54 (by decide) ?_
    refine aw_icmp_ge (tgt := 92) d_Pl_findEnds_55 (by decide) (fun h55 => ?_) (fun h55 => absurd (nI_le (Nat.le_refl 5) (by omega)) h55)
    exact K
  | succ n ih =>
    intro i hi
    refine aw_iload_n d_Pl_findEnds_53 rfl ?_
    refine aw_iconst (v := nI 5) d_Pl_findEnds_54 (by decide) ?_
    refine aw_icmp_ge (tgt := 92) d_Pl_findEnds_55 (by decide) (fun h55 => absurd h55 (nI_ge (by omega) (by omega))) (fun h55 => ?_)
    refine aw_aload_n d_Pl_findEnds_58 rfl ?_
    refine aw_get d_Pl_findEnds_59 fl_Pl_28 rfl rfl ?_
    refine aw_iload_n d_Pl_findEnds_62 rfl ?_
    refine aw_aload_n d_Pl_findEnds_63 rfl ?_
    refine aw_get d_Pl_findEnds_64 fl_Pl_28 rfl rfl ?_
    refine aw_iload_n d_Pl_findEnds_67 rfl ?_
    refine aw_zaldN d_Pl_findEnds_68 rfl (by omega) (Nat.le_of_ble_eq_true rfl) ?_
    refine aw_if_ne (tgt := 80) d_Pl_findEnds_69 (by decide) (fun h69 => ?_) (fun h69 => ?_)
    · have h69 : ¬ fe_b (S.1 2) e i i = 0 := h69
      refine aw_iconst (v := nI 1) d_Pl_findEnds_80 (by decide) ?_
      refine aw_goto (tgt := 85) d_Pl_findEnds_81 (by decide) ?_
      have hv : bI (fe_b (S.1 2) e i i ≠ 0 ∨ ex_n (fun t => decide (fe_b (S.1 2) e i t ≠ 0 ∧ 0 < S.1 2 (i * 5 + t))) 5 = true) = 1 := bI_t (Or.inl h69)
      refine aw_eqs (st' := [.int (bI (fe_b (S.1 2) e i i ≠ 0 ∨ ex_n (fun t => decide (fe_b (S.1 2) e i t ≠ 0 ∧ 0 < S.1 2 (i * 5 + t))) 5 = true)), .int (nI i), .ref 7]) (by rw [hv]; rfl) ?_
      refine aw_zastN d_Pl_findEnds_85 rfl (by omega) (Nat.le_of_ble_eq_true rfl) (show _ = cs_w (cs_I S 7 (fe_b (S.1 2) e (i + 1))) ++ r from by rw [bI_vp]; exact (cs_s7 _ _ _).trans (by rw [cs_II]; rfl)) ?_
      refine aw_iinc d_Pl_findEnds_86 rfl (nI_1 _) (Nat.le_of_ble_eq_true rfl) ?_
      refine aw_goto (tgt := 53) d_Pl_findEnds_89 (by decide) ?_
      exact aw_eql rfl (ih (i + 1) (by omega))
    · have h69 : fe_b (S.1 2) e i i = 0 := h69
      refine aw_aload_n d_Pl_findEnds_72 rfl ?_
      refine aw_iload_n d_Pl_findEnds_73 rfl ?_
      refine aw_cV1 d_Pl_findEnds_74 (c_Pl_goesToAnEnd (cs_I S 7 (fe_b (S.1 2) e i)) r i (by omega)) mk_Pl_goesToAnEnd is_Pl_goesToAnEnd ln_Pl_57 rfl rfl rfl rfl (Nat.le_of_ble_eq_true rfl) (Nat.le_of_ble_eq_true rfl) (Nat.le_of_ble_eq_true rfl) (Nat.le_of_ble_eq_true rfl) ?_
      refine aw_if_eq (tgt := 84) d_Pl_findEnds_77 (by decide) (fun h77 => ?_) (fun h77 => ?_)
      · refine aw_iconst (v := nI 0) d_Pl_findEnds_84 (by decide) ?_
        have hv : bI (fe_b (S.1 2) e i i ≠ 0 ∨ ex_n (fun t => decide (fe_b (S.1 2) e i t ≠ 0 ∧ 0 < S.1 2 (i * 5 + t))) 5 = true) = 0 := bI_f (fun c => c.elim (fun c => c h69) (fun c => (bI_0 _).mp h77 c))
        refine aw_eqs (st' := [.int (bI (fe_b (S.1 2) e i i ≠ 0 ∨ ex_n (fun t => decide (fe_b (S.1 2) e i t ≠ 0 ∧ 0 < S.1 2 (i * 5 + t))) 5 = true)), .int (nI i), .ref 7]) (by rw [hv]; rfl) ?_
        refine aw_zastN d_Pl_findEnds_85 rfl (by omega) (Nat.le_of_ble_eq_true rfl) (show _ = cs_w (cs_I S 7 (fe_b (S.1 2) e (i + 1))) ++ r from by rw [bI_vp]; exact (cs_s7 _ _ _).trans (by rw [cs_II]; rfl)) ?_
        refine aw_iinc d_Pl_findEnds_86 rfl (nI_1 _) (Nat.le_of_ble_eq_true rfl) ?_
        refine aw_goto (tgt := 53) d_Pl_findEnds_89 (by decide) ?_
        exact aw_eql rfl (ih (i + 1) (by omega))
      · refine aw_iconst (v := nI 1) d_Pl_findEnds_80 (by decide) ?_
        refine aw_goto (tgt := 85) d_Pl_findEnds_81 (by decide) ?_
        have hv : bI (fe_b (S.1 2) e i i ≠ 0 ∨ ex_n (fun t => decide (fe_b (S.1 2) e i t ≠ 0 ∧ 0 < S.1 2 (i * 5 + t))) 5 = true) = 1 := bI_t (Or.inr (Decidable.not_not.mp (fun c2 => h77 ((bI_0 _).mpr c2))))
        refine aw_eqs (st' := [.int (bI (fe_b (S.1 2) e i i ≠ 0 ∨ ex_n (fun t => decide (fe_b (S.1 2) e i t ≠ 0 ∧ 0 < S.1 2 (i * 5 + t))) 5 = true)), .int (nI i), .ref 7]) (by rw [hv]; rfl) ?_
        refine aw_zastN d_Pl_findEnds_85 rfl (by omega) (Nat.le_of_ble_eq_true rfl) (show _ = cs_w (cs_I S 7 (fe_b (S.1 2) e (i + 1))) ++ r from by rw [bI_vp]; exact (cs_s7 _ _ _).trans (by rw [cs_II]; rfl)) ?_
        refine aw_iinc d_Pl_findEnds_86 rfl (nI_1 _) (Nat.le_of_ble_eq_true rfl) ?_
        refine aw_goto (tgt := 53) d_Pl_findEnds_89 (by decide) ?_
        exact aw_eql rfl (ih (i + 1) (by omega))
theorem lp_Pl_fe3 (S : cs_S) (r : List am_C) (e : Nat → Int32) (k : Nat) (w' : List am_C) (hw : cs_w (cs_I S 7 (fe_c (S.1 2) e 4)) ++ r = w') : ∀ (n s : Nat) (x3 : List (Nat × Value)), s + n = 4 → (x3 = [] ∨ ∃ v : Int32, x3 = [(3, .int v)]) → AW (am_Mof y_Pl_findEnds) 3 0 0 46 ([(2, .int (nI (s + 1)))] ++ x3 ++ [(0, .ref 1), (1, .int (nI k))]) [] (cs_w (cs_I S 7 (fe_c (S.1 2) e s)) ++ r) 0 0 (am_Z none w' 0 0) := by
  intro n
  induction n with
  | zero =>
    intro s x3 hs hx
    obtain rfl : s = 4 := by omega
    refine aw_sub (lv' := [(2, .int (nI 5)), (0, .ref 1), (1, .int (nI k))]) (by intro q hq; simp at hq ⊢; rcases hq with h | h | h <;> simp [h]) ?_
    refine aw_iload_n d_Pl_findEnds_46 rfl ?_
    refine aw_iconst (v := nI 5) d_Pl_findEnds_47 (by decide) ?_
    refine aw_icmp_ge (tgt := 98) d_Pl_findEnds_48 (by decide) (fun h48 => ?_) (fun h48 => absurd (nI_le (Nat.le_refl 5) (by omega)) h48)
    exact aw_vretE d_Pl_findEnds_98 rfl hw rfl rfl
  | succ n ih =>
    intro s x3 hs hx
    refine aw_sub (lv' := [(2, .int (nI (s + 1))), (0, .ref 1), (1, .int (nI k))]) (by intro q hq; simp at hq ⊢; rcases hq with h | h | h <;> simp [h]) ?_
    refine aw_iload_n d_Pl_findEnds_46 rfl ?_
    refine aw_iconst (v := nI 5) d_Pl_findEnds_47 (by decide) ?_
    refine aw_icmp_ge (tgt := 98) d_Pl_findEnds_48 (by decide) (fun h48 => absurd h48 (nI_ge (by omega) (by omega))) (fun h48 => ?_)
    refine aw_iconst (v := nI 0) d_Pl_findEnds_51 (by decide) ?_
    refine aw_istore_n d_Pl_findEnds_52 (Nat.le_of_ble_eq_true rfl) ?_
    refine aw_eql rfl (lp_Pl_fe2 S r (fe_c (S.1 2) e s) k (s + 1) _ ?_ 5 0 rfl)
    refine aw_iinc d_Pl_findEnds_92 rfl (nI_1 _) (Nat.le_of_ble_eq_true rfl) ?_
    refine aw_goto (tgt := 46) d_Pl_findEnds_95 (by decide) ?_
    exact aw_eql rfl (ih (s + 1) [(3, .int (nI 5))] (by omega) (Or.inr ⟨_, rfl⟩))
theorem c_Pl_findEnds (S : cs_S) (r : List am_C) (k : Nat) (hk : k < 4) (hb : b01 (S.1 4)) : am_ct y_Pl_findEnds 3 [.ref 1, .int (nI k)] (cs_w S ++ r) none (cs_w (cs_I S 7 (fe_R (S.1 7) S k)) ++ r) 0 0 := by
  refine am_ct.of rfl (Nat.le_of_ble_eq_true rfl) ?_
  refine aw_iconst (v := nI 0) d_Pl_findEnds_0 (by decide) ?_
  refine aw_istore_n d_Pl_findEnds_1 (Nat.le_of_ble_eq_true rfl) ?_
  refine aw_eql (lv' := [(2, .int (nI 0)), (0, .ref 1), (1, .int (nI k))]) rfl (aw_eqw (w' := cs_w (cs_I S 7 (fe_a (S.1 7) S k 0)) ++ r) (by show cs_w S ++ r = cs_w (va_up S.1 7 (S.1 7), S.2) ++ r; rw [show va_up S.1 7 (S.1 7) = S.1 from by funext j; unfold va_up; split; (rename_i h; rw [h]); rfl]) ?_)
  refine lp_Pl_fe1 S r (S.1 7) k hk hb _ ?_ 5 0 rfl
  refine aw_iconst (v := nI 1) d_Pl_findEnds_44 (by decide) ?_
  refine aw_istore_n d_Pl_findEnds_45 (Nat.le_of_ble_eq_true rfl) ?_
  exact aw_eql rfl (lp_Pl_fe3 S r (fe_a (S.1 7) S k 5) k _ rfl 4 0 [] rfl (Or.inl rfl))
theorem lp_Pl_lro (S : cs_S) (r : List am_C) (e : Nat → Int32) (k : Nat) : ∀ (n i : Nat), i + n = 5 → AW (am_Mof y_Pl_leastInRingOf) 4 0 0 7 [(2, .int (nI i)), (0, .ref 1), (1, .int (nI k))] [] (cs_w (cs_I S 7 e) ++ r) 0 0 (am_Z (some (.int (lr_f e n i))) (cs_w (cs_I S 7 e) ++ r) 0 0) := by
  intro n
  induction n with
  | zero =>
    intro i hi
    obtain rfl : i = 5 := by omega
    refine aw_iload_n d_Pl_leastInRingOf_7 rfl ?_
    refine aw_iconst (v := nI 5) d_Pl_leastInRingOf_8 (by decide) ?_
    refine aw_icmp_ge (tgt := 29) d_Pl_leastInRingOf_9 (by decide) (fun h9 => ?_) (fun h9 => absurd (nI_le (Nat.le_refl 5) (by omega)) h9)
    refine aw_iconst (v := -1) d_Pl_leastInRingOf_29 (by decide) ?_
    exact aw_iretE d_Pl_leastInRingOf_30 rfl rfl rfl rfl rfl
  | succ n ih =>
    intro i hi
    refine aw_iload_n d_Pl_leastInRingOf_7 rfl ?_
    refine aw_iconst (v := nI 5) d_Pl_leastInRingOf_8 (by decide) ?_
    refine aw_icmp_ge (tgt := 29) d_Pl_leastInRingOf_9 (by decide) (fun h9 => absurd h9 (nI_ge (by omega) (by omega))) (fun h9 => ?_)
    refine aw_aload_n d_Pl_leastInRingOf_12 rfl ?_
    refine aw_get d_Pl_leastInRingOf_13 fl_Pl_28 rfl rfl ?_
    refine aw_iload_n d_Pl_leastInRingOf_16 rfl ?_
    refine aw_zaldN d_Pl_leastInRingOf_17 rfl (by omega) (Nat.le_of_ble_eq_true rfl) ?_
    refine aw_if_ne (tgt := 23) d_Pl_leastInRingOf_18 (by decide) (fun h18 => ?_) (fun h18 => ?_)
    · refine aw_iinc d_Pl_leastInRingOf_23 rfl (nI_1 _) (Nat.le_of_ble_eq_true rfl) ?_
      refine aw_goto (tgt := 7) d_Pl_leastInRingOf_26 (by decide) ?_
      refine aw_eql (lv' := [(2, .int (nI (i + 1))), (0, .ref 1), (1, .int (nI k))]) rfl ?_
      have hq : lr_f e (n + 1) i = lr_f e n (i + 1) := if_neg h18
      rw [hq]
      exact ih (i + 1) (by omega)
    · refine aw_iload_n d_Pl_leastInRingOf_21 rfl ?_
      exact aw_iretE d_Pl_leastInRingOf_22 rfl (by exact (if_pos h18).symm) rfl rfl rfl
theorem c_Pl_leastInRingOf (S : cs_S) (r : List am_C) (k : Nat) (hk : k < 4) (hb : b01 (S.1 4)) : am_ct y_Pl_leastInRingOf 4 [.ref 1, .int (nI k)] (cs_w S ++ r) (some (.int (lr_f (fe_R (S.1 7) S k) 5 0))) (cs_w (cs_I S 7 (fe_R (S.1 7) S k)) ++ r) 0 0 := by
  refine am_ct.of rfl (Nat.le_of_ble_eq_true rfl) ?_
  refine aw_aload_n d_Pl_leastInRingOf_0 rfl ?_
  refine aw_iload_n d_Pl_leastInRingOf_1 rfl ?_
  refine aw_cV0 d_Pl_leastInRingOf_2 (c_Pl_findEnds S r k hk hb) mk_Pl_findEnds is_Pl_findEnds ln_Pl_50 rfl rfl rfl rfl (Nat.le_of_ble_eq_true rfl) (Nat.le_of_ble_eq_true rfl) (Nat.le_of_ble_eq_true rfl) (Nat.le_of_ble_eq_true rfl) ?_
  refine aw_iconst (v := nI 0) d_Pl_leastInRingOf_5 (by decide) ?_
  refine aw_istore_n d_Pl_leastInRingOf_6 (Nat.le_of_ble_eq_true rfl) ?_
  exact aw_eql rfl (lp_Pl_lro S r (fe_R (S.1 7) S k) k 5 0 rfl)
theorem lp_Pl_lr (S : cs_S) (r : List am_C) (hb : b01 (S.1 4)) : ∀ (n k : Nat) (x3 : List (Nat × Value)), k + n = 4 → (x3 = [] ∨ ∃ v : Int32, x3 = [(3, .int v)]) → AW (am_Mof y_Pl_leastInRing) 5 0 0 4 ([(2, .int (nI k)), (1, .int (lr_v S k))] ++ x3 ++ [(0, .ref 1)]) [] (cs_w (cs_I S 7 (lr_st S k)) ++ r) 0 0 (am_Z (some (.int (lr_v S 4))) (cs_w (cs_I S 7 (lr_st S 4)) ++ r) 0 0) := by
  intro n
  induction n with
  | zero =>
    intro k x3 hs hx
    obtain rfl : k = 4 := by omega
    refine aw_sub (lv' := [(2, .int (nI 4)), (1, .int (lr_v S 4)), (0, .ref 1)]) (by intro q hq; simp at hq ⊢; rcases hq with h | h | h <;> simp [h]) ?_
    refine aw_iload_n d_Pl_leastInRing_4 rfl ?_
    refine aw_iconst (v := nI 4) d_Pl_leastInRing_5 (by decide) ?_
    refine aw_icmp_ge (tgt := 38) d_Pl_leastInRing_6 (by decide) (fun h6 => ?_) (fun h6 => absurd (nI_le (Nat.le_refl 4) (by omega)) h6)
    refine aw_iload_n d_Pl_leastInRing_38 rfl ?_
    exact aw_iretE d_Pl_leastInRing_39 rfl rfl rfl rfl rfl
  | succ n ih =>
    intro k x3 hs hx
    refine aw_sub (lv' := [(2, .int (nI k)), (1, .int (lr_v S k)), (0, .ref 1)]) (by intro q hq; simp at hq ⊢; rcases hq with h | h | h <;> simp [h]) ?_
    refine aw_iload_n d_Pl_leastInRing_4 rfl ?_
    refine aw_iconst (v := nI 4) d_Pl_leastInRing_5 (by decide) ?_
    refine aw_icmp_ge (tgt := 38) d_Pl_leastInRing_6 (by decide) (fun h6 => absurd h6 (nI_ge (by omega) (by omega))) (fun h6 => ?_)
    refine aw_aload_n d_Pl_leastInRing_9 rfl ?_
    refine aw_iload_n d_Pl_leastInRing_10 rfl ?_
    refine aw_cV1 d_Pl_leastInRing_11 (c_Pl_leastInRingOf (cs_I S 7 (lr_st S k)) r k (by omega) hb) mk_Pl_leastInRingOf is_Pl_leastInRingOf ln_Pl_46 rfl rfl rfl rfl (Nat.le_of_ble_eq_true rfl) (Nat.le_of_ble_eq_true rfl) (Nat.le_of_ble_eq_true rfl) (Nat.le_of_ble_eq_true rfl) ?_
    refine aw_eqs (st' := [.int (lr_f (lr_st S (k + 1)) 5 0)]) rfl ?_
    refine aw_eqw (w' := cs_w (cs_I S 7 (lr_st S (k + 1))) ++ r) (by rw [cs_II]; rfl) ?_
    refine aw_istore_n d_Pl_leastInRing_14 (Nat.le_of_ble_eq_true rfl) ?_
    refine aw_iload_n d_Pl_leastInRing_15 rfl ?_
    refine aw_iconst (v := -1) d_Pl_leastInRing_16 (by decide) ?_
    refine aw_icmp_eq (tgt := 32) d_Pl_leastInRing_17 (by decide) (fun h17 => ?_) (fun h17 => ?_)
    · refine aw_iinc d_Pl_leastInRing_32 rfl (nI_1 _) (Nat.le_of_ble_eq_true rfl) ?_
      refine aw_goto (tgt := 4) d_Pl_leastInRing_35 (by decide) ?_
      have hq : lr_v S (k + 1) = lr_v S k := if_neg (fun c => c.1 h17)
      refine aw_pick (lv' := [(2, .int (nI (k + 1))), (1, .int (lr_v S (k + 1))), (3, .int (lr_f (lr_st S (k + 1)) 5 0)), (0, .ref 1)]) (by rw [hq]; exact ⟨rfl, rfl, rfl, rfl, trivial⟩) ?_
      exact ih (k + 1) [(3, .int (lr_f (lr_st S (k + 1)) 5 0))] (by omega) (Or.inr ⟨_, rfl⟩)
    · refine aw_iload_n d_Pl_leastInRing_20 rfl ?_
      refine aw_iconst (v := -1) d_Pl_leastInRing_21 (by decide) ?_
      refine aw_icmp_eq (tgt := 30) d_Pl_leastInRing_22 (by decide) (fun h22 => ?_) (fun h22 => ?_)
      · refine aw_iload_n d_Pl_leastInRing_30 rfl ?_
        refine aw_istore_n d_Pl_leastInRing_31 (Nat.le_of_ble_eq_true rfl) ?_
        refine aw_iinc d_Pl_leastInRing_32 rfl (nI_1 _) (Nat.le_of_ble_eq_true rfl) ?_
        refine aw_goto (tgt := 4) d_Pl_leastInRing_35 (by decide) ?_
        have hq : lr_v S (k + 1) = lr_f (lr_st S (k + 1)) 5 0 := if_pos ⟨h17, Or.inl h22⟩
        refine aw_pick (lv' := [(2, .int (nI (k + 1))), (1, .int (lr_v S (k + 1))), (3, .int (lr_f (lr_st S (k + 1)) 5 0)), (0, .ref 1)]) (by rw [hq]; exact ⟨rfl, rfl, rfl, rfl, trivial⟩) ?_
        exact ih (k + 1) [(3, .int (lr_f (lr_st S (k + 1)) 5 0))] (by omega) (Or.inr ⟨_, rfl⟩)
      · refine aw_iload_n d_Pl_leastInRing_25 rfl ?_
        refine aw_iload_n d_Pl_leastInRing_26 rfl ?_
        refine aw_icmp_ge (tgt := 32) d_Pl_leastInRing_27 (by decide) (fun h27 => ?_) (fun h27 => ?_)
        · refine aw_iinc d_Pl_leastInRing_32 rfl (nI_1 _) (Nat.le_of_ble_eq_true rfl) ?_
          refine aw_goto (tgt := 4) d_Pl_leastInRing_35 (by decide) ?_
          have hq : lr_v S (k + 1) = lr_v S k := if_neg (fun c => c.2.elim (fun c => h22 c) (fun c => absurd h27 (Int32.not_le.mpr c)))
          refine aw_pick (lv' := [(2, .int (nI (k + 1))), (1, .int (lr_v S (k + 1))), (3, .int (lr_f (lr_st S (k + 1)) 5 0)), (0, .ref 1)]) (by rw [hq]; exact ⟨rfl, rfl, rfl, rfl, trivial⟩) ?_
          exact ih (k + 1) [(3, .int (lr_f (lr_st S (k + 1)) 5 0))] (by omega) (Or.inr ⟨_, rfl⟩)
        · refine aw_iload_n d_Pl_leastInRing_30 rfl ?_
          refine aw_istore_n d_Pl_leastInRing_31 (Nat.le_of_ble_eq_true rfl) ?_
          refine aw_iinc d_Pl_leastInRing_32 rfl (nI_1 _) (Nat.le_of_ble_eq_true rfl) ?_
          refine aw_goto (tgt := 4) d_Pl_leastInRing_35 (by decide) ?_
          have hq : lr_v S (k + 1) = lr_f (lr_st S (k + 1)) 5 0 := if_pos ⟨h17, Or.inr (Int32.not_le.mp h27)⟩
          refine aw_pick (lv' := [(2, .int (nI (k + 1))), (1, .int (lr_v S (k + 1))), (3, .int (lr_f (lr_st S (k + 1)) 5 0)), (0, .ref 1)]) (by rw [hq]; exact ⟨rfl, rfl, rfl, rfl, trivial⟩) ?_
          exact ih (k + 1) [(3, .int (lr_f (lr_st S (k + 1)) 5 0))] (by omega) (Or.inr ⟨_, rfl⟩)
theorem c_Pl_leastInRing (S : cs_S) (r : List am_C) (hb : b01 (S.1 4)) : am_ct y_Pl_leastInRing 5 [.ref 1] (cs_w S ++ r) (some (.int (lr_v S 4))) (cs_w (cs_I S 7 (lr_st S 4)) ++ r) 0 0 := by
  refine am_ct.of rfl (Nat.le_of_ble_eq_true rfl) ?_
  refine aw_iconst (v := -1) d_Pl_leastInRing_0 (by decide) ?_
  refine aw_istore_n d_Pl_leastInRing_1 (Nat.le_of_ble_eq_true rfl) ?_
  refine aw_iconst (v := nI 0) d_Pl_leastInRing_2 (by decide) ?_
  refine aw_istore_n d_Pl_leastInRing_3 (Nat.le_of_ble_eq_true rfl) ?_
  refine aw_eql (lv' := [(2, .int (nI 0)), (1, .int (lr_v S 0)), (0, .ref 1)]) rfl (aw_eqw (w' := cs_w (cs_I S 7 (lr_st S 0)) ++ r) (by show cs_w S ++ r = cs_w (va_up S.1 7 (S.1 7), S.2) ++ r; rw [show va_up S.1 7 (S.1 7) = S.1 from by funext j; unfold va_up; split; (rename_i h; rw [h]); rfl]) ?_)
  exact lp_Pl_lr S r hb 4 0 [] rfl (Or.inl rfl)
