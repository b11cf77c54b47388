/-! RateChainsModel: twice, told, audit, drawn, unit, numbers -/
def mw_f (S : cs_S) (k : Int32) : Nat → Nat → Nat → Int32
  | 0, _, _ => -1
  | n + 1, i, s => if S.1 38 i ≠ 0 ∧ S.1 39 (i / 4) ≠ 0 then (if nI s = k then nI i else mw_f S k n (i + 1) (s + 1)) else mw_f S k n (i + 1) s
abbrev mo_c (S : cs_S) (p : Nat) : Nat → Bool := ex_n (fun k => decide (S.1 50 (4 * p + k) ≠ 0))
def mo_f (S : cs_S) (k : Int32) : Nat → Nat → Nat → Int32
  | 0, _, _ => -1
  | n + 1, i, s => if mo_c S i 4 = true then (if nI s = k then nI i else mo_f S k n (i + 1) (s + 1)) else mo_f S k n (i + 1) s
def mg_audit (S : cs_S) (x : Int64) (n : Int32) (n8 : Nat) : cs_S := if ok_audit n n8 then cs_F (cs_I S 53 (dr_f n8 (cN n) 0 x (tr_f (S.1 53) n8))) 21 (nI (cN n)) else S
abbrev mu_c (S : cs_S) (n a : Nat) : Prop := a + 2 < n ∧ S.1 54 a = nI 35 ∧ ¬ S.1 54 (a + 1) < nI 48 ∧ S.1 54 (a + 1) ≤ nI 51 ∧ ¬ S.1 54 (a + 2) < nI 48 ∧ S.1 54 (a + 2) ≤ nI 57
def lg_f : Nat → Nat → Nat → Nat
  | 0, _, n => n
  | f + 1, r, n => if r = 0 then n else lg_f f (r / 10) (n + 1)
abbrev lg_n (m : Nat) : Nat := lg_f 19 (m / 10) 1
theorem lg_f_le : ∀ (f r n : Nat), n ≤ lg_f f r n ∧ lg_f f r n ≤ n + f
  | 0, _, n => ⟨Nat.le_refl _, Nat.le_refl _⟩
  | f + 1, r, n => by
    unfold lg_f
    split
    · omega
    · have := lg_f_le f (r / 10) (n + 1); omega
theorem lp_Mo_tw (C S : cs_S) (np : Nat) (hn : S.2.2 0 = nI np) (h5 : np ≤ 5) (k : Int32) : ∀ (n i : Nat) (s : Nat), i + n = 4 * np → AW (am_Mof y_Mo_twice) 0 0 0 4 [(3, .int (nI i)), (2, .int (nI s)), (0, .ref 36), (1, .int k)] [] (cs_w C ++ ms_w S) 0 0 (am_Z (some (.int (mw_f S k n i s))) (cs_w C ++ ms_w S) 0 0) := by
  intro n
  induction n with
  | zero =>
    intro i s hi
    obtain rfl : i = 4 * np := by omega
    refine aw_iload_n d_Mo_twice_4 rfl ?_
    refine aw_iconst (v := nI 4) d_Mo_twice_5 (by decide) ?_
    refine aw_aload_n d_Mo_twice_6 rfl ?_
    refine aw_get d_Mo_twice_7 fl_Mo_72 rfl rfl ?_
    refine aw_eqs (congrArg (fun z => Value.int z :: _) hn) ?_
    refine aw_imul d_Mo_twice_10 ?_
    try simp only [pk_mul, nI_add]
    refine aw_icmp_ge (tgt := 50) d_Mo_twice_11 (by decide) (fun h11 => ?_) (fun h11 => absurd (nI_le (Nat.le_refl _) (by omega)) h11)
    refine aw_iconst (v := -1) d_Mo_twice_50 (by decide) ?_
    exact aw_iretE d_Mo_twice_51 rfl rfl rfl rfl rfl
  | succ n ih =>
    intro i s hi
    refine aw_iload_n d_Mo_twice_4 rfl ?_
    refine aw_iconst (v := nI 4) d_Mo_twice_5 (by decide) ?_
    refine aw_aload_n d_Mo_twice_6 rfl ?_
    refine aw_get d_Mo_twice_7 fl_Mo_72 rfl rfl ?_
    refine aw_eqs (congrArg (fun z => Value.int z :: _) hn) ?_
    refine aw_imul d_Mo_twice_10 ?_
    try simp only [pk_mul, nI_add]
    refine aw_icmp_ge (tgt := 50) d_Mo_twice_11 (by decide) (fun h11 => absurd h11 (nI_ge (by omega) (by omega))) (fun h11 => ?_)
    refine aw_aload_n d_Mo_twice_14 rfl ?_
    refine aw_get d_Mo_twice_15 fl_Mo_13 rfl rfl ?_
    refine aw_iload_n d_Mo_twice_18 rfl ?_
    refine aw_zaldN d_Mo_twice_19 rfl (by omega) (Nat.le_of_ble_eq_true rfl) ?_
    refine aw_if_eq (tgt := 44) d_Mo_twice_20 (by decide) (fun h20 => ?_) (fun h20 => ?_)
    · have hC : ¬ (S.1 38 i ≠ 0 ∧ S.1 39 (i / 4) ≠ 0) := fun c => c.1 h20
      refine aw_iinc d_Mo_twice_44 rfl (nI_1 _) (Nat.le_of_ble_eq_true rfl) ?_
      refine aw_goto (tgt := 4) d_Mo_twice_47 (by decide) ?_
      have hq : mw_f S k (n + 1) i s = mw_f S k n (i + 1) s := if_neg hC
      rw [hq]
      refine aw_pick (lv' := [(3, .int (nI (i + 1))), (2, .int (nI s)), (0, .ref 36), (1, .int k)]) ⟨rfl, rfl, rfl, rfl, trivial⟩ ?_
      exact ih (i + 1) s (by omega)
    · refine aw_aload_n d_Mo_twice_23 rfl ?_
      refine aw_get d_Mo_twice_24 fl_Mo_17 rfl rfl ?_
      refine aw_iload_n d_Mo_twice_27 rfl ?_
      refine aw_iconst (v := nI 4) d_Mo_twice_28 (by decide) ?_
      refine aw_idiv d_Mo_twice_29 (by decide) ?_
      rw [pk_div (by omega) (by omega) (by omega)]
      refine aw_zaldN d_Mo_twice_30 rfl (by omega) (Nat.le_of_ble_eq_true rfl) ?_
      refine aw_if_eq (tgt := 44) d_Mo_twice_31 (by decide) (fun h31 => ?_) (fun h31 => ?_)
      · have hC : ¬ (S.1 38 i ≠ 0 ∧ S.1 39 (i / 4) ≠ 0) := fun c => c.2 h31
        refine aw_iinc d_Mo_twice_44 rfl (nI_1 _) (Nat.le_of_ble_eq_true rfl) ?_
        refine aw_goto (tgt := 4) d_Mo_twice_47 (by decide) ?_
        have hq : mw_f S k (n + 1) i s = mw_f S k n (i + 1) s := if_neg hC
        rw [hq]
        refine aw_pick (lv' := [(3, .int (nI (i + 1))), (2, .int (nI s)), (0, .ref 36), (1, .int k)]) ⟨rfl, rfl, rfl, rfl, trivial⟩ ?_
        exact ih (i + 1) s (by omega)
      · have hC : S.1 38 i ≠ 0 ∧ S.1 39 (i / 4) ≠ 0 := ⟨h20, h31⟩
        refine aw_iload_n d_Mo_twice_34 rfl ?_
        refine aw_iload_n d_Mo_twice_35 rfl ?_
        refine aw_icmp_ne (tgt := 41) d_Mo_twice_36 (by decide) (fun h36 => ?_) (fun h36 => ?_)
        · refine aw_iinc d_Mo_twice_41 rfl (nI_1 _) (Nat.le_of_ble_eq_true rfl) ?_
          refine aw_iinc d_Mo_twice_44 rfl (nI_1 _) (Nat.le_of_ble_eq_true rfl) ?_
          refine aw_goto (tgt := 4) d_Mo_twice_47 (by decide) ?_
          have hq : mw_f S k (n + 1) i s = mw_f S k n (i + 1) (s + 1) := (if_pos hC).trans (if_neg h36)
          rw [hq]
          refine aw_pick (lv' := [(3, .int (nI (i + 1))), (2, .int (nI (s + 1))), (0, .ref 36), (1, .int k)]) ⟨rfl, rfl, rfl, rfl, trivial⟩ ?_
          exact ih (i + 1) (s + 1) (by omega)
        · refine aw_iload_n d_Mo_twice_39 rfl ?_
          exact aw_iretE d_Mo_twice_40 rfl ((if_pos hC).trans (if_pos h36)).symm rfl rfl rfl
theorem c_Mo_twice (C S : cs_S) (np : Nat) (hn : S.2.2 0 = nI np) (h5 : np ≤ 5) (k : Int32) : am_ct y_Mo_twice 0 [.ref 36, .int k] (cs_w C ++ ms_w S) (some (.int (mw_f S k (4 * np) 0 0))) (cs_w C ++ ms_w S) 0 0 := by
  refine am_ct.of rfl (Nat.le_of_ble_eq_true rfl) ?_
  refine aw_iconst (v := nI 0) d_Mo_twice_0 (by decide) ?_
  refine aw_istore_n d_Mo_twice_1 (Nat.le_of_ble_eq_true rfl) ?_
  refine aw_iconst (v := nI 0) d_Mo_twice_2 (by decide) ?_
  refine aw_istore_n d_Mo_twice_3 (Nat.le_of_ble_eq_true rfl) ?_
  exact aw_eql rfl (lp_Mo_tw C S np hn h5 k (4 * np) 0 0 (by omega))
theorem lp_Mo_tk (C S : cs_S) (k : Int32) (i s : Nat) (hi : i < 5) (Z : am_E) (K : AW (am_Mof y_Mo_told) 0 0 0 63 [(4, .int (bI (mo_c S i 4 = true))), (3, .int (nI i)), (2, .int (nI s)), (0, .ref 36), (1, .int k)] [] (cs_w C ++ ms_w S) 0 0 Z) : ∀ (n j : Nat), j + n = 4 → AW (am_Mof y_Mo_told) 0 0 0 25 [(5, .int (nI j)), (4, .int (bI (mo_c S i j = true))), (3, .int (nI i)), (2, .int (nI s)), (0, .ref 36), (1, .int k)] [] (cs_w C ++ ms_w S) 0 0 Z := by
  intro n
  induction n with
  | zero =>
    intro j hj
    obtain rfl : j = 4 := by omega
    refine aw_iload d_Mo_told_25 rfl ?_
    refine aw_iconst (v := nI 4) d_Mo_told_27 (by decide) ?_
    refine aw_icmp_ge (tgt := 63) d_Mo_told_28 (by decide) (fun h28 => ?_) (fun h28 => absurd (nI_le (Nat.le_refl _) (by omega)) h28)
    exact aw_pick (lv' := [(4, .int (bI (mo_c S i 4 = true))), (3, .int (nI i)), (2, .int (nI s)), (0, .ref 36), (1, .int k)]) ⟨rfl, rfl, rfl, rfl, rfl, trivial⟩ K
  | succ n ih =>
    intro j hj
    refine aw_iload d_Mo_told_25 rfl ?_
    refine aw_iconst (v := nI 4) d_Mo_told_27 (by decide) ?_
    refine aw_icmp_ge (tgt := 63) d_Mo_told_28 (by decide) (fun h28 => absurd h28 (nI_ge (by omega) (by omega))) (fun h28 => ?_)
    refine aw_iload d_Mo_told_31 rfl ?_
    refine aw_if_ne (tgt := 50) d_Mo_told_33 (by decide) (fun h33 => ?_) (fun h33 => ?_)
    · refine aw_iconst (v := nI 1) d_Mo_told_50 (by decide) ?_
      refine aw_goto (tgt := 55) d_Mo_told_51 (by decide) ?_
      have hg : bI (mo_c S i (j + 1) = true) = 1 := bI_t (show (ex_n (fun k => decide (S.1 50 (4 * i + k) ≠ 0)) j || decide (S.1 50 (4 * i + j) ≠ 0)) = true from by rw [show ex_n (fun k => decide (S.1 50 (4 * i + k) ≠ 0)) j = true from bI_n h33]; rfl)
      refine aw_eqs (st' := [.int (bI (mo_c S i (j + 1) = true))]) (by rw [hg]; rfl) ?_
      refine aw_istore d_Mo_told_55 (Nat.le_of_ble_eq_true rfl) ?_
      refine aw_iinc d_Mo_told_57 rfl (nI_1 _) (Nat.le_of_ble_eq_true rfl) ?_
      refine aw_goto (tgt := 25) d_Mo_told_60 (by decide) ?_
      refine aw_pick (lv' := [(5, .int (nI (j + 1))), (4, .int (bI (mo_c S i (j + 1) = true))), (3, .int (nI i)), (2, .int (nI s)), (0, .ref 36), (1, .int k)]) ⟨rfl, rfl, rfl, rfl, rfl, rfl, trivial⟩ ?_
      exact ih (j + 1) (by omega)
    · refine aw_aload_n d_Mo_told_36 rfl ?_
      refine aw_get d_Mo_told_37 fl_Mo_51 rfl rfl ?_
      refine aw_iconst (v := nI 4) d_Mo_told_40 (by decide) ?_
      refine aw_iload_n d_Mo_told_41 rfl ?_
      refine aw_imul d_Mo_told_42 ?_
      try simp only [pk_mul, nI_add]
      refine aw_iload d_Mo_told_43 rfl ?_
      refine aw_iadd d_Mo_told_45 ?_
      try simp only [pk_mul, nI_add]
      refine aw_zaldN d_Mo_told_46 rfl (by omega) (Nat.le_of_ble_eq_true rfl) ?_
      refine aw_if_eq (tgt := 54) d_Mo_told_47 (by decide) (fun h47 => ?_) (fun h47 => ?_)
      · refine aw_iconst (v := nI 0) d_Mo_told_54 (by decide) ?_
        have hg : bI (mo_c S i (j + 1) = true) = 0 := bI_f (fun c => by have c : (ex_n (fun k => decide (S.1 50 (4 * i + k) ≠ 0)) j || decide (S.1 50 (4 * i + j) ≠ 0)) = true := c; rw [show ex_n (fun k => decide (S.1 50 (4 * i + k) ≠ 0)) j = false from Bool.eq_false_iff.mpr ((bI_0 _).mp h33)] at c; exact of_decide_eq_true c h47)
        refine aw_eqs (st' := [.int (bI (mo_c S i (j + 1) = true))]) (by rw [hg]; rfl) ?_
        refine aw_istore d_Mo_told_55 (Nat.le_of_ble_eq_true rfl) ?_
        refine aw_iinc d_Mo_told_57 rfl (nI_1 _) (Nat.le_of_ble_eq_true rfl) ?_
        refine aw_goto (tgt := 25) d_Mo_told_60 (by decide) ?_
        refine aw_pick (lv' := [(5, .int (nI (j + 1))), (4, .int (bI (mo_c S i (j + 1) = true))), (3, .int (nI i)), (2, .int (nI s)), (0, .ref 36), (1, .int k)]) ⟨rfl, rfl, rfl, rfl, rfl, rfl, trivial⟩ ?_
        exact ih (j + 1) (by omega)
      · refine aw_iconst (v := nI 1) d_Mo_told_50 (by decide) ?_
        refine aw_goto (tgt := 55) d_Mo_told_51 (by decide) ?_
        have hg : bI (mo_c S i (j + 1) = true) = 1 := bI_t (show (ex_n (fun k => decide (S.1 50 (4 * i + k) ≠ 0)) j || decide (S.1 50 (4 * i + j) ≠ 0)) = true from by rw [decide_eq_true h47]; exact Bool.or_true _)
        refine aw_eqs (st' := [.int (bI (mo_c S i (j + 1) = true))]) (by rw [hg]; rfl) ?_
        refine aw_istore d_Mo_told_55 (Nat.le_of_ble_eq_true rfl) ?_
        refine aw_iinc d_Mo_told_57 rfl (nI_1 _) (Nat.le_of_ble_eq_true rfl) ?_
        refine aw_goto (tgt := 25) d_Mo_told_60 (by decide) ?_
        refine aw_pick (lv' := [(5, .int (nI (j + 1))), (4, .int (bI (mo_c S i (j + 1) = true))), (3, .int (nI i)), (2, .int (nI s)), (0, .ref 36), (1, .int k)]) ⟨rfl, rfl, rfl, rfl, rfl, rfl, trivial⟩ ?_
        exact ih (j + 1) (by omega)
theorem lp_Mo_to (C S : cs_S) (ns : Nat) (hs : S.2.2 17 = nI ns) (h5 : ns ≤ 5) (h13 : ¬ S.2.2 13 = 0) (k : Int32) : ∀ (n i : Nat) (s : Nat), i + n = ns → AW (am_Mof y_Mo_told) 0 0 0 4 [(3, .int (nI i)), (2, .int (nI s)), (0, .ref 36), (1, .int k)] [] (cs_w C ++ ms_w S) 0 0 (am_Z (some (.int (mo_f S k n i s))) (cs_w C ++ ms_w S) 0 0) := by
  intro n
  induction n with
  | zero =>
    intro i s hi
    obtain rfl : ns = i := by omega
    refine aw_iload_n d_Mo_told_4 rfl ?_
    refine aw_aload_n d_Mo_told_5 rfl ?_
    refine aw_get d_Mo_told_6 fl_Mo_145 rfl rfl ?_
    refine aw_eqs (congrArg (fun z => Value.int z :: _) hs) ?_
    refine aw_icmp_ge (tgt := 84) d_Mo_told_9 (by decide) (fun h9 => ?_) (fun h9 => absurd (nI_le (Nat.le_refl _) (by omega)) h9)
    refine aw_iconst (v := -1) d_Mo_told_84 (by decide) ?_
    exact aw_iretE d_Mo_told_85 rfl rfl rfl rfl rfl
  | succ n ih =>
    intro i s hi
    refine aw_iload_n d_Mo_told_4 rfl ?_
    refine aw_aload_n d_Mo_told_5 rfl ?_
    refine aw_get d_Mo_told_6 fl_Mo_145 rfl rfl ?_
    refine aw_eqs (congrArg (fun z => Value.int z :: _) hs) ?_
    refine aw_icmp_ge (tgt := 84) d_Mo_told_9 (by decide) (fun h9 => absurd h9 (nI_ge (by omega) (by omega))) (fun h9 => ?_)
    refine aw_aload_n d_Mo_told_12 rfl ?_
    refine aw_get d_Mo_told_13 fl_Mo_141 rfl rfl ?_
    refine aw_if_eq (tgt := 84) d_Mo_told_16 (by decide) (fun h16 => absurd h16 h13) (fun h16 => ?_)
    refine aw_iconst (v := nI 0) d_Mo_told_19 (by decide) ?_
    refine aw_istore d_Mo_told_20 (Nat.le_of_ble_eq_true rfl) ?_
    refine aw_iconst (v := nI 0) d_Mo_told_22 (by decide) ?_
    refine aw_istore d_Mo_told_23 (Nat.le_of_ble_eq_true rfl) ?_
    refine aw_pick (lv' := [(5, .int (nI 0)), (4, .int (bI (mo_c S i 0 = true))), (3, .int (nI i)), (2, .int (nI s)), (0, .ref 36), (1, .int k)]) ⟨rfl, rfl, rfl, rfl, rfl, rfl, trivial⟩ ?_
    refine lp_Mo_tk C S k i s (by omega) _ ?_ 4 0 rfl
    refine aw_iload d_Mo_told_63 rfl ?_
    refine aw_if_eq (tgt := 78) d_Mo_told_65 (by decide) (fun h65 => ?_) (fun h65 => ?_)
    · have hC : ¬ mo_c S i 4 = true := (bI_0 _).mp h65
      refine aw_iinc d_Mo_told_78 rfl (nI_1 _) (Nat.le_of_ble_eq_true rfl) ?_
      refine aw_goto (tgt := 4) d_Mo_told_81 (by decide) ?_
      have hq : mo_f S k (n + 1) i s = mo_f S k n (i + 1) s := if_neg hC
      rw [hq]
      refine aw_pick (lv' := [(3, .int (nI (i + 1))), (2, .int (nI s)), (0, .ref 36), (1, .int k)]) ⟨rfl, rfl, rfl, rfl, trivial⟩ ?_
      exact ih (i + 1) s (by omega)
    · have hC : mo_c S i 4 = true := bI_n h65
      refine aw_iload_n d_Mo_told_68 rfl ?_
      refine aw_iload_n d_Mo_told_69 rfl ?_
      refine aw_icmp_ne (tgt := 75) d_Mo_told_70 (by decide) (fun h70 => ?_) (fun h70 => ?_)
      · refine aw_iinc d_Mo_told_75 rfl (nI_1 _) (Nat.le_of_ble_eq_true rfl) ?_
        refine aw_iinc d_Mo_told_78 rfl (nI_1 _) (Nat.le_of_ble_eq_true rfl) ?_
        refine aw_goto (tgt := 4) d_Mo_told_81 (by decide) ?_
        have hq : mo_f S k (n + 1) i s = mo_f S k n (i + 1) (s + 1) := (if_pos hC).trans (if_neg h70)
        rw [hq]
        refine aw_pick (lv' := [(3, .int (nI (i + 1))), (2, .int (nI (s + 1))), (0, .ref 36), (1, .int k)]) ⟨rfl, rfl, rfl, rfl, trivial⟩ ?_
        exact ih (i + 1) (s + 1) (by omega)
      · refine aw_iload_n d_Mo_told_73 rfl ?_
        exact aw_iretE d_Mo_told_74 rfl ((if_pos hC).trans (if_pos h70)).symm rfl rfl rfl
theorem c_Mo_told (C S : cs_S) (ns : Nat) (hs : S.2.2 17 = nI ns) (h5 : ns ≤ 5) (k : Int32) : am_ct y_Mo_told 0 [.ref 36, .int k] (cs_w C ++ ms_w S) (some (.int (if S.2.2 13 = 0 then -1 else mo_f S k ns 0 0))) (cs_w C ++ ms_w S) 0 0 := by
  refine am_ct.of rfl (Nat.le_of_ble_eq_true rfl) ?_
  refine aw_iconst (v := nI 0) d_Mo_told_0 (by decide) ?_
  refine aw_istore_n d_Mo_told_1 (Nat.le_of_ble_eq_true rfl) ?_
  refine aw_iconst (v := nI 0) d_Mo_told_2 (by decide) ?_
  refine aw_istore_n d_Mo_told_3 (Nat.le_of_ble_eq_true rfl) ?_
  by_cases h13 : S.2.2 13 = 0
  · rw [if_pos h13]
    refine aw_pick (lv' := [(3, .int (nI 0)), (2, .int (nI 0)), (0, .ref 36), (1, .int k)]) ⟨rfl, rfl, rfl, rfl, trivial⟩ ?_
    refine aw_iload_n d_Mo_told_4 rfl ?_
    refine aw_aload_n d_Mo_told_5 rfl ?_
    refine aw_get d_Mo_told_6 fl_Mo_145 rfl rfl ?_
    refine aw_eqs (congrArg (fun z => Value.int z :: _) hs) ?_
    refine aw_icmp_ge (tgt := 84) d_Mo_told_9 (by decide) (fun h9 => ?_) (fun h9 => ?_)
    · refine aw_iconst (v := -1) d_Mo_told_84 (by decide) ?_
      exact aw_iretE d_Mo_told_85 rfl rfl rfl rfl rfl
    · refine aw_aload_n d_Mo_told_12 rfl ?_
      refine aw_get d_Mo_told_13 fl_Mo_141 rfl rfl ?_
      refine aw_if_eq (tgt := 84) d_Mo_told_16 (by decide) (fun h16 => ?_) (fun h16 => absurd h13 h16)
      refine aw_iconst (v := -1) d_Mo_told_84 (by decide) ?_
      exact aw_iretE d_Mo_told_85 rfl rfl rfl rfl rfl
  · rw [if_neg h13]
    exact aw_eql rfl (lp_Mo_to C S ns hs h5 h13 k ns 0 0 (by omega))
theorem lp_Mo_audit_1 (C S : cs_S) (n8 : Nat) (hn : S.2.2 5 = nI n8) (h60 : n8 ≤ 60) (x0 : Int64) (m : Nat) (Z : am_E) (K : AW (am_Mof y_Mo_audit) 0 0 0 42 [(0, .ref 36), (1, .long x0), (3, .int (nI m))] [] (cs_w C ++ ms_w (cs_I S 53 (tr_f (S.1 53) n8))) 0 0 Z) : ∀ (n j : Nat), j + n = n8 → AW (am_Mof y_Mo_audit) 0 0 0 18 [(4, .int (nI j)), (0, .ref 36), (1, .long x0), (3, .int (nI m))] [] (cs_w C ++ ms_w (cs_I S 53 (tr_f (S.1 53) j))) 0 0 Z := by
  intro n
  induction n with
  | zero =>
    intro j hj
    obtain rfl : n8 = j := by omega
    refine aw_iload d_Mo_audit_18 rfl ?_
    refine aw_aload_n d_Mo_audit_20 rfl ?_
    refine aw_get d_Mo_audit_21 fl_Mo_97 rfl rfl ?_
    refine aw_eqs (congrArg (fun z => Value.int z :: _) hn) ?_
    refine aw_icmp_ge (tgt := 42) d_Mo_audit_24 (by decide) (fun h24 => ?_) (fun h24 => absurd (nI_le (Nat.le_refl _) (by omega)) h24)
    exact aw_pick (lv' := [(0, .ref 36), (1, .long x0), (3, .int (nI m))]) ⟨rfl, rfl, rfl, trivial⟩ K
  | succ n ih =>
    intro j hj
    refine aw_iload d_Mo_audit_18 rfl ?_
    refine aw_aload_n d_Mo_audit_20 rfl ?_
    refine aw_get d_Mo_audit_21 fl_Mo_97 rfl rfl ?_
    refine aw_eqs (congrArg (fun z => Value.int z :: _) hn) ?_
    refine aw_icmp_ge (tgt := 42) d_Mo_audit_24 (by decide) (fun h24 => absurd h24 (nI_ge (by omega) (by omega))) (fun h24 => ?_)
    refine aw_aload_n d_Mo_audit_27 rfl ?_
    refine aw_get d_Mo_audit_28 fl_Mo_60 rfl rfl ?_
    refine aw_iload d_Mo_audit_31 rfl ?_
    refine aw_iload d_Mo_audit_33 rfl ?_
    refine aw_iastN d_Mo_audit_35 rfl (by omega) (Nat.le_of_ble_eq_true rfl) (show _ = cs_w C ++ ms_w (cs_I S 53 (tr_f (S.1 53) (j + 1))) from (ms_s53 _ _ _).trans (by rw [cs_II]; rfl)) ?_
    refine aw_iinc d_Mo_audit_36 rfl (nI_1 _) (Nat.le_of_ble_eq_true rfl) ?_
    refine aw_goto (tgt := 18) d_Mo_audit_39 (by decide) ?_
    exact aw_eql rfl (ih (j + 1) (by omega))
theorem lp_Mo_audit_2 (C S : cs_S) (n8 : Nat) (hn : S.2.2 5 = nI n8) (h60 : n8 ≤ 60) (x0 : Int64) (m : Nat) (hm : m ≤ n8) (w' : List am_C) : ∀ (n i : Nat) (x : Int64) (f : Nat → Int32) (g : List (Nat × Value)), i + n = m → cs_w C ++ ms_w (cs_F (cs_I S 53 (dr_f n8 n i x f)) 21 (nI m)) = w' → AW (am_Mof y_Mo_audit) 0 0 0 48 ([(6, .int (nI i)), (4, .long x), (0, .ref 36), (1, .long x0), (3, .int (nI m))] ++ g) [] (cs_w C ++ ms_w (cs_I S 53 (f))) 0 0 (am_Z (some (.int (nI m))) w' 0 0) := by
  intro n
  induction n with
  | zero =>
    intro i x f g hi hw
    obtain rfl : i = m := by omega
    refine aw_sub (lv' := [(6, .int (nI i)), (4, .long x), (0, .ref 36), (1, .long x0), (3, .int (nI i))]) (by simp) ?_
    refine aw_iload d_Mo_audit_48 rfl ?_
    refine aw_iload_n d_Mo_audit_50 rfl ?_
    refine aw_icmp_ge (tgt := 124) d_Mo_audit_51 (by decide) (fun h51 => ?_) (fun h51 => absurd (nI_le (Nat.le_refl _) (by omega)) h51)
    refine aw_aload_n d_Mo_audit_124 rfl ?_
    refine aw_iload_n d_Mo_audit_125 rfl ?_
    refine aw_putW d_Mo_audit_126 fp_Mo_188 rfl (Nat.le_of_ble_eq_true rfl) (fun _ _ => ⟨rfl, rfl⟩) (ms_f36_21 _ _ _) ?_
    refine aw_iload_n d_Mo_audit_129 rfl ?_
    exact aw_iretE d_Mo_audit_130 rfl rfl hw rfl rfl
  | succ n ih =>
    intro i x f g hi hw
    have hisz : i < n8 := by omega
    refine aw_sub (lv' := [(6, .int (nI i)), (4, .long x), (0, .ref 36), (1, .long x0), (3, .int (nI m))]) (by simp) ?_
    refine aw_iload d_Mo_audit_48 rfl ?_
    refine aw_iload_n d_Mo_audit_50 rfl ?_
    refine aw_icmp_ge (tgt := 124) d_Mo_audit_51 (by decide) (fun h51 => absurd h51 (nI_ge (by omega) (by omega))) (fun h51 => ?_)
    refine aw_lload d_Mo_audit_54 rfl ?_
    refine aw_ldc2 (v := lN 6364136223846793005) d_Mo_audit_56 kl_Mo_184 ?_
    refine aw_lmul d_Mo_audit_59 ?_
    refine aw_ldc2 (v := lN 1442695040888963407) d_Mo_audit_60 kl_Mo_186 ?_
    refine aw_ladd d_Mo_audit_63 ?_
    refine aw_eqs (st' := [.long (lc_x x)]) rfl ?_
    refine aw_lstore d_Mo_audit_64 (Nat.le_of_ble_eq_true rfl) ?_
    refine aw_iload d_Mo_audit_66 rfl ?_
    refine aw_lload d_Mo_audit_68 rfl ?_
    refine aw_bipush (v := nI 33) d_Mo_audit_70 (by decide) ?_
    refine aw_lushr d_Mo_audit_72 ?_
    refine aw_aload_n d_Mo_audit_73 rfl ?_
    refine aw_get d_Mo_audit_74 fl_Mo_97 rfl rfl ?_
    refine aw_eqs (congrArg (fun z => Value.int z :: _) hn) ?_
    refine aw_iload d_Mo_audit_77 rfl ?_
    refine aw_isub d_Mo_audit_79 ?_
    rw [pk_sub (by omega)]
    refine aw_i2l d_Mo_audit_80 ?_
    rw [nI_l (by omega)]
    refine aw_lrem d_Mo_audit_81 (fun e => by have h9 := (pk_lEQ (a := n8 - i) (b := 0) (by omega) (by omega)).mp e; omega) ?_
    refine aw_l2i d_Mo_audit_82 ?_
    refine aw_iadd d_Mo_audit_83 ?_
    rw [jx_eq (lc_x x) hisz h60]
    have hj := jx_lt (lc_x x) hisz
    refine aw_istore d_Mo_audit_84 (Nat.le_of_ble_eq_true rfl) ?_
    refine aw_aload_n d_Mo_audit_86 rfl ?_
    refine aw_get d_Mo_audit_87 fl_Mo_60 rfl rfl ?_
    refine aw_iload d_Mo_audit_90 rfl ?_
    refine aw_ialdN d_Mo_audit_92 rfl (by omega) (Nat.le_of_ble_eq_true rfl) ?_
    refine aw_istore d_Mo_audit_93 (Nat.le_of_ble_eq_true rfl) ?_
    refine aw_aload_n d_Mo_audit_95 rfl ?_
    refine aw_get d_Mo_audit_96 fl_Mo_60 rfl rfl ?_
    refine aw_iload d_Mo_audit_99 rfl ?_
    refine aw_aload_n d_Mo_audit_101 rfl ?_
    refine aw_get d_Mo_audit_102 fl_Mo_60 rfl rfl ?_
    refine aw_iload d_Mo_audit_105 rfl ?_
    refine aw_ialdN d_Mo_audit_107 rfl (by omega) (Nat.le_of_ble_eq_true rfl) ?_
    refine aw_iastN d_Mo_audit_108 rfl (by omega) (Nat.le_of_ble_eq_true rfl) (show _ = cs_w C ++ ms_w (cs_I S 53 (upd f i (f (jx_f (lc_x x) i n8)))) from (ms_s53 _ _ _).trans (by rw [cs_II]; rfl)) ?_
    refine aw_aload_n d_Mo_audit_109 rfl ?_
    refine aw_get d_Mo_audit_110 fl_Mo_60 rfl rfl ?_
    refine aw_iload d_Mo_audit_113 rfl ?_
    refine aw_iload d_Mo_audit_115 rfl ?_
    refine aw_iastN d_Mo_audit_117 rfl (by omega) (Nat.le_of_ble_eq_true rfl) (show _ = cs_w C ++ ms_w (cs_I S 53 (sw_f f i (jx_f (lc_x x) i n8))) from (ms_s53 _ _ _).trans (by rw [cs_II]; rfl)) ?_
    refine aw_iinc d_Mo_audit_118 rfl (nI_1 _) (Nat.le_of_ble_eq_true rfl) ?_
    refine aw_goto (tgt := 48) d_Mo_audit_121 (by decide) ?_
    refine aw_pick (lv' := [(6, .int (nI (i + 1))), (4, .long (lc_x x)), (0, .ref 36), (1, .long x0), (3, .int (nI m))]) ⟨rfl, rfl, rfl, rfl, rfl, trivial⟩ ?_
    exact ih (i + 1) (lc_x x) (sw_f f i (jx_f (lc_x x) i n8)) [] (by omega) hw
theorem c_Mo_audit (C S : cs_S) (x : Int64) (n : Int32) (n8 : Nat) (hn : S.2.2 5 = nI n8) (h60 : n8 ≤ 60) : am_ct y_Mo_audit 0 [.ref 36, .long x, .int n] (cs_w C ++ ms_w S) (some (.int (if ok_audit n n8 then n else -1))) (cs_w C ++ ms_w (mg_audit S x n n8)) 0 0 := by
  refine am_ct.of rfl (Nat.le_of_ble_eq_true rfl) ?_
  refine aw_iload_n d_Mo_audit_0 rfl ?_
  refine aw_iconst (v := nI 1) d_Mo_audit_1 (by decide) ?_
  refine aw_icmp_lt (tgt := 13) d_Mo_audit_2 (by decide) (fun h2 => ?_) (fun h2 => ?_)
  · refine aw_iconst (v := -1) d_Mo_audit_13 (by decide) ?_
    exact aw_iretE d_Mo_audit_14 rfl (if_neg (fun c => c.1 h2)).symm (by unfold mg_audit; rw [if_neg (fun c => c.1 h2)]) rfl rfl
  · refine aw_iload_n d_Mo_audit_5 rfl ?_
    refine aw_aload_n d_Mo_audit_6 rfl ?_
    refine aw_get d_Mo_audit_7 fl_Mo_97 rfl rfl ?_
    refine aw_eqs (congrArg (fun z => Value.int z :: _) hn) ?_
    refine aw_icmp_le (tgt := 15) d_Mo_audit_10 (by decide) (fun h10 => ?_) (fun h10 => ?_)
    · have hok : ok_audit n n8 := ⟨h2, h10⟩
      have h0 : ¬ n < 0 := fun e => h2 (Int32.lt_trans e (by decide))
      obtain ⟨m, hm, em⟩ := nI_of h0
      subst em
      have hm8 : m ≤ n8 := (nI_leI hm (by omega)).mp h10
      unfold mg_audit
      rw [if_pos hok, if_pos hok, cN_nI hm]
      refine aw_iconst (v := nI 0) d_Mo_audit_15 (by decide) ?_
      refine aw_istore d_Mo_audit_16 (Nat.le_of_ble_eq_true rfl) ?_
      refine aw_eqw (w' := cs_w C ++ ms_w (cs_I S 53 (tr_f (S.1 53) 0))) (by show cs_w C ++ ms_w S = cs_w C ++ ms_w (cs_I S 53 (S.1 53)); rw [cs_Iid]) ?_
      refine aw_pick (lv' := [(4, .int (nI 0)), (0, .ref 36), (1, .long x), (3, .int (nI m))]) ⟨rfl, rfl, rfl, rfl, trivial⟩ ?_
      refine lp_Mo_audit_1 C S n8 hn h60 x m _ ?_ n8 0 (by omega)
      refine aw_lload_n d_Mo_audit_42 rfl ?_
      refine aw_lstore d_Mo_audit_43 (Nat.le_of_ble_eq_true rfl) ?_
      refine aw_iconst (v := nI 0) d_Mo_audit_45 (by decide) ?_
      refine aw_istore d_Mo_audit_46 (Nat.le_of_ble_eq_true rfl) ?_
      refine aw_pick (lv' := [(6, .int (nI 0)), (4, .long x), (0, .ref 36), (1, .long x), (3, .int (nI m))]) ⟨rfl, rfl, rfl, rfl, rfl, trivial⟩ ?_
      exact lp_Mo_audit_2 C S n8 hn h60 x m hm8 _ m 0 x _ [] (by omega) rfl
    · refine aw_iconst (v := -1) d_Mo_audit_13 (by decide) ?_
      exact aw_iretE d_Mo_audit_14 rfl (if_neg (fun c => h10 c.2)).symm (by unfold mg_audit; rw [if_neg (fun c => h10 c.2)]) rfl rfl
theorem c_Mo_drawn (C S : cs_S) (x : Int32) (c : Nat) (hc : S.2.2 21 = nI c) (h60 : c ≤ 60) : am_ct y_Mo_drawn 0 [.ref 36, .int x] (cs_w C ++ ms_w S) (some (.int (if 0 ≤ x ∧ x < nI c then S.1 53 x.toNatClampNeg else -1))) (cs_w C ++ ms_w S) 0 0 := by
  refine am_ct.of rfl (Nat.le_of_ble_eq_true rfl) ?_
  refine aw_iload_n d_Mo_drawn_0 rfl ?_
  refine aw_if_lt (tgt := 21) d_Mo_drawn_1 (by decide) (fun h1 => ?_) (fun h1 => ?_)
  · refine aw_iconst (v := -1) d_Mo_drawn_21 (by decide) ?_
    exact aw_iretE d_Mo_drawn_22 rfl (by rw [if_neg (fun e => absurd e.1 (Int32.not_le.mpr h1))]) rfl rfl rfl
  · refine aw_iload_n d_Mo_drawn_4 rfl ?_
    refine aw_aload_n d_Mo_drawn_5 rfl ?_
    refine aw_get d_Mo_drawn_6 fl_Mo_188 rfl rfl ?_
    refine aw_eqs (congrArg (fun z => Value.int z :: _) hc) ?_
    refine aw_icmp_ge (tgt := 21) d_Mo_drawn_9 (by decide) (fun h9 => ?_) (fun h9 => ?_)
    · refine aw_iconst (v := -1) d_Mo_drawn_21 (by decide) ?_
      exact aw_iretE d_Mo_drawn_22 rfl (by rw [if_neg (fun e => absurd h9 (Int32.not_le.mpr e.2))]) rfl rfl rfl
    · refine aw_aload_n d_Mo_drawn_12 rfl ?_
      refine aw_get d_Mo_drawn_13 fl_Mo_60 rfl rfl ?_
      refine aw_iload_n d_Mo_drawn_16 rfl ?_
      refine aw_iald d_Mo_drawn_17 rfl (vp_in_lt h1 h9 h60 (by decide)) ?_
      refine aw_goto (tgt := 22) d_Mo_drawn_18 (by decide) ?_
      exact aw_iretE d_Mo_drawn_22 rfl (by rw [if_pos ⟨(i32_nlt _ _).mp h1, Int32.not_le.mp h9⟩]) rfl rfl rfl
theorem c_Mo_unit (C S : cs_S) (u : Int32) (n : Nat) (hn : S.2.2 24 = nI n) (h200 : n ≤ 200) : am_ct y_Mo_unit 0 [.ref 36, .int u] (cs_w C ++ ms_w S) (some (.int (bI ((¬ u < 0 ∧ u ≤ nI 255) ∧ n < 200)))) (cs_w C ++ ms_w (if (¬ u < 0 ∧ u ≤ nI 255) ∧ n < 200 then cs_F (cs_I S 54 (upd (S.1 54) n u)) 24 (nI (n + 1)) else S)) 0 0 := by
  refine am_ct.of rfl (Nat.le_of_ble_eq_true rfl) ?_
  refine aw_iload_n d_Mo_unit_0 rfl ?_
  refine aw_if_lt (tgt := 21) d_Mo_unit_1 (by decide) (fun h1 => ?_) (fun h1 => ?_)
  · refine aw_iconst (v := nI 0) d_Mo_unit_21 (by decide) ?_
    exact aw_zretE d_Mo_unit_22 rfl rfl (bI_f (fun c => c.1.1 h1)).symm (by rw [if_neg (fun c => c.1.1 h1)]) rfl rfl
  · refine aw_iload_n d_Mo_unit_4 rfl ?_
    refine aw_sipush (v := nI 255) d_Mo_unit_5 (by decide) ?_
    refine aw_icmp_gt (tgt := 21) d_Mo_unit_8 (by decide) (fun h8 => ?_) (fun h8 => ?_)
    · refine aw_iconst (v := nI 0) d_Mo_unit_21 (by decide) ?_
      exact aw_zretE d_Mo_unit_22 rfl rfl (bI_f (fun c => absurd h8 (Int32.not_lt.mpr c.1.2))).symm (by rw [if_neg (fun c => absurd h8 (Int32.not_lt.mpr c.1.2))]) rfl rfl
    · refine aw_aload_n d_Mo_unit_11 rfl ?_
      refine aw_get d_Mo_unit_12 fl_Mo_191 rfl rfl ?_
      refine aw_eqs (congrArg (fun z => Value.int z :: _) hn) ?_
      refine aw_sipush (v := nI 200) d_Mo_unit_15 (by decide) ?_
      refine aw_icmp_ne (tgt := 23) d_Mo_unit_18 (by decide) (fun h18 => ?_) (fun h18 => ?_)
      · have h18 : n < 200 := by rcases Nat.lt_or_ge n 200 with h | h; exact h; exact absurd (by rw [show n = 200 by omega]) h18
        refine aw_aload_n d_Mo_unit_23 rfl ?_
        refine aw_get d_Mo_unit_24 fl_Mo_63 rfl rfl ?_
        refine aw_aload_n d_Mo_unit_27 rfl ?_
        refine aw_get d_Mo_unit_28 fl_Mo_191 rfl rfl ?_
        refine aw_eqs (congrArg (fun z => Value.int z :: _) hn) ?_
        refine aw_iload_n d_Mo_unit_31 rfl ?_
        refine aw_iastN d_Mo_unit_32 rfl (by omega) (Nat.le_of_ble_eq_true rfl) (ms_s54 _ _ _) ?_
        refine aw_aload_n d_Mo_unit_33 rfl ?_
        refine aw_dup d_Mo_unit_34 rfl ?_
        refine aw_get d_Mo_unit_35 fl_Mo_191 rfl rfl ?_
        refine aw_eqs (congrArg (fun z => Value.int z :: _) hn) ?_
        refine aw_iconst (v := nI 1) d_Mo_unit_38 (by decide) ?_
        refine aw_iadd d_Mo_unit_39 ?_
        rw [nI_add]
        refine aw_putW d_Mo_unit_40 fp_Mo_191 rfl (Nat.le_of_ble_eq_true rfl) (fun _ _ => ⟨rfl, rfl⟩) (ms_f36_24 _ _ _) ?_
        refine aw_iconst (v := nI 1) d_Mo_unit_43 (by decide) ?_
        have hok : (¬ u < 0 ∧ u ≤ nI 255) ∧ n < 200 := ⟨⟨h1, Int32.not_lt.mp h8⟩, h18⟩
        exact aw_zretE d_Mo_unit_44 rfl rfl (bI_t hok).symm (by rw [if_pos hok]; try rfl) rfl rfl
      · have h18 : ¬ n < 200 := by have := (nI_eq (by omega) (by omega)).mp h18; omega
        refine aw_iconst (v := nI 0) d_Mo_unit_21 (by decide) ?_
        exact aw_zretE d_Mo_unit_22 rfl rfl (bI_f (fun c => h18 c.2)).symm (by rw [if_neg (fun c => h18 c.2)]) rfl rfl
theorem c_Mo_isNumberAt (C S : cs_S) (a : Nat) (n : Nat) (hn : S.2.2 24 = nI n) (h200 : n ≤ 200) (ha : a < n) : am_ct y_Mo_isNumberAt 0 [.ref 36, .int (nI a)] (cs_w C ++ ms_w S) (some (.int (bI (mu_c S n a)))) (cs_w C ++ ms_w S) 0 0 := by
  refine am_ct.of rfl (Nat.le_of_ble_eq_true rfl) ?_
  refine aw_iload_n d_Mo_isNumberAt_0 rfl ?_
  refine aw_iconst (v := nI 2) d_Mo_isNumberAt_1 (by decide) ?_
  refine aw_iadd d_Mo_isNumberAt_2 ?_
  try simp only [nI_add]
  refine aw_aload_n d_Mo_isNumberAt_3 rfl ?_
  refine aw_get d_Mo_isNumberAt_4 fl_Mo_191 rfl rfl ?_
  refine aw_eqs (congrArg (fun z => Value.int z :: _) hn) ?_
  refine aw_icmp_ge (tgt := 77) d_Mo_isNumberAt_7 (by decide) (fun h7 => ?_) (fun h7 => ?_)
  · have h7 : ¬ a + 2 < n := fun e => absurd h7 (nI_ge e (by omega))
    refine aw_iconst (v := nI 0) d_Mo_isNumberAt_77 (by decide) ?_
    exact aw_zretE d_Mo_isNumberAt_78 rfl rfl (bI_f (fun c => h7 c.1)).symm rfl rfl rfl
  · have h7 : a + 2 < n := Nat.lt_of_not_le (fun e => h7 (nI_le e (by omega)))
    refine aw_aload_n d_Mo_isNumberAt_10 rfl ?_
    refine aw_get d_Mo_isNumberAt_11 fl_Mo_63 rfl rfl ?_
    refine aw_iload_n d_Mo_isNumberAt_14 rfl ?_
    refine aw_ialdN d_Mo_isNumberAt_15 rfl (by omega) (Nat.le_of_ble_eq_true rfl) ?_
    refine aw_bipush (v := nI 35) d_Mo_isNumberAt_16 (by decide) ?_
    refine aw_icmp_ne (tgt := 77) d_Mo_isNumberAt_18 (by decide) (fun h18 => ?_) (fun h18 => ?_)
    · refine aw_iconst (v := nI 0) d_Mo_isNumberAt_77 (by decide) ?_
      exact aw_zretE d_Mo_isNumberAt_78 rfl rfl (bI_f (fun c => h18 c.2.1)).symm rfl rfl rfl
    · refine aw_aload_n d_Mo_isNumberAt_21 rfl ?_
      refine aw_get d_Mo_isNumberAt_22 fl_Mo_63 rfl rfl ?_
      refine aw_iload_n d_Mo_isNumberAt_25 rfl ?_
      refine aw_iconst (v := nI 1) d_Mo_isNumberAt_26 (by decide) ?_
      refine aw_iadd d_Mo_isNumberAt_27 ?_
      try simp only [nI_add]
      refine aw_ialdN d_Mo_isNumberAt_28 rfl (by omega) (Nat.le_of_ble_eq_true rfl) ?_
      refine aw_bipush (v := nI 48) d_Mo_isNumberAt_29 (by decide) ?_
      refine aw_icmp_lt (tgt := 77) d_Mo_isNumberAt_31 (by decide) (fun h31 => ?_) (fun h31 => ?_)
      · refine aw_iconst (v := nI 0) d_Mo_isNumberAt_77 (by decide) ?_
        exact aw_zretE d_Mo_isNumberAt_78 rfl rfl (bI_f (fun c => c.2.2.1 h31)).symm rfl rfl rfl
      · refine aw_aload_n d_Mo_isNumberAt_34 rfl ?_
        refine aw_get d_Mo_isNumberAt_35 fl_Mo_63 rfl rfl ?_
        refine aw_iload_n d_Mo_isNumberAt_38 rfl ?_
        refine aw_iconst (v := nI 1) d_Mo_isNumberAt_39 (by decide) ?_
        refine aw_iadd d_Mo_isNumberAt_40 ?_
        try simp only [nI_add]
        refine aw_ialdN d_Mo_isNumberAt_41 rfl (by omega) (Nat.le_of_ble_eq_true rfl) ?_
        refine aw_bipush (v := nI 51) d_Mo_isNumberAt_42 (by decide) ?_
        refine aw_icmp_gt (tgt := 77) d_Mo_isNumberAt_44 (by decide) (fun h44 => ?_) (fun h44 => ?_)
        · refine aw_iconst (v := nI 0) d_Mo_isNumberAt_77 (by decide) ?_
          exact aw_zretE d_Mo_isNumberAt_78 rfl rfl (bI_f (fun c => absurd h44 (Int32.not_lt.mpr c.2.2.2.1))).symm rfl rfl rfl
        · refine aw_aload_n d_Mo_isNumberAt_47 rfl ?_
          refine aw_get d_Mo_isNumberAt_48 fl_Mo_63 rfl rfl ?_
          refine aw_iload_n d_Mo_isNumberAt_51 rfl ?_
          refine aw_iconst (v := nI 2) d_Mo_isNumberAt_52 (by decide) ?_
          refine aw_iadd d_Mo_isNumberAt_53 ?_
          try simp only [nI_add]
          refine aw_ialdN d_Mo_isNumberAt_54 rfl (by omega) (Nat.le_of_ble_eq_true rfl) ?_
          refine aw_bipush (v := nI 48) d_Mo_isNumberAt_55 (by decide) ?_
          refine aw_icmp_lt (tgt := 77) d_Mo_isNumberAt_57 (by decide) (fun h57 => ?_) (fun h57 => ?_)
          · refine aw_iconst (v := nI 0) d_Mo_isNumberAt_77 (by decide) ?_
            exact aw_zretE d_Mo_isNumberAt_78 rfl rfl (bI_f (fun c => c.2.2.2.2.1 h57)).symm rfl rfl rfl
          · refine aw_aload_n d_Mo_isNumberAt_60 rfl ?_
            refine aw_get d_Mo_isNumberAt_61 fl_Mo_63 rfl rfl ?_
            refine aw_iload_n d_Mo_isNumberAt_64 rfl ?_
            refine aw_iconst (v := nI 2) d_Mo_isNumberAt_65 (by decide) ?_
            refine aw_iadd d_Mo_isNumberAt_66 ?_
            try simp only [nI_add]
            refine aw_ialdN d_Mo_isNumberAt_67 rfl (by omega) (Nat.le_of_ble_eq_true rfl) ?_
            refine aw_bipush (v := nI 57) d_Mo_isNumberAt_68 (by decide) ?_
            refine aw_icmp_gt (tgt := 77) d_Mo_isNumberAt_70 (by decide) (fun h70 => ?_) (fun h70 => ?_)
            · refine aw_iconst (v := nI 0) d_Mo_isNumberAt_77 (by decide) ?_
              exact aw_zretE d_Mo_isNumberAt_78 rfl rfl (bI_f (fun c => absurd h70 (Int32.not_lt.mpr c.2.2.2.2.2))).symm rfl rfl rfl
            · refine aw_iconst (v := nI 1) d_Mo_isNumberAt_73 (by decide) ?_
              refine aw_goto (tgt := 78) d_Mo_isNumberAt_74 (by decide) ?_
              exact aw_zretE d_Mo_isNumberAt_78 rfl rfl (bI_t ⟨h7, h18, h31, Int32.not_lt.mp h44, h57, Int32.not_lt.mp h70⟩).symm rfl rfl rfl
theorem lp_Mo_len (w : List am_C) (v0 : Int64) : ∀ (f r n : Nat), r < 10 ^ f → r < 2 ^ 63 → AW (am_Mof y_Mo_length) 0 0 0 8 [(3, .long (lN r)), (2, .int (nI n)), (0, .long v0)] [] w 0 0 (am_Z (some (.int (nI (lg_f f r n)))) w 0 0) := by
  intro f
  induction f with
  | zero =>
    intro r n h0 h63
    obtain rfl : r = 0 := by omega
    refine aw_lload_n d_Mo_length_8 rfl ?_
    refine aw_lconst (v := lN 0) d_Mo_length_9 rfl ?_
    refine aw_lc_le (tgt := 26) d_Mo_length_10 d_Mo_length_11 (by decide) (fun h11 => ?_) (fun h11 => absurd ((pk_lLE (by omega) (by omega)).mpr (Nat.le_refl 0)) h11)
    refine aw_iload_n d_Mo_length_26 rfl ?_
    exact aw_iretE d_Mo_length_27 rfl rfl rfl rfl rfl
  | succ f ih =>
    intro r n h0 h63
    refine aw_lload_n d_Mo_length_8 rfl ?_
    refine aw_lconst (v := lN 0) d_Mo_length_9 rfl ?_
    refine aw_lc_le (tgt := 26) d_Mo_length_10 d_Mo_length_11 (by decide) (fun h11 => ?_) (fun h11 => ?_)
    · refine aw_iload_n d_Mo_length_26 rfl ?_
      exact aw_iretE d_Mo_length_27 rfl (by rw [show lg_f (f + 1) r n = n from if_pos (by have := (pk_lLE (by omega) (by omega)).mp h11; omega)]) rfl rfl rfl
    · refine aw_iinc d_Mo_length_14 rfl (nI_1 _) (Nat.le_of_ble_eq_true rfl) ?_
      refine aw_lload_n d_Mo_length_17 rfl ?_
      refine aw_ldc2 (v := lN 10) d_Mo_length_18 kl_Mo_80 ?_
      refine aw_ldiv d_Mo_length_21 (by decide) ?_
      refine aw_lstore_n d_Mo_length_22 (Nat.le_of_ble_eq_true rfl) ?_
      refine aw_goto (tgt := 8) d_Mo_length_23 (by decide) ?_
      have hr : ¬ r = 0 := fun e => h11 ((pk_lLE (by omega) (by omega)).mpr (by omega))
      have hq : lg_f (f + 1) r n = lg_f f (r / 10) (n + 1) := if_neg hr
      rw [hq]
      refine aw_pick (lv' := [(3, .long (lN (r / 10))), (2, .int (nI (n + 1))), (0, .long v0)]) (by rw [← pk_lDiv (a := r) (b := 10) h63 (by omega) (by omega)]; exact ⟨rfl, rfl, rfl, trivial⟩) ?_
      exact ih (r / 10) (n + 1) (by rw [Nat.pow_succ] at h0; omega) (by omega)
theorem c_Mo_length (w : List am_C) (m : Nat) (hm : m < 2 ^ 63) : am_ct y_Mo_length 0 [.long (lN m)] (w) (some (.int (nI (lg_n m)))) (w) 0 0 := by
  refine am_ct.of rfl (Nat.le_of_ble_eq_true rfl) ?_
  refine aw_iconst (v := nI 1) d_Mo_length_0 (by decide) ?_
  refine aw_istore_n d_Mo_length_1 (Nat.le_of_ble_eq_true rfl) ?_
  refine aw_lload_n d_Mo_length_2 rfl ?_
  refine aw_ldc2 (v := lN 10) d_Mo_length_3 kl_Mo_80 ?_
  refine aw_ldiv d_Mo_length_6 (by decide) ?_
  refine aw_lstore_n d_Mo_length_7 (Nat.le_of_ble_eq_true rfl) ?_
  refine aw_pick (lv' := [(3, .long (lN (m / 10))), (2, .int (nI 1)), (0, .long (lN m))]) (by rw [← pk_lDiv (a := m) (b := 10) hm (by omega) (by omega)]; exact ⟨rfl, rfl, rfl, trivial⟩) ?_
  exact lp_Mo_len w (lN m) 19 (m / 10) 1 (by omega) (by omega)
theorem lp_Mo_dig (w : List am_C) (v0 : Int64) (i : Nat) (v : Int32) : ∀ (n : Nat) (x : Int64), i + n < 2 ^ 31 → (dv_f n x - dv_f n x / lN 10 * lN 10).toInt32 = v → AW (am_Mof y_Mo_digit) 1 0 0 10 [(5, .int (nI (i + n))), (3, .long x), (0, .long v0), (2, .int (nI i))] [] w 0 0 (am_Z (some (.int v)) w 0 0) := by
  intro n
  induction n with
  | zero =>
    intro x hi hv
    refine aw_iload d_Mo_digit_10 rfl ?_
    refine aw_iload_n d_Mo_digit_12 rfl ?_
    refine aw_icmp_le (tgt := 28) d_Mo_digit_13 (by decide) (fun h13 => ?_) (fun h13 => absurd (nI_le (Nat.le_refl _) (by omega)) h13)
    refine aw_lload_n d_Mo_digit_28 rfl ?_
    refine aw_ldc2 (v := lN 10) d_Mo_digit_29 kl_Mo_80 ?_
    refine aw_lrem d_Mo_digit_32 (by decide) ?_
    refine aw_l2i d_Mo_digit_33 ?_
    exact aw_iretE d_Mo_digit_34 rfl hv rfl rfl rfl
  | succ n ih =>
    intro x hi hv
    refine aw_iload d_Mo_digit_10 rfl ?_
    refine aw_iload_n d_Mo_digit_12 rfl ?_
    refine aw_icmp_le (tgt := 28) d_Mo_digit_13 (by decide) (fun h13 => absurd h13 (nI_ge (by omega) (by omega))) (fun h13 => ?_)
    refine aw_lload_n d_Mo_digit_16 rfl ?_
    refine aw_ldc2 (v := lN 10) d_Mo_digit_17 kl_Mo_80 ?_
    refine aw_ldiv d_Mo_digit_20 (by decide) ?_
    refine aw_lstore_n d_Mo_digit_21 (Nat.le_of_ble_eq_true rfl) ?_
    refine aw_iinc d_Mo_digit_22 rfl (pk_m1 (i + n)) (Nat.le_of_ble_eq_true rfl) ?_
    refine aw_goto (tgt := 10) d_Mo_digit_25 (by decide) ?_
    exact aw_eql rfl (ih (x / lN 10) (by omega) hv)
theorem c_Mo_digit (w : List am_C) (m i : Nat) (hm : m < 2 ^ 63) (hi : i < lg_n m) : am_ct y_Mo_digit 1 [.long (lN m), .int (nI i)] (w) (some (.int ((dv_f (lg_n m - 1 - i) (lN m) - dv_f (lg_n m - 1 - i) (lN m) / lN 10 * lN 10).toInt32))) (w) 0 0 := by
  refine am_ct.of rfl (Nat.le_of_ble_eq_true rfl) ?_
  refine aw_lload_n d_Mo_digit_0 rfl ?_
  refine aw_lstore_n d_Mo_digit_1 (Nat.le_of_ble_eq_true rfl) ?_
  refine aw_lload_n d_Mo_digit_2 rfl ?_
  refine aw_cS1 d_Mo_digit_3 (c_Mo_length _ m hm) mk_Mo_length is_Mo_length ln_Mo_194 rfl rfl (Nat.le_of_ble_eq_true rfl) (Nat.le_of_ble_eq_true rfl) (Nat.le_of_ble_eq_true rfl) (Nat.le_of_ble_eq_true rfl) ?_
  refine aw_iconst (v := nI 1) d_Mo_digit_6 (by decide) ?_
  refine aw_isub d_Mo_digit_7 ?_
  rw [pk_sub (by omega)]
  refine aw_istore d_Mo_digit_8 (Nat.le_of_ble_eq_true rfl) ?_
  have hle := lg_f_le 19 (m / 10) 1
  refine aw_pick (lv' := [(5, .int (nI (i + (lg_n m - 1 - i)))), (3, .long (lN m)), (0, .long (lN m)), (2, .int (nI i))]) (by rw [show i + (lg_n m - 1 - i) = lg_n m - 1 by omega]; exact ⟨rfl, rfl, rfl, rfl, trivial⟩) ?_
  exact lp_Mo_dig w (lN m) i _ (lg_n m - 1 - i) (lN m) (by unfold lg_n at *; omega) rfl
theorem c_Mo_nothing (C S : cs_S) : am_ct y_Mo_nothing 0 [.ref 36] (cs_w C ++ ms_w S) none (cs_w C ++ ms_w (cs_J (cs_J S 27 (fun _ => lN 0)) 28 (fun _ => lN 1))) 0 0 := by
  refine am_ct.of rfl (Nat.le_of_ble_eq_true rfl) ?_
  refine aw_aload_n d_Mo_nothing_0 rfl ?_
  refine aw_lconst (v := lN 0) d_Mo_nothing_1 rfl ?_
  refine aw_putW d_Mo_nothing_2 fp_Mo_154 rfl (Nat.le_of_ble_eq_true rfl) (fun _ _ => ⟨rfl, rfl⟩) (ms_f36_27 _ _ _) ?_
  refine aw_aload_n d_Mo_nothing_5 rfl ?_
  refine aw_lconst (v := lN 1) d_Mo_nothing_6 rfl ?_
  refine aw_putW d_Mo_nothing_7 fp_Mo_158 rfl (Nat.le_of_ble_eq_true rfl) (fun _ _ => ⟨rfl, rfl⟩) (ms_f36_28 _ _ _) ?_
  exact aw_vretE d_Mo_nothing_10 rfl rfl rfl rfl
