/-! RateChainsModel: swap, layOut, eliminate -/
theorem updL_id (f : Nat → Int64) (k : Nat) : vp_updL f k (f k) = f := by
  funext j; unfold vp_updL; by_cases h : j = k
  · subst h; simp
  · simp [h]
theorem zL_i (x : Int32) : x.toInt64 = zL x.toInt := by
  have h1 := Int32.le_toInt x
  have h2 := Int32.toInt_lt x
  exact Int64.toInt_inj.mp (by rw [Int32.toInt_toInt64, zL_T ⟨by omega, by omega⟩])
theorem lp_Mo_sw (C S : cs_S) (c : Nat) (hc : c < 5) : ∀ (n q : Nat) (g : List (Nat × Value)), q + n = 6 → AW (am_Mof y_Mo_swap) 0 0 0 2 ([(3, .int (nI q)), (0, .ref 36), (1, .int (nI c)), (2, .int (nI c))] ++ g) [] (cs_w C ++ ms_w S) 0 0 (am_Z none (cs_w C ++ ms_w S) 0 0) := by
  intro n
  induction n with
  | zero =>
    intro q g hq
    obtain rfl : q = 6 := by omega
    refine aw_sub (lv' := [(3, .int (nI 6)), (0, .ref 36), (1, .int (nI c)), (2, .int (nI c))]) (by simp) ?_
    refine aw_iload_n d_Mo_swap_2 rfl ?_
    refine aw_iconst (v := nI 5) d_Mo_swap_3 (by decide) ?_
    refine aw_icmp_gt (tgt := 109) d_Mo_swap_4 (by decide) (fun h4 => ?_) (fun h4 => absurd (nI_lt (a := 5) (b := 6) (by omega) (by omega)) h4)
    exact aw_vretE d_Mo_swap_109 rfl rfl rfl rfl
  | succ n ih =>
    intro q g hq
    refine aw_sub (lv' := [(3, .int (nI q)), (0, .ref 36), (1, .int (nI c)), (2, .int (nI c))]) (by simp) ?_
    refine aw_iload_n d_Mo_swap_2 rfl ?_
    refine aw_iconst (v := nI 5) d_Mo_swap_3 (by decide) ?_
    refine aw_icmp_gt (tgt := 109) d_Mo_swap_4 (by decide) (fun h4 => absurd h4 (nI_nlt (a := 5) (b := q) (by omega) (by omega))) (fun h4 => ?_)
    refine aw_aload_n d_Mo_swap_7 rfl ?_
    refine aw_get d_Mo_swap_8 fl_Mo_66 rfl rfl ?_
    refine aw_bipush (v := nI 6) d_Mo_swap_11 (by decide) ?_
    refine aw_iload_n d_Mo_swap_13 rfl ?_
    refine aw_imul d_Mo_swap_14 ?_
    try simp only [pk_mul, nI_add]
    refine aw_iload_n d_Mo_swap_15 rfl ?_
    refine aw_iadd d_Mo_swap_16 ?_
    try simp only [pk_mul, nI_add]
    refine aw_laldN d_Mo_swap_17 rfl (by omega) (Nat.le_of_ble_eq_true rfl) ?_
    refine aw_lstore d_Mo_swap_18 (Nat.le_of_ble_eq_true rfl) ?_
    refine aw_aload_n d_Mo_swap_20 rfl ?_
    refine aw_get d_Mo_swap_21 fl_Mo_69 rfl rfl ?_
    refine aw_bipush (v := nI 6) d_Mo_swap_24 (by decide) ?_
    refine aw_iload_n d_Mo_swap_26 rfl ?_
    refine aw_imul d_Mo_swap_27 ?_
    try simp only [pk_mul, nI_add]
    refine aw_iload_n d_Mo_swap_28 rfl ?_
    refine aw_iadd d_Mo_swap_29 ?_
    try simp only [pk_mul, nI_add]
    refine aw_laldN d_Mo_swap_30 rfl (by omega) (Nat.le_of_ble_eq_true rfl) ?_
    refine aw_lstore d_Mo_swap_31 (Nat.le_of_ble_eq_true rfl) ?_
    refine aw_aload_n d_Mo_swap_33 rfl ?_
    refine aw_get d_Mo_swap_34 fl_Mo_66 rfl rfl ?_
    refine aw_bipush (v := nI 6) d_Mo_swap_37 (by decide) ?_
    refine aw_iload_n d_Mo_swap_39 rfl ?_
    refine aw_imul d_Mo_swap_40 ?_
    try simp only [pk_mul, nI_add]
    refine aw_iload_n d_Mo_swap_41 rfl ?_
    refine aw_iadd d_Mo_swap_42 ?_
    try simp only [pk_mul, nI_add]
    refine aw_aload_n d_Mo_swap_43 rfl ?_
    refine aw_get d_Mo_swap_44 fl_Mo_66 rfl rfl ?_
    refine aw_bipush (v := nI 6) d_Mo_swap_47 (by decide) ?_
    refine aw_iload_n d_Mo_swap_49 rfl ?_
    refine aw_imul d_Mo_swap_50 ?_
    try simp only [pk_mul, nI_add]
    refine aw_iload_n d_Mo_swap_51 rfl ?_
    refine aw_iadd d_Mo_swap_52 ?_
    try simp only [pk_mul, nI_add]
    refine aw_laldN d_Mo_swap_53 rfl (by omega) (Nat.le_of_ble_eq_true rfl) ?_
    refine aw_lastN d_Mo_swap_54 rfl (by omega) (Nat.le_of_ble_eq_true rfl) (show _ = cs_w C ++ ms_w S from (ms_s55 _ _ _).trans (by rw [updL_id, cs_Jid])) ?_
    refine aw_aload_n d_Mo_swap_55 rfl ?_
    refine aw_get d_Mo_swap_56 fl_Mo_69 rfl rfl ?_
    refine aw_bipush (v := nI 6) d_Mo_swap_59 (by decide) ?_
    refine aw_iload_n d_Mo_swap_61 rfl ?_
    refine aw_imul d_Mo_swap_62 ?_
    try simp only [pk_mul, nI_add]
    refine aw_iload_n d_Mo_swap_63 rfl ?_
    refine aw_iadd d_Mo_swap_64 ?_
    try simp only [pk_mul, nI_add]
    refine aw_aload_n d_Mo_swap_65 rfl ?_
    refine aw_get d_Mo_swap_66 fl_Mo_69 rfl rfl ?_
    refine aw_bipush (v := nI 6) d_Mo_swap_69 (by decide) ?_
    refine aw_iload_n d_Mo_swap_71 rfl ?_
    refine aw_imul d_Mo_swap_72 ?_
    try simp only [pk_mul, nI_add]
    refine aw_iload_n d_Mo_swap_73 rfl ?_
    refine aw_iadd d_Mo_swap_74 ?_
    try simp only [pk_mul, nI_add]
    refine aw_laldN d_Mo_swap_75 rfl (by omega) (Nat.le_of_ble_eq_true rfl) ?_
    refine aw_lastN d_Mo_swap_76 rfl (by omega) (Nat.le_of_ble_eq_true rfl) (show _ = cs_w C ++ ms_w S from (ms_s56 _ _ _).trans (by rw [updL_id, cs_Jid])) ?_
    refine aw_aload_n d_Mo_swap_77 rfl ?_
    refine aw_get d_Mo_swap_78 fl_Mo_66 rfl rfl ?_
    refine aw_bipush (v := nI 6) d_Mo_swap_81 (by decide) ?_
    refine aw_iload_n d_Mo_swap_83 rfl ?_
    refine aw_imul d_Mo_swap_84 ?_
    try simp only [pk_mul, nI_add]
    refine aw_iload_n d_Mo_swap_85 rfl ?_
    refine aw_iadd d_Mo_swap_86 ?_
    try simp only [pk_mul, nI_add]
    refine aw_lload d_Mo_swap_87 rfl ?_
    refine aw_lastN d_Mo_swap_89 rfl (by omega) (Nat.le_of_ble_eq_true rfl) (show _ = cs_w C ++ ms_w S from (ms_s55 _ _ _).trans (by rw [updL_id, cs_Jid])) ?_
    refine aw_aload_n d_Mo_swap_90 rfl ?_
    refine aw_get d_Mo_swap_91 fl_Mo_69 rfl rfl ?_
    refine aw_bipush (v := nI 6) d_Mo_swap_94 (by decide) ?_
    refine aw_iload_n d_Mo_swap_96 rfl ?_
    refine aw_imul d_Mo_swap_97 ?_
    try simp only [pk_mul, nI_add]
    refine aw_iload_n d_Mo_swap_98 rfl ?_
    refine aw_iadd d_Mo_swap_99 ?_
    try simp only [pk_mul, nI_add]
    refine aw_lload d_Mo_swap_100 rfl ?_
    refine aw_lastN d_Mo_swap_102 rfl (by omega) (Nat.le_of_ble_eq_true rfl) (show _ = cs_w C ++ ms_w S from (ms_s56 _ _ _).trans (by rw [updL_id, cs_Jid])) ?_
    refine aw_iinc d_Mo_swap_103 rfl (nI_1 _) (Nat.le_of_ble_eq_true rfl) ?_
    refine aw_goto (tgt := 2) d_Mo_swap_106 (by decide) ?_
    refine aw_pick (lv' := [(3, .int (nI (q + 1))), (0, .ref 36), (1, .int (nI c)), (2, .int (nI c))]) ⟨rfl, rfl, rfl, rfl, trivial⟩ ?_
    exact ih (q + 1) [] (by omega)
theorem c_Mo_swap (C S : cs_S) (c : Nat) (hc : c < 5) : am_ct y_Mo_swap 0 [.ref 36, .int (nI c), .int (nI c)] (cs_w C ++ ms_w S) none (cs_w C ++ ms_w S) 0 0 := by
  refine am_ct.of rfl (Nat.le_of_ble_eq_true rfl) ?_
  refine aw_iconst (v := nI 0) d_Mo_swap_0 (by decide) ?_
  refine aw_istore_n d_Mo_swap_1 (Nat.le_of_ble_eq_true rfl) ?_
  refine aw_pick (lv' := [(3, .int (nI 0)), (0, .ref 36), (1, .int (nI c)), (2, .int (nI c))]) ⟨rfl, rfl, rfl, rfl, trivial⟩ ?_
  exact lp_Mo_sw C S c hc 6 0 [] rfl
abbrev lo_g (S : cs_S) (k p : Nat) : Prop := S.1 38 (4 * p + k) = 0 ∧ 0 < sd_f (S.1 37) p 5
def lo_a (S : cs_S) (k p q : Nat) : Int := (if q = p then 10 else 0) - (if lo_g S k p then (S.1 37 (5 * p + q)).toInt else 0)
theorem lo_aR (S : cs_S) (k p q : Nat) : zR (lo_a S k p q) := by
  have h1 := Int32.le_toInt (S.1 37 (5 * p + q))
  have h2 := Int32.toInt_lt (S.1 37 (5 * p + q))
  unfold lo_a zR
  split <;> split <;> omega
def lo_b (S : cs_S) (p : Nat) : Int := (nI 10 - S.1 40 p).toInt
theorem lo_bR (S : cs_S) (p : Nat) : zR (lo_b S p) := by
  have h1 := Int32.le_toInt (nI 10 - S.1 40 p)
  have h2 := Int32.toInt_lt (nI 10 - S.1 40 p)
  unfold lo_b zR
  omega
def ly_0 (X : Nat → Int × Int) (p : Nat) : Nat → (Nat → Int × Int)
  | 0 => X
  | q + 1 => mu (ly_0 X p q) (6 * p + q) (rd 0 1)
def ly_1 (S : cs_S) (k : Nat) (X : Nat → Int × Int) (p : Nat) : Nat → (Nat → Int × Int)
  | 0 => X
  | q + 1 => mu (ly_1 S k X p q) (6 * p + q) (rd (lo_a S k p q) 10)
def ly_2 (S : cs_S) (k : Nat) (X : Nat → Int × Int) (p : Nat) : Nat → Int × Int :=
  if S.1 38 (4 * p + k) ≠ 0 then mu X (6 * p + 5) (rd 1 1) else if ¬ lo_g S k p ∧ S.1 39 p ≠ 0 then mu X (6 * p + 5) (rd (lo_b S p) 10) else X
def ly_f (S : cs_S) (k np : Nat) (X : Nat → Int × Int) : Nat → (Nat → Int × Int)
  | 0 => X
  | p + 1 => ly_2 S k (ly_1 S k (ly_0 (ly_f S k np X p) p 6) p np) p
theorem lp_Mo_ly0 (C S : cs_S) (X : Nat → Int × Int) (k p : Nat) (hp : p < 5) (Z : am_E) (K : AW (am_Mof y_Mo_layOut) 2 0 0 35 [(2, .int (nI p)), (0, .ref 36), (1, .int (nI k))] [] (cs_w C ++ ms_w (mX S (ly_0 X p 6))) 0 0 Z) : ∀ (n q : Nat), q + n = 6 → AW (am_Mof y_Mo_layOut) 2 0 0 12 [(3, .int (nI q)), (2, .int (nI p)), (0, .ref 36), (1, .int (nI k))] [] (cs_w C ++ ms_w (mX S (ly_0 X p q))) 0 0 Z := by
  intro n
  induction n with
  | zero =>
    intro q hq
    obtain rfl : q = 6 := by omega
    refine aw_iload_n d_Mo_layOut_12 rfl ?_
    refine aw_iconst (v := nI 5) d_Mo_layOut_13 (by decide) ?_
    refine aw_icmp_gt (tgt := 35) d_Mo_layOut_14 (by decide) (fun h14 => ?_) (fun h14 => absurd (nI_lt (a := 5) (b := 6) (by omega) (by omega)) h14)
    exact aw_pick (lv' := [(2, .int (nI p)), (0, .ref 36), (1, .int (nI k))]) ⟨rfl, rfl, rfl, trivial⟩ K
  | succ n ih =>
    intro q hq
    refine aw_iload_n d_Mo_layOut_12 rfl ?_
    refine aw_iconst (v := nI 5) d_Mo_layOut_13 (by decide) ?_
    refine aw_icmp_gt (tgt := 35) d_Mo_layOut_14 (by decide) (fun h14 => absurd h14 (nI_nlt (a := 5) (b := q) (by omega) (by omega))) (fun h14 => ?_)
    refine aw_aload_n d_Mo_layOut_17 rfl ?_
    refine aw_bipush (v := nI 6) d_Mo_layOut_18 (by decide) ?_
    refine aw_iload_n d_Mo_layOut_20 rfl ?_
    refine aw_imul d_Mo_layOut_21 ?_
    try simp only [pk_mul, nI_add]
    refine aw_iload_n d_Mo_layOut_22 rfl ?_
    refine aw_iadd d_Mo_layOut_23 ?_
    try simp only [pk_mul, nI_add]
    refine aw_lconst (v := lN 0) d_Mo_layOut_24 rfl ?_
    refine aw_lconst (v := lN 1) d_Mo_layOut_25 rfl ?_
    refine aw_cV0 d_Mo_layOut_26 (c_Mo_put C S (ly_0 X p q) (6 * p + q) (by omega) 0 1 zR_0 (by omega) (by omega)) mk_Mo_put is_Mo_put ln_Mo_118 rfl rfl rfl rfl (Nat.le_of_ble_eq_true rfl) (Nat.le_of_ble_eq_true rfl) (Nat.le_of_ble_eq_true rfl) (Nat.le_of_ble_eq_true rfl) ?_
    refine aw_iinc d_Mo_layOut_29 rfl (nI_1 _) (Nat.le_of_ble_eq_true rfl) ?_
    refine aw_goto (tgt := 12) d_Mo_layOut_32 (by decide) ?_
    exact aw_eql rfl (ih (q + 1) (by omega))
theorem lp_Mo_ly1 (C S : cs_S) (X : Nat → Int × Int) (np : Nat) (hn : S.2.2 0 = nI np) (h5 : np ≤ 5) (k p : Nat) (hk : k < 4) (hp : p < 5) (Z : am_E) (K : AW (am_Mof y_Mo_layOut) 2 0 0 128 [(3, .int (bI (lo_g S k p))), (2, .int (nI p)), (0, .ref 36), (1, .int (nI k))] [] (cs_w C ++ ms_w (mX S (ly_1 S k X p np))) 0 0 Z) : ∀ (n q : Nat), q + n = np → AW (am_Mof y_Mo_layOut) 2 0 0 65 [(4, .int (nI q)), (3, .int (bI (lo_g S k p))), (2, .int (nI p)), (0, .ref 36), (1, .int (nI k))] [] (cs_w C ++ ms_w (mX S (ly_1 S k X p q))) 0 0 Z := by
  intro n
  induction n with
  | zero =>
    intro q hq
    obtain rfl : np = q := by omega
    refine aw_iload d_Mo_layOut_65 rfl ?_
    refine aw_aload_n d_Mo_layOut_67 rfl ?_
    refine aw_get d_Mo_layOut_68 fl_Mo_72 rfl rfl ?_
    refine aw_eqs (congrArg (fun z => Value.int z :: _) hn) ?_
    refine aw_icmp_ge (tgt := 128) d_Mo_layOut_71 (by decide) (fun h71 => ?_) (fun h71 => absurd (nI_le (Nat.le_refl _) (by omega)) h71)
    exact aw_pick (lv' := [(3, .int (bI (lo_g S k p))), (2, .int (nI p)), (0, .ref 36), (1, .int (nI k))]) ⟨rfl, rfl, rfl, rfl, trivial⟩ K
  | succ n ih =>
    intro q hq
    refine aw_iload d_Mo_layOut_65 rfl ?_
    refine aw_aload_n d_Mo_layOut_67 rfl ?_
    refine aw_get d_Mo_layOut_68 fl_Mo_72 rfl rfl ?_
    refine aw_eqs (congrArg (fun z => Value.int z :: _) hn) ?_
    refine aw_icmp_ge (tgt := 128) d_Mo_layOut_71 (by decide) (fun h71 => absurd h71 (nI_ge (by omega) (by omega))) (fun h71 => ?_)
    refine aw_aload_n d_Mo_layOut_74 rfl ?_
    refine aw_bipush (v := nI 6) d_Mo_layOut_75 (by decide) ?_
    refine aw_iload_n d_Mo_layOut_77 rfl ?_
    refine aw_imul d_Mo_layOut_78 ?_
    try simp only [pk_mul, nI_add]
    refine aw_iload d_Mo_layOut_79 rfl ?_
    refine aw_iadd d_Mo_layOut_81 ?_
    try simp only [pk_mul, nI_add]
    refine aw_iload d_Mo_layOut_82 rfl ?_
    refine aw_iload_n d_Mo_layOut_84 rfl ?_
    refine aw_icmp_ne (tgt := 94) d_Mo_layOut_85 (by decide) (fun h85 => ?_) (fun h85 => ?_)
    · have h85 : ¬ q = p := fun e => h85 (by rw [e])
      refine aw_lconst (v := lN 0) d_Mo_layOut_94 rfl ?_
      refine aw_iload_n d_Mo_layOut_95 rfl ?_
      refine aw_if_eq (tgt := 113) d_Mo_layOut_96 (by decide) (fun h96 => ?_) (fun h96 => ?_)
      · refine aw_iconst (v := nI 0) d_Mo_layOut_113 (by decide) ?_
        refine aw_i2l d_Mo_layOut_114 ?_
        refine aw_lsub d_Mo_layOut_115 ?_
        refine aw_eqs (st' := [.long (zL (lo_a S k p q)), .int (nI (6 * p + q)), .ref 36]) (by unfold lo_a; rw [if_neg h85, if_neg ((bI_0 _).mp h96), ← zL_sub]; rfl) ?_
        refine aw_ldc2 (v := lN 10) d_Mo_layOut_116 kl_Mo_80 ?_
        refine aw_cV0 d_Mo_layOut_119 (c_Mo_put C S (ly_1 S k X p q) (6 * p + q) (by omega) (lo_a S k p q) 10 (lo_aR S k p q) (by omega) (by omega)) mk_Mo_put is_Mo_put ln_Mo_118 rfl rfl rfl rfl (Nat.le_of_ble_eq_true rfl) (Nat.le_of_ble_eq_true rfl) (Nat.le_of_ble_eq_true rfl) (Nat.le_of_ble_eq_true rfl) ?_
        refine aw_iinc d_Mo_layOut_122 rfl (nI_1 _) (Nat.le_of_ble_eq_true rfl) ?_
        refine aw_goto (tgt := 65) d_Mo_layOut_125 (by decide) ?_
        exact aw_eql rfl (ih (q + 1) (by omega))
      · refine aw_aload_n d_Mo_layOut_99 rfl ?_
        refine aw_get d_Mo_layOut_100 fl_Mo_7 rfl rfl ?_
        refine aw_iconst (v := nI 5) d_Mo_layOut_103 (by decide) ?_
        refine aw_iload_n d_Mo_layOut_104 rfl ?_
        refine aw_imul d_Mo_layOut_105 ?_
        try simp only [pk_mul, nI_add]
        refine aw_iload d_Mo_layOut_106 rfl ?_
        refine aw_iadd d_Mo_layOut_108 ?_
        try simp only [pk_mul, nI_add]
        refine aw_ialdN d_Mo_layOut_109 rfl (by omega) (Nat.le_of_ble_eq_true rfl) ?_
        refine aw_goto (tgt := 114) d_Mo_layOut_110 (by decide) ?_
        refine aw_i2l d_Mo_layOut_114 ?_
        refine aw_lsub d_Mo_layOut_115 ?_
        refine aw_eqs (st' := [.long (zL (lo_a S k p q)), .int (nI (6 * p + q)), .ref 36]) (by unfold lo_a; rw [if_neg h85, if_pos (bI_n h96), ← zL_sub, ← zL_i]; rfl) ?_
        refine aw_ldc2 (v := lN 10) d_Mo_layOut_116 kl_Mo_80 ?_
        refine aw_cV0 d_Mo_layOut_119 (c_Mo_put C S (ly_1 S k X p q) (6 * p + q) (by omega) (lo_a S k p q) 10 (lo_aR S k p q) (by omega) (by omega)) mk_Mo_put is_Mo_put ln_Mo_118 rfl rfl rfl rfl (Nat.le_of_ble_eq_true rfl) (Nat.le_of_ble_eq_true rfl) (Nat.le_of_ble_eq_true rfl) (Nat.le_of_ble_eq_true rfl) ?_
        refine aw_iinc d_Mo_layOut_122 rfl (nI_1 _) (Nat.le_of_ble_eq_true rfl) ?_
        refine aw_goto (tgt := 65) d_Mo_layOut_125 (by decide) ?_
        exact aw_eql rfl (ih (q + 1) (by omega))
    · have h85 : q = p := (nI_eq (by omega) (by omega)).mp h85
      refine aw_ldc2 (v := lN 10) d_Mo_layOut_88 kl_Mo_80 ?_
      refine aw_goto (tgt := 95) d_Mo_layOut_91 (by decide) ?_
      refine aw_iload_n d_Mo_layOut_95 rfl ?_
      refine aw_if_eq (tgt := 113) d_Mo_layOut_96 (by decide) (fun h96 => ?_) (fun h96 => ?_)
      · refine aw_iconst (v := nI 0) d_Mo_layOut_113 (by decide) ?_
        refine aw_i2l d_Mo_layOut_114 ?_
        refine aw_lsub d_Mo_layOut_115 ?_
        refine aw_eqs (st' := [.long (zL (lo_a S k p q)), .int (nI (6 * p + q)), .ref 36]) (by unfold lo_a; rw [if_pos h85, if_neg ((bI_0 _).mp h96), ← zL_sub]; rfl) ?_
        refine aw_ldc2 (v := lN 10) d_Mo_layOut_116 kl_Mo_80 ?_
        refine aw_cV0 d_Mo_layOut_119 (c_Mo_put C S (ly_1 S k X p q) (6 * p + q) (by omega) (lo_a S k p q) 10 (lo_aR S k p q) (by omega) (by omega)) mk_Mo_put is_Mo_put ln_Mo_118 rfl rfl rfl rfl (Nat.le_of_ble_eq_true rfl) (Nat.le_of_ble_eq_true rfl) (Nat.le_of_ble_eq_true rfl) (Nat.le_of_ble_eq_true rfl) ?_
        refine aw_iinc d_Mo_layOut_122 rfl (nI_1 _) (Nat.le_of_ble_eq_true rfl) ?_
        refine aw_goto (tgt := 65) d_Mo_layOut_125 (by decide) ?_
        exact aw_eql rfl (ih (q + 1) (by omega))
      · refine aw_aload_n d_Mo_layOut_99 rfl ?_
        refine aw_get d_Mo_layOut_100 fl_Mo_7 rfl rfl ?_
        refine aw_iconst (v := nI 5) d_Mo_layOut_103 (by decide) ?_
        refine aw_iload_n d_Mo_layOut_104 rfl ?_
        refine aw_imul d_Mo_layOut_105 ?_
        try simp only [pk_mul, nI_add]
        refine aw_iload d_Mo_layOut_106 rfl ?_
        refine aw_iadd d_Mo_layOut_108 ?_
        try simp only [pk_mul, nI_add]
        refine aw_ialdN d_Mo_layOut_109 rfl (by omega) (Nat.le_of_ble_eq_true rfl) ?_
        refine aw_goto (tgt := 114) d_Mo_layOut_110 (by decide) ?_
        refine aw_i2l d_Mo_layOut_114 ?_
        refine aw_lsub d_Mo_layOut_115 ?_
        refine aw_eqs (st' := [.long (zL (lo_a S k p q)), .int (nI (6 * p + q)), .ref 36]) (by unfold lo_a; rw [if_pos h85, if_pos (bI_n h96), ← zL_sub, ← zL_i]; rfl) ?_
        refine aw_ldc2 (v := lN 10) d_Mo_layOut_116 kl_Mo_80 ?_
        refine aw_cV0 d_Mo_layOut_119 (c_Mo_put C S (ly_1 S k X p q) (6 * p + q) (by omega) (lo_a S k p q) 10 (lo_aR S k p q) (by omega) (by omega)) mk_Mo_put is_Mo_put ln_Mo_118 rfl rfl rfl rfl (Nat.le_of_ble_eq_true rfl) (Nat.le_of_ble_eq_true rfl) (Nat.le_of_ble_eq_true rfl) (Nat.le_of_ble_eq_true rfl) ?_
        refine aw_iinc d_Mo_layOut_122 rfl (nI_1 _) (Nat.le_of_ble_eq_true rfl) ?_
        refine aw_goto (tgt := 65) d_Mo_layOut_125 (by decide) ?_
        exact aw_eql rfl (ih (q + 1) (by omega))
theorem lp_Mo_ly (C S : cs_S) (X : Nat → Int × Int) (np : Nat) (hn : S.2.2 0 = nI np) (h5 : np ≤ 5) (k : Nat) (hk : k < 4) : ∀ (n p : Nat) (g : List (Nat × Value)), p + n = np → AW (am_Mof y_Mo_layOut) 2 0 0 2 ([(2, .int (nI p)), (0, .ref 36), (1, .int (nI k))] ++ g) [] (cs_w C ++ ms_w (mX S (ly_f S k np X p))) 0 0 (am_Z none (cs_w C ++ ms_w (mX S (ly_f S k np X np))) 0 0) := by
  intro n
  induction n with
  | zero =>
    intro p g hp
    obtain rfl : np = p := by omega
    refine aw_sub (lv' := [(2, .int (nI np)), (0, .ref 36), (1, .int (nI k))]) (by simp) ?_
    refine aw_iload_n d_Mo_layOut_2 rfl ?_
    refine aw_aload_n d_Mo_layOut_3 rfl ?_
    refine aw_get d_Mo_layOut_4 fl_Mo_72 rfl rfl ?_
    refine aw_eqs (congrArg (fun z => Value.int z :: _) hn) ?_
    refine aw_icmp_ge (tgt := 198) d_Mo_layOut_7 (by decide) (fun h7 => ?_) (fun h7 => absurd (nI_le (Nat.le_refl _) (by omega)) h7)
    exact aw_vretE d_Mo_layOut_198 rfl rfl rfl rfl
  | succ n ih =>
    intro p g hp
    refine aw_sub (lv' := [(2, .int (nI p)), (0, .ref 36), (1, .int (nI k))]) (by simp) ?_
    refine aw_iload_n d_Mo_layOut_2 rfl ?_
    refine aw_aload_n d_Mo_layOut_3 rfl ?_
    refine aw_get d_Mo_layOut_4 fl_Mo_72 rfl rfl ?_
    refine aw_eqs (congrArg (fun z => Value.int z :: _) hn) ?_
    refine aw_icmp_ge (tgt := 198) d_Mo_layOut_7 (by decide) (fun h7 => absurd h7 (nI_ge (by omega) (by omega))) (fun h7 => ?_)
    refine aw_iconst (v := nI 0) d_Mo_layOut_10 (by decide) ?_
    refine aw_istore_n d_Mo_layOut_11 (Nat.le_of_ble_eq_true rfl) ?_
    refine aw_pick (lv' := [(3, .int (nI 0)), (2, .int (nI p)), (0, .ref 36), (1, .int (nI k))]) ⟨rfl, rfl, rfl, rfl, trivial⟩ ?_
    refine lp_Mo_ly0 C S (ly_f S k np X p) k p (by omega) _ ?_ 6 0 rfl
    refine aw_aload_n d_Mo_layOut_35 rfl ?_
    refine aw_get d_Mo_layOut_36 fl_Mo_13 rfl rfl ?_
    refine aw_iconst (v := nI 4) d_Mo_layOut_39 (by decide) ?_
    refine aw_iload_n d_Mo_layOut_40 rfl ?_
    refine aw_imul d_Mo_layOut_41 ?_
    try simp only [pk_mul, nI_add]
    refine aw_iload_n d_Mo_layOut_42 rfl ?_
    refine aw_iadd d_Mo_layOut_43 ?_
    try simp only [pk_mul, nI_add]
    refine aw_zaldN d_Mo_layOut_44 rfl (by omega) (Nat.le_of_ble_eq_true rfl) ?_
    refine aw_if_ne (tgt := 60) d_Mo_layOut_45 (by decide) (fun h45 => ?_) (fun h45 => ?_)
    · have h45 : ¬ S.1 38 (4 * p + k) = 0 := h45
      refine aw_iconst (v := nI 0) d_Mo_layOut_60 (by decide) ?_
      have hg : bI (lo_g S k p) = 0 := bI_f (fun c => h45 c.1)
      refine aw_eqs (st' := [.int (bI (lo_g S k p))]) (by rw [hg]; rfl) ?_
      refine aw_istore_n d_Mo_layOut_61 (Nat.le_of_ble_eq_true rfl) ?_
      refine aw_iconst (v := nI 0) d_Mo_layOut_62 (by decide) ?_
      refine aw_istore d_Mo_layOut_63 (Nat.le_of_ble_eq_true rfl) ?_
      refine aw_pick (lv' := [(4, .int (nI 0)), (3, .int (bI (lo_g S k p))), (2, .int (nI p)), (0, .ref 36), (1, .int (nI k))]) ⟨rfl, rfl, rfl, rfl, rfl, trivial⟩ ?_
      refine lp_Mo_ly1 C S (ly_0 (ly_f S k np X p) p 6) np hn h5 k p hk (by omega) _ ?_ np 0 (by omega)
      refine aw_aload_n d_Mo_layOut_128 rfl ?_
      refine aw_get d_Mo_layOut_129 fl_Mo_13 rfl rfl ?_
      refine aw_iconst (v := nI 4) d_Mo_layOut_132 (by decide) ?_
      refine aw_iload_n d_Mo_layOut_133 rfl ?_
      refine aw_imul d_Mo_layOut_134 ?_
      try simp only [pk_mul, nI_add]
      refine aw_iload_n d_Mo_layOut_135 rfl ?_
      refine aw_iadd d_Mo_layOut_136 ?_
      try simp only [pk_mul, nI_add]
      refine aw_zaldN d_Mo_layOut_137 rfl (by omega) (Nat.le_of_ble_eq_true rfl) ?_
      refine aw_if_eq (tgt := 156) d_Mo_layOut_138 (by decide) (fun h138 => ?_) (fun h138 => ?_)
      · have h138 : S.1 38 (4 * p + k) = 0 := h138
        refine aw_iload_n d_Mo_layOut_156 rfl ?_
        refine aw_if_ne (tgt := 192) d_Mo_layOut_157 (by decide) (fun h157 => ?_) (fun h157 => ?_)
        · refine aw_iinc d_Mo_layOut_192 rfl (nI_1 _) (Nat.le_of_ble_eq_true rfl) ?_
          refine aw_goto (tgt := 2) d_Mo_layOut_195 (by decide) ?_
          have he : ly_f S k np X (p + 1) = _ := (if_neg (fun c => c h138)).trans (if_neg (fun c => c.1 (bI_n h157)))
          refine aw_eqw (w' := cs_w C ++ ms_w (mX S (ly_f S k np X (p + 1)))) (by rw [he]) ?_
          refine aw_pick (lv' := [(2, .int (nI (p + 1))), (0, .ref 36), (1, .int (nI k))]) ⟨rfl, rfl, rfl, trivial⟩ ?_
          exact ih (p + 1) [] (by omega)
        · refine aw_aload_n d_Mo_layOut_160 rfl ?_
          refine aw_get d_Mo_layOut_161 fl_Mo_17 rfl rfl ?_
          refine aw_iload_n d_Mo_layOut_164 rfl ?_
          refine aw_zaldN d_Mo_layOut_165 rfl (by omega) (Nat.le_of_ble_eq_true rfl) ?_
          refine aw_if_eq (tgt := 192) d_Mo_layOut_166 (by decide) (fun h166 => ?_) (fun h166 => ?_)
          · have h166 : S.1 39 p = 0 := h166
            refine aw_iinc d_Mo_layOut_192 rfl (nI_1 _) (Nat.le_of_ble_eq_true rfl) ?_
            refine aw_goto (tgt := 2) d_Mo_layOut_195 (by decide) ?_
            have he : ly_f S k np X (p + 1) = _ := (if_neg (fun c => c h138)).trans (if_neg (fun c => c.2 h166))
            refine aw_eqw (w' := cs_w C ++ ms_w (mX S (ly_f S k np X (p + 1)))) (by rw [he]) ?_
            refine aw_pick (lv' := [(2, .int (nI (p + 1))), (0, .ref 36), (1, .int (nI k))]) ⟨rfl, rfl, rfl, trivial⟩ ?_
            exact ih (p + 1) [] (by omega)
          · have h166 : ¬ S.1 39 p = 0 := h166
            refine aw_aload_n d_Mo_layOut_169 rfl ?_
            refine aw_bipush (v := nI 6) d_Mo_layOut_170 (by decide) ?_
            refine aw_iload_n d_Mo_layOut_172 rfl ?_
            refine aw_imul d_Mo_layOut_173 ?_
            try simp only [pk_mul, nI_add]
            refine aw_iconst (v := nI 5) d_Mo_layOut_174 (by decide) ?_
            refine aw_iadd d_Mo_layOut_175 ?_
            try simp only [pk_mul, nI_add]
            refine aw_bipush (v := nI 10) d_Mo_layOut_176 (by decide) ?_
            refine aw_aload_n d_Mo_layOut_178 rfl ?_
            refine aw_get d_Mo_layOut_179 fl_Mo_20 rfl rfl ?_
            refine aw_iload_n d_Mo_layOut_182 rfl ?_
            refine aw_ialdN d_Mo_layOut_183 rfl (by omega) (Nat.le_of_ble_eq_true rfl) ?_
            refine aw_isub d_Mo_layOut_184 ?_
            refine aw_i2l d_Mo_layOut_185 ?_
            refine aw_eqs (st' := [.long (zL (lo_b S p)), .int (nI (6 * p + 5)), .ref 36]) (by unfold lo_b; rw [← zL_i]; rfl) ?_
            refine aw_ldc2 (v := lN 10) d_Mo_layOut_186 kl_Mo_80 ?_
            refine aw_cV0 d_Mo_layOut_189 (c_Mo_put C S (ly_1 S k (ly_0 (ly_f S k np X p) p 6) p np) (6 * p + 5) (by omega) (lo_b S p) 10 (lo_bR S p) (by omega) (by omega)) mk_Mo_put is_Mo_put ln_Mo_118 rfl rfl rfl rfl (Nat.le_of_ble_eq_true rfl) (Nat.le_of_ble_eq_true rfl) (Nat.le_of_ble_eq_true rfl) (Nat.le_of_ble_eq_true rfl) ?_
            refine aw_iinc d_Mo_layOut_192 rfl (nI_1 _) (Nat.le_of_ble_eq_true rfl) ?_
            refine aw_goto (tgt := 2) d_Mo_layOut_195 (by decide) ?_
            have he : ly_f S k np X (p + 1) = _ := (if_neg (fun c => c h138)).trans (if_pos ⟨(bI_0 _).mp h157, h166⟩)
            refine aw_eqw (w' := cs_w C ++ ms_w (mX S (ly_f S k np X (p + 1)))) (by rw [he]) ?_
            refine aw_pick (lv' := [(2, .int (nI (p + 1))), (0, .ref 36), (1, .int (nI k))]) ⟨rfl, rfl, rfl, trivial⟩ ?_
            exact ih (p + 1) [] (by omega)
      · have h138 : ¬ S.1 38 (4 * p + k) = 0 := h138
        refine aw_aload_n d_Mo_layOut_141 rfl ?_
        refine aw_bipush (v := nI 6) d_Mo_layOut_142 (by decide) ?_
        refine aw_iload_n d_Mo_layOut_144 rfl ?_
        refine aw_imul d_Mo_layOut_145 ?_
        try simp only [pk_mul, nI_add]
        refine aw_iconst (v := nI 5) d_Mo_layOut_146 (by decide) ?_
        refine aw_iadd d_Mo_layOut_147 ?_
        try simp only [pk_mul, nI_add]
        refine aw_lconst (v := lN 1) d_Mo_layOut_148 rfl ?_
        refine aw_lconst (v := lN 1) d_Mo_layOut_149 rfl ?_
        refine aw_cV0 d_Mo_layOut_150 (c_Mo_put C S (ly_1 S k (ly_0 (ly_f S k np X p) p 6) p np) (6 * p + 5) (by omega) 1 1 ⟨by omega, by omega⟩ (by omega) (by omega)) mk_Mo_put is_Mo_put ln_Mo_118 rfl rfl rfl rfl (Nat.le_of_ble_eq_true rfl) (Nat.le_of_ble_eq_true rfl) (Nat.le_of_ble_eq_true rfl) (Nat.le_of_ble_eq_true rfl) ?_
        refine aw_goto (tgt := 192) d_Mo_layOut_153 (by decide) ?_
        refine aw_iinc d_Mo_layOut_192 rfl (nI_1 _) (Nat.le_of_ble_eq_true rfl) ?_
        refine aw_goto (tgt := 2) d_Mo_layOut_195 (by decide) ?_
        have he : ly_f S k np X (p + 1) = _ := if_pos h138
        refine aw_eqw (w' := cs_w C ++ ms_w (mX S (ly_f S k np X (p + 1)))) (by rw [he]) ?_
        refine aw_pick (lv' := [(2, .int (nI (p + 1))), (0, .ref 36), (1, .int (nI k))]) ⟨rfl, rfl, rfl, trivial⟩ ?_
        exact ih (p + 1) [] (by omega)
    · have h45 : S.1 38 (4 * p + k) = 0 := h45
      refine aw_aload_n d_Mo_layOut_48 rfl ?_
      refine aw_iload_n d_Mo_layOut_49 rfl ?_
      refine aw_cV1 d_Mo_layOut_50 (c_Mo_shared C (mX S (ly_0 (ly_f S k np X p) p 6)) p (by omega)) mk_Mo_shared is_Mo_shared ln_Mo_110 rfl rfl rfl rfl (Nat.le_of_ble_eq_true rfl) (Nat.le_of_ble_eq_true rfl) (Nat.le_of_ble_eq_true rfl) (Nat.le_of_ble_eq_true rfl) ?_
      refine aw_if_le (tgt := 60) d_Mo_layOut_53 (by decide) (fun h53 => ?_) (fun h53 => ?_)
      · have h53 : sd_f (S.1 37) p 5 ≤ 0 := h53
        refine aw_iconst (v := nI 0) d_Mo_layOut_60 (by decide) ?_
        have hg : bI (lo_g S k p) = 0 := bI_f (fun c => absurd c.2 (Int32.not_lt.mpr h53))
        refine aw_eqs (st' := [.int (bI (lo_g S k p))]) (by rw [hg]; rfl) ?_
        refine aw_istore_n d_Mo_layOut_61 (Nat.le_of_ble_eq_true rfl) ?_
        refine aw_iconst (v := nI 0) d_Mo_layOut_62 (by decide) ?_
        refine aw_istore d_Mo_layOut_63 (Nat.le_of_ble_eq_true rfl) ?_
        refine aw_pick (lv' := [(4, .int (nI 0)), (3, .int (bI (lo_g S k p))), (2, .int (nI p)), (0, .ref 36), (1, .int (nI k))]) ⟨rfl, rfl, rfl, rfl, rfl, trivial⟩ ?_
        refine lp_Mo_ly1 C S (ly_0 (ly_f S k np X p) p 6) np hn h5 k p hk (by omega) _ ?_ np 0 (by omega)
        refine aw_aload_n d_Mo_layOut_128 rfl ?_
        refine aw_get d_Mo_layOut_129 fl_Mo_13 rfl rfl ?_
        refine aw_iconst (v := nI 4) d_Mo_layOut_132 (by decide) ?_
        refine aw_iload_n d_Mo_layOut_133 rfl ?_
        refine aw_imul d_Mo_layOut_134 ?_
        try simp only [pk_mul, nI_add]
        refine aw_iload_n d_Mo_layOut_135 rfl ?_
        refine aw_iadd d_Mo_layOut_136 ?_
        try simp only [pk_mul, nI_add]
        refine aw_zaldN d_Mo_layOut_137 rfl (by omega) (Nat.le_of_ble_eq_true rfl) ?_
        refine aw_if_eq (tgt := 156) d_Mo_layOut_138 (by decide) (fun h138 => ?_) (fun h138 => ?_)
        · have h138 : S.1 38 (4 * p + k) = 0 := h138
          refine aw_iload_n d_Mo_layOut_156 rfl ?_
          refine aw_if_ne (tgt := 192) d_Mo_layOut_157 (by decide) (fun h157 => ?_) (fun h157 => ?_)
          · refine aw_iinc d_Mo_layOut_192 rfl (nI_1 _) (Nat.le_of_ble_eq_true rfl) ?_
            refine aw_goto (tgt := 2) d_Mo_layOut_195 (by decide) ?_
            have he : ly_f S k np X (p + 1) = _ := (if_neg (fun c => c h138)).trans (if_neg (fun c => c.1 (bI_n h157)))
            refine aw_eqw (w' := cs_w C ++ ms_w (mX S (ly_f S k np X (p + 1)))) (by rw [he]) ?_
            refine aw_pick (lv' := [(2, .int (nI (p + 1))), (0, .ref 36), (1, .int (nI k))]) ⟨rfl, rfl, rfl, trivial⟩ ?_
            exact ih (p + 1) [] (by omega)
          · refine aw_aload_n d_Mo_layOut_160 rfl ?_
            refine aw_get d_Mo_layOut_161 fl_Mo_17 rfl rfl ?_
            refine aw_iload_n d_Mo_layOut_164 rfl ?_
            refine aw_zaldN d_Mo_layOut_165 rfl (by omega) (Nat.le_of_ble_eq_true rfl) ?_
            refine aw_if_eq (tgt := 192) d_Mo_layOut_166 (by decide) (fun h166 => ?_) (fun h166 => ?_)
            · have h166 : S.1 39 p = 0 := h166
              refine aw_iinc d_Mo_layOut_192 rfl (nI_1 _) (Nat.le_of_ble_eq_true rfl) ?_
              refine aw_goto (tgt := 2) d_Mo_layOut_195 (by decide) ?_
              have he : ly_f S k np X (p + 1) = _ := (if_neg (fun c => c h138)).trans (if_neg (fun c => c.2 h166))
              refine aw_eqw (w' := cs_w C ++ ms_w (mX S (ly_f S k np X (p + 1)))) (by rw [he]) ?_
              refine aw_pick (lv' := [(2, .int (nI (p + 1))), (0, .ref 36), (1, .int (nI k))]) ⟨rfl, rfl, rfl, trivial⟩ ?_
              exact ih (p + 1) [] (by omega)
            · have h166 : ¬ S.1 39 p = 0 := h166
              refine aw_aload_n d_Mo_layOut_169 rfl ?_
              refine aw_bipush (v := nI 6) d_Mo_layOut_170 (by decide) ?_
              refine aw_iload_n d_Mo_layOut_172 rfl ?_
              refine aw_imul d_Mo_layOut_173 ?_
              try simp only [pk_mul, nI_add]
              refine aw_iconst (v := nI 5) d_Mo_layOut_174 (by decide) ?_
              refine aw_iadd d_Mo_layOut_175 ?_
              try simp only [pk_mul, nI_add]
              refine aw_bipush (v := nI 10) d_Mo_layOut_176 (by decide) ?_
              refine aw_aload_n d_Mo_layOut_178 rfl ?_
              refine aw_get d_Mo_layOut_179 fl_Mo_20 rfl rfl ?_
              refine aw_iload_n d_Mo_layOut_182 rfl ?_
              refine aw_ialdN d_Mo_layOut_183 rfl (by omega) (Nat.le_of_ble_eq_true rfl) ?_
              refine aw_isub d_Mo_layOut_184 ?_
              refine aw_i2l d_Mo_layOut_185 ?_
              refine aw_eqs (st' := [.long (zL (lo_b S p)), .int (nI (6 * p + 5)), .ref 36]) (by unfold lo_b; rw [← zL_i]; rfl) ?_
              refine aw_ldc2 (v := lN 10) d_Mo_layOut_186 kl_Mo_80 ?_
              refine aw_cV0 d_Mo_layOut_189 (c_Mo_put C S (ly_1 S k (ly_0 (ly_f S k np X p) p 6) p np) (6 * p + 5) (by omega) (lo_b S p) 10 (lo_bR S p) (by omega) (by omega)) mk_Mo_put is_Mo_put ln_Mo_118 rfl rfl rfl rfl (Nat.le_of_ble_eq_true rfl) (Nat.le_of_ble_eq_true rfl) (Nat.le_of_ble_eq_true rfl) (Nat.le_of_ble_eq_true rfl) ?_
              refine aw_iinc d_Mo_layOut_192 rfl (nI_1 _) (Nat.le_of_ble_eq_true rfl) ?_
              refine aw_goto (tgt := 2) d_Mo_layOut_195 (by decide) ?_
              have he : ly_f S k np X (p + 1) = _ := (if_neg (fun c => c h138)).trans (if_pos ⟨(bI_0 _).mp h157, h166⟩)
              refine aw_eqw (w' := cs_w C ++ ms_w (mX S (ly_f S k np X (p + 1)))) (by rw [he]) ?_
              refine aw_pick (lv' := [(2, .int (nI (p + 1))), (0, .ref 36), (1, .int (nI k))]) ⟨rfl, rfl, rfl, trivial⟩ ?_
              exact ih (p + 1) [] (by omega)
        · have h138 : ¬ S.1 38 (4 * p + k) = 0 := h138
          refine aw_aload_n d_Mo_layOut_141 rfl ?_
          refine aw_bipush (v := nI 6) d_Mo_layOut_142 (by decide) ?_
          refine aw_iload_n d_Mo_layOut_144 rfl ?_
          refine aw_imul d_Mo_layOut_145 ?_
          try simp only [pk_mul, nI_add]
          refine aw_iconst (v := nI 5) d_Mo_layOut_146 (by decide) ?_
          refine aw_iadd d_Mo_layOut_147 ?_
          try simp only [pk_mul, nI_add]
          refine aw_lconst (v := lN 1) d_Mo_layOut_148 rfl ?_
          refine aw_lconst (v := lN 1) d_Mo_layOut_149 rfl ?_
          refine aw_cV0 d_Mo_layOut_150 (c_Mo_put C S (ly_1 S k (ly_0 (ly_f S k np X p) p 6) p np) (6 * p + 5) (by omega) 1 1 ⟨by omega, by omega⟩ (by omega) (by omega)) mk_Mo_put is_Mo_put ln_Mo_118 rfl rfl rfl rfl (Nat.le_of_ble_eq_true rfl) (Nat.le_of_ble_eq_true rfl) (Nat.le_of_ble_eq_true rfl) (Nat.le_of_ble_eq_true rfl) ?_
          refine aw_goto (tgt := 192) d_Mo_layOut_153 (by decide) ?_
          refine aw_iinc d_Mo_layOut_192 rfl (nI_1 _) (Nat.le_of_ble_eq_true rfl) ?_
          refine aw_goto (tgt := 2) d_Mo_layOut_195 (by decide) ?_
          have he : ly_f S k np X (p + 1) = _ := if_pos h138
          refine aw_eqw (w' := cs_w C ++ ms_w (mX S (ly_f S k np X (p + 1)))) (by rw [he]) ?_
          refine aw_pick (lv' := [(2, .int (nI (p + 1))), (0, .ref 36), (1, .int (nI k))]) ⟨rfl, rfl, rfl, trivial⟩ ?_
          exact ih (p + 1) [] (by omega)
      · have h53 : ¬ sd_f (S.1 37) p 5 ≤ 0 := h53
        refine aw_iconst (v := nI 1) d_Mo_layOut_56 (by decide) ?_
        refine aw_goto (tgt := 61) d_Mo_layOut_57 (by decide) ?_
        have hg : bI (lo_g S k p) = 1 := bI_t ⟨h45, Int32.not_le.mp h53⟩
        refine aw_eqs (st' := [.int (bI (lo_g S k p))]) (by rw [hg]; rfl) ?_
        refine aw_istore_n d_Mo_layOut_61 (Nat.le_of_ble_eq_true rfl) ?_
        refine aw_iconst (v := nI 0) d_Mo_layOut_62 (by decide) ?_
        refine aw_istore d_Mo_layOut_63 (Nat.le_of_ble_eq_true rfl) ?_
        refine aw_pick (lv' := [(4, .int (nI 0)), (3, .int (bI (lo_g S k p))), (2, .int (nI p)), (0, .ref 36), (1, .int (nI k))]) ⟨rfl, rfl, rfl, rfl, rfl, trivial⟩ ?_
        refine lp_Mo_ly1 C S (ly_0 (ly_f S k np X p) p 6) np hn h5 k p hk (by omega) _ ?_ np 0 (by omega)
        refine aw_aload_n d_Mo_layOut_128 rfl ?_
        refine aw_get d_Mo_layOut_129 fl_Mo_13 rfl rfl ?_
        refine aw_iconst (v := nI 4) d_Mo_layOut_132 (by decide) ?_
        refine aw_iload_n d_Mo_layOut_133 rfl ?_
        refine aw_imul d_Mo_layOut_134 ?_
        try simp only [pk_mul, nI_add]
        refine aw_iload_n d_Mo_layOut_135 rfl ?_
        refine aw_iadd d_Mo_layOut_136 ?_
        try simp only [pk_mul, nI_add]
        refine aw_zaldN d_Mo_layOut_137 rfl (by omega) (Nat.le_of_ble_eq_true rfl) ?_
        refine aw_if_eq (tgt := 156) d_Mo_layOut_138 (by decide) (fun h138 => ?_) (fun h138 => ?_)
        · have h138 : S.1 38 (4 * p + k) = 0 := h138
          refine aw_iload_n d_Mo_layOut_156 rfl ?_
          refine aw_if_ne (tgt := 192) d_Mo_layOut_157 (by decide) (fun h157 => ?_) (fun h157 => ?_)
          · refine aw_iinc d_Mo_layOut_192 rfl (nI_1 _) (Nat.le_of_ble_eq_true rfl) ?_
            refine aw_goto (tgt := 2) d_Mo_layOut_195 (by decide) ?_
            have he : ly_f S k np X (p + 1) = _ := (if_neg (fun c => c h138)).trans (if_neg (fun c => c.1 (bI_n h157)))
            refine aw_eqw (w' := cs_w C ++ ms_w (mX S (ly_f S k np X (p + 1)))) (by rw [he]) ?_
            refine aw_pick (lv' := [(2, .int (nI (p + 1))), (0, .ref 36), (1, .int (nI k))]) ⟨rfl, rfl, rfl, trivial⟩ ?_
            exact ih (p + 1) [] (by omega)
          · refine aw_aload_n d_Mo_layOut_160 rfl ?_
            refine aw_get d_Mo_layOut_161 fl_Mo_17 rfl rfl ?_
            refine aw_iload_n d_Mo_layOut_164 rfl ?_
            refine aw_zaldN d_Mo_layOut_165 rfl (by omega) (Nat.le_of_ble_eq_true rfl) ?_
            refine aw_if_eq (tgt := 192) d_Mo_layOut_166 (by decide) (fun h166 => ?_) (fun h166 => ?_)
            · have h166 : S.1 39 p = 0 := h166
              refine aw_iinc d_Mo_layOut_192 rfl (nI_1 _) (Nat.le_of_ble_eq_true rfl) ?_
              refine aw_goto (tgt := 2) d_Mo_layOut_195 (by decide) ?_
              have he : ly_f S k np X (p + 1) = _ := (if_neg (fun c => c h138)).trans (if_neg (fun c => c.2 h166))
              refine aw_eqw (w' := cs_w C ++ ms_w (mX S (ly_f S k np X (p + 1)))) (by rw [he]) ?_
              refine aw_pick (lv' := [(2, .int (nI (p + 1))), (0, .ref 36), (1, .int (nI k))]) ⟨rfl, rfl, rfl, trivial⟩ ?_
              exact ih (p + 1) [] (by omega)
            · have h166 : ¬ S.1 39 p = 0 := h166
              refine aw_aload_n d_Mo_layOut_169 rfl ?_
              refine aw_bipush (v := nI 6) d_Mo_layOut_170 (by decide) ?_
              refine aw_iload_n d_Mo_layOut_172 rfl ?_
              refine aw_imul d_Mo_layOut_173 ?_
              try simp only [pk_mul, nI_add]
              refine aw_iconst (v := nI 5) d_Mo_layOut_174 (by decide) ?_
              refine aw_iadd d_Mo_layOut_175 ?_
              try simp only [pk_mul, nI_add]
              refine aw_bipush (v := nI 10) d_Mo_layOut_176 (by decide) ?_
              refine aw_aload_n d_Mo_layOut_178 rfl ?_
              refine aw_get d_Mo_layOut_179 fl_Mo_20 rfl rfl ?_
              refine aw_iload_n d_Mo_layOut_182 rfl ?_
              refine aw_ialdN d_Mo_layOut_183 rfl (by omega) (Nat.le_of_ble_eq_true rfl) ?_
              refine aw_isub d_Mo_layOut_184 ?_
              refine aw_i2l d_Mo_layOut_185 ?_
              refine aw_eqs (st' := [.long (zL (lo_b S p)), .int (nI (6 * p + 5)), .ref 36]) (by unfold lo_b; rw [← zL_i]; rfl) ?_
              refine aw_ldc2 (v := lN 10) d_Mo_layOut_186 kl_Mo_80 ?_
              refine aw_cV0 d_Mo_layOut_189 (c_Mo_put C S (ly_1 S k (ly_0 (ly_f S k np X p) p 6) p np) (6 * p + 5) (by omega) (lo_b S p) 10 (lo_bR S p) (by omega) (by omega)) mk_Mo_put is_Mo_put ln_Mo_118 rfl rfl rfl rfl (Nat.le_of_ble_eq_true rfl) (Nat.le_of_ble_eq_true rfl) (Nat.le_of_ble_eq_true rfl) (Nat.le_of_ble_eq_true rfl) ?_
              refine aw_iinc d_Mo_layOut_192 rfl (nI_1 _) (Nat.le_of_ble_eq_true rfl) ?_
              refine aw_goto (tgt := 2) d_Mo_layOut_195 (by decide) ?_
              have he : ly_f S k np X (p + 1) = _ := (if_neg (fun c => c h138)).trans (if_pos ⟨(bI_0 _).mp h157, h166⟩)
              refine aw_eqw (w' := cs_w C ++ ms_w (mX S (ly_f S k np X (p + 1)))) (by rw [he]) ?_
              refine aw_pick (lv' := [(2, .int (nI (p + 1))), (0, .ref 36), (1, .int (nI k))]) ⟨rfl, rfl, rfl, trivial⟩ ?_
              exact ih (p + 1) [] (by omega)
        · have h138 : ¬ S.1 38 (4 * p + k) = 0 := h138
          refine aw_aload_n d_Mo_layOut_141 rfl ?_
          refine aw_bipush (v := nI 6) d_Mo_layOut_142 (by decide) ?_
          refine aw_iload_n d_Mo_layOut_144 rfl ?_
          refine aw_imul d_Mo_layOut_145 ?_
          try simp only [pk_mul, nI_add]
          refine aw_iconst (v := nI 5) d_Mo_layOut_146 (by decide) ?_
          refine aw_iadd d_Mo_layOut_147 ?_
          try simp only [pk_mul, nI_add]
          refine aw_lconst (v := lN 1) d_Mo_layOut_148 rfl ?_
          refine aw_lconst (v := lN 1) d_Mo_layOut_149 rfl ?_
          refine aw_cV0 d_Mo_layOut_150 (c_Mo_put C S (ly_1 S k (ly_0 (ly_f S k np X p) p 6) p np) (6 * p + 5) (by omega) 1 1 ⟨by omega, by omega⟩ (by omega) (by omega)) mk_Mo_put is_Mo_put ln_Mo_118 rfl rfl rfl rfl (Nat.le_of_ble_eq_true rfl) (Nat.le_of_ble_eq_true rfl) (Nat.le_of_ble_eq_true rfl) (Nat.le_of_ble_eq_true rfl) ?_
          refine aw_goto (tgt := 192) d_Mo_layOut_153 (by decide) ?_
          refine aw_iinc d_Mo_layOut_192 rfl (nI_1 _) (Nat.le_of_ble_eq_true rfl) ?_
          refine aw_goto (tgt := 2) d_Mo_layOut_195 (by decide) ?_
          have he : ly_f S k np X (p + 1) = _ := if_pos h138
          refine aw_eqw (w' := cs_w C ++ ms_w (mX S (ly_f S k np X (p + 1)))) (by rw [he]) ?_
          refine aw_pick (lv' := [(2, .int (nI (p + 1))), (0, .ref 36), (1, .int (nI k))]) ⟨rfl, rfl, rfl, trivial⟩ ?_
          exact ih (p + 1) [] (by omega)
theorem c_Mo_layOut (C S : cs_S) (X : Nat → Int × Int) (np : Nat) (hn : S.2.2 0 = nI np) (h5 : np ≤ 5) (k : Nat) (hk : k < 4) : am_ct y_Mo_layOut 2 [.ref 36, .int (nI k)] (cs_w C ++ ms_w (mX S (X))) none (cs_w C ++ ms_w (mX S (ly_f S k np X np))) 0 0 := by
  refine am_ct.of rfl (Nat.le_of_ble_eq_true rfl) ?_
  refine aw_iconst (v := nI 0) d_Mo_layOut_0 (by decide) ?_
  refine aw_istore_n d_Mo_layOut_1 (Nat.le_of_ble_eq_true rfl) ?_
  refine aw_pick (lv' := [(2, .int (nI 0)), (0, .ref 36), (1, .int (nI k))]) ⟨rfl, rfl, rfl, trivial⟩ ?_
  exact lp_Mo_ly C S X np hn h5 k hk np 0 [] (by omega)
def elA (X : Nat → Int × Int) (c i : Nat) : Int × Int := rd ((X (6 * i + c)).1 * (X (6 * c + c)).2) ((X (6 * i + c)).2 * (X (6 * c + c)).1)
def el_q (X : Nat → Int × Int) (c i : Nat) (a b : Int) : Nat → (Nat → Int × Int)
  | 0 => X
  | q + 1 => mu (el_q X c i a b q) (6 * i + q) (lsF (el_q X c i a b q) (6 * i + q) (6 * c + q) a b)
def el_r (X : Nat → Int × Int) (c i : Nat) : Nat → Int × Int :=
  if i ≠ c ∧ (X (6 * i + c)).1 ≠ 0 then el_q X c i (elA X c i).1 (elA X c i).2 6 else X
def el_i (X : Nat → Int × Int) (c : Nat) : Nat → (Nat → Int × Int)
  | 0 => X
  | i + 1 => el_r (el_i X c i) c i
def el_c (X : Nat → Int × Int) (np : Nat) : Nat → (Nat → Int × Int)
  | 0 => X
  | c + 1 => el_i (el_c X np c) c np
abbrev elO (X : Nat → Int × Int) (c i : Nat) : Prop := i ≠ c → zR (X (6 * i + c)).1 ∧ ((X (6 * i + c)).1 ≠ 0 → zR ((X (6 * i + c)).1 * (X (6 * c + c)).2) ∧ 0 < (X (6 * i + c)).2 * (X (6 * c + c)).1 ∧ (X (6 * i + c)).2 * (X (6 * c + c)).1 < 2 ^ 63 ∧ ∀ q, q < 6 → lsO (el_q X c i (elA X c i).1 (elA X c i).2 q) (6 * i + q) (6 * c + q) (elA X c i).1 (elA X c i).2)
abbrev elP (X : Nat → Int × Int) (c : Nat) : Prop := zR (X (6 * c + c)).1 ∧ (X (6 * c + c)).1 ≠ 0
theorem lp_Mo_elq (C S : cs_S) (X : Nat → Int × Int) (c i : Nat) (hc : c < 5) (hi : i < 5) (a b : Int) (hO : ∀ q, q < 6 → lsO (el_q X c i a b q) (6 * i + q) (6 * c + q) a b) (Z : am_E) (K : AW (am_Mof y_Mo_eliminate) 3 0 0 223 [(3, .int (nI i)), (1, .int (nI c)), (0, .ref 36)] [] (cs_w C ++ ms_w (mX S (el_q X c i a b 6))) 0 0 Z) : ∀ (n q : Nat), q + n = 6 → AW (am_Mof y_Mo_eliminate) 3 0 0 189 [(10, .int (nI q)), (4, .long (zL a)), (6, .long (zL b)), (3, .int (nI i)), (1, .int (nI c)), (0, .ref 36)] [] (cs_w C ++ ms_w (mX S (el_q X c i a b q))) 0 0 Z := by
  intro n
  induction n with
  | zero =>
    intro q hq
    obtain rfl : q = 6 := by omega
    refine aw_iload d_Mo_eliminate_189 rfl ?_
    refine aw_iconst (v := nI 5) d_Mo_eliminate_191 (by decide) ?_
    refine aw_icmp_gt (tgt := 223) d_Mo_eliminate_192 (by decide) (fun h192 => ?_) (fun h192 => absurd (nI_lt (a := 5) (b := 6) (by omega) (by omega)) h192)
    exact aw_pick (lv' := [(3, .int (nI i)), (1, .int (nI c)), (0, .ref 36)]) ⟨rfl, rfl, rfl, trivial⟩ K
  | succ n ih =>
    intro q hq
    refine aw_iload d_Mo_eliminate_189 rfl ?_
    refine aw_iconst (v := nI 5) d_Mo_eliminate_191 (by decide) ?_
    refine aw_icmp_gt (tgt := 223) d_Mo_eliminate_192 (by decide) (fun h192 => absurd h192 (nI_nlt (a := 5) (b := q) (by omega) (by omega))) (fun h192 => ?_)
    refine aw_aload_n d_Mo_eliminate_195 rfl ?_
    refine aw_bipush (v := nI 6) d_Mo_eliminate_196 (by decide) ?_
    refine aw_iload_n d_Mo_eliminate_198 rfl ?_
    refine aw_imul d_Mo_eliminate_199 ?_
    try simp only [pk_mul, nI_add]
    refine aw_iload d_Mo_eliminate_200 rfl ?_
    refine aw_iadd d_Mo_eliminate_202 ?_
    try simp only [pk_mul, nI_add]
    refine aw_lload d_Mo_eliminate_203 rfl ?_
    refine aw_lload d_Mo_eliminate_205 rfl ?_
    refine aw_bipush (v := nI 6) d_Mo_eliminate_207 (by decide) ?_
    refine aw_iload_n d_Mo_eliminate_209 rfl ?_
    refine aw_imul d_Mo_eliminate_210 ?_
    try simp only [pk_mul, nI_add]
    refine aw_iload d_Mo_eliminate_211 rfl ?_
    refine aw_iadd d_Mo_eliminate_213 ?_
    try simp only [pk_mul, nI_add]
    refine aw_cV0 d_Mo_eliminate_214 (c_Mo_lessen C S (el_q X c i a b q) (6 * i + q) (6 * c + q) (by omega) (by omega) a b (hO q (by omega))) mk_Mo_lessen is_Mo_lessen ln_Mo_126 rfl rfl rfl rfl (Nat.le_of_ble_eq_true rfl) (Nat.le_of_ble_eq_true rfl) (Nat.le_of_ble_eq_true rfl) (Nat.le_of_ble_eq_true rfl) ?_
    refine aw_iinc d_Mo_eliminate_217 rfl (nI_1 _) (Nat.le_of_ble_eq_true rfl) ?_
    refine aw_goto (tgt := 189) d_Mo_eliminate_220 (by decide) ?_
    exact aw_eql rfl (ih (q + 1) (by omega))
theorem lp_Mo_eli (C S : cs_S) (X : Nat → Int × Int) (np : Nat) (hn : S.2.2 0 = nI np) (h5 : np ≤ 5) (c : Nat) (hc : c < 5) (hO : ∀ i, i < np → elO (el_i X c i) c i) (Z : am_E) (K : AW (am_Mof y_Mo_eliminate) 3 0 0 229 [(1, .int (nI c)), (0, .ref 36)] [] (cs_w C ++ ms_w (mX S (el_i X c np))) 0 0 Z) : ∀ (n i : Nat) (g : List (Nat × Value)), i + n = np → AW (am_Mof y_Mo_eliminate) 3 0 0 42 ([(3, .int (nI i)), (1, .int (nI c)), (0, .ref 36)] ++ g) [] (cs_w C ++ ms_w (mX S (el_i X c i))) 0 0 Z := by
  intro n
  induction n with
  | zero =>
    intro i g hi
    obtain rfl : np = i := by omega
    refine aw_sub (lv' := [(3, .int (nI np)), (1, .int (nI c)), (0, .ref 36)]) (by simp) ?_
    refine aw_iload_n d_Mo_eliminate_42 rfl ?_
    refine aw_aload_n d_Mo_eliminate_43 rfl ?_
    refine aw_get d_Mo_eliminate_44 fl_Mo_72 rfl rfl ?_
    refine aw_eqs (congrArg (fun z => Value.int z :: _) hn) ?_
    refine aw_icmp_ge (tgt := 229) d_Mo_eliminate_47 (by decide) (fun h47 => ?_) (fun h47 => absurd (nI_le (Nat.le_refl _) (by omega)) h47)
    exact aw_pick (lv' := [(1, .int (nI c)), (0, .ref 36)]) ⟨rfl, rfl, trivial⟩ K
  | succ n ih =>
    intro i g hi
    refine aw_sub (lv' := [(3, .int (nI i)), (1, .int (nI c)), (0, .ref 36)]) (by simp) ?_
    refine aw_iload_n d_Mo_eliminate_42 rfl ?_
    refine aw_aload_n d_Mo_eliminate_43 rfl ?_
    refine aw_get d_Mo_eliminate_44 fl_Mo_72 rfl rfl ?_
    refine aw_eqs (congrArg (fun z => Value.int z :: _) hn) ?_
    refine aw_icmp_ge (tgt := 229) d_Mo_eliminate_47 (by decide) (fun h47 => absurd h47 (nI_ge (by omega) (by omega))) (fun h47 => ?_)
    refine aw_iload_n d_Mo_eliminate_50 rfl ?_
    refine aw_iload_n d_Mo_eliminate_51 rfl ?_
    refine aw_icmp_eq (tgt := 223) d_Mo_eliminate_52 (by decide) (fun h52 => ?_) (fun h52 => ?_)
    · have h52 : i = c := (nI_eq (by omega) (by omega)).mp h52
      refine aw_iinc d_Mo_eliminate_223 rfl (nI_1 _) (Nat.le_of_ble_eq_true rfl) ?_
      refine aw_goto (tgt := 42) d_Mo_eliminate_226 (by decide) ?_
      have he : el_i X c (i + 1) = el_i X c i := if_neg (fun e => e.1 h52)
      refine aw_eqw (w' := cs_w C ++ ms_w (mX S (el_i X c (i + 1)))) (by rw [he]) ?_
      refine aw_pick (lv' := [(3, .int (nI (i + 1))), (1, .int (nI c)), (0, .ref 36)]) ⟨rfl, rfl, rfl, trivial⟩ ?_
      exact ih (i + 1) [] (by omega)
    · have h52 : ¬ i = c := fun e => h52 (by rw [e])
      have hO1 := hO i (by omega) h52
      refine aw_aload_n d_Mo_eliminate_55 rfl ?_
      refine aw_get d_Mo_eliminate_56 fl_Mo_66 rfl rfl ?_
      refine aw_bipush (v := nI 6) d_Mo_eliminate_59 (by decide) ?_
      refine aw_iload_n d_Mo_eliminate_61 rfl ?_
      refine aw_imul d_Mo_eliminate_62 ?_
      try simp only [pk_mul, nI_add]
      refine aw_iload_n d_Mo_eliminate_63 rfl ?_
      refine aw_iadd d_Mo_eliminate_64 ?_
      try simp only [pk_mul, nI_add]
      refine aw_laldN d_Mo_eliminate_65 rfl (by omega) (Nat.le_of_ble_eq_true rfl) ?_
      refine aw_eqs (st' := [.long (zL ((el_i X c i) (6 * i + c)).1)]) rfl ?_
      refine aw_lconst (v := lN 0) d_Mo_eliminate_66 rfl ?_
      refine aw_lc_eq (tgt := 223) d_Mo_eliminate_67 d_Mo_eliminate_68 (by decide) (fun h68 => ?_) (fun h68 => ?_)
      · have h68 : ((el_i X c i) (6 * i + c)).1 = 0 := (zL_eq hO1.1 zR_0).mp h68
        refine aw_iinc d_Mo_eliminate_223 rfl (nI_1 _) (Nat.le_of_ble_eq_true rfl) ?_
        refine aw_goto (tgt := 42) d_Mo_eliminate_226 (by decide) ?_
        have he : el_i X c (i + 1) = el_i X c i := if_neg (fun e => e.2 h68)
        refine aw_eqw (w' := cs_w C ++ ms_w (mX S (el_i X c (i + 1)))) (by rw [he]) ?_
        refine aw_pick (lv' := [(3, .int (nI (i + 1))), (1, .int (nI c)), (0, .ref 36)]) ⟨rfl, rfl, rfl, trivial⟩ ?_
        exact ih (i + 1) [] (by omega)
      · have h68 : ((el_i X c i) (6 * i + c)).1 ≠ 0 := fun e => h68 (by rw [e]; rfl)
        have hO2 := hO1.2 h68
        refine aw_aload_n d_Mo_eliminate_71 rfl ?_
        refine aw_get d_Mo_eliminate_72 fl_Mo_66 rfl rfl ?_
        refine aw_bipush (v := nI 6) d_Mo_eliminate_75 (by decide) ?_
        refine aw_iload_n d_Mo_eliminate_77 rfl ?_
        refine aw_imul d_Mo_eliminate_78 ?_
        try simp only [pk_mul, nI_add]
        refine aw_iload_n d_Mo_eliminate_79 rfl ?_
        refine aw_iadd d_Mo_eliminate_80 ?_
        try simp only [pk_mul, nI_add]
        refine aw_laldN d_Mo_eliminate_81 rfl (by omega) (Nat.le_of_ble_eq_true rfl) ?_
        refine aw_aload_n d_Mo_eliminate_82 rfl ?_
        refine aw_get d_Mo_eliminate_83 fl_Mo_69 rfl rfl ?_
        refine aw_bipush (v := nI 6) d_Mo_eliminate_86 (by decide) ?_
        refine aw_iload_n d_Mo_eliminate_88 rfl ?_
        refine aw_imul d_Mo_eliminate_89 ?_
        try simp only [pk_mul, nI_add]
        refine aw_iload_n d_Mo_eliminate_90 rfl ?_
        refine aw_iadd d_Mo_eliminate_91 ?_
        try simp only [pk_mul, nI_add]
        refine aw_laldN d_Mo_eliminate_92 rfl (by omega) (Nat.le_of_ble_eq_true rfl) ?_
        refine aw_lmul d_Mo_eliminate_93 ?_
        refine aw_eqs (st' := [.long (zL (((el_i X c i) (6 * i + c)).1 * ((el_i X c i) (6 * c + c)).2))]) (by rw [← zL_mul]; rfl) ?_
        refine aw_lstore d_Mo_eliminate_94 (Nat.le_of_ble_eq_true rfl) ?_
        refine aw_aload_n d_Mo_eliminate_96 rfl ?_
        refine aw_get d_Mo_eliminate_97 fl_Mo_69 rfl rfl ?_
        refine aw_bipush (v := nI 6) d_Mo_eliminate_100 (by decide) ?_
        refine aw_iload_n d_Mo_eliminate_102 rfl ?_
        refine aw_imul d_Mo_eliminate_103 ?_
        try simp only [pk_mul, nI_add]
        refine aw_iload_n d_Mo_eliminate_104 rfl ?_
        refine aw_iadd d_Mo_eliminate_105 ?_
        try simp only [pk_mul, nI_add]
        refine aw_laldN d_Mo_eliminate_106 rfl (by omega) (Nat.le_of_ble_eq_true rfl) ?_
        refine aw_aload_n d_Mo_eliminate_107 rfl ?_
        refine aw_get d_Mo_eliminate_108 fl_Mo_66 rfl rfl ?_
        refine aw_bipush (v := nI 6) d_Mo_eliminate_111 (by decide) ?_
        refine aw_iload_n d_Mo_eliminate_113 rfl ?_
        refine aw_imul d_Mo_eliminate_114 ?_
        try simp only [pk_mul, nI_add]
        refine aw_iload_n d_Mo_eliminate_115 rfl ?_
        refine aw_iadd d_Mo_eliminate_116 ?_
        try simp only [pk_mul, nI_add]
        refine aw_laldN d_Mo_eliminate_117 rfl (by omega) (Nat.le_of_ble_eq_true rfl) ?_
        refine aw_lmul d_Mo_eliminate_118 ?_
        refine aw_eqs (st' := [.long (zL (((el_i X c i) (6 * i + c)).2 * ((el_i X c i) (6 * c + c)).1))]) (by rw [← zL_mul]; rfl) ?_
        refine aw_lstore d_Mo_eliminate_119 (Nat.le_of_ble_eq_true rfl) ?_
        refine aw_lload d_Mo_eliminate_121 rfl ?_
        refine aw_lload d_Mo_eliminate_123 rfl ?_
        refine aw_lconst (v := lN 0) d_Mo_eliminate_125 rfl ?_
        refine aw_lc_ge (tgt := 136) d_Mo_eliminate_126 d_Mo_eliminate_127 (by decide) (fun h127 => ?_) (fun h127 => absurd ((zL_le zR_0 ⟨by omega, hO2.2.2.1⟩).mpr (Int.le_of_lt hO2.2.1)) h127)
        refine aw_lload d_Mo_eliminate_136 rfl ?_
        refine aw_cS1 d_Mo_eliminate_138 (c_Mo_common _ (((el_i X c i) (6 * i + c)).1 * ((el_i X c i) (6 * c + c)).2) (((el_i X c i) (6 * i + c)).2 * ((el_i X c i) (6 * c + c)).1) hO2.1 (Int.le_of_lt hO2.2.1) hO2.2.2.1) mk_Mo_common is_Mo_common ln_Mo_114 rfl rfl (Nat.le_of_ble_eq_true rfl) (Nat.le_of_ble_eq_true rfl) (Nat.le_of_ble_eq_true rfl) (Nat.le_of_ble_eq_true rfl) ?_
        refine aw_lstore d_Mo_eliminate_141 (Nat.le_of_ble_eq_true rfl) ?_
        refine aw_lload d_Mo_eliminate_143 rfl ?_
        refine aw_lconst (v := lN 0) d_Mo_eliminate_145 rfl ?_
        refine aw_lc_ge (tgt := 159) d_Mo_eliminate_146 d_Mo_eliminate_147 (by decide) (fun h147 => ?_) (fun h147 => absurd ((zL_le zR_0 ⟨by omega, hO2.2.2.1⟩).mpr (Int.le_of_lt hO2.2.1)) h147)
        refine aw_lload d_Mo_eliminate_159 rfl ?_
        refine aw_lload d_Mo_eliminate_161 rfl ?_
        refine aw_ldiv d_Mo_eliminate_163 (rd_ne (hO2.2.1) hO2.2.2.1) ?_
        rw [rd_t1 hO2.1 hO2.2.1 hO2.2.2.1]
        refine aw_lstore d_Mo_eliminate_164 (Nat.le_of_ble_eq_true rfl) ?_
        refine aw_lload d_Mo_eliminate_166 rfl ?_
        refine aw_lconst (v := lN 0) d_Mo_eliminate_168 rfl ?_
        refine aw_lc_ge (tgt := 179) d_Mo_eliminate_169 d_Mo_eliminate_170 (by decide) (fun h170 => ?_) (fun h170 => absurd ((zL_le zR_0 ⟨by omega, hO2.2.2.1⟩).mpr (Int.le_of_lt hO2.2.1)) h170)
        refine aw_lload d_Mo_eliminate_179 rfl ?_
        refine aw_lload d_Mo_eliminate_181 rfl ?_
        refine aw_ldiv d_Mo_eliminate_183 (rd_ne (hO2.2.1) hO2.2.2.1) ?_
        rw [rd_t2 hO2.2.1 hO2.2.2.1]
        refine aw_lstore d_Mo_eliminate_184 (Nat.le_of_ble_eq_true rfl) ?_
        refine aw_iconst (v := nI 0) d_Mo_eliminate_186 (by decide) ?_
        refine aw_istore d_Mo_eliminate_187 (Nat.le_of_ble_eq_true rfl) ?_
        refine aw_pick (lv' := [(10, .int (nI 0)), (4, .long (zL (elA (el_i X c i) c i).1)), (6, .long (zL (elA (el_i X c i) c i).2)), (3, .int (nI i)), (1, .int (nI c)), (0, .ref 36)]) ⟨rfl, rfl, rfl, rfl, rfl, rfl, trivial⟩ ?_
        refine lp_Mo_elq C S (el_i X c i) c i hc (by omega) (elA (el_i X c i) c i).1 (elA (el_i X c i) c i).2 hO2.2.2.2 _ ?_ 6 0 rfl
        refine aw_iinc d_Mo_eliminate_223 rfl (nI_1 _) (Nat.le_of_ble_eq_true rfl) ?_
        refine aw_goto (tgt := 42) d_Mo_eliminate_226 (by decide) ?_
        have he : el_i X c (i + 1) = _ := if_pos ⟨h52, h68⟩
        refine aw_eqw (w' := cs_w C ++ ms_w (mX S (el_i X c (i + 1)))) (by rw [he]) ?_
        refine aw_pick (lv' := [(3, .int (nI (i + 1))), (1, .int (nI c)), (0, .ref 36)]) ⟨rfl, rfl, rfl, trivial⟩ ?_
        exact ih (i + 1) [] (by omega)
theorem lp_Mo_elc (C S : cs_S) (X : Nat → Int × Int) (np : Nat) (hn : S.2.2 0 = nI np) (h5 : np ≤ 5) (hO : ∀ c, c < np → elP (el_c X np c) c ∧ ∀ i, i < np → elO (el_i (el_c X np c) c i) c i) : ∀ (n c : Nat) (g : List (Nat × Value)), c + n = np → AW (am_Mof y_Mo_eliminate) 3 0 0 2 ([(1, .int (nI c)), (0, .ref 36)] ++ g) [] (cs_w C ++ ms_w (mX S (el_c X np c))) 0 0 (am_Z none (cs_w C ++ ms_w (mX S (el_c X np np))) 0 0) := by
  intro n
  induction n with
  | zero =>
    intro c g hc
    obtain rfl : np = c := by omega
    refine aw_sub (lv' := [(1, .int (nI np)), (0, .ref 36)]) (by simp) ?_
    refine aw_iload_n d_Mo_eliminate_2 rfl ?_
    refine aw_aload_n d_Mo_eliminate_3 rfl ?_
    refine aw_get d_Mo_eliminate_4 fl_Mo_72 rfl rfl ?_
    refine aw_eqs (congrArg (fun z => Value.int z :: _) hn) ?_
    refine aw_icmp_ge (tgt := 235) d_Mo_eliminate_7 (by decide) (fun h7 => ?_) (fun h7 => absurd (nI_le (Nat.le_refl _) (by omega)) h7)
    exact aw_vretE d_Mo_eliminate_235 rfl rfl rfl rfl
  | succ n ih =>
    intro c g hc
    refine aw_sub (lv' := [(1, .int (nI c)), (0, .ref 36)]) (by simp) ?_
    have hP := (hO c (by omega)).1
    refine aw_iload_n d_Mo_eliminate_2 rfl ?_
    refine aw_aload_n d_Mo_eliminate_3 rfl ?_
    refine aw_get d_Mo_eliminate_4 fl_Mo_72 rfl rfl ?_
    refine aw_eqs (congrArg (fun z => Value.int z :: _) hn) ?_
    refine aw_icmp_ge (tgt := 235) d_Mo_eliminate_7 (by decide) (fun h7 => absurd h7 (nI_ge (by omega) (by omega))) (fun h7 => ?_)
    refine aw_iload_n d_Mo_eliminate_10 rfl ?_
    refine aw_istore_n d_Mo_eliminate_11 (Nat.le_of_ble_eq_true rfl) ?_
    refine aw_aload_n d_Mo_eliminate_12 rfl ?_
    refine aw_get d_Mo_eliminate_13 fl_Mo_66 rfl rfl ?_
    refine aw_bipush (v := nI 6) d_Mo_eliminate_16 (by decide) ?_
    refine aw_iload_n d_Mo_eliminate_18 rfl ?_
    refine aw_imul d_Mo_eliminate_19 ?_
    try simp only [pk_mul, nI_add]
    refine aw_iload_n d_Mo_eliminate_20 rfl ?_
    refine aw_iadd d_Mo_eliminate_21 ?_
    try simp only [pk_mul, nI_add]
    refine aw_laldN d_Mo_eliminate_22 rfl (by omega) (Nat.le_of_ble_eq_true rfl) ?_
    refine aw_eqs (st' := [.long (zL ((el_c X np c) (6 * c + c)).1)]) rfl ?_
    refine aw_lconst (v := lN 0) d_Mo_eliminate_23 rfl ?_
    refine aw_lc_ne (tgt := 34) d_Mo_eliminate_24 d_Mo_eliminate_25 (by decide) (fun h25 => ?_) (fun h25 => absurd h25 (fun e => hP.2 ((zL_eq hP.1 zR_0).mp e)))
    refine aw_aload_n d_Mo_eliminate_34 rfl ?_
    refine aw_iload_n d_Mo_eliminate_35 rfl ?_
    refine aw_iload_n d_Mo_eliminate_36 rfl ?_
    refine aw_cV0 d_Mo_eliminate_37 (c_Mo_swap C (mX S (el_c X np c)) c (by omega)) mk_Mo_swap is_Mo_swap ln_Mo_122 rfl rfl rfl rfl (Nat.le_of_ble_eq_true rfl) (Nat.le_of_ble_eq_true rfl) (Nat.le_of_ble_eq_true rfl) (Nat.le_of_ble_eq_true rfl) ?_
    refine aw_iconst (v := nI 0) d_Mo_eliminate_40 (by decide) ?_
    refine aw_istore_n d_Mo_eliminate_41 (Nat.le_of_ble_eq_true rfl) ?_
    refine aw_pick (lv' := [(3, .int (nI 0)), (1, .int (nI c)), (0, .ref 36)]) ⟨rfl, rfl, rfl, trivial⟩ ?_
    refine lp_Mo_eli C S (el_c X np c) np hn h5 c (by omega) (hO c (by omega)).2 _ ?_ np 0 [] (by omega)
    refine aw_iinc d_Mo_eliminate_229 rfl (nI_1 _) (Nat.le_of_ble_eq_true rfl) ?_
    refine aw_goto (tgt := 2) d_Mo_eliminate_232 (by decide) ?_
    refine aw_pick (lv' := [(1, .int (nI (c + 1))), (0, .ref 36)]) ⟨rfl, rfl, trivial⟩ ?_
    exact ih (c + 1) [] (by omega)
theorem c_Mo_eliminate (C S : cs_S) (X : Nat → Int × Int) (np : Nat) (hn : S.2.2 0 = nI np) (h5 : np ≤ 5) (hO : ∀ c, c < np → elP (el_c X np c) c ∧ ∀ i, i < np → elO (el_i (el_c X np c) c i) c i) : am_ct y_Mo_eliminate 3 [.ref 36] (cs_w C ++ ms_w (mX S (X))) none (cs_w C ++ ms_w (mX S (el_c X np np))) 0 0 := by
  refine am_ct.of rfl (Nat.le_of_ble_eq_true rfl) ?_
  refine aw_iconst (v := nI 0) d_Mo_eliminate_0 (by decide) ?_
  refine aw_istore_n d_Mo_eliminate_1 (Nat.le_of_ble_eq_true rfl) ?_
  refine aw_pick (lv' := [(1, .int (nI 0)), (0, .ref 36)]) ⟨rfl, rfl, trivial⟩ ?_
  exact lp_Mo_elc C S X np hn h5 hO np 0 [] (by omega)
