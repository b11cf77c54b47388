/-! RateChains$Solved: what came and was lost; keep -/
theorem lp_So_nx (S : cs_S) (r : List am_C) (e : Nat → Int32) (p : Nat) (hp : p < 5) : ∀ (n t : Nat), t + n = 5 → AW (am_Mof y_So_markNext) 1 0 0 2 [(3, .int (nI t)), (0, .ref 16), (1, .ref 1), (2, .int (nI p))] [] (cs_w (cs_I S 30 (nx_f (S.1 2) e p t)) ++ r) 0 0 (am_Z none (cs_w (cs_I S 30 (nx_f (S.1 2) e p 5)) ++ r) 0 0) := by
  intro n
  induction n with
  | zero =>
    intro t ht
    obtain rfl : t = 5 := by omega
    refine aw_iload_n d_So_markNext_2 rfl ?_
    refine aw_iconst (v := nI 5) d_So_markNext_3 (by decide) ?_
    refine aw_icmp_ge (tgt := 42) d_So_markNext_4 (by decide) (fun h4 => ?_) (fun h4 => absurd (nI_le (Nat.le_refl 5) (by omega)) h4)
    exact aw_vretE d_So_markNext_42 rfl rfl rfl rfl
  | succ n ih =>
    intro t ht
    refine aw_iload_n d_So_markNext_2 rfl ?_
    refine aw_iconst (v := nI 5) d_So_markNext_3 (by decide) ?_
    refine aw_icmp_ge (tgt := 42) d_So_markNext_4 (by decide) (fun h4 => absurd h4 (nI_ge (by omega) (by omega))) (fun h4 => ?_)
    refine aw_aload_n d_So_markNext_7 rfl ?_
    refine aw_get d_So_markNext_8 fl_So_37 rfl rfl ?_
    refine aw_iload_n d_So_markNext_11 rfl ?_
    refine aw_aload_n d_So_markNext_12 rfl ?_
    refine aw_get d_So_markNext_13 fl_So_37 rfl rfl ?_
    refine aw_iload_n d_So_markNext_16 rfl ?_
    refine aw_zaldN d_So_markNext_17 rfl (by omega) (Nat.le_of_ble_eq_true rfl) ?_
    refine aw_if_ne (tgt := 30) d_So_markNext_18 (by decide) (fun h18 => ?_) (fun h18 => ?_)
    · have h18 : ¬ nx_f (S.1 2) e p t t = 0 := h18
      refine aw_iconst (v := nI 1) d_So_markNext_30 (by decide) ?_
      refine aw_goto (tgt := 35) d_So_markNext_31 (by decide) ?_
      have hv : bI (nx_f (S.1 2) e p t t ≠ 0 ∨ 0 < S.1 2 (p * 5 + t)) = 1 := bI_t (Or.inl h18)
      refine aw_eqs (st' := [.int (bI (nx_f (S.1 2) e p t t ≠ 0 ∨ 0 < S.1 2 (p * 5 + t))), .int (nI t), .ref 30]) (by rw [hv]; rfl) ?_
      refine aw_zastN d_So_markNext_35 rfl (by omega) (Nat.le_of_ble_eq_true rfl) (show _ = cs_w (cs_I S 30 (nx_f (S.1 2) e p (t + 1))) ++ r from by rw [bI_vp]; exact (cs_s30 _ _ _).trans (by rw [cs_II]; rfl)) ?_
      refine aw_iinc d_So_markNext_36 rfl (nI_1 _) (Nat.le_of_ble_eq_true rfl) ?_
      refine aw_goto (tgt := 2) d_So_markNext_39 (by decide) ?_
      exact aw_eql rfl (ih (t + 1) (by omega))
    · have h18 : nx_f (S.1 2) e p t t = 0 := h18
      refine aw_aload_n d_So_markNext_21 rfl ?_
      refine aw_iload_n d_So_markNext_22 rfl ?_
      refine aw_iload_n d_So_markNext_23 rfl ?_
      refine aw_cV1 d_So_markNext_24 (c_Pl_shareOf (cs_I S 30 (nx_f (S.1 2) e p t)) r p t hp (by omega)) mk_Pl_shareOf is_Pl_shareOf ln_So_154 rfl rfl rfl rfl (Nat.le_of_ble_eq_true rfl) (Nat.le_of_ble_eq_true rfl) (Nat.le_of_ble_eq_true rfl) (Nat.le_of_ble_eq_true rfl) ?_
      refine aw_if_le (tgt := 34) d_So_markNext_27 (by decide) (fun h27 => ?_) (fun h27 => ?_)
      · refine aw_iconst (v := nI 0) d_So_markNext_34 (by decide) ?_
        have hv : bI (nx_f (S.1 2) e p t t ≠ 0 ∨ 0 < S.1 2 (p * 5 + t)) = 0 := bI_f (fun c => c.elim (fun c => c h18) (fun c => absurd h27 (Int32.not_le.mpr c)))
        refine aw_eqs (st' := [.int (bI (nx_f (S.1 2) e p t t ≠ 0 ∨ 0 < S.1 2 (p * 5 + t))), .int (nI t), .ref 30]) (by rw [hv]; rfl) ?_
        refine aw_zastN d_So_markNext_35 rfl (by omega) (Nat.le_of_ble_eq_true rfl) (show _ = cs_w (cs_I S 30 (nx_f (S.1 2) e p (t + 1))) ++ r from by rw [bI_vp]; exact (cs_s30 _ _ _).trans (by rw [cs_II]; rfl)) ?_
        refine aw_iinc d_So_markNext_36 rfl (nI_1 _) (Nat.le_of_ble_eq_true rfl) ?_
        refine aw_goto (tgt := 2) d_So_markNext_39 (by decide) ?_
        exact aw_eql rfl (ih (t + 1) (by omega))
      · refine aw_iconst (v := nI 1) d_So_markNext_30 (by decide) ?_
        refine aw_goto (tgt := 35) d_So_markNext_31 (by decide) ?_
        have hv : bI (nx_f (S.1 2) e p t t ≠ 0 ∨ 0 < S.1 2 (p * 5 + t)) = 1 := bI_t (Or.inr (Int32.not_le.mp h27))
        refine aw_eqs (st' := [.int (bI (nx_f (S.1 2) e p t t ≠ 0 ∨ 0 < S.1 2 (p * 5 + t))), .int (nI t), .ref 30]) (by rw [hv]; rfl) ?_
        refine aw_zastN d_So_markNext_35 rfl (by omega) (Nat.le_of_ble_eq_true rfl) (show _ = cs_w (cs_I S 30 (nx_f (S.1 2) e p (t + 1))) ++ r from by rw [bI_vp]; exact (cs_s30 _ _ _).trans (by rw [cs_II]; rfl)) ?_
        refine aw_iinc d_So_markNext_36 rfl (nI_1 _) (Nat.le_of_ble_eq_true rfl) ?_
        refine aw_goto (tgt := 2) d_So_markNext_39 (by decide) ?_
        exact aw_eql rfl (ih (t + 1) (by omega))
theorem c_So_markNext (S : cs_S) (r : List am_C) (e : Nat → Int32) (p : Nat) (hp : p < 5) : am_ct y_So_markNext 1 [.ref 16, .ref 1, .int (nI p)] (cs_w (cs_I S 30 (e)) ++ r) none (cs_w (cs_I S 30 (nx_f (S.1 2) e p 5)) ++ r) 0 0 := by
  refine am_ct.of rfl (Nat.le_of_ble_eq_true rfl) ?_
  refine aw_iconst (v := nI 0) d_So_markNext_0 (by decide) ?_
  refine aw_istore_n d_So_markNext_1 (Nat.le_of_ble_eq_true rfl) ?_
  exact aw_eql rfl (lp_So_nx S r e p hp 5 0 rfl)
theorem lp_So_c1 (S : cs_S) (r : List am_C) (k : Nat) (Z : am_E) (K : AW (am_Mof y_So_findCame) 3 0 0 23 [(4, .int (nI 5)), (0, .ref 16), (1, .ref 1), (2, .ref 8), (3, .int (nI k))] [] (cs_w (cs_I S 30 (zb_f (S.1 30) 5)) ++ r) 0 0 Z) : ∀ (n p : Nat), p + n = 5 → AW (am_Mof y_So_findCame) 3 0 0 3 [(4, .int (nI p)), (0, .ref 16), (1, .ref 1), (2, .ref 8), (3, .int (nI k))] [] (cs_w (cs_I S 30 (zb_f (S.1 30) p)) ++ r) 0 0 Z := by
  intro n
  induction n with
  | zero =>
    intro p hp
    obtain rfl : p = 5 := by omega
    refine aw_iload d_So_findCame_3 rfl ?_
    refine aw_iconst (v := nI 5) d_So_findCame_5 (by decide) ?_
    refine aw_icmp_ge (tgt := 23) d_So_findCame_6 (by decide) (fun h6 => ?_) (fun h6 => absurd (nI_le (Nat.le_refl 5) (by omega)) h6)
    exact K
  | succ n ih =>
    intro p hp
    refine aw_iload d_So_findCame_3 rfl ?_
    refine aw_iconst (v := nI 5) d_So_findCame_5 (by decide) ?_
    refine aw_icmp_ge (tgt := 23) d_So_findCame_6 (by decide) (fun h6 => absurd h6 (nI_ge (by omega) (by omega))) (fun h6 => ?_)
    refine aw_aload_n d_So_findCame_9 rfl ?_
    refine aw_get d_So_findCame_10 fl_So_37 rfl rfl ?_
    refine aw_iload d_So_findCame_13 rfl ?_
    refine aw_iconst (v := nI 0) d_So_findCame_15 (by decide) ?_
    refine aw_zastN d_So_findCame_16 rfl (by omega) (Nat.le_of_ble_eq_true rfl) (show _ = cs_w (cs_I S 30 (zb_f (S.1 30) (p + 1))) ++ r from (cs_s30 _ _ _).trans (by rw [cs_II]; rfl)) ?_
    refine aw_iinc d_So_findCame_17 rfl (nI_1 _) (Nat.le_of_ble_eq_true rfl) ?_
    refine aw_goto (tgt := 3) d_So_findCame_20 (by decide) ?_
    exact aw_eql rfl (ih (p + 1) (by omega))
theorem lp_So_c2 (S : cs_S) (r : List am_C) (k : Nat) (e : Nat → Int32) (n8 : Nat) (hn : S.2.2 8 = nI n8) (h60 : n8 ≤ 60) (h9 : ∀ j, j < 60 → vp_in (S.1 9 j) 5) (Z : am_E) (K : AW (am_Mof y_So_findCame) 3 0 0 74 [(4, .int (nI n8)), (0, .ref 16), (1, .ref 1), (2, .ref 8), (3, .int (nI k))] [] (cs_w (cs_I S 30 (fc_2 S k e n8)) ++ r) 0 0 Z) : ∀ (n j : Nat), j + n = n8 → AW (am_Mof y_So_findCame) 3 0 0 26 [(4, .int (nI j)), (0, .ref 16), (1, .ref 1), (2, .ref 8), (3, .int (nI k))] [] (cs_w (cs_I S 30 (fc_2 S k e j)) ++ r) 0 0 Z := by
  intro n
  induction n with
  | zero =>
    intro j hj
    obtain rfl : n8 = j := by omega
    refine aw_iload d_So_findCame_26 rfl ?_
    refine aw_aload_n d_So_findCame_28 rfl ?_
    refine aw_cV1 d_So_findCame_29 (c_Fe_size _ r) mk_Fe_size is_Fe_size ln_So_96 rfl rfl rfl rfl (Nat.le_of_ble_eq_true rfl) (Nat.le_of_ble_eq_true rfl) (Nat.le_of_ble_eq_true rfl) (Nat.le_of_ble_eq_true rfl) ?_
    refine aw_eqs (congrArg (fun z => Value.int z :: _) hn) ?_
    refine aw_icmp_ge (tgt := 74) d_So_findCame_32 (by decide) (fun h32 => ?_) (fun h32 => absurd (nI_le (Nat.le_refl _) (by omega)) h32)
    exact K
  | succ n ih =>
    intro j hj
    refine aw_iload d_So_findCame_26 rfl ?_
    refine aw_aload_n d_So_findCame_28 rfl ?_
    refine aw_cV1 d_So_findCame_29 (c_Fe_size _ r) mk_Fe_size is_Fe_size ln_So_96 rfl rfl rfl rfl (Nat.le_of_ble_eq_true rfl) (Nat.le_of_ble_eq_true rfl) (Nat.le_of_ble_eq_true rfl) (Nat.le_of_ble_eq_true rfl) ?_
    refine aw_eqs (congrArg (fun z => Value.int z :: _) hn) ?_
    refine aw_icmp_ge (tgt := 74) d_So_findCame_32 (by decide) (fun h32 => absurd h32 (nI_ge (by omega) (by omega))) (fun h32 => ?_)
    refine aw_aload_n d_So_findCame_35 rfl ?_
    refine aw_iload d_So_findCame_36 rfl ?_
    refine aw_cV1 d_So_findCame_38 (c_Fe_kindOf _ r j (by omega)) mk_Fe_kindOf is_Fe_kindOf ln_So_123 rfl rfl rfl rfl (Nat.le_of_ble_eq_true rfl) (Nat.le_of_ble_eq_true rfl) (Nat.le_of_ble_eq_true rfl) (Nat.le_of_ble_eq_true rfl) ?_
    refine aw_iload_n d_So_findCame_41 rfl ?_
    refine aw_icmp_ne (tgt := 68) d_So_findCame_42 (by decide) (fun h42 => ?_) (fun h42 => ?_)
    · have h42 : ¬ S.1 10 j = nI k := h42
      refine aw_iinc d_So_findCame_68 rfl (nI_1 _) (Nat.le_of_ble_eq_true rfl) ?_
      refine aw_goto (tgt := 26) d_So_findCame_71 (by decide) ?_
      have hq : fc_2 S k e (j + 1) = fc_2 S k e j := if_neg (fun c => h42 c.1)
      refine aw_eqw (w' := cs_w (cs_I S 30 (fc_2 S k e (j + 1))) ++ r) (by rw [hq]) ?_
      exact aw_eql rfl (ih (j + 1) (by omega))
    · have h42 : S.1 10 j = nI k := h42
      refine aw_aload_n d_So_findCame_45 rfl ?_
      refine aw_iload d_So_findCame_46 rfl ?_
      refine aw_cV1 d_So_findCame_48 (c_Fe_gramsOf _ r j (by omega)) mk_Fe_gramsOf is_Fe_gramsOf ln_So_133 rfl rfl rfl rfl (Nat.le_of_ble_eq_true rfl) (Nat.le_of_ble_eq_true rfl) (Nat.le_of_ble_eq_true rfl) (Nat.le_of_ble_eq_true rfl) ?_
      refine aw_lconst (v := lN 0) d_So_findCame_51 rfl ?_
      refine aw_lc_le (tgt := 68) d_So_findCame_52 d_So_findCame_53 (by decide) (fun h53 => ?_) (fun h53 => ?_)
      · have h53 : S.2.1 13 j ≤ lN 0 := h53
        refine aw_iinc d_So_findCame_68 rfl (nI_1 _) (Nat.le_of_ble_eq_true rfl) ?_
        refine aw_goto (tgt := 26) d_So_findCame_71 (by decide) ?_
        have hq : fc_2 S k e (j + 1) = fc_2 S k e j := if_neg (fun c => (i64_nlt _ _).mpr h53 c.2)
        refine aw_eqw (w' := cs_w (cs_I S 30 (fc_2 S k e (j + 1))) ++ r) (by rw [hq]) ?_
        exact aw_eql rfl (ih (j + 1) (by omega))
      · have h53 : lN 0 < S.2.1 13 j := Int64.not_le.mp h53
        refine aw_aload_n d_So_findCame_56 rfl ?_
        refine aw_get d_So_findCame_57 fl_So_37 rfl rfl ?_
        refine aw_aload_n d_So_findCame_60 rfl ?_
        refine aw_iload d_So_findCame_61 rfl ?_
        obtain ⟨p, hp, ep⟩ := vp_in_of (h9 j (by omega)) (by omega)
        refine aw_cV1 d_So_findCame_63 (c_Fe_plantOf _ r j (by omega)) mk_Fe_plantOf is_Fe_plantOf ln_So_130 rfl rfl rfl rfl (Nat.le_of_ble_eq_true rfl) (Nat.le_of_ble_eq_true rfl) (Nat.le_of_ble_eq_true rfl) (Nat.le_of_ble_eq_true rfl) ?_
        refine aw_eqs (st' := [.int (nI p), .ref 30]) (congrArg (fun z => [Value.int z, Value.ref 30]) ep) ?_
        refine aw_iconst (v := nI 1) d_So_findCame_66 (by decide) ?_
        refine aw_zastN d_So_findCame_67 rfl (by omega) (Nat.le_of_ble_eq_true rfl) (show _ = cs_w (cs_I S 30 (fc_2 S k e (j + 1))) ++ r from (cs_s30 _ _ _).trans (by rw [cs_II, show fc_2 S k e (j + 1) = upd (fc_2 S k e j) (S.1 9 j).toNatClampNeg 1 from if_pos ⟨h42, h53⟩, ep, nI_clamp (by omega)]; rfl)) ?_
        refine aw_iinc d_So_findCame_68 rfl (nI_1 _) (Nat.le_of_ble_eq_true rfl) ?_
        refine aw_goto (tgt := 26) d_So_findCame_71 (by decide) ?_
        exact aw_eql rfl (ih (j + 1) (by omega))
theorem lp_So_c3 (S : cs_S) (r : List am_C) (k s : Nat) (hk : k < 4) (hb : b01 (S.1 4)) (e : Nat → Int32) (Z : am_E) (K : AW (am_Mof y_So_findCame) 3 0 0 125 [(5, .int (nI 5)), (4, .int (nI s)), (0, .ref 16), (1, .ref 1), (2, .ref 8), (3, .int (nI k))] [] (cs_w (cs_I S 30 (fc_3 S k e 5)) ++ r) 0 0 Z) : ∀ (n p : Nat), p + n = 5 → AW (am_Mof y_So_findCame) 3 0 0 86 [(5, .int (nI p)), (4, .int (nI s)), (0, .ref 16), (1, .ref 1), (2, .ref 8), (3, .int (nI k))] [] (cs_w (cs_I S 30 (fc_3 S k e p)) ++ r) 0 0 Z := by
  intro n
  induction n with
  | zero =>
    intro p hp
    obtain rfl : p = 5 := by omega
    refine aw_iload d_So_findCame_86 rfl ?_
    refine aw_iconst (v := nI 5) d_So_findCame_88 (by decide) ?_
    refine aw_icmp_ge (tgt := 125) d_So_findCame_89 (by decide) (fun h89 => ?_) (fun h89 => absurd (nI_le (Nat.le_refl 5) (by omega)) h89)
    exact K
  | succ n ih =>
    intro p hp
    refine aw_iload d_So_findCame_86 rfl ?_
    refine aw_iconst (v := nI 5) d_So_findCame_88 (by decide) ?_
    refine aw_icmp_ge (tgt := 125) d_So_findCame_89 (by decide) (fun h89 => absurd h89 (nI_ge (by omega) (by omega))) (fun h89 => ?_)
    refine aw_aload_n d_So_findCame_92 rfl ?_
    refine aw_get d_So_findCame_93 fl_So_37 rfl rfl ?_
    refine aw_iload d_So_findCame_96 rfl ?_
    refine aw_zaldN d_So_findCame_98 rfl (by omega) (Nat.le_of_ble_eq_true rfl) ?_
    refine aw_if_eq (tgt := 119) d_So_findCame_99 (by decide) (fun h99 => ?_) (fun h99 => ?_)
    · have h99 : fc_3 S k e p p = 0 := h99
      refine aw_iinc d_So_findCame_119 rfl (nI_1 _) (Nat.le_of_ble_eq_true rfl) ?_
      refine aw_goto (tgt := 86) d_So_findCame_122 (by decide) ?_
      have hq : fc_3 S k e (p + 1) = fc_3 S k e p := if_neg (fun c => c.1 h99)
      refine aw_eqw (w' := cs_w (cs_I S 30 (fc_3 S k e (p + 1))) ++ r) (by rw [hq]) ?_
      exact aw_eql rfl (ih (p + 1) (by omega))
    · have h99 : ¬ fc_3 S k e p p = 0 := h99
      refine aw_aload_n d_So_findCame_102 rfl ?_
      refine aw_iload d_So_findCame_103 rfl ?_
      refine aw_iload_n d_So_findCame_105 rfl ?_
      refine aw_cV1 d_So_findCame_106 (c_Pl_goesOn (cs_I S 30 (fc_3 S k e p)) r p k (by omega) hk hb) mk_Pl_goesOn is_Pl_goesOn ln_So_148 rfl rfl rfl rfl (Nat.le_of_ble_eq_true rfl) (Nat.le_of_ble_eq_true rfl) (Nat.le_of_ble_eq_true rfl) (Nat.le_of_ble_eq_true rfl) ?_
      refine aw_if_eq (tgt := 119) d_So_findCame_109 (by decide) (fun h109 => ?_) (fun h109 => ?_)
      · have h109 : bI (cs_g S k p) = 0 := h109
        refine aw_iinc d_So_findCame_119 rfl (nI_1 _) (Nat.le_of_ble_eq_true rfl) ?_
        refine aw_goto (tgt := 86) d_So_findCame_122 (by decide) ?_
        have hq : fc_3 S k e (p + 1) = fc_3 S k e p := if_neg (fun c => (bI_0 _).mp h109 c.2)
        refine aw_eqw (w' := cs_w (cs_I S 30 (fc_3 S k e (p + 1))) ++ r) (by rw [hq]) ?_
        exact aw_eql rfl (ih (p + 1) (by omega))
      · have h109 : ¬ bI (cs_g S k p) = 0 := h109
        refine aw_aload_n d_So_findCame_112 rfl ?_
        refine aw_aload_n d_So_findCame_113 rfl ?_
        refine aw_iload d_So_findCame_114 rfl ?_
        refine aw_cV0 d_So_findCame_116 (c_So_markNext S r (fc_3 S k e p) p (by omega)) mk_So_markNext is_So_markNext ln_So_151 rfl rfl rfl rfl (Nat.le_of_ble_eq_true rfl) (Nat.le_of_ble_eq_true rfl) (Nat.le_of_ble_eq_true rfl) (Nat.le_of_ble_eq_true rfl) ?_
        refine aw_iinc d_So_findCame_119 rfl (nI_1 _) (Nat.le_of_ble_eq_true rfl) ?_
        refine aw_goto (tgt := 86) d_So_findCame_122 (by decide) ?_
        have hq : fc_3 S k e (p + 1) = nx_f (S.1 2) (fc_3 S k e p) p 5 := if_pos ⟨h99, Decidable.not_not.mp (fun c2 => h109 ((bI_0 _).mpr c2))⟩
        refine aw_eqw (w' := cs_w (cs_I S 30 (fc_3 S k e (p + 1))) ++ r) (by rw [hq]) ?_
        exact aw_eql rfl (ih (p + 1) (by omega))
theorem lp_So_c4 (S : cs_S) (r : List am_C) (k : Nat) (hk : k < 4) (hb : b01 (S.1 4)) (e : Nat → Int32) (w' : List am_C) (hw : cs_w (cs_I S 30 (fc_4 S k e 4)) ++ r = w') : ∀ (n s : Nat) (x5 : List (Nat × Value)), s + n = 4 → AW (am_Mof y_So_findCame) 3 0 0 77 ([(4, .int (nI (s + 1))), (0, .ref 16), (1, .ref 1), (2, .ref 8), (3, .int (nI k))] ++ x5) [] (cs_w (cs_I S 30 (fc_4 S k e s)) ++ r) 0 0 (am_Z none w' 0 0) := by
  intro n
  induction n with
  | zero =>
    intro s x5 hs
    obtain rfl : s = 4 := by omega
    refine aw_sub (lv' := [(4, .int (nI 5)), (0, .ref 16), (1, .ref 1), (2, .ref 8), (3, .int (nI k))]) (by simp) ?_
    refine aw_iload d_So_findCame_77 rfl ?_
    refine aw_iconst (v := nI 5) d_So_findCame_79 (by decide) ?_
    refine aw_icmp_ge (tgt := 131) d_So_findCame_80 (by decide) (fun h80 => ?_) (fun h80 => absurd (nI_le (Nat.le_refl 5) (by omega)) h80)
    exact aw_vretE d_So_findCame_131 rfl hw rfl rfl
  | succ n ih =>
    intro s x5 hs
    refine aw_sub (lv' := [(4, .int (nI (s + 1))), (0, .ref 16), (1, .ref 1), (2, .ref 8), (3, .int (nI k))]) (by simp) ?_
    refine aw_iload d_So_findCame_77 rfl ?_
    refine aw_iconst (v := nI 5) d_So_findCame_79 (by decide) ?_
    refine aw_icmp_ge (tgt := 131) d_So_findCame_80 (by decide) (fun h80 => absurd h80 (nI_ge (by omega) (by omega))) (fun h80 => ?_)
    refine aw_iconst (v := nI 0) d_So_findCame_83 (by decide) ?_
    refine aw_istore d_So_findCame_84 (Nat.le_of_ble_eq_true rfl) ?_
    refine aw_eql rfl (lp_So_c3 S r k (s + 1) hk hb (fc_4 S k e s) _ ?_ 5 0 rfl)
    refine aw_iinc d_So_findCame_125 rfl (nI_1 _) (Nat.le_of_ble_eq_true rfl) ?_
    refine aw_goto (tgt := 77) d_So_findCame_128 (by decide) ?_
    refine aw_pick (lv' := [(4, .int (nI (s + 1 + 1))), (0, .ref 16), (1, .ref 1), (2, .ref 8), (3, .int (nI k))]) ⟨rfl, rfl, rfl, rfl, rfl, trivial⟩ ?_
    exact ih (s + 1) [] (by omega)
theorem c_So_findCame (S : cs_S) (r : List am_C) (k : Nat) (hk : k < 4) (hb : b01 (S.1 4)) (n8 : Nat) (hn : S.2.2 8 = nI n8) (h60 : n8 ≤ 60) (h9 : ∀ j, j < 60 → vp_in (S.1 9 j) 5) : am_ct y_So_findCame 3 [.ref 16, .ref 1, .ref 8, .int (nI k)] (cs_w S ++ r) none (cs_w (cs_I S 30 (fc_R S k n8)) ++ r) 0 0 := by
  refine am_ct.of rfl (Nat.le_of_ble_eq_true rfl) ?_
  refine aw_iconst (v := nI 0) d_So_findCame_0 (by decide) ?_
  refine aw_istore d_So_findCame_1 (Nat.le_of_ble_eq_true rfl) ?_
  refine aw_eqw (w' := cs_w (cs_I S 30 (zb_f (S.1 30) 0)) ++ r) (by show cs_w S ++ r = cs_w (cs_I S 30 (S.1 30)) ++ r; rw [cs_Iid]) ?_
  refine aw_eql rfl (lp_So_c1 S r k _ ?_ 5 0 rfl)
  refine aw_iconst (v := nI 0) d_So_findCame_23 (by decide) ?_
  refine aw_istore d_So_findCame_24 (Nat.le_of_ble_eq_true rfl) ?_
  refine aw_eql rfl (lp_So_c2 S r k (zb_f (S.1 30) 5) n8 hn h60 h9 _ ?_ n8 0 (by omega))
  refine aw_iconst (v := nI 1) d_So_findCame_74 (by decide) ?_
  refine aw_istore d_So_findCame_75 (Nat.le_of_ble_eq_true rfl) ?_
  exact aw_eql rfl (lp_So_c4 S r k hk hb _ _ rfl 4 0 [] rfl)
theorem lp_So_lb (S : cs_S) (r : List am_C) (k : Nat) (hk : k < 4) (hb : b01 (S.1 4)) (e : Nat → Int32) : ∀ (n p : Nat), p + n = 5 → AW (am_Mof y_So_markLostBare) 4 0 0 10 [(4, .int (nI p)), (0, .ref 16), (1, .ref 1), (2, .ref 8), (3, .int (nI k))] [] (cs_w (cs_I (cs_I S 30 e) 31 (lb_f S k e (S.1 31) p)) ++ r) 0 0 (am_Z none (cs_w (cs_I (cs_I S 30 e) 31 (lb_f S k e (S.1 31) 5)) ++ r) 0 0) := by
  intro n
  induction n with
  | zero =>
    intro p hp
    obtain rfl : p = 5 := by omega
    refine aw_iload d_So_markLostBare_10 rfl ?_
    refine aw_iconst (v := nI 5) d_So_markLostBare_12 (by decide) ?_
    refine aw_icmp_ge (tgt := 50) d_So_markLostBare_13 (by decide) (fun h13 => ?_) (fun h13 => absurd (nI_le (Nat.le_refl 5) (by omega)) h13)
    exact aw_vretE d_So_markLostBare_50 rfl rfl rfl rfl
  | succ n ih =>
    intro p hp
    refine aw_iload d_So_markLostBare_10 rfl ?_
    refine aw_iconst (v := nI 5) d_So_markLostBare_12 (by decide) ?_
    refine aw_icmp_ge (tgt := 50) d_So_markLostBare_13 (by decide) (fun h13 => absurd h13 (nI_ge (by omega) (by omega))) (fun h13 => ?_)
    refine aw_aload_n d_So_markLostBare_16 rfl ?_
    refine aw_get d_So_markLostBare_17 fl_So_37 rfl rfl ?_
    refine aw_iload d_So_markLostBare_20 rfl ?_
    refine aw_zaldN d_So_markLostBare_22 rfl (by omega) (Nat.le_of_ble_eq_true rfl) ?_
    refine aw_if_eq (tgt := 44) d_So_markLostBare_23 (by decide) (fun h23 => ?_) (fun h23 => ?_)
    · have h23 : e p = 0 := h23
      refine aw_iinc d_So_markLostBare_44 rfl (nI_1 _) (Nat.le_of_ble_eq_true rfl) ?_
      refine aw_goto (tgt := 10) d_So_markLostBare_47 (by decide) ?_
      have hq : lb_f S k e (S.1 31) (p + 1) = lb_f S k e (S.1 31) p := if_neg (fun c => c.1 h23)
      refine aw_eqw (w' := cs_w (cs_I (cs_I S 30 e) 31 (lb_f S k e (S.1 31) (p + 1))) ++ r) (by rw [hq]) ?_
      exact aw_eql rfl (ih (p + 1) (by omega))
    · have h23 : ¬ e p = 0 := h23
      refine aw_aload_n d_So_markLostBare_26 rfl ?_
      refine aw_iload d_So_markLostBare_27 rfl ?_
      refine aw_iload_n d_So_markLostBare_29 rfl ?_
      refine aw_cV1 d_So_markLostBare_30 (c_Pl_isBare (cs_I (cs_I S 30 e) 31 (lb_f S k e (S.1 31) p)) r p k (by omega) hk hb) mk_Pl_isBare is_Pl_isBare ln_So_142 rfl rfl rfl rfl (Nat.le_of_ble_eq_true rfl) (Nat.le_of_ble_eq_true rfl) (Nat.le_of_ble_eq_true rfl) (Nat.le_of_ble_eq_true rfl) ?_
      refine aw_if_eq (tgt := 44) d_So_markLostBare_33 (by decide) (fun h33 => ?_) (fun h33 => ?_)
      · have h33 : bI (cs_b S k p) = 0 := h33
        refine aw_iinc d_So_markLostBare_44 rfl (nI_1 _) (Nat.le_of_ble_eq_true rfl) ?_
        refine aw_goto (tgt := 10) d_So_markLostBare_47 (by decide) ?_
        have hq : lb_f S k e (S.1 31) (p + 1) = lb_f S k e (S.1 31) p := if_neg (fun c => (bI_0 _).mp h33 c.2)
        refine aw_eqw (w' := cs_w (cs_I (cs_I S 30 e) 31 (lb_f S k e (S.1 31) (p + 1))) ++ r) (by rw [hq]) ?_
        exact aw_eql rfl (ih (p + 1) (by omega))
      · have h33 : ¬ bI (cs_b S k p) = 0 := h33
        refine aw_aload_n d_So_markLostBare_36 rfl ?_
        refine aw_get d_So_markLostBare_37 fl_So_41 rfl rfl ?_
        refine aw_iload d_So_markLostBare_40 rfl ?_
        refine aw_iconst (v := nI 1) d_So_markLostBare_42 (by decide) ?_
        refine aw_zastN d_So_markLostBare_43 rfl (by omega) (Nat.le_of_ble_eq_true rfl) (show _ = cs_w (cs_I (cs_I S 30 e) 31 (lb_f S k e (S.1 31) (p + 1))) ++ r from (cs_s31 _ _ _).trans (by rw [cs_II, show lb_f S k e (S.1 31) (p + 1) = upd (lb_f S k e (S.1 31) p) p 1 from if_pos ⟨h23, Decidable.not_not.mp (fun c2 => h33 ((bI_0 _).mpr c2))⟩]; rfl)) ?_
        refine aw_iinc d_So_markLostBare_44 rfl (nI_1 _) (Nat.le_of_ble_eq_true rfl) ?_
        refine aw_goto (tgt := 10) d_So_markLostBare_47 (by decide) ?_
        exact aw_eql rfl (ih (p + 1) (by omega))
theorem c_So_markLostBare (S : cs_S) (r : List am_C) (k : Nat) (hk : k < 4) (hb : b01 (S.1 4)) (n8 : Nat) (hn : S.2.2 8 = nI n8) (h60 : n8 ≤ 60) (h9 : ∀ j, j < 60 → vp_in (S.1 9 j) 5) : am_ct y_So_markLostBare 4 [.ref 16, .ref 1, .ref 8, .int (nI k)] (cs_w S ++ r) none (cs_w (cs_I (cs_I S 30 (fc_R S k n8)) 31 (lb_f S k (fc_R S k n8) (S.1 31) 5)) ++ r) 0 0 := by
  refine am_ct.of rfl (Nat.le_of_ble_eq_true rfl) ?_
  refine aw_aload_n d_So_markLostBare_0 rfl ?_
  refine aw_aload_n d_So_markLostBare_1 rfl ?_
  refine aw_aload_n d_So_markLostBare_2 rfl ?_
  refine aw_iload_n d_So_markLostBare_3 rfl ?_
  refine aw_cV0 d_So_markLostBare_4 (c_So_findCame S r k hk hb n8 hn h60 h9) mk_So_findCame is_So_findCame ln_So_139 rfl rfl rfl rfl (Nat.le_of_ble_eq_true rfl) (Nat.le_of_ble_eq_true rfl) (Nat.le_of_ble_eq_true rfl) (Nat.le_of_ble_eq_true rfl) ?_
  refine aw_iconst (v := nI 0) d_So_markLostBare_7 (by decide) ?_
  refine aw_istore d_So_markLostBare_8 (Nat.le_of_ble_eq_true rfl) ?_
  refine aw_eqw (w' := cs_w (cs_I (cs_I S 30 (fc_R S k n8)) 31 (lb_f S k (fc_R S k n8) (S.1 31) 0)) ++ r) (by show _ = cs_w (cs_I (cs_I S 30 (fc_R S k n8)) 31 ((cs_I S 30 (fc_R S k n8)).1 31)) ++ r; rw [cs_Iid]) ?_
  exact aw_eql rfl (lp_So_lb S r k hk hb (fc_R S k n8) 5 0 rfl)
