/-! RateChains$Worths -/
theorem cs_row (S : cs_S) (r : List am_C) : ∀ i, i < 5 → (cs_w S ++ r)[19 + i]? = some (.inl (1, 6, .inr (.inl (S.2.1 (19 + i)))))
  | 0, _ => rfl
  | 1, _ => rfl
  | 2, _ => rfl
  | 3, _ => rfl
  | 4, _ => rfl
  | i + 5, h => absurd h (by omega)
theorem cs_rowset (S : cs_S) (r : List am_C) (g : Nat → Int64) : ∀ i, i < 5 → (cs_w S ++ r).set (19 + i) (.inl (1, 6, .inr (.inl g))) = cs_w (cs_J S (19 + i) g) ++ r
  | 0, _ => rfl
  | 1, _ => rfl
  | 2, _ => rfl
  | 3, _ => rfl
  | 4, _ => rfl
  | i + 5, h => absurd h (by omega)
theorem cs_rowE (S : cs_S) (r : List am_C) (i : Nat) (hi : i < 5) {g : Nat → Int64} (h : S.2.1 (19 + i) = g) : (cs_w S ++ r)[19 + i]? = some (.inl (1, 6, .inr (.inl g))) := h ▸ cs_row S r i hi
abbrev cs_g (S : cs_S) (k i : Nat) : Prop := S.1 4 (i * 4 + k) = 0 ∧ 0 < S.1 3 i
abbrev cs_tc (S : cs_S) (k p : Nat) : Int32 := if S.1 4 (p * 4 + k) = 0 then (if S.1 5 p = 0 then nI 0 else nI 10 - S.1 6 p) else nI 10
def fl_in (f : Nat → Int64) (S : cs_S) (k i : Nat) : Nat → (Nat → Int64)
  | 0 => f
  | t + 1 => vp_updL (fl_in f S k i t) t (if cs_g S k i then (-(S.1 2 (i * 5 + t))).toInt64 else lN 0)
def fl_2 (f : Nat → Int64) (S : cs_S) (k i : Nat) : Nat → Int64 := vp_updL (fl_in f S k i 5) i (fl_in f S k i 5 i + lN 10)
def fl_r (f : Nat → Int64) (S : cs_S) (k i : Nat) : Nat → Int64 := vp_updL (fl_2 f S k i) 5 (if cs_g S k i then lN 0 else (cs_tc S k i).toInt64)
def fl_J (S : cs_S) (k : Nat) : Nat → (Nat → Nat → Int64)
  | 0 => S.2.1
  | i + 1 => va_up (fl_J S k i) (19 + i) (fl_r (fl_J S k i (19 + i)) S k i)
def cr_f (fa fs : Nat → Int64) (pv fc l : Int64) : Nat → (Nat → Int64)
  | 0 => fa
  | t + 1 => vp_updL (cr_f fa fs pv fc l t) t ((pv * cr_f fa fs pv fc l t t - fc * fs t) / l)
def cr_J (J : Nat → Nat → Int64) (a s : Nat) (l : Int64) : Nat → Nat → Int64 := if l = lN 0 then J else va_up J (19 + a) (cr_f (J (19 + a)) (J (19 + s)) (J (19 + s) s) (J (19 + a) s) l 6)
def cc_J (J : Nat → Nat → Int64) (s : Nat) (l : Int64) : Nat → (Nat → Nat → Int64)
  | 0 => J
  | i + 1 => if i = s then cc_J J s l i else cr_J (cc_J J s l i) i s l
def fi_f : Nat → Nat → (Nat → Nat → Int64) → Int64 → (Nat → Nat → Int64) × Int64
  | 0, _, J, l => (J, l)
  | n + 1, s, J, l => if J (19 + s) s = lN 0 then (J, lN 0) else fi_f n (s + 1) (cc_J J s l 5) (J (19 + s) s)
theorem va_up_idl {α : Type} (f : Nat → α) (k : Nat) : va_up f k (f k) = f := by
  funext j; unfold va_up; split
  · rename_i h; rw [h]
  · rfl
theorem c_Wo_aboveOf (S : cs_S) (r : List am_C) (p : Nat) (hp : p < 5) : am_ct y_Wo_aboveOf 0 [.ref 17, .int (nI p)] (cs_w S ++ r) (some (.long (S.2.1 (19 + p) 5))) (cs_w S ++ r) 0 0 := by
  refine am_ct.of rfl (Nat.le_of_ble_eq_true rfl) ?_
  refine aw_aload_n d_Wo_aboveOf_0 rfl ?_
  refine aw_get d_Wo_aboveOf_1 fl_Wo_11 rfl rfl ?_
  refine aw_iload_n d_Wo_aboveOf_4 rfl ?_
  refine aw_aaldN d_Wo_aboveOf_5 rfl (by decide) rfl (by omega) (Nat.le_of_ble_eq_true rfl) (if_pos hp) ?_
  refine aw_iconst (v := nI 5) d_Wo_aboveOf_6 (by decide) ?_
  refine aw_laldN d_Wo_aboveOf_7 (cs_row S r p hp) (by omega) (Nat.le_of_ble_eq_true rfl) ?_
  exact aw_lretE d_Wo_aboveOf_8 rfl rfl rfl rfl rfl
theorem lp_Wo_cr (S : cs_S) (r : List am_C) (a s : Nat) (ha : a < 5) (hs : s < 5) (hne : a ≠ s) (pv fc l : Int64) (hl : ¬ l = lN 0) (w' : List am_C) (hw : cs_w (S.1, va_up S.2.1 (19 + a) (cr_f (S.2.1 (19 + a)) (S.2.1 (19 + s)) pv fc l 6), S.2.2) ++ r = w') : ∀ (n t : Nat), t + n = 6 → AW (am_Mof y_Wo_clearRow) 0 0 0 30 [(9, .int (nI t)), (5, .long pv), (7, .long fc), (0, .ref 17), (1, .int (nI a)), (2, .int (nI s)), (3, .long l)] [] (cs_w (S.1, va_up S.2.1 (19 + a) (cr_f (S.2.1 (19 + a)) (S.2.1 (19 + s)) pv fc l t), S.2.2) ++ r) 0 0 (am_Z none w' 0 0) := by
  intro n
  induction n with
  | zero =>
    intro t ht
    obtain rfl : t = 6 := by omega
    refine aw_iload d_Wo_clearRow_30 rfl ?_
    refine aw_iconst (v := nI 5) d_Wo_clearRow_32 (by decide) ?_
    refine aw_icmp_gt (tgt := 78) d_Wo_clearRow_33 (by decide) (fun h33 => ?_) (fun h33 => absurd (nI_lt (by omega) (by omega)) h33)
    exact aw_vretE d_Wo_clearRow_78 rfl hw rfl rfl
  | succ n ih =>
    intro t ht
    have hsa : va_up S.2.1 (19 + a) (cr_f (S.2.1 (19 + a)) (S.2.1 (19 + s)) pv fc l t) (19 + s) = S.2.1 (19 + s) := va_up_ne _ _ (by omega)
    have haa : va_up S.2.1 (19 + a) (cr_f (S.2.1 (19 + a)) (S.2.1 (19 + s)) pv fc l t) (19 + a) = cr_f (S.2.1 (19 + a)) (S.2.1 (19 + s)) pv fc l t := va_up_self _ _ _
    refine aw_iload d_Wo_clearRow_30 rfl ?_
    refine aw_iconst (v := nI 5) d_Wo_clearRow_32 (by decide) ?_
    refine aw_icmp_gt (tgt := 78) d_Wo_clearRow_33 (by decide) (fun h33 => absurd h33 (nI_nlt (by omega) (by omega))) (fun h33 => ?_)
    refine aw_aload_n d_Wo_clearRow_36 rfl ?_
    refine aw_get d_Wo_clearRow_37 fl_Wo_11 rfl rfl ?_
    refine aw_iload_n d_Wo_clearRow_40 rfl ?_
    refine aw_aaldN d_Wo_clearRow_41 rfl (by decide) rfl (by omega) (Nat.le_of_ble_eq_true rfl) (if_pos ha) ?_
    refine aw_iload d_Wo_clearRow_42 rfl ?_
    refine aw_lload d_Wo_clearRow_44 rfl ?_
    refine aw_aload_n d_Wo_clearRow_46 rfl ?_
    refine aw_get d_Wo_clearRow_47 fl_Wo_11 rfl rfl ?_
    refine aw_iload_n d_Wo_clearRow_50 rfl ?_
    refine aw_aaldN d_Wo_clearRow_51 rfl (by decide) rfl (by omega) (Nat.le_of_ble_eq_true rfl) (if_pos ha) ?_
    refine aw_iload d_Wo_clearRow_52 rfl ?_
    refine aw_laldN d_Wo_clearRow_54 (cs_rowE (S.1, va_up S.2.1 (19 + a) (cr_f (S.2.1 (19 + a)) (S.2.1 (19 + s)) pv fc l t), S.2.2) r a ha haa) (by omega) (Nat.le_of_ble_eq_true rfl) ?_
    refine aw_lmul d_Wo_clearRow_55 ?_
    refine aw_lload d_Wo_clearRow_56 rfl ?_
    refine aw_aload_n d_Wo_clearRow_58 rfl ?_
    refine aw_get d_Wo_clearRow_59 fl_Wo_11 rfl rfl ?_
    refine aw_iload_n d_Wo_clearRow_62 rfl ?_
    refine aw_aaldN d_Wo_clearRow_63 rfl (by decide) rfl (by omega) (Nat.le_of_ble_eq_true rfl) (if_pos hs) ?_
    refine aw_iload d_Wo_clearRow_64 rfl ?_
    refine aw_laldN d_Wo_clearRow_66 (cs_rowE (S.1, va_up S.2.1 (19 + a) (cr_f (S.2.1 (19 + a)) (S.2.1 (19 + s)) pv fc l t), S.2.2) r s hs hsa) (by omega) (Nat.le_of_ble_eq_true rfl) ?_
    refine aw_lmul d_Wo_clearRow_67 ?_
    refine aw_lsub d_Wo_clearRow_68 ?_
    refine aw_lload_n d_Wo_clearRow_69 rfl ?_
    refine aw_ldiv d_Wo_clearRow_70 hl ?_
    refine aw_lastN d_Wo_clearRow_71 (cs_rowE (S.1, va_up S.2.1 (19 + a) (cr_f (S.2.1 (19 + a)) (S.2.1 (19 + s)) pv fc l t), S.2.2) r a ha haa) (by omega) (Nat.le_of_ble_eq_true rfl) (show _ = cs_w (S.1, va_up S.2.1 (19 + a) (cr_f (S.2.1 (19 + a)) (S.2.1 (19 + s)) pv fc l (t + 1)), S.2.2) ++ r from (cs_rowset _ _ _ a ha).trans (by show cs_w (S.1, va_up (va_up _ _ _) _ _, S.2.2) ++ r = _; rw [bx_uu]; rfl)) ?_
    refine aw_iinc d_Wo_clearRow_72 rfl (nI_1 _) (Nat.le_of_ble_eq_true rfl) ?_
    refine aw_goto (tgt := 30) d_Wo_clearRow_75 (by decide) ?_
    exact aw_eql rfl (ih (t + 1) (by omega))
theorem c_Wo_clearRow (S : cs_S) (r : List am_C) (a s : Nat) (ha : a < 5) (hs : s < 5) (hne : a ≠ s) (l : Int64) : am_ct y_Wo_clearRow 0 [.ref 17, .int (nI a), .int (nI s), .long l] (cs_w S ++ r) none (cs_w (S.1, cr_J S.2.1 a s l, S.2.2) ++ r) 0 0 := by
  refine am_ct.of rfl (Nat.le_of_ble_eq_true rfl) ?_
  refine aw_lload_n d_Wo_clearRow_0 rfl ?_
  refine aw_lconst (v := lN 0) d_Wo_clearRow_1 rfl ?_
  refine aw_lc_ne (tgt := 7) d_Wo_clearRow_2 d_Wo_clearRow_3 (by decide) (fun hl => ?_) (fun hl => ?_)
  · refine aw_aload_n d_Wo_clearRow_7 rfl ?_
    refine aw_get d_Wo_clearRow_8 fl_Wo_11 rfl rfl ?_
    refine aw_iload_n d_Wo_clearRow_11 rfl ?_
    refine aw_aaldN d_Wo_clearRow_12 rfl (by decide) rfl (by omega) (Nat.le_of_ble_eq_true rfl) (if_pos hs) ?_
    refine aw_iload_n d_Wo_clearRow_13 rfl ?_
    refine aw_laldN d_Wo_clearRow_14 (cs_row S r s hs) (by omega) (Nat.le_of_ble_eq_true rfl) ?_
    refine aw_lstore d_Wo_clearRow_15 (Nat.le_of_ble_eq_true rfl) ?_
    refine aw_aload_n d_Wo_clearRow_17 rfl ?_
    refine aw_get d_Wo_clearRow_18 fl_Wo_11 rfl rfl ?_
    refine aw_iload_n d_Wo_clearRow_21 rfl ?_
    refine aw_aaldN d_Wo_clearRow_22 rfl (by decide) rfl (by omega) (Nat.le_of_ble_eq_true rfl) (if_pos ha) ?_
    refine aw_iload_n d_Wo_clearRow_23 rfl ?_
    refine aw_laldN d_Wo_clearRow_24 (cs_row S r a ha) (by omega) (Nat.le_of_ble_eq_true rfl) ?_
    refine aw_lstore d_Wo_clearRow_25 (Nat.le_of_ble_eq_true rfl) ?_
    refine aw_iconst (v := nI 0) d_Wo_clearRow_27 (by decide) ?_
    refine aw_istore d_Wo_clearRow_28 (Nat.le_of_ble_eq_true rfl) ?_
    refine aw_eql (lv' := [(9, .int (nI 0)), (7, .long (S.2.1 (19 + a) s)), (5, .long (S.2.1 (19 + s) s)), (0, .ref 17), (1, .int (nI a)), (2, .int (nI s)), (3, .long l)]) rfl ?_
    refine aw_sub (lv' := [(9, .int (nI 0)), (5, .long (S.2.1 (19 + s) s)), (7, .long (S.2.1 (19 + a) s)), (0, .ref 17), (1, .int (nI a)), (2, .int (nI s)), (3, .long l)]) (by simp) ?_
    refine aw_eqw (w' := cs_w (S.1, va_up S.2.1 (19 + a) (cr_f (S.2.1 (19 + a)) (S.2.1 (19 + s)) (S.2.1 (19 + s) s) (S.2.1 (19 + a) s) l 0), S.2.2) ++ r) (by show cs_w S ++ r = cs_w (S.1, va_up S.2.1 (19 + a) (S.2.1 (19 + a)), S.2.2) ++ r; rw [va_up_idl]) ?_
    exact lp_Wo_cr S r a s ha hs hne _ _ l hl _ (by unfold cr_J; rw [if_neg hl]) 6 0 rfl
  · exact aw_vretE d_Wo_clearRow_6 rfl (by unfold cr_J; rw [if_pos hl]) rfl rfl
theorem lp_Wo_cc (S : cs_S) (r : List am_C) (s : Nat) (hs : s < 5) (l : Int64) (w' : List am_C) (hw : cs_w (S.1, cc_J S.2.1 s l 5, S.2.2) ++ r = w') : ∀ (n i : Nat), i + n = 5 → AW (am_Mof y_Wo_clearColumn) 1 0 0 3 [(4, .int (nI i)), (0, .ref 17), (1, .int (nI s)), (2, .long l)] [] (cs_w (S.1, cc_J S.2.1 s l i, S.2.2) ++ r) 0 0 (am_Z none w' 0 0) := by
  intro n
  induction n with
  | zero =>
    intro i hi
    obtain rfl : i = 5 := by omega
    refine aw_iload d_Wo_clearColumn_3 rfl ?_
    refine aw_iconst (v := nI 5) d_Wo_clearColumn_5 (by decide) ?_
    refine aw_icmp_ge (tgt := 29) d_Wo_clearColumn_6 (by decide) (fun h6 => ?_) (fun h6 => absurd (nI_le (Nat.le_refl 5) (by omega)) h6)
    exact aw_vretE d_Wo_clearColumn_29 rfl hw rfl rfl
  | succ n ih =>
    intro i hi
    refine aw_iload d_Wo_clearColumn_3 rfl ?_
    refine aw_iconst (v := nI 5) d_Wo_clearColumn_5 (by decide) ?_
    refine aw_icmp_ge (tgt := 29) d_Wo_clearColumn_6 (by decide) (fun h6 => absurd h6 (nI_ge (by omega) (by omega))) (fun h6 => ?_)
    refine aw_iload d_Wo_clearColumn_9 rfl ?_
    refine aw_iload_n d_Wo_clearColumn_11 rfl ?_
    refine aw_icmp_eq (tgt := 23) d_Wo_clearColumn_12 (by decide) (fun h12 => ?_) (fun h12 => ?_)
    · refine aw_iinc d_Wo_clearColumn_23 rfl (nI_1 _) (Nat.le_of_ble_eq_true rfl) ?_
      refine aw_goto (tgt := 3) d_Wo_clearColumn_26 (by decide) ?_
      have hq : cc_J S.2.1 s l (i + 1) = cc_J S.2.1 s l i := if_pos ((nI_eq (by omega) (by omega)).mp h12)
      refine aw_eqw (w' := cs_w (S.1, cc_J S.2.1 s l (i + 1), S.2.2) ++ r) (by rw [hq]) ?_
      exact aw_eql rfl (ih (i + 1) (by omega))
    · have hne : ¬ i = s := fun e => h12 (by rw [e])
      refine aw_aload_n d_Wo_clearColumn_15 rfl ?_
      refine aw_iload d_Wo_clearColumn_16 rfl ?_
      refine aw_iload_n d_Wo_clearColumn_18 rfl ?_
      refine aw_lload_n d_Wo_clearColumn_19 rfl ?_
      refine aw_cV0 d_Wo_clearColumn_20 (c_Wo_clearRow (S.1, cc_J S.2.1 s l i, S.2.2) r i s (by omega) hs hne l) mk_Wo_clearRow is_Wo_clearRow ln_Wo_39 rfl rfl rfl rfl (Nat.le_of_ble_eq_true rfl) (Nat.le_of_ble_eq_true rfl) (Nat.le_of_ble_eq_true rfl) (Nat.le_of_ble_eq_true rfl) ?_
      refine aw_iinc d_Wo_clearColumn_23 rfl (nI_1 _) (Nat.le_of_ble_eq_true rfl) ?_
      refine aw_goto (tgt := 3) d_Wo_clearColumn_26 (by decide) ?_
      have hq : cc_J S.2.1 s l (i + 1) = cr_J (cc_J S.2.1 s l i) i s l := if_neg hne
      refine aw_eqw (w' := cs_w (S.1, cc_J S.2.1 s l (i + 1), S.2.2) ++ r) (by rw [hq]) ?_
      exact aw_eql rfl (ih (i + 1) (by omega))
theorem c_Wo_clearColumn (S : cs_S) (r : List am_C) (s : Nat) (hs : s < 5) (l : Int64) : am_ct y_Wo_clearColumn 1 [.ref 17, .int (nI s), .long l] (cs_w S ++ r) none (cs_w (S.1, cc_J S.2.1 s l 5, S.2.2) ++ r) 0 0 := by
  refine am_ct.of rfl (Nat.le_of_ble_eq_true rfl) ?_
  refine aw_iconst (v := nI 0) d_Wo_clearColumn_0 (by decide) ?_
  refine aw_istore d_Wo_clearColumn_1 (Nat.le_of_ble_eq_true rfl) ?_
  exact aw_eql rfl (lp_Wo_cc S r s hs l _ rfl 5 0 rfl)
theorem lp_Wo_f1 (S : cs_S) (r : List am_C) (J : Nat → Nat → Int64) (k i : Nat) (hi : i < 5) (Z : am_E) (K : AW (am_Mof y_Wo_fill) 3 0 0 57 [(5, .int (nI 5)), (4, .int (bI (cs_g S k i))), (3, .int (nI i)), (0, .ref 17), (1, .ref 1), (2, .int (nI k))] [] (cs_w (S.1, va_up J (19 + i) (fl_in (J (19 + i)) S k i 5), S.2.2) ++ r) 0 0 Z) : ∀ (n t : Nat), t + n = 5 → AW (am_Mof y_Wo_fill) 3 0 0 18 [(5, .int (nI t)), (4, .int (bI (cs_g S k i))), (3, .int (nI i)), (0, .ref 17), (1, .ref 1), (2, .int (nI k))] [] (cs_w (S.1, va_up J (19 + i) (fl_in (J (19 + i)) S k i t), S.2.2) ++ r) 0 0 Z := by
  intro n
  induction n with
  | zero =>
    intro t ht
    obtain rfl : t = 5 := by omega
    refine aw_iload d_Wo_fill_18 rfl ?_
    refine aw_iconst (v := nI 5) d_Wo_fill_20 (by decide) ?_
    refine aw_icmp_ge (tgt := 57) d_Wo_fill_21 (by decide) (fun h21 => ?_) (fun h21 => absurd (nI_le (Nat.le_refl 5) (by omega)) h21)
    exact K
  | succ n ih =>
    intro t ht
    have haa : va_up J (19 + i) (fl_in (J (19 + i)) S k i t) (19 + i) = fl_in (J (19 + i)) S k i t := va_up_self _ _ _
    refine aw_iload d_Wo_fill_18 rfl ?_
    refine aw_iconst (v := nI 5) d_Wo_fill_20 (by decide) ?_
    refine aw_icmp_ge (tgt := 57) d_Wo_fill_21 (by decide) (fun h21 => absurd h21 (nI_ge (by omega) (by omega))) (fun h21 => ?_)
    refine aw_aload_n d_Wo_fill_24 rfl ?_
    refine aw_get d_Wo_fill_25 fl_Wo_11 rfl rfl ?_
    refine aw_iload_n d_Wo_fill_28 rfl ?_
    refine aw_aaldN d_Wo_fill_29 rfl (by decide) rfl (by omega) (Nat.le_of_ble_eq_true rfl) (if_pos hi) ?_
    refine aw_iload d_Wo_fill_30 rfl ?_
    refine aw_iload d_Wo_fill_32 rfl ?_
    refine aw_if_eq (tgt := 49) d_Wo_fill_34 (by decide) (fun h34 => ?_) (fun h34 => ?_)
    · refine aw_lconst (v := lN 0) d_Wo_fill_49 rfl ?_
      refine aw_eqs (st' := [.long (if cs_g S k i then (-(S.1 2 (i * 5 + t))).toInt64 else lN 0), .int (nI t), .ref (19 + i)]) (by rw [if_neg ((bI_0 _).mp h34)]) ?_
      refine aw_lastN d_Wo_fill_50 (cs_rowE (S.1, va_up J (19 + i) (fl_in (J (19 + i)) S k i t), S.2.2) r i hi haa) (by omega) (Nat.le_of_ble_eq_true rfl) (show _ = cs_w (S.1, va_up J (19 + i) (fl_in (J (19 + i)) S k i (t + 1)), S.2.2) ++ r from (cs_rowset _ _ _ i hi).trans (by show cs_w (S.1, va_up (va_up _ _ _) _ _, S.2.2) ++ r = _; rw [bx_uu]; rfl)) ?_
      refine aw_iinc d_Wo_fill_51 rfl (nI_1 _) (Nat.le_of_ble_eq_true rfl) ?_
      refine aw_goto (tgt := 18) d_Wo_fill_54 (by decide) ?_
      exact aw_eql rfl (ih (t + 1) (by omega))
    · refine aw_aload_n d_Wo_fill_37 rfl ?_
      refine aw_iload_n d_Wo_fill_38 rfl ?_
      refine aw_iload d_Wo_fill_39 rfl ?_
      refine aw_cV1 d_Wo_fill_41 (c_Pl_shareOf (S.1, va_up J (19 + i) (fl_in (J (19 + i)) S k i t), S.2.2) r i t hi (by omega)) mk_Pl_shareOf is_Pl_shareOf ln_Wo_30 rfl rfl rfl rfl (Nat.le_of_ble_eq_true rfl) (Nat.le_of_ble_eq_true rfl) (Nat.le_of_ble_eq_true rfl) (Nat.le_of_ble_eq_true rfl) ?_
      refine aw_ineg d_Wo_fill_44 ?_
      refine aw_i2l d_Wo_fill_45 ?_
      refine aw_goto (tgt := 50) d_Wo_fill_46 (by decide) ?_
      refine aw_eqs (st' := [.long (if cs_g S k i then (-(S.1 2 (i * 5 + t))).toInt64 else lN 0), .int (nI t), .ref (19 + i)]) (by rw [if_pos (Decidable.not_not.mp (fun c2 => h34 ((bI_0 _).mpr c2)))]) ?_
      refine aw_lastN d_Wo_fill_50 (cs_rowE (S.1, va_up J (19 + i) (fl_in (J (19 + i)) S k i t), S.2.2) r i hi haa) (by omega) (Nat.le_of_ble_eq_true rfl) (show _ = cs_w (S.1, va_up J (19 + i) (fl_in (J (19 + i)) S k i (t + 1)), S.2.2) ++ r from (cs_rowset _ _ _ i hi).trans (by show cs_w (S.1, va_up (va_up _ _ _) _ _, S.2.2) ++ r = _; rw [bx_uu]; rfl)) ?_
      refine aw_iinc d_Wo_fill_51 rfl (nI_1 _) (Nat.le_of_ble_eq_true rfl) ?_
      refine aw_goto (tgt := 18) d_Wo_fill_54 (by decide) ?_
      exact aw_eql rfl (ih (t + 1) (by omega))
theorem lp_Wo_f2 (S : cs_S) (r : List am_C) (k : Nat) (hk : k < 4) (hb : b01 (S.1 4)) (w' : List am_C) (hw : cs_w (S.1, fl_J S k 5, S.2.2) ++ r = w') : ∀ (n i : Nat), i + n = 5 → AW (am_Mof y_Wo_fill) 3 0 0 2 [(3, .int (nI i)), (0, .ref 17), (1, .ref 1), (2, .int (nI k))] [] (cs_w (S.1, fl_J S k i, S.2.2) ++ r) 0 0 (am_Z none w' 0 0) := by
  intro n
  induction n with
  | zero =>
    intro i hi
    obtain rfl : i = 5 := by omega
    refine aw_iload_n d_Wo_fill_2 rfl ?_
    refine aw_iconst (v := nI 5) d_Wo_fill_3 (by decide) ?_
    refine aw_icmp_ge (tgt := 101) d_Wo_fill_4 (by decide) (fun h4 => ?_) (fun h4 => absurd (nI_le (Nat.le_refl 5) (by omega)) h4)
    exact aw_vretE d_Wo_fill_101 rfl hw rfl rfl
  | succ n ih =>
    intro i hi
    have h5 : i < 5 := by omega
    refine aw_iload_n d_Wo_fill_2 rfl ?_
    refine aw_iconst (v := nI 5) d_Wo_fill_3 (by decide) ?_
    refine aw_icmp_ge (tgt := 101) d_Wo_fill_4 (by decide) (fun h4 => absurd h4 (nI_ge (by omega) (by omega))) (fun h4 => ?_)
    refine aw_aload_n d_Wo_fill_7 rfl ?_
    refine aw_iload_n d_Wo_fill_8 rfl ?_
    refine aw_iload_n d_Wo_fill_9 rfl ?_
    refine aw_cV1 d_Wo_fill_10 (c_Pl_goesOn (S.1, fl_J S k i, S.2.2) r i k h5 hk hb) mk_Pl_goesOn is_Pl_goesOn ln_Wo_24 rfl rfl rfl rfl (Nat.le_of_ble_eq_true rfl) (Nat.le_of_ble_eq_true rfl) (Nat.le_of_ble_eq_true rfl) (Nat.le_of_ble_eq_true rfl) ?_
    refine aw_istore d_Wo_fill_13 (Nat.le_of_ble_eq_true rfl) ?_
    refine aw_iconst (v := nI 0) d_Wo_fill_15 (by decide) ?_
    refine aw_istore d_Wo_fill_16 (Nat.le_of_ble_eq_true rfl) ?_
    refine aw_eql (lv' := [(5, .int (nI 0)), (4, .int (bI (cs_g S k i))), (3, .int (nI i)), (0, .ref 17), (1, .ref 1), (2, .int (nI k))]) rfl ?_
    refine aw_eqw (w' := cs_w (S.1, va_up (fl_J S k i) (19 + i) (fl_in (fl_J S k i (19 + i)) S k i 0), S.2.2) ++ r) (by show cs_w (S.1, fl_J S k i, S.2.2) ++ r = cs_w (S.1, va_up (fl_J S k i) (19 + i) (fl_J S k i (19 + i)), S.2.2) ++ r; rw [va_up_idl]) ?_
    refine lp_Wo_f1 S r (fl_J S k i) k i h5 _ ?_ 5 0 rfl
    refine aw_aload_n d_Wo_fill_57 rfl ?_
    refine aw_get d_Wo_fill_58 fl_Wo_11 rfl rfl ?_
    refine aw_iload_n d_Wo_fill_61 rfl ?_
    refine aw_aaldN d_Wo_fill_62 rfl (by decide) rfl (by omega) (Nat.le_of_ble_eq_true rfl) (if_pos h5) ?_
    refine aw_iload_n d_Wo_fill_63 rfl ?_
    refine aw_dup2 d_Wo_fill_64 rfl rfl ?_
    refine aw_laldN d_Wo_fill_65 (cs_rowE (S.1, va_up (fl_J S k i) (19 + i) (fl_in (fl_J S k i (19 + i)) S k i 5), S.2.2) r i h5 (va_up_self _ _ _)) (by omega) (Nat.le_of_ble_eq_true rfl) ?_
    refine aw_ldc2 (v := lN 10) d_Wo_fill_66 kl_Wo_34 ?_
    refine aw_ladd d_Wo_fill_69 ?_
    refine aw_lastN d_Wo_fill_70 (cs_rowE (S.1, va_up (fl_J S k i) (19 + i) (fl_in (fl_J S k i (19 + i)) S k i 5), S.2.2) r i h5 (va_up_self _ _ _)) (by omega) (Nat.le_of_ble_eq_true rfl) (show _ = cs_w (S.1, va_up (fl_J S k i) (19 + i) (fl_2 (fl_J S k i (19 + i)) S k i), S.2.2) ++ r from (cs_rowset _ _ _ i h5).trans (by show cs_w (S.1, va_up (va_up _ _ _) _ _, S.2.2) ++ r = _; rw [bx_uu]; rfl)) ?_
    refine aw_aload_n d_Wo_fill_71 rfl ?_
    refine aw_get d_Wo_fill_72 fl_Wo_11 rfl rfl ?_
    refine aw_iload_n d_Wo_fill_75 rfl ?_
    refine aw_aaldN d_Wo_fill_76 rfl (by decide) rfl (by omega) (Nat.le_of_ble_eq_true rfl) (if_pos h5) ?_
    refine aw_iconst (v := nI 5) d_Wo_fill_77 (by decide) ?_
    refine aw_iload d_Wo_fill_78 rfl ?_
    refine aw_if_eq (tgt := 87) d_Wo_fill_80 (by decide) (fun h80 => ?_) (fun h80 => ?_)
    · refine aw_aload_n d_Wo_fill_87 rfl ?_
      refine aw_iload_n d_Wo_fill_88 rfl ?_
      refine aw_iload_n d_Wo_fill_89 rfl ?_
      refine aw_cV1 d_Wo_fill_90 (c_Pl_tenthsCounted (S.1, va_up (fl_J S k i) (19 + i) (fl_2 (fl_J S k i (19 + i)) S k i), S.2.2) r i k h5 hk hb) mk_Pl_tenthsCounted is_Pl_tenthsCounted ln_Wo_36 rfl rfl rfl rfl (Nat.le_of_ble_eq_true rfl) (Nat.le_of_ble_eq_true rfl) (Nat.le_of_ble_eq_true rfl) (Nat.le_of_ble_eq_true rfl) ?_
      refine aw_i2l d_Wo_fill_93 ?_
      refine aw_eqs (st' := [.long (if cs_g S k i then lN 0 else (cs_tc S k i).toInt64), .int (nI 5), .ref (19 + i)]) (by rw [if_neg ((bI_0 _).mp h80)]) ?_
      refine aw_lastN d_Wo_fill_94 (cs_rowE (S.1, va_up (fl_J S k i) (19 + i) (fl_2 (fl_J S k i (19 + i)) S k i), S.2.2) r i h5 (va_up_self _ _ _)) (by omega) (Nat.le_of_ble_eq_true rfl) (show _ = cs_w (S.1, fl_J S k (i + 1), S.2.2) ++ r from (cs_rowset _ _ _ i h5).trans (by show cs_w (S.1, va_up (va_up _ _ _) _ _, S.2.2) ++ r = _; rw [bx_uu]; rfl)) ?_
      refine aw_iinc d_Wo_fill_95 rfl (nI_1 _) (Nat.le_of_ble_eq_true rfl) ?_
      refine aw_goto (tgt := 2) d_Wo_fill_98 (by decide) ?_
      refine aw_pick (lv' := [(3, .int (nI (i + 1))), (0, .ref 17), (1, .ref 1), (2, .int (nI k))]) ⟨rfl, rfl, rfl, rfl, trivial⟩ ?_
      exact ih (i + 1) (by omega)
    · refine aw_lconst (v := lN 0) d_Wo_fill_83 rfl ?_
      refine aw_goto (tgt := 94) d_Wo_fill_84 (by decide) ?_
      refine aw_eqs (st' := [.long (if cs_g S k i then lN 0 else (cs_tc S k i).toInt64), .int (nI 5), .ref (19 + i)]) (by rw [if_pos (Decidable.not_not.mp (fun c2 => h80 ((bI_0 _).mpr c2)))]) ?_
      refine aw_lastN d_Wo_fill_94 (cs_rowE (S.1, va_up (fl_J S k i) (19 + i) (fl_2 (fl_J S k i (19 + i)) S k i), S.2.2) r i h5 (va_up_self _ _ _)) (by omega) (Nat.le_of_ble_eq_true rfl) (show _ = cs_w (S.1, fl_J S k (i + 1), S.2.2) ++ r from (cs_rowset _ _ _ i h5).trans (by show cs_w (S.1, va_up (va_up _ _ _) _ _, S.2.2) ++ r = _; rw [bx_uu]; rfl)) ?_
      refine aw_iinc d_Wo_fill_95 rfl (nI_1 _) (Nat.le_of_ble_eq_true rfl) ?_
      refine aw_goto (tgt := 2) d_Wo_fill_98 (by decide) ?_
      refine aw_pick (lv' := [(3, .int (nI (i + 1))), (0, .ref 17), (1, .ref 1), (2, .int (nI k))]) ⟨rfl, rfl, rfl, rfl, trivial⟩ ?_
      exact ih (i + 1) (by omega)
theorem c_Wo_fill (S : cs_S) (r : List am_C) (k : Nat) (hk : k < 4) (hb : b01 (S.1 4)) : am_ct y_Wo_fill 3 [.ref 17, .ref 1, .int (nI k)] (cs_w S ++ r) none (cs_w (S.1, fl_J S k 5, S.2.2) ++ r) 0 0 := by
  refine am_ct.of rfl (Nat.le_of_ble_eq_true rfl) ?_
  refine aw_iconst (v := nI 0) d_Wo_fill_0 (by decide) ?_
  refine aw_istore_n d_Wo_fill_1 (Nat.le_of_ble_eq_true rfl) ?_
  exact aw_eql rfl (lp_Wo_f2 S r k hk hb _ rfl 5 0 rfl)
theorem lp_Wo_find (S : cs_S) (r : List am_C) : ∀ (n s : Nat) (J : Nat → Nat → Int64) (l : Int64) (x6 : List (Nat × Value)), s + n = 5 → AW (am_Mof y_Wo_find) 4 0 0 11 ([(5, .int (nI s)), (3, .long l)] ++ x6 ++ [(0, .ref 17)]) [] (cs_w (S.1, J, S.2.2) ++ r) 0 0 (am_Z (some (.long (fi_f n s J l).2)) (cs_w (S.1, (fi_f n s J l).1, S.2.2) ++ r) 0 0) := by
  intro n
  induction n with
  | zero =>
    intro s J l x6 hs
    obtain rfl : s = 5 := by omega
    refine aw_sub (lv' := [(5, .int (nI 5)), (3, .long l), (0, .ref 17)]) (by simp) ?_
    refine aw_iload d_Wo_find_11 rfl ?_
    refine aw_iconst (v := nI 5) d_Wo_find_13 (by decide) ?_
    refine aw_icmp_ge (tgt := 54) d_Wo_find_14 (by decide) (fun h14 => ?_) (fun h14 => absurd (nI_le (Nat.le_refl 5) (by omega)) h14)
    refine aw_lload_n d_Wo_find_54 rfl ?_
    exact aw_lretE d_Wo_find_55 rfl rfl rfl rfl rfl
  | succ n ih =>
    intro s J l x6 hs
    have h5 : s < 5 := by omega
    refine aw_sub (lv' := [(5, .int (nI s)), (3, .long l), (0, .ref 17)]) (by simp) ?_
    refine aw_iload d_Wo_find_11 rfl ?_
    refine aw_iconst (v := nI 5) d_Wo_find_13 (by decide) ?_
    refine aw_icmp_ge (tgt := 54) d_Wo_find_14 (by decide) (fun h14 => absurd h14 (nI_ge (by omega) (by omega))) (fun h14 => ?_)
    refine aw_aload_n d_Wo_find_17 rfl ?_
    refine aw_get d_Wo_find_18 fl_Wo_11 rfl rfl ?_
    refine aw_iload d_Wo_find_21 rfl ?_
    refine aw_aaldN d_Wo_find_23 rfl (by decide) rfl (by omega) (Nat.le_of_ble_eq_true rfl) (if_pos h5) ?_
    refine aw_iload d_Wo_find_24 rfl ?_
    refine aw_laldN d_Wo_find_26 (cs_row (S.1, J, S.2.2) r s h5) (by omega) (Nat.le_of_ble_eq_true rfl) ?_
    refine aw_lstore d_Wo_find_27 (Nat.le_of_ble_eq_true rfl) ?_
    refine aw_lload d_Wo_find_29 rfl ?_
    refine aw_lconst (v := lN 0) d_Wo_find_31 rfl ?_
    refine aw_lc_ne (tgt := 38) d_Wo_find_32 d_Wo_find_33 (by decide) (fun h33 => ?_) (fun h33 => ?_)
    · refine aw_aload_n d_Wo_find_38 rfl ?_
      refine aw_iload d_Wo_find_39 rfl ?_
      refine aw_lload_n d_Wo_find_41 rfl ?_
      refine aw_cV0 d_Wo_find_42 (c_Wo_clearColumn (S.1, J, S.2.2) r s h5 l) mk_Wo_clearColumn is_Wo_clearColumn ln_Wo_20 rfl rfl rfl rfl (Nat.le_of_ble_eq_true rfl) (Nat.le_of_ble_eq_true rfl) (Nat.le_of_ble_eq_true rfl) (Nat.le_of_ble_eq_true rfl) ?_
      refine aw_lload d_Wo_find_45 rfl ?_
      refine aw_lstore_n d_Wo_find_47 (Nat.le_of_ble_eq_true rfl) ?_
      refine aw_iinc d_Wo_find_48 rfl (nI_1 _) (Nat.le_of_ble_eq_true rfl) ?_
      refine aw_goto (tgt := 11) d_Wo_find_51 (by decide) ?_
      have hq : fi_f (n + 1) s J l = fi_f n (s + 1) (cc_J J s l 5) (J (19 + s) s) := if_neg h33
      rw [hq]
      refine aw_pick (lv' := [(5, .int (nI (s + 1))), (3, .long (J (19 + s) s)), (0, .ref 17)]) ⟨rfl, rfl, rfl, trivial⟩ ?_
      exact ih (s + 1) _ _ [] (by omega)
    · refine aw_lconst (v := lN 0) d_Wo_find_36 rfl ?_
      exact aw_lretE d_Wo_find_37 rfl (by show lN 0 = (if _ then _ else _ : (Nat → Nat → Int64) × Int64).2; rw [if_pos h33]) (by show _ = cs_w (S.1, (if _ then _ else _ : (Nat → Nat → Int64) × Int64).1, S.2.2) ++ r; rw [if_pos h33]) rfl rfl
theorem c_Wo_find (S : cs_S) (r : List am_C) (k : Nat) (hk : k < 4) (hb : b01 (S.1 4)) : am_ct y_Wo_find 4 [.ref 17, .ref 1, .int (nI k)] (cs_w S ++ r) (some (.long (fi_f 5 0 (fl_J S k 5) (lN 1)).2)) (cs_w (S.1, (fi_f 5 0 (fl_J S k 5) (lN 1)).1, S.2.2) ++ r) 0 0 := by
  refine am_ct.of rfl (Nat.le_of_ble_eq_true rfl) ?_
  refine aw_aload_n d_Wo_find_0 rfl ?_
  refine aw_aload_n d_Wo_find_1 rfl ?_
  refine aw_iload_n d_Wo_find_2 rfl ?_
  refine aw_cV0 d_Wo_find_3 (c_Wo_fill S r k hk hb) mk_Wo_fill is_Wo_fill ln_Wo_16 rfl rfl rfl rfl (Nat.le_of_ble_eq_true rfl) (Nat.le_of_ble_eq_true rfl) (Nat.le_of_ble_eq_true rfl) (Nat.le_of_ble_eq_true rfl) ?_
  refine aw_lconst (v := lN 1) d_Wo_find_6 rfl ?_
  refine aw_lstore_n d_Wo_find_7 (Nat.le_of_ble_eq_true rfl) ?_
  refine aw_iconst (v := nI 0) d_Wo_find_8 (by decide) ?_
  refine aw_istore d_Wo_find_9 (Nat.le_of_ble_eq_true rfl) ?_
  refine aw_pick (lv' := [(5, .int (nI 0)), (3, .long (lN 1)), (0, .ref 17)]) ⟨rfl, rfl, rfl, trivial⟩ ?_
  exact lp_Wo_find S r 5 0 (fl_J S k 5) (lN 1) [] rfl
