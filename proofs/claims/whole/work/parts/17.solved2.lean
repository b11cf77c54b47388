/-! RateChains$Solved: keeping -/
abbrev kw_F (S : cs_S) (k : Nat) : (Nat → Nat → Int64) × Int64 := fi_f 5 0 (fl_J S k 5) (lN 1)
def kw_1 (S : cs_S) (k : Nat) : Nat → Nat → Int64 := va_up (kw_F S k).1 24 (vp_updL ((kw_F S k).1 24) k (kw_F S k).2)
def kw_f (J : Nat → Nat → Int64) (k : Nat) : Nat → (Nat → Int64)
  | 0 => J 25
  | p + 1 => vp_updL (kw_f J k p) (p * 4 + k) (J (19 + p) 5)
def kw_J (S : cs_S) (k : Nat) : Nat → Nat → Int64 := va_up (kw_1 S k) 25 (kw_f (kw_1 S k) k 5)
def zb_f (f : Nat → Int32) : Nat → (Nat → Int32)
  | 0 => f
  | p + 1 => upd (zb_f f p) p 0
def cs_cl (S : cs_S) : cs_S := cs_I (cs_J (cs_J (cs_J S 26 (cl_f (S.2.1 26) 200)) 27 (cl_f (S.2.1 27) 40)) 28 (cl_f (S.2.1 28) 160)) 31 (zb_f (S.1 31) 5)
def mt_b (J : Nat → Nat → Int64) : Nat → (Nat → Int64)
  | 0 => J 27
  | y + 1 => vp_updL (mt_b J y) (3 * 10 + y) (mt_b J y (3 * 10 + y) + J 14 y)
def mt_c (J : Nat → Nat → Int64) : Nat → (Nat → Int64)
  | 0 => J 28
  | y + 1 => vp_updL (mt_c J y) (0 * 4 * 10 + (3 * 10 + y)) (mt_c J y (0 * 4 * 10 + (3 * 10 + y)) + J 14 y * J 24 3)
def mt_J (J : Nat → Nat → Int64) (y : Nat) : Nat → Nat → Int64 := va_up (va_up J 27 (mt_b J y)) 28 (mt_c J y)
def ad_J (J : Nat → Nat → Int64) (p k y c j : Nat) : Nat → Nat → Int64 :=
  va_up (va_up (va_up J 26 (vp_updL (J 26) ((p * 4 + k) * 10 + y) (J 26 ((p * 4 + k) * 10 + y) + J 13 j))) 27 (vp_updL (J 27) (k * 10 + y) (J 27 (k * 10 + y) + J 13 j))) 28 (vp_updL (J 28) (c * 4 * 10 + (k * 10 + y)) (J 28 (c * 4 * 10 + (k * 10 + y)) + J 13 j * J 25 (p * 4 + k)))
def fs_y (a b : Nat → Int64) (st : Nat → Int64) (c k : Nat) : Nat → (Nat → Int64)
  | 0 => st
  | y + 1 => vp_updL (fs_y a b st c k y) (c * 4 * 10 + (k * 10 + y)) (dn_f (a k) (b (c * 4 * 10 + (k * 10 + y))))
def fs_k (a b : Nat → Int64) (st : Nat → Int64) (c : Nat) : Nat → (Nat → Int64)
  | 0 => st
  | k + 1 => fs_y a b (fs_k a b st c k) c k 10
def fs_c (a b : Nat → Int64) (st : Nat → Int64) : Nat → (Nat → Int64)
  | 0 => st
  | c + 1 => fs_k a b (fs_c a b st c) c 4
def nx_f (sh e : Nat → Int32) (p : Nat) : Nat → (Nat → Int32)
  | 0 => e
  | t + 1 => upd (nx_f sh e p t) t (bI (nx_f sh e p t t ≠ 0 ∨ 0 < sh (p * 5 + t)))
def fc_2 (S : cs_S) (k : Nat) (e : Nat → Int32) : Nat → (Nat → Int32)
  | 0 => e
  | j + 1 => if S.1 10 j = nI k ∧ lN 0 < S.2.1 13 j then upd (fc_2 S k e j) (S.1 9 j).toNatClampNeg 1 else fc_2 S k e j
def fc_3 (S : cs_S) (k : Nat) (e : Nat → Int32) : Nat → (Nat → Int32)
  | 0 => e
  | p + 1 => if fc_3 S k e p p ≠ 0 ∧ cs_g S k p then nx_f (S.1 2) (fc_3 S k e p) p 5 else fc_3 S k e p
def fc_4 (S : cs_S) (k : Nat) (e : Nat → Int32) : Nat → (Nat → Int32)
  | 0 => e
  | s + 1 => fc_3 S k (fc_4 S k e s) 5
def fc_R (S : cs_S) (k n : Nat) : Nat → Int32 := fc_4 S k (fc_2 S k (zb_f (S.1 30) 5) n) 4
abbrev cs_b (S : cs_S) (k p : Nat) : Prop := S.1 4 (p * 4 + k) = 0 ∧ S.1 3 p = 0 ∧ S.1 5 p = 0
def lb_f (S : cs_S) (k : Nat) (e f : Nat → Int32) : Nat → (Nat → Int32)
  | 0 => f
  | p + 1 => if e p ≠ 0 ∧ cs_b S k p then upd (lb_f S k e f p) p 1 else lb_f S k e f p
theorem lp_So_kw (S : cs_S) (r : List am_C) (k : Nat) (hk : k < 4) (J : Nat → Nat → Int64) : ∀ (n p : Nat), p + n = 5 → AW (am_Mof y_So_keepWorths) 5 0 0 17 [(3, .int (nI p)), (0, .ref 16), (1, .ref 1), (2, .int (nI k))] [] (cs_w (S.1, va_up J 25 (kw_f J k p), S.2.2) ++ r) 0 0 (am_Z none (cs_w (S.1, va_up J 25 (kw_f J k 5), S.2.2) ++ r) 0 0) := by
  intro n
  induction n with
  | zero =>
    intro p hp
    obtain rfl : p = 5 := by omega
    refine aw_iload_n d_So_keepWorths_17 rfl ?_
    refine aw_iconst (v := nI 5) d_So_keepWorths_18 (by decide) ?_
    refine aw_icmp_ge (tgt := 46) d_So_keepWorths_19 (by decide) (fun h19 => ?_) (fun h19 => absurd (nI_le (Nat.le_refl 5) (by omega)) h19)
    exact aw_vretE d_So_keepWorths_46 rfl rfl rfl rfl
  | succ n ih =>
    intro p hp
    have hJ : (va_up J 25 (kw_f J k p)) (19 + p) = J (19 + p) := va_up_ne _ _ (by omega)
    refine aw_iload_n d_So_keepWorths_17 rfl ?_
    refine aw_iconst (v := nI 5) d_So_keepWorths_18 (by decide) ?_
    refine aw_icmp_ge (tgt := 46) d_So_keepWorths_19 (by decide) (fun h19 => absurd h19 (nI_ge (by omega) (by omega))) (fun h19 => ?_)
    refine aw_aload_n d_So_keepWorths_22 rfl ?_
    refine aw_get d_So_keepWorths_23 fl_So_22 rfl rfl ?_
    refine aw_iload_n d_So_keepWorths_26 rfl ?_
    refine aw_iload_n d_So_keepWorths_27 rfl ?_
    refine aw_cSN1 d_So_keepWorths_28 (c_RC_slotOf _ p k) mk_RC_slotOf is_RC_slotOf ln_So_64 rfl rfl (Nat.le_of_ble_eq_true rfl) (Nat.le_of_ble_eq_true rfl) (Nat.le_of_ble_eq_true rfl) (Nat.le_of_ble_eq_true rfl) ?_
    refine aw_aload_n d_So_keepWorths_31 rfl ?_
    refine aw_get d_So_keepWorths_32 fl_So_12 rfl rfl ?_
    refine aw_iload_n d_So_keepWorths_35 rfl ?_
    refine aw_cV1 d_So_keepWorths_36 (c_Wo_aboveOf (S.1, va_up J 25 (kw_f J k p), S.2.2) r p (by omega)) mk_Wo_aboveOf is_Wo_aboveOf ln_So_117 rfl rfl rfl rfl (Nat.le_of_ble_eq_true rfl) (Nat.le_of_ble_eq_true rfl) (Nat.le_of_ble_eq_true rfl) (Nat.le_of_ble_eq_true rfl) ?_
    refine aw_eqs (st' := [.long (J (19 + p) 5), .int (nI (p * 4 + k)), .ref 25]) (congrArg (fun f : Nat → Int64 => [Value.long (f 5), Value.int (nI (p * 4 + k)), Value.ref 25]) hJ) ?_
    refine aw_lastN d_So_keepWorths_39 rfl (by omega) (Nat.le_of_ble_eq_true rfl) (show _ = cs_w (S.1, va_up J 25 (kw_f J k (p + 1)), S.2.2) ++ r from (cs_s25 _ _ _).trans (by show cs_w (S.1, va_up (va_up _ _ _) _ _, S.2.2) ++ r = _; rw [bx_uu]; rfl)) ?_
    refine aw_iinc d_So_keepWorths_40 rfl (nI_1 _) (Nat.le_of_ble_eq_true rfl) ?_
    refine aw_goto (tgt := 17) d_So_keepWorths_43 (by decide) ?_
    exact aw_eql rfl (ih (p + 1) (by omega))
theorem c_So_keepWorths (S : cs_S) (r : List am_C) (k : Nat) (hk : k < 4) (hb : b01 (S.1 4)) : am_ct y_So_keepWorths 5 [.ref 16, .ref 1, .int (nI k)] (cs_w S ++ r) none (cs_w (S.1, kw_J S k, S.2.2) ++ r) 0 0 := by
  refine am_ct.of rfl (Nat.le_of_ble_eq_true rfl) ?_
  refine aw_aload_n d_So_keepWorths_0 rfl ?_
  refine aw_get d_So_keepWorths_1 fl_So_18 rfl rfl ?_
  refine aw_iload_n d_So_keepWorths_4 rfl ?_
  refine aw_aload_n d_So_keepWorths_5 rfl ?_
  refine aw_get d_So_keepWorths_6 fl_So_12 rfl rfl ?_
  refine aw_aload_n d_So_keepWorths_9 rfl ?_
  refine aw_iload_n d_So_keepWorths_10 rfl ?_
  refine aw_cV1 d_So_keepWorths_11 (c_Wo_find S r k hk hb) mk_Wo_find is_Wo_find ln_So_113 rfl rfl rfl rfl (Nat.le_of_ble_eq_true rfl) (Nat.le_of_ble_eq_true rfl) (Nat.le_of_ble_eq_true rfl) (Nat.le_of_ble_eq_true rfl) ?_
  refine aw_lastN d_So_keepWorths_14 rfl (by omega) (Nat.le_of_ble_eq_true rfl) (show _ = cs_w (S.1, kw_1 S k, S.2.2) ++ r from cs_s24 _ _ _) ?_
  refine aw_iconst (v := nI 0) d_So_keepWorths_15 (by decide) ?_
  refine aw_istore_n d_So_keepWorths_16 (Nat.le_of_ble_eq_true rfl) ?_
  refine aw_eqw (w' := cs_w (S.1, va_up (kw_1 S k) 25 (kw_f (kw_1 S k) k 0), S.2.2) ++ r) (by show cs_w (S.1, kw_1 S k, S.2.2) ++ r = cs_w (S.1, va_up (kw_1 S k) 25 (kw_1 S k 25), S.2.2) ++ r; rw [va_up_idl]) ?_
  exact aw_eql rfl (lp_So_kw S r k hk (kw_1 S k) 5 0 rfl)
theorem lp_So_zb (S : cs_S) (r : List am_C) : ∀ (n p : Nat), p + n = 5 → AW (am_Mof y_So_clearSums) 1 0 0 23 [(1, .int (nI p)), (0, .ref 16)] [] (cs_w (cs_I S 31 (zb_f (S.1 31) p)) ++ r) 0 0 (am_Z none (cs_w (cs_I S 31 (zb_f (S.1 31) 5)) ++ r) 0 0) := by
  intro n
  induction n with
  | zero =>
    intro p hp
    obtain rfl : p = 5 := by omega
    refine aw_iload_n d_So_clearSums_23 rfl ?_
    refine aw_iconst (v := nI 5) d_So_clearSums_24 (by decide) ?_
    refine aw_icmp_ge (tgt := 41) d_So_clearSums_25 (by decide) (fun h25 => ?_) (fun h25 => absurd (nI_le (Nat.le_refl 5) (by omega)) h25)
    exact aw_vretE d_So_clearSums_41 rfl rfl rfl rfl
  | succ n ih =>
    intro p hp
    refine aw_iload_n d_So_clearSums_23 rfl ?_
    refine aw_iconst (v := nI 5) d_So_clearSums_24 (by decide) ?_
    refine aw_icmp_ge (tgt := 41) d_So_clearSums_25 (by decide) (fun h25 => absurd h25 (nI_ge (by omega) (by omega))) (fun h25 => ?_)
    refine aw_aload_n d_So_clearSums_28 rfl ?_
    refine aw_get d_So_clearSums_29 fl_So_41 rfl rfl ?_
    refine aw_iload_n d_So_clearSums_32 rfl ?_
    refine aw_iconst (v := nI 0) d_So_clearSums_33 (by decide) ?_
    refine aw_zastN d_So_clearSums_34 rfl (by omega) (Nat.le_of_ble_eq_true rfl) (show _ = cs_w (cs_I S 31 (zb_f (S.1 31) (p + 1))) ++ r from (cs_s31 _ _ _).trans (by rw [cs_II]; rfl)) ?_
    refine aw_iinc d_So_clearSums_35 rfl (nI_1 _) (Nat.le_of_ble_eq_true rfl) ?_
    refine aw_goto (tgt := 23) d_So_clearSums_38 (by decide) ?_
    exact aw_eql rfl (ih (p + 1) (by omega))
theorem cs_Iid (S : cs_S) (k : Nat) : cs_I S k (S.1 k) = S := by unfold cs_I; rw [va_up_idl]
theorem cs_Jid (S : cs_S) (k : Nat) : cs_J S k (S.2.1 k) = S := by unfold cs_J; rw [va_up_idl]
theorem c_So_clearSums (S : cs_S) (r : List am_C) : am_ct y_So_clearSums 1 [.ref 16] (cs_w S ++ r) none (cs_w (cs_cl S) ++ r) 0 0 := by
  refine am_ct.of rfl (Nat.le_of_ble_eq_true rfl) ?_
  refine aw_aload_n d_So_clearSums_0 rfl ?_
  refine aw_get d_So_clearSums_1 fl_So_25 rfl rfl ?_
  refine aw_cS0 d_So_clearSums_4 (c_So_clear S r 26 200 (by decide) (fun _ => rfl) (fun _ _ => rfl)) mk_So_clear is_So_clear ln_So_120 rfl rfl (Nat.le_of_ble_eq_true rfl) (Nat.le_of_ble_eq_true rfl) (Nat.le_of_ble_eq_true rfl) (Nat.le_of_ble_eq_true rfl) ?_
  refine aw_aload_n d_So_clearSums_7 rfl ?_
  refine aw_get d_So_clearSums_8 fl_So_28 rfl rfl ?_
  refine aw_cS0 d_So_clearSums_11 (c_So_clear (cs_J S 26 (cl_f (S.2.1 26) 200)) r 27 40 (by decide) (fun _ => rfl) (fun _ _ => rfl)) mk_So_clear is_So_clear ln_So_120 rfl rfl (Nat.le_of_ble_eq_true rfl) (Nat.le_of_ble_eq_true rfl) (Nat.le_of_ble_eq_true rfl) (Nat.le_of_ble_eq_true rfl) ?_
  refine aw_aload_n d_So_clearSums_14 rfl ?_
  refine aw_get d_So_clearSums_15 fl_So_31 rfl rfl ?_
  refine aw_cS0 d_So_clearSums_18 (c_So_clear (cs_J (cs_J S 26 (cl_f (S.2.1 26) 200)) 27 (cl_f (S.2.1 27) 40)) r 28 160 (by decide) (fun _ => rfl) (fun _ _ => rfl)) mk_So_clear is_So_clear ln_So_120 rfl rfl (Nat.le_of_ble_eq_true rfl) (Nat.le_of_ble_eq_true rfl) (Nat.le_of_ble_eq_true rfl) (Nat.le_of_ble_eq_true rfl) ?_
  refine aw_iconst (v := nI 0) d_So_clearSums_21 (by decide) ?_
  refine aw_istore_n d_So_clearSums_22 (Nat.le_of_ble_eq_true rfl) ?_
  refine aw_eqw (w' := cs_w (cs_I (cs_J (cs_J (cs_J S 26 (cl_f (S.2.1 26) 200)) 27 (cl_f (S.2.1 27) 40)) 28 (cl_f (S.2.1 28) 160)) 31 (zb_f ((cs_J (cs_J (cs_J S 26 (cl_f (S.2.1 26) 200)) 27 (cl_f (S.2.1 27) 40)) 28 (cl_f (S.2.1 28) 160)).1 31) 0)) ++ r) (by show cs_w (cs_J (cs_J (cs_J S 26 (cl_f (S.2.1 26) 200)) 27 (cl_f (S.2.1 27) 40)) 28 (cl_f (S.2.1 28) 160)) ++ r = cs_w (cs_I (cs_J (cs_J (cs_J S 26 (cl_f (S.2.1 26) 200)) 27 (cl_f (S.2.1 27) 40)) 28 (cl_f (S.2.1 28) 160)) 31 ((cs_J (cs_J (cs_J S 26 (cl_f (S.2.1 26) 200)) 27 (cl_f (S.2.1 27) 40)) 28 (cl_f (S.2.1 28) 160)).1 31)) ++ r; rw [cs_Iid]) ?_
  exact aw_eql rfl (lp_So_zb (cs_J (cs_J (cs_J S 26 (cl_f (S.2.1 26) 200)) 27 (cl_f (S.2.1 27) 40)) 28 (cl_f (S.2.1 28) 160)) r 5 0 rfl)
theorem lp_So_mt (S : cs_S) (r : List am_C) : ∀ (n y : Nat) (x3 : List (Nat × Value)), y + n = 10 → AW (am_Mof y_So_addMetals) 2 0 0 2 ([(2, .int (nI y)), (0, .ref 16), (1, .ref 14)] ++ x3) [] (cs_w (S.1, mt_J S.2.1 y, S.2.2) ++ r) 0 0 (am_Z none (cs_w (S.1, mt_J S.2.1 10, S.2.2) ++ r) 0 0) := by
  intro n
  induction n with
  | zero =>
    intro y x3 hy
    obtain rfl : y = 10 := by omega
    refine aw_sub (lv' := [(2, .int (nI 10)), (0, .ref 16), (1, .ref 14)]) (by simp) ?_
    refine aw_iload_n d_So_addMetals_2 rfl ?_
    refine aw_bipush (v := nI 10) d_So_addMetals_3 (by decide) ?_
    refine aw_icmp_ge (tgt := 60) d_So_addMetals_5 (by decide) (fun h5 => ?_) (fun h5 => absurd (nI_le (Nat.le_refl 10) (by omega)) h5)
    exact aw_vretE d_So_addMetals_60 rfl rfl rfl rfl
  | succ n ih =>
    intro y x3 hy
    have hc1 : ∀ g : Nat → Int64, (S.1, va_up (mt_J S.2.1 y) 27 g, S.2.2) = (S.1, va_up (va_up S.2.1 27 g) 28 (mt_c S.2.1 y), S.2.2) := fun g => by
      have : va_up (mt_J S.2.1 y) 27 g = va_up (va_up S.2.1 27 g) 28 (mt_c S.2.1 y) := by
        funext j; unfold mt_J va_up; split <;> (try split) <;> first | rfl | omega
      rw [this]
    refine aw_sub (lv' := [(2, .int (nI y)), (0, .ref 16), (1, .ref 14)]) (by simp) ?_
    refine aw_iload_n d_So_addMetals_2 rfl ?_
    refine aw_bipush (v := nI 10) d_So_addMetals_3 (by decide) ?_
    refine aw_icmp_ge (tgt := 60) d_So_addMetals_5 (by decide) (fun h5 => absurd h5 (nI_ge (by omega) (by omega))) (fun h5 => ?_)
    refine aw_iload_n d_So_addMetals_8 rfl ?_
    refine aw_aload_n d_So_addMetals_9 rfl ?_
    refine aw_alen (v := nI 10) d_So_addMetals_10 rfl (by decide) rfl ?_
    refine aw_icmp_ge (tgt := 60) d_So_addMetals_11 (by decide) (fun h11 => absurd h11 (nI_ge (by omega) (by omega))) (fun h11 => ?_)
    refine aw_aload_n d_So_addMetals_14 rfl ?_
    refine aw_iload_n d_So_addMetals_15 rfl ?_
    refine aw_laldN d_So_addMetals_16 rfl (by omega) (Nat.le_of_ble_eq_true rfl) ?_
    refine aw_lstore_n d_So_addMetals_17 (Nat.le_of_ble_eq_true rfl) ?_
    refine aw_aload_n d_So_addMetals_18 rfl ?_
    refine aw_get d_So_addMetals_19 fl_So_28 rfl rfl ?_
    refine aw_iconst (v := nI 3) d_So_addMetals_22 (by decide) ?_
    refine aw_iload_n d_So_addMetals_23 rfl ?_
    refine aw_cSN1 d_So_addMetals_24 (c_RC_cell _ 3 y) mk_RC_cell is_RC_cell ln_So_68 rfl rfl (Nat.le_of_ble_eq_true rfl) (Nat.le_of_ble_eq_true rfl) (Nat.le_of_ble_eq_true rfl) (Nat.le_of_ble_eq_true rfl) ?_
    refine aw_dup2 d_So_addMetals_27 rfl rfl ?_
    refine aw_laldN d_So_addMetals_28 rfl (by omega) (Nat.le_of_ble_eq_true rfl) ?_
    refine aw_lload_n d_So_addMetals_29 rfl ?_
    refine aw_ladd d_So_addMetals_30 ?_
    refine aw_lastN d_So_addMetals_31 rfl (by omega) (Nat.le_of_ble_eq_true rfl) (show _ = cs_w (S.1, va_up (va_up S.2.1 27 (mt_b S.2.1 (y + 1))) 28 (mt_c S.2.1 y), S.2.2) ++ r from (cs_s27 _ _ _).trans (congrArg (fun s => cs_w s ++ r) (hc1 _))) ?_
    refine aw_aload_n d_So_addMetals_32 rfl ?_
    refine aw_get d_So_addMetals_33 fl_So_31 rfl rfl ?_
    refine aw_iconst (v := nI 0) d_So_addMetals_36 (by decide) ?_
    refine aw_iconst (v := nI 3) d_So_addMetals_37 (by decide) ?_
    refine aw_iload_n d_So_addMetals_38 rfl ?_
    refine aw_cS1 d_So_addMetals_39 (c_So_place _ 0 3 y) mk_So_place is_So_place ln_So_48 rfl rfl (Nat.le_of_ble_eq_true rfl) (Nat.le_of_ble_eq_true rfl) (Nat.le_of_ble_eq_true rfl) (Nat.le_of_ble_eq_true rfl) ?_
    refine aw_dup2 d_So_addMetals_42 rfl rfl ?_
    refine aw_laldN d_So_addMetals_43 rfl (by omega) (Nat.le_of_ble_eq_true rfl) ?_
    refine aw_lload_n d_So_addMetals_44 rfl ?_
    refine aw_aload_n d_So_addMetals_45 rfl ?_
    refine aw_get d_So_addMetals_46 fl_So_18 rfl rfl ?_
    refine aw_iconst (v := nI 3) d_So_addMetals_49 (by decide) ?_
    refine aw_laldN d_So_addMetals_50 rfl (by omega) (Nat.le_of_ble_eq_true rfl) ?_
    refine aw_lmul d_So_addMetals_51 ?_
    refine aw_ladd d_So_addMetals_52 ?_
    refine aw_lastN d_So_addMetals_53 rfl (by omega) (Nat.le_of_ble_eq_true rfl) (show _ = cs_w (S.1, mt_J S.2.1 (y + 1), S.2.2) ++ r from (cs_s28 _ _ _).trans (by show cs_w (S.1, va_up (va_up _ _ _) _ _, S.2.2) ++ r = _; rw [bx_uu]; rfl)) ?_
    refine aw_iinc d_So_addMetals_54 rfl (nI_1 _) (Nat.le_of_ble_eq_true rfl) ?_
    refine aw_goto (tgt := 2) d_So_addMetals_57 (by decide) ?_
    refine aw_pick (lv' := [(2, .int (nI (y + 1))), (0, .ref 16), (1, .ref 14)]) ⟨rfl, rfl, rfl, trivial⟩ ?_
    exact ih (y + 1) [] (by omega)
theorem c_So_addMetals (S : cs_S) (r : List am_C) : am_ct y_So_addMetals 2 [.ref 16, .ref 14] (cs_w S ++ r) none (cs_w (S.1, mt_J S.2.1 10, S.2.2) ++ r) 0 0 := by
  refine am_ct.of rfl (Nat.le_of_ble_eq_true rfl) ?_
  refine aw_iconst (v := nI 0) d_So_addMetals_0 (by decide) ?_
  refine aw_istore_n d_So_addMetals_1 (Nat.le_of_ble_eq_true rfl) ?_
  refine aw_eqw (w' := cs_w (S.1, mt_J S.2.1 0, S.2.2) ++ r) (by show cs_w S ++ r = cs_w (S.1, va_up (va_up S.2.1 27 (S.2.1 27)) 28 (S.2.1 28), S.2.2) ++ r; rw [va_up_idl]; rw [va_up_idl]) ?_
  exact aw_eql rfl (lp_So_mt S r 10 0 [] rfl)
theorem c_So_addFeed (S : cs_S) (r : List am_C) (j p k y c : Nat) (hj : j < 60) (hp : p < 5) (hk : k < 4) (hy : y < 10) (hc : c < 4) (ep : S.1 9 j = nI p) (ek : S.1 10 j = nI k) (ey : S.1 11 j = nI y) (ec : S.1 12 j = nI c) : am_ct y_So_addFeed 2 [.ref 16, .ref 8, .int (nI j)] (cs_w S ++ r) none (cs_w (S.1, ad_J S.2.1 p k y c j, S.2.2) ++ r) 0 0 := by
  refine am_ct.of rfl (Nat.le_of_ble_eq_true rfl) ?_
  refine aw_aload_n d_So_addFeed_0 rfl ?_
  refine aw_iload_n d_So_addFeed_1 rfl ?_
  refine aw_cV1 d_So_addFeed_2 (c_Fe_kindOf S r j hj) mk_Fe_kindOf is_Fe_kindOf ln_So_123 rfl rfl rfl rfl (Nat.le_of_ble_eq_true rfl) (Nat.le_of_ble_eq_true rfl) (Nat.le_of_ble_eq_true rfl) (Nat.le_of_ble_eq_true rfl) ?_
  rw [ek]
  refine aw_istore_n d_So_addFeed_5 (Nat.le_of_ble_eq_true rfl) ?_
  refine aw_aload_n d_So_addFeed_6 rfl ?_
  refine aw_iload_n d_So_addFeed_7 rfl ?_
  refine aw_cV1 d_So_addFeed_8 (c_Fe_yearOf S r j hj) mk_Fe_yearOf is_Fe_yearOf ln_So_127 rfl rfl rfl rfl (Nat.le_of_ble_eq_true rfl) (Nat.le_of_ble_eq_true rfl) (Nat.le_of_ble_eq_true rfl) (Nat.le_of_ble_eq_true rfl) ?_
  rw [ey]
  refine aw_istore d_So_addFeed_11 (Nat.le_of_ble_eq_true rfl) ?_
  refine aw_aload_n d_So_addFeed_13 rfl ?_
  refine aw_iload_n d_So_addFeed_14 rfl ?_
  refine aw_cV1 d_So_addFeed_15 (c_Fe_plantOf S r j hj) mk_Fe_plantOf is_Fe_plantOf ln_So_130 rfl rfl rfl rfl (Nat.le_of_ble_eq_true rfl) (Nat.le_of_ble_eq_true rfl) (Nat.le_of_ble_eq_true rfl) (Nat.le_of_ble_eq_true rfl) ?_
  rw [ep]
  refine aw_iload_n d_So_addFeed_18 rfl ?_
  refine aw_cSN1 d_So_addFeed_19 (c_RC_slotOf _ p k) mk_RC_slotOf is_RC_slotOf ln_So_64 rfl rfl (Nat.le_of_ble_eq_true rfl) (Nat.le_of_ble_eq_true rfl) (Nat.le_of_ble_eq_true rfl) (Nat.le_of_ble_eq_true rfl) ?_
  refine aw_istore d_So_addFeed_22 (Nat.le_of_ble_eq_true rfl) ?_
  refine aw_aload_n d_So_addFeed_24 rfl ?_
  refine aw_iload_n d_So_addFeed_25 rfl ?_
  refine aw_cV1 d_So_addFeed_26 (c_Fe_gramsOf S r j hj) mk_Fe_gramsOf is_Fe_gramsOf ln_So_133 rfl rfl rfl rfl (Nat.le_of_ble_eq_true rfl) (Nat.le_of_ble_eq_true rfl) (Nat.le_of_ble_eq_true rfl) (Nat.le_of_ble_eq_true rfl) ?_
  refine aw_lstore d_So_addFeed_29 (Nat.le_of_ble_eq_true rfl) ?_
  refine aw_aload_n d_So_addFeed_31 rfl ?_
  refine aw_get d_So_addFeed_32 fl_So_25 rfl rfl ?_
  refine aw_iload d_So_addFeed_35 rfl ?_
  refine aw_bipush (v := nI 10) d_So_addFeed_37 (by decide) ?_
  refine aw_imul d_So_addFeed_39 ?_
  try simp only [pk_mul, nI_add]
  refine aw_iload d_So_addFeed_40 rfl ?_
  refine aw_iadd d_So_addFeed_42 ?_
  try simp only [pk_mul, nI_add]
  refine aw_dup2 d_So_addFeed_43 rfl rfl ?_
  refine aw_laldN d_So_addFeed_44 rfl (by omega) (Nat.le_of_ble_eq_true rfl) ?_
  refine aw_lload d_So_addFeed_45 rfl ?_
  refine aw_ladd d_So_addFeed_47 ?_
  refine aw_lastN d_So_addFeed_48 rfl (by omega) (Nat.le_of_ble_eq_true rfl) (cs_s26 _ _ _) ?_
  refine aw_aload_n d_So_addFeed_49 rfl ?_
  refine aw_get d_So_addFeed_50 fl_So_28 rfl rfl ?_
  refine aw_iload_n d_So_addFeed_53 rfl ?_
  refine aw_iload d_So_addFeed_54 rfl ?_
  refine aw_cSN1 d_So_addFeed_56 (c_RC_cell _ k y) mk_RC_cell is_RC_cell ln_So_68 rfl rfl (Nat.le_of_ble_eq_true rfl) (Nat.le_of_ble_eq_true rfl) (Nat.le_of_ble_eq_true rfl) (Nat.le_of_ble_eq_true rfl) ?_
  refine aw_dup2 d_So_addFeed_59 rfl rfl ?_
  refine aw_laldN d_So_addFeed_60 rfl (by omega) (Nat.le_of_ble_eq_true rfl) ?_
  refine aw_lload d_So_addFeed_61 rfl ?_
  refine aw_ladd d_So_addFeed_63 ?_
  refine aw_lastN d_So_addFeed_64 rfl (by omega) (Nat.le_of_ble_eq_true rfl) (cs_s27 _ _ _) ?_
  refine aw_aload_n d_So_addFeed_65 rfl ?_
  refine aw_get d_So_addFeed_66 fl_So_31 rfl rfl ?_
  refine aw_aload_n d_So_addFeed_69 rfl ?_
  refine aw_iload_n d_So_addFeed_70 rfl ?_
  refine aw_cV1 d_So_addFeed_71 (c_Fe_countryOf _ r j hj) mk_Fe_countryOf is_Fe_countryOf ln_So_136 rfl rfl rfl rfl (Nat.le_of_ble_eq_true rfl) (Nat.le_of_ble_eq_true rfl) (Nat.le_of_ble_eq_true rfl) (Nat.le_of_ble_eq_true rfl) ?_
  refine aw_eqs (st' := [.int (nI c), .ref 28]) (congrArg (fun z => [Value.int z, Value.ref 28]) ec) ?_
  refine aw_iload_n d_So_addFeed_74 rfl ?_
  refine aw_iload d_So_addFeed_75 rfl ?_
  refine aw_cS1 d_So_addFeed_77 (c_So_place _ c k y) mk_So_place is_So_place ln_So_48 rfl rfl (Nat.le_of_ble_eq_true rfl) (Nat.le_of_ble_eq_true rfl) (Nat.le_of_ble_eq_true rfl) (Nat.le_of_ble_eq_true rfl) ?_
  refine aw_dup2 d_So_addFeed_80 rfl rfl ?_
  refine aw_laldN d_So_addFeed_81 rfl (by omega) (Nat.le_of_ble_eq_true rfl) ?_
  refine aw_lload d_So_addFeed_82 rfl ?_
  refine aw_aload_n d_So_addFeed_84 rfl ?_
  refine aw_get d_So_addFeed_85 fl_So_22 rfl rfl ?_
  refine aw_iload d_So_addFeed_88 rfl ?_
  refine aw_laldN d_So_addFeed_90 rfl (by omega) (Nat.le_of_ble_eq_true rfl) ?_
  refine aw_lmul d_So_addFeed_91 ?_
  refine aw_ladd d_So_addFeed_92 ?_
  refine aw_lastN d_So_addFeed_93 rfl (by omega) (Nat.le_of_ble_eq_true rfl) (cs_s28 _ _ _) ?_
  exact aw_vretE d_So_addFeed_94 rfl rfl rfl rfl
theorem lp_So_fy (S : cs_S) (r : List am_C) (c k : Nat) (hc : c < 4) (hk : k < 4) (st : Nat → Int64) (Z : am_E) (K : AW (am_Mof y_So_fillStocks) 2 0 0 55 [(3, .int (nI 10)), (2, .int (nI k)), (1, .int (nI c)), (0, .ref 16)] [] (cs_w (cs_J S 29 (fs_y (S.2.1 24) (S.2.1 28) st c k 10)) ++ r) 0 0 Z) : ∀ (n y : Nat) (x4 : List (Nat × Value)), y + n = 10 → AW (am_Mof y_So_fillStocks) 2 0 0 16 ([(3, .int (nI y)), (2, .int (nI k)), (1, .int (nI c)), (0, .ref 16)] ++ x4) [] (cs_w (cs_J S 29 (fs_y (S.2.1 24) (S.2.1 28) st c k y)) ++ r) 0 0 Z := by
  intro n
  induction n with
  | zero =>
    intro y x4 hy
    obtain rfl : y = 10 := by omega
    refine aw_sub (lv' := [(3, .int (nI 10)), (2, .int (nI k)), (1, .int (nI c)), (0, .ref 16)]) (by simp) ?_
    refine aw_iload_n d_So_fillStocks_16 rfl ?_
    refine aw_bipush (v := nI 10) d_So_fillStocks_17 (by decide) ?_
    refine aw_icmp_ge (tgt := 55) d_So_fillStocks_19 (by decide) (fun h19 => ?_) (fun h19 => absurd (nI_le (Nat.le_refl 10) (by omega)) h19)
    exact K
  | succ n ih =>
    intro y x4 hy
    refine aw_sub (lv' := [(3, .int (nI y)), (2, .int (nI k)), (1, .int (nI c)), (0, .ref 16)]) (by simp) ?_
    refine aw_iload_n d_So_fillStocks_16 rfl ?_
    refine aw_bipush (v := nI 10) d_So_fillStocks_17 (by decide) ?_
    refine aw_icmp_ge (tgt := 55) d_So_fillStocks_19 (by decide) (fun h19 => absurd h19 (nI_ge (by omega) (by omega))) (fun h19 => ?_)
    refine aw_iload_n d_So_fillStocks_22 rfl ?_
    refine aw_iload_n d_So_fillStocks_23 rfl ?_
    refine aw_iload_n d_So_fillStocks_24 rfl ?_
    refine aw_cS1 d_So_fillStocks_25 (c_So_place _ c k y) mk_So_place is_So_place ln_So_48 rfl rfl (Nat.le_of_ble_eq_true rfl) (Nat.le_of_ble_eq_true rfl) (Nat.le_of_ble_eq_true rfl) (Nat.le_of_ble_eq_true rfl) ?_
    refine aw_istore d_So_fillStocks_28 (Nat.le_of_ble_eq_true rfl) ?_
    refine aw_aload_n d_So_fillStocks_30 rfl ?_
    refine aw_get d_So_fillStocks_31 fl_So_34 rfl rfl ?_
    refine aw_iload d_So_fillStocks_34 rfl ?_
    refine aw_aload_n d_So_fillStocks_36 rfl ?_
    refine aw_aload_n d_So_fillStocks_37 rfl ?_
    refine aw_get d_So_fillStocks_38 fl_So_31 rfl rfl ?_
    refine aw_iload d_So_fillStocks_41 rfl ?_
    refine aw_laldN d_So_fillStocks_43 rfl (by omega) (Nat.le_of_ble_eq_true rfl) ?_
    refine aw_iload_n d_So_fillStocks_44 rfl ?_
    refine aw_cV1 d_So_fillStocks_45 (c_So_down (cs_J S 29 (fs_y (S.2.1 24) (S.2.1 28) st c k y)) r _ k hk) mk_So_down is_So_down ln_So_60 rfl rfl rfl rfl (Nat.le_of_ble_eq_true rfl) (Nat.le_of_ble_eq_true rfl) (Nat.le_of_ble_eq_true rfl) (Nat.le_of_ble_eq_true rfl) ?_
    refine aw_lastN d_So_fillStocks_48 rfl (by omega) (Nat.le_of_ble_eq_true rfl) (show _ = cs_w (cs_J S 29 (fs_y (S.2.1 24) (S.2.1 28) st c k (y + 1))) ++ r from (cs_s29 _ _ _).trans (by rw [cs_JJ]; rfl)) ?_
    refine aw_iinc d_So_fillStocks_49 rfl (nI_1 _) (Nat.le_of_ble_eq_true rfl) ?_
    refine aw_goto (tgt := 16) d_So_fillStocks_52 (by decide) ?_
    refine aw_pick (lv' := [(3, .int (nI (y + 1))), (2, .int (nI k)), (1, .int (nI c)), (0, .ref 16)]) ⟨rfl, rfl, rfl, rfl, trivial⟩ ?_
    exact ih (y + 1) [] (by omega)
theorem lp_So_fk (S : cs_S) (r : List am_C) (c : Nat) (hc : c < 4) (st : Nat → Int64) (Z : am_E) (K : AW (am_Mof y_So_fillStocks) 2 0 0 61 [(2, .int (nI 4)), (1, .int (nI c)), (0, .ref 16)] [] (cs_w (cs_J S 29 (fs_k (S.2.1 24) (S.2.1 28) st c 4)) ++ r) 0 0 Z) : ∀ (n k : Nat) (x4 : List (Nat × Value)), k + n = 4 → AW (am_Mof y_So_fillStocks) 2 0 0 9 ([(2, .int (nI k)), (1, .int (nI c)), (0, .ref 16)] ++ x4) [] (cs_w (cs_J S 29 (fs_k (S.2.1 24) (S.2.1 28) st c k)) ++ r) 0 0 Z := by
  intro n
  induction n with
  | zero =>
    intro k x4 hk
    obtain rfl : k = 4 := by omega
    refine aw_sub (lv' := [(2, .int (nI 4)), (1, .int (nI c)), (0, .ref 16)]) (by simp) ?_
    refine aw_iload_n d_So_fillStocks_9 rfl ?_
    refine aw_iconst (v := nI 4) d_So_fillStocks_10 (by decide) ?_
    refine aw_icmp_ge (tgt := 61) d_So_fillStocks_11 (by decide) (fun h11 => ?_) (fun h11 => absurd (nI_le (Nat.le_refl 4) (by omega)) h11)
    exact K
  | succ n ih =>
    intro k x4 hk
    refine aw_sub (lv' := [(2, .int (nI k)), (1, .int (nI c)), (0, .ref 16)]) (by simp) ?_
    refine aw_iload_n d_So_fillStocks_9 rfl ?_
    refine aw_iconst (v := nI 4) d_So_fillStocks_10 (by decide) ?_
    refine aw_icmp_ge (tgt := 61) d_So_fillStocks_11 (by decide) (fun h11 => absurd h11 (nI_ge (by omega) (by omega))) (fun h11 => ?_)
    refine aw_iconst (v := nI 0) d_So_fillStocks_14 (by decide) ?_
    refine aw_istore_n d_So_fillStocks_15 (Nat.le_of_ble_eq_true rfl) ?_
    refine aw_eql rfl (lp_So_fy S r c k hc (by omega) (fs_k (S.2.1 24) (S.2.1 28) st c k) _ ?_ 10 0 [] rfl)
    refine aw_iinc d_So_fillStocks_55 rfl (nI_1 _) (Nat.le_of_ble_eq_true rfl) ?_
    refine aw_goto (tgt := 9) d_So_fillStocks_58 (by decide) ?_
    refine aw_pick (lv' := [(2, .int (nI (k + 1))), (1, .int (nI c)), (0, .ref 16)]) ⟨rfl, rfl, rfl, trivial⟩ ?_
    exact ih (k + 1) [] (by omega)
theorem lp_So_fc (S : cs_S) (r : List am_C) : ∀ (n c : Nat) (x4 : List (Nat × Value)), c + n = 4 → AW (am_Mof y_So_fillStocks) 2 0 0 2 ([(1, .int (nI c)), (0, .ref 16)] ++ x4) [] (cs_w (cs_J S 29 (fs_c (S.2.1 24) (S.2.1 28) (S.2.1 29) c)) ++ r) 0 0 (am_Z none (cs_w (cs_J S 29 (fs_c (S.2.1 24) (S.2.1 28) (S.2.1 29) 4)) ++ r) 0 0) := by
  intro n
  induction n with
  | zero =>
    intro c x4 hc
    obtain rfl : c = 4 := by omega
    refine aw_sub (lv' := [(1, .int (nI 4)), (0, .ref 16)]) (by simp) ?_
    refine aw_iload_n d_So_fillStocks_2 rfl ?_
    refine aw_iconst (v := nI 4) d_So_fillStocks_3 (by decide) ?_
    refine aw_icmp_ge (tgt := 67) d_So_fillStocks_4 (by decide) (fun h4 => ?_) (fun h4 => absurd (nI_le (Nat.le_refl 4) (by omega)) h4)
    exact aw_vretE d_So_fillStocks_67 rfl rfl rfl rfl
  | succ n ih =>
    intro c x4 hc
    refine aw_sub (lv' := [(1, .int (nI c)), (0, .ref 16)]) (by simp) ?_
    refine aw_iload_n d_So_fillStocks_2 rfl ?_
    refine aw_iconst (v := nI 4) d_So_fillStocks_3 (by decide) ?_
    refine aw_icmp_ge (tgt := 67) d_So_fillStocks_4 (by decide) (fun h4 => absurd h4 (nI_ge (by omega) (by omega))) (fun h4 => ?_)
    refine aw_iconst (v := nI 0) d_So_fillStocks_7 (by decide) ?_
    refine aw_istore_n d_So_fillStocks_8 (Nat.le_of_ble_eq_true rfl) ?_
    refine aw_eql rfl (lp_So_fk S r c (by omega) (fs_c (S.2.1 24) (S.2.1 28) (S.2.1 29) c) _ ?_ 4 0 [] rfl)
    refine aw_iinc d_So_fillStocks_61 rfl (nI_1 _) (Nat.le_of_ble_eq_true rfl) ?_
    refine aw_goto (tgt := 2) d_So_fillStocks_64 (by decide) ?_
    refine aw_pick (lv' := [(1, .int (nI (c + 1))), (0, .ref 16)]) ⟨rfl, rfl, trivial⟩ ?_
    exact ih (c + 1) [] (by omega)
theorem c_So_fillStocks (S : cs_S) (r : List am_C) : am_ct y_So_fillStocks 2 [.ref 16] (cs_w S ++ r) none (cs_w (cs_J S 29 (fs_c (S.2.1 24) (S.2.1 28) (S.2.1 29) 4)) ++ r) 0 0 := by
  refine am_ct.of rfl (Nat.le_of_ble_eq_true rfl) ?_
  refine aw_iconst (v := nI 0) d_So_fillStocks_0 (by decide) ?_
  refine aw_istore_n d_So_fillStocks_1 (Nat.le_of_ble_eq_true rfl) ?_
  refine aw_eqw (w' := cs_w (cs_J S 29 (fs_c (S.2.1 24) (S.2.1 28) (S.2.1 29) 0)) ++ r) (by show cs_w S ++ r = cs_w (cs_J S 29 (S.2.1 29)) ++ r; rw [cs_Jid]) ?_
  exact aw_eql rfl (lp_So_fc S r 4 0 [] rfl)
