/-! RateChains$Solved.keep -/
def kk_J (S : cs_S) : Nat → (Nat → Nat → Int64)
  | 0 => S.2.1
  | k + 1 => kw_J (S.1, kk_J S k, S.2.2) k
def af_J (S : cs_S) (J : Nat → Nat → Int64) : Nat → (Nat → Nat → Int64)
  | 0 => J
  | j + 1 => ad_J (af_J S J j) (S.1 9 j).toNatClampNeg (S.1 10 j).toNatClampNeg (S.1 11 j).toNatClampNeg (S.1 12 j).toNatClampNeg j
def lk_S (n8 : Nat) (S : cs_S) : Nat → cs_S
  | 0 => S
  | k + 1 => cs_I (cs_I (lk_S n8 S k) 30 (fc_R (lk_S n8 S k) k n8)) 31 (lb_f (lk_S n8 S k) k (fc_R (lk_S n8 S k) k n8) ((lk_S n8 S k).1 31) 5)
theorem lk_S_1 (n8 : Nat) (S : cs_S) (q : Nat) (h0 : q ≠ 30) (h1 : q ≠ 31) : ∀ k, (lk_S n8 S k).1 q = S.1 q
  | 0 => rfl
  | k + 1 => by
    show va_up (va_up (lk_S n8 S k).1 30 _) 31 _ q = _
    rw [va_up_ne _ _ h1, va_up_ne _ _ h0]
    exact lk_S_1 n8 S q h0 h1 k
theorem lk_S_2 (n8 : Nat) (S : cs_S) : ∀ k, (lk_S n8 S k).2 = S.2
  | 0 => rfl
  | k + 1 => lk_S_2 n8 S k
def kp_A (S : cs_S) : cs_S := cs_F S 16 1
def kp_B (S : cs_S) : cs_S := cs_cl ((kp_A S).1, kk_J (kp_A S) 4, (kp_A S).2.2)
def kp_C (S : cs_S) (n8 : Nat) : cs_S := ((kp_B S).1, af_J (kp_B S) (mt_J (kp_B S).2.1 10) n8, (kp_B S).2.2)
def kp_D (S : cs_S) (n8 : Nat) : cs_S := cs_J (kp_C S n8) 29 (fs_c ((kp_C S n8).2.1 24) ((kp_C S n8).2.1 28) ((kp_C S n8).2.1 29) 4)
def kp_S (S : cs_S) (n8 : Nat) : cs_S := lk_S n8 (kp_D S n8) 4
theorem vp_in_cl {x : Int32} {n : Nat} (h : vp_in x n) (hn : n < 2 ^ 31) : x.toNatClampNeg < n ∧ x = nI x.toNatClampNeg := by
  obtain ⟨j, hj, e⟩ := vp_in_of h hn
  rw [e, nI_clamp (by omega)]
  exact ⟨hj, rfl⟩
abbrev fd_ok (S : cs_S) (n8 : Nat) : Prop := S.2.2 8 = nI n8 ∧ n8 ≤ 60 ∧ (∀ j, j < 60 → vp_in (S.1 9 j) 5) ∧ (∀ j, j < 60 → vp_in (S.1 10 j) 4) ∧ (∀ j, j < 60 → vp_in (S.1 11 j) 10) ∧ ∀ j, j < 60 → vp_in (S.1 12 j) 4
theorem lp_So_k1 (S : cs_S) (r : List am_C) (hb : b01 (S.1 4)) (Z : am_E) (K : AW (am_Mof y_So_keep) 6 0 0 27 [(4, .int (nI 4)), (0, .ref 16), (1, .ref 1), (2, .ref 8), (3, .ref 14)] [] (cs_w (S.1, kk_J S 4, S.2.2) ++ r) 0 0 Z) : ∀ (n k : Nat), k + n = 4 → AW (am_Mof y_So_keep) 6 0 0 8 [(4, .int (nI k)), (0, .ref 16), (1, .ref 1), (2, .ref 8), (3, .ref 14)] [] (cs_w (S.1, kk_J S k, S.2.2) ++ r) 0 0 Z := by
  intro n
  induction n with
  | zero =>
    intro k hk
    obtain rfl : k = 4 := by omega
    refine aw_iload d_So_keep_8 rfl ?_
    refine aw_iconst (v := nI 4) d_So_keep_10 (by decide) ?_
    refine aw_icmp_ge (tgt := 27) d_So_keep_11 (by decide) (fun h11 => ?_) (fun h11 => absurd (nI_le (Nat.le_refl 4) (by omega)) h11)
    exact K
  | succ n ih =>
    intro k hk
    refine aw_iload d_So_keep_8 rfl ?_
    refine aw_iconst (v := nI 4) d_So_keep_10 (by decide) ?_
    refine aw_icmp_ge (tgt := 27) d_So_keep_11 (by decide) (fun h11 => absurd h11 (nI_ge (by omega) (by omega))) (fun h11 => ?_)
    refine aw_aload_n d_So_keep_14 rfl ?_
    refine aw_aload_n d_So_keep_15 rfl ?_
    refine aw_iload d_So_keep_16 rfl ?_
    refine aw_cV0 d_So_keep_18 (c_So_keepWorths (S.1, kk_J S k, S.2.2) r k (by omega) hb) mk_So_keepWorths is_So_keepWorths ln_So_85 rfl rfl rfl rfl (Nat.le_of_ble_eq_true rfl) (Nat.le_of_ble_eq_true rfl) (Nat.le_of_ble_eq_true rfl) (Nat.le_of_ble_eq_true rfl) ?_
    refine aw_iinc d_So_keep_21 rfl (nI_1 _) (Nat.le_of_ble_eq_true rfl) ?_
    refine aw_goto (tgt := 8) d_So_keep_24 (by decide) ?_
    exact aw_eql rfl (ih (k + 1) (by omega))
theorem lp_So_k2 (S : cs_S) (r : List am_C) (J : Nat → Nat → Int64) (n8 : Nat) (hf : fd_ok S n8) (Z : am_E) (K : AW (am_Mof y_So_keep) 6 0 0 61 [(4, .int (nI n8)), (0, .ref 16), (1, .ref 1), (2, .ref 8), (3, .ref 14)] [] (cs_w (S.1, af_J S J n8, S.2.2) ++ r) 0 0 Z) : ∀ (n j : Nat), j + n = n8 → AW (am_Mof y_So_keep) 6 0 0 39 [(4, .int (nI j)), (0, .ref 16), (1, .ref 1), (2, .ref 8), (3, .ref 14)] [] (cs_w (S.1, af_J S J j, S.2.2) ++ r) 0 0 Z := by
  intro n
  induction n with
  | zero =>
    intro j hj
    obtain rfl : n8 = j := by omega
    refine aw_iload d_So_keep_39 rfl ?_
    refine aw_aload_n d_So_keep_41 rfl ?_
    refine aw_cV1 d_So_keep_42 (c_Fe_size _ r) mk_Fe_size is_Fe_size ln_So_96 rfl rfl rfl rfl (Nat.le_of_ble_eq_true rfl) (Nat.le_of_ble_eq_true rfl) (Nat.le_of_ble_eq_true rfl) (Nat.le_of_ble_eq_true rfl) ?_
    refine aw_eqs (congrArg (fun z => Value.int z :: _) hf.1) ?_
    refine aw_icmp_ge (tgt := 61) d_So_keep_45 (by decide) (fun h45 => ?_) (fun h45 => absurd (nI_le (Nat.le_refl _) (by have := hf.2.1; omega)) h45)
    exact K
  | succ n ih =>
    intro j hj
    have h60 : j < 60 := by have := hf.2.1; omega
    refine aw_iload d_So_keep_39 rfl ?_
    refine aw_aload_n d_So_keep_41 rfl ?_
    refine aw_cV1 d_So_keep_42 (c_Fe_size _ r) mk_Fe_size is_Fe_size ln_So_96 rfl rfl rfl rfl (Nat.le_of_ble_eq_true rfl) (Nat.le_of_ble_eq_true rfl) (Nat.le_of_ble_eq_true rfl) (Nat.le_of_ble_eq_true rfl) ?_
    refine aw_eqs (congrArg (fun z => Value.int z :: _) hf.1) ?_
    refine aw_icmp_ge (tgt := 61) d_So_keep_45 (by decide) (fun h45 => absurd h45 (nI_ge (by omega) (by have := hf.2.1; omega))) (fun h45 => ?_)
    refine aw_aload_n d_So_keep_48 rfl ?_
    refine aw_aload_n d_So_keep_49 rfl ?_
    refine aw_iload d_So_keep_50 rfl ?_
    refine aw_cV0 d_So_keep_52 (c_So_addFeed (S.1, af_J S J j, S.2.2) r j _ _ _ _ h60 (vp_in_cl (hf.2.2.1 j h60) (by decide)).1 (vp_in_cl (hf.2.2.2.1 j h60) (by decide)).1 (vp_in_cl (hf.2.2.2.2.1 j h60) (by decide)).1 (vp_in_cl (hf.2.2.2.2.2 j h60) (by decide)).1 (vp_in_cl (hf.2.2.1 j h60) (by decide)).2 (vp_in_cl (hf.2.2.2.1 j h60) (by decide)).2 (vp_in_cl (hf.2.2.2.2.1 j h60) (by decide)).2 (vp_in_cl (hf.2.2.2.2.2 j h60) (by decide)).2) mk_So_addFeed is_So_addFeed ln_So_102 rfl rfl rfl rfl (Nat.le_of_ble_eq_true rfl) (Nat.le_of_ble_eq_true rfl) (Nat.le_of_ble_eq_true rfl) (Nat.le_of_ble_eq_true rfl) ?_
    refine aw_iinc d_So_keep_55 rfl (nI_1 _) (Nat.le_of_ble_eq_true rfl) ?_
    refine aw_goto (tgt := 39) d_So_keep_58 (by decide) ?_
    exact aw_eql rfl (ih (j + 1) (by omega))
theorem lp_So_k3 (S : cs_S) (r : List am_C) (hb : b01 (S.1 4)) (n8 : Nat) (hf : fd_ok S n8) (w' : List am_C) (hw : cs_w (lk_S n8 S 4) ++ r = w') : ∀ (n k : Nat), k + n = 4 → AW (am_Mof y_So_keep) 6 0 0 68 [(4, .int (nI k)), (0, .ref 16), (1, .ref 1), (2, .ref 8), (3, .ref 14)] [] (cs_w (lk_S n8 S k) ++ r) 0 0 (am_Z none w' 0 0) := by
  intro n
  induction n with
  | zero =>
    intro k hk
    obtain rfl : k = 4 := by omega
    refine aw_iload d_So_keep_68 rfl ?_
    refine aw_iconst (v := nI 4) d_So_keep_70 (by decide) ?_
    refine aw_icmp_ge (tgt := 88) d_So_keep_71 (by decide) (fun h71 => ?_) (fun h71 => absurd (nI_le (Nat.le_refl 4) (by omega)) h71)
    exact aw_vretE d_So_keep_88 rfl hw rfl rfl
  | succ n ih =>
    intro k hk
    refine aw_iload d_So_keep_68 rfl ?_
    refine aw_iconst (v := nI 4) d_So_keep_70 (by decide) ?_
    refine aw_icmp_ge (tgt := 88) d_So_keep_71 (by decide) (fun h71 => absurd h71 (nI_ge (by omega) (by omega))) (fun h71 => ?_)
    refine aw_aload_n d_So_keep_74 rfl ?_
    refine aw_aload_n d_So_keep_75 rfl ?_
    refine aw_aload_n d_So_keep_76 rfl ?_
    refine aw_iload d_So_keep_77 rfl ?_
    refine aw_cV0 d_So_keep_79 (c_So_markLostBare (lk_S n8 S k) r k (by omega) (by rw [lk_S_1 n8 S 4 (by decide) (by decide)]; exact hb) n8 (by rw [lk_S_2]; exact hf.1) hf.2.1 (fun j hj => by rw [lk_S_1 n8 S 9 (by decide) (by decide)]; exact hf.2.2.1 j hj)) mk_So_markLostBare is_So_markLostBare ln_So_109 rfl rfl rfl rfl (Nat.le_of_ble_eq_true rfl) (Nat.le_of_ble_eq_true rfl) (Nat.le_of_ble_eq_true rfl) (Nat.le_of_ble_eq_true rfl) ?_
    refine aw_iinc d_So_keep_82 rfl (nI_1 _) (Nat.le_of_ble_eq_true rfl) ?_
    refine aw_goto (tgt := 68) d_So_keep_85 (by decide) ?_
    exact aw_eql rfl (ih (k + 1) (by omega))
theorem c_So_keep (S : cs_S) (r : List am_C) (hb : b01 (S.1 4)) (n8 : Nat) (hf : fd_ok S n8) : am_ct y_So_keep 6 [.ref 16, .ref 1, .ref 8, .ref 14] (cs_w S ++ r) none (cs_w (kp_S S n8) ++ r) 0 0 := by
  refine am_ct.of rfl (Nat.le_of_ble_eq_true rfl) ?_
  refine aw_aload_n d_So_keep_0 rfl ?_
  refine aw_iconst (v := nI 1) d_So_keep_1 (by decide) ?_
  refine aw_putW d_So_keep_2 fp_So_44 rfl (Nat.le_of_ble_eq_true rfl) (fun _ _ => ⟨rfl, rfl⟩) (show _ = cs_w (kp_A S) ++ r from cs_f16_9 _ _ _) ?_
  refine aw_iconst (v := nI 0) d_So_keep_5 (by decide) ?_
  refine aw_istore d_So_keep_6 (Nat.le_of_ble_eq_true rfl) ?_
  refine aw_eql rfl (lp_So_k1 (kp_A S) r hb _ ?_ 4 0 rfl)
  refine aw_aload_n d_So_keep_27 rfl ?_
  refine aw_cV0 d_So_keep_28 (c_So_clearSums ((kp_A S).1, kk_J (kp_A S) 4, (kp_A S).2.2) r) mk_So_clearSums is_So_clearSums ln_So_89 rfl rfl rfl rfl (Nat.le_of_ble_eq_true rfl) (Nat.le_of_ble_eq_true rfl) (Nat.le_of_ble_eq_true rfl) (Nat.le_of_ble_eq_true rfl) ?_
  refine aw_aload_n d_So_keep_31 rfl ?_
  refine aw_aload_n d_So_keep_32 rfl ?_
  refine aw_cV0 d_So_keep_33 (c_So_addMetals (kp_B S) r) mk_So_addMetals is_So_addMetals ln_So_92 rfl rfl rfl rfl (Nat.le_of_ble_eq_true rfl) (Nat.le_of_ble_eq_true rfl) (Nat.le_of_ble_eq_true rfl) (Nat.le_of_ble_eq_true rfl) ?_
  refine aw_iconst (v := nI 0) d_So_keep_36 (by decide) ?_
  refine aw_istore d_So_keep_37 (Nat.le_of_ble_eq_true rfl) ?_
  refine aw_eql rfl (lp_So_k2 (kp_B S) r (mt_J (kp_B S).2.1 10) n8 hf _ ?_ n8 0 (by omega))
  refine aw_aload_n d_So_keep_61 rfl ?_
  refine aw_cV0 d_So_keep_62 (c_So_fillStocks (kp_C S n8) r) mk_So_fillStocks is_So_fillStocks ln_So_106 rfl rfl rfl rfl (Nat.le_of_ble_eq_true rfl) (Nat.le_of_ble_eq_true rfl) (Nat.le_of_ble_eq_true rfl) (Nat.le_of_ble_eq_true rfl) ?_
  refine aw_iconst (v := nI 0) d_So_keep_65 (by decide) ?_
  refine aw_istore d_So_keep_66 (Nat.le_of_ble_eq_true rfl) ?_
  exact aw_eql rfl (lp_So_k3 (kp_D S n8) r hb n8 hf _ rfl 4 0 rfl)
