/-! RateChains$Draw (the rows wb_ begin as the texts for pasting have them) -/
theorem wb_tb (n : Nat) : (lN n).toBitVec = BitVec.ofNat 64 n := rfl
theorem wb_inj {a b : Int64} (h : a.toBitVec = b.toBitVec) : a = b := Int64.toBitVec_inj.mp h
theorem wb_tn {n : Nat} (h : n < 2 ^ 64) : (lN n).toBitVec.toNat = n := by rw [wb_tb, BitVec.toNat_ofNat, Nat.mod_eq_of_lt h]
theorem wb_of (x : Int64) : ∃ n, n < 2 ^ 64 ∧ x = lN n := ⟨x.toBitVec.toNat, x.toBitVec.isLt, wb_inj (by rw [wb_tb]; simp)⟩
theorem wb_of32 (x : Int32) : ∃ n, n < 2 ^ 32 ∧ x = nI n := ⟨x.toBitVec.toNat, x.toBitVec.isLt, Int32.toBitVec_inj.mp (by show _ = BitVec.ofNat 32 _; simp)⟩
theorem wb_c : ∀ k, k < 64 → ((nI k).toInt64 &&& 63) = lN k := by decide +kernel
theorem wb_cu : ∀ k, k < 64 → ((nI k).toInt64.toUInt64 &&& Int64.toUInt64 63) = UInt64.ofNat k := by decide +kernel
theorem wb_sm : ∀ k, k < 64 → (BitVec.ofNat 64 k).smod 64 = BitVec.ofNat 64 k := by decide +kernel
theorem wb_pw {a b : Nat} (h : a ≤ b) : 2 ^ b = 2 ^ a * 2 ^ (b - a) := by rw [← Nat.pow_add]; congr 1; omega
theorem wb_lt2 {a b : Nat} (h : a < b) : 2 ^ a < 2 ^ b := Nat.pow_lt_pow_right (by decide) h
theorem wb_mod (n : Nat) : lN n = lN (n % 2 ^ 64) := wb_inj (by rw [wb_tb, wb_tb]; apply BitVec.eq_of_toNat_eq; rw [BitVec.toNat_ofNat, BitVec.toNat_ofNat, Nat.mod_mod])
theorem wb_shr {n k : Nat} (hn : n < 2 ^ 64) (hk : k < 64) : ((lN n).toUInt64 >>> ((nI k).toInt64.toUInt64 &&& Int64.toUInt64 63)).toInt64 = lN (n / 2 ^ k) := by
  rw [wb_cu k hk]
  apply wb_inj
  apply BitVec.eq_of_toNat_eq
  show ((lN n).toUInt64 >>> UInt64.ofNat k).toNat = (BitVec.ofNat 64 _).toNat
  have h1 : (UInt64.ofNat k).toNat = k := by
    show (BitVec.ofNat 64 k).toNat = k
    rw [BitVec.toNat_ofNat, Nat.mod_eq_of_lt (by omega)]
  have h2 : (lN n).toUInt64.toNat = n := wb_tn hn
  rw [UInt64.toNat_shiftRight, h1, h2, Nat.mod_eq_of_lt hk, Nat.shiftRight_eq_div_pow, BitVec.toNat_ofNat, Nat.mod_eq_of_lt (Nat.lt_of_le_of_lt (Nat.div_le_self _ _) hn)]
def jx_f (x : Int64) (i sz : Nat) : Nat := i + (x.toBitVec.toNat / 2 ^ 33) % (sz - i)
theorem jx_lt (x : Int64) {i sz : Nat} (h : i < sz) : jx_f x i sz < sz := by
  have := Nat.mod_lt (x.toBitVec.toNat / 2 ^ 33) (show sz - i > 0 by omega)
  unfold jx_f; omega
theorem jx_eq (x : Int64) {i sz : Nat} (h : i < sz) (h60 : sz ≤ 60) : nI i + ((x.toUInt64 >>> ((nI 33).toInt64.toUInt64 &&& Int64.toUInt64 63)).toInt64 - (x.toUInt64 >>> ((nI 33).toInt64.toUInt64 &&& Int64.toUInt64 63)).toInt64 / lN (sz - i) * lN (sz - i)).toInt32 = nI (jx_f x i sz) := by
  obtain ⟨n, hn, rfl⟩ := wb_of x
  have hd : n / 2 ^ 33 < 2 ^ 63 := by
    have : n / 2 ^ 33 < 2 ^ 31 := Nat.div_lt_of_lt_mul (by omega)
    omega
  rw [wb_shr hn (by decide), pk_lRem hd (by omega) (by omega), lN_i, nI_add]
  unfold jx_f
  rw [wb_tn hn]
def tr_f (f : Nat → Int32) : Nat → (Nat → Int32)
  | 0 => f
  | j + 1 => upd (tr_f f j) j (nI j)
def sw_f (f : Nat → Int32) (a b : Nat) : Nat → Int32 := upd (upd f a (f b)) b (f a)
def lc_x (x : Int64) : Int64 := x * lN 6364136223846793005 + lN 1442695040888963407
def dr_f (sz : Nat) : Nat → Nat → Int64 → (Nat → Int32) → (Nat → Int32)
  | 0, _, _, f => f
  | n + 1, i, x, f => dr_f sz n (i + 1) (lc_x x) (sw_f f i (jx_f (lc_x x) i sz))
theorem c_Dr_swap (S : cs_S) (r : List am_C) (a b : Nat) (ha : a < 60) (hb : b < 60) : am_ct y_Dr_swap 0 [.ref 32, .int (nI a), .int (nI b)] (cs_w S ++ r) none (cs_w (cs_I S 33 (sw_f (S.1 33) a b)) ++ r) 0 0 := by
  refine am_ct.of rfl (Nat.le_of_ble_eq_true rfl) ?_
  refine aw_aload_n d_Dr_swap_0 rfl ?_
  refine aw_get d_Dr_swap_1 fl_Dr_9 rfl rfl ?_
  refine aw_iload_n d_Dr_swap_4 rfl ?_
  refine aw_ialdN d_Dr_swap_5 rfl (by omega) (Nat.le_of_ble_eq_true rfl) ?_
  refine aw_istore_n d_Dr_swap_6 (Nat.le_of_ble_eq_true rfl) ?_
  refine aw_aload_n d_Dr_swap_7 rfl ?_
  refine aw_get d_Dr_swap_8 fl_Dr_9 rfl rfl ?_
  refine aw_iload_n d_Dr_swap_11 rfl ?_
  refine aw_aload_n d_Dr_swap_12 rfl ?_
  refine aw_get d_Dr_swap_13 fl_Dr_9 rfl rfl ?_
  refine aw_iload_n d_Dr_swap_16 rfl ?_
  refine aw_ialdN d_Dr_swap_17 rfl (by omega) (Nat.le_of_ble_eq_true rfl) ?_
  refine aw_iastN d_Dr_swap_18 rfl (by omega) (Nat.le_of_ble_eq_true rfl) (cs_s33 _ _ _) ?_
  refine aw_aload_n d_Dr_swap_19 rfl ?_
  refine aw_get d_Dr_swap_20 fl_Dr_9 rfl rfl ?_
  refine aw_iload_n d_Dr_swap_23 rfl ?_
  refine aw_iload_n d_Dr_swap_24 rfl ?_
  refine aw_iastN d_Dr_swap_25 rfl (by omega) (Nat.le_of_ble_eq_true rfl) (show _ = cs_w (cs_I S 33 (sw_f (S.1 33) a b)) ++ r from (cs_s33 _ _ _).trans (by rw [cs_II]; rfl)) ?_
  exact aw_vretE d_Dr_swap_26 rfl rfl rfl rfl
theorem c_Dr_row (S : cs_S) (r : List am_C) (x : Int32) (c : Nat) (hc : S.2.2 32 = nI c) (h60 : c ≤ 60) : am_ct y_Dr_row 0 [.ref 32, .int x] (cs_w S ++ r) (some (.int (if 0 ≤ x ∧ x < nI c then S.1 33 x.toNatClampNeg else -1))) (cs_w S ++ r) 0 0 := by
  refine am_ct.of rfl (Nat.le_of_ble_eq_true rfl) ?_
  refine aw_iload_n d_Dr_row_0 rfl ?_
  refine aw_if_lt (tgt := 21) d_Dr_row_1 (by decide) (fun h1 => ?_) (fun h1 => ?_)
  · refine aw_iconst (v := -1) d_Dr_row_21 (by decide) ?_
    exact aw_iretE d_Dr_row_22 rfl (by rw [if_neg (fun e => absurd e.1 (Int32.not_le.mpr h1))]) rfl rfl rfl
  · refine aw_iload_n d_Dr_row_4 rfl ?_
    refine aw_aload_n d_Dr_row_5 rfl ?_
    refine aw_get d_Dr_row_6 fl_Dr_15 rfl rfl ?_
    refine aw_eqs (congrArg (fun z => Value.int z :: _) hc) ?_
    refine aw_icmp_ge (tgt := 21) d_Dr_row_9 (by decide) (fun h9 => ?_) (fun h9 => ?_)
    · refine aw_iconst (v := -1) d_Dr_row_21 (by decide) ?_
      exact aw_iretE d_Dr_row_22 rfl (by rw [if_neg (fun e => absurd h9 (Int32.not_le.mpr e.2))]) rfl rfl rfl
    · refine aw_aload_n d_Dr_row_12 rfl ?_
      refine aw_get d_Dr_row_13 fl_Dr_9 rfl rfl ?_
      refine aw_iload_n d_Dr_row_16 rfl ?_
      refine aw_iald d_Dr_row_17 rfl (vp_in_lt h1 h9 h60 (by decide)) ?_
      refine aw_goto (tgt := 22) d_Dr_row_18 (by decide) ?_
      exact aw_iretE d_Dr_row_22 rfl (by rw [if_pos ⟨(i32_nlt _ _).mp h1, Int32.not_le.mp h9⟩]) rfl rfl rfl
theorem lp_Dr_1 (S : cs_S) (r : List am_C) (x0 : Int64) (m sz : Nat) (h60 : sz ≤ 60) (Z : am_E) (K : AW (am_Mof y_Dr_take) 1 0 0 25 [(5, .int (nI sz)), (0, .ref 32), (1, .long x0), (3, .int (nI m)), (4, .int (nI sz))] [] (cs_w (cs_I S 33 (tr_f (S.1 33) sz)) ++ r) 0 0 Z) : ∀ (n j : Nat), j + n = sz → AW (am_Mof y_Dr_take) 1 0 0 3 [(5, .int (nI j)), (0, .ref 32), (1, .long x0), (3, .int (nI m)), (4, .int (nI sz))] [] (cs_w (cs_I S 33 (tr_f (S.1 33) j)) ++ r) 0 0 Z := by
  intro n
  induction n with
  | zero =>
    intro j hj
    obtain rfl : sz = j := by omega
    refine aw_iload d_Dr_take_3 rfl ?_
    refine aw_iload d_Dr_take_5 rfl ?_
    refine aw_icmp_ge (tgt := 25) d_Dr_take_7 (by decide) (fun h7 => ?_) (fun h7 => absurd (nI_le (Nat.le_refl _) (by omega)) h7)
    exact K
  | succ n ih =>
    intro j hj
    refine aw_iload d_Dr_take_3 rfl ?_
    refine aw_iload d_Dr_take_5 rfl ?_
    refine aw_icmp_ge (tgt := 25) d_Dr_take_7 (by decide) (fun h7 => absurd h7 (nI_ge (by omega) (by omega))) (fun h7 => ?_)
    refine aw_aload_n d_Dr_take_10 rfl ?_
    refine aw_get d_Dr_take_11 fl_Dr_9 rfl rfl ?_
    refine aw_iload d_Dr_take_14 rfl ?_
    refine aw_iload d_Dr_take_16 rfl ?_
    refine aw_iastN d_Dr_take_18 rfl (by omega) (Nat.le_of_ble_eq_true rfl) (show _ = cs_w (cs_I S 33 (tr_f (S.1 33) (j + 1))) ++ r from (cs_s33 _ _ _).trans (by rw [cs_II]; rfl)) ?_
    refine aw_iinc d_Dr_take_19 rfl (nI_1 _) (Nat.le_of_ble_eq_true rfl) ?_
    refine aw_goto (tgt := 3) d_Dr_take_22 (by decide) ?_
    exact aw_eql rfl (ih (j + 1) (by omega))
theorem lp_Dr_2 (S : cs_S) (r : List am_C) (x0 : Int64) (m sz : Nat) (hm : m ≤ sz) (h60 : sz ≤ 60) (w' : List am_C) : ∀ (n i : Nat) (x : Int64) (f : Nat → Int32), i + n = m → cs_w (cs_F (cs_I S 33 (dr_f sz n i x f)) 32 (nI m)) ++ r = w' → AW (am_Mof y_Dr_take) 1 0 0 31 [(7, .int (nI i)), (5, .long x), (0, .ref 32), (1, .long x0), (3, .int (nI m)), (4, .int (nI sz))] [] (cs_w (cs_I S 33 (f)) ++ r) 0 0 (am_Z none w' 0 0) := by
  intro n
  induction n with
  | zero =>
    intro i x f hi hw
    obtain rfl : i = m := by omega
    refine aw_iload d_Dr_take_31 rfl ?_
    refine aw_iload_n d_Dr_take_33 rfl ?_
    refine aw_icmp_ge (tgt := 84) d_Dr_take_34 (by decide) (fun h34 => ?_) (fun h34 => absurd (nI_le (Nat.le_refl _) (by omega)) h34)
    refine aw_aload_n d_Dr_take_84 rfl ?_
    refine aw_iload_n d_Dr_take_85 rfl ?_
    refine aw_putW d_Dr_take_86 fp_Dr_15 rfl (Nat.le_of_ble_eq_true rfl) (fun _ _ => ⟨rfl, rfl⟩) (cs_f32_1 _ _ _) ?_
    exact aw_vretE d_Dr_take_89 rfl hw rfl rfl
  | succ n ih =>
    intro i x f hi hw
    have hisz : i < sz := by omega
    refine aw_iload d_Dr_take_31 rfl ?_
    refine aw_iload_n d_Dr_take_33 rfl ?_
    refine aw_icmp_ge (tgt := 84) d_Dr_take_34 (by decide) (fun h34 => absurd h34 (nI_ge (by omega) (by omega))) (fun h34 => ?_)
    refine aw_iload d_Dr_take_37 rfl ?_
    refine aw_iload d_Dr_take_39 rfl ?_
    refine aw_icmp_ge (tgt := 84) d_Dr_take_41 (by decide) (fun h41 => absurd h41 (nI_ge (by omega) (by omega))) (fun h41 => ?_)
    refine aw_lload d_Dr_take_44 rfl ?_
    refine aw_ldc2 (v := lN 6364136223846793005) d_Dr_take_46 kl_Dr_19 ?_
    refine aw_lmul d_Dr_take_49 ?_
    refine aw_ldc2 (v := lN 1442695040888963407) d_Dr_take_50 kl_Dr_21 ?_
    refine aw_ladd d_Dr_take_53 ?_
    refine aw_eqs (st' := [.long (lc_x x)]) rfl ?_
    refine aw_lstore d_Dr_take_54 (Nat.le_of_ble_eq_true rfl) ?_
    refine aw_aload_n d_Dr_take_56 rfl ?_
    refine aw_iload d_Dr_take_57 rfl ?_
    refine aw_iload d_Dr_take_59 rfl ?_
    refine aw_lload d_Dr_take_61 rfl ?_
    refine aw_bipush (v := nI 33) d_Dr_take_63 (by decide) ?_
    refine aw_lushr d_Dr_take_65 ?_
    refine aw_iload d_Dr_take_66 rfl ?_
    refine aw_iload d_Dr_take_68 rfl ?_
    refine aw_isub d_Dr_take_70 ?_
    rw [pk_sub (by omega)]
    refine aw_i2l d_Dr_take_71 ?_
    rw [nI_l (by omega)]
    refine aw_lrem d_Dr_take_72 (fun e => by have h9 := (pk_lEQ (a := sz - i) (b := 0) (by omega) (by omega)).mp e; omega) ?_
    refine aw_l2i d_Dr_take_73 ?_
    refine aw_iadd d_Dr_take_74 ?_
    rw [jx_eq (lc_x x) hisz h60]
    refine aw_cV0 d_Dr_take_75 (c_Dr_swap (cs_I S 33 f) r i (jx_f (lc_x x) i sz) (by omega) (by have := jx_lt (lc_x x) hisz; omega)) mk_Dr_swap is_Dr_swap ln_Dr_23 rfl rfl rfl rfl (Nat.le_of_ble_eq_true rfl) (Nat.le_of_ble_eq_true rfl) (Nat.le_of_ble_eq_true rfl) (Nat.le_of_ble_eq_true rfl) ?_
    refine aw_eqw (w' := cs_w (cs_I S 33 (sw_f f i (jx_f (lc_x x) i sz))) ++ r) (by rw [cs_II]; rfl) ?_
    refine aw_iinc d_Dr_take_78 rfl (nI_1 _) (Nat.le_of_ble_eq_true rfl) ?_
    refine aw_goto (tgt := 31) d_Dr_take_81 (by decide) ?_
    exact aw_eql rfl (ih (i + 1) (lc_x x) (sw_f f i (jx_f (lc_x x) i sz)) (by omega) hw)
theorem c_Dr_take (S : cs_S) (r : List am_C) (x0 : Int64) (m sz : Nat) (hm : m ≤ sz) (h60 : sz ≤ 60) : am_ct y_Dr_take 1 [.ref 32, .long x0, .int (nI m), .int (nI sz)] (cs_w S ++ r) none (cs_w (cs_F (cs_I S 33 (dr_f sz m 0 x0 (tr_f (S.1 33) sz))) 32 (nI m)) ++ r) 0 0 := by
  refine am_ct.of rfl (Nat.le_of_ble_eq_true rfl) ?_
  refine aw_iconst (v := nI 0) d_Dr_take_0 (by decide) ?_
  refine aw_istore d_Dr_take_1 (Nat.le_of_ble_eq_true rfl) ?_
  refine aw_eqw (w' := cs_w (cs_I S 33 (tr_f (S.1 33) 0)) ++ r) (by show cs_w S ++ r = cs_w (cs_I S 33 (S.1 33)) ++ r; rw [cs_Iid]) ?_
  refine aw_pick (lv' := [(5, .int (nI 0)), (0, .ref 32), (1, .long x0), (3, .int (nI m)), (4, .int (nI sz))]) ⟨rfl, rfl, rfl, rfl, rfl, trivial⟩ ?_
  refine lp_Dr_1 S r x0 m sz h60 _ ?_ sz 0 (by omega)
  refine aw_lload_n d_Dr_take_25 rfl ?_
  refine aw_lstore d_Dr_take_26 (Nat.le_of_ble_eq_true rfl) ?_
  refine aw_iconst (v := nI 0) d_Dr_take_28 (by decide) ?_
  refine aw_istore d_Dr_take_29 (Nat.le_of_ble_eq_true rfl) ?_
  refine aw_pick (lv' := [(7, .int (nI 0)), (5, .long x0), (0, .ref 32), (1, .long x0), (3, .int (nI m)), (4, .int (nI sz))]) ⟨rfl, rfl, rfl, rfl, rfl, rfl, trivial⟩ ?_
  exact lp_Dr_2 S r x0 m sz hm h60 _ m 0 x0 _ (by omega) rfl
