/-! RateChains$Solved: reading, taking, clearing -/
def ab_f (f : Nat → Int64) (k y : Nat) : Nat → Int64
  | 0 => lN 0
  | c + 1 => ab_f f k y c + f (c * 4 * 10 + (k * 10 + y))
def dn_f (b a : Int64) : Int64 := if b ≤ lN 0 then lN 0 else a / b
def al_n (f : Nat → Bool) : Nat → Bool
  | 0 => true
  | n + 1 => al_n f n && f n
theorem al_n_iff (f : Nat → Bool) : ∀ n, al_n f n = true ↔ ∀ t, t < n → f t = true
  | 0 => by simp [al_n]
  | n + 1 => by
    simp only [al_n, Bool.and_eq_true, al_n_iff f n]
    constructor
    · rintro ⟨h1, h2⟩ t ht
      by_cases e : t = n
      · subst e; exact h2
      · exact h1 t (by omega)
    · intro h
      exact ⟨fun t ht => h t (by omega), h n (by omega)⟩
abbrev nm_c (S : cs_S) (k y : Nat) : Prop := ab_f (S.2.1 28) k y 4 ≤ S.2.1 27 (k * 10 + y) * S.2.1 24 k
def nm_f (S : cs_S) : Bool := al_n (fun k => al_n (fun y => decide (nm_c S k y)) 10) 4
def ts_f (f : Nat → Int64) (c k : Nat) : Nat → Nat → Int64 → Int64
  | 0, _, a => a
  | n + 1, i, a => ts_f f c k n (i + 1) (a + f (c * 4 * 10 + (k * 10 + i)))
abbrev tk_p (st : Nat → Int64) (c k i : Nat) (due : Int64) : Int64 := if st (c * 4 * 10 + (k * 10 + i)) < due then st (c * 4 * 10 + (k * 10 + i)) else due
def tk_f (c k : Nat) : Nat → Nat → Int64 → (Nat → Int64) → (Nat → Int64)
  | 0, _, _, st => st
  | n + 1, i, due, st => tk_f c k n (i + 1) (due - tk_p st c k i due) (vp_updL st (c * 4 * 10 + (k * 10 + i)) (st (c * 4 * 10 + (k * 10 + i)) - tk_p st c k i due))
def cl_f (f : Nat → Int64) : Nat → (Nat → Int64)
  | 0 => f
  | i + 1 => vp_updL (cl_f f i) i (lN 0)
theorem mx_1 : Cond.static Lib.Math.max.name ∈ am_G := am_in 496 (by decide +kernel) (by decide +kernel)
theorem mx_2 : Cond.initialized "java/lang/Math" ∈ am_G := am_in 45 (by decide +kernel) (by decide +kernel)
theorem mx_3 : Cond.code Lib.Math.max.name Lib.Math.max.code 2 (some .int) ∈ am_G := am_in 497 (by decide +kernel) (by decide +kernel)
theorem mn_1 : Cond.static Lib.MathLoose.min_long.x ∈ am_G := am_in 504 (by decide +kernel) (by decide +kernel)
theorem mn_3 : Cond.code Lib.MathLoose.min_long.x Lib.MathLoose.min_long.code 4 (some .long) ∈ am_G := am_in 505 (by decide +kernel) (by decide +kernel)
theorem mx_y : ∀ y, y < 10 → (if nI 0 < nI y - nI 2 then nI y - nI 2 else nI 0) = nI (y - 2) := by decide +kernel
theorem c_So_place (w : List am_C) (c k y : Nat) : am_ct y_So_place 1 [.int (nI c), .int (nI k), .int (nI y)] (w) (some (.int (nI (c * 4 * 10 + (k * 10 + y))))) (w) 0 0 := by
  refine am_ct.of rfl (Nat.le_of_ble_eq_true rfl) ?_
  refine aw_iload_n d_So_place_0 rfl ?_
  refine aw_iconst (v := nI 4) d_So_place_1 (by decide) ?_
  refine aw_imul d_So_place_2 ?_
  try simp only [pk_mul, nI_add]
  refine aw_iload_n d_So_place_3 rfl ?_
  refine aw_iadd d_So_place_4 ?_
  try simp only [pk_mul, nI_add]
  refine aw_bipush (v := nI 10) d_So_place_5 (by decide) ?_
  refine aw_imul d_So_place_7 ?_
  try simp only [pk_mul, nI_add]
  refine aw_iload_n d_So_place_8 rfl ?_
  refine aw_iadd d_So_place_9 ?_
  try simp only [pk_mul, nI_add]
  exact aw_iretE d_So_place_10 rfl (congrArg nI (show (c * 4 + k) * 10 + y = c * 4 * 10 + (k * 10 + y) by omega)) rfl rfl rfl
theorem c_So_isThere (S : cs_S) (r : List am_C) (h16 : narrow .boolean (.int (S.2.2 16)) = .int (S.2.2 16)) : am_ct y_So_isThere 0 [.ref 16] (cs_w S ++ r) (some (.int (S.2.2 16))) (cs_w S ++ r) 0 0 := by
  refine am_ct.of rfl (Nat.le_of_ble_eq_true rfl) ?_
  refine aw_aload_n d_So_isThere_0 rfl ?_
  refine aw_get d_So_isThere_1 fl_So_44 rfl rfl ?_
  exact aw_zretE d_So_isThere_4 rfl h16 rfl rfl rfl rfl
theorem c_So_belowOf (S : cs_S) (r : List am_C) (k : Nat) (hk : k < 4) : am_ct y_So_belowOf 0 [.ref 16, .int (nI k)] (cs_w S ++ r) (some (.long (S.2.1 24 k))) (cs_w S ++ r) 0 0 := by
  refine am_ct.of rfl (Nat.le_of_ble_eq_true rfl) ?_
  refine aw_aload_n d_So_belowOf_0 rfl ?_
  refine aw_get d_So_belowOf_1 fl_So_18 rfl rfl ?_
  refine aw_iload_n d_So_belowOf_4 rfl ?_
  refine aw_laldN d_So_belowOf_5 rfl (by omega) (Nat.le_of_ble_eq_true rfl) ?_
  exact aw_lretE d_So_belowOf_6 rfl rfl rfl rfl rfl
theorem c_So_aboveOfCountry (S : cs_S) (r : List am_C) (c k y : Nat) (hc : c < 4) (hk : k < 4) (hy : y < 10) : am_ct y_So_aboveOfCountry 2 [.ref 16, .int (nI c), .int (nI k), .int (nI y)] (cs_w S ++ r) (some (.long (S.2.1 28 (c * 4 * 10 + (k * 10 + y))))) (cs_w S ++ r) 0 0 := by
  refine am_ct.of rfl (Nat.le_of_ble_eq_true rfl) ?_
  refine aw_aload_n d_So_aboveOfCountry_0 rfl ?_
  refine aw_get d_So_aboveOfCountry_1 fl_So_31 rfl rfl ?_
  refine aw_iload_n d_So_aboveOfCountry_4 rfl ?_
  refine aw_iload_n d_So_aboveOfCountry_5 rfl ?_
  refine aw_iload_n d_So_aboveOfCountry_6 rfl ?_
  refine aw_cS1 d_So_aboveOfCountry_7 (c_So_place _ c k y) mk_So_place is_So_place ln_So_48 rfl rfl (Nat.le_of_ble_eq_true rfl) (Nat.le_of_ble_eq_true rfl) (Nat.le_of_ble_eq_true rfl) (Nat.le_of_ble_eq_true rfl) ?_
  refine aw_laldN d_So_aboveOfCountry_10 rfl (by omega) (Nat.le_of_ble_eq_true rfl) ?_
  exact aw_lretE d_So_aboveOfCountry_11 rfl rfl rfl rfl rfl
theorem c_So_stockOf (S : cs_S) (r : List am_C) (c k y : Nat) (hc : c < 4) (hk : k < 4) (hy : y < 10) : am_ct y_So_stockOf 2 [.ref 16, .int (nI c), .int (nI k), .int (nI y)] (cs_w S ++ r) (some (.long (S.2.1 29 (c * 4 * 10 + (k * 10 + y))))) (cs_w S ++ r) 0 0 := by
  refine am_ct.of rfl (Nat.le_of_ble_eq_true rfl) ?_
  refine aw_aload_n d_So_stockOf_0 rfl ?_
  refine aw_get d_So_stockOf_1 fl_So_34 rfl rfl ?_
  refine aw_iload_n d_So_stockOf_4 rfl ?_
  refine aw_iload_n d_So_stockOf_5 rfl ?_
  refine aw_iload_n d_So_stockOf_6 rfl ?_
  refine aw_cS1 d_So_stockOf_7 (c_So_place _ c k y) mk_So_place is_So_place ln_So_48 rfl rfl (Nat.le_of_ble_eq_true rfl) (Nat.le_of_ble_eq_true rfl) (Nat.le_of_ble_eq_true rfl) (Nat.le_of_ble_eq_true rfl) ?_
  refine aw_laldN d_So_stockOf_10 rfl (by omega) (Nat.le_of_ble_eq_true rfl) ?_
  exact aw_lretE d_So_stockOf_11 rfl rfl rfl rfl rfl
theorem c_So_lostBareAt (S : cs_S) (r : List am_C) (p : Nat) (hp : p < 5) (hb : b01 (S.1 31)) : am_ct y_So_lostBareAt 0 [.ref 16, .int (nI p)] (cs_w S ++ r) (some (.int (S.1 31 p))) (cs_w S ++ r) 0 0 := by
  refine am_ct.of rfl (Nat.le_of_ble_eq_true rfl) ?_
  refine aw_aload_n d_So_lostBareAt_0 rfl ?_
  refine aw_get d_So_lostBareAt_1 fl_So_41 rfl rfl ?_
  refine aw_iload_n d_So_lostBareAt_4 rfl ?_
  refine aw_zaldN d_So_lostBareAt_5 rfl (by omega) (Nat.le_of_ble_eq_true rfl) ?_
  exact aw_zretE d_So_lostBareAt_6 rfl (b01_nar hb _) rfl rfl rfl rfl
theorem c_So_difference (S : cs_S) (r : List am_C) (p k ya yb : Nat) (hp : p < 5) (hk : k < 4) (ha : ya < 10) (hb : yb < 10) : am_ct y_So_difference 1 [.ref 16, .int (nI p), .int (nI k), .int (nI ya), .int (nI yb)] (cs_w S ++ r) (some (.long ((S.2.1 26 ((p * 4 + k) * 10 + yb) - S.2.1 26 ((p * 4 + k) * 10 + ya)) * S.2.1 25 (p * 4 + k)))) (cs_w S ++ r) 0 0 := by
  refine am_ct.of rfl (Nat.le_of_ble_eq_true rfl) ?_
  refine aw_iload_n d_So_difference_0 rfl ?_
  refine aw_iload_n d_So_difference_1 rfl ?_
  refine aw_cSN1 d_So_difference_2 (c_RC_slotOf _ p k) mk_RC_slotOf is_RC_slotOf ln_So_64 rfl rfl (Nat.le_of_ble_eq_true rfl) (Nat.le_of_ble_eq_true rfl) (Nat.le_of_ble_eq_true rfl) (Nat.le_of_ble_eq_true rfl) ?_
  refine aw_istore d_So_difference_5 (Nat.le_of_ble_eq_true rfl) ?_
  refine aw_aload_n d_So_difference_7 rfl ?_
  refine aw_get d_So_difference_8 fl_So_25 rfl rfl ?_
  refine aw_iload d_So_difference_11 rfl ?_
  refine aw_bipush (v := nI 10) d_So_difference_13 (by decide) ?_
  refine aw_imul d_So_difference_15 ?_
  try simp only [pk_mul, nI_add]
  refine aw_iload d_So_difference_16 rfl ?_
  refine aw_iadd d_So_difference_18 ?_
  try simp only [pk_mul, nI_add]
  refine aw_laldN d_So_difference_19 rfl (by omega) (Nat.le_of_ble_eq_true rfl) ?_
  refine aw_aload_n d_So_difference_20 rfl ?_
  refine aw_get d_So_difference_21 fl_So_25 rfl rfl ?_
  refine aw_iload d_So_difference_24 rfl ?_
  refine aw_bipush (v := nI 10) d_So_difference_26 (by decide) ?_
  refine aw_imul d_So_difference_28 ?_
  try simp only [pk_mul, nI_add]
  refine aw_iload_n d_So_difference_29 rfl ?_
  refine aw_iadd d_So_difference_30 ?_
  try simp only [pk_mul, nI_add]
  refine aw_laldN d_So_difference_31 rfl (by omega) (Nat.le_of_ble_eq_true rfl) ?_
  refine aw_lsub d_So_difference_32 ?_
  refine aw_lstore d_So_difference_33 (Nat.le_of_ble_eq_true rfl) ?_
  refine aw_lload d_So_difference_35 rfl ?_
  refine aw_aload_n d_So_difference_37 rfl ?_
  refine aw_get d_So_difference_38 fl_So_22 rfl rfl ?_
  refine aw_iload d_So_difference_41 rfl ?_
  refine aw_laldN d_So_difference_43 rfl (by omega) (Nat.le_of_ble_eq_true rfl) ?_
  refine aw_lmul d_So_difference_44 ?_
  exact aw_lretE d_So_difference_45 rfl rfl rfl rfl rfl
theorem lp_So_ab (S : cs_S) (r : List am_C) (k y : Nat) (hk : k < 4) (hy : y < 10) : ∀ (n c : Nat), c + n = 4 → AW (am_Mof y_So_aboveOf) 3 0 0 5 [(5, .int (nI c)), (3, .long (ab_f (S.2.1 28) k y c)), (0, .ref 16), (1, .int (nI k)), (2, .int (nI y))] [] (cs_w S ++ r) 0 0 (am_Z (some (.long (ab_f (S.2.1 28) k y 4))) (cs_w S ++ r) 0 0) := by
  intro n
  induction n with
  | zero =>
    intro c hc
    obtain rfl : c = 4 := by omega
    refine aw_iload d_So_aboveOf_5 rfl ?_
    refine aw_iconst (v := nI 4) d_So_aboveOf_7 (by decide) ?_
    refine aw_icmp_ge (tgt := 28) d_So_aboveOf_8 (by decide) (fun h8 => ?_) (fun h8 => absurd (nI_le (Nat.le_refl 4) (by omega)) h8)
    refine aw_lload_n d_So_aboveOf_28 rfl ?_
    exact aw_lretE d_So_aboveOf_29 rfl rfl rfl rfl rfl
  | succ n ih =>
    intro c hc
    refine aw_iload d_So_aboveOf_5 rfl ?_
    refine aw_iconst (v := nI 4) d_So_aboveOf_7 (by decide) ?_
    refine aw_icmp_ge (tgt := 28) d_So_aboveOf_8 (by decide) (fun h8 => absurd h8 (nI_ge (by omega) (by omega))) (fun h8 => ?_)
    refine aw_lload_n d_So_aboveOf_11 rfl ?_
    refine aw_aload_n d_So_aboveOf_12 rfl ?_
    refine aw_iload d_So_aboveOf_13 rfl ?_
    refine aw_iload_n d_So_aboveOf_15 rfl ?_
    refine aw_iload_n d_So_aboveOf_16 rfl ?_
    refine aw_cV1 d_So_aboveOf_17 (c_So_aboveOfCountry S r c k y (by omega) hk hy) mk_So_aboveOfCountry is_So_aboveOfCountry ln_So_52 rfl rfl rfl rfl (Nat.le_of_ble_eq_true rfl) (Nat.le_of_ble_eq_true rfl) (Nat.le_of_ble_eq_true rfl) (Nat.le_of_ble_eq_true rfl) ?_
    refine aw_ladd d_So_aboveOf_20 ?_
    refine aw_lstore_n d_So_aboveOf_21 (Nat.le_of_ble_eq_true rfl) ?_
    refine aw_iinc d_So_aboveOf_22 rfl (nI_1 _) (Nat.le_of_ble_eq_true rfl) ?_
    refine aw_goto (tgt := 5) d_So_aboveOf_25 (by decide) ?_
    exact aw_eql rfl (ih (c + 1) (by omega))
theorem c_So_aboveOf (S : cs_S) (r : List am_C) (k y : Nat) (hk : k < 4) (hy : y < 10) : am_ct y_So_aboveOf 3 [.ref 16, .int (nI k), .int (nI y)] (cs_w S ++ r) (some (.long (ab_f (S.2.1 28) k y 4))) (cs_w S ++ r) 0 0 := by
  refine am_ct.of rfl (Nat.le_of_ble_eq_true rfl) ?_
  refine aw_lconst (v := lN 0) d_So_aboveOf_0 rfl ?_
  refine aw_lstore_n d_So_aboveOf_1 (Nat.le_of_ble_eq_true rfl) ?_
  refine aw_iconst (v := nI 0) d_So_aboveOf_2 (by decide) ?_
  refine aw_istore d_So_aboveOf_3 (Nat.le_of_ble_eq_true rfl) ?_
  exact aw_eql rfl (lp_So_ab S r k y hk hy 4 0 rfl)
theorem c_So_down (S : cs_S) (r : List am_C) (a : Int64) (k : Nat) (hk : k < 4) : am_ct y_So_down 0 [.ref 16, .long a, .int (nI k)] (cs_w S ++ r) (some (.long (dn_f (S.2.1 24 k) a))) (cs_w S ++ r) 0 0 := by
  refine am_ct.of rfl (Nat.le_of_ble_eq_true rfl) ?_
  refine aw_aload_n d_So_down_0 rfl ?_
  refine aw_get d_So_down_1 fl_So_18 rfl rfl ?_
  refine aw_iload_n d_So_down_4 rfl ?_
  refine aw_laldN d_So_down_5 rfl (by omega) (Nat.le_of_ble_eq_true rfl) ?_
  refine aw_lconst (v := lN 0) d_So_down_6 rfl ?_
  refine aw_lc_le (tgt := 22) d_So_down_7 d_So_down_8 (by decide) (fun h8 => ?_) (fun h8 => ?_)
  · refine aw_lconst (v := lN 0) d_So_down_22 rfl ?_
    exact aw_lretE d_So_down_23 rfl (by unfold dn_f; rw [if_pos h8]) rfl rfl rfl
  · refine aw_lload_n d_So_down_11 rfl ?_
    refine aw_aload_n d_So_down_12 rfl ?_
    refine aw_get d_So_down_13 fl_So_18 rfl rfl ?_
    refine aw_iload_n d_So_down_16 rfl ?_
    refine aw_laldN d_So_down_17 rfl (by omega) (Nat.le_of_ble_eq_true rfl) ?_
    refine aw_ldiv d_So_down_18 (fun e => h8 (by rw [e]; exact (i64_nlt _ _).mp Int64.lt_irrefl)) ?_
    refine aw_goto (tgt := 23) d_So_down_19 (by decide) ?_
    exact aw_lretE d_So_down_23 rfl (by unfold dn_f; rw [if_neg h8]) rfl rfl rfl
theorem c_So_wholeGrams (S : cs_S) (r : List am_C) (k y : Nat) (hk : k < 4) (hy : y < 10) : am_ct y_So_wholeGrams 4 [.ref 16, .int (nI k), .int (nI y)] (cs_w S ++ r) (some (.long (dn_f (S.2.1 24 k) (ab_f (S.2.1 28) k y 4)))) (cs_w S ++ r) 0 0 := by
  refine am_ct.of rfl (Nat.le_of_ble_eq_true rfl) ?_
  refine aw_aload_n d_So_wholeGrams_0 rfl ?_
  refine aw_aload_n d_So_wholeGrams_1 rfl ?_
  refine aw_iload_n d_So_wholeGrams_2 rfl ?_
  refine aw_iload_n d_So_wholeGrams_3 rfl ?_
  refine aw_cV1 d_So_wholeGrams_4 (c_So_aboveOf S r k y hk hy) mk_So_aboveOf is_So_aboveOf ln_So_56 rfl rfl rfl rfl (Nat.le_of_ble_eq_true rfl) (Nat.le_of_ble_eq_true rfl) (Nat.le_of_ble_eq_true rfl) (Nat.le_of_ble_eq_true rfl) ?_
  refine aw_iload_n d_So_wholeGrams_7 rfl ?_
  refine aw_cV1 d_So_wholeGrams_8 (c_So_down S r _ k hk) mk_So_down is_So_down ln_So_60 rfl rfl rfl rfl (Nat.le_of_ble_eq_true rfl) (Nat.le_of_ble_eq_true rfl) (Nat.le_of_ble_eq_true rfl) (Nat.le_of_ble_eq_true rfl) ?_
  exact aw_lretE d_So_wholeGrams_11 rfl rfl rfl rfl rfl
theorem lp_So_n1 (S : cs_S) (r : List am_C) (k : Nat) (hk : k < 4) (hf : nm_f S = true → ∀ y, y < 10 → nm_c S k y) (K : (∀ y, y < 10 → nm_c S k y) → AW (am_Mof y_So_isNeverMoreThanBrought) 4 0 0 50 [(2, .int (nI 10)), (1, .int (nI k)), (0, .ref 16)] [] (cs_w S ++ r) 0 0 (am_Z (some (.int (bI (nm_f S = true)))) (cs_w S ++ r) 0 0)) : ∀ (n y : Nat), y + n = 10 → (∀ t, t < y → nm_c S k t) → AW (am_Mof y_So_isNeverMoreThanBrought) 4 0 0 9 [(2, .int (nI y)), (1, .int (nI k)), (0, .ref 16)] [] (cs_w S ++ r) 0 0 (am_Z (some (.int (bI (nm_f S = true)))) (cs_w S ++ r) 0 0) := by
  intro n
  induction n with
  | zero =>
    intro y hy hall
    obtain rfl : y = 10 := by omega
    refine aw_iload_n d_So_isNeverMoreThanBrought_9 rfl ?_
    refine aw_bipush (v := nI 10) d_So_isNeverMoreThanBrought_10 (by decide) ?_
    refine aw_icmp_ge (tgt := 50) d_So_isNeverMoreThanBrought_12 (by decide) (fun h12 => ?_) (fun h12 => absurd (nI_le (Nat.le_refl 10) (by omega)) h12)
    exact K hall
  | succ n ih =>
    intro y hy hall
    refine aw_iload_n d_So_isNeverMoreThanBrought_9 rfl ?_
    refine aw_bipush (v := nI 10) d_So_isNeverMoreThanBrought_10 (by decide) ?_
    refine aw_icmp_ge (tgt := 50) d_So_isNeverMoreThanBrought_12 (by decide) (fun h12 => absurd h12 (nI_ge (by omega) (by omega))) (fun h12 => ?_)
    refine aw_aload_n d_So_isNeverMoreThanBrought_15 rfl ?_
    refine aw_iload_n d_So_isNeverMoreThanBrought_16 rfl ?_
    refine aw_iload_n d_So_isNeverMoreThanBrought_17 rfl ?_
    refine aw_cV1 d_So_isNeverMoreThanBrought_18 (c_So_aboveOf S r k y hk (by omega)) mk_So_aboveOf is_So_aboveOf ln_So_56 rfl rfl rfl rfl (Nat.le_of_ble_eq_true rfl) (Nat.le_of_ble_eq_true rfl) (Nat.le_of_ble_eq_true rfl) (Nat.le_of_ble_eq_true rfl) ?_
    refine aw_aload_n d_So_isNeverMoreThanBrought_21 rfl ?_
    refine aw_get d_So_isNeverMoreThanBrought_22 fl_So_28 rfl rfl ?_
    refine aw_iload_n d_So_isNeverMoreThanBrought_25 rfl ?_
    refine aw_iload_n d_So_isNeverMoreThanBrought_26 rfl ?_
    refine aw_cSN1 d_So_isNeverMoreThanBrought_27 (c_RC_cell _ k y) mk_RC_cell is_RC_cell ln_So_68 rfl rfl (Nat.le_of_ble_eq_true rfl) (Nat.le_of_ble_eq_true rfl) (Nat.le_of_ble_eq_true rfl) (Nat.le_of_ble_eq_true rfl) ?_
    refine aw_laldN d_So_isNeverMoreThanBrought_30 rfl (by omega) (Nat.le_of_ble_eq_true rfl) ?_
    refine aw_aload_n d_So_isNeverMoreThanBrought_31 rfl ?_
    refine aw_get d_So_isNeverMoreThanBrought_32 fl_So_18 rfl rfl ?_
    refine aw_iload_n d_So_isNeverMoreThanBrought_35 rfl ?_
    refine aw_laldN d_So_isNeverMoreThanBrought_36 rfl (by omega) (Nat.le_of_ble_eq_true rfl) ?_
    refine aw_lmul d_So_isNeverMoreThanBrought_37 ?_
    refine aw_lc_le (tgt := 44) d_So_isNeverMoreThanBrought_38 d_So_isNeverMoreThanBrought_39 (by decide) (fun h39 => ?_) (fun h39 => ?_)
    · refine aw_iinc d_So_isNeverMoreThanBrought_44 rfl (nI_1 _) (Nat.le_of_ble_eq_true rfl) ?_
      refine aw_goto (tgt := 9) d_So_isNeverMoreThanBrought_47 (by decide) ?_
      exact aw_eql rfl (ih (y + 1) (by omega) (fun t ht => by
        rcases (show t < y ∨ t = y by omega) with h | h
        · exact hall t h
        · subst h; exact h39))
    · refine aw_iconst (v := nI 0) d_So_isNeverMoreThanBrought_42 (by decide) ?_
      exact aw_zretE d_So_isNeverMoreThanBrought_43 rfl rfl (bI_f (fun e => h39 (hf e y (by omega)))).symm rfl rfl rfl
theorem nm_f_all (S : cs_S) : nm_f S = true ↔ ∀ k, k < 4 → ∀ y, y < 10 → nm_c S k y := by
  unfold nm_f
  rw [al_n_iff]
  constructor
  · intro h k hk y hy
    exact of_decide_eq_true ((al_n_iff _ _).mp (h k hk) y hy)
  · intro h k hk
    exact (al_n_iff _ _).mpr (fun y hy => decide_eq_true (h k hk y hy))
theorem lp_So_n2 (S : cs_S) (r : List am_C) : ∀ (n k : Nat) (x2 : List (Nat × Value)), k + n = 4 → (∀ t, t < k → ∀ y, y < 10 → nm_c S t y) → AW (am_Mof y_So_isNeverMoreThanBrought) 4 0 0 2 ([(1, .int (nI k))] ++ x2 ++ [(0, .ref 16)]) [] (cs_w S ++ r) 0 0 (am_Z (some (.int (bI (nm_f S = true)))) (cs_w S ++ r) 0 0) := by
  intro n
  induction n with
  | zero =>
    intro k x2 hk hall
    obtain rfl : k = 4 := by omega
    refine aw_sub (lv' := [(1, .int (nI 4)), (0, .ref 16)]) (by simp) ?_
    refine aw_iload_n d_So_isNeverMoreThanBrought_2 rfl ?_
    refine aw_iconst (v := nI 4) d_So_isNeverMoreThanBrought_3 (by decide) ?_
    refine aw_icmp_ge (tgt := 56) d_So_isNeverMoreThanBrought_4 (by decide) (fun h4 => ?_) (fun h4 => absurd (nI_le (Nat.le_refl 4) (by omega)) h4)
    refine aw_iconst (v := nI 1) d_So_isNeverMoreThanBrought_56 (by decide) ?_
    exact aw_zretE d_So_isNeverMoreThanBrought_57 rfl rfl (bI_t ((nm_f_all S).mpr hall)).symm rfl rfl rfl
  | succ n ih =>
    intro k x2 hk hall
    refine aw_sub (lv' := [(1, .int (nI k)), (0, .ref 16)]) (by simp) ?_
    refine aw_iload_n d_So_isNeverMoreThanBrought_2 rfl ?_
    refine aw_iconst (v := nI 4) d_So_isNeverMoreThanBrought_3 (by decide) ?_
    refine aw_icmp_ge (tgt := 56) d_So_isNeverMoreThanBrought_4 (by decide) (fun h4 => absurd h4 (nI_ge (by omega) (by omega))) (fun h4 => ?_)
    refine aw_iconst (v := nI 0) d_So_isNeverMoreThanBrought_7 (by decide) ?_
    refine aw_istore_n d_So_isNeverMoreThanBrought_8 (Nat.le_of_ble_eq_true rfl) ?_
    refine aw_eql rfl (lp_So_n1 S r k (by omega) (fun e => (nm_f_all S).mp e k (by omega)) (fun hk2 => ?_) 10 0 rfl (fun t h => absurd h (Nat.not_lt_zero t)))
    refine aw_iinc d_So_isNeverMoreThanBrought_50 rfl (nI_1 _) (Nat.le_of_ble_eq_true rfl) ?_
    refine aw_goto (tgt := 2) d_So_isNeverMoreThanBrought_53 (by decide) ?_
    refine aw_pick (lv' := [(1, .int (nI (k + 1))), (0, .ref 16)]) ⟨rfl, rfl, trivial⟩ ?_
    exact ih (k + 1) [] (by omega) (fun t ht => by
      rcases (show t < k ∨ t = k by omega) with h | h
      · exact hall t h
      · subst h; exact hk2)
theorem c_So_isNeverMoreThanBrought (S : cs_S) (r : List am_C) : am_ct y_So_isNeverMoreThanBrought 4 [.ref 16] (cs_w S ++ r) (some (.int (bI (nm_f S = true)))) (cs_w S ++ r) 0 0 := by
  refine am_ct.of rfl (Nat.le_of_ble_eq_true rfl) ?_
  refine aw_iconst (v := nI 0) d_So_isNeverMoreThanBrought_0 (by decide) ?_
  refine aw_istore_n d_So_isNeverMoreThanBrought_1 (Nat.le_of_ble_eq_true rfl) ?_
  exact aw_eql rfl (lp_So_n2 S r 4 0 [] rfl (fun t h => absurd h (Nat.not_lt_zero t)))
theorem lp_So_clear (S : cs_S) (r : List am_C) (q N : Nat) (hN : N < 2 ^ 31) (hq : ∀ S : cs_S, (cs_w S ++ r)[q]? = some (.inl (1, N, .inr (.inl (S.2.1 q))))) (hs : ∀ (S : cs_S) (g : Nat → Int64), (cs_w S ++ r).set q (.inl (1, N, .inr (.inl g))) = cs_w (cs_J S q g) ++ r) : ∀ (n i : Nat), i + n = N → AW (am_Mof y_So_clear) 0 0 0 2 [(1, .int (nI i)), (0, .ref q)] [] (cs_w (cs_J S q (cl_f (S.2.1 q) i)) ++ r) 0 0 (am_Z none (cs_w (cs_J S q (cl_f (S.2.1 q) N)) ++ r) 0 0) := by
  have hqq : ∀ g : Nat → Int64, (cs_w (cs_J S q g) ++ r)[q]? = some (.inl (1, N, .inr (.inl g))) := fun g => by
    have h := hq (cs_J S q g)
    rw [show (cs_J S q g).2.1 q = g from va_up_self _ _ _] at h
    exact h
  intro n
  induction n with
  | zero =>
    intro i hi
    obtain rfl : i = N := by omega
    refine aw_iload_n d_So_clear_2 rfl ?_
    refine aw_aload_n d_So_clear_3 rfl ?_
    refine aw_alen (v := nI i) d_So_clear_4 (hqq _) (by decide) rfl ?_
    refine aw_icmp_ge (tgt := 18) d_So_clear_5 (by decide) (fun h5 => ?_) (fun h5 => absurd (nI_le (Nat.le_refl _) hN) h5)
    exact aw_vretE d_So_clear_18 rfl rfl rfl rfl
  | succ n ih =>
    intro i hi
    refine aw_iload_n d_So_clear_2 rfl ?_
    refine aw_aload_n d_So_clear_3 rfl ?_
    refine aw_alen (v := nI N) d_So_clear_4 (hqq _) (by decide) rfl ?_
    refine aw_icmp_ge (tgt := 18) d_So_clear_5 (by decide) (fun h5 => absurd h5 (nI_ge (by omega) (by omega))) (fun h5 => ?_)
    refine aw_aload_n d_So_clear_8 rfl ?_
    refine aw_iload_n d_So_clear_9 rfl ?_
    refine aw_lconst (v := lN 0) d_So_clear_10 rfl ?_
    refine aw_lastN d_So_clear_11 (hqq _) (by omega) hN (show _ = cs_w (cs_J S q (cl_f (S.2.1 q) (i + 1))) ++ r from (hs _ _).trans (by rw [cs_JJ]; rfl)) ?_
    refine aw_iinc d_So_clear_12 rfl (nI_1 _) (Nat.le_of_ble_eq_true rfl) ?_
    refine aw_goto (tgt := 2) d_So_clear_15 (by decide) ?_
    exact aw_eql rfl (ih (i + 1) (by omega))
theorem c_So_clear (S : cs_S) (r : List am_C) (q N : Nat) (hN : N < 2 ^ 31) (hq : ∀ S : cs_S, (cs_w S ++ r)[q]? = some (.inl (1, N, .inr (.inl (S.2.1 q))))) (hs : ∀ (S : cs_S) (g : Nat → Int64), (cs_w S ++ r).set q (.inl (1, N, .inr (.inl g))) = cs_w (cs_J S q g) ++ r) : am_ct y_So_clear 0 [.ref q] (cs_w S ++ r) none (cs_w (cs_J S q (cl_f (S.2.1 q) N)) ++ r) 0 0 := by
  refine am_ct.of rfl (Nat.le_of_ble_eq_true rfl) ?_
  refine aw_iconst (v := nI 0) d_So_clear_0 (by decide) ?_
  refine aw_istore_n d_So_clear_1 (Nat.le_of_ble_eq_true rfl) ?_
  refine aw_eqw (w' := cs_w (cs_J S q (cl_f (S.2.1 q) 0)) ++ r) (by show cs_w S ++ r = cs_w (S.1, va_up S.2.1 q (S.2.1 q), S.2.2) ++ r; rw [va_up_idl]) ?_
  exact aw_eql rfl (lp_So_clear S r q N hN hq hs N 0 (by omega))
theorem lp_So_t1 (S : cs_S) (r : List am_C) (c k y : Nat) (hc : c < 4) (hk : k < 4) (hy : y < 10) (g : Int64) (Z : am_E) (T : Int64) (K : AW (am_Mof y_So_take) 4 0 0 41 [(7, .long T), (0, .ref 16), (1, .int (nI c)), (2, .int (nI k)), (3, .int (nI y)), (4, .long g), (6, .int (nI (y - 2)))] [] (cs_w S ++ r) 0 0 Z) : ∀ (n i : Nat) (a : Int64), i + n = y + 1 → ts_f (S.2.1 29) c k n i a = T → AW (am_Mof y_So_take) 4 0 0 16 [(9, .int (nI i)), (7, .long a), (0, .ref 16), (1, .int (nI c)), (2, .int (nI k)), (3, .int (nI y)), (4, .long g), (6, .int (nI (y - 2)))] [] (cs_w S ++ r) 0 0 Z := by
  intro n
  induction n with
  | zero =>
    intro i a hi hT
    obtain rfl : i = y + 1 := by omega
    obtain rfl : a = T := hT
    refine aw_iload d_So_take_16 rfl ?_
    refine aw_iload_n d_So_take_18 rfl ?_
    refine aw_icmp_gt (tgt := 41) d_So_take_19 (by decide) (fun h19 => ?_) (fun h19 => absurd (nI_lt (by omega) (by omega)) h19)
    exact aw_pick (lv' := [(7, .long a), (0, .ref 16), (1, .int (nI c)), (2, .int (nI k)), (3, .int (nI y)), (4, .long g), (6, .int (nI (y - 2)))]) ⟨rfl, rfl, rfl, rfl, rfl, rfl, rfl, trivial⟩ K
  | succ n ih =>
    intro i a hi hT
    refine aw_iload d_So_take_16 rfl ?_
    refine aw_iload_n d_So_take_18 rfl ?_
    refine aw_icmp_gt (tgt := 41) d_So_take_19 (by decide) (fun h19 => absurd h19 (nI_nlt (by omega) (by omega))) (fun h19 => ?_)
    refine aw_lload d_So_take_22 rfl ?_
    refine aw_aload_n d_So_take_24 rfl ?_
    refine aw_iload_n d_So_take_25 rfl ?_
    refine aw_iload_n d_So_take_26 rfl ?_
    refine aw_iload d_So_take_27 rfl ?_
    refine aw_cV1 d_So_take_29 (c_So_stockOf S r c k i hc hk (by omega)) mk_So_stockOf is_So_stockOf ln_So_76 rfl rfl rfl rfl (Nat.le_of_ble_eq_true rfl) (Nat.le_of_ble_eq_true rfl) (Nat.le_of_ble_eq_true rfl) (Nat.le_of_ble_eq_true rfl) ?_
    refine aw_ladd d_So_take_32 ?_
    refine aw_lstore d_So_take_33 (Nat.le_of_ble_eq_true rfl) ?_
    refine aw_iinc d_So_take_35 rfl (nI_1 _) (Nat.le_of_ble_eq_true rfl) ?_
    refine aw_goto (tgt := 16) d_So_take_38 (by decide) ?_
    exact aw_eql rfl (ih (i + 1) _ (by omega) hT)
theorem lp_So_t2 (S : cs_S) (r : List am_C) (c k y : Nat) (hc : c < 4) (hk : k < 4) (hy : y < 10) (g T : Int64) (w' : List am_C) : ∀ (n i : Nat) (due : Int64) (st : Nat → Int64) (x12 : List (Nat × Value)), i + n = y + 1 → cs_w (cs_J S 29 (tk_f c k n i due st)) ++ r = w' → AW (am_Mof y_So_take) 4 0 0 61 ([(11, .int (nI i)), (9, .long due), (7, .long T)] ++ x12 ++ [(0, .ref 16), (1, .int (nI c)), (2, .int (nI k)), (3, .int (nI y)), (4, .long g), (6, .int (nI (y - 2)))]) [] (cs_w (cs_J S 29 st) ++ r) 0 0 (am_Z (some (.long (T - g))) w' 0 0) := by
  intro n
  induction n with
  | zero =>
    intro i due st x12 hi hw
    obtain rfl : i = y + 1 := by omega
    refine aw_sub (lv' := [(11, .int (nI (y + 1))), (9, .long due), (7, .long T), (0, .ref 16), (1, .int (nI c)), (2, .int (nI k)), (3, .int (nI y)), (4, .long g), (6, .int (nI (y - 2)))]) (by simp) ?_
    refine aw_iload d_So_take_61 rfl ?_
    refine aw_iload_n d_So_take_63 rfl ?_
    refine aw_icmp_gt (tgt := 112) d_So_take_64 (by decide) (fun h64 => ?_) (fun h64 => absurd (nI_lt (by omega) (by omega)) h64)
    refine aw_lload d_So_take_112 rfl ?_
    refine aw_lload d_So_take_114 rfl ?_
    refine aw_lsub d_So_take_116 ?_
    exact aw_lretE d_So_take_117 rfl rfl hw rfl rfl
  | succ n ih =>
    intro i due st x12 hi hw
    refine aw_sub (lv' := [(11, .int (nI i)), (9, .long due), (7, .long T), (0, .ref 16), (1, .int (nI c)), (2, .int (nI k)), (3, .int (nI y)), (4, .long g), (6, .int (nI (y - 2)))]) (by simp) ?_
    refine aw_iload d_So_take_61 rfl ?_
    refine aw_iload_n d_So_take_63 rfl ?_
    refine aw_icmp_gt (tgt := 112) d_So_take_64 (by decide) (fun h64 => absurd h64 (nI_nlt (by omega) (by omega))) (fun h64 => ?_)
    refine aw_lload d_So_take_67 rfl ?_
    refine aw_aload_n d_So_take_69 rfl ?_
    refine aw_iload_n d_So_take_70 rfl ?_
    refine aw_iload_n d_So_take_71 rfl ?_
    refine aw_iload d_So_take_72 rfl ?_
    refine aw_cV1 d_So_take_74 (c_So_stockOf (cs_J S 29 st) r c k i hc hk (by omega)) mk_So_stockOf is_So_stockOf ln_So_76 rfl rfl rfl rfl (Nat.le_of_ble_eq_true rfl) (Nat.le_of_ble_eq_true rfl) (Nat.le_of_ble_eq_true rfl) (Nat.le_of_ble_eq_true rfl) ?_
    refine aw_mminL d_So_take_77 ln_So_81 mn_1 mx_2 mn_3 (Nat.le_of_ble_eq_true rfl) (by decide) (Nat.le_refl _) (Nat.le_refl _) ?_
    refine aw_eqs (st' := [.long (tk_p st c k i due)]) rfl ?_
    refine aw_lstore d_So_take_80 (Nat.le_of_ble_eq_true rfl) ?_
    refine aw_aload_n d_So_take_82 rfl ?_
    refine aw_get d_So_take_83 fl_So_34 rfl rfl ?_
    refine aw_iload_n d_So_take_86 rfl ?_
    refine aw_iload_n d_So_take_87 rfl ?_
    refine aw_iload d_So_take_88 rfl ?_
    refine aw_cS1 d_So_take_90 (c_So_place _ c k i) mk_So_place is_So_place ln_So_48 rfl rfl (Nat.le_of_ble_eq_true rfl) (Nat.le_of_ble_eq_true rfl) (Nat.le_of_ble_eq_true rfl) (Nat.le_of_ble_eq_true rfl) ?_
    refine aw_dup2 d_So_take_93 rfl rfl ?_
    refine aw_laldN d_So_take_94 rfl (by omega) (Nat.le_of_ble_eq_true rfl) ?_
    refine aw_lload d_So_take_95 rfl ?_
    refine aw_lsub d_So_take_97 ?_
    refine aw_lastN d_So_take_98 rfl (by omega) (Nat.le_of_ble_eq_true rfl) (show _ = cs_w (cs_J S 29 (vp_updL st (c * 4 * 10 + (k * 10 + i)) (st (c * 4 * 10 + (k * 10 + i)) - tk_p st c k i due))) ++ r from (cs_s29 _ _ _).trans (by rw [cs_JJ]; rfl)) ?_
    refine aw_lload d_So_take_99 rfl ?_
    refine aw_lload d_So_take_101 rfl ?_
    refine aw_lsub d_So_take_103 ?_
    refine aw_lstore d_So_take_104 (Nat.le_of_ble_eq_true rfl) ?_
    refine aw_iinc d_So_take_106 rfl (nI_1 _) (Nat.le_of_ble_eq_true rfl) ?_
    refine aw_goto (tgt := 61) d_So_take_109 (by decide) ?_
    refine aw_pick (lv' := [(11, .int (nI (i + 1))), (9, .long (due - tk_p st c k i due)), (7, .long T), (0, .ref 16), (1, .int (nI c)), (2, .int (nI k)), (3, .int (nI y)), (4, .long g), (6, .int (nI (y - 2)))]) ⟨rfl, rfl, rfl, rfl, rfl, rfl, rfl, rfl, rfl, trivial⟩ ?_
    exact ih (i + 1) _ _ [] (by omega) hw
theorem c_So_take (S : cs_S) (r : List am_C) (c k y : Nat) (hc : c < 4) (hk : k < 4) (hy : y < 10) (g : Int64) : am_ct y_So_take 4 [.ref 16, .int (nI c), .int (nI k), .int (nI y), .long g] (cs_w S ++ r) (some (.long (if ts_f (S.2.1 29) c k (y + 1 - (y - 2)) (y - 2) (lN 0) < g then -1 else ts_f (S.2.1 29) c k (y + 1 - (y - 2)) (y - 2) (lN 0) - g))) (cs_w (if ts_f (S.2.1 29) c k (y + 1 - (y - 2)) (y - 2) (lN 0) < g then S else cs_J S 29 (tk_f c k (y + 1 - (y - 2)) (y - 2) g (S.2.1 29))) ++ r) 0 0 := by
  refine am_ct.of rfl (Nat.le_of_ble_eq_true rfl) ?_
  refine aw_iconst (v := nI 0) d_So_take_0 (by decide) ?_
  refine aw_iload_n d_So_take_1 rfl ?_
  refine aw_iconst (v := nI 2) d_So_take_2 (by decide) ?_
  refine aw_isub d_So_take_3 ?_
  refine aw_mmax d_So_take_4 ln_So_71 mx_1 mx_2 mx_3 (Nat.le_of_ble_eq_true rfl) (by decide) (Nat.le_refl _) (Nat.le_refl _) ?_
  rw [mx_y y hy]
  refine aw_istore d_So_take_7 (Nat.le_of_ble_eq_true rfl) ?_
  refine aw_lconst (v := lN 0) d_So_take_9 rfl ?_
  refine aw_lstore d_So_take_10 (Nat.le_of_ble_eq_true rfl) ?_
  refine aw_iload d_So_take_12 rfl ?_
  refine aw_istore d_So_take_14 (Nat.le_of_ble_eq_true rfl) ?_
  generalize hT : ts_f (S.2.1 29) c k (y + 1 - (y - 2)) (y - 2) (lN 0) = T
  refine aw_pick (lv' := [(9, .int (nI (y - 2))), (7, .long (lN 0)), (0, .ref 16), (1, .int (nI c)), (2, .int (nI k)), (3, .int (nI y)), (4, .long g), (6, .int (nI (y - 2)))]) ⟨rfl, rfl, rfl, rfl, rfl, rfl, rfl, rfl, trivial⟩ ?_
  refine lp_So_t1 S r c k y hc hk hy g _ T ?_ (y + 1 - (y - 2)) (y - 2) (lN 0) (by omega) hT
  refine aw_lload d_So_take_41 rfl ?_
  refine aw_lload d_So_take_43 rfl ?_
  refine aw_lc_ge (tgt := 53) d_So_take_45 d_So_take_46 (by decide) (fun h46 => ?_) (fun h46 => ?_)
  · refine aw_lload d_So_take_53 rfl ?_
    refine aw_lstore d_So_take_55 (Nat.le_of_ble_eq_true rfl) ?_
    refine aw_iload d_So_take_57 rfl ?_
    refine aw_istore d_So_take_59 (Nat.le_of_ble_eq_true rfl) ?_
    rw [if_neg (Int64.not_lt.mpr h46), if_neg (Int64.not_lt.mpr h46)]
    refine aw_pick (lv' := [(11, .int (nI (y - 2))), (9, .long g), (7, .long T), (0, .ref 16), (1, .int (nI c)), (2, .int (nI k)), (3, .int (nI y)), (4, .long g), (6, .int (nI (y - 2)))]) ⟨rfl, rfl, rfl, rfl, rfl, rfl, rfl, rfl, rfl, trivial⟩ ?_
    refine aw_eqw (w' := cs_w (cs_J S 29 (S.2.1 29)) ++ r) (by show cs_w S ++ r = cs_w (S.1, va_up S.2.1 29 (S.2.1 29), S.2.2) ++ r; rw [va_up_idl]) ?_
    exact lp_So_t2 S r c k y hc hk hy g T _ (y + 1 - (y - 2)) (y - 2) g (S.2.1 29) [] (by omega) rfl
  · refine aw_ldc2 (v := (-1)) d_So_take_49 kl_So_79 ?_
    exact aw_lretE d_So_take_52 rfl (by rw [if_pos (Int64.not_le.mp h46)]) (by rw [if_pos (Int64.not_le.mp h46)]) rfl rfl
