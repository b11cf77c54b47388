/-! whole numbers in longs, fractions in lowest terms; RateChainsModel: common, put, lessen -/
def zL (z : Int) : Int64 := Int64.ofInt z
abbrev zR (z : Int) : Prop := -2 ^ 63 < z ∧ z < 2 ^ 63
theorem zL_n (n : Nat) : zL (n : Int) = lN n := Int64.ofInt_eq_ofNat
theorem zL_0 : zL 0 = lN 0 := rfl
theorem zL_1 : zL 1 = lN 1 := rfl
theorem zL_add (a b : Int) : zL a + zL b = zL (a + b) := (Int64.ofInt_add a b).symm
theorem zL_sub (a b : Int) : zL a - zL b = zL (a - b) := (Int64.ofInt_sub a b).symm
theorem zL_mul (a b : Int) : zL a * zL b = zL (a * b) := (Int64.ofInt_mul a b).symm
theorem zL_neg (a : Int) : -zL a = zL (-a) := (Int64.ofInt_neg a).symm
theorem zL_T {z : Int} (h : zR z) : (zL z).toInt = z := Int64.toInt_ofInt_of_le (by have := h.1; omega) (by have := h.2; omega)
theorem zL_of (x : Int64) : zL x.toInt = x := Int64.ofInt_toInt x
theorem zL_le {a b : Int} (ha : zR a) (hb : zR b) : zL a ≤ zL b ↔ a ≤ b := by rw [Int64.le_iff_toInt_le, zL_T ha, zL_T hb]
theorem zL_lt {a b : Int} (ha : zR a) (hb : zR b) : zL a < zL b ↔ a < b := by rw [Int64.lt_iff_toInt_lt, zL_T ha, zL_T hb]
theorem zL_eq {a b : Int} (ha : zR a) (hb : zR b) : zL a = zL b ↔ a = b := by rw [← Int64.toInt_inj, zL_T ha, zL_T hb]
theorem zR_0 : zR 0 := ⟨by decide, by decide⟩
theorem zL_div {a b : Int} (ha : zR a) (hb : zR b) : zL a / zL b = zL (a.tdiv b) := by
  have h1 : (zL a / zL b).toInt = a.tdiv b := by
    rw [Int64.toInt_div, zL_T ha, zL_T hb]
    have h2 : (a.tdiv b).natAbs ≤ a.natAbs := by rw [Int.natAbs_tdiv]; exact Nat.div_le_self _ _
    have := ha.1; have := ha.2
    exact Int.bmod_eq_of_le (by omega) (by omega)
  rw [← zL_of (zL a / zL b), h1]
theorem zL_nabs {a : Int} (h : 0 ≤ a) : zL a = lN a.natAbs := by
  rw [← zL_n]; congr 1; omega
theorem zL_nneg {a : Int} (h : a < 0) : -zL a = lN a.natAbs := by
  rw [← zL_n, zL_neg]; congr 1; omega
/-! lowest terms -/
def rd (a b : Int) : Int × Int := (a / (Int.gcd a b : Int), b / (Int.gcd a b : Int))
theorem rd_g {a b : Int} (hb : 0 < b) : 0 < (Int.gcd a b : Int) := by
  have : Int.gcd a b ≠ 0 := fun e => by have := (Int.gcd_eq_zero_iff.mp e).2; omega
  omega
theorem rd_1 (a b : Int) : (rd a b).1 * (Int.gcd a b : Int) = a := Int.ediv_mul_cancel (Int.gcd_dvd_left ..)
theorem rd_2 (a b : Int) : (rd a b).2 * (Int.gcd a b : Int) = b := Int.ediv_mul_cancel (Int.gcd_dvd_right ..)
theorem rd_pos {a b : Int} (hb : 0 < b) : 0 < (rd a b).2 := by
  have h := rd_2 a b
  have hg := rd_g (a := a) hb
  rcases Int.lt_or_le 0 (rd a b).2 with h1 | h1
  · exact h1
  · have := Int.mul_nonpos_of_nonpos_of_nonneg h1 (Int.le_of_lt hg)
    omega
theorem rd_le {a b : Int} (hb : 0 < b) : (rd a b).2 ≤ b := Int.ediv_le_self (Int.gcd a b : Int) (Int.le_of_lt hb)
theorem rd_abs (a b : Int) : (rd a b).1.natAbs ≤ a.natAbs := Int.natAbs_ediv_le_natAbs a _
theorem rd_x (a b : Int) : (rd a b).1 * b = a * (rd a b).2 := by
  have h1 := rd_1 a b
  have h2 := rd_2 a b
  calc (rd a b).1 * b = (rd a b).1 * ((rd a b).2 * (Int.gcd a b : Int)) := by rw [h2]
    _ = ((rd a b).1 * (Int.gcd a b : Int)) * (rd a b).2 := by ac_rfl
    _ = a * (rd a b).2 := by rw [h1]
theorem rd_co {a b : Int} (hb : 0 < b) : Int.gcd (rd a b).1 (rd a b).2 = 1 := by
  have hg := rd_g (a := a) hb
  unfold rd
  exact Int.gcd_ediv_gcd_ediv_gcd (by omega)
theorem rd_t1 {a b : Int} (ha : zR a) (hb : 0 < b) (hb2 : b < 2 ^ 63) : zL a / lN (Int.gcd a b) = zL (rd a b).1 := by
  have hg := rd_g (a := a) hb
  have hl : (Int.gcd a b : Int) ≤ b := Int.le_of_dvd hb (Int.gcd_dvd_right ..)
  rw [← zL_n, zL_div ha ⟨by omega, by omega⟩, Int.tdiv_eq_ediv_of_dvd (Int.gcd_dvd_left ..)]
  rfl
theorem rd_t2 {a b : Int} (hb : 0 < b) (hb2 : b < 2 ^ 63) : zL b / lN (Int.gcd a b) = zL (rd a b).2 := by
  have hg := rd_g (a := a) hb
  have hl : (Int.gcd a b : Int) ≤ b := Int.le_of_dvd hb (Int.gcd_dvd_right ..)
  rw [← zL_n, zL_div ⟨by omega, hb2⟩ ⟨by omega, by omega⟩, Int.tdiv_eq_ediv_of_dvd (Int.gcd_dvd_right ..)]
  rfl
theorem rd_ne {a b : Int} (hb : 0 < b) (hb2 : b < 2 ^ 63) : ¬ lN (Int.gcd a b) = 0 := fun e => by
  have hg := rd_g (a := a) hb
  have hl : (Int.gcd a b : Int) ≤ b := Int.le_of_dvd hb (Int.gcd_dvd_right ..)
  have := (pk_lEQ (a := Int.gcd a b) (b := 0) (by omega) (by omega)).mp e
  omega
/-! common -/
theorem lp_Mo_com (w : List am_C) (x0 y0 : Int64) : ∀ (f m n : Nat), m < f → m < 2 ^ 63 → n < 2 ^ 63 → AW (am_Mof y_Mo_common) 0 0 0 17 [(4, .long (lN m)), (6, .long (lN n)), (0, .long x0), (2, .long y0)] [] w 0 0 (am_Z (some (.long (lN (Nat.gcd m n)))) w 0 0) := by
  intro f
  induction f with
  | zero => intro m n h; omega
  | succ f ih =>
    intro m n hf hm hn
    refine aw_lload d_Mo_common_17 rfl ?_
    refine aw_lconst (v := lN 0) d_Mo_common_19 rfl ?_
    refine aw_lc_eq (tgt := 42) d_Mo_common_20 d_Mo_common_21 (by decide) (fun h21 => ?_) (fun h21 => ?_)
    · refine aw_lload d_Mo_common_42 rfl ?_
      exact aw_lretE d_Mo_common_44 rfl (by rw [show m = 0 from (pk_lEQ (a := m) (b := 0) hm (by omega)).mp h21, Nat.gcd_zero_left]) rfl rfl rfl
    · refine aw_lload d_Mo_common_24 rfl ?_
      refine aw_lload d_Mo_common_26 rfl ?_
      refine aw_lrem d_Mo_common_28 (fun e => h21 e) ?_
      refine aw_lstore d_Mo_common_29 (Nat.le_of_ble_eq_true rfl) ?_
      refine aw_lload d_Mo_common_31 rfl ?_
      refine aw_lstore d_Mo_common_33 (Nat.le_of_ble_eq_true rfl) ?_
      refine aw_lload d_Mo_common_35 rfl ?_
      refine aw_lstore d_Mo_common_37 (Nat.le_of_ble_eq_true rfl) ?_
      refine aw_goto (tgt := 17) d_Mo_common_39 (by decide) ?_
      have h0 : 0 < m := by rcases Nat.eq_zero_or_pos m with e | e; exact absurd (by rw [e]) h21; exact e
      refine aw_pick (lv' := [(4, .long (lN (n % m))), (6, .long (lN m)), (0, .long x0), (2, .long y0)]) (by rw [← pk_lRem (a := n) (b := m) hn h0 hm]; exact ⟨rfl, rfl, rfl, rfl, trivial⟩) ?_
      have hl : n % m < m := Nat.mod_lt _ h0
      rw [Nat.gcd_rec m n]
      exact ih (n % m) m (by omega) (by omega) hm
theorem c_Mo_common (w : List am_C) (a b : Int) (ha : zR a) (hb : 0 ≤ b) (hb2 : b < 2 ^ 63) : am_ct y_Mo_common 0 [.long (zL a), .long (zL b)] (w) (some (.long (lN (Int.gcd a b)))) (w) 0 0 := by
  refine am_ct.of rfl (Nat.le_of_ble_eq_true rfl) ?_
  refine aw_lload_n d_Mo_common_0 rfl ?_
  refine aw_lconst (v := lN 0) d_Mo_common_1 rfl ?_
  refine aw_lc_ge (tgt := 11) d_Mo_common_2 d_Mo_common_3 (by decide) (fun h3 => ?_) (fun h3 => ?_)
  · refine aw_lload_n d_Mo_common_11 rfl ?_
    have ha1 := ha.1; have ha2 := ha.2
    refine aw_eqs (st' := [.long (lN a.natAbs)]) (by rw [zL_nabs ((zL_le zR_0 ha).mp h3)]) ?_
    refine aw_lstore d_Mo_common_12 (Nat.le_of_ble_eq_true rfl) ?_
    refine aw_lload_n d_Mo_common_14 rfl ?_
    refine aw_lstore d_Mo_common_15 (Nat.le_of_ble_eq_true rfl) ?_
    refine aw_pick (lv' := [(4, .long (lN a.natAbs)), (6, .long (lN b.natAbs)), (0, .long (zL a)), (2, .long (zL b))]) (by rw [← zL_nabs hb]; exact ⟨rfl, rfl, rfl, rfl, trivial⟩) ?_
    exact lp_Mo_com w (zL a) (zL b) (a.natAbs + 1) a.natAbs b.natAbs (by omega) (by omega) (by omega)
  · refine aw_lload_n d_Mo_common_6 rfl ?_
    refine aw_lneg d_Mo_common_7 ?_
    refine aw_goto (tgt := 12) d_Mo_common_8 (by decide) ?_
    have ha1 := ha.1; have ha2 := ha.2
    refine aw_eqs (st' := [.long (lN a.natAbs)]) (by rw [zL_nneg (Int.not_le.mp (fun e => h3 ((zL_le zR_0 ha).mpr e)))]) ?_
    refine aw_lstore d_Mo_common_12 (Nat.le_of_ble_eq_true rfl) ?_
    refine aw_lload_n d_Mo_common_14 rfl ?_
    refine aw_lstore d_Mo_common_15 (Nat.le_of_ble_eq_true rfl) ?_
    refine aw_pick (lv' := [(4, .long (lN a.natAbs)), (6, .long (lN b.natAbs)), (0, .long (zL a)), (2, .long (zL b))]) (by rw [← zL_nabs hb]; exact ⟨rfl, rfl, rfl, rfl, trivial⟩) ?_
    exact lp_Mo_com w (zL a) (zL b) (a.natAbs + 1) a.natAbs b.natAbs (by omega) (by omega) (by omega)
/-! the matrix of fractions: cells 55, 56 -/
def mu {α : Type} (X : Nat → α) (k : Nat) (v : α) : Nat → α := fun j => if j = k then v else X j
theorem mu_s {α : Type} (X : Nat → α) (k : Nat) (v : α) : mu X k v k = v := if_pos rfl
theorem mu_n {α : Type} {X : Nat → α} {k j : Nat} {v : α} (h : j ≠ k) : mu X k v j = X j := if_neg h
def mX (S : cs_S) (X : Nat → Int × Int) : cs_S := cs_J (cs_J S 55 (fun k => zL (X k).1)) 56 (fun k => zL (X k).2)
theorem mX_up (S : cs_S) (X : Nat → Int × Int) (k : Nat) (v : Int × Int) : cs_J (cs_J (mX S X) 55 (vp_updL (fun k => zL (X k).1) k (zL v.1))) 56 (vp_updL (fun k => zL (X k).2) k (zL v.2)) = mX S (mu X k v) := by
  unfold mX cs_J mu
  refine congrArg (fun z => (S.1, z, S.2.2)) ?_
  funext a j
  unfold va_up vp_updL
  by_cases h1 : a = 56
  · subst h1; by_cases h2 : j = k
    · subst h2; simp
    · simp [h2]
  · by_cases h3 : a = 55
    · subst h3; by_cases h2 : j = k
      · subst h2; simp
      · simp [h2]
    · simp [h1, h3]
theorem mX_own (S : cs_S) : mX S (fun k => ((S.2.1 55 k).toInt, (S.2.1 56 k).toInt)) = S := by
  unfold mX cs_J
  refine congrArg (fun z => (S.1, z, S.2.2)) ?_
  funext a j
  unfold va_up
  by_cases h1 : a = 56
  · subst h1; simp [zL_of]
  · by_cases h3 : a = 55
    · subst h3; simp [zL_of]
    · simp [h1, h3]
theorem c_Mo_put (C S : cs_S) (X : Nat → Int × Int) (k : Nat) (hk : k < 30) (a b : Int) (ha : zR a) (hb : 0 < b) (hb2 : b < 2 ^ 63) : am_ct y_Mo_put 1 [.ref 36, .int (nI k), .long (zL a), .long (zL b)] (cs_w C ++ ms_w (mX S (X))) none (cs_w C ++ ms_w (mX S (mu X k (rd a b)))) 0 0 := by
  refine am_ct.of rfl (Nat.le_of_ble_eq_true rfl) ?_
  refine aw_lload_n d_Mo_put_0 rfl ?_
  refine aw_lload d_Mo_put_1 rfl ?_
  refine aw_cS1 d_Mo_put_3 (c_Mo_common _ a b ha (Int.le_of_lt hb) hb2) mk_Mo_common is_Mo_common ln_Mo_114 rfl rfl (Nat.le_of_ble_eq_true rfl) (Nat.le_of_ble_eq_true rfl) (Nat.le_of_ble_eq_true rfl) (Nat.le_of_ble_eq_true rfl) ?_
  refine aw_lstore d_Mo_put_6 (Nat.le_of_ble_eq_true rfl) ?_
  refine aw_aload_n d_Mo_put_8 rfl ?_
  refine aw_get d_Mo_put_9 fl_Mo_66 rfl rfl ?_
  refine aw_iload_n d_Mo_put_12 rfl ?_
  refine aw_lload d_Mo_put_13 rfl ?_
  refine aw_lconst (v := lN 0) d_Mo_put_15 rfl ?_
  refine aw_lc_ge (tgt := 28) d_Mo_put_16 d_Mo_put_17 (by decide) (fun h17 => ?_) (fun h17 => absurd ((zL_le zR_0 ⟨by omega, hb2⟩).mpr (Int.le_of_lt hb)) h17)
  refine aw_lload_n d_Mo_put_28 rfl ?_
  refine aw_lload d_Mo_put_29 rfl ?_
  refine aw_ldiv d_Mo_put_31 (rd_ne hb hb2) ?_
  rw [rd_t1 ha hb hb2]
  refine aw_lastN d_Mo_put_32 rfl (by omega) (Nat.le_of_ble_eq_true rfl) (ms_s55 _ _ _) ?_
  refine aw_aload_n d_Mo_put_33 rfl ?_
  refine aw_get d_Mo_put_34 fl_Mo_69 rfl rfl ?_
  refine aw_iload_n d_Mo_put_37 rfl ?_
  refine aw_lload d_Mo_put_38 rfl ?_
  refine aw_lconst (v := lN 0) d_Mo_put_40 rfl ?_
  refine aw_lc_ge (tgt := 54) d_Mo_put_41 d_Mo_put_42 (by decide) (fun h42 => ?_) (fun h42 => absurd ((zL_le zR_0 ⟨by omega, hb2⟩).mpr (Int.le_of_lt hb)) h42)
  refine aw_lload d_Mo_put_54 rfl ?_
  refine aw_lload d_Mo_put_56 rfl ?_
  refine aw_ldiv d_Mo_put_58 (rd_ne hb hb2) ?_
  rw [rd_t2 hb hb2]
  refine aw_lastN d_Mo_put_59 rfl (by omega) (Nat.le_of_ble_eq_true rfl) (show _ = cs_w C ++ ms_w (mX S (mu X k (rd a b))) from (ms_s56 _ _ _).trans (by rw [← mX_up]; rfl)) ?_
  refine aw_aload_n d_Mo_put_60 rfl ?_
  refine aw_get d_Mo_put_61 fl_Mo_69 rfl rfl ?_
  refine aw_iload_n d_Mo_put_64 rfl ?_
  refine aw_laldN d_Mo_put_65 rfl (by omega) (Nat.le_of_ble_eq_true rfl) ?_
  have hp := rd_pos (a := a) hb; have hl := rd_le (a := a) hb
  refine aw_eqs (st' := [.long (zL (rd a b).2)]) (by show [Value.long (zL (mu X k (rd a b) k).2)] = _; rw [mu_s]) ?_
  refine aw_lconst (v := lN 0) d_Mo_put_66 rfl ?_
  refine aw_lc_ge (tgt := 97) d_Mo_put_67 d_Mo_put_68 (by decide) (fun h68 => ?_) (fun h68 => absurd ((zL_le zR_0 ⟨by omega, by omega⟩).mpr (Int.le_of_lt hp)) h68)
  exact aw_vretE d_Mo_put_97 rfl rfl rfl rfl
def lsA (X : Nat → Int × Int) (fr : Nat) (fo fu : Int) : Int × Int := rd (fo * (X fr).1) (fu * (X fr).2)
def lsF (X : Nat → Int × Int) (k fr : Nat) (fo fu : Int) : Int × Int := rd ((X k).1 * (lsA X fr fo fu).2 - (lsA X fr fo fu).1 * (X k).2) ((X k).2 * (lsA X fr fo fu).2)
abbrev lsO (X : Nat → Int × Int) (k fr : Nat) (fo fu : Int) : Prop := zR (fo * (X fr).1) ∧ 0 < fu * (X fr).2 ∧ fu * (X fr).2 < 2 ^ 63 ∧ zR ((X k).1 * (lsA X fr fo fu).2 - (lsA X fr fo fu).1 * (X k).2) ∧ 0 < (X k).2 ∧ (X k).2 * (lsA X fr fo fu).2 < 2 ^ 63
theorem c_Mo_lessen (C S : cs_S) (X : Nat → Int × Int) (k fr : Nat) (hk : k < 30) (hf : fr < 30) (fo fu : Int) (hO : lsO X k fr fo fu) : am_ct y_Mo_lessen 2 [.ref 36, .int (nI k), .long (zL fo), .long (zL fu), .int (nI fr)] (cs_w C ++ ms_w (mX S (X))) none (cs_w C ++ ms_w (mX S (mu X k (lsF X k fr fo fu)))) 0 0 := by
  refine am_ct.of rfl (Nat.le_of_ble_eq_true rfl) ?_
  refine aw_lload_n d_Mo_lessen_0 rfl ?_
  refine aw_aload_n d_Mo_lessen_1 rfl ?_
  refine aw_get d_Mo_lessen_2 fl_Mo_66 rfl rfl ?_
  refine aw_iload d_Mo_lessen_5 rfl ?_
  refine aw_laldN d_Mo_lessen_7 rfl (by omega) (Nat.le_of_ble_eq_true rfl) ?_
  refine aw_lmul d_Mo_lessen_8 ?_
  refine aw_eqs (st' := [.long (zL (fo * (X fr).1))]) (by rw [← zL_mul]; rfl) ?_
  refine aw_lstore d_Mo_lessen_9 (Nat.le_of_ble_eq_true rfl) ?_
  refine aw_lload d_Mo_lessen_11 rfl ?_
  refine aw_aload_n d_Mo_lessen_13 rfl ?_
  refine aw_get d_Mo_lessen_14 fl_Mo_69 rfl rfl ?_
  refine aw_iload d_Mo_lessen_17 rfl ?_
  refine aw_laldN d_Mo_lessen_19 rfl (by omega) (Nat.le_of_ble_eq_true rfl) ?_
  refine aw_lmul d_Mo_lessen_20 ?_
  refine aw_eqs (st' := [.long (zL (fu * (X fr).2))]) (by rw [← zL_mul]; rfl) ?_
  refine aw_lstore d_Mo_lessen_21 (Nat.le_of_ble_eq_true rfl) ?_
  refine aw_lload d_Mo_lessen_23 rfl ?_
  refine aw_lload d_Mo_lessen_25 rfl ?_
  refine aw_cS1 d_Mo_lessen_27 (c_Mo_common _ (fo * (X fr).1) (fu * (X fr).2) hO.1 (Int.le_of_lt hO.2.1) hO.2.2.1) mk_Mo_common is_Mo_common ln_Mo_114 rfl rfl (Nat.le_of_ble_eq_true rfl) (Nat.le_of_ble_eq_true rfl) (Nat.le_of_ble_eq_true rfl) (Nat.le_of_ble_eq_true rfl) ?_
  refine aw_lstore d_Mo_lessen_30 (Nat.le_of_ble_eq_true rfl) ?_
  refine aw_lload d_Mo_lessen_32 rfl ?_
  refine aw_lload d_Mo_lessen_34 rfl ?_
  refine aw_ldiv d_Mo_lessen_36 (rd_ne hO.2.1 hO.2.2.1) ?_
  rw [rd_t1 hO.1 hO.2.1 hO.2.2.1]
  refine aw_lstore d_Mo_lessen_37 (Nat.le_of_ble_eq_true rfl) ?_
  refine aw_lload d_Mo_lessen_39 rfl ?_
  refine aw_lload d_Mo_lessen_41 rfl ?_
  refine aw_ldiv d_Mo_lessen_43 (rd_ne hO.2.1 hO.2.2.1) ?_
  rw [rd_t2 hO.2.1 hO.2.2.1]
  refine aw_lstore d_Mo_lessen_44 (Nat.le_of_ble_eq_true rfl) ?_
  refine aw_aload_n d_Mo_lessen_46 rfl ?_
  refine aw_iload_n d_Mo_lessen_47 rfl ?_
  refine aw_aload_n d_Mo_lessen_48 rfl ?_
  refine aw_get d_Mo_lessen_49 fl_Mo_66 rfl rfl ?_
  refine aw_iload_n d_Mo_lessen_52 rfl ?_
  refine aw_laldN d_Mo_lessen_53 rfl (by omega) (Nat.le_of_ble_eq_true rfl) ?_
  refine aw_lload d_Mo_lessen_54 rfl ?_
  refine aw_lmul d_Mo_lessen_56 ?_
  refine aw_lload d_Mo_lessen_57 rfl ?_
  refine aw_aload_n d_Mo_lessen_59 rfl ?_
  refine aw_get d_Mo_lessen_60 fl_Mo_69 rfl rfl ?_
  refine aw_iload_n d_Mo_lessen_63 rfl ?_
  refine aw_laldN d_Mo_lessen_64 rfl (by omega) (Nat.le_of_ble_eq_true rfl) ?_
  refine aw_lmul d_Mo_lessen_65 ?_
  refine aw_lsub d_Mo_lessen_66 ?_
  refine aw_aload_n d_Mo_lessen_67 rfl ?_
  refine aw_get d_Mo_lessen_68 fl_Mo_69 rfl rfl ?_
  refine aw_iload_n d_Mo_lessen_71 rfl ?_
  refine aw_laldN d_Mo_lessen_72 rfl (by omega) (Nat.le_of_ble_eq_true rfl) ?_
  refine aw_lload d_Mo_lessen_73 rfl ?_
  refine aw_lmul d_Mo_lessen_75 ?_
  refine aw_eqs (st' := [.long (zL ((X k).2 * (lsA X fr fo fu).2)), .long (zL ((X k).1 * (lsA X fr fo fu).2 - (lsA X fr fo fu).1 * (X k).2)), .int (nI k), .ref 36]) (by rw [← zL_sub, ← zL_mul, ← zL_mul, ← zL_mul]; rfl) ?_
  refine aw_cV0 d_Mo_lessen_76 (c_Mo_put C S X k hk _ _ hO.2.2.2.1 (Int.mul_pos hO.2.2.2.2.1 (rd_pos hO.2.1)) hO.2.2.2.2.2) mk_Mo_put is_Mo_put ln_Mo_118 rfl rfl rfl rfl (Nat.le_of_ble_eq_true rfl) (Nat.le_of_ble_eq_true rfl) (Nat.le_of_ble_eq_true rfl) (Nat.le_of_ble_eq_true rfl) ?_
  exact aw_vretE d_Mo_lessen_79 rfl rfl rfl rfl
