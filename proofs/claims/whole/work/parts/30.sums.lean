/-! fractions by one common number; RateChainsModel: add, sum, count -/
theorem zL_dvd {a b : Int} (ha : zR a) (hb : zR b) (h : b ∣ a) : zL a / zL b = zL (a / b) := by rw [zL_div ha hb, Int.tdiv_eq_ediv_of_dvd h]
theorem int_co {x y v : Int} (h1 : Int.gcd x y = 1) (h2 : y ∣ x * v) : y ∣ v := by
  rw [← Int.natAbs_dvd_natAbs] at h2 ⊢
  rw [Int.natAbs_mul] at h2
  exact Nat.Coprime.dvd_of_dvd_mul_left (Nat.Coprime.symm h1) h2
theorem rd_cross {a b c d : Int} (hb : 0 < b) (hd : 0 < d) (h : a * d = c * b) : rd a b = rd c d := by
  have h1 := rd_x a b
  have h2 := rd_x c d
  have p1 := rd_pos (a := a) hb
  have p2 := rd_pos (a := c) hd
  have c1 := rd_co (a := a) hb
  have c2 := rd_co (a := c) hd
  have hx : (rd a b).1 * (rd c d).2 = (rd c d).1 * (rd a b).2 := by
    have hbd : b * d ≠ 0 := Int.ne_of_gt (Int.mul_pos hb hd)
    apply Int.eq_of_mul_eq_mul_right hbd
    calc (rd a b).1 * (rd c d).2 * (b * d) = ((rd a b).1 * b) * ((rd c d).2 * d) := by ac_rfl
      _ = (a * d) * ((rd a b).2 * (rd c d).2) := by rw [h1]; ac_rfl
      _ = (c * (rd c d).2) * (b * (rd a b).2) := by rw [h]; ac_rfl
      _ = (rd c d).1 * (rd a b).2 * (b * d) := by rw [← h2]; ac_rfl
  have d1 : (rd a b).2 ∣ (rd c d).2 := int_co c1 ⟨(rd c d).1, by rw [hx]; ac_rfl⟩
  have d2 : (rd c d).2 ∣ (rd a b).2 := int_co c2 ⟨(rd a b).1, by rw [← hx]; ac_rfl⟩
  have he : (rd a b).2 = (rd c d).2 := Int.dvd_antisymm (Int.le_of_lt p1) (Int.le_of_lt p2) d1 d2
  have he1 : (rd a b).1 = (rd c d).1 := by
    rw [he] at hx
    exact Int.eq_of_mul_eq_mul_right (Int.ne_of_gt p2) hx
  exact Prod.ext he1 he
theorem rd_dv (a b : Int) : (rd a b).2 ∣ b := ⟨(Int.gcd a b : Int), (rd_2 a b).symm⟩
theorem rd_0 {b : Int} (hb : 0 < b) : rd 0 b = (0, 1) := by
  rw [rd_cross (a := 0) (b := b) (c := 0) (d := 1) hb (by omega) (by omega)]
  rfl
theorem rd_neg (a b : Int) : rd (-a) b = (-(rd a b).1, (rd a b).2) := by
  unfold rd
  rw [Int.neg_gcd]
  exact Prod.ext (Int.neg_ediv_of_dvd (Int.gcd_dvd_left ..)) rfl
theorem rd_dn {a b : Int} (hb : 0 < b) : (rd a b).1 / (rd a b).2 = a / b := by
  have hg := rd_g (a := a) hb
  have h := Int.mul_ediv_mul_of_pos_left (rd a b).1 (rd a b).2 hg
  rw [rd_1, rd_2] at h
  exact h.symm
theorem mb_le {x p t l : Int} (hp : 0 < p) (hl : 0 < l) (hlp : l ≤ p) (h : x * p = t * l) : x.natAbs ≤ t.natAbs := by
  have h1 : x.natAbs * p.natAbs = t.natAbs * l.natAbs := by rw [← Int.natAbs_mul, ← Int.natAbs_mul, h]
  have h2 : t.natAbs * l.natAbs ≤ t.natAbs * p.natAbs := Nat.mul_le_mul_left _ (by omega)
  exact Nat.le_of_mul_le_mul_right (by omega : x.natAbs * p.natAbs ≤ t.natAbs * p.natAbs) (by omega)
/-- the common number of two that divide P -/
theorem lm_ok {u b q : Int} (hq : 0 < q) (hu : 0 < u) (hb : 0 < b) (h1 : u ∣ q) (h2 : b ∣ q) :
    0 < u / (Int.gcd u b : Int) * b ∧ u / (Int.gcd u b : Int) * b ≤ q ∧ u ∣ u / (Int.gcd u b : Int) * b ∧ b ∣ u / (Int.gcd u b : Int) * b := by
  have hg := rd_g (a := u) hb
  have e1 := rd_1 u b
  have e2 := rd_2 u b
  have p2 := rd_pos (a := u) hb
  have c1 := rd_co (a := u) hb
  have eu : u / (Int.gcd u b : Int) = (rd u b).1 := rfl
  rw [eu]
  have p1 : 0 < (rd u b).1 := by
    rcases Int.lt_or_le 0 (rd u b).1 with h | h
    · exact h
    · have := Int.mul_nonpos_of_nonpos_of_nonneg h (Int.le_of_lt hg); omega
  have hpos : 0 < (rd u b).1 * b := Int.mul_pos p1 hb
  obtain ⟨n, hn⟩ := h2
  obtain ⟨m, hm⟩ := h1
  have hd : (rd u b).1 ∣ n := by
    refine int_co (x := (rd u b).2) (by rw [Int.gcd_comm]; exact c1) ⟨m, ?_⟩
    apply Int.eq_of_mul_eq_mul_right (Int.ne_of_gt hg)
    calc (rd u b).2 * n * (Int.gcd u b : Int) = ((rd u b).2 * (Int.gcd u b : Int)) * n := by ac_rfl
      _ = u * m := by rw [e2, ← hn, hm]
      _ = ((rd u b).1 * (Int.gcd u b : Int)) * m := by rw [e1]
      _ = (rd u b).1 * m * (Int.gcd u b : Int) := by ac_rfl
  refine ⟨hpos, ?_, ⟨(rd u b).2, ?_⟩, ⟨(rd u b).1, Int.mul_comm _ _⟩⟩
  · obtain ⟨z, hz⟩ := hd
    exact Int.le_of_dvd hq ⟨z, by rw [hn, hz]; ac_rfl⟩
  · calc (rd u b).1 * b = (rd u b).1 * ((rd u b).2 * (Int.gcd u b : Int)) := by rw [e2]
      _ = ((rd u b).1 * (Int.gcd u b : Int)) * (rd u b).2 := by ac_rfl
      _ = u * (rd u b).2 := by rw [e1]
def mQ (S : cs_S) (v : Int × Int) : cs_S := cs_J (cs_J S 27 (fun _ => zL v.1)) 28 (fun _ => zL v.2)
theorem mQ_27 (S : cs_S) (v : Int × Int) (a : Int) : cs_J (mQ S v) 27 (fun _ => zL a) = mQ S (a, v.2) := by
  unfold mQ cs_J
  refine congrArg (fun z => (S.1, z, S.2.2)) ?_
  funext x
  unfold va_up
  by_cases h1 : x = 27
  · subst h1; simp
  · simp [h1]
theorem mQ_28 (S : cs_S) (v : Int × Int) (a : Int) : cs_J (mQ S v) 28 (fun _ => zL a) = mQ S (v.1, a) := by
  unfold mQ cs_J
  refine congrArg (fun z => (S.1, z, S.2.2)) ?_
  funext x
  unfold va_up
  by_cases h1 : x = 28
  · subst h1; simp
  · simp [h1]
theorem mQ_mQ (S : cs_S) (v v' : Int × Int) : mQ (mQ S v) v' = mQ S v' := by
  unfold mQ cs_J
  refine congrArg (fun z => (S.1, z, S.2.2)) ?_
  funext x
  unfold va_up
  by_cases h1 : x = 28
  · subst h1; simp
  · by_cases h2 : x = 27
    · subst h2; simp
    · simp [h1, h2]
theorem c_Mo_add (C S : cs_S) (T q a b t : Int) (hq : 0 < q) (hq2 : q < 2 ^ 31) (hb : 0 < b) (hbq : b ∣ q) (hab : a * q = t * b) (hT : T.natAbs < 2 ^ 61) (ht : t.natAbs < 2 ^ 61) : am_ct y_Mo_add 1 [.ref 36, .long (zL a), .long (zL b)] (cs_w C ++ ms_w (mQ S (rd T q))) none (cs_w C ++ ms_w (mQ S (rd (T + t) q))) 0 0 := by
  refine am_ct.of rfl (Nat.le_of_ble_eq_true rfl) ?_
  have hu := rd_pos (a := T) hq
  have hul := rd_le (a := T) hq
  have hsl := rd_abs T q
  have hbl : b ≤ q := Int.le_of_dvd hq hbq
  obtain ⟨l0, lq, lu, lb⟩ := lm_ok hq hu hb (rd_dv T q) hbq
  have hg0 := rd_g (a := (rd T q).2) hb
  have hgl : (Int.gcd (rd T q).2 b : Int) ≤ b := Int.le_of_dvd hb (Int.gcd_dvd_right ..)
  have k1 : (rd T q).1 * (((rd T q).2 / (Int.gcd (rd T q).2 b : Int) * b) / (rd T q).2) * q = T * ((rd T q).2 / (Int.gcd (rd T q).2 b : Int) * b) := by
    have e1 : ((rd T q).2 / (Int.gcd (rd T q).2 b : Int) * b) / (rd T q).2 * (rd T q).2 = ((rd T q).2 / (Int.gcd (rd T q).2 b : Int) * b) := Int.ediv_mul_cancel lu
    have e2 := rd_x T q
    calc (rd T q).1 * (((rd T q).2 / (Int.gcd (rd T q).2 b : Int) * b) / (rd T q).2) * q = ((rd T q).1 * q) * (((rd T q).2 / (Int.gcd (rd T q).2 b : Int) * b) / (rd T q).2) := by ac_rfl
      _ = T * (((rd T q).2 / (Int.gcd (rd T q).2 b : Int) * b) / (rd T q).2 * (rd T q).2) := by rw [e2]; ac_rfl
      _ = T * ((rd T q).2 / (Int.gcd (rd T q).2 b : Int) * b) := by rw [e1]
  have k2 : a * (((rd T q).2 / (Int.gcd (rd T q).2 b : Int) * b) / b) * q = t * ((rd T q).2 / (Int.gcd (rd T q).2 b : Int) * b) := by
    have e1 : ((rd T q).2 / (Int.gcd (rd T q).2 b : Int) * b) / b * b = ((rd T q).2 / (Int.gcd (rd T q).2 b : Int) * b) := Int.ediv_mul_cancel lb
    calc a * (((rd T q).2 / (Int.gcd (rd T q).2 b : Int) * b) / b) * q = (a * q) * (((rd T q).2 / (Int.gcd (rd T q).2 b : Int) * b) / b) := by ac_rfl
      _ = t * (((rd T q).2 / (Int.gcd (rd T q).2 b : Int) * b) / b * b) := by rw [hab]; ac_rfl
      _ = t * ((rd T q).2 / (Int.gcd (rd T q).2 b : Int) * b) := by rw [e1]
  have b1 := mb_le hq l0 lq k1
  have b2 := mb_le hq l0 lq k2
  have b3 := mb_le hq hb hbl hab
  have k3 : rd ((rd T q).1 * (((rd T q).2 / (Int.gcd (rd T q).2 b : Int) * b) / (rd T q).2) + a * (((rd T q).2 / (Int.gcd (rd T q).2 b : Int) * b) / b)) ((rd T q).2 / (Int.gcd (rd T q).2 b : Int) * b) = rd (T + t) q := rd_cross l0 hq (by rw [Int.add_mul, k1, k2, ← Int.add_mul])
  refine aw_aload_n d_Mo_add_0 rfl ?_
  refine aw_get d_Mo_add_1 fl_Mo_158 rfl rfl ?_
  refine aw_eqs (st' := [.long (zL (rd T q).2)]) rfl ?_
  refine aw_aload_n d_Mo_add_4 rfl ?_
  refine aw_get d_Mo_add_5 fl_Mo_158 rfl rfl ?_
  refine aw_eqs (st' := [.long (zL (rd T q).2), .long (zL (rd T q).2)]) rfl ?_
  refine aw_lload_n d_Mo_add_8 rfl ?_
  refine aw_cS1 d_Mo_add_9 (c_Mo_common _ (rd T q).2 b ⟨by omega, by omega⟩ (Int.le_of_lt hb) (by omega)) mk_Mo_common is_Mo_common ln_Mo_114 rfl rfl (Nat.le_of_ble_eq_true rfl) (Nat.le_of_ble_eq_true rfl) (Nat.le_of_ble_eq_true rfl) (Nat.le_of_ble_eq_true rfl) ?_
  refine aw_ldiv d_Mo_add_12 (rd_ne hb (by omega)) ?_
  refine aw_eqs (st' := [.long (zL ((rd T q).2 / (Int.gcd (rd T q).2 b : Int)))]) (by rw [← zL_dvd ⟨by omega, by omega⟩ ⟨by omega, by omega⟩ (Int.gcd_dvd_left ..), zL_n]) ?_
  refine aw_lload_n d_Mo_add_13 rfl ?_
  refine aw_lmul d_Mo_add_14 ?_
  rw [zL_mul]
  refine aw_lstore d_Mo_add_15 (Nat.le_of_ble_eq_true rfl) ?_
  refine aw_aload_n d_Mo_add_17 rfl ?_
  refine aw_get d_Mo_add_18 fl_Mo_154 rfl rfl ?_
  refine aw_eqs (st' := [.long (zL (rd T q).1)]) rfl ?_
  refine aw_lload d_Mo_add_21 rfl ?_
  refine aw_aload_n d_Mo_add_23 rfl ?_
  refine aw_get d_Mo_add_24 fl_Mo_158 rfl rfl ?_
  refine aw_eqs (st' := [.long (zL (rd T q).2), .long (zL ((rd T q).2 / (Int.gcd (rd T q).2 b : Int) * b)), .long (zL (rd T q).1)]) rfl ?_
  refine aw_ldiv d_Mo_add_27 (fun e => absurd ((zL_eq (b := 0) ⟨by omega, by omega⟩ zR_0).mp e) (by omega)) ?_
  rw [zL_dvd ⟨by omega, by omega⟩ ⟨by omega, by omega⟩ lu]
  refine aw_lmul d_Mo_add_28 ?_
  rw [zL_mul]
  refine aw_lload_n d_Mo_add_29 rfl ?_
  refine aw_lload d_Mo_add_30 rfl ?_
  refine aw_lload_n d_Mo_add_32 rfl ?_
  refine aw_ldiv d_Mo_add_33 (fun e => absurd ((zL_eq (b := 0) ⟨by omega, by omega⟩ zR_0).mp e) (by omega)) ?_
  rw [zL_dvd ⟨by omega, by omega⟩ ⟨by omega, by omega⟩ lb]
  refine aw_lmul d_Mo_add_34 ?_
  rw [zL_mul]
  refine aw_ladd d_Mo_add_35 ?_
  rw [zL_add]
  refine aw_lstore d_Mo_add_36 (Nat.le_of_ble_eq_true rfl) ?_
  refine aw_lload d_Mo_add_38 rfl ?_
  refine aw_lload d_Mo_add_40 rfl ?_
  refine aw_cS1 d_Mo_add_42 (c_Mo_common _ ((rd T q).1 * (((rd T q).2 / (Int.gcd (rd T q).2 b : Int) * b) / (rd T q).2) + a * (((rd T q).2 / (Int.gcd (rd T q).2 b : Int) * b) / b)) ((rd T q).2 / (Int.gcd (rd T q).2 b : Int) * b) ⟨by omega, by omega⟩ (Int.le_of_lt l0) (by omega)) mk_Mo_common is_Mo_common ln_Mo_114 rfl rfl (Nat.le_of_ble_eq_true rfl) (Nat.le_of_ble_eq_true rfl) (Nat.le_of_ble_eq_true rfl) (Nat.le_of_ble_eq_true rfl) ?_
  refine aw_lstore d_Mo_add_45 (Nat.le_of_ble_eq_true rfl) ?_
  refine aw_aload_n d_Mo_add_47 rfl ?_
  refine aw_lload d_Mo_add_48 rfl ?_
  refine aw_lload d_Mo_add_50 rfl ?_
  refine aw_ldiv d_Mo_add_52 (rd_ne l0 (by omega)) ?_
  rw [rd_t1 ⟨by omega, by omega⟩ l0 (by omega), k3]
  refine aw_putW d_Mo_add_53 fp_Mo_154 rfl (Nat.le_of_ble_eq_true rfl) (fun _ _ => ⟨rfl, rfl⟩) (show _ = cs_w C ++ ms_w (mQ S (((rd (T + t) q).1, (rd T q).2))) from (ms_f36_27 _ _ _).trans (by rw [mQ_27])) ?_
  refine aw_aload_n d_Mo_add_56 rfl ?_
  refine aw_lload d_Mo_add_57 rfl ?_
  refine aw_lload d_Mo_add_59 rfl ?_
  refine aw_ldiv d_Mo_add_61 (rd_ne l0 (by omega)) ?_
  rw [rd_t2 l0 (by omega), k3]
  refine aw_putW d_Mo_add_62 fp_Mo_158 rfl (Nat.le_of_ble_eq_true rfl) (fun _ _ => ⟨rfl, rfl⟩) (show _ = cs_w C ++ ms_w (mQ S (rd (T + t) q)) from (ms_f36_28 _ _ _).trans (by rw [mQ_28])) ?_
  exact aw_vretE d_Mo_add_65 rfl rfl rfl rfl
def mO (S : cs_S) (ns : Nat) (q w : Nat → Int) : Prop :=
  S.2.2 18 = nI ns ∧ ns ≤ 60 ∧
  (∀ f, f < ns → ∃ p k : Nat, p < 5 ∧ k < 4 ∧ S.1 41 f = nI p ∧ S.1 42 f = nI k ∧ ∃ g : Int, 0 ≤ g ∧ g ≤ 1000000000 ∧ S.2.1 45 f = zL g ∧ S.2.1 48 (4 * p + k) = zL (rd (w (4 * p + k)) (q k)).1 ∧ S.2.1 49 (4 * p + k) = zL (rd (w (4 * p + k)) (q k)).2) ∧
  (∀ k, k < 4 → 0 < q k ∧ q k ≤ 100000) ∧ (∀ p k, p < 5 → k < 4 → 0 ≤ w (4 * p + k) ∧ w (4 * p + k) ≤ q k) ∧
  ∀ y, y < 10 → ∃ m : Int, 0 ≤ m ∧ m ≤ 1000000000 ∧ S.2.1 51 y = zL m
abbrev sm_c (S : cs_S) (k y : Nat) (c p : Int32) (f : Nat) : Prop := S.1 42 f = nI k ∧ S.1 43 f = nI y ∧ (c < 0 ∨ S.1 44 f = c) ∧ (p < 0 ∨ S.1 41 f = p)
def sm_T (S : cs_S) (w : Nat → Int) (k y : Nat) (c p : Int32) : Nat → Int
  | 0 => 0
  | f + 1 => sm_T S w k y c p f + (if sm_c S k y c p f then (S.2.1 45 f).toInt * w (4 * cN (S.1 41 f) + k) else 0)
theorem sm_gw {g w q : Int} (h1 : 0 ≤ g) (h2 : g ≤ 1000000000) (h3 : 0 ≤ w) (h4 : w ≤ q) (h5 : q ≤ 100000) : 0 ≤ g * w ∧ g * w ≤ 100000000000000 := by
  refine ⟨Int.mul_nonneg h1 h3, ?_⟩
  calc g * w ≤ 1000000000 * 100000 := Int.mul_le_mul h2 (by omega) h3 (by omega)
    _ = _ := by decide
theorem sm_b {S : cs_S} {ns : Nat} {q w : Nat → Int} (h : mO S ns q w) {k : Nat} (hk : k < 4) (y : Nat) (c p : Int32) : ∀ f, f ≤ ns → 0 ≤ sm_T S w k y c p f ∧ sm_T S w k y c p f ≤ f * 100000000000000
  | 0, _ => by unfold sm_T; omega
  | f + 1, hf => by
    have ih := sm_b h hk y c p f (by omega)
    obtain ⟨p', k', hp, hk', e1, e2, g, g0, g1, e3, _, _⟩ := h.2.2.1 f (by omega)
    unfold sm_T
    split
    · rename_i hc
      obtain rfl : k' = k := (nI_eq (by omega) (by omega)).mp (e2.symm.trans hc.1)
      rw [e3, zL_T ⟨by omega, by omega⟩, e1, cN_nI (by omega)]
      have hw := h.2.2.2.2.1 p' k' hp hk'
      have hq := h.2.2.2.1 k' hk'
      have := sm_gw g0 g1 hw.1 hw.2 hq.2
      omega
    · omega
theorem lp_Mo_sum (C S : cs_S) (ns : Nat) (q w : Nat → Int) (h : mO S ns q w) (k y : Nat) (hk : k < 4) (c p : Int32) (T : Int) (hT : T.natAbs < 10000000000000000) : ∀ (n f : Nat) (e : List (Nat × Value)), f + n = ns → AW (am_Mof y_Mo_sum) 2 0 0 3 ([(5, .int (nI f)), (0, .ref 36), (1, .int (nI k)), (2, .int (nI y)), (3, .int c), (4, .int p)] ++ e) [] (cs_w C ++ ms_w (mQ S (rd (T + sm_T S w k y c p f) (q k)))) 0 0 (am_Z none (cs_w C ++ ms_w (mQ S (rd (T + sm_T S w k y c p ns) (q k)))) 0 0) := by
  intro n
  induction n with
  | zero =>
    intro f e hf
    obtain rfl : ns = f := by omega
    have h6 := h.2.1
    refine aw_sub (lv' := [(5, .int (nI ns)), (0, .ref 36), (1, .int (nI k)), (2, .int (nI y)), (3, .int c), (4, .int p)]) (by simp) ?_
    refine aw_iload d_Mo_sum_3 rfl ?_
    refine aw_aload_n d_Mo_sum_5 rfl ?_
    refine aw_get d_Mo_sum_6 fl_Mo_148 rfl rfl ?_
    refine aw_eqs (congrArg (fun z => Value.int z :: _) h.1) ?_
    refine aw_icmp_ge (tgt := 148) d_Mo_sum_9 (by decide) (fun h9 => ?_) (fun h9 => absurd (nI_le (Nat.le_refl _) (by omega)) h9)
    exact aw_vretE d_Mo_sum_148 rfl rfl rfl rfl
  | succ n ih =>
    intro f e hf
    have h6 := h.2.1
    refine aw_sub (lv' := [(5, .int (nI f)), (0, .ref 36), (1, .int (nI k)), (2, .int (nI y)), (3, .int c), (4, .int p)]) (by simp) ?_
    obtain ⟨p1, k1, hp1, hk1, e1, e2, g, g0, g1, e3, e4, e5⟩ := h.2.2.1 f (by omega)
    have hsb := sm_b h hk y c p f (by omega)
    have hn60 : (f : Int) * 100000000000000 ≤ 6000000000000000 := by omega
    have h71 : AW (am_Mof y_Mo_sum) 2 0 0 71 [(5, .int (nI f)), (0, .ref 36), (1, .int (nI k)), (2, .int (nI y)), (3, .int c), (4, .int p)] [.int (bI (sm_c S k y c p f))] (cs_w C ++ ms_w (mQ S (rd (T + sm_T S w k y c p f) (q k)))) 0 0 (am_Z none (cs_w C ++ ms_w (mQ S (rd (T + sm_T S w k y c p ns) (q k)))) 0 0) := by
      refine aw_istore d_Mo_sum_71 (Nat.le_of_ble_eq_true rfl) ?_
      refine aw_iload d_Mo_sum_73 rfl ?_
      refine aw_if_eq (tgt := 142) d_Mo_sum_75 (by decide) (fun h75 => ?_) (fun h75 => ?_)
      · have he : sm_T S w k y c p (f + 1) = sm_T S w k y c p f := by show _ + _ = _; rw [if_neg ((bI_0 _).mp h75)]; omega
        refine aw_iinc d_Mo_sum_142 rfl (nI_1 _) (Nat.le_of_ble_eq_true rfl) ?_
        refine aw_goto (tgt := 3) d_Mo_sum_145 (by decide) ?_
        refine aw_eqw (w' := cs_w C ++ ms_w (mQ S (rd (T + sm_T S w k y c p (f + 1)) (q k)))) (by rw [he]) ?_
        refine aw_pick (lv' := [(5, .int (nI (f + 1))), (0, .ref 36), (1, .int (nI k)), (2, .int (nI y)), (3, .int c), (4, .int p)]) ⟨rfl, rfl, rfl, rfl, rfl, rfl, trivial⟩ ?_
        exact ih (f + 1) [] (by omega)
      · have hc := bI_n h75
        obtain rfl : k1 = k := (nI_eq (by omega) (by omega)).mp (e2.symm.trans hc.1)
        have he : sm_T S w k1 y c p (f + 1) = sm_T S w k1 y c p f + g * w (4 * p1 + k1) := by show _ + _ = _; rw [if_pos hc, e3, zL_T ⟨by omega, by omega⟩, e1, cN_nI (by omega)]
        have hq := h.2.2.2.1 k1 hk
        have hw := h.2.2.2.2.1 p1 k1 hp1 hk
        have hgw := sm_gw g0 g1 hw.1 hw.2 hq.2
        have hu := rd_pos (a := w (4 * p1 + k1)) hq.1
        have hul := rd_le (a := w (4 * p1 + k1)) hq.1
        have hx := rd_x (w (4 * p1 + k1)) (q k1)
        have hy := rd_x g (rd (w (4 * p1 + k1)) (q k1)).2
        refine aw_iconst (v := nI 4) d_Mo_sum_78 (by decide) ?_
        refine aw_aload_n d_Mo_sum_79 rfl ?_
        refine aw_get d_Mo_sum_80 fl_Mo_23 rfl rfl ?_
        refine aw_iload d_Mo_sum_83 rfl ?_
        refine aw_ialdN d_Mo_sum_85 rfl (by omega) (Nat.le_of_ble_eq_true rfl) ?_
        refine aw_eqs (congrArg (fun z => Value.int z :: _) e1) ?_
        refine aw_imul d_Mo_sum_86 ?_
        try simp only [pk_mul, nI_add]
        refine aw_iload_n d_Mo_sum_87 rfl ?_
        refine aw_iadd d_Mo_sum_88 ?_
        try simp only [pk_mul, nI_add]
        refine aw_istore d_Mo_sum_89 (Nat.le_of_ble_eq_true rfl) ?_
        refine aw_aload_n d_Mo_sum_91 rfl ?_
        refine aw_get d_Mo_sum_92 fl_Mo_35 rfl rfl ?_
        refine aw_iload d_Mo_sum_95 rfl ?_
        refine aw_laldN d_Mo_sum_97 rfl (by omega) (Nat.le_of_ble_eq_true rfl) ?_
        refine aw_eqs (st' := [.long (zL g)]) (congrArg (fun z => [Value.long z]) e3) ?_
        refine aw_aload_n d_Mo_sum_98 rfl ?_
        refine aw_get d_Mo_sum_99 fl_Mo_48 rfl rfl ?_
        refine aw_iload d_Mo_sum_102 rfl ?_
        refine aw_laldN d_Mo_sum_104 rfl (by omega) (Nat.le_of_ble_eq_true rfl) ?_
        refine aw_eqs (st' := [.long (zL (rd (w (4 * p1 + k1)) (q k1)).2), .long (zL g)]) (congrArg (fun z => [Value.long z, Value.long (zL g)]) e5) ?_
        refine aw_cS1 d_Mo_sum_105 (c_Mo_common _ g (rd (w (4 * p1 + k1)) (q k1)).2 ⟨by omega, by omega⟩ (Int.le_of_lt hu) (by omega)) mk_Mo_common is_Mo_common ln_Mo_114 rfl rfl (Nat.le_of_ble_eq_true rfl) (Nat.le_of_ble_eq_true rfl) (Nat.le_of_ble_eq_true rfl) (Nat.le_of_ble_eq_true rfl) ?_
        refine aw_lstore d_Mo_sum_108 (Nat.le_of_ble_eq_true rfl) ?_
        refine aw_aload_n d_Mo_sum_110 rfl ?_
        refine aw_aload_n d_Mo_sum_111 rfl ?_
        refine aw_get d_Mo_sum_112 fl_Mo_35 rfl rfl ?_
        refine aw_iload d_Mo_sum_115 rfl ?_
        refine aw_laldN d_Mo_sum_117 rfl (by omega) (Nat.le_of_ble_eq_true rfl) ?_
        refine aw_eqs (st' := [.long (zL g), .ref 36]) (congrArg (fun z => [Value.long z, Value.ref 36]) e3) ?_
        refine aw_lload d_Mo_sum_118 rfl ?_
        refine aw_ldiv d_Mo_sum_120 (rd_ne hu (by omega)) ?_
        rw [rd_t1 ⟨by omega, by omega⟩ hu (by omega)]
        refine aw_aload_n d_Mo_sum_121 rfl ?_
        refine aw_get d_Mo_sum_122 fl_Mo_45 rfl rfl ?_
        refine aw_iload d_Mo_sum_125 rfl ?_
        refine aw_laldN d_Mo_sum_127 rfl (by omega) (Nat.le_of_ble_eq_true rfl) ?_
        refine aw_eqs (congrArg (fun z => Value.long z :: _) e4) ?_
        refine aw_lmul d_Mo_sum_128 ?_
        rw [zL_mul]
        refine aw_aload_n d_Mo_sum_129 rfl ?_
        refine aw_get d_Mo_sum_130 fl_Mo_48 rfl rfl ?_
        refine aw_iload d_Mo_sum_133 rfl ?_
        refine aw_laldN d_Mo_sum_135 rfl (by omega) (Nat.le_of_ble_eq_true rfl) ?_
        refine aw_eqs (congrArg (fun z => Value.long z :: _) e5) ?_
        refine aw_lload d_Mo_sum_136 rfl ?_
        refine aw_ldiv d_Mo_sum_138 (rd_ne hu (by omega)) ?_
        rw [rd_t2 hu (by omega)]
        have hm : (rd g (rd (w (4 * p1 + k1)) (q k1)).2).1 * (rd (w (4 * p1 + k1)) (q k1)).1 * q k1 = g * w (4 * p1 + k1) * (rd g (rd (w (4 * p1 + k1)) (q k1)).2).2 := by
          rw [Int.mul_assoc, hx]
          calc _ = w (4 * p1 + k1) * ((rd g (rd (w (4 * p1 + k1)) (q k1)).2).1 * (rd (w (4 * p1 + k1)) (q k1)).2) := by ac_rfl
            _ = _ := by rw [hy]; ac_rfl
        refine aw_cV0 d_Mo_sum_139 (c_Mo_add C S (T + sm_T S w k1 y c p f) (q k1) _ _ (g * w (4 * p1 + k1)) hq.1 (by omega) (rd_pos hu) (Int.dvd_trans (rd_dv _ _) (rd_dv _ _)) hm (by omega) (by omega)) mk_Mo_add is_Mo_add ln_Mo_161 rfl rfl rfl rfl (Nat.le_of_ble_eq_true rfl) (Nat.le_of_ble_eq_true rfl) (Nat.le_of_ble_eq_true rfl) (Nat.le_of_ble_eq_true rfl) ?_
        refine aw_iinc d_Mo_sum_142 rfl (nI_1 _) (Nat.le_of_ble_eq_true rfl) ?_
        refine aw_goto (tgt := 3) d_Mo_sum_145 (by decide) ?_
        refine aw_eqw (w' := cs_w C ++ ms_w (mQ S (rd (T + sm_T S w k1 y c p (f + 1)) (q k1)))) (by rw [he, Int.add_assoc]) ?_
        refine aw_pick (lv' := [(5, .int (nI (f + 1))), (0, .ref 36), (1, .int (nI k1)), (2, .int (nI y)), (3, .int c), (4, .int p)]) ⟨rfl, rfl, rfl, rfl, rfl, rfl, trivial⟩ ?_
        exact ih (f + 1) [] (by omega)
    refine aw_iload d_Mo_sum_3 rfl ?_
    refine aw_aload_n d_Mo_sum_5 rfl ?_
    refine aw_get d_Mo_sum_6 fl_Mo_148 rfl rfl ?_
    refine aw_eqs (congrArg (fun z => Value.int z :: _) h.1) ?_
    refine aw_icmp_ge (tgt := 148) d_Mo_sum_9 (by decide) (fun h9 => absurd h9 (nI_ge (by omega) (by omega))) (fun h9 => ?_)
    refine aw_aload_n d_Mo_sum_12 rfl ?_
    refine aw_get d_Mo_sum_13 fl_Mo_26 rfl rfl ?_
    refine aw_iload d_Mo_sum_16 rfl ?_
    refine aw_ialdN d_Mo_sum_18 rfl (by omega) (Nat.le_of_ble_eq_true rfl) ?_
    refine aw_iload_n d_Mo_sum_19 rfl ?_
    refine aw_icmp_ne (tgt := 70) d_Mo_sum_20 (by decide) (fun h20 => ?_) (fun h20 => ?_)
    · have h20 : ¬ S.1 42 f = nI k := h20
      refine aw_iconst (v := nI 0) d_Mo_sum_70 (by decide) ?_
      exact aw_eqs (congrArg (fun z => [Value.int z]) (bI_f (fun e => h20 e.1)).symm) h71
    · have h20 : S.1 42 f = nI k := h20
      refine aw_aload_n d_Mo_sum_23 rfl ?_
      refine aw_get d_Mo_sum_24 fl_Mo_29 rfl rfl ?_
      refine aw_iload d_Mo_sum_27 rfl ?_
      refine aw_ialdN d_Mo_sum_29 rfl (by omega) (Nat.le_of_ble_eq_true rfl) ?_
      refine aw_iload_n d_Mo_sum_30 rfl ?_
      refine aw_icmp_ne (tgt := 70) d_Mo_sum_31 (by decide) (fun h31 => ?_) (fun h31 => ?_)
      · have h31 : ¬ S.1 43 f = nI y := h31
        refine aw_iconst (v := nI 0) d_Mo_sum_70 (by decide) ?_
        exact aw_eqs (congrArg (fun z => [Value.int z]) (bI_f (fun e => h31 e.2.1)).symm) h71
      · have h31 : S.1 43 f = nI y := h31
        refine aw_iload_n d_Mo_sum_34 rfl ?_
        refine aw_if_lt (tgt := 49) d_Mo_sum_35 (by decide) (fun h35 => ?_) (fun h35 => ?_)
        · refine aw_iload d_Mo_sum_49 rfl ?_
          refine aw_if_lt (tgt := 66) d_Mo_sum_51 (by decide) (fun h51 => ?_) (fun h51 => ?_)
          · refine aw_iconst (v := nI 1) d_Mo_sum_66 (by decide) ?_
            refine aw_goto (tgt := 71) d_Mo_sum_67 (by decide) ?_
            exact aw_eqs (congrArg (fun z => [Value.int z]) (bI_t ⟨h20, h31, .inl h35, .inl h51⟩).symm) h71
          · refine aw_aload_n d_Mo_sum_54 rfl ?_
            refine aw_get d_Mo_sum_55 fl_Mo_23 rfl rfl ?_
            refine aw_iload d_Mo_sum_58 rfl ?_
            refine aw_ialdN d_Mo_sum_60 rfl (by omega) (Nat.le_of_ble_eq_true rfl) ?_
            refine aw_iload d_Mo_sum_61 rfl ?_
            refine aw_icmp_ne (tgt := 70) d_Mo_sum_63 (by decide) (fun h63 => ?_) (fun h63 => ?_)
            · have h63 : ¬ S.1 41 f = p := h63
              refine aw_iconst (v := nI 0) d_Mo_sum_70 (by decide) ?_
              exact aw_eqs (congrArg (fun z => [Value.int z]) (bI_f (fun e => e.2.2.2.elim h51 h63)).symm) h71
            · have h63 : S.1 41 f = p := h63
              refine aw_iconst (v := nI 1) d_Mo_sum_66 (by decide) ?_
              refine aw_goto (tgt := 71) d_Mo_sum_67 (by decide) ?_
              exact aw_eqs (congrArg (fun z => [Value.int z]) (bI_t ⟨h20, h31, .inl h35, .inr h63⟩).symm) h71
        · refine aw_aload_n d_Mo_sum_38 rfl ?_
          refine aw_get d_Mo_sum_39 fl_Mo_32 rfl rfl ?_
          refine aw_iload d_Mo_sum_42 rfl ?_
          refine aw_ialdN d_Mo_sum_44 rfl (by omega) (Nat.le_of_ble_eq_true rfl) ?_
          refine aw_iload_n d_Mo_sum_45 rfl ?_
          refine aw_icmp_ne (tgt := 70) d_Mo_sum_46 (by decide) (fun h46 => ?_) (fun h46 => ?_)
          · have h46 : ¬ S.1 44 f = c := h46
            refine aw_iconst (v := nI 0) d_Mo_sum_70 (by decide) ?_
            exact aw_eqs (congrArg (fun z => [Value.int z]) (bI_f (fun e => e.2.2.1.elim h35 h46)).symm) h71
          · have h46 : S.1 44 f = c := h46
            refine aw_iload d_Mo_sum_49 rfl ?_
            refine aw_if_lt (tgt := 66) d_Mo_sum_51 (by decide) (fun h51 => ?_) (fun h51 => ?_)
            · refine aw_iconst (v := nI 1) d_Mo_sum_66 (by decide) ?_
              refine aw_goto (tgt := 71) d_Mo_sum_67 (by decide) ?_
              exact aw_eqs (congrArg (fun z => [Value.int z]) (bI_t ⟨h20, h31, .inr h46, .inl h51⟩).symm) h71
            · refine aw_aload_n d_Mo_sum_54 rfl ?_
              refine aw_get d_Mo_sum_55 fl_Mo_23 rfl rfl ?_
              refine aw_iload d_Mo_sum_58 rfl ?_
              refine aw_ialdN d_Mo_sum_60 rfl (by omega) (Nat.le_of_ble_eq_true rfl) ?_
              refine aw_iload d_Mo_sum_61 rfl ?_
              refine aw_icmp_ne (tgt := 70) d_Mo_sum_63 (by decide) (fun h63 => ?_) (fun h63 => ?_)
              · have h63 : ¬ S.1 41 f = p := h63
                refine aw_iconst (v := nI 0) d_Mo_sum_70 (by decide) ?_
                exact aw_eqs (congrArg (fun z => [Value.int z]) (bI_f (fun e => e.2.2.2.elim h51 h63)).symm) h71
              · have h63 : S.1 41 f = p := h63
                refine aw_iconst (v := nI 1) d_Mo_sum_66 (by decide) ?_
                refine aw_goto (tgt := 71) d_Mo_sum_67 (by decide) ?_
                exact aw_eqs (congrArg (fun z => [Value.int z]) (bI_t ⟨h20, h31, .inr h46, .inr h63⟩).symm) h71
theorem c_Mo_sum (C S : cs_S) (ns : Nat) (q w : Nat → Int) (h : mO S ns q w) (k y : Nat) (hk : k < 4) (c p : Int32) (T : Int) (hT : T.natAbs < 10000000000000000) : am_ct y_Mo_sum 2 [.ref 36, .int (nI k), .int (nI y), .int c, .int p] (cs_w C ++ ms_w (mQ S (rd T (q k)))) none (cs_w C ++ ms_w (mQ S (rd (T + sm_T S w k y c p ns) (q k)))) 0 0 := by
  refine am_ct.of rfl (Nat.le_of_ble_eq_true rfl) ?_
  refine aw_iconst (v := nI 0) d_Mo_sum_0 (by decide) ?_
  refine aw_istore d_Mo_sum_1 (Nat.le_of_ble_eq_true rfl) ?_
  refine aw_eqw (w' := cs_w C ++ ms_w (mQ S (rd (T + sm_T S w k y c p 0) (q k)))) (by show _ = cs_w C ++ ms_w (mQ S (rd (T + 0) (q k))); rw [Int.add_zero]) ?_
  refine aw_pick (lv' := [(5, .int (nI 0)), (0, .ref 36), (1, .int (nI k)), (2, .int (nI y)), (3, .int c), (4, .int p)]) ⟨rfl, rfl, rfl, rfl, rfl, rfl, trivial⟩ ?_
  exact lp_Mo_sum C S ns q w h k y hk c p T hT ns 0 [] (by omega)
def ct_T (S : cs_S) (ns : Nat) (q w : Nat → Int) (k y : Nat) (c : Int32) : Int := sm_T S w k y c (-1) ns + (if k = 3 ∧ c ≤ 0 then (S.2.1 51 y).toInt * q k else 0)
abbrev ct_v (S : cs_S) (ns : Nat) (q w : Nat → Int) (k y : Nat) (c : Int32) : Int × Int := rd (ct_T S ns q w k y c) (q k)
theorem mt_b1 {m q : Int} (h1 : 0 ≤ m) (h2 : m ≤ 1000000000) (h3 : 0 < q) (h4 : q ≤ 100000) : 0 ≤ m * q ∧ m * q ≤ 100000000000000 := sm_gw h1 h2 (Int.le_of_lt h3) (Int.le_refl q) h4
theorem ct_b {S : cs_S} {ns : Nat} {q w : Nat → Int} (h : mO S ns q w) {k y : Nat} (hk : k < 4) (hy : y < 10) (c : Int32) : 0 ≤ ct_T S ns q w k y c ∧ ct_T S ns q w k y c ≤ 6100000000000000 := by
  have h1 := sm_b h hk y c (-1) ns (Nat.le_refl _)
  have h6 := h.2.1
  have hq := h.2.2.2.1 k hk
  obtain ⟨m, m0, m1, em⟩ := h.2.2.2.2.2 y hy
  have h2 : (ns : Int) * 100000000000000 ≤ 6000000000000000 := by omega
  unfold ct_T
  split
  · rw [em, zL_T ⟨by omega, by omega⟩]
    have := mt_b1 m0 m1 hq.1 hq.2
    omega
  · omega
theorem c_Mo_count (C S : cs_S) (ns : Nat) (q w : Nat → Int) (h : mO S ns q w) (k y : Nat) (hk : k < 4) (hy : y < 10) (c : Int32) : am_ct y_Mo_count 3 [.ref 36, .int (nI k), .int (nI y), .int c] (cs_w C ++ ms_w S) none (cs_w C ++ ms_w (mQ S (ct_v S ns q w k y c))) 0 0 := by
  refine am_ct.of rfl (Nat.le_of_ble_eq_true rfl) ?_
  refine aw_aload_n d_Mo_count_0 rfl ?_
  refine aw_cV0 d_Mo_count_1 (c_Mo_nothing C S) mk_Mo_nothing is_Mo_nothing ln_Mo_165 rfl rfl rfl rfl (Nat.le_of_ble_eq_true rfl) (Nat.le_of_ble_eq_true rfl) (Nat.le_of_ble_eq_true rfl) (Nat.le_of_ble_eq_true rfl) ?_
  refine aw_eqw (w' := cs_w C ++ ms_w (mQ S (rd 0 (q k)))) (by rw [rd_0 (h.2.2.2.1 k hk).1]; rfl) ?_
  refine aw_aload_n d_Mo_count_4 rfl ?_
  refine aw_iload_n d_Mo_count_5 rfl ?_
  refine aw_iload_n d_Mo_count_6 rfl ?_
  refine aw_iload_n d_Mo_count_7 rfl ?_
  refine aw_iconst (v := -1) d_Mo_count_8 (by decide) ?_
  refine aw_cV0 d_Mo_count_9 (c_Mo_sum C S ns q w h k y hk c (-1) 0 (by omega)) mk_Mo_sum is_Mo_sum ln_Mo_168 rfl rfl rfl rfl (Nat.le_of_ble_eq_true rfl) (Nat.le_of_ble_eq_true rfl) (Nat.le_of_ble_eq_true rfl) (Nat.le_of_ble_eq_true rfl) ?_
  have hs := sm_b h hk y c (-1) ns (Nat.le_refl _)
  have h6 := h.2.1
  have hq := h.2.2.2.1 k hk
  have h2 : (ns : Int) * 100000000000000 ≤ 6000000000000000 := by omega
  rw [Int.zero_add]
  refine aw_iload_n d_Mo_count_12 rfl ?_
  refine aw_iconst (v := nI 3) d_Mo_count_13 (by decide) ?_
  refine aw_icmp_ne (tgt := 32) d_Mo_count_14 (by decide) (fun h14 => ?_) (fun h14 => ?_)
  · have he : ct_T S ns q w k y c = sm_T S w k y c (-1) ns := by unfold ct_T; rw [if_neg (fun e => h14 (by rw [e.1]))]; omega
    exact aw_vretE d_Mo_count_32 rfl (by unfold ct_v; rw [he]) rfl rfl
  · have h14 : k = 3 := (nI_eq (by omega) (by omega)).mp h14
    refine aw_iload_n d_Mo_count_17 rfl ?_
    refine aw_if_gt (tgt := 32) d_Mo_count_18 (by decide) (fun h18 => ?_) (fun h18 => ?_)
    · have he : ct_T S ns q w k y c = sm_T S w k y c (-1) ns := by unfold ct_T; rw [if_neg (fun e => absurd e.2 (Int32.not_le.mpr h18))]; omega
      exact aw_vretE d_Mo_count_32 rfl (by unfold ct_v; rw [he]) rfl rfl
    · obtain ⟨m, m0, m1, em⟩ := h.2.2.2.2.2 y hy
      have hmb := mt_b1 m0 m1 hq.1 hq.2
      have he : ct_T S ns q w k y c = sm_T S w k y c (-1) ns + m * q k := by unfold ct_T; rw [if_pos ⟨h14, Int32.not_lt.mp h18⟩, em, zL_T ⟨by omega, by omega⟩]
      refine aw_aload_n d_Mo_count_21 rfl ?_
      refine aw_aload_n d_Mo_count_22 rfl ?_
      refine aw_get d_Mo_count_23 fl_Mo_54 rfl rfl ?_
      refine aw_iload_n d_Mo_count_26 rfl ?_
      refine aw_laldN d_Mo_count_27 rfl (by omega) (Nat.le_of_ble_eq_true rfl) ?_
      refine aw_eqs (st' := [.long (zL m), .ref 36]) (congrArg (fun z => [Value.long z, Value.ref 36]) em) ?_
      refine aw_lconst (v := lN 1) d_Mo_count_28 rfl ?_
      refine aw_eqs (st' := [.long (zL 1), .long (zL m), .ref 36]) rfl ?_
      refine aw_cV0 d_Mo_count_29 (c_Mo_add C S (sm_T S w k y c (-1) ns) (q k) m 1 (m * q k) hq.1 (by omega) (by omega) (Int.one_dvd _) (by omega) (by omega) (by omega)) mk_Mo_add is_Mo_add ln_Mo_161 rfl rfl rfl rfl (Nat.le_of_ble_eq_true rfl) (Nat.le_of_ble_eq_true rfl) (Nat.le_of_ble_eq_true rfl) (Nat.le_of_ble_eq_true rfl) ?_
      exact aw_vretE d_Mo_count_32 rfl (by unfold ct_v; rw [he]) rfl rfl
