/-! RateChainsModel: counted, rate, stock, left, open -/
theorem rd_un {x y c d : Int} (hy : 0 < y) (hd : 0 < d) (hc : Int.gcd x y = 1) (h : x * d = c * y) : (x, y) = rd c d := by
  rw [← rd_cross hy hd h]
  unfold rd
  rw [hc]
  simp
theorem rt_eq {T q g : Int} (hq : 0 < q) (hg : 0 < g) : ((rd (rd T q).1 g).1, (rd (rd T q).1 g).2 * (rd T q).2) = rd T (q * g) := by
  have p1 := rd_pos (a := T) hq
  have p2 := rd_pos (a := (rd T q).1) hg
  have c1 := rd_co (a := T) hq
  have c2 := rd_co (a := (rd T q).1) hg
  have x1 := rd_x T q
  have x2 := rd_x (rd T q).1 g
  have d1 : (rd (rd T q).1 g).1 ∣ (rd T q).1 := ⟨_, (rd_1 (rd T q).1 g).symm⟩
  refine rd_un (Int.mul_pos p2 p1) (Int.mul_pos hq hg) ?_ ?_
  · have c3 : Nat.Coprime (rd (rd T q).1 g).1.natAbs (rd T q).2.natAbs := Nat.Coprime.coprime_dvd_left (Int.natAbs_dvd_natAbs.mpr d1) c1
    show Nat.gcd _ _ = 1
    rw [Int.natAbs_mul]
    exact Nat.Coprime.mul_right c2 c3
  · calc (rd (rd T q).1 g).1 * (q * g) = ((rd (rd T q).1 g).1 * g) * q := by ac_rfl
      _ = ((rd T q).1 * q) * (rd (rd T q).1 g).2 := by rw [x2]; ac_rfl
      _ = _ := by rw [x1]; ac_rfl
abbrev ok_m (S : cs_S) (x y p : Int32) : Prop := S.2.2 13 ≠ 0 ∧ iR x 4 ∧ iR y 10 ∧ iW p.toInt64 (lN 0) (lN 1)
def mf_counted (S : cs_S) (ns : Nat) (q w : Nat → Int) (x y p : Int32) : Int64 := if ok_m S x y p then (if p = 0 then zL (ct_v S ns q w (cN x) (cN y) (-1)).1 else zL (ct_v S ns q w (cN x) (cN y) (-1)).2) else -1
def mg_counted (S : cs_S) (ns : Nat) (q w : Nat → Int) (x y p : Int32) : cs_S := if ok_m S x y p then mQ S (ct_v S ns q w (cN x) (cN y) (-1)) else S
def mf_rate (S : cs_S) (ns : Nat) (q w : Nat → Int) (x y p : Int32) : Int64 := if ok_m S x y p then (if S.2.1 47 (10 * cN x + cN y) = lN 0 then lN 0 else if p = 0 then zL (rd (ct_T S ns q w (cN x) (cN y) (nI 0)) (q (cN x) * (S.2.1 47 (10 * cN x + cN y)).toInt)).1 else zL (rd (ct_T S ns q w (cN x) (cN y) (nI 0)) (q (cN x) * (S.2.1 47 (10 * cN x + cN y)).toInt)).2) else -1
def mg_rate (S : cs_S) (ns : Nat) (q w : Nat → Int) (x y p : Int32) : cs_S := if ok_m S x y p then (if S.2.1 47 (10 * cN x + cN y) = lN 0 then S else mQ S (ct_v S ns q w (cN x) (cN y) (nI 0))) else S
theorem c_Mo_counted (C S : cs_S) (ns : Nat) (q w : Nat → Int) (h : S.2.2 13 ≠ 0 → mO S ns q w) (x y p : Int32) : am_ct y_Mo_counted 4 [.ref 36, .int x, .int y, .int p] (cs_w C ++ ms_w S) (some (.long (mf_counted S ns q w x y p))) (cs_w C ++ ms_w (mg_counted S ns q w x y p)) 0 0 := by
  refine am_ct.of rfl (Nat.le_of_ble_eq_true rfl) ?_
  refine aw_aload_n d_Mo_counted_0 rfl ?_
  refine aw_get d_Mo_counted_1 fl_Mo_141 rfl rfl ?_
  refine aw_if_eq (tgt := 31) d_Mo_counted_4 (by decide) (fun h4 => ?_) (fun h4 => ?_)
  · refine aw_ldc2 (v := (-1)) d_Mo_counted_31 kl_Mo_172 ?_
    exact aw_lretE d_Mo_counted_34 rfl (by unfold mf_counted; rw [if_neg (fun e => e.1 h4)]) (by unfold mg_counted; rw [if_neg (fun e => e.1 h4)]) rfl rfl
  · refine aw_iload_n d_Mo_counted_7 rfl ?_
    refine aw_cS1 d_Mo_counted_8 (c_Mo_isKind _ x) mk_Mo_isKind is_Mo_isKind ln_Mo_94 rfl rfl (Nat.le_of_ble_eq_true rfl) (Nat.le_of_ble_eq_true rfl) (Nat.le_of_ble_eq_true rfl) (Nat.le_of_ble_eq_true rfl) ?_
    refine aw_if_eq (tgt := 31) d_Mo_counted_11 (by decide) (fun h11 => ?_) (fun h11 => ?_)
    · refine aw_ldc2 (v := (-1)) d_Mo_counted_31 kl_Mo_172 ?_
      exact aw_lretE d_Mo_counted_34 rfl (by unfold mf_counted; rw [if_neg (fun e => (bI_0 _).mp h11 e.2.1)]) (by unfold mg_counted; rw [if_neg (fun e => (bI_0 _).mp h11 e.2.1)]) rfl rfl
    · refine aw_iload_n d_Mo_counted_14 rfl ?_
      refine aw_cS1 d_Mo_counted_15 (c_Mo_isYear _ y) mk_Mo_isYear is_Mo_isYear ln_Mo_102 rfl rfl (Nat.le_of_ble_eq_true rfl) (Nat.le_of_ble_eq_true rfl) (Nat.le_of_ble_eq_true rfl) (Nat.le_of_ble_eq_true rfl) ?_
      refine aw_if_eq (tgt := 31) d_Mo_counted_18 (by decide) (fun h18 => ?_) (fun h18 => ?_)
      · refine aw_ldc2 (v := (-1)) d_Mo_counted_31 kl_Mo_172 ?_
        exact aw_lretE d_Mo_counted_34 rfl (by unfold mf_counted; rw [if_neg (fun e => (bI_0 _).mp h18 e.2.2.1)]) (by unfold mg_counted; rw [if_neg (fun e => (bI_0 _).mp h18 e.2.2.1)]) rfl rfl
      · refine aw_iload_n d_Mo_counted_21 rfl ?_
        refine aw_i2l d_Mo_counted_22 ?_
        refine aw_lconst (v := lN 0) d_Mo_counted_23 rfl ?_
        refine aw_lconst (v := lN 1) d_Mo_counted_24 rfl ?_
        refine aw_cS1 d_Mo_counted_25 (c_Mo_isIn _ p.toInt64 (lN 0) (lN 1)) mk_Mo_isIn is_Mo_isIn ln_Mo_82 rfl rfl (Nat.le_of_ble_eq_true rfl) (Nat.le_of_ble_eq_true rfl) (Nat.le_of_ble_eq_true rfl) (Nat.le_of_ble_eq_true rfl) ?_
        refine aw_if_ne (tgt := 35) d_Mo_counted_28 (by decide) (fun h28 => ?_) (fun h28 => ?_)
        · have hok : ok_m S x y p := ⟨h4, bI_n h11, bI_n h18, bI_n h28⟩
          have h := h h4
          obtain ⟨k, hk, ek⟩ := in_ex hok.2.1 (by decide)
          obtain ⟨j, hj, ej⟩ := in_ex hok.2.2.1 (by decide)
          subst ek
          subst ej
          unfold mf_counted mg_counted
          rw [if_pos hok, if_pos hok, cN_nI (n := k) (by omega), cN_nI (n := j) (by omega)]
          refine aw_aload_n d_Mo_counted_35 rfl ?_
          refine aw_iload_n d_Mo_counted_36 rfl ?_
          refine aw_iload_n d_Mo_counted_37 rfl ?_
          refine aw_iconst (v := -1) d_Mo_counted_38 (by decide) ?_
          refine aw_cV0 d_Mo_counted_39 (c_Mo_count C S ns q w h k j hk hj (-1)) mk_Mo_count is_Mo_count ln_Mo_174 rfl rfl rfl rfl (Nat.le_of_ble_eq_true rfl) (Nat.le_of_ble_eq_true rfl) (Nat.le_of_ble_eq_true rfl) (Nat.le_of_ble_eq_true rfl) ?_
          refine aw_iload_n d_Mo_counted_42 rfl ?_
          refine aw_if_ne (tgt := 53) d_Mo_counted_43 (by decide) (fun h43 => ?_) (fun h43 => ?_)
          · refine aw_aload_n d_Mo_counted_53 rfl ?_
            refine aw_get d_Mo_counted_54 fl_Mo_158 rfl rfl ?_
            exact aw_lretE d_Mo_counted_57 rfl (by rw [if_neg h43]; rfl) rfl rfl rfl
          · refine aw_aload_n d_Mo_counted_46 rfl ?_
            refine aw_get d_Mo_counted_47 fl_Mo_154 rfl rfl ?_
            refine aw_goto (tgt := 57) d_Mo_counted_50 (by decide) ?_
            exact aw_lretE d_Mo_counted_57 rfl (by rw [if_pos h43]; rfl) rfl rfl rfl
        · refine aw_ldc2 (v := (-1)) d_Mo_counted_31 kl_Mo_172 ?_
          exact aw_lretE d_Mo_counted_34 rfl (by unfold mf_counted; rw [if_neg (fun e => (bI_0 _).mp h28 e.2.2.2)]) (by unfold mg_counted; rw [if_neg (fun e => (bI_0 _).mp h28 e.2.2.2)]) rfl rfl
theorem c_Mo_rate (C S : cs_S) (ns : Nat) (q w : Nat → Int) (h : S.2.2 13 ≠ 0 → mO S ns q w) (hpl : ∀ j, j < 40 → ∃ g : Int, 0 ≤ g ∧ g ≤ 100000000000 ∧ S.2.1 47 j = zL g) (x y p : Int32) : am_ct y_Mo_rate 4 [.ref 36, .int x, .int y, .int p] (cs_w C ++ ms_w S) (some (.long (mf_rate S ns q w x y p))) (cs_w C ++ ms_w (mg_rate S ns q w x y p)) 0 0 := by
  refine am_ct.of rfl (Nat.le_of_ble_eq_true rfl) ?_
  refine aw_aload_n d_Mo_rate_0 rfl ?_
  refine aw_get d_Mo_rate_1 fl_Mo_141 rfl rfl ?_
  refine aw_if_eq (tgt := 31) d_Mo_rate_4 (by decide) (fun h4 => ?_) (fun h4 => ?_)
  · refine aw_ldc2 (v := (-1)) d_Mo_rate_31 kl_Mo_172 ?_
    exact aw_lretE d_Mo_rate_34 rfl (by unfold mf_rate; rw [if_neg (fun e => e.1 h4)]) (by unfold mg_rate; rw [if_neg (fun e => e.1 h4)]) rfl rfl
  · refine aw_iload_n d_Mo_rate_7 rfl ?_
    refine aw_cS1 d_Mo_rate_8 (c_Mo_isKind _ x) mk_Mo_isKind is_Mo_isKind ln_Mo_94 rfl rfl (Nat.le_of_ble_eq_true rfl) (Nat.le_of_ble_eq_true rfl) (Nat.le_of_ble_eq_true rfl) (Nat.le_of_ble_eq_true rfl) ?_
    refine aw_if_eq (tgt := 31) d_Mo_rate_11 (by decide) (fun h11 => ?_) (fun h11 => ?_)
    · refine aw_ldc2 (v := (-1)) d_Mo_rate_31 kl_Mo_172 ?_
      exact aw_lretE d_Mo_rate_34 rfl (by unfold mf_rate; rw [if_neg (fun e => (bI_0 _).mp h11 e.2.1)]) (by unfold mg_rate; rw [if_neg (fun e => (bI_0 _).mp h11 e.2.1)]) rfl rfl
    · refine aw_iload_n d_Mo_rate_14 rfl ?_
      refine aw_cS1 d_Mo_rate_15 (c_Mo_isYear _ y) mk_Mo_isYear is_Mo_isYear ln_Mo_102 rfl rfl (Nat.le_of_ble_eq_true rfl) (Nat.le_of_ble_eq_true rfl) (Nat.le_of_ble_eq_true rfl) (Nat.le_of_ble_eq_true rfl) ?_
      refine aw_if_eq (tgt := 31) d_Mo_rate_18 (by decide) (fun h18 => ?_) (fun h18 => ?_)
      · refine aw_ldc2 (v := (-1)) d_Mo_rate_31 kl_Mo_172 ?_
        exact aw_lretE d_Mo_rate_34 rfl (by unfold mf_rate; rw [if_neg (fun e => (bI_0 _).mp h18 e.2.2.1)]) (by unfold mg_rate; rw [if_neg (fun e => (bI_0 _).mp h18 e.2.2.1)]) rfl rfl
      · refine aw_iload_n d_Mo_rate_21 rfl ?_
        refine aw_i2l d_Mo_rate_22 ?_
        refine aw_lconst (v := lN 0) d_Mo_rate_23 rfl ?_
        refine aw_lconst (v := lN 1) d_Mo_rate_24 rfl ?_
        refine aw_cS1 d_Mo_rate_25 (c_Mo_isIn _ p.toInt64 (lN 0) (lN 1)) mk_Mo_isIn is_Mo_isIn ln_Mo_82 rfl rfl (Nat.le_of_ble_eq_true rfl) (Nat.le_of_ble_eq_true rfl) (Nat.le_of_ble_eq_true rfl) (Nat.le_of_ble_eq_true rfl) ?_
        refine aw_if_ne (tgt := 35) d_Mo_rate_28 (by decide) (fun h28 => ?_) (fun h28 => ?_)
        · have hok : ok_m S x y p := ⟨h4, bI_n h11, bI_n h18, bI_n h28⟩
          have h := h h4
          obtain ⟨k, hk, ek⟩ := in_ex hok.2.1 (by decide)
          obtain ⟨j, hj, ej⟩ := in_ex hok.2.2.1 (by decide)
          subst ek
          subst ej
          unfold mf_rate mg_rate
          rw [if_pos hok, if_pos hok, cN_nI (n := k) (by omega), cN_nI (n := j) (by omega)]
          obtain ⟨g, g0, g1, eg⟩ := hpl (10 * k + j) (by omega)
          rw [eg, zL_T ⟨by omega, by omega⟩]
          refine aw_aload_n d_Mo_rate_35 rfl ?_
          refine aw_get d_Mo_rate_36 fl_Mo_42 rfl rfl ?_
          refine aw_bipush (v := nI 10) d_Mo_rate_39 (by decide) ?_
          refine aw_iload_n d_Mo_rate_41 rfl ?_
          refine aw_imul d_Mo_rate_42 ?_
          refine aw_iload_n d_Mo_rate_43 rfl ?_
          refine aw_iadd d_Mo_rate_44 ?_
          rw [pk_mul, nI_add]
          refine aw_laldN d_Mo_rate_45 rfl (by omega) (Nat.le_of_ble_eq_true rfl) ?_
          refine aw_eqs (st' := [.long (zL g)]) (congrArg (fun z => [Value.long z]) eg) ?_
          refine aw_lstore d_Mo_rate_46 (Nat.le_of_ble_eq_true rfl) ?_
          refine aw_lload d_Mo_rate_48 rfl ?_
          refine aw_lconst (v := lN 0) d_Mo_rate_50 rfl ?_
          refine aw_lc_ne (tgt := 57) d_Mo_rate_51 d_Mo_rate_52 (by decide) (fun h52 => ?_) (fun h52 => ?_)
          · have h52 : ¬ zL g = lN 0 := h52
            have hg : 0 < g := by rcases Int.lt_or_le 0 g with e | e; exact e; exact absurd (by rw [show g = 0 from by omega]; rfl) h52
            rw [if_neg h52, if_neg h52]
            refine aw_aload_n d_Mo_rate_57 rfl ?_
            refine aw_iload_n d_Mo_rate_58 rfl ?_
            refine aw_iload_n d_Mo_rate_59 rfl ?_
            refine aw_iconst (v := nI 0) d_Mo_rate_60 (by decide) ?_
            refine aw_cV0 d_Mo_rate_61 (c_Mo_count C S ns q w h k j hk hj (nI 0)) mk_Mo_count is_Mo_count ln_Mo_174 rfl rfl rfl rfl (Nat.le_of_ble_eq_true rfl) (Nat.le_of_ble_eq_true rfl) (Nat.le_of_ble_eq_true rfl) (Nat.le_of_ble_eq_true rfl) ?_
            have hb := ct_b h hk hj (nI 0)
            have hq := h.2.2.2.1 k hk
            have hs := rd_abs (ct_T S ns q w k j (nI 0)) (q k)
            have hu := rd_pos (a := ct_T S ns q w k j (nI 0)) hq.1
            have hr := rt_eq (T := ct_T S ns q w k j (nI 0)) hq.1 hg
            refine aw_aload_n d_Mo_rate_64 rfl ?_
            refine aw_get d_Mo_rate_65 fl_Mo_154 rfl rfl ?_
            refine aw_eqs (st' := [.long (zL (ct_v S ns q w k j (nI 0)).1)]) rfl ?_
            refine aw_lload d_Mo_rate_68 rfl ?_
            refine aw_cS1 d_Mo_rate_70 (c_Mo_common _ (ct_v S ns q w k j (nI 0)).1 g ⟨by unfold ct_v; omega, by unfold ct_v; omega⟩ (Int.le_of_lt hg) (by omega)) mk_Mo_common is_Mo_common ln_Mo_114 rfl rfl (Nat.le_of_ble_eq_true rfl) (Nat.le_of_ble_eq_true rfl) (Nat.le_of_ble_eq_true rfl) (Nat.le_of_ble_eq_true rfl) ?_
            refine aw_lstore d_Mo_rate_73 (Nat.le_of_ble_eq_true rfl) ?_
            refine aw_aload_n d_Mo_rate_75 rfl ?_
            refine aw_get d_Mo_rate_76 fl_Mo_154 rfl rfl ?_
            refine aw_eqs (st' := [.long (zL (ct_v S ns q w k j (nI 0)).1)]) rfl ?_
            refine aw_lload d_Mo_rate_79 rfl ?_
            refine aw_ldiv d_Mo_rate_81 (rd_ne hg (by omega)) ?_
            rw [rd_t1 ⟨by unfold ct_v; omega, by unfold ct_v; omega⟩ hg (by omega)]
            refine aw_lstore d_Mo_rate_82 (Nat.le_of_ble_eq_true rfl) ?_
            refine aw_lload d_Mo_rate_84 rfl ?_
            refine aw_lload d_Mo_rate_86 rfl ?_
            refine aw_ldiv d_Mo_rate_88 (rd_ne hg (by omega)) ?_
            rw [rd_t2 hg (by omega)]
            refine aw_aload_n d_Mo_rate_89 rfl ?_
            refine aw_get d_Mo_rate_90 fl_Mo_158 rfl rfl ?_
            refine aw_eqs (st' := [.long (zL (ct_v S ns q w k j (nI 0)).2), .long (zL (rd (ct_v S ns q w k j (nI 0)).1 g).2)]) rfl ?_
            refine aw_lmul d_Mo_rate_93 ?_
            rw [zL_mul]
            refine aw_lstore d_Mo_rate_94 (Nat.le_of_ble_eq_true rfl) ?_
            refine aw_iload_n d_Mo_rate_96 rfl ?_
            refine aw_if_ne (tgt := 105) d_Mo_rate_97 (by decide) (fun h97 => ?_) (fun h97 => ?_)
            · refine aw_lload d_Mo_rate_105 rfl ?_
              exact aw_lretE d_Mo_rate_107 rfl (by rw [if_neg h97, ← hr]) rfl rfl rfl
            · refine aw_lload d_Mo_rate_100 rfl ?_
              refine aw_goto (tgt := 107) d_Mo_rate_102 (by decide) ?_
              exact aw_lretE d_Mo_rate_107 rfl (by rw [if_pos h97, ← hr]) rfl rfl rfl
          · have h52 : zL g = lN 0 := h52
            rw [if_pos h52, if_pos h52]
            refine aw_lconst (v := lN 0) d_Mo_rate_55 rfl ?_
            exact aw_lretE d_Mo_rate_56 rfl rfl rfl rfl rfl
        · refine aw_ldc2 (v := (-1)) d_Mo_rate_31 kl_Mo_172 ?_
          exact aw_lretE d_Mo_rate_34 rfl (by unfold mf_rate; rw [if_neg (fun e => (bI_0 _).mp h28 e.2.2.2)]) (by unfold mg_rate; rw [if_neg (fun e => (bI_0 _).mp h28 e.2.2.2)]) rfl rfl
abbrev st_x (S : cs_S) (ns : Nat) (q w : Nat → Int) (c k y : Nat) : Int64 := zL (ct_T S ns q w k y (nI c) / q k) - S.2.1 52 (40 * c + 10 * k + y)
theorem ct_dn {S : cs_S} {ns : Nat} {q w : Nat → Int} (h : mO S ns q w) {k y : Nat} (hk : k < 4) (hy : y < 10) (c : Int32) : zL (ct_v S ns q w k y c).1 / zL (ct_v S ns q w k y c).2 = zL (ct_T S ns q w k y c / q k) := by
  have hb := ct_b h hk hy c
  have hq := h.2.2.2.1 k hk
  have hs := rd_abs (ct_T S ns q w k y c) (q k)
  have hu := rd_pos (a := ct_T S ns q w k y c) hq.1
  have hul := rd_le (a := ct_T S ns q w k y c) hq.1
  have h1 := rd_1 (ct_T S ns q w k y c) (q k)
  have hg := rd_g (a := ct_T S ns q w k y c) hq.1
  have hs0 : 0 ≤ (ct_v S ns q w k y c).1 := Int.ediv_nonneg hb.1 (Int.le_of_lt hg)
  rw [zL_div ⟨by unfold ct_v; omega, by unfold ct_v; omega⟩ ⟨by unfold ct_v; omega, by unfold ct_v; omega⟩, Int.tdiv_eq_ediv_of_nonneg hs0]
  unfold ct_v
  rw [rd_dn hq.1]
theorem ct_ne {S : cs_S} {ns : Nat} {q w : Nat → Int} (h : mO S ns q w) {k y : Nat} (hk : k < 4) (c : Int32) : ¬ zL (ct_v S ns q w k y c).2 = 0 := fun e => by
  have hq := h.2.2.2.1 k hk
  have hu := rd_pos (a := ct_T S ns q w k y c) hq.1
  have hul := rd_le (a := ct_T S ns q w k y c) hq.1
  have := (zL_eq (a := (ct_v S ns q w k y c).2) (b := 0) ⟨by unfold ct_v; omega, by unfold ct_v; omega⟩ zR_0).mp e
  unfold ct_v at this
  omega
theorem c_Mo_stock (C S : cs_S) (ns : Nat) (q w : Nat → Int) (h : mO S ns q w) (c k y : Nat) (hc : c < 4) (hk : k < 4) (hy : y < 10) : am_ct y_Mo_stock 4 [.ref 36, .int (nI c), .int (nI k), .int (nI y)] (cs_w C ++ ms_w S) (some (.long (st_x S ns q w c k y))) (cs_w C ++ ms_w (mQ S ((ct_v S ns q w k y (nI c))))) 0 0 := by
  refine am_ct.of rfl (Nat.le_of_ble_eq_true rfl) ?_
  refine aw_aload_n d_Mo_stock_0 rfl ?_
  refine aw_iload_n d_Mo_stock_1 rfl ?_
  refine aw_iload_n d_Mo_stock_2 rfl ?_
  refine aw_iload_n d_Mo_stock_3 rfl ?_
  refine aw_cV0 d_Mo_stock_4 (c_Mo_count C S ns q w h k y hk hy (nI c)) mk_Mo_count is_Mo_count ln_Mo_174 rfl rfl rfl rfl (Nat.le_of_ble_eq_true rfl) (Nat.le_of_ble_eq_true rfl) (Nat.le_of_ble_eq_true rfl) (Nat.le_of_ble_eq_true rfl) ?_
  refine aw_aload_n d_Mo_stock_7 rfl ?_
  refine aw_get d_Mo_stock_8 fl_Mo_154 rfl rfl ?_
  refine aw_eqs (st' := [.long (zL (ct_v S ns q w k y (nI c)).1)]) rfl ?_
  refine aw_aload_n d_Mo_stock_11 rfl ?_
  refine aw_get d_Mo_stock_12 fl_Mo_158 rfl rfl ?_
  refine aw_eqs (st' := [.long (zL (ct_v S ns q w k y (nI c)).2), .long (zL (ct_v S ns q w k y (nI c)).1)]) rfl ?_
  refine aw_ldiv d_Mo_stock_15 (ct_ne h hk _) ?_
  rw [ct_dn h hk hy]
  refine aw_aload_n d_Mo_stock_16 rfl ?_
  refine aw_get d_Mo_stock_17 fl_Mo_57 rfl rfl ?_
  refine aw_bipush (v := nI 40) d_Mo_stock_20 (by decide) ?_
  refine aw_iload_n d_Mo_stock_22 rfl ?_
  refine aw_imul d_Mo_stock_23 ?_
  try simp only [pk_mul, nI_add]
  refine aw_bipush (v := nI 10) d_Mo_stock_24 (by decide) ?_
  refine aw_iload_n d_Mo_stock_26 rfl ?_
  refine aw_imul d_Mo_stock_27 ?_
  try simp only [pk_mul, nI_add]
  refine aw_iadd d_Mo_stock_28 ?_
  try simp only [pk_mul, nI_add]
  refine aw_iload_n d_Mo_stock_29 rfl ?_
  refine aw_iadd d_Mo_stock_30 ?_
  try simp only [pk_mul, nI_add]
  refine aw_laldN d_Mo_stock_31 rfl (by omega) (Nat.le_of_ble_eq_true rfl) ?_
  refine aw_lsub d_Mo_stock_32 ?_
  exact aw_lretE d_Mo_stock_33 rfl rfl rfl rfl rfl
abbrev ok_l (S : cs_S) (c k y : Int32) : Prop := S.2.2 13 ≠ 0 ∧ iR c 4 ∧ iR k 4 ∧ iR y 10
def mf_left (S : cs_S) (ns : Nat) (q w : Nat → Int) (c k y : Int32) : Int64 := if ok_l S c k y then st_x S ns q w (cN c) (cN k) (cN y) else -1
def mg_left (S : cs_S) (ns : Nat) (q w : Nat → Int) (c k y : Int32) : cs_S := if ok_l S c k y then mQ S (ct_v S ns q w (cN k) (cN y) (nI (cN c))) else S
theorem c_Mo_left (C S : cs_S) (ns : Nat) (q w : Nat → Int) (h : S.2.2 13 ≠ 0 → mO S ns q w) (x y z : Int32) : am_ct y_Mo_left 5 [.ref 36, .int x, .int y, .int z] (cs_w C ++ ms_w S) (some (.long (mf_left S ns q w x y z))) (cs_w C ++ ms_w (mg_left S ns q w x y z)) 0 0 := by
  refine am_ct.of rfl (Nat.le_of_ble_eq_true rfl) ?_
  refine aw_aload_n d_Mo_left_0 rfl ?_
  refine aw_get d_Mo_left_1 fl_Mo_141 rfl rfl ?_
  refine aw_if_eq (tgt := 38) d_Mo_left_4 (by decide) (fun h4 => ?_) (fun h4 => ?_)
  · refine aw_ldc2 (v := (-1)) d_Mo_left_38 kl_Mo_172 ?_
    exact aw_lretE d_Mo_left_41 rfl (by unfold mf_left; rw [if_neg (fun e => e.1 h4)]) (by unfold mg_left; rw [if_neg (fun e => e.1 h4)]) rfl rfl
  · refine aw_iload_n d_Mo_left_7 rfl ?_
    refine aw_cS1 d_Mo_left_8 (c_Mo_isCountry _ x) mk_Mo_isCountry is_Mo_isCountry ln_Mo_105 rfl rfl (Nat.le_of_ble_eq_true rfl) (Nat.le_of_ble_eq_true rfl) (Nat.le_of_ble_eq_true rfl) (Nat.le_of_ble_eq_true rfl) ?_
    refine aw_if_eq (tgt := 38) d_Mo_left_11 (by decide) (fun h11 => ?_) (fun h11 => ?_)
    · refine aw_ldc2 (v := (-1)) d_Mo_left_38 kl_Mo_172 ?_
      exact aw_lretE d_Mo_left_41 rfl (by unfold mf_left; rw [if_neg (fun e => (bI_0 _).mp h11 e.2.1)]) (by unfold mg_left; rw [if_neg (fun e => (bI_0 _).mp h11 e.2.1)]) rfl rfl
    · refine aw_iload_n d_Mo_left_14 rfl ?_
      refine aw_cS1 d_Mo_left_15 (c_Mo_isKind _ y) mk_Mo_isKind is_Mo_isKind ln_Mo_94 rfl rfl (Nat.le_of_ble_eq_true rfl) (Nat.le_of_ble_eq_true rfl) (Nat.le_of_ble_eq_true rfl) (Nat.le_of_ble_eq_true rfl) ?_
      refine aw_if_eq (tgt := 38) d_Mo_left_18 (by decide) (fun h18 => ?_) (fun h18 => ?_)
      · refine aw_ldc2 (v := (-1)) d_Mo_left_38 kl_Mo_172 ?_
        exact aw_lretE d_Mo_left_41 rfl (by unfold mf_left; rw [if_neg (fun e => (bI_0 _).mp h18 e.2.2.1)]) (by unfold mg_left; rw [if_neg (fun e => (bI_0 _).mp h18 e.2.2.1)]) rfl rfl
      · refine aw_iload_n d_Mo_left_21 rfl ?_
        refine aw_cS1 d_Mo_left_22 (c_Mo_isYear _ z) mk_Mo_isYear is_Mo_isYear ln_Mo_102 rfl rfl (Nat.le_of_ble_eq_true rfl) (Nat.le_of_ble_eq_true rfl) (Nat.le_of_ble_eq_true rfl) (Nat.le_of_ble_eq_true rfl) ?_
        refine aw_if_eq (tgt := 38) d_Mo_left_25 (by decide) (fun h25 => ?_) (fun h25 => ?_)
        · refine aw_ldc2 (v := (-1)) d_Mo_left_38 kl_Mo_172 ?_
          exact aw_lretE d_Mo_left_41 rfl (by unfold mf_left; rw [if_neg (fun e => (bI_0 _).mp h25 e.2.2.2)]) (by unfold mg_left; rw [if_neg (fun e => (bI_0 _).mp h25 e.2.2.2)]) rfl rfl
        · have hok : ok_l S x y z := ⟨h4, bI_n h11, bI_n h18, bI_n h25⟩
          have h := h h4
          obtain ⟨c, hc, ec⟩ := in_ex hok.2.1 (by decide)
          obtain ⟨k, hk, ek⟩ := in_ex hok.2.2.1 (by decide)
          obtain ⟨j, hj, ej⟩ := in_ex hok.2.2.2 (by decide)
          subst ec
          subst ek
          subst ej
          unfold mf_left mg_left
          rw [if_pos hok, if_pos hok, cN_nI (n := c) (by omega), cN_nI (n := k) (by omega), cN_nI (n := j) (by omega)]
          refine aw_aload_n d_Mo_left_28 rfl ?_
          refine aw_iload_n d_Mo_left_29 rfl ?_
          refine aw_iload_n d_Mo_left_30 rfl ?_
          refine aw_iload_n d_Mo_left_31 rfl ?_
          refine aw_cV1 d_Mo_left_32 (c_Mo_stock C S ns q w h c k j hc hk hj) mk_Mo_stock is_Mo_stock ln_Mo_178 rfl rfl rfl rfl (Nat.le_of_ble_eq_true rfl) (Nat.le_of_ble_eq_true rfl) (Nat.le_of_ble_eq_true rfl) (Nat.le_of_ble_eq_true rfl) ?_
          refine aw_goto (tgt := 41) d_Mo_left_35 (by decide) ?_
          exact aw_lretE d_Mo_left_41 rfl rfl rfl rfl rfl
abbrev ok_o (S : cs_S) (np : Nat) (ya yb k p : Int32) : Prop := S.2.2 13 ≠ 0 ∧ iR ya 10 ∧ iR yb 10 ∧ (¬ k < 0 ∧ k < nI (4 * np)) ∧ iW p.toInt64 (lN 0) (lN 1)
abbrev op_v (S : cs_S) (ns : Nat) (q w : Nat → Int) (ya yb k : Nat) : Int × Int := rd (-sm_T S w (k % 4) ya (-1) (nI (k / 4)) ns + sm_T S w (k % 4) yb (-1) (nI (k / 4)) ns) (q (k % 4))
def mf_open (S : cs_S) (np ns : Nat) (q w : Nat → Int) (ya yb k p : Int32) : Int64 := if ok_o S np ya yb k p then (if p = 0 then zL (op_v S ns q w (cN ya) (cN yb) (cN k)).1 else zL (op_v S ns q w (cN ya) (cN yb) (cN k)).2) else lN 0
def mg_open (S : cs_S) (np ns : Nat) (q w : Nat → Int) (ya yb k p : Int32) : cs_S := if ok_o S np ya yb k p then mQ S (op_v S ns q w (cN ya) (cN yb) (cN k)) else S
theorem c_Mo_open (C S : cs_S) (np : Nat) (hn : S.2.2 0 = nI np) (h5 : np ≤ 5) (ns : Nat) (q w : Nat → Int) (h : S.2.2 13 ≠ 0 → mO S ns q w) (ya yb k p : Int32) : am_ct y_Mo_open 3 [.ref 36, .int ya, .int yb, .int k, .int p] (cs_w C ++ ms_w S) (some (.long (mf_open S np ns q w ya yb k p))) (cs_w C ++ ms_w (mg_open S np ns q w ya yb k p)) 0 0 := by
  refine am_ct.of rfl (Nat.le_of_ble_eq_true rfl) ?_
  refine aw_aload_n d_Mo_open_0 rfl ?_
  refine aw_get d_Mo_open_1 fl_Mo_141 rfl rfl ?_
  refine aw_if_eq (tgt := 46) d_Mo_open_4 (by decide) (fun h4 => ?_) (fun h4 => ?_)
  · refine aw_lconst (v := lN 0) d_Mo_open_46 rfl ?_
    exact aw_lretE d_Mo_open_47 rfl (by unfold mf_open; rw [if_neg (fun e => e.1 h4)]) (by unfold mg_open; rw [if_neg (fun e => e.1 h4)]) rfl rfl
  · refine aw_iload_n d_Mo_open_7 rfl ?_
    refine aw_cS1 d_Mo_open_8 (c_Mo_isYear _ ya) mk_Mo_isYear is_Mo_isYear ln_Mo_102 rfl rfl (Nat.le_of_ble_eq_true rfl) (Nat.le_of_ble_eq_true rfl) (Nat.le_of_ble_eq_true rfl) (Nat.le_of_ble_eq_true rfl) ?_
    refine aw_if_eq (tgt := 46) d_Mo_open_11 (by decide) (fun h11 => ?_) (fun h11 => ?_)
    · refine aw_lconst (v := lN 0) d_Mo_open_46 rfl ?_
      exact aw_lretE d_Mo_open_47 rfl (by unfold mf_open; rw [if_neg (fun e => (bI_0 _).mp h11 e.2.1)]) (by unfold mg_open; rw [if_neg (fun e => (bI_0 _).mp h11 e.2.1)]) rfl rfl
    · refine aw_iload_n d_Mo_open_14 rfl ?_
      refine aw_cS1 d_Mo_open_15 (c_Mo_isYear _ yb) mk_Mo_isYear is_Mo_isYear ln_Mo_102 rfl rfl (Nat.le_of_ble_eq_true rfl) (Nat.le_of_ble_eq_true rfl) (Nat.le_of_ble_eq_true rfl) (Nat.le_of_ble_eq_true rfl) ?_
      refine aw_if_eq (tgt := 46) d_Mo_open_18 (by decide) (fun h18 => ?_) (fun h18 => ?_)
      · refine aw_lconst (v := lN 0) d_Mo_open_46 rfl ?_
        exact aw_lretE d_Mo_open_47 rfl (by unfold mf_open; rw [if_neg (fun e => (bI_0 _).mp h18 e.2.2.1)]) (by unfold mg_open; rw [if_neg (fun e => (bI_0 _).mp h18 e.2.2.1)]) rfl rfl
      · refine aw_iload_n d_Mo_open_21 rfl ?_
        refine aw_if_lt (tgt := 46) d_Mo_open_22 (by decide) (fun h22 => ?_) (fun h22 => ?_)
        · refine aw_lconst (v := lN 0) d_Mo_open_46 rfl ?_
          exact aw_lretE d_Mo_open_47 rfl (by unfold mf_open; rw [if_neg (fun e => e.2.2.2.1.1 h22)]) (by unfold mg_open; rw [if_neg (fun e => e.2.2.2.1.1 h22)]) rfl rfl
        · refine aw_iload_n d_Mo_open_25 rfl ?_
          refine aw_iconst (v := nI 4) d_Mo_open_26 (by decide) ?_
          refine aw_aload_n d_Mo_open_27 rfl ?_
          refine aw_get d_Mo_open_28 fl_Mo_72 rfl rfl ?_
          refine aw_eqs (congrArg (fun z => Value.int z :: _) hn) ?_
          refine aw_imul d_Mo_open_31 ?_
          rw [pk_mul]
          refine aw_icmp_ge (tgt := 46) d_Mo_open_32 (by decide) (fun h32 => ?_) (fun h32 => ?_)
          · refine aw_lconst (v := lN 0) d_Mo_open_46 rfl ?_
            exact aw_lretE d_Mo_open_47 rfl (by unfold mf_open; rw [if_neg (fun e => absurd h32 (Int32.not_le.mpr e.2.2.2.1.2))]) (by unfold mg_open; rw [if_neg (fun e => absurd h32 (Int32.not_le.mpr e.2.2.2.1.2))]) rfl rfl
          · refine aw_iload d_Mo_open_35 rfl ?_
            refine aw_i2l d_Mo_open_37 ?_
            refine aw_lconst (v := lN 0) d_Mo_open_38 rfl ?_
            refine aw_lconst (v := lN 1) d_Mo_open_39 rfl ?_
            refine aw_cS1 d_Mo_open_40 (c_Mo_isIn _ p.toInt64 (lN 0) (lN 1)) mk_Mo_isIn is_Mo_isIn ln_Mo_82 rfl rfl (Nat.le_of_ble_eq_true rfl) (Nat.le_of_ble_eq_true rfl) (Nat.le_of_ble_eq_true rfl) (Nat.le_of_ble_eq_true rfl) ?_
            refine aw_if_ne (tgt := 48) d_Mo_open_43 (by decide) (fun h43 => ?_) (fun h43 => ?_)
            · have hok : ok_o S np ya yb k p := ⟨h4, bI_n h11, bI_n h18, ⟨h22, Int32.not_le.mp h32⟩, bI_n h43⟩
              have h := h h4
              obtain ⟨a, ha, ea⟩ := in_ex hok.2.1 (by decide)
              obtain ⟨b, hb, eb⟩ := in_ex hok.2.2.1 (by decide)
              obtain ⟨m, hm, em⟩ := in_ex (n := 4 * np) ⟨(i32_nlt _ _).mp h22, hok.2.2.2.1.2⟩ (by omega)
              subst ea
              subst eb
              subst em
              unfold mf_open mg_open
              rw [if_pos hok, if_pos hok, cN_nI (n := a) (by omega), cN_nI (n := b) (by omega), cN_nI (n := m) (by omega)]
              have hq := h.2.2.2.1 (m % 4) (by omega)
              have hs := sm_b h (k := m % 4) (by omega) a (-1) (nI (m / 4)) ns (Nat.le_refl _)
              have h6 := h.2.1
              have h2 : (ns : Int) * 100000000000000 ≤ 6000000000000000 := by omega
              refine aw_aload_n d_Mo_open_48 rfl ?_
              refine aw_cV0 d_Mo_open_49 (c_Mo_nothing C S) mk_Mo_nothing is_Mo_nothing ln_Mo_165 rfl rfl rfl rfl (Nat.le_of_ble_eq_true rfl) (Nat.le_of_ble_eq_true rfl) (Nat.le_of_ble_eq_true rfl) (Nat.le_of_ble_eq_true rfl) ?_
              refine aw_eqw (w' := cs_w C ++ ms_w (mQ S (rd 0 (q (m % 4))))) (by rw [rd_0 hq.1]; rfl) ?_
              refine aw_aload_n d_Mo_open_52 rfl ?_
              refine aw_iload_n d_Mo_open_53 rfl ?_
              refine aw_iconst (v := nI 4) d_Mo_open_54 (by decide) ?_
              refine aw_irem d_Mo_open_55 (by decide) ?_
              rw [pk_rem (by omega) (by omega) (by omega)]
              refine aw_iload_n d_Mo_open_56 rfl ?_
              refine aw_iconst (v := -1) d_Mo_open_57 (by decide) ?_
              refine aw_iload_n d_Mo_open_58 rfl ?_
              refine aw_iconst (v := nI 4) d_Mo_open_59 (by decide) ?_
              refine aw_idiv d_Mo_open_60 (by decide) ?_
              rw [pk_div (by omega) (by omega) (by omega)]
              refine aw_cV0 d_Mo_open_61 (c_Mo_sum C S ns q w h (m % 4) a (by omega) (-1) (nI (m / 4)) 0 (by omega)) mk_Mo_sum is_Mo_sum ln_Mo_168 rfl rfl rfl rfl (Nat.le_of_ble_eq_true rfl) (Nat.le_of_ble_eq_true rfl) (Nat.le_of_ble_eq_true rfl) (Nat.le_of_ble_eq_true rfl) ?_
              rw [Int.zero_add]
              refine aw_aload_n d_Mo_open_64 rfl ?_
              refine aw_aload_n d_Mo_open_65 rfl ?_
              refine aw_get d_Mo_open_66 fl_Mo_154 rfl rfl ?_
              refine aw_eqs (st' := [.long (zL (rd (sm_T S w (m % 4) a (-1) (nI (m / 4)) ns) (q (m % 4))).1), .ref 36]) rfl ?_
              refine aw_lneg d_Mo_open_69 ?_
              rw [zL_neg]
              refine aw_putW d_Mo_open_70 fp_Mo_154 rfl (Nat.le_of_ble_eq_true rfl) (fun _ _ => ⟨rfl, rfl⟩) (show _ = cs_w C ++ ms_w (mQ S (rd (-sm_T S w (m % 4) a (-1) (nI (m / 4)) ns) (q (m % 4)))) from (ms_f36_27 _ _ _).trans (by rw [mQ_27, rd_neg])) ?_
              refine aw_aload_n d_Mo_open_73 rfl ?_
              refine aw_iload_n d_Mo_open_74 rfl ?_
              refine aw_iconst (v := nI 4) d_Mo_open_75 (by decide) ?_
              refine aw_irem d_Mo_open_76 (by decide) ?_
              rw [pk_rem (by omega) (by omega) (by omega)]
              refine aw_iload_n d_Mo_open_77 rfl ?_
              refine aw_iconst (v := -1) d_Mo_open_78 (by decide) ?_
              refine aw_iload_n d_Mo_open_79 rfl ?_
              refine aw_iconst (v := nI 4) d_Mo_open_80 (by decide) ?_
              refine aw_idiv d_Mo_open_81 (by decide) ?_
              rw [pk_div (by omega) (by omega) (by omega)]
              refine aw_cV0 d_Mo_open_82 (c_Mo_sum C S ns q w h (m % 4) b (by omega) (-1) (nI (m / 4)) (-sm_T S w (m % 4) a (-1) (nI (m / 4)) ns) (by omega)) mk_Mo_sum is_Mo_sum ln_Mo_168 rfl rfl rfl rfl (Nat.le_of_ble_eq_true rfl) (Nat.le_of_ble_eq_true rfl) (Nat.le_of_ble_eq_true rfl) (Nat.le_of_ble_eq_true rfl) ?_
              refine aw_iload d_Mo_open_85 rfl ?_
              refine aw_if_ne (tgt := 97) d_Mo_open_87 (by decide) (fun h87 => ?_) (fun h87 => ?_)
              · refine aw_aload_n d_Mo_open_97 rfl ?_
                refine aw_get d_Mo_open_98 fl_Mo_158 rfl rfl ?_
                exact aw_lretE d_Mo_open_101 rfl (by rw [if_neg h87]; rfl) rfl rfl rfl
              · refine aw_aload_n d_Mo_open_90 rfl ?_
                refine aw_get d_Mo_open_91 fl_Mo_154 rfl rfl ?_
                refine aw_goto (tgt := 101) d_Mo_open_94 (by decide) ?_
                exact aw_lretE d_Mo_open_101 rfl (by rw [if_pos h87]; rfl) rfl rfl rfl
            · refine aw_lconst (v := lN 0) d_Mo_open_46 rfl ?_
              exact aw_lretE d_Mo_open_47 rfl (by unfold mf_open; rw [if_neg (fun e => (bI_0 _).mp h43 e.2.2.2.2)]) (by unfold mg_open; rw [if_neg (fun e => (bI_0 _).mp h43 e.2.2.2.2)]) rfl rfl
