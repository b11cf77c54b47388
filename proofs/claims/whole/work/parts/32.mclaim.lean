/-! RateChainsModel: claim, once, form -/
theorem sm_T_eq {S S' : cs_S} (h1 : S'.1 = S.1) (h2 : S'.2.1 45 = S.2.1 45) (w : Nat → Int) (k y : Nat) (c p : Int32) : ∀ f, sm_T S' w k y c p f = sm_T S w k y c p f
  | 0 => rfl
  | f + 1 => by unfold sm_T; rw [sm_T_eq h1 h2 w k y c p f]; unfold sm_c; rw [h1, h2]
theorem ct_T_eq {S S' : cs_S} (h1 : S'.1 = S.1) (h2 : S'.2.1 45 = S.2.1 45) (h3 : S'.2.1 51 = S.2.1 51) (ns : Nat) (q w : Nat → Int) (k y : Nat) (c : Int32) : ct_T S' ns q w k y c = ct_T S ns q w k y c := by
  unfold ct_T; rw [sm_T_eq h1 h2, h3]
abbrev qo (S : cs_S) : Int × Int := ((S.2.1 27 0).toInt, (S.2.1 28 0).toInt)
theorem qo_w (S : cs_S) : ms_w (mQ S (qo S)) = ms_w S := by
  unfold mQ qo
  simp only [zL_of]
  rfl
theorem c_Mo_countQ (C S : cs_S) (v : Int × Int) (ns : Nat) (q w : Nat → Int) (h : mO S ns q w) (k y : Nat) (hk : k < 4) (hy : y < 10) (c : Int32) : am_ct y_Mo_count 3 [.ref 36, .int (nI k), .int (nI y), .int c] (cs_w C ++ ms_w (mQ S v)) none (cs_w C ++ ms_w (mQ S (ct_v S ns q w k y c))) 0 0 := by
  have h1 := c_Mo_count C (mQ S v) ns q w h k y hk hy c
  rw [mQ_mQ] at h1
  have h2 : ct_v (mQ S v) ns q w k y c = ct_v S ns q w k y c := by unfold ct_v; rw [ct_T_eq (S := S) (S' := mQ S v) rfl rfl rfl]
  rw [h2] at h1
  exact h1
abbrev st_y (S : cs_S) (ns : Nat) (q w : Nat → Int) (c k : Nat) (tk : Nat → Int64) (y : Nat) : Int64 := zL (ct_T S ns q w k y (nI c) / q k) - tk (40 * c + 10 * k + y)
theorem c_Mo_stockQ (C S : cs_S) (tk : Nat → Int64) (v : Int × Int) (ns : Nat) (q w : Nat → Int) (h : mO S ns q w) (c k y : Nat) (hc : c < 4) (hk : k < 4) (hy : y < 10) : am_ct y_Mo_stock 4 [.ref 36, .int (nI c), .int (nI k), .int (nI y)] (cs_w C ++ ms_w (mQ (cs_J S 52 tk) v)) (some (.long (st_y S ns q w c k tk y))) (cs_w C ++ ms_w (mQ (cs_J S 52 tk) (ct_v S ns q w k y (nI c)))) 0 0 := by
  have h1 := c_Mo_stock C (mQ (cs_J S 52 tk) v) ns q w h c k y hc hk hy
  rw [mQ_mQ] at h1
  have h3 : ct_T (mQ (cs_J S 52 tk) v) ns q w k y (nI c) = ct_T S ns q w k y (nI c) := ct_T_eq (S := S) (S' := mQ (cs_J S 52 tk) v) rfl rfl rfl ns q w k y (nI c)
  have h2 : ct_v (mQ (cs_J S 52 tk) v) ns q w k y (nI c) = ct_v S ns q w k y (nI c) := by unfold ct_v; rw [h3]
  rw [h2] at h1
  unfold st_x at h1
  rw [h3] at h1
  exact h1
theorem mQ_52 (S : cs_S) (f f' : Nat → Int64) (v : Int × Int) : cs_J (mQ (cs_J S 52 f) v) 52 f' = mQ (cs_J S 52 f') v := by
  unfold mQ cs_J
  refine congrArg (fun z => (S.1, z, S.2.2)) ?_
  funext x
  unfold va_up
  by_cases h1 : x = 52
  · subst h1; simp
  · simp [h1]
def mt_s (st : Nat → Int64) : Nat → Nat → Int64 → Int64
  | 0, _, a => a
  | n + 1, i, a => mt_s st n (i + 1) (a + st i)
abbrev mk_p (S : cs_S) (ns : Nat) (q w : Nat → Int) (c k i : Nat) (due : Int64) (tk : Nat → Int64) : Int64 := if st_y S ns q w c k tk i < due then st_y S ns q w c k tk i else due
def mk_f (S : cs_S) (ns : Nat) (q w : Nat → Int) (c k : Nat) : Nat → Nat → Int64 → (Nat → Int64) → (Nat → Int64)
  | 0, _, _, tk => tk
  | n + 1, i, due, tk => mk_f S ns q w c k n (i + 1) (due - mk_p S ns q w c k i due tk) (vp_updL tk (40 * c + 10 * k + i) (tk (40 * c + 10 * k + i) + mk_p S ns q w c k i due tk))
abbrev mk_a (S : cs_S) (ns : Nat) (q w : Nat → Int) (c k y : Nat) : Int64 := mt_s (st_y S ns q w c k (S.2.1 52)) (y + 1 - (y - 2)) (y - 2) (lN 0)
def mf_claim (S : cs_S) (ns : Nat) (q w : Nat → Int) (c k y : Int32) (g : Int64) : Int64 := if ok_l S c k y ∧ iW g (lN 1) (lN 1000000000000) then (if mk_a S ns q w (cN c) (cN k) (cN y) < g then -1 else mk_a S ns q w (cN c) (cN k) (cN y) - g) else -1
def mg_claim (S : cs_S) (ns : Nat) (q w : Nat → Int) (c k y : Int32) (g : Int64) : cs_S := if ok_l S c k y ∧ iW g (lN 1) (lN 1000000000000) then (if mk_a S ns q w (cN c) (cN k) (cN y) < g then mQ S (ct_v S ns q w (cN k) (cN y) (nI (cN c))) else mQ (cs_J S 52 (mk_f S ns q w (cN c) (cN k) (cN y + 1 - (cN y - 2)) (cN y - 2) g (S.2.1 52))) (ct_v S ns q w (cN k) (cN y) (nI (cN c)))) else S
theorem lp_Mo_cl1 (C S : cs_S) (ns : Nat) (q w : Nat → Int) (h : mO S ns q w) (c k y : Nat) (hc : c < 4) (hk : k < 4) (hy : y < 10) (g : Int64) (A : Int64) (Z : am_E) (K : AW (am_Mof y_Mo_claim) 5 0 0 86 [(6, .long A), (0, .ref 36), (1, .int (nI c)), (2, .int (nI k)), (3, .int (nI y)), (4, .long g)] [] (cs_w C ++ ms_w (mQ (cs_J S 52 (S.2.1 52)) ((ct_v S ns q w k y (nI c))))) 0 0 Z) : ∀ (n i : Nat) (a : Int64) (v : Int × Int), i + n = y + 1 → (n = 0 → v = (ct_v S ns q w k y (nI c))) → mt_s (st_y S ns q w c k (S.2.1 52)) n i a = A → AW (am_Mof y_Mo_claim) 5 0 0 61 [(8, .int (nI i)), (6, .long a), (0, .ref 36), (1, .int (nI c)), (2, .int (nI k)), (3, .int (nI y)), (4, .long g)] [] (cs_w C ++ ms_w (mQ (cs_J S 52 (S.2.1 52)) (v))) 0 0 Z := by
  intro n
  induction n with
  | zero =>
    intro i a v hi hv hA
    have hiy : i = y + 1 := by omega
    refine aw_iload d_Mo_claim_61 rfl ?_
    refine aw_iload_n d_Mo_claim_63 rfl ?_
    refine aw_icmp_gt (tgt := 86) d_Mo_claim_64 (by decide) (fun h64 => ?_) (fun h64 => absurd (nI_lt (by omega) (by omega)) h64)
    obtain rfl := hv rfl
    exact aw_pick (lv' := [(6, .long A), (0, .ref 36), (1, .int (nI c)), (2, .int (nI k)), (3, .int (nI y)), (4, .long g)]) (by rw [← hA]; exact ⟨rfl, rfl, rfl, rfl, rfl, rfl, trivial⟩) K
  | succ n ih =>
    intro i a v hi hv hA
    refine aw_iload d_Mo_claim_61 rfl ?_
    refine aw_iload_n d_Mo_claim_63 rfl ?_
    refine aw_icmp_gt (tgt := 86) d_Mo_claim_64 (by decide) (fun h64 => absurd h64 (nI_nlt (by omega) (by omega))) (fun h64 => ?_)
    refine aw_lload d_Mo_claim_67 rfl ?_
    refine aw_aload_n d_Mo_claim_69 rfl ?_
    refine aw_iload_n d_Mo_claim_70 rfl ?_
    refine aw_iload_n d_Mo_claim_71 rfl ?_
    refine aw_iload d_Mo_claim_72 rfl ?_
    refine aw_cV1 d_Mo_claim_74 (c_Mo_stockQ C S (S.2.1 52) v ns q w h c k i hc hk (by omega)) mk_Mo_stock is_Mo_stock ln_Mo_178 rfl rfl rfl rfl (Nat.le_of_ble_eq_true rfl) (Nat.le_of_ble_eq_true rfl) (Nat.le_of_ble_eq_true rfl) (Nat.le_of_ble_eq_true rfl) ?_
    refine aw_ladd d_Mo_claim_77 ?_
    refine aw_lstore d_Mo_claim_78 (Nat.le_of_ble_eq_true rfl) ?_
    refine aw_iinc d_Mo_claim_80 rfl (nI_1 _) (Nat.le_of_ble_eq_true rfl) ?_
    refine aw_goto (tgt := 61) d_Mo_claim_83 (by decide) ?_
    exact aw_eql rfl (ih (i + 1) _ _ (by omega) (fun e => by rw [show i = y from by omega]) hA)
theorem lp_Mo_cl2 (C S : cs_S) (ns : Nat) (q w : Nat → Int) (h : mO S ns q w) (c k y : Nat) (hc : c < 4) (hk : k < 4) (hy : y < 10) (g : Int64) (A : Int64) (F : Nat → Int64) : ∀ (n i : Nat) (due : Int64) (tk : Nat → Int64) (v : Int × Int) (e : List (Nat × Value)), i + n = y + 1 → (n = 0 → v = (ct_v S ns q w k y (nI c))) → mk_f S ns q w c k n i due tk = F → AW (am_Mof y_Mo_claim) 5 0 0 116 ([(10, .int (nI i)), (8, .long due), (6, .long A), (0, .ref 36), (1, .int (nI c)), (2, .int (nI k)), (3, .int (nI y)), (4, .long g)] ++ e) [] (cs_w C ++ ms_w (mQ (cs_J S 52 tk) (v))) 0 0 (am_Z (some (.long (A - g))) (cs_w C ++ ms_w (mQ (cs_J S 52 F) ((ct_v S ns q w k y (nI c))))) 0 0) := by
  intro n
  induction n with
  | zero =>
    intro i due tk v e hi hv hF
    have hiy : i = y + 1 := by omega
    refine aw_sub (lv' := [(10, .int (nI i)), (8, .long due), (6, .long A), (0, .ref 36), (1, .int (nI c)), (2, .int (nI k)), (3, .int (nI y)), (4, .long g)]) (by simp) ?_
    refine aw_iload d_Mo_claim_116 rfl ?_
    refine aw_iload_n d_Mo_claim_118 rfl ?_
    refine aw_icmp_gt (tgt := 184) d_Mo_claim_119 (by decide) (fun h119 => ?_) (fun h119 => absurd (nI_lt (by omega) (by omega)) h119)
    refine aw_lload d_Mo_claim_184 rfl ?_
    refine aw_lload d_Mo_claim_186 rfl ?_
    refine aw_lsub d_Mo_claim_188 ?_
    exact aw_lretE d_Mo_claim_189 rfl rfl (by obtain rfl := hv rfl; rw [← hF]; rfl) rfl rfl
  | succ n ih =>
    intro i due tk v e hi hv hF
    refine aw_sub (lv' := [(10, .int (nI i)), (8, .long due), (6, .long A), (0, .ref 36), (1, .int (nI c)), (2, .int (nI k)), (3, .int (nI y)), (4, .long g)]) (by simp) ?_
    refine aw_iload d_Mo_claim_116 rfl ?_
    refine aw_iload_n d_Mo_claim_118 rfl ?_
    refine aw_icmp_gt (tgt := 184) d_Mo_claim_119 (by decide) (fun h119 => absurd h119 (nI_nlt (by omega) (by omega))) (fun h119 => ?_)
    refine aw_aload_n d_Mo_claim_122 rfl ?_
    refine aw_iload_n d_Mo_claim_123 rfl ?_
    refine aw_iload_n d_Mo_claim_124 rfl ?_
    refine aw_iload d_Mo_claim_125 rfl ?_
    refine aw_cV1 d_Mo_claim_127 (c_Mo_stockQ C S tk v ns q w h c k i hc hk (by omega)) mk_Mo_stock is_Mo_stock ln_Mo_178 rfl rfl rfl rfl (Nat.le_of_ble_eq_true rfl) (Nat.le_of_ble_eq_true rfl) (Nat.le_of_ble_eq_true rfl) (Nat.le_of_ble_eq_true rfl) ?_
    refine aw_lstore d_Mo_claim_130 (Nat.le_of_ble_eq_true rfl) ?_
    refine aw_lload d_Mo_claim_132 rfl ?_
    refine aw_lload d_Mo_claim_134 rfl ?_
    refine aw_lc_ge (tgt := 145) d_Mo_claim_136 d_Mo_claim_137 (by decide) (fun h137 => ?_) (fun h137 => ?_)
    · refine aw_lload d_Mo_claim_145 rfl ?_
      refine aw_eqs (st' := [.long (mk_p S ns q w c k i due tk)]) (by unfold mk_p; rw [if_neg (Int64.not_lt.mpr h137)]) ?_
      refine aw_lstore d_Mo_claim_147 (Nat.le_of_ble_eq_true rfl) ?_
      refine aw_aload_n d_Mo_claim_149 rfl ?_
      refine aw_get d_Mo_claim_150 fl_Mo_57 rfl rfl ?_
      refine aw_bipush (v := nI 40) d_Mo_claim_153 (by decide) ?_
      refine aw_iload_n d_Mo_claim_155 rfl ?_
      refine aw_imul d_Mo_claim_156 ?_
      try simp only [pk_mul, nI_add]
      refine aw_bipush (v := nI 10) d_Mo_claim_157 (by decide) ?_
      refine aw_iload_n d_Mo_claim_159 rfl ?_
      refine aw_imul d_Mo_claim_160 ?_
      try simp only [pk_mul, nI_add]
      refine aw_iadd d_Mo_claim_161 ?_
      try simp only [pk_mul, nI_add]
      refine aw_iload d_Mo_claim_162 rfl ?_
      refine aw_iadd d_Mo_claim_164 ?_
      try simp only [pk_mul, nI_add]
      refine aw_dup2 d_Mo_claim_165 rfl rfl ?_
      refine aw_laldN d_Mo_claim_166 rfl (by omega) (Nat.le_of_ble_eq_true rfl) ?_
      refine aw_lload d_Mo_claim_167 rfl ?_
      refine aw_ladd d_Mo_claim_169 ?_
      refine aw_lastN d_Mo_claim_170 rfl (by omega) (Nat.le_of_ble_eq_true rfl) (show _ = cs_w C ++ ms_w (mQ (cs_J S 52 (vp_updL tk (40 * c + 10 * k + i) (tk (40 * c + 10 * k + i) + mk_p S ns q w c k i due tk))) ((ct_v S ns q w k i (nI c)))) from (ms_s52 _ _ _).trans (by rw [mQ_52]; rfl)) ?_
      refine aw_lload d_Mo_claim_171 rfl ?_
      refine aw_lload d_Mo_claim_173 rfl ?_
      refine aw_lsub d_Mo_claim_175 ?_
      refine aw_lstore d_Mo_claim_176 (Nat.le_of_ble_eq_true rfl) ?_
      refine aw_iinc d_Mo_claim_178 rfl (nI_1 _) (Nat.le_of_ble_eq_true rfl) ?_
      refine aw_goto (tgt := 116) d_Mo_claim_181 (by decide) ?_
      refine aw_pick (lv' := [(10, .int (nI (i + 1))), (8, .long (due - mk_p S ns q w c k i due tk)), (6, .long A), (0, .ref 36), (1, .int (nI c)), (2, .int (nI k)), (3, .int (nI y)), (4, .long g)]) ⟨rfl, rfl, rfl, rfl, rfl, rfl, rfl, rfl, trivial⟩ ?_
      exact ih (i + 1) _ _ _ [] (by omega) (fun e => by rw [show i = y from by omega]) hF
    · refine aw_lload d_Mo_claim_140 rfl ?_
      refine aw_goto (tgt := 147) d_Mo_claim_142 (by decide) ?_
      refine aw_eqs (st' := [.long (mk_p S ns q w c k i due tk)]) (by unfold mk_p; rw [if_pos (Int64.not_le.mp h137)]) ?_
      refine aw_lstore d_Mo_claim_147 (Nat.le_of_ble_eq_true rfl) ?_
      refine aw_aload_n d_Mo_claim_149 rfl ?_
      refine aw_get d_Mo_claim_150 fl_Mo_57 rfl rfl ?_
      refine aw_bipush (v := nI 40) d_Mo_claim_153 (by decide) ?_
      refine aw_iload_n d_Mo_claim_155 rfl ?_
      refine aw_imul d_Mo_claim_156 ?_
      try simp only [pk_mul, nI_add]
      refine aw_bipush (v := nI 10) d_Mo_claim_157 (by decide) ?_
      refine aw_iload_n d_Mo_claim_159 rfl ?_
      refine aw_imul d_Mo_claim_160 ?_
      try simp only [pk_mul, nI_add]
      refine aw_iadd d_Mo_claim_161 ?_
      try simp only [pk_mul, nI_add]
      refine aw_iload d_Mo_claim_162 rfl ?_
      refine aw_iadd d_Mo_claim_164 ?_
      try simp only [pk_mul, nI_add]
      refine aw_dup2 d_Mo_claim_165 rfl rfl ?_
      refine aw_laldN d_Mo_claim_166 rfl (by omega) (Nat.le_of_ble_eq_true rfl) ?_
      refine aw_lload d_Mo_claim_167 rfl ?_
      refine aw_ladd d_Mo_claim_169 ?_
      refine aw_lastN d_Mo_claim_170 rfl (by omega) (Nat.le_of_ble_eq_true rfl) (show _ = cs_w C ++ ms_w (mQ (cs_J S 52 (vp_updL tk (40 * c + 10 * k + i) (tk (40 * c + 10 * k + i) + mk_p S ns q w c k i due tk))) ((ct_v S ns q w k i (nI c)))) from (ms_s52 _ _ _).trans (by rw [mQ_52]; rfl)) ?_
      refine aw_lload d_Mo_claim_171 rfl ?_
      refine aw_lload d_Mo_claim_173 rfl ?_
      refine aw_lsub d_Mo_claim_175 ?_
      refine aw_lstore d_Mo_claim_176 (Nat.le_of_ble_eq_true rfl) ?_
      refine aw_iinc d_Mo_claim_178 rfl (nI_1 _) (Nat.le_of_ble_eq_true rfl) ?_
      refine aw_goto (tgt := 116) d_Mo_claim_181 (by decide) ?_
      refine aw_pick (lv' := [(10, .int (nI (i + 1))), (8, .long (due - mk_p S ns q w c k i due tk)), (6, .long A), (0, .ref 36), (1, .int (nI c)), (2, .int (nI k)), (3, .int (nI y)), (4, .long g)]) ⟨rfl, rfl, rfl, rfl, rfl, rfl, rfl, rfl, trivial⟩ ?_
      exact ih (i + 1) _ _ _ [] (by omega) (fun e => by rw [show i = y from by omega]) hF
theorem c_Mo_claim (C S : cs_S) (ns : Nat) (q w : Nat → Int) (h : S.2.2 13 ≠ 0 → mO S ns q w) (x z t : Int32) (g : Int64) : am_ct y_Mo_claim 5 [.ref 36, .int x, .int z, .int t, .long g] (cs_w C ++ ms_w S) (some (.long (mf_claim S ns q w x z t g))) (cs_w C ++ ms_w (mg_claim S ns q w x z t g)) 0 0 := by
  refine am_ct.of rfl (Nat.le_of_ble_eq_true rfl) ?_
  refine aw_aload_n d_Mo_claim_0 rfl ?_
  refine aw_get d_Mo_claim_1 fl_Mo_141 rfl rfl ?_
  refine aw_if_eq (tgt := 40) d_Mo_claim_4 (by decide) (fun h4 => ?_) (fun h4 => ?_)
  · refine aw_ldc2 (v := (-1)) d_Mo_claim_40 kl_Mo_172 ?_
    exact aw_lretE d_Mo_claim_43 rfl (by unfold mf_claim; rw [if_neg (fun e => e.1.1 h4)]) (by unfold mg_claim; rw [if_neg (fun e => e.1.1 h4)]) rfl rfl
  · refine aw_iload_n d_Mo_claim_7 rfl ?_
    refine aw_cS1 d_Mo_claim_8 (c_Mo_isCountry _ x) mk_Mo_isCountry is_Mo_isCountry ln_Mo_105 rfl rfl (Nat.le_of_ble_eq_true rfl) (Nat.le_of_ble_eq_true rfl) (Nat.le_of_ble_eq_true rfl) (Nat.le_of_ble_eq_true rfl) ?_
    refine aw_if_eq (tgt := 40) d_Mo_claim_11 (by decide) (fun h11 => ?_) (fun h11 => ?_)
    · refine aw_ldc2 (v := (-1)) d_Mo_claim_40 kl_Mo_172 ?_
      exact aw_lretE d_Mo_claim_43 rfl (by unfold mf_claim; rw [if_neg (fun e => (bI_0 _).mp h11 e.1.2.1)]) (by unfold mg_claim; rw [if_neg (fun e => (bI_0 _).mp h11 e.1.2.1)]) rfl rfl
    · refine aw_iload_n d_Mo_claim_14 rfl ?_
      refine aw_cS1 d_Mo_claim_15 (c_Mo_isKind _ z) mk_Mo_isKind is_Mo_isKind ln_Mo_94 rfl rfl (Nat.le_of_ble_eq_true rfl) (Nat.le_of_ble_eq_true rfl) (Nat.le_of_ble_eq_true rfl) (Nat.le_of_ble_eq_true rfl) ?_
      refine aw_if_eq (tgt := 40) d_Mo_claim_18 (by decide) (fun h18 => ?_) (fun h18 => ?_)
      · refine aw_ldc2 (v := (-1)) d_Mo_claim_40 kl_Mo_172 ?_
        exact aw_lretE d_Mo_claim_43 rfl (by unfold mf_claim; rw [if_neg (fun e => (bI_0 _).mp h18 e.1.2.2.1)]) (by unfold mg_claim; rw [if_neg (fun e => (bI_0 _).mp h18 e.1.2.2.1)]) rfl rfl
      · refine aw_iload_n d_Mo_claim_21 rfl ?_
        refine aw_cS1 d_Mo_claim_22 (c_Mo_isYear _ t) mk_Mo_isYear is_Mo_isYear ln_Mo_102 rfl rfl (Nat.le_of_ble_eq_true rfl) (Nat.le_of_ble_eq_true rfl) (Nat.le_of_ble_eq_true rfl) (Nat.le_of_ble_eq_true rfl) ?_
        refine aw_if_eq (tgt := 40) d_Mo_claim_25 (by decide) (fun h25 => ?_) (fun h25 => ?_)
        · refine aw_ldc2 (v := (-1)) d_Mo_claim_40 kl_Mo_172 ?_
          exact aw_lretE d_Mo_claim_43 rfl (by unfold mf_claim; rw [if_neg (fun e => (bI_0 _).mp h25 e.1.2.2.2)]) (by unfold mg_claim; rw [if_neg (fun e => (bI_0 _).mp h25 e.1.2.2.2)]) rfl rfl
        · refine aw_lload d_Mo_claim_28 rfl ?_
          refine aw_lconst (v := lN 1) d_Mo_claim_30 rfl ?_
          refine aw_ldc2 (v := lN 1000000000000) d_Mo_claim_31 kl_Mo_182 ?_
          refine aw_cS1 d_Mo_claim_34 (c_Mo_isIn _ g (lN 1) (lN 1000000000000)) mk_Mo_isIn is_Mo_isIn ln_Mo_82 rfl rfl (Nat.le_of_ble_eq_true rfl) (Nat.le_of_ble_eq_true rfl) (Nat.le_of_ble_eq_true rfl) (Nat.le_of_ble_eq_true rfl) ?_
          refine aw_if_ne (tgt := 44) d_Mo_claim_37 (by decide) (fun h37 => ?_) (fun h37 => ?_)
          · have hok : ok_l S x z t ∧ iW g (lN 1) (lN 1000000000000) := ⟨⟨h4, bI_n h11, bI_n h18, bI_n h25⟩, bI_n h37⟩
            have h := h h4
            obtain ⟨c, hc, ec⟩ := in_ex hok.1.2.1 (by decide)
            obtain ⟨k, hk, ek⟩ := in_ex hok.1.2.2.1 (by decide)
            obtain ⟨y, hy, ey⟩ := in_ex hok.1.2.2.2 (by decide)
            subst ec
            subst ek
            subst ey
            unfold mf_claim mg_claim
            rw [if_pos hok, if_pos hok, cN_nI (n := c) (by omega), cN_nI (n := k) (by omega), cN_nI (n := y) (by omega)]
            refine aw_lconst (v := lN 0) d_Mo_claim_44 rfl ?_
            refine aw_lstore d_Mo_claim_45 (Nat.le_of_ble_eq_true rfl) ?_
            refine aw_iload_n d_Mo_claim_47 rfl ?_
            refine aw_iconst (v := nI 2) d_Mo_claim_48 (by decide) ?_
            refine aw_icmp_ge (tgt := 56) d_Mo_claim_49 (by decide) (fun h49 => ?_) (fun h49 => ?_)
            · refine aw_iload_n d_Mo_claim_56 rfl ?_
              refine aw_iconst (v := nI 2) d_Mo_claim_57 (by decide) ?_
              refine aw_isub d_Mo_claim_58 ?_
              refine aw_eqs (st' := [.int (nI (y - 2))]) (by have := (nI_leI (by omega) (by omega)).mp h49; rw [pk_sub (by omega)]) ?_
              refine aw_istore d_Mo_claim_59 (Nat.le_of_ble_eq_true rfl) ?_
              refine aw_eqw (w' := cs_w C ++ ms_w (mQ (cs_J S 52 (S.2.1 52)) (qo S))) (by rw [cs_Jid, qo_w]) ?_
              refine aw_pick (lv' := [(8, .int (nI (y - 2))), (6, .long (lN 0)), (0, .ref 36), (1, .int (nI c)), (2, .int (nI k)), (3, .int (nI y)), (4, .long g)]) ⟨rfl, rfl, rfl, rfl, rfl, rfl, rfl, trivial⟩ ?_
              refine lp_Mo_cl1 C S ns q w h c k y hc hk hy g (mk_a S ns q w c k y) _ ?_ (y + 1 - (y - 2)) (y - 2) (lN 0) (qo S) (by omega) (fun e => by omega) rfl
              refine aw_lload d_Mo_claim_86 rfl ?_
              refine aw_lload d_Mo_claim_88 rfl ?_
              refine aw_lc_ge (tgt := 98) d_Mo_claim_90 d_Mo_claim_91 (by decide) (fun h91 => ?_) (fun h91 => ?_)
              · have h91 : ¬ (mk_a S ns q w c k y) < g := Int64.not_lt.mpr h91
                rw [if_neg h91, if_neg h91]
                refine aw_lload d_Mo_claim_98 rfl ?_
                refine aw_lstore d_Mo_claim_100 (Nat.le_of_ble_eq_true rfl) ?_
                refine aw_iload_n d_Mo_claim_102 rfl ?_
                refine aw_iconst (v := nI 2) d_Mo_claim_103 (by decide) ?_
                refine aw_icmp_ge (tgt := 111) d_Mo_claim_104 (by decide) (fun h104 => ?_) (fun h104 => ?_)
                · refine aw_iload_n d_Mo_claim_111 rfl ?_
                  refine aw_iconst (v := nI 2) d_Mo_claim_112 (by decide) ?_
                  refine aw_isub d_Mo_claim_113 ?_
                  refine aw_eqs (st' := [.int (nI (y - 2))]) (by have := (nI_leI (by omega) (by omega)).mp h104; rw [pk_sub (by omega)]) ?_
                  refine aw_istore d_Mo_claim_114 (Nat.le_of_ble_eq_true rfl) ?_
                  refine aw_pick (lv' := [(10, .int (nI (y - 2))), (8, .long g), (6, .long (mk_a S ns q w c k y)), (0, .ref 36), (1, .int (nI c)), (2, .int (nI k)), (3, .int (nI y)), (4, .long g)]) ⟨rfl, rfl, rfl, rfl, rfl, rfl, rfl, rfl, trivial⟩ ?_
                  exact lp_Mo_cl2 C S ns q w h c k y hc hk hy g (mk_a S ns q w c k y) _ (y + 1 - (y - 2)) (y - 2) g (S.2.1 52) _ [] (by omega) (fun e => by omega) rfl
                · refine aw_iconst (v := nI 0) d_Mo_claim_107 (by decide) ?_
                  refine aw_goto (tgt := 114) d_Mo_claim_108 (by decide) ?_
                  refine aw_eqs (st' := [.int (nI (y - 2))]) (by rw [show y - 2 = 0 from by have := mt (nI_leI (a := 2) (b := y) (by omega) (by omega)).mpr h104; omega]) ?_
                  refine aw_istore d_Mo_claim_114 (Nat.le_of_ble_eq_true rfl) ?_
                  refine aw_pick (lv' := [(10, .int (nI (y - 2))), (8, .long g), (6, .long (mk_a S ns q w c k y)), (0, .ref 36), (1, .int (nI c)), (2, .int (nI k)), (3, .int (nI y)), (4, .long g)]) ⟨rfl, rfl, rfl, rfl, rfl, rfl, rfl, rfl, trivial⟩ ?_
                  exact lp_Mo_cl2 C S ns q w h c k y hc hk hy g (mk_a S ns q w c k y) _ (y + 1 - (y - 2)) (y - 2) g (S.2.1 52) _ [] (by omega) (fun e => by omega) rfl
              · have h91 : (mk_a S ns q w c k y) < g := Int64.not_le.mp h91
                rw [if_pos h91, if_pos h91]
                refine aw_ldc2 (v := (-1)) d_Mo_claim_94 kl_Mo_172 ?_
                exact aw_lretE d_Mo_claim_97 rfl rfl (by rw [cs_Jid]) rfl rfl
            · refine aw_iconst (v := nI 0) d_Mo_claim_52 (by decide) ?_
              refine aw_goto (tgt := 59) d_Mo_claim_53 (by decide) ?_
              refine aw_eqs (st' := [.int (nI (y - 2))]) (by rw [show y - 2 = 0 from by have := mt (nI_leI (a := 2) (b := y) (by omega) (by omega)).mpr h49; omega]) ?_
              refine aw_istore d_Mo_claim_59 (Nat.le_of_ble_eq_true rfl) ?_
              refine aw_eqw (w' := cs_w C ++ ms_w (mQ (cs_J S 52 (S.2.1 52)) (qo S))) (by rw [cs_Jid, qo_w]) ?_
              refine aw_pick (lv' := [(8, .int (nI (y - 2))), (6, .long (lN 0)), (0, .ref 36), (1, .int (nI c)), (2, .int (nI k)), (3, .int (nI y)), (4, .long g)]) ⟨rfl, rfl, rfl, rfl, rfl, rfl, rfl, trivial⟩ ?_
              refine lp_Mo_cl1 C S ns q w h c k y hc hk hy g (mk_a S ns q w c k y) _ ?_ (y + 1 - (y - 2)) (y - 2) (lN 0) (qo S) (by omega) (fun e => by omega) rfl
              refine aw_lload d_Mo_claim_86 rfl ?_
              refine aw_lload d_Mo_claim_88 rfl ?_
              refine aw_lc_ge (tgt := 98) d_Mo_claim_90 d_Mo_claim_91 (by decide) (fun h91 => ?_) (fun h91 => ?_)
              · have h91 : ¬ (mk_a S ns q w c k y) < g := Int64.not_lt.mpr h91
                rw [if_neg h91, if_neg h91]
                refine aw_lload d_Mo_claim_98 rfl ?_
                refine aw_lstore d_Mo_claim_100 (Nat.le_of_ble_eq_true rfl) ?_
                refine aw_iload_n d_Mo_claim_102 rfl ?_
                refine aw_iconst (v := nI 2) d_Mo_claim_103 (by decide) ?_
                refine aw_icmp_ge (tgt := 111) d_Mo_claim_104 (by decide) (fun h104 => ?_) (fun h104 => ?_)
                · refine aw_iload_n d_Mo_claim_111 rfl ?_
                  refine aw_iconst (v := nI 2) d_Mo_claim_112 (by decide) ?_
                  refine aw_isub d_Mo_claim_113 ?_
                  refine aw_eqs (st' := [.int (nI (y - 2))]) (by have := (nI_leI (by omega) (by omega)).mp h104; rw [pk_sub (by omega)]) ?_
                  refine aw_istore d_Mo_claim_114 (Nat.le_of_ble_eq_true rfl) ?_
                  refine aw_pick (lv' := [(10, .int (nI (y - 2))), (8, .long g), (6, .long (mk_a S ns q w c k y)), (0, .ref 36), (1, .int (nI c)), (2, .int (nI k)), (3, .int (nI y)), (4, .long g)]) ⟨rfl, rfl, rfl, rfl, rfl, rfl, rfl, rfl, trivial⟩ ?_
                  exact lp_Mo_cl2 C S ns q w h c k y hc hk hy g (mk_a S ns q w c k y) _ (y + 1 - (y - 2)) (y - 2) g (S.2.1 52) _ [] (by omega) (fun e => by omega) rfl
                · refine aw_iconst (v := nI 0) d_Mo_claim_107 (by decide) ?_
                  refine aw_goto (tgt := 114) d_Mo_claim_108 (by decide) ?_
                  refine aw_eqs (st' := [.int (nI (y - 2))]) (by rw [show y - 2 = 0 from by have := mt (nI_leI (a := 2) (b := y) (by omega) (by omega)).mpr h104; omega]) ?_
                  refine aw_istore d_Mo_claim_114 (Nat.le_of_ble_eq_true rfl) ?_
                  refine aw_pick (lv' := [(10, .int (nI (y - 2))), (8, .long g), (6, .long (mk_a S ns q w c k y)), (0, .ref 36), (1, .int (nI c)), (2, .int (nI k)), (3, .int (nI y)), (4, .long g)]) ⟨rfl, rfl, rfl, rfl, rfl, rfl, rfl, rfl, trivial⟩ ?_
                  exact lp_Mo_cl2 C S ns q w h c k y hc hk hy g (mk_a S ns q w c k y) _ (y + 1 - (y - 2)) (y - 2) g (S.2.1 52) _ [] (by omega) (fun e => by omega) rfl
              · have h91 : (mk_a S ns q w c k y) < g := Int64.not_le.mp h91
                rw [if_pos h91, if_pos h91]
                refine aw_ldc2 (v := (-1)) d_Mo_claim_94 kl_Mo_172 ?_
                exact aw_lretE d_Mo_claim_97 rfl rfl (by rw [cs_Jid]) rfl rfl
          · refine aw_ldc2 (v := (-1)) d_Mo_claim_40 kl_Mo_172 ?_
            exact aw_lretE d_Mo_claim_43 rfl (by unfold mf_claim; rw [if_neg (fun e => (bI_0 _).mp h37 e.2)]) (by unfold mg_claim; rw [if_neg (fun e => (bI_0 _).mp h37 e.2)]) rfl rfl
def fd_T (S : cs_S) (k y : Nat) : Nat → Int
  | 0 => if k = 3 then (S.2.1 51 y).toInt else 0
  | f + 1 => fd_T S k y f + (if S.1 42 f = nI k ∧ S.1 43 f = nI y then (S.2.1 45 f).toInt else 0)
theorem fd_b {S : cs_S} {ns : Nat} {q w : Nat → Int} (h : mO S ns q w) (k y : Nat) (hy : y < 10) : ∀ f, f ≤ ns → 0 ≤ fd_T S k y f ∧ fd_T S k y f ≤ (f + 1) * 1000000000
  | 0, _ => by
    obtain ⟨m, m0, m1, em⟩ := h.2.2.2.2.2 y hy
    unfold fd_T
    rw [em, zL_T ⟨by omega, by omega⟩]
    split <;> omega
  | f + 1, hf => by
    have ih := fd_b h k y hy f (by omega)
    obtain ⟨p', k', hp, hk', e1, e2, g, g0, g1, e3, _, _⟩ := h.2.2.1 f (by omega)
    unfold fd_T
    rw [e3, zL_T ⟨by omega, by omega⟩]
    split <;> omega
abbrev oc_c (S : cs_S) (ns : Nat) (q w : Nat → Int) (k y : Nat) : Prop := ct_T S ns q w k y (-1) ≤ fd_T S k y ns * q k
def oc_y (S : cs_S) (ns : Nat) (q w : Nat → Int) (k : Nat) (b : Bool) : Nat → Bool
  | 0 => b
  | y + 1 => oc_y S ns q w k b y && decide (oc_c S ns q w k y)
def oc_k (S : cs_S) (ns : Nat) (q w : Nat → Int) : Nat → Bool
  | 0 => true
  | k + 1 => oc_y S ns q w k (oc_k S ns q w k) 10
theorem oc_iff {T q F : Int} (hq : 0 < q) : (rd T q).1 ≤ F * (rd T q).2 ↔ T ≤ F * q := by
  have x := rd_x T q
  have hu := rd_pos (a := T) hq
  have hg := rd_g (a := T) hq
  have e1 := rd_1 T q
  have e2 := rd_2 T q
  constructor
  · intro h
    have := Int.mul_le_mul_of_nonneg_right h (Int.le_of_lt hg)
    rw [e1, Int.mul_assoc, e2] at this
    exact this
  · intro h
    refine Int.le_of_mul_le_mul_right (a := (Int.gcd T q : Int)) ?_ hg
    rw [e1, Int.mul_assoc, e2]
    exact h
theorem lp_Mo_oc1 (C S : cs_S) (ns : Nat) (q w : Nat → Int) (h : mO S ns q w) (k y : Nat) (hk : k < 4) (hy : y < 10) (b : Bool) (v : Int × Int) (Z : am_E) (K : AW (am_Mof y_Mo_once) 4 0 0 97 [(4, .long (zL (fd_T S k y ns))), (3, .int (nI y)), (1, .int (bI (b = true))), (2, .int (nI k)), (0, .ref 36)] [] (cs_w C ++ ms_w (mQ S (v))) 0 0 Z) : ∀ (n f : Nat) (e : List (Nat × Value)), f + n = ns → AW (am_Mof y_Mo_once) 4 0 0 44 ([(6, .int (nI f)), (4, .long (zL (fd_T S k y f))), (3, .int (nI y)), (1, .int (bI (b = true))), (2, .int (nI k)), (0, .ref 36)] ++ e) [] (cs_w C ++ ms_w (mQ S (v))) 0 0 Z := by
  intro n
  induction n with
  | zero =>
    intro f e hf
    obtain rfl : ns = f := by omega
    have h6 := h.2.1
    refine aw_sub (lv' := [(6, .int (nI ns)), (4, .long (zL (fd_T S k y ns))), (3, .int (nI y)), (1, .int (bI (b = true))), (2, .int (nI k)), (0, .ref 36)]) (by simp) ?_
    refine aw_iload d_Mo_once_44 rfl ?_
    refine aw_aload_n d_Mo_once_46 rfl ?_
    refine aw_get d_Mo_once_47 fl_Mo_148 rfl rfl ?_
    refine aw_eqs (congrArg (fun z => Value.int z :: _) h.1) ?_
    refine aw_icmp_ge (tgt := 97) d_Mo_once_50 (by decide) (fun h50 => ?_) (fun h50 => absurd (nI_le (Nat.le_refl _) (by omega)) h50)
    exact aw_pick (lv' := [(4, .long (zL (fd_T S k y ns))), (3, .int (nI y)), (1, .int (bI (b = true))), (2, .int (nI k)), (0, .ref 36)]) ⟨rfl, rfl, rfl, rfl, rfl, trivial⟩ K
  | succ n ih =>
    intro f e hf
    have h6 := h.2.1
    refine aw_sub (lv' := [(6, .int (nI f)), (4, .long (zL (fd_T S k y f))), (3, .int (nI y)), (1, .int (bI (b = true))), (2, .int (nI k)), (0, .ref 36)]) (by simp) ?_
    refine aw_iload d_Mo_once_44 rfl ?_
    refine aw_aload_n d_Mo_once_46 rfl ?_
    refine aw_get d_Mo_once_47 fl_Mo_148 rfl rfl ?_
    refine aw_eqs (congrArg (fun z => Value.int z :: _) h.1) ?_
    refine aw_icmp_ge (tgt := 97) d_Mo_once_50 (by decide) (fun h50 => absurd h50 (nI_ge (by omega) (by omega))) (fun h50 => ?_)
    refine aw_lload d_Mo_once_53 rfl ?_
    refine aw_aload_n d_Mo_once_55 rfl ?_
    refine aw_get d_Mo_once_56 fl_Mo_26 rfl rfl ?_
    refine aw_iload d_Mo_once_59 rfl ?_
    refine aw_ialdN d_Mo_once_61 rfl (by omega) (Nat.le_of_ble_eq_true rfl) ?_
    refine aw_iload_n d_Mo_once_62 rfl ?_
    refine aw_icmp_ne (tgt := 87) d_Mo_once_63 (by decide) (fun h63 => ?_) (fun h63 => ?_)
    · have h63 : ¬ S.1 42 f = nI k := h63
      refine aw_lconst (v := lN 0) d_Mo_once_87 rfl ?_
      refine aw_eqs (st' := [.long (zL (if S.1 42 f = nI k ∧ S.1 43 f = nI y then (S.2.1 45 f).toInt else 0)), .long (zL (fd_T S k y f))]) (by rw [if_neg (fun e => h63 e.1)]; rfl) ?_
      refine aw_ladd d_Mo_once_88 ?_
      rw [zL_add]
      refine aw_lstore d_Mo_once_89 (Nat.le_of_ble_eq_true rfl) ?_
      refine aw_iinc d_Mo_once_91 rfl (nI_1 _) (Nat.le_of_ble_eq_true rfl) ?_
      refine aw_goto (tgt := 44) d_Mo_once_94 (by decide) ?_
      refine aw_pick (lv' := [(6, .int (nI (f + 1))), (4, .long (zL (fd_T S k y (f + 1)))), (3, .int (nI y)), (1, .int (bI (b = true))), (2, .int (nI k)), (0, .ref 36)]) ⟨rfl, rfl, rfl, rfl, rfl, rfl, trivial⟩ ?_
      exact ih (f + 1) [] (by omega)
    · have h63 : S.1 42 f = nI k := h63
      refine aw_aload_n d_Mo_once_66 rfl ?_
      refine aw_get d_Mo_once_67 fl_Mo_29 rfl rfl ?_
      refine aw_iload d_Mo_once_70 rfl ?_
      refine aw_ialdN d_Mo_once_72 rfl (by omega) (Nat.le_of_ble_eq_true rfl) ?_
      refine aw_iload_n d_Mo_once_73 rfl ?_
      refine aw_icmp_ne (tgt := 87) d_Mo_once_74 (by decide) (fun h74 => ?_) (fun h74 => ?_)
      · have h74 : ¬ S.1 43 f = nI y := h74
        refine aw_lconst (v := lN 0) d_Mo_once_87 rfl ?_
        refine aw_eqs (st' := [.long (zL (if S.1 42 f = nI k ∧ S.1 43 f = nI y then (S.2.1 45 f).toInt else 0)), .long (zL (fd_T S k y f))]) (by rw [if_neg (fun e => h74 e.2)]; rfl) ?_
        refine aw_ladd d_Mo_once_88 ?_
        rw [zL_add]
        refine aw_lstore d_Mo_once_89 (Nat.le_of_ble_eq_true rfl) ?_
        refine aw_iinc d_Mo_once_91 rfl (nI_1 _) (Nat.le_of_ble_eq_true rfl) ?_
        refine aw_goto (tgt := 44) d_Mo_once_94 (by decide) ?_
        refine aw_pick (lv' := [(6, .int (nI (f + 1))), (4, .long (zL (fd_T S k y (f + 1)))), (3, .int (nI y)), (1, .int (bI (b = true))), (2, .int (nI k)), (0, .ref 36)]) ⟨rfl, rfl, rfl, rfl, rfl, rfl, trivial⟩ ?_
        exact ih (f + 1) [] (by omega)
      · have h74 : S.1 43 f = nI y := h74
        refine aw_aload_n d_Mo_once_77 rfl ?_
        refine aw_get d_Mo_once_78 fl_Mo_35 rfl rfl ?_
        refine aw_iload d_Mo_once_81 rfl ?_
        refine aw_laldN d_Mo_once_83 rfl (by omega) (Nat.le_of_ble_eq_true rfl) ?_
        refine aw_goto (tgt := 88) d_Mo_once_84 (by decide) ?_
        refine aw_eqs (st' := [.long (zL (if S.1 42 f = nI k ∧ S.1 43 f = nI y then (S.2.1 45 f).toInt else 0)), .long (zL (fd_T S k y f))]) (by rw [if_pos ⟨h63, h74⟩, zL_of]; rfl) ?_
        refine aw_ladd d_Mo_once_88 ?_
        rw [zL_add]
        refine aw_lstore d_Mo_once_89 (Nat.le_of_ble_eq_true rfl) ?_
        refine aw_iinc d_Mo_once_91 rfl (nI_1 _) (Nat.le_of_ble_eq_true rfl) ?_
        refine aw_goto (tgt := 44) d_Mo_once_94 (by decide) ?_
        refine aw_pick (lv' := [(6, .int (nI (f + 1))), (4, .long (zL (fd_T S k y (f + 1)))), (3, .int (nI y)), (1, .int (bI (b = true))), (2, .int (nI k)), (0, .ref 36)]) ⟨rfl, rfl, rfl, rfl, rfl, rfl, trivial⟩ ?_
        exact ih (f + 1) [] (by omega)
theorem lp_Mo_oc2 (C S : cs_S) (ns : Nat) (q w : Nat → Int) (h : mO S ns q w) (k : Nat) (hk : k < 4) (b : Bool) (Z : am_E) (K : AW (am_Mof y_Mo_once) 4 0 0 135 [(1, .int (bI ((oc_y S ns q w k b 10) = true))), (2, .int (nI k)), (0, .ref 36)] [] (cs_w C ++ ms_w (mQ S (ct_v S ns q w k 9 (-1)))) 0 0 Z) : ∀ (n y : Nat) (v : Int × Int) (e : List (Nat × Value)), y + n = 10 → (n = 0 → v = ct_v S ns q w k 9 (-1)) → AW (am_Mof y_Mo_once) 4 0 0 18 ([(3, .int (nI y)), (1, .int (bI ((oc_y S ns q w k b y) = true))), (2, .int (nI k)), (0, .ref 36)] ++ e) [] (cs_w C ++ ms_w (mQ S (v))) 0 0 Z := by
  intro n
  induction n with
  | zero =>
    intro y v e hy hv
    obtain rfl : y = 10 := by omega
    refine aw_sub (lv' := [(3, .int (nI 10)), (1, .int (bI ((oc_y S ns q w k b 10) = true))), (2, .int (nI k)), (0, .ref 36)]) (by simp) ?_
    refine aw_iload_n d_Mo_once_18 rfl ?_
    refine aw_bipush (v := nI 10) d_Mo_once_19 (by decide) ?_
    refine aw_icmp_ge (tgt := 135) d_Mo_once_21 (by decide) (fun h21 => ?_) (fun h21 => absurd (nI_le (Nat.le_refl _) (by omega)) h21)
    obtain rfl := hv rfl
    exact aw_pick (lv' := [(1, .int (bI ((oc_y S ns q w k b 10) = true))), (2, .int (nI k)), (0, .ref 36)]) ⟨rfl, rfl, rfl, trivial⟩ K
  | succ n ih =>
    intro y v e hy hv
    refine aw_sub (lv' := [(3, .int (nI y)), (1, .int (bI ((oc_y S ns q w k b y) = true))), (2, .int (nI k)), (0, .ref 36)]) (by simp) ?_
    refine aw_iload_n d_Mo_once_18 rfl ?_
    refine aw_bipush (v := nI 10) d_Mo_once_19 (by decide) ?_
    refine aw_icmp_ge (tgt := 135) d_Mo_once_21 (by decide) (fun h21 => absurd h21 (nI_ge (by omega) (by omega))) (fun h21 => ?_)
    refine aw_iload_n d_Mo_once_24 rfl ?_
    refine aw_iconst (v := nI 3) d_Mo_once_25 (by decide) ?_
    refine aw_icmp_ne (tgt := 38) d_Mo_once_26 (by decide) (fun h26 => ?_) (fun h26 => ?_)
    · have h26 : ¬ k = 3 := fun e => h26 (by rw [e])
      refine aw_lconst (v := lN 0) d_Mo_once_38 rfl ?_
      refine aw_eqs (st' := [.long (zL (fd_T S k y 0))]) (by unfold fd_T; rw [if_neg h26]; rfl) ?_
      refine aw_lstore d_Mo_once_39 (Nat.le_of_ble_eq_true rfl) ?_
      refine aw_iconst (v := nI 0) d_Mo_once_41 (by decide) ?_
      refine aw_istore d_Mo_once_42 (Nat.le_of_ble_eq_true rfl) ?_
      refine aw_pick (lv' := [(6, .int (nI 0)), (4, .long (zL (fd_T S k y 0))), (3, .int (nI y)), (1, .int (bI ((oc_y S ns q w k b y) = true))), (2, .int (nI k)), (0, .ref 36)]) ⟨rfl, rfl, rfl, rfl, rfl, rfl, trivial⟩ ?_
      refine lp_Mo_oc1 C S ns q w h k y hk (by omega) (oc_y S ns q w k b y) v _ ?_ ns 0 [] (by omega)
      refine aw_aload_n d_Mo_once_97 rfl ?_
      refine aw_iload_n d_Mo_once_98 rfl ?_
      refine aw_iload_n d_Mo_once_99 rfl ?_
      refine aw_iconst (v := -1) d_Mo_once_100 (by decide) ?_
      refine aw_cV0 d_Mo_once_101 (c_Mo_countQ C S v ns q w h k y hk (by omega) (-1)) mk_Mo_count is_Mo_count ln_Mo_174 rfl rfl rfl rfl (Nat.le_of_ble_eq_true rfl) (Nat.le_of_ble_eq_true rfl) (Nat.le_of_ble_eq_true rfl) (Nat.le_of_ble_eq_true rfl) ?_
      have hb := ct_b h hk (y := y) (by omega) (-1)
      have hq := h.2.2.2.1 k hk
      have h6 := h.2.1
      have hs := rd_abs (ct_T S ns q w k y (-1)) (q k)
      have hu := rd_pos (a := ct_T S ns q w k y (-1)) hq.1
      have hul := rd_le (a := ct_T S ns q w k y (-1)) hq.1
      have hf := fd_b h k y (by omega) ns (Nat.le_refl _)
      have hR : zR (ct_v S ns q w k y (-1)).1 := ⟨by unfold ct_v; omega, by unfold ct_v; omega⟩
      have hF : zR (fd_T S k y ns * (ct_v S ns q w k y (-1)).2) := by
        have h1 : 0 ≤ fd_T S k y ns * (ct_v S ns q w k y (-1)).2 := Int.mul_nonneg hf.1 (Int.le_of_lt hu)
        have h2 : fd_T S k y ns * (ct_v S ns q w k y (-1)).2 ≤ 100000000000 * 100000 := Int.mul_le_mul (by omega) (by unfold ct_v; omega) (Int.le_of_lt hu) (by omega)
        exact ⟨by omega, by omega⟩
      refine aw_iload_n d_Mo_once_104 rfl ?_
      refine aw_if_eq (tgt := 127) d_Mo_once_105 (by decide) (fun h105 => ?_) (fun h105 => ?_)
      · refine aw_iconst (v := nI 0) d_Mo_once_127 (by decide) ?_
        have hb2 : bI ((oc_y S ns q w k b (y + 1)) = true) = 0 := bI_f (fun e => by rw [show (oc_y S ns q w k b (y + 1)) = ((oc_y S ns q w k b y) && decide (oc_c S ns q w k y)) from rfl, Bool.and_eq_true] at e; exact (bI_0 _).mp h105 e.1)
        refine aw_eqs (st' := [.int (bI ((oc_y S ns q w k b (y + 1)) = true))]) (by rw [hb2]; rfl) ?_
        refine aw_istore_n d_Mo_once_128 (Nat.le_of_ble_eq_true rfl) ?_
        refine aw_iinc d_Mo_once_129 rfl (nI_1 _) (Nat.le_of_ble_eq_true rfl) ?_
        refine aw_goto (tgt := 18) d_Mo_once_132 (by decide) ?_
        refine aw_pick (lv' := [(3, .int (nI (y + 1))), (1, .int (bI ((oc_y S ns q w k b (y + 1)) = true))), (2, .int (nI k)), (0, .ref 36)]) ⟨rfl, rfl, rfl, rfl, trivial⟩ ?_
        exact ih (y + 1) _ [] (by omega) (fun e => by rw [show y = 9 from by omega])
      · refine aw_aload_n d_Mo_once_108 rfl ?_
        refine aw_get d_Mo_once_109 fl_Mo_154 rfl rfl ?_
        refine aw_eqs (st' := [.long (zL (ct_v S ns q w k y (-1)).1)]) rfl ?_
        refine aw_lload d_Mo_once_112 rfl ?_
        refine aw_aload_n d_Mo_once_114 rfl ?_
        refine aw_get d_Mo_once_115 fl_Mo_158 rfl rfl ?_
        refine aw_lmul d_Mo_once_118 ?_
        refine aw_eqs (st' := [.long (zL (fd_T S k y ns * (ct_v S ns q w k y (-1)).2)), .long (zL (ct_v S ns q w k y (-1)).1)]) (by rw [← zL_mul]; rfl) ?_
        refine aw_lc_gt (tgt := 127) d_Mo_once_119 d_Mo_once_120 (by decide) (fun h120 => ?_) (fun h120 => ?_)
        · refine aw_iconst (v := nI 0) d_Mo_once_127 (by decide) ?_
          have hb2 : bI ((oc_y S ns q w k b (y + 1)) = true) = 0 := bI_f (fun e => by rw [show (oc_y S ns q w k b (y + 1)) = ((oc_y S ns q w k b y) && decide (oc_c S ns q w k y)) from rfl, Bool.and_eq_true] at e; exact absurd ((oc_iff hq.1).mpr (of_decide_eq_true e.2)) (Int.not_le.mpr ((zL_lt hF hR).mp h120)))
          refine aw_eqs (st' := [.int (bI ((oc_y S ns q w k b (y + 1)) = true))]) (by rw [hb2]; rfl) ?_
          refine aw_istore_n d_Mo_once_128 (Nat.le_of_ble_eq_true rfl) ?_
          refine aw_iinc d_Mo_once_129 rfl (nI_1 _) (Nat.le_of_ble_eq_true rfl) ?_
          refine aw_goto (tgt := 18) d_Mo_once_132 (by decide) ?_
          refine aw_pick (lv' := [(3, .int (nI (y + 1))), (1, .int (bI ((oc_y S ns q w k b (y + 1)) = true))), (2, .int (nI k)), (0, .ref 36)]) ⟨rfl, rfl, rfl, rfl, trivial⟩ ?_
          exact ih (y + 1) _ [] (by omega) (fun e => by rw [show y = 9 from by omega])
        · refine aw_iconst (v := nI 1) d_Mo_once_123 (by decide) ?_
          refine aw_goto (tgt := 128) d_Mo_once_124 (by decide) ?_
          have hb2 : bI ((oc_y S ns q w k b (y + 1)) = true) = 1 := bI_t (by rw [show (oc_y S ns q w k b (y + 1)) = ((oc_y S ns q w k b y) && decide (oc_c S ns q w k y)) from rfl, Bool.and_eq_true]; exact ⟨bI_n h105, decide_eq_true ((oc_iff hq.1).mp (Int.not_lt.mp (mt (zL_lt hF hR).mpr h120)))⟩)
          refine aw_eqs (st' := [.int (bI ((oc_y S ns q w k b (y + 1)) = true))]) (by rw [hb2]; rfl) ?_
          refine aw_istore_n d_Mo_once_128 (Nat.le_of_ble_eq_true rfl) ?_
          refine aw_iinc d_Mo_once_129 rfl (nI_1 _) (Nat.le_of_ble_eq_true rfl) ?_
          refine aw_goto (tgt := 18) d_Mo_once_132 (by decide) ?_
          refine aw_pick (lv' := [(3, .int (nI (y + 1))), (1, .int (bI ((oc_y S ns q w k b (y + 1)) = true))), (2, .int (nI k)), (0, .ref 36)]) ⟨rfl, rfl, rfl, rfl, trivial⟩ ?_
          exact ih (y + 1) _ [] (by omega) (fun e => by rw [show y = 9 from by omega])
    · have h26 : k = 3 := (nI_eq (by omega) (by omega)).mp h26
      refine aw_aload_n d_Mo_once_29 rfl ?_
      refine aw_get d_Mo_once_30 fl_Mo_54 rfl rfl ?_
      refine aw_iload_n d_Mo_once_33 rfl ?_
      refine aw_laldN d_Mo_once_34 rfl (by omega) (Nat.le_of_ble_eq_true rfl) ?_
      refine aw_goto (tgt := 39) d_Mo_once_35 (by decide) ?_
      refine aw_eqs (st' := [.long (zL (fd_T S k y 0))]) (by unfold fd_T; rw [if_pos h26, zL_of]; rfl) ?_
      refine aw_lstore d_Mo_once_39 (Nat.le_of_ble_eq_true rfl) ?_
      refine aw_iconst (v := nI 0) d_Mo_once_41 (by decide) ?_
      refine aw_istore d_Mo_once_42 (Nat.le_of_ble_eq_true rfl) ?_
      refine aw_pick (lv' := [(6, .int (nI 0)), (4, .long (zL (fd_T S k y 0))), (3, .int (nI y)), (1, .int (bI ((oc_y S ns q w k b y) = true))), (2, .int (nI k)), (0, .ref 36)]) ⟨rfl, rfl, rfl, rfl, rfl, rfl, trivial⟩ ?_
      refine lp_Mo_oc1 C S ns q w h k y hk (by omega) (oc_y S ns q w k b y) v _ ?_ ns 0 [] (by omega)
      refine aw_aload_n d_Mo_once_97 rfl ?_
      refine aw_iload_n d_Mo_once_98 rfl ?_
      refine aw_iload_n d_Mo_once_99 rfl ?_
      refine aw_iconst (v := -1) d_Mo_once_100 (by decide) ?_
      refine aw_cV0 d_Mo_once_101 (c_Mo_countQ C S v ns q w h k y hk (by omega) (-1)) mk_Mo_count is_Mo_count ln_Mo_174 rfl rfl rfl rfl (Nat.le_of_ble_eq_true rfl) (Nat.le_of_ble_eq_true rfl) (Nat.le_of_ble_eq_true rfl) (Nat.le_of_ble_eq_true rfl) ?_
      have hb := ct_b h hk (y := y) (by omega) (-1)
      have hq := h.2.2.2.1 k hk
      have h6 := h.2.1
      have hs := rd_abs (ct_T S ns q w k y (-1)) (q k)
      have hu := rd_pos (a := ct_T S ns q w k y (-1)) hq.1
      have hul := rd_le (a := ct_T S ns q w k y (-1)) hq.1
      have hf := fd_b h k y (by omega) ns (Nat.le_refl _)
      have hR : zR (ct_v S ns q w k y (-1)).1 := ⟨by unfold ct_v; omega, by unfold ct_v; omega⟩
      have hF : zR (fd_T S k y ns * (ct_v S ns q w k y (-1)).2) := by
        have h1 : 0 ≤ fd_T S k y ns * (ct_v S ns q w k y (-1)).2 := Int.mul_nonneg hf.1 (Int.le_of_lt hu)
        have h2 : fd_T S k y ns * (ct_v S ns q w k y (-1)).2 ≤ 100000000000 * 100000 := Int.mul_le_mul (by omega) (by unfold ct_v; omega) (Int.le_of_lt hu) (by omega)
        exact ⟨by omega, by omega⟩
      refine aw_iload_n d_Mo_once_104 rfl ?_
      refine aw_if_eq (tgt := 127) d_Mo_once_105 (by decide) (fun h105 => ?_) (fun h105 => ?_)
      · refine aw_iconst (v := nI 0) d_Mo_once_127 (by decide) ?_
        have hb2 : bI ((oc_y S ns q w k b (y + 1)) = true) = 0 := bI_f (fun e => by rw [show (oc_y S ns q w k b (y + 1)) = ((oc_y S ns q w k b y) && decide (oc_c S ns q w k y)) from rfl, Bool.and_eq_true] at e; exact (bI_0 _).mp h105 e.1)
        refine aw_eqs (st' := [.int (bI ((oc_y S ns q w k b (y + 1)) = true))]) (by rw [hb2]; rfl) ?_
        refine aw_istore_n d_Mo_once_128 (Nat.le_of_ble_eq_true rfl) ?_
        refine aw_iinc d_Mo_once_129 rfl (nI_1 _) (Nat.le_of_ble_eq_true rfl) ?_
        refine aw_goto (tgt := 18) d_Mo_once_132 (by decide) ?_
        refine aw_pick (lv' := [(3, .int (nI (y + 1))), (1, .int (bI ((oc_y S ns q w k b (y + 1)) = true))), (2, .int (nI k)), (0, .ref 36)]) ⟨rfl, rfl, rfl, rfl, trivial⟩ ?_
        exact ih (y + 1) _ [] (by omega) (fun e => by rw [show y = 9 from by omega])
      · refine aw_aload_n d_Mo_once_108 rfl ?_
        refine aw_get d_Mo_once_109 fl_Mo_154 rfl rfl ?_
        refine aw_eqs (st' := [.long (zL (ct_v S ns q w k y (-1)).1)]) rfl ?_
        refine aw_lload d_Mo_once_112 rfl ?_
        refine aw_aload_n d_Mo_once_114 rfl ?_
        refine aw_get d_Mo_once_115 fl_Mo_158 rfl rfl ?_
        refine aw_lmul d_Mo_once_118 ?_
        refine aw_eqs (st' := [.long (zL (fd_T S k y ns * (ct_v S ns q w k y (-1)).2)), .long (zL (ct_v S ns q w k y (-1)).1)]) (by rw [← zL_mul]; rfl) ?_
        refine aw_lc_gt (tgt := 127) d_Mo_once_119 d_Mo_once_120 (by decide) (fun h120 => ?_) (fun h120 => ?_)
        · refine aw_iconst (v := nI 0) d_Mo_once_127 (by decide) ?_
          have hb2 : bI ((oc_y S ns q w k b (y + 1)) = true) = 0 := bI_f (fun e => by rw [show (oc_y S ns q w k b (y + 1)) = ((oc_y S ns q w k b y) && decide (oc_c S ns q w k y)) from rfl, Bool.and_eq_true] at e; exact absurd ((oc_iff hq.1).mpr (of_decide_eq_true e.2)) (Int.not_le.mpr ((zL_lt hF hR).mp h120)))
          refine aw_eqs (st' := [.int (bI ((oc_y S ns q w k b (y + 1)) = true))]) (by rw [hb2]; rfl) ?_
          refine aw_istore_n d_Mo_once_128 (Nat.le_of_ble_eq_true rfl) ?_
          refine aw_iinc d_Mo_once_129 rfl (nI_1 _) (Nat.le_of_ble_eq_true rfl) ?_
          refine aw_goto (tgt := 18) d_Mo_once_132 (by decide) ?_
          refine aw_pick (lv' := [(3, .int (nI (y + 1))), (1, .int (bI ((oc_y S ns q w k b (y + 1)) = true))), (2, .int (nI k)), (0, .ref 36)]) ⟨rfl, rfl, rfl, rfl, trivial⟩ ?_
          exact ih (y + 1) _ [] (by omega) (fun e => by rw [show y = 9 from by omega])
        · refine aw_iconst (v := nI 1) d_Mo_once_123 (by decide) ?_
          refine aw_goto (tgt := 128) d_Mo_once_124 (by decide) ?_
          have hb2 : bI ((oc_y S ns q w k b (y + 1)) = true) = 1 := bI_t (by rw [show (oc_y S ns q w k b (y + 1)) = ((oc_y S ns q w k b y) && decide (oc_c S ns q w k y)) from rfl, Bool.and_eq_true]; exact ⟨bI_n h105, decide_eq_true ((oc_iff hq.1).mp (Int.not_lt.mp (mt (zL_lt hF hR).mpr h120)))⟩)
          refine aw_eqs (st' := [.int (bI ((oc_y S ns q w k b (y + 1)) = true))]) (by rw [hb2]; rfl) ?_
          refine aw_istore_n d_Mo_once_128 (Nat.le_of_ble_eq_true rfl) ?_
          refine aw_iinc d_Mo_once_129 rfl (nI_1 _) (Nat.le_of_ble_eq_true rfl) ?_
          refine aw_goto (tgt := 18) d_Mo_once_132 (by decide) ?_
          refine aw_pick (lv' := [(3, .int (nI (y + 1))), (1, .int (bI ((oc_y S ns q w k b (y + 1)) = true))), (2, .int (nI k)), (0, .ref 36)]) ⟨rfl, rfl, rfl, rfl, trivial⟩ ?_
          exact ih (y + 1) _ [] (by omega) (fun e => by rw [show y = 9 from by omega])
theorem lp_Mo_oc3 (C S : cs_S) (ns : Nat) (q w : Nat → Int) (h : mO S ns q w) (hs13 : ¬ S.2.2 13 = 0) : ∀ (n k : Nat) (v : Int × Int) (e : List (Nat × Value)), k + n = 4 → (n = 0 → v = (ct_v S ns q w 3 9 (-1))) → AW (am_Mof y_Mo_once) 4 0 0 4 ([(1, .int (bI ((oc_k S ns q w k) = true))), (2, .int (nI k)), (0, .ref 36)] ++ e) [] (cs_w C ++ ms_w (mQ S (v))) 0 0 (am_Z (some (.int (bI ((oc_k S ns q w 4) = true)))) (cs_w C ++ ms_w (mQ S ((ct_v S ns q w 3 9 (-1))))) 0 0) := by
  intro n
  induction n with
  | zero =>
    intro k v e hk hv
    obtain rfl : k = 4 := by omega
    refine aw_sub (lv' := [(1, .int (bI ((oc_k S ns q w 4) = true))), (2, .int (nI 4)), (0, .ref 36)]) (by simp) ?_
    refine aw_iload_n d_Mo_once_4 rfl ?_
    refine aw_iconst (v := nI 4) d_Mo_once_5 (by decide) ?_
    refine aw_icmp_ge (tgt := 141) d_Mo_once_6 (by decide) (fun h6 => ?_) (fun h6 => absurd (nI_le (Nat.le_refl _) (by omega)) h6)
    refine aw_iload_n d_Mo_once_141 rfl ?_
    exact aw_zretE d_Mo_once_142 rfl (bI_nar _) rfl (by obtain rfl := hv rfl; rfl) rfl rfl
  | succ n ih =>
    intro k v e hk hv
    refine aw_sub (lv' := [(1, .int (bI ((oc_k S ns q w k) = true))), (2, .int (nI k)), (0, .ref 36)]) (by simp) ?_
    refine aw_iload_n d_Mo_once_4 rfl ?_
    refine aw_iconst (v := nI 4) d_Mo_once_5 (by decide) ?_
    refine aw_icmp_ge (tgt := 141) d_Mo_once_6 (by decide) (fun h6 => absurd h6 (nI_ge (by omega) (by omega))) (fun h6 => ?_)
    refine aw_aload_n d_Mo_once_9 rfl ?_
    refine aw_get d_Mo_once_10 fl_Mo_141 rfl rfl ?_
    refine aw_if_eq (tgt := 141) d_Mo_once_13 (by decide) (fun h13 => absurd h13 hs13) (fun h13 => ?_)
    refine aw_iconst (v := nI 0) d_Mo_once_16 (by decide) ?_
    refine aw_istore_n d_Mo_once_17 (Nat.le_of_ble_eq_true rfl) ?_
    refine aw_pick (lv' := [(3, .int (nI 0)), (1, .int (bI (oc_y S ns q w k (oc_k S ns q w k) 0 = true))), (2, .int (nI k)), (0, .ref 36)]) ⟨rfl, rfl, rfl, rfl, trivial⟩ ?_
    refine lp_Mo_oc2 C S ns q w h k (by omega) (oc_k S ns q w k) _ ?_ 10 0 v [] rfl (fun e => by omega)
    refine aw_iinc d_Mo_once_135 rfl (nI_1 _) (Nat.le_of_ble_eq_true rfl) ?_
    refine aw_goto (tgt := 4) d_Mo_once_138 (by decide) ?_
    refine aw_pick (lv' := [(1, .int (bI ((oc_k S ns q w (k + 1)) = true))), (2, .int (nI (k + 1))), (0, .ref 36)]) ⟨rfl, rfl, rfl, trivial⟩ ?_
    exact ih (k + 1) _ [] (by omega) (fun e => by rw [show k = 3 from by omega])
def mf_once (S : cs_S) (ns : Nat) (q w : Nat → Int) : Bool := if S.2.2 13 = 0 then true else oc_k S ns q w 4
def mg_once (S : cs_S) (ns : Nat) (q w : Nat → Int) : cs_S := if S.2.2 13 = 0 then S else mQ S (ct_v S ns q w 3 9 (-1))
theorem c_Mo_once (C S : cs_S) (ns : Nat) (q w : Nat → Int) (h : S.2.2 13 ≠ 0 → mO S ns q w) : am_ct y_Mo_once 4 [.ref 36] (cs_w C ++ ms_w S) (some (.int (bI (mf_once S ns q w = true)))) (cs_w C ++ ms_w (mg_once S ns q w)) 0 0 := by
  refine am_ct.of rfl (Nat.le_of_ble_eq_true rfl) ?_
  refine aw_iconst (v := nI 1) d_Mo_once_0 (by decide) ?_
  refine aw_istore_n d_Mo_once_1 (Nat.le_of_ble_eq_true rfl) ?_
  refine aw_iconst (v := nI 0) d_Mo_once_2 (by decide) ?_
  refine aw_istore_n d_Mo_once_3 (Nat.le_of_ble_eq_true rfl) ?_
  unfold mf_once mg_once
  by_cases hs13 : S.2.2 13 = 0
  · rw [if_pos hs13, if_pos hs13]
    refine aw_pick (lv' := [(1, .int (nI 1)), (2, .int (nI 0)), (0, .ref 36)]) ⟨rfl, rfl, rfl, trivial⟩ ?_
    refine aw_iload_n d_Mo_once_4 rfl ?_
    refine aw_iconst (v := nI 4) d_Mo_once_5 (by decide) ?_
    refine aw_icmp_ge (tgt := 141) d_Mo_once_6 (by decide) (fun h6 => absurd h6 (nI_ge (a := 0) (b := 4) (by omega) (by omega))) (fun h6 => ?_)
    refine aw_aload_n d_Mo_once_9 rfl ?_
    refine aw_get d_Mo_once_10 fl_Mo_141 rfl rfl ?_
    refine aw_if_eq (tgt := 141) d_Mo_once_13 (by decide) (fun h13 => ?_) (fun h13 => absurd hs13 h13)
    refine aw_iload_n d_Mo_once_141 rfl ?_
    exact aw_zretE d_Mo_once_142 rfl rfl rfl rfl rfl rfl
  · rw [if_neg hs13, if_neg hs13]
    refine aw_eqw (w' := cs_w C ++ ms_w (mQ S (qo S))) (by rw [qo_w]) ?_
    refine aw_pick (lv' := [(1, .int (bI ((oc_k S ns q w 0) = true))), (2, .int (nI 0)), (0, .ref 36)]) ⟨rfl, rfl, rfl, trivial⟩ ?_
    exact lp_Mo_oc3 C S ns q w (h hs13) hs13 4 0 (qo S) [] rfl (fun e => by omega)
