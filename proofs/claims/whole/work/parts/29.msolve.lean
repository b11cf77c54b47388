/-! RateChainsModel.solve -/
abbrev en_c (S : cs_S) (np p k : Nat) : Bool := ed_f S k (re_x S np p k) np
def so_f (S : cs_S) (np : Nat) : Nat → Nat → Option Nat
  | 0, _ => none
  | n + 1, p => if al_n (fun k => en_c S np p k) 4 = true then so_f S np n (p + 1) else some p
theorem ly_1_eq {S S' : cs_S} (h : S'.1 = S.1) (k : Nat) (X : Nat → Int × Int) (p : Nat) : ∀ q, ly_1 S' k X p q = ly_1 S k X p q
  | 0 => rfl
  | q + 1 => by
    show mu (ly_1 S' k X p q) (6 * p + q) (rd (lo_a S' k p q) 10) = mu (ly_1 S k X p q) (6 * p + q) (rd (lo_a S k p q) 10)
    rw [ly_1_eq h k X p q]
    unfold lo_a lo_g
    rw [h]
theorem ly_f_eq {S S' : cs_S} (h : S'.1 = S.1) (k np : Nat) (X : Nat → Int × Int) : ∀ p, ly_f S' k np X p = ly_f S k np X p
  | 0 => rfl
  | p + 1 => by
    show ly_2 S' k (ly_1 S' k (ly_0 (ly_f S' k np X p) p 6) p np) p = ly_2 S k (ly_1 S k (ly_0 (ly_f S k np X p) p 6) p np) p
    rw [ly_f_eq h k np X p, ly_1_eq h]
    unfold ly_2 lo_g lo_b
    rw [h]
def wv (f : Nat → Int64) (v : Nat → Int) (k : Nat) : Nat → (Nat → Int64)
  | 0 => f
  | p + 1 => vp_updL (wv f v k p) (4 * p + k) (zL (v p))
def wo (X : Nat → Int × Int) (p : Nat) : Int × Int := rd ((X (6 * p + 5)).1 * (X (6 * p + p)).2) ((X (6 * p + 5)).2 * (X (6 * p + p)).1)
abbrev woO (X : Nat → Int × Int) (p : Nat) : Prop := zR ((X (6 * p + 5)).1 * (X (6 * p + p)).2) ∧ 0 < (X (6 * p + 5)).2 * (X (6 * p + p)).1 ∧ (X (6 * p + 5)).2 * (X (6 * p + p)).1 < 2 ^ 63
def sv_X (S : cs_S) (np : Nat) : Nat → (Nat → Int × Int)
  | 0 => fun k => ((S.2.1 55 k).toInt, (S.2.1 56 k).toInt)
  | k + 1 => el_c (ly_f S k np (sv_X S np k) np) np np
def sv_o (S : cs_S) (np : Nat) : Nat → (Nat → Int64)
  | 0 => S.2.1 48
  | k + 1 => wv (sv_o S np k) (fun p => (wo (sv_X S np (k + 1)) p).1) k np
def sv_u (S : cs_S) (np : Nat) : Nat → (Nat → Int64)
  | 0 => S.2.1 49
  | k + 1 => wv (sv_u S np k) (fun p => (wo (sv_X S np (k + 1)) p).2) k np
def sv_b (S : cs_S) (f g : Nat → Int64) : cs_S := cs_J (cs_J S 48 f) 49 g
def sv_S (S : cs_S) (np k : Nat) : cs_S := mX (sv_b S (sv_o S np k) (sv_u S np k)) (sv_X S np k)
theorem sv_0 (S : cs_S) (np : Nat) : sv_S S np 0 = S := by
  show mX (cs_J (cs_J S 48 (S.2.1 48)) 49 ((cs_J S 48 (S.2.1 48)).2.1 49)) _ = S
  rw [cs_Jid, cs_Jid]
  exact mX_own S
theorem sv_48 (S : cs_S) (f g f' : Nat → Int64) (X : Nat → Int × Int) : cs_J (mX (sv_b S f g) X) 48 f' = mX (sv_b S f' g) X := by
  unfold mX sv_b cs_J
  refine congrArg (fun z => (S.1, z, S.2.2)) ?_
  funext a
  unfold va_up
  by_cases h1 : a = 48
  · subst h1; simp
  · simp [h1]
theorem sv_49 (S : cs_S) (f g g' : Nat → Int64) (X : Nat → Int × Int) : cs_J (mX (sv_b S f g) X) 49 g' = mX (sv_b S f g') X := by
  unfold mX sv_b cs_J
  refine congrArg (fun z => (S.1, z, S.2.2)) ?_
  funext a
  unfold va_up
  by_cases h1 : a = 49
  · subst h1; simp
  · simp [h1]
def cp_f (f g : Nat → Int64) : Nat → (Nat → Int64)
  | 0 => f
  | y + 1 => vp_updL (cp_f f g y) y (g y)
def me_A (S : cs_S) (np nf : Nat) : cs_S := cs_F (cs_F (cs_F (sv_S S np 4) 13 1) 17 (nI np)) 18 (nI nf)
def me_B (S : cs_S) (np nf : Nat) : cs_S := cs_J (me_A S np nf) 51 (cp_f (S.2.1 51) (S.2.1 46) 10)
def me_C (S : cs_S) (np nf : Nat) : cs_S := cs_J (me_B S np nf) 52 (cl_f (S.2.1 52) 160)
def me_S (S : cs_S) (np nf : Nat) : cs_S := cs_I (me_C S np nf) 50 (nb_w (me_C S np nf) np nf 4)
abbrev svO (S : cs_S) (np : Nat) : Prop := ∀ k, k < 4 → (∀ c, c < np → elP (el_c (ly_f S k np (sv_X S np k) np) np c) c ∧ ∀ i, i < np → elO (el_i (el_c (ly_f S k np (sv_X S np k) np) np c) c i) c i) ∧ ∀ p, p < np → woO (sv_X S np (k + 1)) p
theorem lp_Mo_so1 (C S : cs_S) (np : Nat) (hn : S.2.2 0 = nI np) (h5 : np ≤ 5) (p : Nat) (hp : p < 5) (Z : am_E) (K : al_n (fun k => en_c S np p k) 4 = true → AW (am_Mof y_Mo_solve) 4 0 0 36 [(1, .int (nI p)), (0, .ref 36)] [] (cs_w C ++ ms_w S) 0 0 Z) (R : ¬ al_n (fun k => en_c S np p k) 4 = true → Z = am_Z (some (.int (nI (1 + p)))) (cs_w C ++ ms_w S) 0 0) : ∀ (n k : Nat) (hk0 : True), k + n = 4 → al_n (fun k => en_c S np p k) k = true → AW (am_Mof y_Mo_solve) 4 0 0 12 [(2, .int (nI k)), (1, .int (nI p)), (0, .ref 36)] [] (cs_w C ++ ms_w S) 0 0 Z := by
  intro n
  induction n with
  | zero =>
    intro k _ hk hA
    obtain rfl : k = 4 := by omega
    refine aw_iload_n d_Mo_solve_12 rfl ?_
    refine aw_iconst (v := nI 4) d_Mo_solve_13 (by decide) ?_
    refine aw_icmp_ge (tgt := 36) d_Mo_solve_14 (by decide) (fun h14 => ?_) (fun h14 => absurd (nI_le (Nat.le_refl _) (by omega)) h14)
    exact aw_pick (lv' := [(1, .int (nI p)), (0, .ref 36)]) ⟨rfl, rfl, trivial⟩ (K hA)
  | succ n ih =>
    intro k _ hk hA
    refine aw_iload_n d_Mo_solve_12 rfl ?_
    refine aw_iconst (v := nI 4) d_Mo_solve_13 (by decide) ?_
    refine aw_icmp_ge (tgt := 36) d_Mo_solve_14 (by decide) (fun h14 => absurd h14 (nI_ge (by omega) (by omega))) (fun h14 => ?_)
    refine aw_aload_n d_Mo_solve_17 rfl ?_
    refine aw_iload_n d_Mo_solve_18 rfl ?_
    refine aw_iload_n d_Mo_solve_19 rfl ?_
    refine aw_cV1 d_Mo_solve_20 (c_Mo_ends C S np hn h5 p k hp (by omega)) mk_Mo_ends is_Mo_ends ln_Mo_130 rfl rfl rfl rfl (Nat.le_of_ble_eq_true rfl) (Nat.le_of_ble_eq_true rfl) (Nat.le_of_ble_eq_true rfl) (Nat.le_of_ble_eq_true rfl) ?_
    refine aw_if_ne (tgt := 30) d_Mo_solve_23 (by decide) (fun h23 => ?_) (fun h23 => ?_)
    · refine aw_iinc d_Mo_solve_30 rfl (nI_1 _) (Nat.le_of_ble_eq_true rfl) ?_
      refine aw_goto (tgt := 12) d_Mo_solve_33 (by decide) ?_
      have hA2 : al_n (fun k => en_c S np p k) (k + 1) = true := by rw [al_n_iff] at hA ⊢; intro t ht; rcases Nat.lt_or_ge t k with h | h; exact hA t h; obtain rfl : t = k := (by omega); exact bI_n h23
      exact aw_eql rfl (ih (k + 1) trivial (by omega) hA2)
    · refine aw_iconst (v := nI 1) d_Mo_solve_26 (by decide) ?_
      refine aw_iload_n d_Mo_solve_27 rfl ?_
      refine aw_iadd d_Mo_solve_28 ?_
      try simp only [pk_mul, nI_add]
      have hR := R (fun e => absurd ((al_n_iff _ 4).mp e k (by omega)) ((bI_0 _).mp h23))
      rw [hR]
      exact aw_iretE d_Mo_solve_29 rfl rfl rfl rfl rfl
theorem lp_Mo_so2 (C S : cs_S) (np : Nat) (hn : S.2.2 0 = nI np) (h5 : np ≤ 5) (Z : am_E) (r : Option Nat) (K : r = none → AW (am_Mof y_Mo_solve) 4 0 0 42 [(0, .ref 36)] [] (cs_w C ++ ms_w S) 0 0 Z) (R : ∀ p, r = some p → Z = am_Z (some (.int (nI (1 + p)))) (cs_w C ++ ms_w S) 0 0) : ∀ (n p : Nat) (g : List (Nat × Value)), p + n = np → so_f S np n p = r → AW (am_Mof y_Mo_solve) 4 0 0 2 ([(1, .int (nI p)), (0, .ref 36)] ++ g) [] (cs_w C ++ ms_w S) 0 0 Z := by
  intro n
  induction n with
  | zero =>
    intro p g hp hs
    obtain rfl : np = p := by omega
    refine aw_sub (lv' := [(1, .int (nI np)), (0, .ref 36)]) (by simp) ?_
    refine aw_iload_n d_Mo_solve_2 rfl ?_
    refine aw_aload_n d_Mo_solve_3 rfl ?_
    refine aw_get d_Mo_solve_4 fl_Mo_72 rfl rfl ?_
    refine aw_eqs (congrArg (fun z => Value.int z :: _) hn) ?_
    refine aw_icmp_ge (tgt := 42) d_Mo_solve_7 (by decide) (fun h7 => ?_) (fun h7 => absurd (nI_le (Nat.le_refl _) (by omega)) h7)
    exact aw_pick (lv' := [(0, .ref 36)]) ⟨rfl, trivial⟩ (K hs.symm)
  | succ n ih =>
    intro p g hp hs
    refine aw_sub (lv' := [(1, .int (nI p)), (0, .ref 36)]) (by simp) ?_
    refine aw_iload_n d_Mo_solve_2 rfl ?_
    refine aw_aload_n d_Mo_solve_3 rfl ?_
    refine aw_get d_Mo_solve_4 fl_Mo_72 rfl rfl ?_
    refine aw_eqs (congrArg (fun z => Value.int z :: _) hn) ?_
    refine aw_icmp_ge (tgt := 42) d_Mo_solve_7 (by decide) (fun h7 => absurd h7 (nI_ge (by omega) (by omega))) (fun h7 => ?_)
    refine aw_iconst (v := nI 0) d_Mo_solve_10 (by decide) ?_
    refine aw_istore_n d_Mo_solve_11 (Nat.le_of_ble_eq_true rfl) ?_
    refine aw_pick (lv' := [(2, .int (nI 0)), (1, .int (nI p)), (0, .ref 36)]) ⟨rfl, rfl, rfl, trivial⟩ ?_
    refine lp_Mo_so1 C S np hn h5 p (by omega) Z (fun hA => ?_) (fun hA => R p (hs.symm.trans (if_neg hA))) 4 0 trivial rfl rfl
    refine aw_iinc d_Mo_solve_36 rfl (nI_1 _) (Nat.le_of_ble_eq_true rfl) ?_
    refine aw_goto (tgt := 2) d_Mo_solve_39 (by decide) ?_
    refine aw_pick (lv' := [(1, .int (nI (p + 1))), (0, .ref 36)]) ⟨rfl, rfl, trivial⟩ ?_
    exact ih (p + 1) [] (by omega) ((if_pos hA).symm.trans hs)
theorem lp_Mo_so3 (C S : cs_S) (np : Nat) (hn : S.2.2 0 = nI np) (h5 : np ≤ 5) (f g : Nat → Int64) (X : Nat → Int × Int) (k : Nat) (hk : k < 4) (hO : ∀ p, p < np → woO X p) (Z : am_E) (K : AW (am_Mof y_Mo_solve) 4 0 0 201 [(1, .int (nI k)), (0, .ref 36)] [] (cs_w C ++ ms_w (mX (sv_b S (wv f (fun p => (wo X p).1) k np) (wv g (fun p => (wo X p).2) k np)) X)) 0 0 Z) : ∀ (n p : Nat) (e : List (Nat × Value)), p + n = np → AW (am_Mof y_Mo_solve) 4 0 0 60 ([(2, .int (nI p)), (1, .int (nI k)), (0, .ref 36)] ++ e) [] (cs_w C ++ ms_w (mX (sv_b S (wv f (fun p => (wo X p).1) k p) (wv g (fun p => (wo X p).2) k p)) X)) 0 0 Z := by
  intro n
  induction n with
  | zero =>
    intro p e hp
    obtain rfl : np = p := by omega
    refine aw_sub (lv' := [(2, .int (nI np)), (1, .int (nI k)), (0, .ref 36)]) (by simp) ?_
    refine aw_iload_n d_Mo_solve_60 rfl ?_
    refine aw_aload_n d_Mo_solve_61 rfl ?_
    refine aw_get d_Mo_solve_62 fl_Mo_72 rfl rfl ?_
    refine aw_eqs (congrArg (fun z => Value.int z :: _) hn) ?_
    refine aw_icmp_ge (tgt := 201) d_Mo_solve_65 (by decide) (fun h65 => ?_) (fun h65 => absurd (nI_le (Nat.le_refl _) (by omega)) h65)
    exact aw_pick (lv' := [(1, .int (nI k)), (0, .ref 36)]) ⟨rfl, rfl, trivial⟩ K
  | succ n ih =>
    intro p e hp
    refine aw_sub (lv' := [(2, .int (nI p)), (1, .int (nI k)), (0, .ref 36)]) (by simp) ?_
    have hw := hO p (by omega)
    refine aw_iload_n d_Mo_solve_60 rfl ?_
    refine aw_aload_n d_Mo_solve_61 rfl ?_
    refine aw_get d_Mo_solve_62 fl_Mo_72 rfl rfl ?_
    refine aw_eqs (congrArg (fun z => Value.int z :: _) hn) ?_
    refine aw_icmp_ge (tgt := 201) d_Mo_solve_65 (by decide) (fun h65 => absurd h65 (nI_ge (by omega) (by omega))) (fun h65 => ?_)
    refine aw_aload_n d_Mo_solve_68 rfl ?_
    refine aw_get d_Mo_solve_69 fl_Mo_66 rfl rfl ?_
    refine aw_bipush (v := nI 6) d_Mo_solve_72 (by decide) ?_
    refine aw_iload_n d_Mo_solve_74 rfl ?_
    refine aw_imul d_Mo_solve_75 ?_
    try simp only [pk_mul, nI_add]
    refine aw_iconst (v := nI 5) d_Mo_solve_76 (by decide) ?_
    refine aw_iadd d_Mo_solve_77 ?_
    try simp only [pk_mul, nI_add]
    refine aw_laldN d_Mo_solve_78 rfl (by omega) (Nat.le_of_ble_eq_true rfl) ?_
    refine aw_aload_n d_Mo_solve_79 rfl ?_
    refine aw_get d_Mo_solve_80 fl_Mo_69 rfl rfl ?_
    refine aw_bipush (v := nI 6) d_Mo_solve_83 (by decide) ?_
    refine aw_iload_n d_Mo_solve_85 rfl ?_
    refine aw_imul d_Mo_solve_86 ?_
    try simp only [pk_mul, nI_add]
    refine aw_iload_n d_Mo_solve_87 rfl ?_
    refine aw_iadd d_Mo_solve_88 ?_
    try simp only [pk_mul, nI_add]
    refine aw_laldN d_Mo_solve_89 rfl (by omega) (Nat.le_of_ble_eq_true rfl) ?_
    refine aw_lmul d_Mo_solve_90 ?_
    refine aw_eqs (st' := [.long (zL ((X (6 * p + 5)).1 * (X (6 * p + p)).2))]) (by rw [← zL_mul]; rfl) ?_
    refine aw_lstore_n d_Mo_solve_91 (Nat.le_of_ble_eq_true rfl) ?_
    refine aw_aload_n d_Mo_solve_92 rfl ?_
    refine aw_get d_Mo_solve_93 fl_Mo_69 rfl rfl ?_
    refine aw_bipush (v := nI 6) d_Mo_solve_96 (by decide) ?_
    refine aw_iload_n d_Mo_solve_98 rfl ?_
    refine aw_imul d_Mo_solve_99 ?_
    try simp only [pk_mul, nI_add]
    refine aw_iconst (v := nI 5) d_Mo_solve_100 (by decide) ?_
    refine aw_iadd d_Mo_solve_101 ?_
    try simp only [pk_mul, nI_add]
    refine aw_laldN d_Mo_solve_102 rfl (by omega) (Nat.le_of_ble_eq_true rfl) ?_
    refine aw_aload_n d_Mo_solve_103 rfl ?_
    refine aw_get d_Mo_solve_104 fl_Mo_66 rfl rfl ?_
    refine aw_bipush (v := nI 6) d_Mo_solve_107 (by decide) ?_
    refine aw_iload_n d_Mo_solve_109 rfl ?_
    refine aw_imul d_Mo_solve_110 ?_
    try simp only [pk_mul, nI_add]
    refine aw_iload_n d_Mo_solve_111 rfl ?_
    refine aw_iadd d_Mo_solve_112 ?_
    try simp only [pk_mul, nI_add]
    refine aw_laldN d_Mo_solve_113 rfl (by omega) (Nat.le_of_ble_eq_true rfl) ?_
    refine aw_lmul d_Mo_solve_114 ?_
    refine aw_eqs (st' := [.long (zL ((X (6 * p + 5)).2 * (X (6 * p + p)).1))]) (by rw [← zL_mul]; rfl) ?_
    refine aw_lstore d_Mo_solve_115 (Nat.le_of_ble_eq_true rfl) ?_
    refine aw_lload_n d_Mo_solve_117 rfl ?_
    refine aw_lload d_Mo_solve_118 rfl ?_
    refine aw_lconst (v := lN 0) d_Mo_solve_120 rfl ?_
    refine aw_lc_ge (tgt := 131) d_Mo_solve_121 d_Mo_solve_122 (by decide) (fun h122 => ?_) (fun h122 => absurd ((zL_le zR_0 ⟨by omega, hw.2.2⟩).mpr (Int.le_of_lt hw.2.1)) h122)
    refine aw_lload d_Mo_solve_131 rfl ?_
    refine aw_cS1 d_Mo_solve_133 (c_Mo_common _ ((X (6 * p + 5)).1 * (X (6 * p + p)).2) ((X (6 * p + 5)).2 * (X (6 * p + p)).1) hw.1 (Int.le_of_lt hw.2.1) hw.2.2) mk_Mo_common is_Mo_common ln_Mo_114 rfl rfl (Nat.le_of_ble_eq_true rfl) (Nat.le_of_ble_eq_true rfl) (Nat.le_of_ble_eq_true rfl) (Nat.le_of_ble_eq_true rfl) ?_
    refine aw_lstore d_Mo_solve_136 (Nat.le_of_ble_eq_true rfl) ?_
    refine aw_aload_n d_Mo_solve_138 rfl ?_
    refine aw_get d_Mo_solve_139 fl_Mo_45 rfl rfl ?_
    refine aw_iconst (v := nI 4) d_Mo_solve_142 (by decide) ?_
    refine aw_iload_n d_Mo_solve_143 rfl ?_
    refine aw_imul d_Mo_solve_144 ?_
    try simp only [pk_mul, nI_add]
    refine aw_iload_n d_Mo_solve_145 rfl ?_
    refine aw_iadd d_Mo_solve_146 ?_
    try simp only [pk_mul, nI_add]
    refine aw_lload d_Mo_solve_147 rfl ?_
    refine aw_lconst (v := lN 0) d_Mo_solve_149 rfl ?_
    refine aw_lc_ge (tgt := 162) d_Mo_solve_150 d_Mo_solve_151 (by decide) (fun h151 => ?_) (fun h151 => absurd ((zL_le zR_0 ⟨by omega, hw.2.2⟩).mpr (Int.le_of_lt hw.2.1)) h151)
    refine aw_lload_n d_Mo_solve_162 rfl ?_
    refine aw_lload d_Mo_solve_163 rfl ?_
    refine aw_ldiv d_Mo_solve_165 (rd_ne hw.2.1 hw.2.2) ?_
    rw [rd_t1 hw.1 hw.2.1 hw.2.2]
    refine aw_lastN d_Mo_solve_166 rfl (by omega) (Nat.le_of_ble_eq_true rfl) (show _ = cs_w C ++ ms_w (mX (sv_b S (wv f (fun p => (wo X p).1) k (p + 1)) (wv g (fun p => (wo X p).2) k p)) X) from (ms_s48 _ _ _).trans (by rw [sv_48]; rfl)) ?_
    refine aw_aload_n d_Mo_solve_167 rfl ?_
    refine aw_get d_Mo_solve_168 fl_Mo_48 rfl rfl ?_
    refine aw_iconst (v := nI 4) d_Mo_solve_171 (by decide) ?_
    refine aw_iload_n d_Mo_solve_172 rfl ?_
    refine aw_imul d_Mo_solve_173 ?_
    try simp only [pk_mul, nI_add]
    refine aw_iload_n d_Mo_solve_174 rfl ?_
    refine aw_iadd d_Mo_solve_175 ?_
    try simp only [pk_mul, nI_add]
    refine aw_lload d_Mo_solve_176 rfl ?_
    refine aw_lconst (v := lN 0) d_Mo_solve_178 rfl ?_
    refine aw_lc_ge (tgt := 189) d_Mo_solve_179 d_Mo_solve_180 (by decide) (fun h180 => ?_) (fun h180 => absurd ((zL_le zR_0 ⟨by omega, hw.2.2⟩).mpr (Int.le_of_lt hw.2.1)) h180)
    refine aw_lload d_Mo_solve_189 rfl ?_
    refine aw_lload d_Mo_solve_191 rfl ?_
    refine aw_ldiv d_Mo_solve_193 (rd_ne hw.2.1 hw.2.2) ?_
    rw [rd_t2 hw.2.1 hw.2.2]
    refine aw_lastN d_Mo_solve_194 rfl (by omega) (Nat.le_of_ble_eq_true rfl) (show _ = cs_w C ++ ms_w (mX (sv_b S (wv f (fun p => (wo X p).1) k (p + 1)) (wv g (fun p => (wo X p).2) k (p + 1))) X) from (ms_s49 _ _ _).trans (by rw [sv_49]; rfl)) ?_
    refine aw_iinc d_Mo_solve_195 rfl (nI_1 _) (Nat.le_of_ble_eq_true rfl) ?_
    refine aw_goto (tgt := 60) d_Mo_solve_198 (by decide) ?_
    refine aw_pick (lv' := [(2, .int (nI (p + 1))), (1, .int (nI k)), (0, .ref 36)]) ⟨rfl, rfl, rfl, trivial⟩ ?_
    exact ih (p + 1) [] (by omega)
theorem lp_Mo_so4 (C S : cs_S) (np : Nat) (hn : S.2.2 0 = nI np) (h5 : np ≤ 5) (hO : svO S np) (Z : am_E) (K : AW (am_Mof y_Mo_solve) 4 0 0 207 [(0, .ref 36)] [] (cs_w C ++ ms_w (sv_S S np 4)) 0 0 Z) : ∀ (n k : Nat) (e : List (Nat × Value)), k + n = 4 → AW (am_Mof y_Mo_solve) 4 0 0 44 ([(1, .int (nI k)), (0, .ref 36)] ++ e) [] (cs_w C ++ ms_w (sv_S S np k)) 0 0 Z := by
  intro n
  induction n with
  | zero =>
    intro k e hk
    obtain rfl : k = 4 := by omega
    refine aw_sub (lv' := [(1, .int (nI 4)), (0, .ref 36)]) (by simp) ?_
    refine aw_iload_n d_Mo_solve_44 rfl ?_
    refine aw_iconst (v := nI 4) d_Mo_solve_45 (by decide) ?_
    refine aw_icmp_ge (tgt := 207) d_Mo_solve_46 (by decide) (fun h46 => ?_) (fun h46 => absurd (nI_le (Nat.le_refl _) (by omega)) h46)
    exact aw_pick (lv' := [(0, .ref 36)]) ⟨rfl, trivial⟩ K
  | succ n ih =>
    intro k e hk
    refine aw_sub (lv' := [(1, .int (nI k)), (0, .ref 36)]) (by simp) ?_
    refine aw_iload_n d_Mo_solve_44 rfl ?_
    refine aw_iconst (v := nI 4) d_Mo_solve_45 (by decide) ?_
    refine aw_icmp_ge (tgt := 207) d_Mo_solve_46 (by decide) (fun h46 => absurd h46 (nI_ge (by omega) (by omega))) (fun h46 => ?_)
    refine aw_aload_n d_Mo_solve_49 rfl ?_
    refine aw_iload_n d_Mo_solve_50 rfl ?_
    refine aw_cV0 d_Mo_solve_51 (c_Mo_layOut C (sv_b S (sv_o S np k) (sv_u S np k)) (sv_X S np k) np hn h5 k (by omega)) mk_Mo_layOut is_Mo_layOut ln_Mo_134 rfl rfl rfl rfl (Nat.le_of_ble_eq_true rfl) (Nat.le_of_ble_eq_true rfl) (Nat.le_of_ble_eq_true rfl) (Nat.le_of_ble_eq_true rfl) ?_
    rw [ly_f_eq (S := S) (S' := (sv_b S (sv_o S np k) (sv_u S np k))) rfl]
    refine aw_aload_n d_Mo_solve_54 rfl ?_
    refine aw_cV0 d_Mo_solve_55 (c_Mo_eliminate C (sv_b S (sv_o S np k) (sv_u S np k)) (ly_f S k np (sv_X S np k) np) np hn h5 (hO k (by omega)).1) mk_Mo_eliminate is_Mo_eliminate ln_Mo_138 rfl rfl rfl rfl (Nat.le_of_ble_eq_true rfl) (Nat.le_of_ble_eq_true rfl) (Nat.le_of_ble_eq_true rfl) (Nat.le_of_ble_eq_true rfl) ?_
    refine aw_iconst (v := nI 0) d_Mo_solve_58 (by decide) ?_
    refine aw_istore_n d_Mo_solve_59 (Nat.le_of_ble_eq_true rfl) ?_
    refine aw_pick (lv' := [(2, .int (nI 0)), (1, .int (nI k)), (0, .ref 36)]) ⟨rfl, rfl, rfl, trivial⟩ ?_
    refine lp_Mo_so3 C S np hn h5 (sv_o S np k) (sv_u S np k) (sv_X S np (k + 1)) k (by omega) (hO k (by omega)).2 _ ?_ np 0 [] (by omega)
    refine aw_iinc d_Mo_solve_201 rfl (nI_1 _) (Nat.le_of_ble_eq_true rfl) ?_
    refine aw_goto (tgt := 44) d_Mo_solve_204 (by decide) ?_
    refine aw_pick (lv' := [(1, .int (nI (k + 1))), (0, .ref 36)]) ⟨rfl, rfl, trivial⟩ ?_
    exact ih (k + 1) [] (by omega)
theorem lp_Mo_so5 (C T : cs_S) (h : Nat → Int64) (Z : am_E) (K : AW (am_Mof y_Mo_solve) 4 0 0 254 [(0, .ref 36)] [] (cs_w C ++ ms_w (cs_J T 51 (cp_f h (T.2.1 46) 10))) 0 0 Z) : ∀ (n y : Nat), y + n = 10 → AW (am_Mof y_Mo_solve) 4 0 0 230 [(1, .int (nI y)), (0, .ref 36)] [] (cs_w C ++ ms_w (cs_J T 51 (cp_f h (T.2.1 46) y))) 0 0 Z := by
  intro n
  induction n with
  | zero =>
    intro y hy
    obtain rfl : y = 10 := by omega
    refine aw_iload_n d_Mo_solve_230 rfl ?_
    refine aw_bipush (v := nI 10) d_Mo_solve_231 (by decide) ?_
    refine aw_icmp_ge (tgt := 254) d_Mo_solve_233 (by decide) (fun h233 => ?_) (fun h233 => absurd (nI_le (Nat.le_refl _) (by omega)) h233)
    exact aw_pick (lv' := [(0, .ref 36)]) ⟨rfl, trivial⟩ K
  | succ n ih =>
    intro y hy
    refine aw_iload_n d_Mo_solve_230 rfl ?_
    refine aw_bipush (v := nI 10) d_Mo_solve_231 (by decide) ?_
    refine aw_icmp_ge (tgt := 254) d_Mo_solve_233 (by decide) (fun h233 => absurd h233 (nI_ge (by omega) (by omega))) (fun h233 => ?_)
    refine aw_aload_n d_Mo_solve_236 rfl ?_
    refine aw_get d_Mo_solve_237 fl_Mo_54 rfl rfl ?_
    refine aw_iload_n d_Mo_solve_240 rfl ?_
    refine aw_aload_n d_Mo_solve_241 rfl ?_
    refine aw_get d_Mo_solve_242 fl_Mo_39 rfl rfl ?_
    refine aw_iload_n d_Mo_solve_245 rfl ?_
    refine aw_laldN d_Mo_solve_246 rfl (by omega) (Nat.le_of_ble_eq_true rfl) ?_
    refine aw_lastN d_Mo_solve_247 rfl (by omega) (Nat.le_of_ble_eq_true rfl) (show _ = cs_w C ++ ms_w (cs_J T 51 (cp_f h (T.2.1 46) (y + 1))) from (ms_s51 _ _ _).trans (by rw [cs_JJ]; rfl)) ?_
    refine aw_iinc d_Mo_solve_248 rfl (nI_1 _) (Nat.le_of_ble_eq_true rfl) ?_
    refine aw_goto (tgt := 230) d_Mo_solve_251 (by decide) ?_
    exact aw_eql rfl (ih (y + 1) (by omega))
theorem lp_Mo_so6 (C T : cs_S) (h : Nat → Int64) (Z : am_E) (K : AW (am_Mof y_Mo_solve) 4 0 0 276 [(0, .ref 36)] [] (cs_w C ++ ms_w (cs_J T 52 (cl_f h 160))) 0 0 Z) : ∀ (n y : Nat), y + n = 160 → AW (am_Mof y_Mo_solve) 4 0 0 256 [(1, .int (nI y)), (0, .ref 36)] [] (cs_w C ++ ms_w (cs_J T 52 (cl_f h y))) 0 0 Z := by
  intro n
  induction n with
  | zero =>
    intro y hy
    obtain rfl : y = 160 := by omega
    refine aw_iload_n d_Mo_solve_256 rfl ?_
    refine aw_sipush (v := nI 160) d_Mo_solve_257 (by decide) ?_
    refine aw_icmp_ge (tgt := 276) d_Mo_solve_260 (by decide) (fun h260 => ?_) (fun h260 => absurd (nI_le (Nat.le_refl _) (by omega)) h260)
    exact aw_pick (lv' := [(0, .ref 36)]) ⟨rfl, trivial⟩ K
  | succ n ih =>
    intro y hy
    refine aw_iload_n d_Mo_solve_256 rfl ?_
    refine aw_sipush (v := nI 160) d_Mo_solve_257 (by decide) ?_
    refine aw_icmp_ge (tgt := 276) d_Mo_solve_260 (by decide) (fun h260 => absurd h260 (nI_ge (by omega) (by omega))) (fun h260 => ?_)
    refine aw_aload_n d_Mo_solve_263 rfl ?_
    refine aw_get d_Mo_solve_264 fl_Mo_57 rfl rfl ?_
    refine aw_iload_n d_Mo_solve_267 rfl ?_
    refine aw_lconst (v := lN 0) d_Mo_solve_268 rfl ?_
    refine aw_lastN d_Mo_solve_269 rfl (by omega) (Nat.le_of_ble_eq_true rfl) (show _ = cs_w C ++ ms_w (cs_J T 52 (cl_f h (y + 1))) from (ms_s52 _ _ _).trans (by rw [cs_JJ]; rfl)) ?_
    refine aw_iinc d_Mo_solve_270 rfl (nI_1 _) (Nat.le_of_ble_eq_true rfl) ?_
    refine aw_goto (tgt := 256) d_Mo_solve_273 (by decide) ?_
    exact aw_eql rfl (ih (y + 1) (by omega))
theorem c_Mo_solve_no (C S : cs_S) (np : Nat) (hn : S.2.2 0 = nI np) (h5 : np ≤ 5) (p : Nat) (hs : so_f S np np 0 = some p) : am_ct y_Mo_solve 4 [.ref 36] (cs_w C ++ ms_w S) (some (.int (nI (1 + p)))) (cs_w C ++ ms_w S) 0 0 := by
  refine am_ct.of rfl (Nat.le_of_ble_eq_true rfl) ?_
  refine aw_iconst (v := nI 0) d_Mo_solve_0 (by decide) ?_
  refine aw_istore_n d_Mo_solve_1 (Nat.le_of_ble_eq_true rfl) ?_
  refine aw_pick (lv' := [(1, .int (nI 0)), (0, .ref 36)]) ⟨rfl, rfl, trivial⟩ ?_
  exact lp_Mo_so2 C S np hn h5 _ (some p) (fun e => by cases e) (fun q e => by cases e; rfl) np 0 [] (by omega) hs
theorem c_Mo_solve_ok (C S : cs_S) (np : Nat) (hn : S.2.2 0 = nI np) (h5 : np ≤ 5) (nf : Nat) (hnf : S.2.2 5 = nI nf) (h60 : nf ≤ 60) (hs : so_f S np np 0 = none) (hO : svO S np) : am_ct y_Mo_solve 4 [.ref 36] (cs_w C ++ ms_w S) (some (.int (nI 0))) (cs_w C ++ ms_w (me_S S np nf)) 0 0 := by
  refine am_ct.of rfl (Nat.le_of_ble_eq_true rfl) ?_
  refine aw_iconst (v := nI 0) d_Mo_solve_0 (by decide) ?_
  refine aw_istore_n d_Mo_solve_1 (Nat.le_of_ble_eq_true rfl) ?_
  refine aw_pick (lv' := [(1, .int (nI 0)), (0, .ref 36)]) ⟨rfl, rfl, trivial⟩ ?_
  refine lp_Mo_so2 C S np hn h5 _ none (fun _ => ?_) (fun q e => by cases e) np 0 [] (by omega) hs
  refine aw_iconst (v := nI 0) d_Mo_solve_42 (by decide) ?_
  refine aw_istore_n d_Mo_solve_43 (Nat.le_of_ble_eq_true rfl) ?_
  refine aw_eqw (w' := cs_w C ++ ms_w (sv_S S np 0)) (by rw [sv_0]) ?_
  refine aw_pick (lv' := [(1, .int (nI 0)), (0, .ref 36)]) ⟨rfl, rfl, trivial⟩ ?_
  refine lp_Mo_so4 C S np hn h5 hO _ ?_ 4 0 [] rfl
  refine aw_aload_n d_Mo_solve_207 rfl ?_
  refine aw_iconst (v := nI 1) d_Mo_solve_208 (by decide) ?_
  refine aw_putW d_Mo_solve_209 fp_Mo_141 rfl (Nat.le_of_ble_eq_true rfl) (fun _ _ => ⟨rfl, rfl⟩) (ms_f36_13 _ _ _) ?_
  refine aw_aload_n d_Mo_solve_212 rfl ?_
  refine aw_aload_n d_Mo_solve_213 rfl ?_
  refine aw_get d_Mo_solve_214 fl_Mo_72 rfl rfl ?_
  refine aw_eqs (congrArg (fun z => Value.int z :: _) hn) ?_
  refine aw_putW d_Mo_solve_217 fp_Mo_145 rfl (Nat.le_of_ble_eq_true rfl) (fun _ _ => ⟨rfl, rfl⟩) (ms_f36_17 _ _ _) ?_
  refine aw_aload_n d_Mo_solve_220 rfl ?_
  refine aw_aload_n d_Mo_solve_221 rfl ?_
  refine aw_get d_Mo_solve_222 fl_Mo_97 rfl rfl ?_
  refine aw_eqs (congrArg (fun z => Value.int z :: _) hnf) ?_
  refine aw_putW d_Mo_solve_225 fp_Mo_148 rfl (Nat.le_of_ble_eq_true rfl) (fun _ _ => ⟨rfl, rfl⟩) (show _ = cs_w C ++ ms_w (me_A S np nf) from ms_f36_18 _ _ _) ?_
  refine aw_iconst (v := nI 0) d_Mo_solve_228 (by decide) ?_
  refine aw_istore_n d_Mo_solve_229 (Nat.le_of_ble_eq_true rfl) ?_
  refine aw_eqw (w' := cs_w C ++ ms_w (cs_J (me_A S np nf) 51 (cp_f (S.2.1 51) ((me_A S np nf).2.1 46) 0))) (by show _ = cs_w C ++ ms_w (cs_J (me_A S np nf) 51 ((me_A S np nf).2.1 51)); rw [cs_Jid]) ?_
  refine aw_pick (lv' := [(1, .int (nI 0)), (0, .ref 36)]) ⟨rfl, rfl, trivial⟩ ?_
  refine lp_Mo_so5 C (me_A S np nf) (S.2.1 51) _ ?_ 10 0 rfl
  refine aw_iconst (v := nI 0) d_Mo_solve_254 (by decide) ?_
  refine aw_istore_n d_Mo_solve_255 (Nat.le_of_ble_eq_true rfl) ?_
  refine aw_eqw (w' := cs_w C ++ ms_w (cs_J (me_B S np nf) 52 (cl_f (S.2.1 52) 0))) (by show _ = cs_w C ++ ms_w (cs_J (me_B S np nf) 52 ((me_B S np nf).2.1 52)); rw [cs_Jid]; rfl) ?_
  refine aw_pick (lv' := [(1, .int (nI 0)), (0, .ref 36)]) ⟨rfl, rfl, trivial⟩ ?_
  refine lp_Mo_so6 C (me_B S np nf) (S.2.1 52) _ ?_ 160 0 rfl
  refine aw_aload_n d_Mo_solve_276 rfl ?_
  refine aw_cV0 d_Mo_solve_277 (c_Mo_noteBare C (me_C S np nf) np hn h5 nf hnf h60) mk_Mo_noteBare is_Mo_noteBare ln_Mo_151 rfl rfl rfl rfl (Nat.le_of_ble_eq_true rfl) (Nat.le_of_ble_eq_true rfl) (Nat.le_of_ble_eq_true rfl) (Nat.le_of_ble_eq_true rfl) ?_
  refine aw_iconst (v := nI 0) d_Mo_solve_280 (by decide) ?_
  exact aw_iretE d_Mo_solve_281 rfl rfl rfl rfl rfl
