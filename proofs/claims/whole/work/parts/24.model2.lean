/-! RateChainsModel: what is reached; ends, noteBare -/
abbrev rb_c (x : Int32) (p : Nat) : Prop := x >>> (nI p &&& 31) &&& nI 1 = nI 1
abbrev rq_c (S : cs_S) (k p q : Nat) (x : Int32) : Prop := rb_c x p ∧ S.1 38 (4 * p + k) = 0 ∧ 0 < S.1 37 (5 * p + q)
def rq_f (S : cs_S) (k p : Nat) (x : Int32) : Nat → Int32
  | 0 => x
  | q + 1 => rq_f S k p x q ||| (if rq_c S k p q (rq_f S k p x q) then nI 1 <<< (nI q &&& 31) else nI 0)
def rp_f (S : cs_S) (n k : Nat) (x : Int32) : Nat → Int32
  | 0 => x
  | p + 1 => rq_f S k p (rp_f S n k x p) n
def rt_f (S : cs_S) (n k : Nat) (x : Int32) : Nat → Int32
  | 0 => x
  | t + 1 => rp_f S n k (rt_f S n k x t) n
abbrev ed_c (S : cs_S) (k : Nat) (x : Int32) (p : Nat) : Prop := rb_c x p ∧ (S.1 38 (4 * p + k) ≠ 0 ∨ sd_f (S.1 37) p 5 = 0 ∨ sd_f (S.1 37) p 5 < nI 10)
abbrev ed_f (S : cs_S) (k : Nat) (x : Int32) (n : Nat) : Bool := ex_n (fun p => decide (ed_c S k x p)) n
abbrev re_x (S : cs_S) (n p k : Nat) : Int32 := rt_f S n k (nI 1 <<< (nI p &&& 31)) 5
def nb_1 (S : cs_S) (k : Nat) : Nat → Int32
  | 0 => nI 0
  | f + 1 => nb_1 S k f ||| (if S.1 42 f = nI k ∧ lN 0 < S.2.1 45 f then nI 1 <<< (S.1 41 f &&& 31) else nI 0)
abbrev bm_c (S : cs_S) (k p : Nat) : Prop := S.1 38 (4 * p + k) = 0 ∧ sd_f (S.1 37) p 5 = 0 ∧ S.1 39 p = 0
def nb_2 (S : cs_S) (k : Nat) (x : Int32) (w : Nat → Int32) : Nat → (Nat → Int32)
  | 0 => w
  | p + 1 => upd (nb_2 S k x w p) (4 * p + k) (bI (bm_c S k p ∧ rb_c x p))
def nb_w (S : cs_S) (n nf : Nat) : Nat → (Nat → Int32)
  | 0 => S.1 50
  | k + 1 => nb_2 S k (rt_f S n k (nb_1 S k nf) 5) (nb_w S n nf k) n
theorem lp_Mo_ends_q (C S : cs_S) (np : Nat) (hn : S.2.2 0 = nI np) (h5 : np ≤ 5) (p0 : Nat) (k p t : Nat) (hk : k < 4) (hp : p < np) (x : Int32) (Z : am_E) (K : AW (am_Mof y_Mo_ends) 1 0 0 105 [(3, .int (rq_f S k p x np)), (5, .int (nI p)), (4, .int (nI t)), (0, .ref 36), (1, .int (nI p0)), (2, .int (nI k))] [] (cs_w C ++ ms_w S) 0 0 Z) : ∀ (n q : Nat) (g : List (Nat × Value)), q + n = np → AW (am_Mof y_Mo_ends) 1 0 0 28 ([(6, .int (nI q)), (3, .int (rq_f S k p x q)), (5, .int (nI p)), (4, .int (nI t)), (0, .ref 36), (1, .int (nI p0)), (2, .int (nI k))] ++ g) [] (cs_w C ++ ms_w S) 0 0 Z := by
  intro n
  induction n with
  | zero =>
    intro q g hq
    obtain rfl : np = q := by omega
    refine aw_sub (lv' := [(6, .int (nI np)), (3, .int (rq_f S k p x np)), (5, .int (nI p)), (4, .int (nI t)), (0, .ref 36), (1, .int (nI p0)), (2, .int (nI k))]) (by simp) ?_
    refine aw_iload d_Mo_ends_28 rfl ?_
    refine aw_aload_n d_Mo_ends_30 rfl ?_
    refine aw_get d_Mo_ends_31 fl_Mo_72 rfl rfl ?_
    refine aw_eqs (congrArg (fun z => Value.int z :: _) hn) ?_
    refine aw_icmp_ge (tgt := 105) d_Mo_ends_34 (by decide) (fun h34 => ?_) (fun h34 => absurd (nI_le (Nat.le_refl _) (by omega)) h34)
    exact aw_pick (lv' := [(3, .int (rq_f S k p x np)), (5, .int (nI p)), (4, .int (nI t)), (0, .ref 36), (1, .int (nI p0)), (2, .int (nI k))]) ⟨rfl, rfl, rfl, rfl, rfl, rfl, trivial⟩ K
  | succ n ih =>
    intro q g hq
    refine aw_sub (lv' := [(6, .int (nI q)), (3, .int (rq_f S k p x q)), (5, .int (nI p)), (4, .int (nI t)), (0, .ref 36), (1, .int (nI p0)), (2, .int (nI k))]) (by simp) ?_
    refine aw_iload d_Mo_ends_28 rfl ?_
    refine aw_aload_n d_Mo_ends_30 rfl ?_
    refine aw_get d_Mo_ends_31 fl_Mo_72 rfl rfl ?_
    refine aw_eqs (congrArg (fun z => Value.int z :: _) hn) ?_
    refine aw_icmp_ge (tgt := 105) d_Mo_ends_34 (by decide) (fun h34 => absurd h34 (nI_ge (by omega) (by omega))) (fun h34 => ?_)
    refine aw_iload_n d_Mo_ends_37 rfl ?_
    refine aw_iload d_Mo_ends_38 rfl ?_
    refine aw_ishr d_Mo_ends_40 ?_
    refine aw_iconst (v := nI 1) d_Mo_ends_41 (by decide) ?_
    refine aw_iand d_Mo_ends_42 ?_
    refine aw_iconst (v := nI 1) d_Mo_ends_43 (by decide) ?_
    refine aw_icmp_ne (tgt := 80) d_Mo_ends_44 (by decide) (fun h44 => ?_) (fun h44 => ?_)
    · refine aw_iconst (v := nI 0) d_Mo_ends_80 (by decide) ?_
      have hg : bI (rq_c S k p q (rq_f S k p x q)) = 0 := bI_f (fun c => h44 c.1)
      refine aw_eqs (st' := [.int (bI (rq_c S k p q (rq_f S k p x q)))]) (by rw [hg]; rfl) ?_
      refine aw_istore d_Mo_ends_81 (Nat.le_of_ble_eq_true rfl) ?_
      refine aw_iload_n d_Mo_ends_83 rfl ?_
      refine aw_iload d_Mo_ends_84 rfl ?_
      refine aw_if_eq (tgt := 96) d_Mo_ends_86 (by decide) (fun h86 => ?_) (fun h86 => ?_)
      · refine aw_iconst (v := nI 0) d_Mo_ends_96 (by decide) ?_
        refine aw_eqs (st' := [.int (if rq_c S k p q (rq_f S k p x q) then nI 1 <<< (nI q &&& 31) else nI 0), .int (rq_f S k p x q)]) (by rw [if_neg ((bI_0 _).mp h86)]) ?_
        refine aw_ior d_Mo_ends_97 ?_
        refine aw_istore_n d_Mo_ends_98 (Nat.le_of_ble_eq_true rfl) ?_
        refine aw_iinc d_Mo_ends_99 rfl (nI_1 _) (Nat.le_of_ble_eq_true rfl) ?_
        refine aw_goto (tgt := 28) d_Mo_ends_102 (by decide) ?_
        refine aw_pick (lv' := [(6, .int (nI (q + 1))), (3, .int (rq_f S k p x (q + 1))), (5, .int (nI p)), (4, .int (nI t)), (0, .ref 36), (1, .int (nI p0)), (2, .int (nI k))]) ⟨rfl, rfl, rfl, rfl, rfl, rfl, rfl, trivial⟩ ?_
        exact ih (q + 1) [] (by omega)
      · refine aw_iconst (v := nI 1) d_Mo_ends_89 (by decide) ?_
        refine aw_iload d_Mo_ends_90 rfl ?_
        refine aw_ishl d_Mo_ends_92 ?_
        refine aw_goto (tgt := 97) d_Mo_ends_93 (by decide) ?_
        refine aw_eqs (st' := [.int (if rq_c S k p q (rq_f S k p x q) then nI 1 <<< (nI q &&& 31) else nI 0), .int (rq_f S k p x q)]) (by rw [if_pos (bI_n h86)]) ?_
        refine aw_ior d_Mo_ends_97 ?_
        refine aw_istore_n d_Mo_ends_98 (Nat.le_of_ble_eq_true rfl) ?_
        refine aw_iinc d_Mo_ends_99 rfl (nI_1 _) (Nat.le_of_ble_eq_true rfl) ?_
        refine aw_goto (tgt := 28) d_Mo_ends_102 (by decide) ?_
        refine aw_pick (lv' := [(6, .int (nI (q + 1))), (3, .int (rq_f S k p x (q + 1))), (5, .int (nI p)), (4, .int (nI t)), (0, .ref 36), (1, .int (nI p0)), (2, .int (nI k))]) ⟨rfl, rfl, rfl, rfl, rfl, rfl, rfl, trivial⟩ ?_
        exact ih (q + 1) [] (by omega)
    · refine aw_aload_n d_Mo_ends_47 rfl ?_
      refine aw_get d_Mo_ends_48 fl_Mo_13 rfl rfl ?_
      refine aw_iconst (v := nI 4) d_Mo_ends_51 (by decide) ?_
      refine aw_iload d_Mo_ends_52 rfl ?_
      refine aw_imul d_Mo_ends_54 ?_
      try simp only [pk_mul, nI_add]
      refine aw_iload_n d_Mo_ends_55 rfl ?_
      refine aw_iadd d_Mo_ends_56 ?_
      try simp only [pk_mul, nI_add]
      refine aw_zaldN d_Mo_ends_57 rfl (by omega) (Nat.le_of_ble_eq_true rfl) ?_
      refine aw_if_ne (tgt := 80) d_Mo_ends_58 (by decide) (fun h58 => ?_) (fun h58 => ?_)
      · refine aw_iconst (v := nI 0) d_Mo_ends_80 (by decide) ?_
        have hg : bI (rq_c S k p q (rq_f S k p x q)) = 0 := bI_f (fun c => h58 c.2.1)
        refine aw_eqs (st' := [.int (bI (rq_c S k p q (rq_f S k p x q)))]) (by rw [hg]; rfl) ?_
        refine aw_istore d_Mo_ends_81 (Nat.le_of_ble_eq_true rfl) ?_
        refine aw_iload_n d_Mo_ends_83 rfl ?_
        refine aw_iload d_Mo_ends_84 rfl ?_
        refine aw_if_eq (tgt := 96) d_Mo_ends_86 (by decide) (fun h86 => ?_) (fun h86 => ?_)
        · refine aw_iconst (v := nI 0) d_Mo_ends_96 (by decide) ?_
          refine aw_eqs (st' := [.int (if rq_c S k p q (rq_f S k p x q) then nI 1 <<< (nI q &&& 31) else nI 0), .int (rq_f S k p x q)]) (by rw [if_neg ((bI_0 _).mp h86)]) ?_
          refine aw_ior d_Mo_ends_97 ?_
          refine aw_istore_n d_Mo_ends_98 (Nat.le_of_ble_eq_true rfl) ?_
          refine aw_iinc d_Mo_ends_99 rfl (nI_1 _) (Nat.le_of_ble_eq_true rfl) ?_
          refine aw_goto (tgt := 28) d_Mo_ends_102 (by decide) ?_
          refine aw_pick (lv' := [(6, .int (nI (q + 1))), (3, .int (rq_f S k p x (q + 1))), (5, .int (nI p)), (4, .int (nI t)), (0, .ref 36), (1, .int (nI p0)), (2, .int (nI k))]) ⟨rfl, rfl, rfl, rfl, rfl, rfl, rfl, trivial⟩ ?_
          exact ih (q + 1) [] (by omega)
        · refine aw_iconst (v := nI 1) d_Mo_ends_89 (by decide) ?_
          refine aw_iload d_Mo_ends_90 rfl ?_
          refine aw_ishl d_Mo_ends_92 ?_
          refine aw_goto (tgt := 97) d_Mo_ends_93 (by decide) ?_
          refine aw_eqs (st' := [.int (if rq_c S k p q (rq_f S k p x q) then nI 1 <<< (nI q &&& 31) else nI 0), .int (rq_f S k p x q)]) (by rw [if_pos (bI_n h86)]) ?_
          refine aw_ior d_Mo_ends_97 ?_
          refine aw_istore_n d_Mo_ends_98 (Nat.le_of_ble_eq_true rfl) ?_
          refine aw_iinc d_Mo_ends_99 rfl (nI_1 _) (Nat.le_of_ble_eq_true rfl) ?_
          refine aw_goto (tgt := 28) d_Mo_ends_102 (by decide) ?_
          refine aw_pick (lv' := [(6, .int (nI (q + 1))), (3, .int (rq_f S k p x (q + 1))), (5, .int (nI p)), (4, .int (nI t)), (0, .ref 36), (1, .int (nI p0)), (2, .int (nI k))]) ⟨rfl, rfl, rfl, rfl, rfl, rfl, rfl, trivial⟩ ?_
          exact ih (q + 1) [] (by omega)
      · refine aw_aload_n d_Mo_ends_61 rfl ?_
        refine aw_get d_Mo_ends_62 fl_Mo_7 rfl rfl ?_
        refine aw_iconst (v := nI 5) d_Mo_ends_65 (by decide) ?_
        refine aw_iload d_Mo_ends_66 rfl ?_
        refine aw_imul d_Mo_ends_68 ?_
        try simp only [pk_mul, nI_add]
        refine aw_iload d_Mo_ends_69 rfl ?_
        refine aw_iadd d_Mo_ends_71 ?_
        try simp only [pk_mul, nI_add]
        refine aw_ialdN d_Mo_ends_72 rfl (by omega) (Nat.le_of_ble_eq_true rfl) ?_
        refine aw_if_le (tgt := 80) d_Mo_ends_73 (by decide) (fun h73 => ?_) (fun h73 => ?_)
        · refine aw_iconst (v := nI 0) d_Mo_ends_80 (by decide) ?_
          have hg : bI (rq_c S k p q (rq_f S k p x q)) = 0 := bI_f (fun c => absurd h73 (Int32.not_le.mpr c.2.2))
          refine aw_eqs (st' := [.int (bI (rq_c S k p q (rq_f S k p x q)))]) (by rw [hg]; rfl) ?_
          refine aw_istore d_Mo_ends_81 (Nat.le_of_ble_eq_true rfl) ?_
          refine aw_iload_n d_Mo_ends_83 rfl ?_
          refine aw_iload d_Mo_ends_84 rfl ?_
          refine aw_if_eq (tgt := 96) d_Mo_ends_86 (by decide) (fun h86 => ?_) (fun h86 => ?_)
          · refine aw_iconst (v := nI 0) d_Mo_ends_96 (by decide) ?_
            refine aw_eqs (st' := [.int (if rq_c S k p q (rq_f S k p x q) then nI 1 <<< (nI q &&& 31) else nI 0), .int (rq_f S k p x q)]) (by rw [if_neg ((bI_0 _).mp h86)]) ?_
            refine aw_ior d_Mo_ends_97 ?_
            refine aw_istore_n d_Mo_ends_98 (Nat.le_of_ble_eq_true rfl) ?_
            refine aw_iinc d_Mo_ends_99 rfl (nI_1 _) (Nat.le_of_ble_eq_true rfl) ?_
            refine aw_goto (tgt := 28) d_Mo_ends_102 (by decide) ?_
            refine aw_pick (lv' := [(6, .int (nI (q + 1))), (3, .int (rq_f S k p x (q + 1))), (5, .int (nI p)), (4, .int (nI t)), (0, .ref 36), (1, .int (nI p0)), (2, .int (nI k))]) ⟨rfl, rfl, rfl, rfl, rfl, rfl, rfl, trivial⟩ ?_
            exact ih (q + 1) [] (by omega)
          · refine aw_iconst (v := nI 1) d_Mo_ends_89 (by decide) ?_
            refine aw_iload d_Mo_ends_90 rfl ?_
            refine aw_ishl d_Mo_ends_92 ?_
            refine aw_goto (tgt := 97) d_Mo_ends_93 (by decide) ?_
            refine aw_eqs (st' := [.int (if rq_c S k p q (rq_f S k p x q) then nI 1 <<< (nI q &&& 31) else nI 0), .int (rq_f S k p x q)]) (by rw [if_pos (bI_n h86)]) ?_
            refine aw_ior d_Mo_ends_97 ?_
            refine aw_istore_n d_Mo_ends_98 (Nat.le_of_ble_eq_true rfl) ?_
            refine aw_iinc d_Mo_ends_99 rfl (nI_1 _) (Nat.le_of_ble_eq_true rfl) ?_
            refine aw_goto (tgt := 28) d_Mo_ends_102 (by decide) ?_
            refine aw_pick (lv' := [(6, .int (nI (q + 1))), (3, .int (rq_f S k p x (q + 1))), (5, .int (nI p)), (4, .int (nI t)), (0, .ref 36), (1, .int (nI p0)), (2, .int (nI k))]) ⟨rfl, rfl, rfl, rfl, rfl, rfl, rfl, trivial⟩ ?_
            exact ih (q + 1) [] (by omega)
        · refine aw_iconst (v := nI 1) d_Mo_ends_76 (by decide) ?_
          refine aw_goto (tgt := 81) d_Mo_ends_77 (by decide) ?_
          have hg : bI (rq_c S k p q (rq_f S k p x q)) = 1 := bI_t ⟨h44, h58, Int32.not_le.mp h73⟩
          refine aw_eqs (st' := [.int (bI (rq_c S k p q (rq_f S k p x q)))]) (by rw [hg]; rfl) ?_
          refine aw_istore d_Mo_ends_81 (Nat.le_of_ble_eq_true rfl) ?_
          refine aw_iload_n d_Mo_ends_83 rfl ?_
          refine aw_iload d_Mo_ends_84 rfl ?_
          refine aw_if_eq (tgt := 96) d_Mo_ends_86 (by decide) (fun h86 => ?_) (fun h86 => ?_)
          · refine aw_iconst (v := nI 0) d_Mo_ends_96 (by decide) ?_
            refine aw_eqs (st' := [.int (if rq_c S k p q (rq_f S k p x q) then nI 1 <<< (nI q &&& 31) else nI 0), .int (rq_f S k p x q)]) (by rw [if_neg ((bI_0 _).mp h86)]) ?_
            refine aw_ior d_Mo_ends_97 ?_
            refine aw_istore_n d_Mo_ends_98 (Nat.le_of_ble_eq_true rfl) ?_
            refine aw_iinc d_Mo_ends_99 rfl (nI_1 _) (Nat.le_of_ble_eq_true rfl) ?_
            refine aw_goto (tgt := 28) d_Mo_ends_102 (by decide) ?_
            refine aw_pick (lv' := [(6, .int (nI (q + 1))), (3, .int (rq_f S k p x (q + 1))), (5, .int (nI p)), (4, .int (nI t)), (0, .ref 36), (1, .int (nI p0)), (2, .int (nI k))]) ⟨rfl, rfl, rfl, rfl, rfl, rfl, rfl, trivial⟩ ?_
            exact ih (q + 1) [] (by omega)
          · refine aw_iconst (v := nI 1) d_Mo_ends_89 (by decide) ?_
            refine aw_iload d_Mo_ends_90 rfl ?_
            refine aw_ishl d_Mo_ends_92 ?_
            refine aw_goto (tgt := 97) d_Mo_ends_93 (by decide) ?_
            refine aw_eqs (st' := [.int (if rq_c S k p q (rq_f S k p x q) then nI 1 <<< (nI q &&& 31) else nI 0), .int (rq_f S k p x q)]) (by rw [if_pos (bI_n h86)]) ?_
            refine aw_ior d_Mo_ends_97 ?_
            refine aw_istore_n d_Mo_ends_98 (Nat.le_of_ble_eq_true rfl) ?_
            refine aw_iinc d_Mo_ends_99 rfl (nI_1 _) (Nat.le_of_ble_eq_true rfl) ?_
            refine aw_goto (tgt := 28) d_Mo_ends_102 (by decide) ?_
            refine aw_pick (lv' := [(6, .int (nI (q + 1))), (3, .int (rq_f S k p x (q + 1))), (5, .int (nI p)), (4, .int (nI t)), (0, .ref 36), (1, .int (nI p0)), (2, .int (nI k))]) ⟨rfl, rfl, rfl, rfl, rfl, rfl, rfl, trivial⟩ ?_
            exact ih (q + 1) [] (by omega)
theorem lp_Mo_ends_p (C S : cs_S) (np : Nat) (hn : S.2.2 0 = nI np) (h5 : np ≤ 5) (p0 : Nat) (k t : Nat) (hk : k < 4) (x : Int32) (Z : am_E) (K : AW (am_Mof y_Mo_ends) 1 0 0 111 [(3, .int (rp_f S np k x np)), (4, .int (nI t)), (0, .ref 36), (1, .int (nI p0)), (2, .int (nI k))] [] (cs_w C ++ ms_w S) 0 0 Z) : ∀ (n p : Nat) (g : List (Nat × Value)), p + n = np → AW (am_Mof y_Mo_ends) 1 0 0 16 ([(5, .int (nI p)), (3, .int (rp_f S np k x p)), (4, .int (nI t)), (0, .ref 36), (1, .int (nI p0)), (2, .int (nI k))] ++ g) [] (cs_w C ++ ms_w S) 0 0 Z := by
  intro n
  induction n with
  | zero =>
    intro p g hp
    obtain rfl : np = p := by omega
    refine aw_sub (lv' := [(5, .int (nI np)), (3, .int (rp_f S np k x np)), (4, .int (nI t)), (0, .ref 36), (1, .int (nI p0)), (2, .int (nI k))]) (by simp) ?_
    refine aw_iload d_Mo_ends_16 rfl ?_
    refine aw_aload_n d_Mo_ends_18 rfl ?_
    refine aw_get d_Mo_ends_19 fl_Mo_72 rfl rfl ?_
    refine aw_eqs (congrArg (fun z => Value.int z :: _) hn) ?_
    refine aw_icmp_ge (tgt := 111) d_Mo_ends_22 (by decide) (fun h22 => ?_) (fun h22 => absurd (nI_le (Nat.le_refl _) (by omega)) h22)
    exact aw_pick (lv' := [(3, .int (rp_f S np k x np)), (4, .int (nI t)), (0, .ref 36), (1, .int (nI p0)), (2, .int (nI k))]) ⟨rfl, rfl, rfl, rfl, rfl, trivial⟩ K
  | succ n ih =>
    intro p g hp
    refine aw_sub (lv' := [(5, .int (nI p)), (3, .int (rp_f S np k x p)), (4, .int (nI t)), (0, .ref 36), (1, .int (nI p0)), (2, .int (nI k))]) (by simp) ?_
    refine aw_iload d_Mo_ends_16 rfl ?_
    refine aw_aload_n d_Mo_ends_18 rfl ?_
    refine aw_get d_Mo_ends_19 fl_Mo_72 rfl rfl ?_
    refine aw_eqs (congrArg (fun z => Value.int z :: _) hn) ?_
    refine aw_icmp_ge (tgt := 111) d_Mo_ends_22 (by decide) (fun h22 => absurd h22 (nI_ge (by omega) (by omega))) (fun h22 => ?_)
    refine aw_iconst (v := nI 0) d_Mo_ends_25 (by decide) ?_
    refine aw_istore d_Mo_ends_26 (Nat.le_of_ble_eq_true rfl) ?_
    refine aw_pick (lv' := [(6, .int (nI 0)), (3, .int (rp_f S np k x p)), (5, .int (nI p)), (4, .int (nI t)), (0, .ref 36), (1, .int (nI p0)), (2, .int (nI k))]) ⟨rfl, rfl, rfl, rfl, rfl, rfl, rfl, trivial⟩ ?_
    refine lp_Mo_ends_q C S np hn h5 p0 k p t hk (by omega) (rp_f S np k x p) _ ?_ np 0 [] (by omega)
    refine aw_iinc d_Mo_ends_105 rfl (nI_1 _) (Nat.le_of_ble_eq_true rfl) ?_
    refine aw_goto (tgt := 16) d_Mo_ends_108 (by decide) ?_
    refine aw_pick (lv' := [(5, .int (nI (p + 1))), (3, .int (rp_f S np k x (p + 1))), (4, .int (nI t)), (0, .ref 36), (1, .int (nI p0)), (2, .int (nI k))]) ⟨rfl, rfl, rfl, rfl, rfl, rfl, trivial⟩ ?_
    exact ih (p + 1) [] (by omega)
theorem lp_Mo_ends_t (C S : cs_S) (np : Nat) (hn : S.2.2 0 = nI np) (h5 : np ≤ 5) (p0 : Nat) (k : Nat) (hk : k < 4) (x : Int32) (Z : am_E) (K : AW (am_Mof y_Mo_ends) 1 0 0 117 [(3, .int (rt_f S np k x 5)), (0, .ref 36), (1, .int (nI p0)), (2, .int (nI k))] [] (cs_w C ++ ms_w S) 0 0 Z) : ∀ (n t : Nat) (g : List (Nat × Value)), t + n = 5 → AW (am_Mof y_Mo_ends) 1 0 0 7 ([(4, .int (nI t)), (3, .int (rt_f S np k x t)), (0, .ref 36), (1, .int (nI p0)), (2, .int (nI k))] ++ g) [] (cs_w C ++ ms_w S) 0 0 Z := by
  intro n
  induction n with
  | zero =>
    intro t g ht
    obtain rfl : t = 5 := by omega
    refine aw_sub (lv' := [(4, .int (nI 5)), (3, .int (rt_f S np k x 5)), (0, .ref 36), (1, .int (nI p0)), (2, .int (nI k))]) (by simp) ?_
    refine aw_iload d_Mo_ends_7 rfl ?_
    refine aw_iconst (v := nI 5) d_Mo_ends_9 (by decide) ?_
    refine aw_icmp_ge (tgt := 117) d_Mo_ends_10 (by decide) (fun h10 => ?_) (fun h10 => absurd (nI_le (Nat.le_refl _) (by omega)) h10)
    exact aw_pick (lv' := [(3, .int (rt_f S np k x 5)), (0, .ref 36), (1, .int (nI p0)), (2, .int (nI k))]) ⟨rfl, rfl, rfl, rfl, trivial⟩ K
  | succ n ih =>
    intro t g ht
    refine aw_sub (lv' := [(4, .int (nI t)), (3, .int (rt_f S np k x t)), (0, .ref 36), (1, .int (nI p0)), (2, .int (nI k))]) (by simp) ?_
    refine aw_iload d_Mo_ends_7 rfl ?_
    refine aw_iconst (v := nI 5) d_Mo_ends_9 (by decide) ?_
    refine aw_icmp_ge (tgt := 117) d_Mo_ends_10 (by decide) (fun h10 => absurd h10 (nI_ge (by omega) (by omega))) (fun h10 => ?_)
    refine aw_iconst (v := nI 0) d_Mo_ends_13 (by decide) ?_
    refine aw_istore d_Mo_ends_14 (Nat.le_of_ble_eq_true rfl) ?_
    refine aw_pick (lv' := [(5, .int (nI 0)), (3, .int (rt_f S np k x t)), (4, .int (nI t)), (0, .ref 36), (1, .int (nI p0)), (2, .int (nI k))]) ⟨rfl, rfl, rfl, rfl, rfl, rfl, trivial⟩ ?_
    refine lp_Mo_ends_p C S np hn h5 p0 k t hk (rt_f S np k x t) _ ?_ np 0 [] (by omega)
    refine aw_iinc d_Mo_ends_111 rfl (nI_1 _) (Nat.le_of_ble_eq_true rfl) ?_
    refine aw_goto (tgt := 7) d_Mo_ends_114 (by decide) ?_
    refine aw_pick (lv' := [(4, .int (nI (t + 1))), (3, .int (rt_f S np k x (t + 1))), (0, .ref 36), (1, .int (nI p0)), (2, .int (nI k))]) ⟨rfl, rfl, rfl, rfl, rfl, trivial⟩ ?_
    exact ih (t + 1) [] (by omega)
theorem lp_Mo_ends_e (C S : cs_S) (np : Nat) (hn : S.2.2 0 = nI np) (h5 : np ≤ 5) (p0 k : Nat) (hk : k < 4) (x : Int32) : ∀ (n p : Nat), p + n = np → AW (am_Mof y_Mo_ends) 1 0 0 123 [(5, .int (nI p)), (4, .int (bI (ed_f S k x p = true))), (3, .int x), (0, .ref 36), (1, .int (nI p0)), (2, .int (nI k))] [] (cs_w C ++ ms_w S) 0 0 (am_Z (some (.int (bI (ed_f S k x np = true)))) (cs_w C ++ ms_w S) 0 0) := by
  intro n
  induction n with
  | zero =>
    intro p hp
    obtain rfl : np = p := by omega
    refine aw_iload d_Mo_ends_123 rfl ?_
    refine aw_aload_n d_Mo_ends_125 rfl ?_
    refine aw_get d_Mo_ends_126 fl_Mo_72 rfl rfl ?_
    refine aw_eqs (congrArg (fun z => Value.int z :: _) hn) ?_
    refine aw_icmp_ge (tgt := 194) d_Mo_ends_129 (by decide) (fun h129 => ?_) (fun h129 => absurd (nI_le (Nat.le_refl _) (by omega)) h129)
    refine aw_iload d_Mo_ends_194 rfl ?_
    exact aw_zretE d_Mo_ends_196 rfl (bI_nar _) rfl rfl rfl rfl
  | succ n ih =>
    intro p hp
    refine aw_iload d_Mo_ends_123 rfl ?_
    refine aw_aload_n d_Mo_ends_125 rfl ?_
    refine aw_get d_Mo_ends_126 fl_Mo_72 rfl rfl ?_
    refine aw_eqs (congrArg (fun z => Value.int z :: _) hn) ?_
    refine aw_icmp_ge (tgt := 194) d_Mo_ends_129 (by decide) (fun h129 => absurd h129 (nI_ge (by omega) (by omega))) (fun h129 => ?_)
    refine aw_iload d_Mo_ends_132 rfl ?_
    refine aw_if_ne (tgt := 181) d_Mo_ends_134 (by decide) (fun h134 => ?_) (fun h134 => ?_)
    · refine aw_iconst (v := nI 1) d_Mo_ends_181 (by decide) ?_
      refine aw_goto (tgt := 186) d_Mo_ends_182 (by decide) ?_
      have hg : bI (ed_f S k x (p + 1) = true) = 1 := bI_t (show (ex_n (fun p => decide (ed_c S k x p)) p || decide (ed_c S k x p)) = true from by rw [show ex_n (fun p => decide (ed_c S k x p)) p = true from bI_n h134]; rfl)
      refine aw_eqs (st' := [.int (bI (ed_f S k x (p + 1) = true))]) (by rw [hg]; rfl) ?_
      refine aw_istore d_Mo_ends_186 (Nat.le_of_ble_eq_true rfl) ?_
      refine aw_iinc d_Mo_ends_188 rfl (nI_1 _) (Nat.le_of_ble_eq_true rfl) ?_
      refine aw_goto (tgt := 123) d_Mo_ends_191 (by decide) ?_
      refine aw_pick (lv' := [(5, .int (nI (p + 1))), (4, .int (bI (ed_f S k x (p + 1) = true))), (3, .int x), (0, .ref 36), (1, .int (nI p0)), (2, .int (nI k))]) ⟨rfl, rfl, rfl, rfl, rfl, rfl, trivial⟩ ?_
      exact ih (p + 1) (by omega)
    · refine aw_iload_n d_Mo_ends_137 rfl ?_
      refine aw_iload d_Mo_ends_138 rfl ?_
      refine aw_ishr d_Mo_ends_140 ?_
      refine aw_iconst (v := nI 1) d_Mo_ends_141 (by decide) ?_
      refine aw_iand d_Mo_ends_142 ?_
      refine aw_iconst (v := nI 1) d_Mo_ends_143 (by decide) ?_
      refine aw_icmp_ne (tgt := 185) d_Mo_ends_144 (by decide) (fun h144 => ?_) (fun h144 => ?_)
      · refine aw_iconst (v := nI 0) d_Mo_ends_185 (by decide) ?_
        have hpf : ex_n (fun p => decide (ed_c S k x p)) p = false := Bool.eq_false_iff.mpr ((bI_0 _).mp h134)
        have hno : ed_f S k x (p + 1) = true → ed_c S k x p := fun c => by
          have c : (ex_n (fun p => decide (ed_c S k x p)) p || decide (ed_c S k x p)) = true := c
          rw [hpf] at c
          exact of_decide_eq_true c
        have hyes : ed_c S k x p → ed_f S k x (p + 1) = true := fun c => by
          show (ex_n (fun p => decide (ed_c S k x p)) p || decide (ed_c S k x p)) = true
          rw [decide_eq_true c]; exact Bool.or_true _
        have hg : bI (ed_f S k x (p + 1) = true) = 0 := bI_f (fun c => (hno c).1 |> fun c => h144 c)
        refine aw_eqs (st' := [.int (bI (ed_f S k x (p + 1) = true))]) (by rw [hg]; rfl) ?_
        refine aw_istore d_Mo_ends_186 (Nat.le_of_ble_eq_true rfl) ?_
        refine aw_iinc d_Mo_ends_188 rfl (nI_1 _) (Nat.le_of_ble_eq_true rfl) ?_
        refine aw_goto (tgt := 123) d_Mo_ends_191 (by decide) ?_
        refine aw_pick (lv' := [(5, .int (nI (p + 1))), (4, .int (bI (ed_f S k x (p + 1) = true))), (3, .int x), (0, .ref 36), (1, .int (nI p0)), (2, .int (nI k))]) ⟨rfl, rfl, rfl, rfl, rfl, rfl, trivial⟩ ?_
        exact ih (p + 1) (by omega)
      · refine aw_aload_n d_Mo_ends_147 rfl ?_
        refine aw_get d_Mo_ends_148 fl_Mo_13 rfl rfl ?_
        refine aw_iconst (v := nI 4) d_Mo_ends_151 (by decide) ?_
        refine aw_iload d_Mo_ends_152 rfl ?_
        refine aw_imul d_Mo_ends_154 ?_
        try simp only [pk_mul, nI_add]
        refine aw_iload_n d_Mo_ends_155 rfl ?_
        refine aw_iadd d_Mo_ends_156 ?_
        try simp only [pk_mul, nI_add]
        refine aw_zaldN d_Mo_ends_157 rfl (by omega) (Nat.le_of_ble_eq_true rfl) ?_
        refine aw_if_ne (tgt := 181) d_Mo_ends_158 (by decide) (fun h158 => ?_) (fun h158 => ?_)
        · refine aw_iconst (v := nI 1) d_Mo_ends_181 (by decide) ?_
          refine aw_goto (tgt := 186) d_Mo_ends_182 (by decide) ?_
          have hpf : ex_n (fun p => decide (ed_c S k x p)) p = false := Bool.eq_false_iff.mpr ((bI_0 _).mp h134)
          have hno : ed_f S k x (p + 1) = true → ed_c S k x p := fun c => by
            have c : (ex_n (fun p => decide (ed_c S k x p)) p || decide (ed_c S k x p)) = true := c
            rw [hpf] at c
            exact of_decide_eq_true c
          have hyes : ed_c S k x p → ed_f S k x (p + 1) = true := fun c => by
            show (ex_n (fun p => decide (ed_c S k x p)) p || decide (ed_c S k x p)) = true
            rw [decide_eq_true c]; exact Bool.or_true _
          have hg : bI (ed_f S k x (p + 1) = true) = 1 := bI_t (hyes ⟨h144, Or.inl h158⟩)
          refine aw_eqs (st' := [.int (bI (ed_f S k x (p + 1) = true))]) (by rw [hg]; rfl) ?_
          refine aw_istore d_Mo_ends_186 (Nat.le_of_ble_eq_true rfl) ?_
          refine aw_iinc d_Mo_ends_188 rfl (nI_1 _) (Nat.le_of_ble_eq_true rfl) ?_
          refine aw_goto (tgt := 123) d_Mo_ends_191 (by decide) ?_
          refine aw_pick (lv' := [(5, .int (nI (p + 1))), (4, .int (bI (ed_f S k x (p + 1) = true))), (3, .int x), (0, .ref 36), (1, .int (nI p0)), (2, .int (nI k))]) ⟨rfl, rfl, rfl, rfl, rfl, rfl, trivial⟩ ?_
          exact ih (p + 1) (by omega)
        · refine aw_aload_n d_Mo_ends_161 rfl ?_
          refine aw_iload d_Mo_ends_162 rfl ?_
          refine aw_cV1 d_Mo_ends_164 (c_Mo_shared C S p (by omega)) mk_Mo_shared is_Mo_shared ln_Mo_110 rfl rfl rfl rfl (Nat.le_of_ble_eq_true rfl) (Nat.le_of_ble_eq_true rfl) (Nat.le_of_ble_eq_true rfl) (Nat.le_of_ble_eq_true rfl) ?_
          refine aw_if_eq (tgt := 181) d_Mo_ends_167 (by decide) (fun h167 => ?_) (fun h167 => ?_)
          · refine aw_iconst (v := nI 1) d_Mo_ends_181 (by decide) ?_
            refine aw_goto (tgt := 186) d_Mo_ends_182 (by decide) ?_
            have hpf : ex_n (fun p => decide (ed_c S k x p)) p = false := Bool.eq_false_iff.mpr ((bI_0 _).mp h134)
            have hno : ed_f S k x (p + 1) = true → ed_c S k x p := fun c => by
              have c : (ex_n (fun p => decide (ed_c S k x p)) p || decide (ed_c S k x p)) = true := c
              rw [hpf] at c
              exact of_decide_eq_true c
            have hyes : ed_c S k x p → ed_f S k x (p + 1) = true := fun c => by
              show (ex_n (fun p => decide (ed_c S k x p)) p || decide (ed_c S k x p)) = true
              rw [decide_eq_true c]; exact Bool.or_true _
            have hg : bI (ed_f S k x (p + 1) = true) = 1 := bI_t (hyes ⟨h144, Or.inr (Or.inl h167)⟩)
            refine aw_eqs (st' := [.int (bI (ed_f S k x (p + 1) = true))]) (by rw [hg]; rfl) ?_
            refine aw_istore d_Mo_ends_186 (Nat.le_of_ble_eq_true rfl) ?_
            refine aw_iinc d_Mo_ends_188 rfl (nI_1 _) (Nat.le_of_ble_eq_true rfl) ?_
            refine aw_goto (tgt := 123) d_Mo_ends_191 (by decide) ?_
            refine aw_pick (lv' := [(5, .int (nI (p + 1))), (4, .int (bI (ed_f S k x (p + 1) = true))), (3, .int x), (0, .ref 36), (1, .int (nI p0)), (2, .int (nI k))]) ⟨rfl, rfl, rfl, rfl, rfl, rfl, trivial⟩ ?_
            exact ih (p + 1) (by omega)
          · refine aw_aload_n d_Mo_ends_170 rfl ?_
            refine aw_iload d_Mo_ends_171 rfl ?_
            refine aw_cV1 d_Mo_ends_173 (c_Mo_shared C S p (by omega)) mk_Mo_shared is_Mo_shared ln_Mo_110 rfl rfl rfl rfl (Nat.le_of_ble_eq_true rfl) (Nat.le_of_ble_eq_true rfl) (Nat.le_of_ble_eq_true rfl) (Nat.le_of_ble_eq_true rfl) ?_
            refine aw_bipush (v := nI 10) d_Mo_ends_176 (by decide) ?_
            refine aw_icmp_ge (tgt := 185) d_Mo_ends_178 (by decide) (fun h178 => ?_) (fun h178 => ?_)
            · refine aw_iconst (v := nI 0) d_Mo_ends_185 (by decide) ?_
              have hpf : ex_n (fun p => decide (ed_c S k x p)) p = false := Bool.eq_false_iff.mpr ((bI_0 _).mp h134)
              have hno : ed_f S k x (p + 1) = true → ed_c S k x p := fun c => by
                have c : (ex_n (fun p => decide (ed_c S k x p)) p || decide (ed_c S k x p)) = true := c
                rw [hpf] at c
                exact of_decide_eq_true c
              have hyes : ed_c S k x p → ed_f S k x (p + 1) = true := fun c => by
                show (ex_n (fun p => decide (ed_c S k x p)) p || decide (ed_c S k x p)) = true
                rw [decide_eq_true c]; exact Bool.or_true _
              have hg : bI (ed_f S k x (p + 1) = true) = 0 := bI_f (fun c => (hno c).2.elim (fun c => c h158) (fun c => c.elim h167 (fun c => absurd h178 (Int32.not_le.mpr c))))
              refine aw_eqs (st' := [.int (bI (ed_f S k x (p + 1) = true))]) (by rw [hg]; rfl) ?_
              refine aw_istore d_Mo_ends_186 (Nat.le_of_ble_eq_true rfl) ?_
              refine aw_iinc d_Mo_ends_188 rfl (nI_1 _) (Nat.le_of_ble_eq_true rfl) ?_
              refine aw_goto (tgt := 123) d_Mo_ends_191 (by decide) ?_
              refine aw_pick (lv' := [(5, .int (nI (p + 1))), (4, .int (bI (ed_f S k x (p + 1) = true))), (3, .int x), (0, .ref 36), (1, .int (nI p0)), (2, .int (nI k))]) ⟨rfl, rfl, rfl, rfl, rfl, rfl, trivial⟩ ?_
              exact ih (p + 1) (by omega)
            · refine aw_iconst (v := nI 1) d_Mo_ends_181 (by decide) ?_
              refine aw_goto (tgt := 186) d_Mo_ends_182 (by decide) ?_
              have hpf : ex_n (fun p => decide (ed_c S k x p)) p = false := Bool.eq_false_iff.mpr ((bI_0 _).mp h134)
              have hno : ed_f S k x (p + 1) = true → ed_c S k x p := fun c => by
                have c : (ex_n (fun p => decide (ed_c S k x p)) p || decide (ed_c S k x p)) = true := c
                rw [hpf] at c
                exact of_decide_eq_true c
              have hyes : ed_c S k x p → ed_f S k x (p + 1) = true := fun c => by
                show (ex_n (fun p => decide (ed_c S k x p)) p || decide (ed_c S k x p)) = true
                rw [decide_eq_true c]; exact Bool.or_true _
              have hg : bI (ed_f S k x (p + 1) = true) = 1 := bI_t (hyes ⟨h144, Or.inr (Or.inr (Int32.not_le.mp h178))⟩)
              refine aw_eqs (st' := [.int (bI (ed_f S k x (p + 1) = true))]) (by rw [hg]; rfl) ?_
              refine aw_istore d_Mo_ends_186 (Nat.le_of_ble_eq_true rfl) ?_
              refine aw_iinc d_Mo_ends_188 rfl (nI_1 _) (Nat.le_of_ble_eq_true rfl) ?_
              refine aw_goto (tgt := 123) d_Mo_ends_191 (by decide) ?_
              refine aw_pick (lv' := [(5, .int (nI (p + 1))), (4, .int (bI (ed_f S k x (p + 1) = true))), (3, .int x), (0, .ref 36), (1, .int (nI p0)), (2, .int (nI k))]) ⟨rfl, rfl, rfl, rfl, rfl, rfl, trivial⟩ ?_
              exact ih (p + 1) (by omega)
theorem c_Mo_ends (C S : cs_S) (np : Nat) (hn : S.2.2 0 = nI np) (h5 : np ≤ 5) (p0 k : Nat) (hp0 : p0 < 5) (hk : k < 4) : am_ct y_Mo_ends 1 [.ref 36, .int (nI p0), .int (nI k)] (cs_w C ++ ms_w S) (some (.int (bI (ed_f S k (re_x S np p0 k) np = true)))) (cs_w C ++ ms_w S) 0 0 := by
  refine am_ct.of rfl (Nat.le_of_ble_eq_true rfl) ?_
  refine aw_iconst (v := nI 1) d_Mo_ends_0 (by decide) ?_
  refine aw_iload_n d_Mo_ends_1 rfl ?_
  refine aw_ishl d_Mo_ends_2 ?_
  refine aw_istore_n d_Mo_ends_3 (Nat.le_of_ble_eq_true rfl) ?_
  refine aw_iconst (v := nI 0) d_Mo_ends_4 (by decide) ?_
  refine aw_istore d_Mo_ends_5 (Nat.le_of_ble_eq_true rfl) ?_
  refine aw_pick (lv' := [(4, .int (nI 0)), (3, .int (rt_f S np k (nI 1 <<< (nI p0 &&& 31)) 0)), (0, .ref 36), (1, .int (nI p0)), (2, .int (nI k))]) ⟨rfl, rfl, rfl, rfl, rfl, trivial⟩ ?_
  refine lp_Mo_ends_t C S np hn h5 p0 k hk _ _ ?_ 5 0 [] rfl
  refine aw_iconst (v := nI 0) d_Mo_ends_117 (by decide) ?_
  refine aw_istore d_Mo_ends_118 (Nat.le_of_ble_eq_true rfl) ?_
  refine aw_iconst (v := nI 0) d_Mo_ends_120 (by decide) ?_
  refine aw_istore d_Mo_ends_121 (Nat.le_of_ble_eq_true rfl) ?_
  refine aw_pick (lv' := [(5, .int (nI 0)), (4, .int (bI (ed_f S k (re_x S np p0 k) 0 = true))), (3, .int (re_x S np p0 k)), (0, .ref 36), (1, .int (nI p0)), (2, .int (nI k))]) ⟨rfl, rfl, rfl, rfl, rfl, rfl, trivial⟩ ?_
  exact lp_Mo_ends_e C S np hn h5 p0 k hk (re_x S np p0 k) np 0 (by omega)
