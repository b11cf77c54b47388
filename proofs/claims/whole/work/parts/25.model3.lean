/-! RateChainsModel.noteBare -/
theorem lp_Mo_noteBare_q (C S : cs_S) (np : Nat) (hn : S.2.2 0 = nI np) (h5 : np ≤ 5) (wb : Nat → Int32) (k p t : Nat) (hk : k < 4) (hp : p < np) (x : Int32) (Z : am_E) (K : AW (am_Mof y_Mo_noteBare) 1 0 0 160 [(2, .int (rq_f S k p x np)), (4, .int (nI p)), (3, .int (nI t)), (1, .int (nI k)), (0, .ref 36)] [] (cs_w C ++ ms_w (cs_I S 50 wb)) 0 0 Z) : ∀ (n q : Nat) (g : List (Nat × Value)), q + n = np → AW (am_Mof y_Mo_noteBare) 1 0 0 83 ([(5, .int (nI q)), (2, .int (rq_f S k p x q)), (4, .int (nI p)), (3, .int (nI t)), (1, .int (nI k)), (0, .ref 36)] ++ g) [] (cs_w C ++ ms_w (cs_I S 50 wb)) 0 0 Z := by
  intro n
  induction n with
  | zero =>
    intro q g hq
    obtain rfl : np = q := by omega
    refine aw_sub (lv' := [(5, .int (nI np)), (2, .int (rq_f S k p x np)), (4, .int (nI p)), (3, .int (nI t)), (1, .int (nI k)), (0, .ref 36)]) (by simp) ?_
    refine aw_iload d_Mo_noteBare_83 rfl ?_
    refine aw_aload_n d_Mo_noteBare_85 rfl ?_
    refine aw_get d_Mo_noteBare_86 fl_Mo_72 rfl rfl ?_
    refine aw_eqs (congrArg (fun z => Value.int z :: _) hn) ?_
    refine aw_icmp_ge (tgt := 160) d_Mo_noteBare_89 (by decide) (fun h89 => ?_) (fun h89 => absurd (nI_le (Nat.le_refl _) (by omega)) h89)
    exact aw_pick (lv' := [(2, .int (rq_f S k p x np)), (4, .int (nI p)), (3, .int (nI t)), (1, .int (nI k)), (0, .ref 36)]) ⟨rfl, rfl, rfl, rfl, rfl, trivial⟩ K
  | succ n ih =>
    intro q g hq
    refine aw_sub (lv' := [(5, .int (nI q)), (2, .int (rq_f S k p x q)), (4, .int (nI p)), (3, .int (nI t)), (1, .int (nI k)), (0, .ref 36)]) (by simp) ?_
    refine aw_iload d_Mo_noteBare_83 rfl ?_
    refine aw_aload_n d_Mo_noteBare_85 rfl ?_
    refine aw_get d_Mo_noteBare_86 fl_Mo_72 rfl rfl ?_
    refine aw_eqs (congrArg (fun z => Value.int z :: _) hn) ?_
    refine aw_icmp_ge (tgt := 160) d_Mo_noteBare_89 (by decide) (fun h89 => absurd h89 (nI_ge (by omega) (by omega))) (fun h89 => ?_)
    refine aw_iload_n d_Mo_noteBare_92 rfl ?_
    refine aw_iload d_Mo_noteBare_93 rfl ?_
    refine aw_ishr d_Mo_noteBare_95 ?_
    refine aw_iconst (v := nI 1) d_Mo_noteBare_96 (by decide) ?_
    refine aw_iand d_Mo_noteBare_97 ?_
    refine aw_iconst (v := nI 1) d_Mo_noteBare_98 (by decide) ?_
    refine aw_icmp_ne (tgt := 135) d_Mo_noteBare_99 (by decide) (fun h99 => ?_) (fun h99 => ?_)
    · refine aw_iconst (v := nI 0) d_Mo_noteBare_135 (by decide) ?_
      have hg : bI (rq_c S k p q (rq_f S k p x q)) = 0 := bI_f (fun c => h99 c.1)
      refine aw_eqs (st' := [.int (bI (rq_c S k p q (rq_f S k p x q)))]) (by rw [hg]; rfl) ?_
      refine aw_istore d_Mo_noteBare_136 (Nat.le_of_ble_eq_true rfl) ?_
      refine aw_iload_n d_Mo_noteBare_138 rfl ?_
      refine aw_iload d_Mo_noteBare_139 rfl ?_
      refine aw_if_eq (tgt := 151) d_Mo_noteBare_141 (by decide) (fun h141 => ?_) (fun h141 => ?_)
      · refine aw_iconst (v := nI 0) d_Mo_noteBare_151 (by decide) ?_
        refine aw_eqs (st' := [.int (if rq_c S k p q (rq_f S k p x q) then nI 1 <<< (nI q &&& 31) else nI 0), .int (rq_f S k p x q)]) (by rw [if_neg ((bI_0 _).mp h141)]) ?_
        refine aw_ior d_Mo_noteBare_152 ?_
        refine aw_istore_n d_Mo_noteBare_153 (Nat.le_of_ble_eq_true rfl) ?_
        refine aw_iinc d_Mo_noteBare_154 rfl (nI_1 _) (Nat.le_of_ble_eq_true rfl) ?_
        refine aw_goto (tgt := 83) d_Mo_noteBare_157 (by decide) ?_
        refine aw_pick (lv' := [(5, .int (nI (q + 1))), (2, .int (rq_f S k p x (q + 1))), (4, .int (nI p)), (3, .int (nI t)), (1, .int (nI k)), (0, .ref 36)]) ⟨rfl, rfl, rfl, rfl, rfl, rfl, trivial⟩ ?_
        exact ih (q + 1) [] (by omega)
      · refine aw_iconst (v := nI 1) d_Mo_noteBare_144 (by decide) ?_
        refine aw_iload d_Mo_noteBare_145 rfl ?_
        refine aw_ishl d_Mo_noteBare_147 ?_
        refine aw_goto (tgt := 152) d_Mo_noteBare_148 (by decide) ?_
        refine aw_eqs (st' := [.int (if rq_c S k p q (rq_f S k p x q) then nI 1 <<< (nI q &&& 31) else nI 0), .int (rq_f S k p x q)]) (by rw [if_pos (bI_n h141)]) ?_
        refine aw_ior d_Mo_noteBare_152 ?_
        refine aw_istore_n d_Mo_noteBare_153 (Nat.le_of_ble_eq_true rfl) ?_
        refine aw_iinc d_Mo_noteBare_154 rfl (nI_1 _) (Nat.le_of_ble_eq_true rfl) ?_
        refine aw_goto (tgt := 83) d_Mo_noteBare_157 (by decide) ?_
        refine aw_pick (lv' := [(5, .int (nI (q + 1))), (2, .int (rq_f S k p x (q + 1))), (4, .int (nI p)), (3, .int (nI t)), (1, .int (nI k)), (0, .ref 36)]) ⟨rfl, rfl, rfl, rfl, rfl, rfl, trivial⟩ ?_
        exact ih (q + 1) [] (by omega)
    · refine aw_aload_n d_Mo_noteBare_102 rfl ?_
      refine aw_get d_Mo_noteBare_103 fl_Mo_13 rfl rfl ?_
      refine aw_iconst (v := nI 4) d_Mo_noteBare_106 (by decide) ?_
      refine aw_iload d_Mo_noteBare_107 rfl ?_
      refine aw_imul d_Mo_noteBare_109 ?_
      try simp only [pk_mul, nI_add]
      refine aw_iload_n d_Mo_noteBare_110 rfl ?_
      refine aw_iadd d_Mo_noteBare_111 ?_
      try simp only [pk_mul, nI_add]
      refine aw_zaldN d_Mo_noteBare_112 rfl (by omega) (Nat.le_of_ble_eq_true rfl) ?_
      refine aw_if_ne (tgt := 135) d_Mo_noteBare_113 (by decide) (fun h113 => ?_) (fun h113 => ?_)
      · refine aw_iconst (v := nI 0) d_Mo_noteBare_135 (by decide) ?_
        have hg : bI (rq_c S k p q (rq_f S k p x q)) = 0 := bI_f (fun c => h113 c.2.1)
        refine aw_eqs (st' := [.int (bI (rq_c S k p q (rq_f S k p x q)))]) (by rw [hg]; rfl) ?_
        refine aw_istore d_Mo_noteBare_136 (Nat.le_of_ble_eq_true rfl) ?_
        refine aw_iload_n d_Mo_noteBare_138 rfl ?_
        refine aw_iload d_Mo_noteBare_139 rfl ?_
        refine aw_if_eq (tgt := 151) d_Mo_noteBare_141 (by decide) (fun h141 => ?_) (fun h141 => ?_)
        · refine aw_iconst (v := nI 0) d_Mo_noteBare_151 (by decide) ?_
          refine aw_eqs (st' := [.int (if rq_c S k p q (rq_f S k p x q) then nI 1 <<< (nI q &&& 31) else nI 0), .int (rq_f S k p x q)]) (by rw [if_neg ((bI_0 _).mp h141)]) ?_
          refine aw_ior d_Mo_noteBare_152 ?_
          refine aw_istore_n d_Mo_noteBare_153 (Nat.le_of_ble_eq_true rfl) ?_
          refine aw_iinc d_Mo_noteBare_154 rfl (nI_1 _) (Nat.le_of_ble_eq_true rfl) ?_
          refine aw_goto (tgt := 83) d_Mo_noteBare_157 (by decide) ?_
          refine aw_pick (lv' := [(5, .int (nI (q + 1))), (2, .int (rq_f S k p x (q + 1))), (4, .int (nI p)), (3, .int (nI t)), (1, .int (nI k)), (0, .ref 36)]) ⟨rfl, rfl, rfl, rfl, rfl, rfl, trivial⟩ ?_
          exact ih (q + 1) [] (by omega)
        · refine aw_iconst (v := nI 1) d_Mo_noteBare_144 (by decide) ?_
          refine aw_iload d_Mo_noteBare_145 rfl ?_
          refine aw_ishl d_Mo_noteBare_147 ?_
          refine aw_goto (tgt := 152) d_Mo_noteBare_148 (by decide) ?_
          refine aw_eqs (st' := [.int (if rq_c S k p q (rq_f S k p x q) then nI 1 <<< (nI q &&& 31) else nI 0), .int (rq_f S k p x q)]) (by rw [if_pos (bI_n h141)]) ?_
          refine aw_ior d_Mo_noteBare_152 ?_
          refine aw_istore_n d_Mo_noteBare_153 (Nat.le_of_ble_eq_true rfl) ?_
          refine aw_iinc d_Mo_noteBare_154 rfl (nI_1 _) (Nat.le_of_ble_eq_true rfl) ?_
          refine aw_goto (tgt := 83) d_Mo_noteBare_157 (by decide) ?_
          refine aw_pick (lv' := [(5, .int (nI (q + 1))), (2, .int (rq_f S k p x (q + 1))), (4, .int (nI p)), (3, .int (nI t)), (1, .int (nI k)), (0, .ref 36)]) ⟨rfl, rfl, rfl, rfl, rfl, rfl, trivial⟩ ?_
          exact ih (q + 1) [] (by omega)
      · refine aw_aload_n d_Mo_noteBare_116 rfl ?_
        refine aw_get d_Mo_noteBare_117 fl_Mo_7 rfl rfl ?_
        refine aw_iconst (v := nI 5) d_Mo_noteBare_120 (by decide) ?_
        refine aw_iload d_Mo_noteBare_121 rfl ?_
        refine aw_imul d_Mo_noteBare_123 ?_
        try simp only [pk_mul, nI_add]
        refine aw_iload d_Mo_noteBare_124 rfl ?_
        refine aw_iadd d_Mo_noteBare_126 ?_
        try simp only [pk_mul, nI_add]
        refine aw_ialdN d_Mo_noteBare_127 rfl (by omega) (Nat.le_of_ble_eq_true rfl) ?_
        refine aw_if_le (tgt := 135) d_Mo_noteBare_128 (by decide) (fun h128 => ?_) (fun h128 => ?_)
        · refine aw_iconst (v := nI 0) d_Mo_noteBare_135 (by decide) ?_
          have hg : bI (rq_c S k p q (rq_f S k p x q)) = 0 := bI_f (fun c => absurd h128 (Int32.not_le.mpr c.2.2))
          refine aw_eqs (st' := [.int (bI (rq_c S k p q (rq_f S k p x q)))]) (by rw [hg]; rfl) ?_
          refine aw_istore d_Mo_noteBare_136 (Nat.le_of_ble_eq_true rfl) ?_
          refine aw_iload_n d_Mo_noteBare_138 rfl ?_
          refine aw_iload d_Mo_noteBare_139 rfl ?_
          refine aw_if_eq (tgt := 151) d_Mo_noteBare_141 (by decide) (fun h141 => ?_) (fun h141 => ?_)
          · refine aw_iconst (v := nI 0) d_Mo_noteBare_151 (by decide) ?_
            refine aw_eqs (st' := [.int (if rq_c S k p q (rq_f S k p x q) then nI 1 <<< (nI q &&& 31) else nI 0), .int (rq_f S k p x q)]) (by rw [if_neg ((bI_0 _).mp h141)]) ?_
            refine aw_ior d_Mo_noteBare_152 ?_
            refine aw_istore_n d_Mo_noteBare_153 (Nat.le_of_ble_eq_true rfl) ?_
            refine aw_iinc d_Mo_noteBare_154 rfl (nI_1 _) (Nat.le_of_ble_eq_true rfl) ?_
            refine aw_goto (tgt := 83) d_Mo_noteBare_157 (by decide) ?_
            refine aw_pick (lv' := [(5, .int (nI (q + 1))), (2, .int (rq_f S k p x (q + 1))), (4, .int (nI p)), (3, .int (nI t)), (1, .int (nI k)), (0, .ref 36)]) ⟨rfl, rfl, rfl, rfl, rfl, rfl, trivial⟩ ?_
            exact ih (q + 1) [] (by omega)
          · refine aw_iconst (v := nI 1) d_Mo_noteBare_144 (by decide) ?_
            refine aw_iload d_Mo_noteBare_145 rfl ?_
            refine aw_ishl d_Mo_noteBare_147 ?_
            refine aw_goto (tgt := 152) d_Mo_noteBare_148 (by decide) ?_
            refine aw_eqs (st' := [.int (if rq_c S k p q (rq_f S k p x q) then nI 1 <<< (nI q &&& 31) else nI 0), .int (rq_f S k p x q)]) (by rw [if_pos (bI_n h141)]) ?_
            refine aw_ior d_Mo_noteBare_152 ?_
            refine aw_istore_n d_Mo_noteBare_153 (Nat.le_of_ble_eq_true rfl) ?_
            refine aw_iinc d_Mo_noteBare_154 rfl (nI_1 _) (Nat.le_of_ble_eq_true rfl) ?_
            refine aw_goto (tgt := 83) d_Mo_noteBare_157 (by decide) ?_
            refine aw_pick (lv' := [(5, .int (nI (q + 1))), (2, .int (rq_f S k p x (q + 1))), (4, .int (nI p)), (3, .int (nI t)), (1, .int (nI k)), (0, .ref 36)]) ⟨rfl, rfl, rfl, rfl, rfl, rfl, trivial⟩ ?_
            exact ih (q + 1) [] (by omega)
        · refine aw_iconst (v := nI 1) d_Mo_noteBare_131 (by decide) ?_
          refine aw_goto (tgt := 136) d_Mo_noteBare_132 (by decide) ?_
          have hg : bI (rq_c S k p q (rq_f S k p x q)) = 1 := bI_t ⟨h99, h113, Int32.not_le.mp h128⟩
          refine aw_eqs (st' := [.int (bI (rq_c S k p q (rq_f S k p x q)))]) (by rw [hg]; rfl) ?_
          refine aw_istore d_Mo_noteBare_136 (Nat.le_of_ble_eq_true rfl) ?_
          refine aw_iload_n d_Mo_noteBare_138 rfl ?_
          refine aw_iload d_Mo_noteBare_139 rfl ?_
          refine aw_if_eq (tgt := 151) d_Mo_noteBare_141 (by decide) (fun h141 => ?_) (fun h141 => ?_)
          · refine aw_iconst (v := nI 0) d_Mo_noteBare_151 (by decide) ?_
            refine aw_eqs (st' := [.int (if rq_c S k p q (rq_f S k p x q) then nI 1 <<< (nI q &&& 31) else nI 0), .int (rq_f S k p x q)]) (by rw [if_neg ((bI_0 _).mp h141)]) ?_
            refine aw_ior d_Mo_noteBare_152 ?_
            refine aw_istore_n d_Mo_noteBare_153 (Nat.le_of_ble_eq_true rfl) ?_
            refine aw_iinc d_Mo_noteBare_154 rfl (nI_1 _) (Nat.le_of_ble_eq_true rfl) ?_
            refine aw_goto (tgt := 83) d_Mo_noteBare_157 (by decide) ?_
            refine aw_pick (lv' := [(5, .int (nI (q + 1))), (2, .int (rq_f S k p x (q + 1))), (4, .int (nI p)), (3, .int (nI t)), (1, .int (nI k)), (0, .ref 36)]) ⟨rfl, rfl, rfl, rfl, rfl, rfl, trivial⟩ ?_
            exact ih (q + 1) [] (by omega)
          · refine aw_iconst (v := nI 1) d_Mo_noteBare_144 (by decide) ?_
            refine aw_iload d_Mo_noteBare_145 rfl ?_
            refine aw_ishl d_Mo_noteBare_147 ?_
            refine aw_goto (tgt := 152) d_Mo_noteBare_148 (by decide) ?_
            refine aw_eqs (st' := [.int (if rq_c S k p q (rq_f S k p x q) then nI 1 <<< (nI q &&& 31) else nI 0), .int (rq_f S k p x q)]) (by rw [if_pos (bI_n h141)]) ?_
            refine aw_ior d_Mo_noteBare_152 ?_
            refine aw_istore_n d_Mo_noteBare_153 (Nat.le_of_ble_eq_true rfl) ?_
            refine aw_iinc d_Mo_noteBare_154 rfl (nI_1 _) (Nat.le_of_ble_eq_true rfl) ?_
            refine aw_goto (tgt := 83) d_Mo_noteBare_157 (by decide) ?_
            refine aw_pick (lv' := [(5, .int (nI (q + 1))), (2, .int (rq_f S k p x (q + 1))), (4, .int (nI p)), (3, .int (nI t)), (1, .int (nI k)), (0, .ref 36)]) ⟨rfl, rfl, rfl, rfl, rfl, rfl, trivial⟩ ?_
            exact ih (q + 1) [] (by omega)
theorem lp_Mo_noteBare_p (C S : cs_S) (np : Nat) (hn : S.2.2 0 = nI np) (h5 : np ≤ 5) (wb : Nat → Int32) (k t : Nat) (hk : k < 4) (x : Int32) (Z : am_E) (K : AW (am_Mof y_Mo_noteBare) 1 0 0 166 [(2, .int (rp_f S np k x np)), (3, .int (nI t)), (1, .int (nI k)), (0, .ref 36)] [] (cs_w C ++ ms_w (cs_I S 50 wb)) 0 0 Z) : ∀ (n p : Nat) (g : List (Nat × Value)), p + n = np → AW (am_Mof y_Mo_noteBare) 1 0 0 71 ([(4, .int (nI p)), (2, .int (rp_f S np k x p)), (3, .int (nI t)), (1, .int (nI k)), (0, .ref 36)] ++ g) [] (cs_w C ++ ms_w (cs_I S 50 wb)) 0 0 Z := by
  intro n
  induction n with
  | zero =>
    intro p g hp
    obtain rfl : np = p := by omega
    refine aw_sub (lv' := [(4, .int (nI np)), (2, .int (rp_f S np k x np)), (3, .int (nI t)), (1, .int (nI k)), (0, .ref 36)]) (by simp) ?_
    refine aw_iload d_Mo_noteBare_71 rfl ?_
    refine aw_aload_n d_Mo_noteBare_73 rfl ?_
    refine aw_get d_Mo_noteBare_74 fl_Mo_72 rfl rfl ?_
    refine aw_eqs (congrArg (fun z => Value.int z :: _) hn) ?_
    refine aw_icmp_ge (tgt := 166) d_Mo_noteBare_77 (by decide) (fun h77 => ?_) (fun h77 => absurd (nI_le (Nat.le_refl _) (by omega)) h77)
    exact aw_pick (lv' := [(2, .int (rp_f S np k x np)), (3, .int (nI t)), (1, .int (nI k)), (0, .ref 36)]) ⟨rfl, rfl, rfl, rfl, trivial⟩ K
  | succ n ih =>
    intro p g hp
    refine aw_sub (lv' := [(4, .int (nI p)), (2, .int (rp_f S np k x p)), (3, .int (nI t)), (1, .int (nI k)), (0, .ref 36)]) (by simp) ?_
    refine aw_iload d_Mo_noteBare_71 rfl ?_
    refine aw_aload_n d_Mo_noteBare_73 rfl ?_
    refine aw_get d_Mo_noteBare_74 fl_Mo_72 rfl rfl ?_
    refine aw_eqs (congrArg (fun z => Value.int z :: _) hn) ?_
    refine aw_icmp_ge (tgt := 166) d_Mo_noteBare_77 (by decide) (fun h77 => absurd h77 (nI_ge (by omega) (by omega))) (fun h77 => ?_)
    refine aw_iconst (v := nI 0) d_Mo_noteBare_80 (by decide) ?_
    refine aw_istore d_Mo_noteBare_81 (Nat.le_of_ble_eq_true rfl) ?_
    refine aw_pick (lv' := [(5, .int (nI 0)), (2, .int (rp_f S np k x p)), (4, .int (nI p)), (3, .int (nI t)), (1, .int (nI k)), (0, .ref 36)]) ⟨rfl, rfl, rfl, rfl, rfl, rfl, trivial⟩ ?_
    refine lp_Mo_noteBare_q C S np hn h5 wb k p t hk (by omega) (rp_f S np k x p) _ ?_ np 0 [] (by omega)
    refine aw_iinc d_Mo_noteBare_160 rfl (nI_1 _) (Nat.le_of_ble_eq_true rfl) ?_
    refine aw_goto (tgt := 71) d_Mo_noteBare_163 (by decide) ?_
    refine aw_pick (lv' := [(4, .int (nI (p + 1))), (2, .int (rp_f S np k x (p + 1))), (3, .int (nI t)), (1, .int (nI k)), (0, .ref 36)]) ⟨rfl, rfl, rfl, rfl, rfl, trivial⟩ ?_
    exact ih (p + 1) [] (by omega)
theorem lp_Mo_noteBare_t (C S : cs_S) (np : Nat) (hn : S.2.2 0 = nI np) (h5 : np ≤ 5) (wb : Nat → Int32) (k : Nat) (hk : k < 4) (x : Int32) (Z : am_E) (K : AW (am_Mof y_Mo_noteBare) 1 0 0 172 [(2, .int (rt_f S np k x 5)), (1, .int (nI k)), (0, .ref 36)] [] (cs_w C ++ ms_w (cs_I S 50 wb)) 0 0 Z) : ∀ (n t : Nat) (g : List (Nat × Value)), t + n = 5 → AW (am_Mof y_Mo_noteBare) 1 0 0 63 ([(3, .int (nI t)), (2, .int (rt_f S np k x t)), (1, .int (nI k)), (0, .ref 36)] ++ g) [] (cs_w C ++ ms_w (cs_I S 50 wb)) 0 0 Z := by
  intro n
  induction n with
  | zero =>
    intro t g ht
    obtain rfl : t = 5 := by omega
    refine aw_sub (lv' := [(3, .int (nI 5)), (2, .int (rt_f S np k x 5)), (1, .int (nI k)), (0, .ref 36)]) (by simp) ?_
    refine aw_iload_n d_Mo_noteBare_63 rfl ?_
    refine aw_iconst (v := nI 5) d_Mo_noteBare_64 (by decide) ?_
    refine aw_icmp_ge (tgt := 172) d_Mo_noteBare_65 (by decide) (fun h65 => ?_) (fun h65 => absurd (nI_le (Nat.le_refl _) (by omega)) h65)
    exact aw_pick (lv' := [(2, .int (rt_f S np k x 5)), (1, .int (nI k)), (0, .ref 36)]) ⟨rfl, rfl, rfl, trivial⟩ K
  | succ n ih =>
    intro t g ht
    refine aw_sub (lv' := [(3, .int (nI t)), (2, .int (rt_f S np k x t)), (1, .int (nI k)), (0, .ref 36)]) (by simp) ?_
    refine aw_iload_n d_Mo_noteBare_63 rfl ?_
    refine aw_iconst (v := nI 5) d_Mo_noteBare_64 (by decide) ?_
    refine aw_icmp_ge (tgt := 172) d_Mo_noteBare_65 (by decide) (fun h65 => absurd h65 (nI_ge (by omega) (by omega))) (fun h65 => ?_)
    refine aw_iconst (v := nI 0) d_Mo_noteBare_68 (by decide) ?_
    refine aw_istore d_Mo_noteBare_69 (Nat.le_of_ble_eq_true rfl) ?_
    refine aw_pick (lv' := [(4, .int (nI 0)), (2, .int (rt_f S np k x t)), (3, .int (nI t)), (1, .int (nI k)), (0, .ref 36)]) ⟨rfl, rfl, rfl, rfl, rfl, trivial⟩ ?_
    refine lp_Mo_noteBare_p C S np hn h5 wb k t hk (rt_f S np k x t) _ ?_ np 0 [] (by omega)
    refine aw_iinc d_Mo_noteBare_166 rfl (nI_1 _) (Nat.le_of_ble_eq_true rfl) ?_
    refine aw_goto (tgt := 63) d_Mo_noteBare_169 (by decide) ?_
    refine aw_pick (lv' := [(3, .int (nI (t + 1))), (2, .int (rt_f S np k x (t + 1))), (1, .int (nI k)), (0, .ref 36)]) ⟨rfl, rfl, rfl, rfl, trivial⟩ ?_
    exact ih (t + 1) [] (by omega)
theorem lp_Mo_noteBare_f (C S : cs_S) (wb : Nat → Int32) (nf : Nat) (hnf : S.2.2 5 = nI nf) (h60 : nf ≤ 60) (k : Nat) (Z : am_E) (K : AW (am_Mof y_Mo_noteBare) 1 0 0 61 [(2, .int (nb_1 S k nf)), (1, .int (nI k)), (0, .ref 36)] [] (cs_w C ++ ms_w (cs_I S 50 wb)) 0 0 Z) : ∀ (n f : Nat) (g : List (Nat × Value)), f + n = nf → AW (am_Mof y_Mo_noteBare) 1 0 0 11 ([(3, .int (nI f)), (2, .int (nb_1 S k f)), (1, .int (nI k)), (0, .ref 36)] ++ g) [] (cs_w C ++ ms_w (cs_I S 50 wb)) 0 0 Z := by
  intro n
  induction n with
  | zero =>
    intro f g hf
    obtain rfl : nf = f := by omega
    refine aw_sub (lv' := [(3, .int (nI nf)), (2, .int (nb_1 S k nf)), (1, .int (nI k)), (0, .ref 36)]) (by simp) ?_
    refine aw_iload_n d_Mo_noteBare_11 rfl ?_
    refine aw_aload_n d_Mo_noteBare_12 rfl ?_
    refine aw_get d_Mo_noteBare_13 fl_Mo_97 rfl rfl ?_
    refine aw_eqs (congrArg (fun z => Value.int z :: _) hnf) ?_
    refine aw_icmp_ge (tgt := 61) d_Mo_noteBare_16 (by decide) (fun h16 => ?_) (fun h16 => absurd (nI_le (Nat.le_refl _) (by omega)) h16)
    exact aw_pick (lv' := [(2, .int (nb_1 S k nf)), (1, .int (nI k)), (0, .ref 36)]) ⟨rfl, rfl, rfl, trivial⟩ K
  | succ n ih =>
    intro f g hf
    refine aw_sub (lv' := [(3, .int (nI f)), (2, .int (nb_1 S k f)), (1, .int (nI k)), (0, .ref 36)]) (by simp) ?_
    refine aw_iload_n d_Mo_noteBare_11 rfl ?_
    refine aw_aload_n d_Mo_noteBare_12 rfl ?_
    refine aw_get d_Mo_noteBare_13 fl_Mo_97 rfl rfl ?_
    refine aw_eqs (congrArg (fun z => Value.int z :: _) hnf) ?_
    refine aw_icmp_ge (tgt := 61) d_Mo_noteBare_16 (by decide) (fun h16 => absurd h16 (nI_ge (by omega) (by omega))) (fun h16 => ?_)
    refine aw_iload_n d_Mo_noteBare_19 rfl ?_
    refine aw_aload_n d_Mo_noteBare_20 rfl ?_
    refine aw_get d_Mo_noteBare_21 fl_Mo_26 rfl rfl ?_
    refine aw_iload_n d_Mo_noteBare_24 rfl ?_
    refine aw_ialdN d_Mo_noteBare_25 rfl (by omega) (Nat.le_of_ble_eq_true rfl) ?_
    refine aw_iload_n d_Mo_noteBare_26 rfl ?_
    refine aw_icmp_ne (tgt := 52) d_Mo_noteBare_27 (by decide) (fun h27 => ?_) (fun h27 => ?_)
    · have h27 : ¬ S.1 42 f = nI k := h27
      refine aw_iconst (v := nI 0) d_Mo_noteBare_52 (by decide) ?_
      refine aw_eqs (st' := [.int (if S.1 42 f = nI k ∧ lN 0 < S.2.1 45 f then nI 1 <<< (S.1 41 f &&& 31) else nI 0), .int (nb_1 S k f)]) (by rw [if_neg (fun c => h27 c.1)]; try rfl) ?_
      refine aw_ior d_Mo_noteBare_53 ?_
      refine aw_istore_n d_Mo_noteBare_54 (Nat.le_of_ble_eq_true rfl) ?_
      refine aw_iinc d_Mo_noteBare_55 rfl (nI_1 _) (Nat.le_of_ble_eq_true rfl) ?_
      refine aw_goto (tgt := 11) d_Mo_noteBare_58 (by decide) ?_
      refine aw_pick (lv' := [(3, .int (nI (f + 1))), (2, .int (nb_1 S k (f + 1))), (1, .int (nI k)), (0, .ref 36)]) ⟨rfl, rfl, rfl, rfl, trivial⟩ ?_
      exact ih (f + 1) [] (by omega)
    · have h27 : S.1 42 f = nI k := h27
      refine aw_aload_n d_Mo_noteBare_30 rfl ?_
      refine aw_get d_Mo_noteBare_31 fl_Mo_35 rfl rfl ?_
      refine aw_iload_n d_Mo_noteBare_34 rfl ?_
      refine aw_laldN d_Mo_noteBare_35 rfl (by omega) (Nat.le_of_ble_eq_true rfl) ?_
      refine aw_lconst (v := lN 0) d_Mo_noteBare_36 rfl ?_
      refine aw_lc_le (tgt := 52) d_Mo_noteBare_37 d_Mo_noteBare_38 (by decide) (fun h38 => ?_) (fun h38 => ?_)
      · have h38 : S.2.1 45 f ≤ lN 0 := h38
        refine aw_iconst (v := nI 0) d_Mo_noteBare_52 (by decide) ?_
        refine aw_eqs (st' := [.int (if S.1 42 f = nI k ∧ lN 0 < S.2.1 45 f then nI 1 <<< (S.1 41 f &&& 31) else nI 0), .int (nb_1 S k f)]) (by rw [if_neg (fun c => (i64_nlt _ _).mpr h38 c.2)]; try rfl) ?_
        refine aw_ior d_Mo_noteBare_53 ?_
        refine aw_istore_n d_Mo_noteBare_54 (Nat.le_of_ble_eq_true rfl) ?_
        refine aw_iinc d_Mo_noteBare_55 rfl (nI_1 _) (Nat.le_of_ble_eq_true rfl) ?_
        refine aw_goto (tgt := 11) d_Mo_noteBare_58 (by decide) ?_
        refine aw_pick (lv' := [(3, .int (nI (f + 1))), (2, .int (nb_1 S k (f + 1))), (1, .int (nI k)), (0, .ref 36)]) ⟨rfl, rfl, rfl, rfl, trivial⟩ ?_
        exact ih (f + 1) [] (by omega)
      · have h38 : ¬ S.2.1 45 f ≤ lN 0 := h38
        refine aw_iconst (v := nI 1) d_Mo_noteBare_41 (by decide) ?_
        refine aw_aload_n d_Mo_noteBare_42 rfl ?_
        refine aw_get d_Mo_noteBare_43 fl_Mo_23 rfl rfl ?_
        refine aw_iload_n d_Mo_noteBare_46 rfl ?_
        refine aw_ialdN d_Mo_noteBare_47 rfl (by omega) (Nat.le_of_ble_eq_true rfl) ?_
        refine aw_ishl d_Mo_noteBare_48 ?_
        refine aw_goto (tgt := 53) d_Mo_noteBare_49 (by decide) ?_
        refine aw_eqs (st' := [.int (if S.1 42 f = nI k ∧ lN 0 < S.2.1 45 f then nI 1 <<< (S.1 41 f &&& 31) else nI 0), .int (nb_1 S k f)]) (by rw [if_pos ⟨h27, Int64.not_le.mp h38⟩]; try rfl) ?_
        refine aw_ior d_Mo_noteBare_53 ?_
        refine aw_istore_n d_Mo_noteBare_54 (Nat.le_of_ble_eq_true rfl) ?_
        refine aw_iinc d_Mo_noteBare_55 rfl (nI_1 _) (Nat.le_of_ble_eq_true rfl) ?_
        refine aw_goto (tgt := 11) d_Mo_noteBare_58 (by decide) ?_
        refine aw_pick (lv' := [(3, .int (nI (f + 1))), (2, .int (nb_1 S k (f + 1))), (1, .int (nI k)), (0, .ref 36)]) ⟨rfl, rfl, rfl, rfl, trivial⟩ ?_
        exact ih (f + 1) [] (by omega)
theorem lp_Mo_noteBare_e (C S : cs_S) (np : Nat) (hn : S.2.2 0 = nI np) (h5 : np ≤ 5) (wb : Nat → Int32) (k : Nat) (hk : k < 4) (x : Int32) (Z : am_E) (K : AW (am_Mof y_Mo_noteBare) 1 0 0 254 [(1, .int (nI k)), (0, .ref 36)] [] (cs_w C ++ ms_w (cs_I S 50 (nb_2 S k x wb np))) 0 0 Z) : ∀ (n p : Nat) (g : List (Nat × Value)), p + n = np → AW (am_Mof y_Mo_noteBare) 1 0 0 174 ([(3, .int (nI p)), (2, .int x), (1, .int (nI k)), (0, .ref 36)] ++ g) [] (cs_w C ++ ms_w (cs_I S 50 (nb_2 S k x wb p))) 0 0 Z := by
  intro n
  induction n with
  | zero =>
    intro p g hp
    obtain rfl : np = p := by omega
    refine aw_sub (lv' := [(3, .int (nI np)), (2, .int x), (1, .int (nI k)), (0, .ref 36)]) (by simp) ?_
    refine aw_iload_n d_Mo_noteBare_174 rfl ?_
    refine aw_aload_n d_Mo_noteBare_175 rfl ?_
    refine aw_get d_Mo_noteBare_176 fl_Mo_72 rfl rfl ?_
    refine aw_eqs (congrArg (fun z => Value.int z :: _) hn) ?_
    refine aw_icmp_ge (tgt := 254) d_Mo_noteBare_179 (by decide) (fun h179 => ?_) (fun h179 => absurd (nI_le (Nat.le_refl _) (by omega)) h179)
    exact aw_pick (lv' := [(1, .int (nI k)), (0, .ref 36)]) ⟨rfl, rfl, trivial⟩ K
  | succ n ih =>
    intro p g hp
    refine aw_sub (lv' := [(3, .int (nI p)), (2, .int x), (1, .int (nI k)), (0, .ref 36)]) (by simp) ?_
    refine aw_iload_n d_Mo_noteBare_174 rfl ?_
    refine aw_aload_n d_Mo_noteBare_175 rfl ?_
    refine aw_get d_Mo_noteBare_176 fl_Mo_72 rfl rfl ?_
    refine aw_eqs (congrArg (fun z => Value.int z :: _) hn) ?_
    refine aw_icmp_ge (tgt := 254) d_Mo_noteBare_179 (by decide) (fun h179 => absurd h179 (nI_ge (by omega) (by omega))) (fun h179 => ?_)
    refine aw_aload_n d_Mo_noteBare_182 rfl ?_
    refine aw_get d_Mo_noteBare_183 fl_Mo_13 rfl rfl ?_
    refine aw_iconst (v := nI 4) d_Mo_noteBare_186 (by decide) ?_
    refine aw_iload_n d_Mo_noteBare_187 rfl ?_
    refine aw_imul d_Mo_noteBare_188 ?_
    try simp only [pk_mul, nI_add]
    refine aw_iload_n d_Mo_noteBare_189 rfl ?_
    refine aw_iadd d_Mo_noteBare_190 ?_
    try simp only [pk_mul, nI_add]
    refine aw_zaldN d_Mo_noteBare_191 rfl (by omega) (Nat.le_of_ble_eq_true rfl) ?_
    refine aw_if_ne (tgt := 216) d_Mo_noteBare_192 (by decide) (fun h192 => ?_) (fun h192 => ?_)
    · have h192 : ¬ S.1 38 (4 * p + k) = 0 := h192
      refine aw_iconst (v := nI 0) d_Mo_noteBare_216 (by decide) ?_
      have hg : bI (bm_c S k p) = 0 := bI_f (fun c => h192 c.1)
      refine aw_eqs (st' := [.int (bI (bm_c S k p))]) (by rw [hg]; rfl) ?_
      refine aw_istore d_Mo_noteBare_217 (Nat.le_of_ble_eq_true rfl) ?_
      refine aw_aload_n d_Mo_noteBare_219 rfl ?_
      refine aw_get d_Mo_noteBare_220 fl_Mo_51 rfl rfl ?_
      refine aw_iconst (v := nI 4) d_Mo_noteBare_223 (by decide) ?_
      refine aw_iload_n d_Mo_noteBare_224 rfl ?_
      refine aw_imul d_Mo_noteBare_225 ?_
      try simp only [pk_mul, nI_add]
      refine aw_iload_n d_Mo_noteBare_226 rfl ?_
      refine aw_iadd d_Mo_noteBare_227 ?_
      try simp only [pk_mul, nI_add]
      refine aw_iload d_Mo_noteBare_228 rfl ?_
      refine aw_if_eq (tgt := 246) d_Mo_noteBare_230 (by decide) (fun h230 => ?_) (fun h230 => ?_)
      · refine aw_iconst (v := nI 0) d_Mo_noteBare_246 (by decide) ?_
        have hg2 : bI (bm_c S k p ∧ rb_c x p) = 0 := bI_f (fun c => (bI_0 _).mp h230 c.1)
        refine aw_eqs (st' := [.int (bI (bm_c S k p ∧ rb_c x p)), .int (nI (4 * p + k)), .ref 50]) (by rw [hg2]; rfl) ?_
        refine aw_zastN d_Mo_noteBare_247 rfl (by omega) (Nat.le_of_ble_eq_true rfl) (show _ = cs_w C ++ ms_w (cs_I S 50 (nb_2 S k x wb (p + 1))) from by rw [bI_vp]; exact (ms_s50 _ _ _).trans (by rw [cs_II]; rfl)) ?_
        refine aw_iinc d_Mo_noteBare_248 rfl (nI_1 _) (Nat.le_of_ble_eq_true rfl) ?_
        refine aw_goto (tgt := 174) d_Mo_noteBare_251 (by decide) ?_
        refine aw_pick (lv' := [(3, .int (nI (p + 1))), (2, .int x), (1, .int (nI k)), (0, .ref 36)]) ⟨rfl, rfl, rfl, rfl, trivial⟩ ?_
        exact ih (p + 1) [] (by omega)
      · refine aw_iload_n d_Mo_noteBare_233 rfl ?_
        refine aw_iload_n d_Mo_noteBare_234 rfl ?_
        refine aw_ishr d_Mo_noteBare_235 ?_
        refine aw_iconst (v := nI 1) d_Mo_noteBare_236 (by decide) ?_
        refine aw_iand d_Mo_noteBare_237 ?_
        refine aw_iconst (v := nI 1) d_Mo_noteBare_238 (by decide) ?_
        refine aw_icmp_ne (tgt := 246) d_Mo_noteBare_239 (by decide) (fun h239 => ?_) (fun h239 => ?_)
        · refine aw_iconst (v := nI 0) d_Mo_noteBare_246 (by decide) ?_
          have hg2 : bI (bm_c S k p ∧ rb_c x p) = 0 := bI_f (fun c => h239 c.2)
          refine aw_eqs (st' := [.int (bI (bm_c S k p ∧ rb_c x p)), .int (nI (4 * p + k)), .ref 50]) (by rw [hg2]; rfl) ?_
          refine aw_zastN d_Mo_noteBare_247 rfl (by omega) (Nat.le_of_ble_eq_true rfl) (show _ = cs_w C ++ ms_w (cs_I S 50 (nb_2 S k x wb (p + 1))) from by rw [bI_vp]; exact (ms_s50 _ _ _).trans (by rw [cs_II]; rfl)) ?_
          refine aw_iinc d_Mo_noteBare_248 rfl (nI_1 _) (Nat.le_of_ble_eq_true rfl) ?_
          refine aw_goto (tgt := 174) d_Mo_noteBare_251 (by decide) ?_
          refine aw_pick (lv' := [(3, .int (nI (p + 1))), (2, .int x), (1, .int (nI k)), (0, .ref 36)]) ⟨rfl, rfl, rfl, rfl, trivial⟩ ?_
          exact ih (p + 1) [] (by omega)
        · refine aw_iconst (v := nI 1) d_Mo_noteBare_242 (by decide) ?_
          refine aw_goto (tgt := 247) d_Mo_noteBare_243 (by decide) ?_
          have hg2 : bI (bm_c S k p ∧ rb_c x p) = 1 := bI_t ⟨bI_n h230, h239⟩
          refine aw_eqs (st' := [.int (bI (bm_c S k p ∧ rb_c x p)), .int (nI (4 * p + k)), .ref 50]) (by rw [hg2]; rfl) ?_
          refine aw_zastN d_Mo_noteBare_247 rfl (by omega) (Nat.le_of_ble_eq_true rfl) (show _ = cs_w C ++ ms_w (cs_I S 50 (nb_2 S k x wb (p + 1))) from by rw [bI_vp]; exact (ms_s50 _ _ _).trans (by rw [cs_II]; rfl)) ?_
          refine aw_iinc d_Mo_noteBare_248 rfl (nI_1 _) (Nat.le_of_ble_eq_true rfl) ?_
          refine aw_goto (tgt := 174) d_Mo_noteBare_251 (by decide) ?_
          refine aw_pick (lv' := [(3, .int (nI (p + 1))), (2, .int x), (1, .int (nI k)), (0, .ref 36)]) ⟨rfl, rfl, rfl, rfl, trivial⟩ ?_
          exact ih (p + 1) [] (by omega)
    · have h192 : S.1 38 (4 * p + k) = 0 := h192
      refine aw_aload_n d_Mo_noteBare_195 rfl ?_
      refine aw_iload_n d_Mo_noteBare_196 rfl ?_
      refine aw_cV1 d_Mo_noteBare_197 (c_Mo_shared C (cs_I S 50 (nb_2 S k x wb p)) p (by omega)) mk_Mo_shared is_Mo_shared ln_Mo_110 rfl rfl rfl rfl (Nat.le_of_ble_eq_true rfl) (Nat.le_of_ble_eq_true rfl) (Nat.le_of_ble_eq_true rfl) (Nat.le_of_ble_eq_true rfl) ?_
      refine aw_if_ne (tgt := 216) d_Mo_noteBare_200 (by decide) (fun h200 => ?_) (fun h200 => ?_)
      · have h200 : ¬ sd_f (S.1 37) p 5 = 0 := h200
        refine aw_iconst (v := nI 0) d_Mo_noteBare_216 (by decide) ?_
        have hg : bI (bm_c S k p) = 0 := bI_f (fun c => h200 c.2.1)
        refine aw_eqs (st' := [.int (bI (bm_c S k p))]) (by rw [hg]; rfl) ?_
        refine aw_istore d_Mo_noteBare_217 (Nat.le_of_ble_eq_true rfl) ?_
        refine aw_aload_n d_Mo_noteBare_219 rfl ?_
        refine aw_get d_Mo_noteBare_220 fl_Mo_51 rfl rfl ?_
        refine aw_iconst (v := nI 4) d_Mo_noteBare_223 (by decide) ?_
        refine aw_iload_n d_Mo_noteBare_224 rfl ?_
        refine aw_imul d_Mo_noteBare_225 ?_
        try simp only [pk_mul, nI_add]
        refine aw_iload_n d_Mo_noteBare_226 rfl ?_
        refine aw_iadd d_Mo_noteBare_227 ?_
        try simp only [pk_mul, nI_add]
        refine aw_iload d_Mo_noteBare_228 rfl ?_
        refine aw_if_eq (tgt := 246) d_Mo_noteBare_230 (by decide) (fun h230 => ?_) (fun h230 => ?_)
        · refine aw_iconst (v := nI 0) d_Mo_noteBare_246 (by decide) ?_
          have hg2 : bI (bm_c S k p ∧ rb_c x p) = 0 := bI_f (fun c => (bI_0 _).mp h230 c.1)
          refine aw_eqs (st' := [.int (bI (bm_c S k p ∧ rb_c x p)), .int (nI (4 * p + k)), .ref 50]) (by rw [hg2]; rfl) ?_
          refine aw_zastN d_Mo_noteBare_247 rfl (by omega) (Nat.le_of_ble_eq_true rfl) (show _ = cs_w C ++ ms_w (cs_I S 50 (nb_2 S k x wb (p + 1))) from by rw [bI_vp]; exact (ms_s50 _ _ _).trans (by rw [cs_II]; rfl)) ?_
          refine aw_iinc d_Mo_noteBare_248 rfl (nI_1 _) (Nat.le_of_ble_eq_true rfl) ?_
          refine aw_goto (tgt := 174) d_Mo_noteBare_251 (by decide) ?_
          refine aw_pick (lv' := [(3, .int (nI (p + 1))), (2, .int x), (1, .int (nI k)), (0, .ref 36)]) ⟨rfl, rfl, rfl, rfl, trivial⟩ ?_
          exact ih (p + 1) [] (by omega)
        · refine aw_iload_n d_Mo_noteBare_233 rfl ?_
          refine aw_iload_n d_Mo_noteBare_234 rfl ?_
          refine aw_ishr d_Mo_noteBare_235 ?_
          refine aw_iconst (v := nI 1) d_Mo_noteBare_236 (by decide) ?_
          refine aw_iand d_Mo_noteBare_237 ?_
          refine aw_iconst (v := nI 1) d_Mo_noteBare_238 (by decide) ?_
          refine aw_icmp_ne (tgt := 246) d_Mo_noteBare_239 (by decide) (fun h239 => ?_) (fun h239 => ?_)
          · refine aw_iconst (v := nI 0) d_Mo_noteBare_246 (by decide) ?_
            have hg2 : bI (bm_c S k p ∧ rb_c x p) = 0 := bI_f (fun c => h239 c.2)
            refine aw_eqs (st' := [.int (bI (bm_c S k p ∧ rb_c x p)), .int (nI (4 * p + k)), .ref 50]) (by rw [hg2]; rfl) ?_
            refine aw_zastN d_Mo_noteBare_247 rfl (by omega) (Nat.le_of_ble_eq_true rfl) (show _ = cs_w C ++ ms_w (cs_I S 50 (nb_2 S k x wb (p + 1))) from by rw [bI_vp]; exact (ms_s50 _ _ _).trans (by rw [cs_II]; rfl)) ?_
            refine aw_iinc d_Mo_noteBare_248 rfl (nI_1 _) (Nat.le_of_ble_eq_true rfl) ?_
            refine aw_goto (tgt := 174) d_Mo_noteBare_251 (by decide) ?_
            refine aw_pick (lv' := [(3, .int (nI (p + 1))), (2, .int x), (1, .int (nI k)), (0, .ref 36)]) ⟨rfl, rfl, rfl, rfl, trivial⟩ ?_
            exact ih (p + 1) [] (by omega)
          · refine aw_iconst (v := nI 1) d_Mo_noteBare_242 (by decide) ?_
            refine aw_goto (tgt := 247) d_Mo_noteBare_243 (by decide) ?_
            have hg2 : bI (bm_c S k p ∧ rb_c x p) = 1 := bI_t ⟨bI_n h230, h239⟩
            refine aw_eqs (st' := [.int (bI (bm_c S k p ∧ rb_c x p)), .int (nI (4 * p + k)), .ref 50]) (by rw [hg2]; rfl) ?_
            refine aw_zastN d_Mo_noteBare_247 rfl (by omega) (Nat.le_of_ble_eq_true rfl) (show _ = cs_w C ++ ms_w (cs_I S 50 (nb_2 S k x wb (p + 1))) from by rw [bI_vp]; exact (ms_s50 _ _ _).trans (by rw [cs_II]; rfl)) ?_
            refine aw_iinc d_Mo_noteBare_248 rfl (nI_1 _) (Nat.le_of_ble_eq_true rfl) ?_
            refine aw_goto (tgt := 174) d_Mo_noteBare_251 (by decide) ?_
            refine aw_pick (lv' := [(3, .int (nI (p + 1))), (2, .int x), (1, .int (nI k)), (0, .ref 36)]) ⟨rfl, rfl, rfl, rfl, trivial⟩ ?_
            exact ih (p + 1) [] (by omega)
      · have h200 : sd_f (S.1 37) p 5 = 0 := h200
        refine aw_aload_n d_Mo_noteBare_203 rfl ?_
        refine aw_get d_Mo_noteBare_204 fl_Mo_17 rfl rfl ?_
        refine aw_iload_n d_Mo_noteBare_207 rfl ?_
        refine aw_zaldN d_Mo_noteBare_208 rfl (by omega) (Nat.le_of_ble_eq_true rfl) ?_
        refine aw_if_ne (tgt := 216) d_Mo_noteBare_209 (by decide) (fun h209 => ?_) (fun h209 => ?_)
        · have h209 : ¬ S.1 39 p = 0 := h209
          refine aw_iconst (v := nI 0) d_Mo_noteBare_216 (by decide) ?_
          have hg : bI (bm_c S k p) = 0 := bI_f (fun c => h209 c.2.2)
          refine aw_eqs (st' := [.int (bI (bm_c S k p))]) (by rw [hg]; rfl) ?_
          refine aw_istore d_Mo_noteBare_217 (Nat.le_of_ble_eq_true rfl) ?_
          refine aw_aload_n d_Mo_noteBare_219 rfl ?_
          refine aw_get d_Mo_noteBare_220 fl_Mo_51 rfl rfl ?_
          refine aw_iconst (v := nI 4) d_Mo_noteBare_223 (by decide) ?_
          refine aw_iload_n d_Mo_noteBare_224 rfl ?_
          refine aw_imul d_Mo_noteBare_225 ?_
          try simp only [pk_mul, nI_add]
          refine aw_iload_n d_Mo_noteBare_226 rfl ?_
          refine aw_iadd d_Mo_noteBare_227 ?_
          try simp only [pk_mul, nI_add]
          refine aw_iload d_Mo_noteBare_228 rfl ?_
          refine aw_if_eq (tgt := 246) d_Mo_noteBare_230 (by decide) (fun h230 => ?_) (fun h230 => ?_)
          · refine aw_iconst (v := nI 0) d_Mo_noteBare_246 (by decide) ?_
            have hg2 : bI (bm_c S k p ∧ rb_c x p) = 0 := bI_f (fun c => (bI_0 _).mp h230 c.1)
            refine aw_eqs (st' := [.int (bI (bm_c S k p ∧ rb_c x p)), .int (nI (4 * p + k)), .ref 50]) (by rw [hg2]; rfl) ?_
            refine aw_zastN d_Mo_noteBare_247 rfl (by omega) (Nat.le_of_ble_eq_true rfl) (show _ = cs_w C ++ ms_w (cs_I S 50 (nb_2 S k x wb (p + 1))) from by rw [bI_vp]; exact (ms_s50 _ _ _).trans (by rw [cs_II]; rfl)) ?_
            refine aw_iinc d_Mo_noteBare_248 rfl (nI_1 _) (Nat.le_of_ble_eq_true rfl) ?_
            refine aw_goto (tgt := 174) d_Mo_noteBare_251 (by decide) ?_
            refine aw_pick (lv' := [(3, .int (nI (p + 1))), (2, .int x), (1, .int (nI k)), (0, .ref 36)]) ⟨rfl, rfl, rfl, rfl, trivial⟩ ?_
            exact ih (p + 1) [] (by omega)
          · refine aw_iload_n d_Mo_noteBare_233 rfl ?_
            refine aw_iload_n d_Mo_noteBare_234 rfl ?_
            refine aw_ishr d_Mo_noteBare_235 ?_
            refine aw_iconst (v := nI 1) d_Mo_noteBare_236 (by decide) ?_
            refine aw_iand d_Mo_noteBare_237 ?_
            refine aw_iconst (v := nI 1) d_Mo_noteBare_238 (by decide) ?_
            refine aw_icmp_ne (tgt := 246) d_Mo_noteBare_239 (by decide) (fun h239 => ?_) (fun h239 => ?_)
            · refine aw_iconst (v := nI 0) d_Mo_noteBare_246 (by decide) ?_
              have hg2 : bI (bm_c S k p ∧ rb_c x p) = 0 := bI_f (fun c => h239 c.2)
              refine aw_eqs (st' := [.int (bI (bm_c S k p ∧ rb_c x p)), .int (nI (4 * p + k)), .ref 50]) (by rw [hg2]; rfl) ?_
              refine aw_zastN d_Mo_noteBare_247 rfl (by omega) (Nat.le_of_ble_eq_true rfl) (show _ = cs_w C ++ ms_w (cs_I S 50 (nb_2 S k x wb (p + 1))) from by rw [bI_vp]; exact (ms_s50 _ _ _).trans (by rw [cs_II]; rfl)) ?_
              refine aw_iinc d_Mo_noteBare_248 rfl (nI_1 _) (Nat.le_of_ble_eq_true rfl) ?_
              refine aw_goto (tgt := 174) d_Mo_noteBare_251 (by decide) ?_
              refine aw_pick (lv' := [(3, .int (nI (p + 1))), (2, .int x), (1, .int (nI k)), (0, .ref 36)]) ⟨rfl, rfl, rfl, rfl, trivial⟩ ?_
              exact ih (p + 1) [] (by omega)
            · refine aw_iconst (v := nI 1) d_Mo_noteBare_242 (by decide) ?_
              refine aw_goto (tgt := 247) d_Mo_noteBare_243 (by decide) ?_
              have hg2 : bI (bm_c S k p ∧ rb_c x p) = 1 := bI_t ⟨bI_n h230, h239⟩
              refine aw_eqs (st' := [.int (bI (bm_c S k p ∧ rb_c x p)), .int (nI (4 * p + k)), .ref 50]) (by rw [hg2]; rfl) ?_
              refine aw_zastN d_Mo_noteBare_247 rfl (by omega) (Nat.le_of_ble_eq_true rfl) (show _ = cs_w C ++ ms_w (cs_I S 50 (nb_2 S k x wb (p + 1))) from by rw [bI_vp]; exact (ms_s50 _ _ _).trans (by rw [cs_II]; rfl)) ?_
              refine aw_iinc d_Mo_noteBare_248 rfl (nI_1 _) (Nat.le_of_ble_eq_true rfl) ?_
              refine aw_goto (tgt := 174) d_Mo_noteBare_251 (by decide) ?_
              refine aw_pick (lv' := [(3, .int (nI (p + 1))), (2, .int x), (1, .int (nI k)), (0, .ref 36)]) ⟨rfl, rfl, rfl, rfl, trivial⟩ ?_
              exact ih (p + 1) [] (by omega)
        · have h209 : S.1 39 p = 0 := h209
          refine aw_iconst (v := nI 1) d_Mo_noteBare_212 (by decide) ?_
          refine aw_goto (tgt := 217) d_Mo_noteBare_213 (by decide) ?_
          have hg : bI (bm_c S k p) = 1 := bI_t ⟨h192, h200, h209⟩
          refine aw_eqs (st' := [.int (bI (bm_c S k p))]) (by rw [hg]; rfl) ?_
          refine aw_istore d_Mo_noteBare_217 (Nat.le_of_ble_eq_true rfl) ?_
          refine aw_aload_n d_Mo_noteBare_219 rfl ?_
          refine aw_get d_Mo_noteBare_220 fl_Mo_51 rfl rfl ?_
          refine aw_iconst (v := nI 4) d_Mo_noteBare_223 (by decide) ?_
          refine aw_iload_n d_Mo_noteBare_224 rfl ?_
          refine aw_imul d_Mo_noteBare_225 ?_
          try simp only [pk_mul, nI_add]
          refine aw_iload_n d_Mo_noteBare_226 rfl ?_
          refine aw_iadd d_Mo_noteBare_227 ?_
          try simp only [pk_mul, nI_add]
          refine aw_iload d_Mo_noteBare_228 rfl ?_
          refine aw_if_eq (tgt := 246) d_Mo_noteBare_230 (by decide) (fun h230 => ?_) (fun h230 => ?_)
          · refine aw_iconst (v := nI 0) d_Mo_noteBare_246 (by decide) ?_
            have hg2 : bI (bm_c S k p ∧ rb_c x p) = 0 := bI_f (fun c => (bI_0 _).mp h230 c.1)
            refine aw_eqs (st' := [.int (bI (bm_c S k p ∧ rb_c x p)), .int (nI (4 * p + k)), .ref 50]) (by rw [hg2]; rfl) ?_
            refine aw_zastN d_Mo_noteBare_247 rfl (by omega) (Nat.le_of_ble_eq_true rfl) (show _ = cs_w C ++ ms_w (cs_I S 50 (nb_2 S k x wb (p + 1))) from by rw [bI_vp]; exact (ms_s50 _ _ _).trans (by rw [cs_II]; rfl)) ?_
            refine aw_iinc d_Mo_noteBare_248 rfl (nI_1 _) (Nat.le_of_ble_eq_true rfl) ?_
            refine aw_goto (tgt := 174) d_Mo_noteBare_251 (by decide) ?_
            refine aw_pick (lv' := [(3, .int (nI (p + 1))), (2, .int x), (1, .int (nI k)), (0, .ref 36)]) ⟨rfl, rfl, rfl, rfl, trivial⟩ ?_
            exact ih (p + 1) [] (by omega)
          · refine aw_iload_n d_Mo_noteBare_233 rfl ?_
            refine aw_iload_n d_Mo_noteBare_234 rfl ?_
            refine aw_ishr d_Mo_noteBare_235 ?_
            refine aw_iconst (v := nI 1) d_Mo_noteBare_236 (by decide) ?_
            refine aw_iand d_Mo_noteBare_237 ?_
            refine aw_iconst (v := nI 1) d_Mo_noteBare_238 (by decide) ?_
            refine aw_icmp_ne (tgt := 246) d_Mo_noteBare_239 (by decide) (fun h239 => ?_) (fun h239 => ?_)
            · refine aw_iconst (v := nI 0) d_Mo_noteBare_246 (by decide) ?_
              have hg2 : bI (bm_c S k p ∧ rb_c x p) = 0 := bI_f (fun c => h239 c.2)
              refine aw_eqs (st' := [.int (bI (bm_c S k p ∧ rb_c x p)), .int (nI (4 * p + k)), .ref 50]) (by rw [hg2]; rfl) ?_
              refine aw_zastN d_Mo_noteBare_247 rfl (by omega) (Nat.le_of_ble_eq_true rfl) (show _ = cs_w C ++ ms_w (cs_I S 50 (nb_2 S k x wb (p + 1))) from by rw [bI_vp]; exact (ms_s50 _ _ _).trans (by rw [cs_II]; rfl)) ?_
              refine aw_iinc d_Mo_noteBare_248 rfl (nI_1 _) (Nat.le_of_ble_eq_true rfl) ?_
              refine aw_goto (tgt := 174) d_Mo_noteBare_251 (by decide) ?_
              refine aw_pick (lv' := [(3, .int (nI (p + 1))), (2, .int x), (1, .int (nI k)), (0, .ref 36)]) ⟨rfl, rfl, rfl, rfl, trivial⟩ ?_
              exact ih (p + 1) [] (by omega)
            · refine aw_iconst (v := nI 1) d_Mo_noteBare_242 (by decide) ?_
              refine aw_goto (tgt := 247) d_Mo_noteBare_243 (by decide) ?_
              have hg2 : bI (bm_c S k p ∧ rb_c x p) = 1 := bI_t ⟨bI_n h230, h239⟩
              refine aw_eqs (st' := [.int (bI (bm_c S k p ∧ rb_c x p)), .int (nI (4 * p + k)), .ref 50]) (by rw [hg2]; rfl) ?_
              refine aw_zastN d_Mo_noteBare_247 rfl (by omega) (Nat.le_of_ble_eq_true rfl) (show _ = cs_w C ++ ms_w (cs_I S 50 (nb_2 S k x wb (p + 1))) from by rw [bI_vp]; exact (ms_s50 _ _ _).trans (by rw [cs_II]; rfl)) ?_
              refine aw_iinc d_Mo_noteBare_248 rfl (nI_1 _) (Nat.le_of_ble_eq_true rfl) ?_
              refine aw_goto (tgt := 174) d_Mo_noteBare_251 (by decide) ?_
              refine aw_pick (lv' := [(3, .int (nI (p + 1))), (2, .int x), (1, .int (nI k)), (0, .ref 36)]) ⟨rfl, rfl, rfl, rfl, trivial⟩ ?_
              exact ih (p + 1) [] (by omega)
theorem lp_Mo_noteBare_k (C S : cs_S) (np : Nat) (hn : S.2.2 0 = nI np) (h5 : np ≤ 5) (nf : Nat) (hnf : S.2.2 5 = nI nf) (h60 : nf ≤ 60) : ∀ (n k : Nat) (g : List (Nat × Value)), k + n = 4 → AW (am_Mof y_Mo_noteBare) 1 0 0 2 ([(1, .int (nI k)), (0, .ref 36)] ++ g) [] (cs_w C ++ ms_w (cs_I S 50 (nb_w S np nf k))) 0 0 (am_Z none (cs_w C ++ ms_w (cs_I S 50 (nb_w S np nf 4))) 0 0) := by
  intro n
  induction n with
  | zero =>
    intro k g hk
    obtain rfl : k = 4 := by omega
    refine aw_sub (lv' := [(1, .int (nI 4)), (0, .ref 36)]) (by simp) ?_
    refine aw_iload_n d_Mo_noteBare_2 rfl ?_
    refine aw_iconst (v := nI 4) d_Mo_noteBare_3 (by decide) ?_
    refine aw_icmp_ge (tgt := 260) d_Mo_noteBare_4 (by decide) (fun h4 => ?_) (fun h4 => absurd (nI_le (Nat.le_refl _) (by omega)) h4)
    exact aw_vretE d_Mo_noteBare_260 rfl rfl rfl rfl
  | succ n ih =>
    intro k g hk
    refine aw_sub (lv' := [(1, .int (nI k)), (0, .ref 36)]) (by simp) ?_
    refine aw_iload_n d_Mo_noteBare_2 rfl ?_
    refine aw_iconst (v := nI 4) d_Mo_noteBare_3 (by decide) ?_
    refine aw_icmp_ge (tgt := 260) d_Mo_noteBare_4 (by decide) (fun h4 => absurd h4 (nI_ge (by omega) (by omega))) (fun h4 => ?_)
    refine aw_iconst (v := nI 0) d_Mo_noteBare_7 (by decide) ?_
    refine aw_istore_n d_Mo_noteBare_8 (Nat.le_of_ble_eq_true rfl) ?_
    refine aw_iconst (v := nI 0) d_Mo_noteBare_9 (by decide) ?_
    refine aw_istore_n d_Mo_noteBare_10 (Nat.le_of_ble_eq_true rfl) ?_
    refine aw_pick (lv' := [(3, .int (nI 0)), (2, .int (nb_1 S k 0)), (1, .int (nI k)), (0, .ref 36)]) ⟨rfl, rfl, rfl, rfl, trivial⟩ ?_
    refine lp_Mo_noteBare_f C S (nb_w S np nf k) nf hnf h60 k _ ?_ nf 0 [] (by omega)
    refine aw_iconst (v := nI 0) d_Mo_noteBare_61 (by decide) ?_
    refine aw_istore_n d_Mo_noteBare_62 (Nat.le_of_ble_eq_true rfl) ?_
    refine aw_pick (lv' := [(3, .int (nI 0)), (2, .int (rt_f S np k (nb_1 S k nf) 0)), (1, .int (nI k)), (0, .ref 36)]) ⟨rfl, rfl, rfl, rfl, trivial⟩ ?_
    refine lp_Mo_noteBare_t C S np hn h5 (nb_w S np nf k) k (by omega) (nb_1 S k nf) _ ?_ 5 0 [] rfl
    refine aw_iconst (v := nI 0) d_Mo_noteBare_172 (by decide) ?_
    refine aw_istore_n d_Mo_noteBare_173 (Nat.le_of_ble_eq_true rfl) ?_
    refine aw_pick (lv' := [(3, .int (nI 0)), (2, .int (rt_f S np k (nb_1 S k nf) 5)), (1, .int (nI k)), (0, .ref 36)]) ⟨rfl, rfl, rfl, rfl, trivial⟩ ?_
    refine lp_Mo_noteBare_e C S np hn h5 (nb_w S np nf k) k (by omega) (rt_f S np k (nb_1 S k nf) 5) _ ?_ np 0 [] (by omega)
    refine aw_iinc d_Mo_noteBare_254 rfl (nI_1 _) (Nat.le_of_ble_eq_true rfl) ?_
    refine aw_goto (tgt := 2) d_Mo_noteBare_257 (by decide) ?_
    refine aw_pick (lv' := [(1, .int (nI (k + 1))), (0, .ref 36)]) ⟨rfl, rfl, trivial⟩ ?_
    exact ih (k + 1) [] (by omega)
theorem c_Mo_noteBare (C S : cs_S) (np : Nat) (hn : S.2.2 0 = nI np) (h5 : np ≤ 5) (nf : Nat) (hnf : S.2.2 5 = nI nf) (h60 : nf ≤ 60) : am_ct y_Mo_noteBare 1 [.ref 36] (cs_w C ++ ms_w S) none (cs_w C ++ ms_w (cs_I S 50 (nb_w S np nf 4))) 0 0 := by
  refine am_ct.of rfl (Nat.le_of_ble_eq_true rfl) ?_
  refine aw_iconst (v := nI 0) d_Mo_noteBare_0 (by decide) ?_
  refine aw_istore_n d_Mo_noteBare_1 (Nat.le_of_ble_eq_true rfl) ?_
  refine aw_eqw (w' := cs_w C ++ ms_w (cs_I S 50 (nb_w S np nf 0))) (by show cs_w C ++ ms_w S = cs_w C ++ ms_w (cs_I S 50 (S.1 50)); rw [cs_Iid]) ?_
  exact aw_eql rfl (lp_Mo_noteBare_k C S np hn h5 nf hnf h60 4 0 [] rfl)
