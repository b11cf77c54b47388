/-! RateChains: the calls -/
theorem bI_n {c : Prop} [Decidable c] (h : ¬ bI c = 0) : c := Decidable.not_not.mp (fun c2 => h ((bI_0 _).mpr c2))
theorem bI_iff {c d : Prop} [Decidable c] [Decidable d] (h : c ↔ d) : bI c = bI d := by
  unfold bI
  by_cases hc : c
  · rw [if_pos hc, if_pos (h.mp hc)]
  · rw [if_neg hc, if_neg (fun e => hc (h.mpr e))]
theorem if_iff9 {α : Type} {c d : Prop} [Decidable c] [Decidable d] (h : c ↔ d) (x y : α) : (if c then x else y) = if d then x else y := by
  by_cases hc : c
  · rw [if_pos hc, if_pos (h.mp hc)]
  · rw [if_neg hc, if_neg (fun e => hc (h.mpr e))]
theorem in_ex {x : Int32} {n : Nat} (h : 0 ≤ x ∧ x < nI n) (hn : n < 2 ^ 31) : ∃ j : Nat, j < n ∧ x = nI j := vp_in_of (in_of_c h hn) hn
abbrev cN (x : Int32) : Nat := x.toNatClampNeg
abbrev iR (x : Int32) (n : Nat) : Prop := 0 ≤ x ∧ x < nI n
abbrev iP (S : cs_S) (x : Int32) : Prop := 0 ≤ x ∧ x < S.2.2 1
abbrev iW (g l m : Int64) : Prop := l ≤ g ∧ g ≤ m
theorem iP_ex {S : cs_S} {x : Int32} {n1 : Nat} (h : iP S x) (hn : S.2.2 1 = nI n1) (h5 : n1 ≤ 5) : ∃ j : Nat, j < n1 ∧ x = nI j := by
  unfold iP at h
  rw [hn] at h
  exact in_ex h (by omega)
abbrev ok_share (S : cs_S) (x t : Int32) (a b : Int64) : Prop := tn_f a b ≠ -1 ∧ iP S x ∧ iP S t
abbrev sh_c (S : cs_S) (x t : Int32) (a b : Int64) : Prop := S.1 3 (cN x) - S.1 2 (cN x * 5 + cN t) + tn_f a b ≤ nI 10
abbrev ok_feed (S : cs_S) (x k : Int32) (g : Int64) (y c : Int32) : Prop := iP S x ∧ iR k 4 ∧ iR y 10 ∧ iR c 4 ∧ iW g (lN 0) (lN 1000000000)
def cf_counted (S : cs_S) (x y k : Int32) : Int64 := if S.2.2 16 ≠ 0 ∧ iR x 4 ∧ iR y 10 ∧ (k = 0 ∨ k = nI 1) then pt_f (ab_f (S.2.1 28) (cN x) (cN y) 4) (S.2.1 24 (cN x)) k else -1
def cf_rate (S : cs_S) (x y k : Int32) : Int64 := if S.2.2 16 ≠ 0 ∧ iR x 4 ∧ iR y 10 ∧ (k = 0 ∨ k = nI 1) then (if S.2.1 15 (cN x * 10 + cN y) = lN 0 then lN 0 else pt_f (S.2.1 28 (0 * 4 * 10 + (cN x * 10 + cN y))) (S.2.1 24 (cN x) * S.2.1 15 (cN x * 10 + cN y)) k) else -1
def tw_f (S : cs_S) (k : Int32) : Nat → Nat → Nat → Int32
  | 0, _, _ => -1
  | n + 1, i, s => if S.1 5 (i / 4) ≠ 0 ∧ S.1 4 (i / 4 * 4 + i % 4) ≠ 0 then (if nI s = k then nI i else tw_f S k n (i + 1) (s + 1)) else tw_f S k n (i + 1) s
def to_f (S : cs_S) (k : Int32) : Nat → Nat → Nat → Int32
  | 0, _, _ => -1
  | n + 1, i, s => if S.1 31 i ≠ 0 then (if nI s = k then nI i else to_f S k n (i + 1) (s + 1)) else to_f S k n (i + 1) s
abbrev ok_stock (S : cs_S) (c k y : Int32) : Prop := S.2.2 16 ≠ 0 ∧ iR c 4 ∧ iR k 4 ∧ iR y 10
abbrev ts_x (S : cs_S) (c k y : Int32) : Int64 := ts_f (S.2.1 29) (cN c) (cN k) (cN y + 1 - (cN y - 2)) (cN y - 2) (lN 0)
def cf_claim (S : cs_S) (c k y : Int32) (g : Int64) : Int64 := if ok_stock S c k y ∧ iW g (lN 1) (lN 1000000000000) then (if ts_x S c k y < g then -1 else ts_x S c k y - g) else -1
def cg_claim (S : cs_S) (c k y : Int32) (g : Int64) : cs_S := if ok_stock S c k y ∧ iW g (lN 1) (lN 1000000000000) then (if ts_x S c k y < g then S else cs_J S 29 (tk_f (cN c) (cN k) (cN y + 1 - (cN y - 2)) (cN y - 2) g (S.2.1 29))) else S
def cf_left (S : cs_S) (c k y : Int32) : Int64 := if ok_stock S c k y then S.2.1 29 (cN c * 4 * 10 + (cN k * 10 + cN y)) else -1
def df_x (S : cs_S) (ya yb k : Nat) : Int64 := (S.2.1 26 ((k / 4 * 4 + k % 4) * 10 + yb) - S.2.1 26 ((k / 4 * 4 + k % 4) * 10 + ya)) * S.2.1 25 (k / 4 * 4 + k % 4)
def cf_open (S : cs_S) (ya yb k p : Int32) (n1 : Nat) : Int64 := if (S.2.2 16 ≠ 0 ∧ iR ya 10 ∧ iR yb 10 ∧ (p = 0 ∨ p = nI 1)) ∧ ¬ k < 0 ∧ cN k / 4 < n1 then pt_f (df_x S (cN ya) (cN yb) (cN k)) (S.2.1 24 (cN k % 4)) p else lN 0
abbrev ok_audit (n : Int32) (n8 : Nat) : Prop := ¬ n < nI 1 ∧ n ≤ nI n8
def cg_audit (S : cs_S) (x : Int64) (n : Int32) (n8 : Nat) : cs_S := if ok_audit n n8 then cs_F (cs_I S 33 (dr_f n8 (cN n) 0 x (tr_f (S.1 33) n8))) 32 (nI (cN n)) else S
theorem cN_nI {n : Nat} (h : n < 2 ^ 31) : cN (nI n) = n := nI_clamp h
theorem c_RC_plant (S : cs_S) (r : List am_C) : am_ct y_RC_plant 1 [.ref 0] (cs_w S ++ r) (some (.int (if S.2.2 1 < nI 5 then S.2.2 1 + nI 1 - nI 1 else -1))) (cs_w (if S.2.2 1 < nI 5 then cs_F S 1 (S.2.2 1 + nI 1) else S) ++ r) 0 0 := by
  refine am_ct.of rfl (Nat.le_of_ble_eq_true rfl) ?_
  refine aw_aload_n d_RC_plant_0 rfl ?_
  refine aw_get d_RC_plant_1 fl_RC_10 rfl rfl ?_
  refine aw_cV1 d_RC_plant_4 (c_Pl_add S r) mk_Pl_add is_Pl_add ln_RC_51 rfl rfl rfl rfl (Nat.le_of_ble_eq_true rfl) (Nat.le_of_ble_eq_true rfl) (Nat.le_of_ble_eq_true rfl) (Nat.le_of_ble_eq_true rfl) ?_
  exact aw_iretE d_RC_plant_7 rfl rfl rfl rfl rfl
theorem c_RC_share (S : cs_S) (r : List am_C) (x t : Int32) (a b : Int64) (n1 : Nat) (hn1 : S.2.2 1 = nI n1) (h5 : n1 ≤ 5) : am_ct y_RC_share 2 [.ref 0, .int x, .int t, .long a, .long b] (cs_w S ++ r) (some (.int (bI (ok_share S x t a b ∧ sh_c S x t a b)))) (cs_w (if ok_share S x t a b ∧ sh_c S x t a b then cs_I (cs_I S 2 (upd (S.1 2) (cN x * 5 + cN t) (tn_f a b))) 3 (upd (S.1 3) (cN x) (S.1 3 (cN x) - S.1 2 (cN x * 5 + cN t) + tn_f a b)) else S) ++ r) 0 0 := by
  refine am_ct.of rfl (Nat.le_of_ble_eq_true rfl) ?_
  refine aw_lload_n d_RC_share_0 rfl ?_
  refine aw_lload d_RC_share_1 rfl ?_
  refine aw_cS1 d_RC_share_3 (c_RC_tenthsOf _ a b) mk_RC_tenthsOf is_RC_tenthsOf ln_RC_55 rfl rfl (Nat.le_of_ble_eq_true rfl) (Nat.le_of_ble_eq_true rfl) (Nat.le_of_ble_eq_true rfl) (Nat.le_of_ble_eq_true rfl) ?_
  refine aw_istore d_RC_share_6 (Nat.le_of_ble_eq_true rfl) ?_
  refine aw_iload d_RC_share_8 rfl ?_
  refine aw_iconst (v := -1) d_RC_share_10 (by decide) ?_
  refine aw_icmp_eq (tgt := 36) d_RC_share_11 (by decide) (fun h11 => ?_) (fun h11 => ?_)
  · refine aw_iconst (v := nI 0) d_RC_share_36 (by decide) ?_
    exact aw_zretE d_RC_share_37 rfl rfl (bI_f (fun c => c.1.1 h11)).symm (by rw [if_neg (fun c => c.1.1 h11)]) rfl rfl
  · refine aw_aload_n d_RC_share_14 rfl ?_
    refine aw_get d_RC_share_15 fl_RC_10 rfl rfl ?_
    refine aw_iload_n d_RC_share_18 rfl ?_
    refine aw_cV1 d_RC_share_19 (c_Pl_has S r x) mk_Pl_has is_Pl_has ln_RC_59 rfl rfl rfl rfl (Nat.le_of_ble_eq_true rfl) (Nat.le_of_ble_eq_true rfl) (Nat.le_of_ble_eq_true rfl) (Nat.le_of_ble_eq_true rfl) ?_
    refine aw_if_eq (tgt := 36) d_RC_share_22 (by decide) (fun h22 => ?_) (fun h22 => ?_)
    · refine aw_iconst (v := nI 0) d_RC_share_36 (by decide) ?_
      exact aw_zretE d_RC_share_37 rfl rfl (bI_f (fun c => (bI_0 _).mp h22 c.1.2.1)).symm (by rw [if_neg (fun c => (bI_0 _).mp h22 c.1.2.1)]) rfl rfl
    · refine aw_aload_n d_RC_share_25 rfl ?_
      refine aw_get d_RC_share_26 fl_RC_10 rfl rfl ?_
      refine aw_iload_n d_RC_share_29 rfl ?_
      refine aw_cV1 d_RC_share_30 (c_Pl_has S r t) mk_Pl_has is_Pl_has ln_RC_59 rfl rfl rfl rfl (Nat.le_of_ble_eq_true rfl) (Nat.le_of_ble_eq_true rfl) (Nat.le_of_ble_eq_true rfl) (Nat.le_of_ble_eq_true rfl) ?_
      refine aw_if_ne (tgt := 38) d_RC_share_33 (by decide) (fun h33 => ?_) (fun h33 => ?_)
      · have hok : ok_share S x t a b := ⟨h11, bI_n h22, bI_n h33⟩
        obtain ⟨p, hp, ep⟩ := iP_ex (bI_n h22) hn1 h5
        obtain ⟨q, hq, eq⟩ := iP_ex (bI_n h33) hn1 h5
        subst ep
        subst eq
        unfold sh_c
        rw [cN_nI (n := p) (by omega), cN_nI (n := q) (by omega)]
        refine aw_aload_n d_RC_share_38 rfl ?_
        refine aw_get d_RC_share_39 fl_RC_10 rfl rfl ?_
        refine aw_iload_n d_RC_share_42 rfl ?_
        refine aw_iload_n d_RC_share_43 rfl ?_
        refine aw_iload d_RC_share_44 rfl ?_
        refine aw_cV1 d_RC_share_46 (c_Pl_setShare S r p q (tn_f a b) (by omega) (by omega)) mk_Pl_setShare is_Pl_setShare ln_RC_63 rfl rfl rfl rfl (Nat.le_of_ble_eq_true rfl) (Nat.le_of_ble_eq_true rfl) (Nat.le_of_ble_eq_true rfl) (Nat.le_of_ble_eq_true rfl) ?_
        exact aw_zretE d_RC_share_49 rfl (bI_nar _) (bI_iff ⟨fun h => ⟨hok, h⟩, fun h => h.2⟩) (congrArg (fun s => cs_w s ++ r) (if_iff9 ⟨fun h => ⟨hok, h⟩, fun h => h.2⟩ _ _)) rfl rfl
      · refine aw_iconst (v := nI 0) d_RC_share_36 (by decide) ?_
        exact aw_zretE d_RC_share_37 rfl rfl (bI_f (fun c => (bI_0 _).mp h33 c.1.2.2)).symm (by rw [if_neg (fun c => (bI_0 _).mp h33 c.1.2.2)]) rfl rfl
theorem c_RC_point (S : cs_S) (r : List am_C) (x k : Int32) (hb : b01 (S.1 4)) (n1 : Nat) (hn1 : S.2.2 1 = nI n1) (h5 : n1 ≤ 5) : am_ct y_RC_point 3 [.ref 0, .int x, .int k] (cs_w S ++ r) (some (.int (bI ((iP S x ∧ iR k 4) ∧ S.1 4 (cN x * 4 + cN k) = 0)))) (cs_w (if (iP S x ∧ iR k 4) ∧ S.1 4 (cN x * 4 + cN k) = 0 then cs_I S 4 (upd (S.1 4) (cN x * 4 + cN k) 1) else S) ++ r) 0 0 := by
  refine am_ct.of rfl (Nat.le_of_ble_eq_true rfl) ?_
  refine aw_aload_n d_RC_point_0 rfl ?_
  refine aw_get d_RC_point_1 fl_RC_10 rfl rfl ?_
  refine aw_iload_n d_RC_point_4 rfl ?_
  refine aw_cV1 d_RC_point_5 (c_Pl_has S r x) mk_Pl_has is_Pl_has ln_RC_59 rfl rfl rfl rfl (Nat.le_of_ble_eq_true rfl) (Nat.le_of_ble_eq_true rfl) (Nat.le_of_ble_eq_true rfl) (Nat.le_of_ble_eq_true rfl) ?_
  refine aw_if_eq (tgt := 34) d_RC_point_8 (by decide) (fun h8 => ?_) (fun h8 => ?_)
  · refine aw_iconst (v := nI 0) d_RC_point_34 (by decide) ?_
    exact aw_zretE d_RC_point_35 rfl rfl (bI_f (fun c => (bI_0 _).mp h8 c.1.1)).symm (by rw [if_neg (fun c => (bI_0 _).mp h8 c.1.1)]) rfl rfl
  · refine aw_iload_n d_RC_point_11 rfl ?_
    refine aw_cS1 d_RC_point_12 (c_RC_isKind _ k) mk_RC_isKind is_RC_isKind ln_RC_67 rfl rfl (Nat.le_of_ble_eq_true rfl) (Nat.le_of_ble_eq_true rfl) (Nat.le_of_ble_eq_true rfl) (Nat.le_of_ble_eq_true rfl) ?_
    refine aw_if_eq (tgt := 34) d_RC_point_15 (by decide) (fun h15 => ?_) (fun h15 => ?_)
    · refine aw_iconst (v := nI 0) d_RC_point_34 (by decide) ?_
      exact aw_zretE d_RC_point_35 rfl rfl (bI_f (fun c => (bI_0 _).mp h15 c.1.2)).symm (by rw [if_neg (fun c => (bI_0 _).mp h15 c.1.2)]) rfl rfl
    · have hok : iP S x ∧ iR k 4 := ⟨bI_n h8, bI_n h15⟩
      obtain ⟨p, hp, ep⟩ := iP_ex (bI_n h8) hn1 h5
      obtain ⟨q, hq, eq⟩ := in_ex (bI_n h15) (by decide)
      subst ep
      subst eq
      rw [cN_nI (by omega), cN_nI (by omega)]
      refine aw_aload_n d_RC_point_18 rfl ?_
      refine aw_get d_RC_point_19 fl_RC_10 rfl rfl ?_
      refine aw_iload_n d_RC_point_22 rfl ?_
      refine aw_iload_n d_RC_point_23 rfl ?_
      refine aw_cV1 d_RC_point_24 (c_Pl_setPoint S r p q (by omega) hq hb) mk_Pl_setPoint is_Pl_setPoint ln_RC_70 rfl rfl rfl rfl (Nat.le_of_ble_eq_true rfl) (Nat.le_of_ble_eq_true rfl) (Nat.le_of_ble_eq_true rfl) (Nat.le_of_ble_eq_true rfl) ?_
      refine aw_if_eq (tgt := 34) d_RC_point_27 (by decide) (fun h27 => ?_) (fun h27 => ?_)
      · refine aw_iconst (v := nI 0) d_RC_point_34 (by decide) ?_
        exact aw_zretE d_RC_point_35 rfl rfl (bI_f (fun c => (bI_0 _).mp h27 c.2)).symm (by rw [if_neg ((bI_0 _).mp h27), if_neg (fun c => (bI_0 _).mp h27 c.2)]) rfl rfl
      · refine aw_iconst (v := nI 1) d_RC_point_30 (by decide) ?_
        refine aw_goto (tgt := 35) d_RC_point_31 (by decide) ?_
        exact aw_zretE d_RC_point_35 rfl rfl (bI_t ⟨hok, bI_n h27⟩).symm (by rw [if_pos (bI_n h27), if_pos ⟨hok, bI_n h27⟩]) rfl rfl
theorem c_RC_average (S : cs_S) (r : List am_C) (x : Int32) (a b : Int64) (n1 : Nat) (hn1 : S.2.2 1 = nI n1) (h5 : n1 ≤ 5) : am_ct y_RC_average 2 [.ref 0, .int x, .long a, .long b] (cs_w S ++ r) (some (.int (bI (tn_f a b ≠ -1 ∧ iP S x)))) (cs_w (if tn_f a b ≠ -1 ∧ iP S x then cs_I (cs_I S 5 (upd (S.1 5) (cN x) 1)) 6 (upd (S.1 6) (cN x) (tn_f a b)) else S) ++ r) 0 0 := by
  refine am_ct.of rfl (Nat.le_of_ble_eq_true rfl) ?_
  refine aw_lload_n d_RC_average_0 rfl ?_
  refine aw_lload d_RC_average_1 rfl ?_
  refine aw_cS1 d_RC_average_3 (c_RC_tenthsOf _ a b) mk_RC_tenthsOf is_RC_tenthsOf ln_RC_55 rfl rfl (Nat.le_of_ble_eq_true rfl) (Nat.le_of_ble_eq_true rfl) (Nat.le_of_ble_eq_true rfl) (Nat.le_of_ble_eq_true rfl) ?_
  refine aw_istore d_RC_average_6 (Nat.le_of_ble_eq_true rfl) ?_
  refine aw_iload d_RC_average_8 rfl ?_
  refine aw_iconst (v := -1) d_RC_average_10 (by decide) ?_
  refine aw_icmp_eq (tgt := 25) d_RC_average_11 (by decide) (fun h11 => ?_) (fun h11 => ?_)
  · refine aw_iconst (v := nI 0) d_RC_average_25 (by decide) ?_
    exact aw_zretE d_RC_average_26 rfl rfl (bI_f (fun c => c.1 h11)).symm (by rw [if_neg (fun c => c.1 h11)]) rfl rfl
  · refine aw_aload_n d_RC_average_14 rfl ?_
    refine aw_get d_RC_average_15 fl_RC_10 rfl rfl ?_
    refine aw_iload_n d_RC_average_18 rfl ?_
    refine aw_cV1 d_RC_average_19 (c_Pl_has S r x) mk_Pl_has is_Pl_has ln_RC_59 rfl rfl rfl rfl (Nat.le_of_ble_eq_true rfl) (Nat.le_of_ble_eq_true rfl) (Nat.le_of_ble_eq_true rfl) (Nat.le_of_ble_eq_true rfl) ?_
    refine aw_if_ne (tgt := 27) d_RC_average_22 (by decide) (fun h22 => ?_) (fun h22 => ?_)
    · have hok : tn_f a b ≠ -1 ∧ iP S x := ⟨h11, bI_n h22⟩
      obtain ⟨p, hp, ep⟩ := iP_ex (bI_n h22) hn1 h5
      subst ep
      rw [cN_nI (by omega)]
      refine aw_aload_n d_RC_average_27 rfl ?_
      refine aw_get d_RC_average_28 fl_RC_10 rfl rfl ?_
      refine aw_iload_n d_RC_average_31 rfl ?_
      refine aw_iload d_RC_average_32 rfl ?_
      refine aw_cV0 d_RC_average_34 (c_Pl_setLoss S r p (tn_f a b) (by omega)) mk_Pl_setLoss is_Pl_setLoss ln_RC_74 rfl rfl rfl rfl (Nat.le_of_ble_eq_true rfl) (Nat.le_of_ble_eq_true rfl) (Nat.le_of_ble_eq_true rfl) (Nat.le_of_ble_eq_true rfl) ?_
      refine aw_iconst (v := nI 1) d_RC_average_37 (by decide) ?_
      exact aw_zretE d_RC_average_38 rfl rfl (bI_t hok).symm (by rw [if_pos hok]) rfl rfl
    · refine aw_iconst (v := nI 0) d_RC_average_25 (by decide) ?_
      exact aw_zretE d_RC_average_26 rfl rfl (bI_f (fun c => (bI_0 _).mp h22 c.2)).symm (by rw [if_neg (fun c => (bI_0 _).mp h22 c.2)]) rfl rfl
theorem c_RC_feed (S : cs_S) (r : List am_C) (x k : Int32) (g : Int64) (y c : Int32) (n8 : Nat) (hf : fd_ok S n8) : am_ct y_RC_feed 2 [.ref 0, .int x, .int k, .long g, .int y, .int c] (cs_w S ++ r) (some (.int (bI (ok_feed S x k g y c ∧ n8 < 60)))) (cs_w (if ok_feed S x k g y c ∧ n8 < 60 then cs_F (cs_J (cs_I (cs_I (cs_I (cs_I S 9 (upd (S.1 9) n8 x)) 10 (upd (S.1 10) n8 k)) 11 (upd (S.1 11) n8 y)) 12 (upd (S.1 12) n8 c)) 13 (vp_updL (S.2.1 13) n8 g)) 8 (nI (n8 + 1)) else S) ++ r) 0 0 := by
  refine am_ct.of rfl (Nat.le_of_ble_eq_true rfl) ?_
  refine aw_aload_n d_RC_feed_0 rfl ?_
  refine aw_get d_RC_feed_1 fl_RC_10 rfl rfl ?_
  refine aw_iload_n d_RC_feed_4 rfl ?_
  refine aw_cV1 d_RC_feed_5 (c_Pl_has S r x) mk_Pl_has is_Pl_has ln_RC_59 rfl rfl rfl rfl (Nat.le_of_ble_eq_true rfl) (Nat.le_of_ble_eq_true rfl) (Nat.le_of_ble_eq_true rfl) (Nat.le_of_ble_eq_true rfl) ?_
  refine aw_if_eq (tgt := 34) d_RC_feed_8 (by decide) (fun h8 => ?_) (fun h8 => ?_)
  · refine aw_iconst (v := nI 0) d_RC_feed_34 (by decide) ?_
    exact aw_zretE d_RC_feed_35 rfl rfl (bI_f (fun e => (bI_0 _).mp h8 e.1.1)).symm (by rw [if_neg (fun e => (bI_0 _).mp h8 e.1.1)]) rfl rfl
  · refine aw_iload_n d_RC_feed_11 rfl ?_
    refine aw_cS1 d_RC_feed_12 (c_RC_isKind _ k) mk_RC_isKind is_RC_isKind ln_RC_67 rfl rfl (Nat.le_of_ble_eq_true rfl) (Nat.le_of_ble_eq_true rfl) (Nat.le_of_ble_eq_true rfl) (Nat.le_of_ble_eq_true rfl) ?_
    refine aw_if_eq (tgt := 34) d_RC_feed_15 (by decide) (fun h15 => ?_) (fun h15 => ?_)
    · refine aw_iconst (v := nI 0) d_RC_feed_34 (by decide) ?_
      exact aw_zretE d_RC_feed_35 rfl rfl (bI_f (fun e => (bI_0 _).mp h15 e.1.2.1)).symm (by rw [if_neg (fun e => (bI_0 _).mp h15 e.1.2.1)]) rfl rfl
    · refine aw_iload d_RC_feed_18 rfl ?_
      refine aw_cS1 d_RC_feed_20 (c_RC_isYear _ y) mk_RC_isYear is_RC_isYear ln_RC_78 rfl rfl (Nat.le_of_ble_eq_true rfl) (Nat.le_of_ble_eq_true rfl) (Nat.le_of_ble_eq_true rfl) (Nat.le_of_ble_eq_true rfl) ?_
      refine aw_if_eq (tgt := 34) d_RC_feed_23 (by decide) (fun h23 => ?_) (fun h23 => ?_)
      · refine aw_iconst (v := nI 0) d_RC_feed_34 (by decide) ?_
        exact aw_zretE d_RC_feed_35 rfl rfl (bI_f (fun e => (bI_0 _).mp h23 e.1.2.2.1)).symm (by rw [if_neg (fun e => (bI_0 _).mp h23 e.1.2.2.1)]) rfl rfl
      · refine aw_iload d_RC_feed_26 rfl ?_
        refine aw_cS1 d_RC_feed_28 (c_RC_isCountry _ c) mk_RC_isCountry is_RC_isCountry ln_RC_81 rfl rfl (Nat.le_of_ble_eq_true rfl) (Nat.le_of_ble_eq_true rfl) (Nat.le_of_ble_eq_true rfl) (Nat.le_of_ble_eq_true rfl) ?_
        refine aw_if_ne (tgt := 36) d_RC_feed_31 (by decide) (fun h31 => ?_) (fun h31 => ?_)
        · refine aw_lload_n d_RC_feed_36 rfl ?_
          refine aw_lconst (v := lN 0) d_RC_feed_37 rfl ?_
          refine aw_ldc2 (v := lN 1000000000) d_RC_feed_38 kl_RC_84 ?_
          refine aw_cS1 d_RC_feed_41 (c_RC_isWithin _ g (lN 0) (lN 1000000000)) mk_RC_isWithin is_RC_isWithin ln_RC_86 rfl rfl (Nat.le_of_ble_eq_true rfl) (Nat.le_of_ble_eq_true rfl) (Nat.le_of_ble_eq_true rfl) (Nat.le_of_ble_eq_true rfl) ?_
          refine aw_if_eq (tgt := 68) d_RC_feed_44 (by decide) (fun h44 => ?_) (fun h44 => ?_)
          · refine aw_iconst (v := nI 0) d_RC_feed_68 (by decide) ?_
            exact aw_zretE d_RC_feed_69 rfl rfl (bI_f (fun e => (bI_0 _).mp h44 e.1.2.2.2.2)).symm (by rw [if_neg (fun e => (bI_0 _).mp h44 e.1.2.2.2.2)]) rfl rfl
          · refine aw_aload_n d_RC_feed_47 rfl ?_
            refine aw_get d_RC_feed_48 fl_RC_19 rfl rfl ?_
            refine aw_iload_n d_RC_feed_51 rfl ?_
            refine aw_iload_n d_RC_feed_52 rfl ?_
            refine aw_lload_n d_RC_feed_53 rfl ?_
            refine aw_iload d_RC_feed_54 rfl ?_
            refine aw_iload d_RC_feed_56 rfl ?_
            refine aw_cV1 d_RC_feed_58 (c_Fe_add S r x k y c g n8 hf.1 hf.2.1) mk_Fe_add is_Fe_add ln_RC_90 rfl rfl rfl rfl (Nat.le_of_ble_eq_true rfl) (Nat.le_of_ble_eq_true rfl) (Nat.le_of_ble_eq_true rfl) (Nat.le_of_ble_eq_true rfl) ?_
            refine aw_if_eq (tgt := 68) d_RC_feed_61 (by decide) (fun h61 => ?_) (fun h61 => ?_)
            · refine aw_iconst (v := nI 0) d_RC_feed_68 (by decide) ?_
              exact aw_zretE d_RC_feed_69 rfl rfl (bI_f (fun e => (bI_0 _).mp h61 e.2)).symm (by rw [if_neg ((bI_0 _).mp h61), if_neg (fun e => (bI_0 _).mp h61 e.2)]) rfl rfl
            · refine aw_iconst (v := nI 1) d_RC_feed_64 (by decide) ?_
              refine aw_goto (tgt := 69) d_RC_feed_65 (by decide) ?_
              exact aw_zretE d_RC_feed_69 rfl rfl (bI_t ⟨⟨bI_n h8, bI_n h15, bI_n h23, bI_n h31, bI_n h44⟩, bI_n h61⟩).symm (by rw [if_pos (bI_n h61), if_pos ⟨⟨bI_n h8, bI_n h15, bI_n h23, bI_n h31, bI_n h44⟩, bI_n h61⟩]) rfl rfl
        · refine aw_iconst (v := nI 0) d_RC_feed_34 (by decide) ?_
          exact aw_zretE d_RC_feed_35 rfl rfl (bI_f (fun e => (bI_0 _).mp h31 e.1.2.2.2.1)).symm (by rw [if_neg (fun e => (bI_0 _).mp h31 e.1.2.2.2.1)]) rfl rfl
theorem c_RC_metals (S : cs_S) (r : List am_C) (y : Int32) (g : Int64) : am_ct y_RC_metals 1 [.ref 0, .int y, .long g] (cs_w S ++ r) (some (.int (bI (iR y 10 ∧ iW g (lN 0) (lN 1000000000))))) (cs_w (if iR y 10 ∧ iW g (lN 0) (lN 1000000000) then cs_J S 14 (vp_updL (S.2.1 14) (cN y) g) else S) ++ r) 0 0 := by
  refine am_ct.of rfl (Nat.le_of_ble_eq_true rfl) ?_
  refine aw_iload_n d_RC_metals_0 rfl ?_
  refine aw_cS1 d_RC_metals_1 (c_RC_isYear _ y) mk_RC_isYear is_RC_isYear ln_RC_78 rfl rfl (Nat.le_of_ble_eq_true rfl) (Nat.le_of_ble_eq_true rfl) (Nat.le_of_ble_eq_true rfl) (Nat.le_of_ble_eq_true rfl) ?_
  refine aw_if_eq (tgt := 18) d_RC_metals_4 (by decide) (fun h4 => ?_) (fun h4 => ?_)
  · refine aw_iconst (v := nI 0) d_RC_metals_18 (by decide) ?_
    exact aw_zretE d_RC_metals_19 rfl rfl (bI_f (fun c => (bI_0 _).mp h4 c.1)).symm (by rw [if_neg (fun c => (bI_0 _).mp h4 c.1)]) rfl rfl
  · refine aw_lload_n d_RC_metals_7 rfl ?_
    refine aw_lconst (v := lN 0) d_RC_metals_8 rfl ?_
    refine aw_ldc2 (v := lN 1000000000) d_RC_metals_9 kl_RC_84 ?_
    refine aw_cS1 d_RC_metals_12 (c_RC_isWithin _ g (lN 0) (lN 1000000000)) mk_RC_isWithin is_RC_isWithin ln_RC_86 rfl rfl (Nat.le_of_ble_eq_true rfl) (Nat.le_of_ble_eq_true rfl) (Nat.le_of_ble_eq_true rfl) (Nat.le_of_ble_eq_true rfl) ?_
    refine aw_if_ne (tgt := 20) d_RC_metals_15 (by decide) (fun h15 => ?_) (fun h15 => ?_)
    · have hok : iR y 10 ∧ iW g (lN 0) (lN 1000000000) := ⟨bI_n h4, bI_n h15⟩
      obtain ⟨j, hj, ej⟩ := in_ex hok.1 (by decide)
      subst ej
      rw [cN_nI (by omega)]
      refine aw_aload_n d_RC_metals_20 rfl ?_
      refine aw_get d_RC_metals_21 fl_RC_23 rfl rfl ?_
      refine aw_iload_n d_RC_metals_24 rfl ?_
      refine aw_lload_n d_RC_metals_25 rfl ?_
      refine aw_lastN d_RC_metals_26 rfl (by omega) (Nat.le_of_ble_eq_true rfl) (cs_s14 _ _ _) ?_
      refine aw_iconst (v := nI 1) d_RC_metals_27 (by decide) ?_
      exact aw_zretE d_RC_metals_28 rfl rfl (bI_t hok).symm (by rw [if_pos hok]) rfl rfl
    · refine aw_iconst (v := nI 0) d_RC_metals_18 (by decide) ?_
      exact aw_zretE d_RC_metals_19 rfl rfl (bI_f (fun c => (bI_0 _).mp h15 c.2)).symm (by rw [if_neg (fun c => (bI_0 _).mp h15 c.2)]) rfl rfl
theorem c_RC_placed (S : cs_S) (r : List am_C) (k y : Int32) (g : Int64) : am_ct y_RC_placed 1 [.ref 0, .int k, .int y, .long g] (cs_w S ++ r) (some (.int (bI (iR k 4 ∧ iR y 10 ∧ iW g (lN 0) (lN 100000000000))))) (cs_w (if iR k 4 ∧ iR y 10 ∧ iW g (lN 0) (lN 100000000000) then cs_J S 15 (vp_updL (S.2.1 15) (cN k * 10 + cN y) g) else S) ++ r) 0 0 := by
  refine am_ct.of rfl (Nat.le_of_ble_eq_true rfl) ?_
  refine aw_iload_n d_RC_placed_0 rfl ?_
  refine aw_cS1 d_RC_placed_1 (c_RC_isKind _ k) mk_RC_isKind is_RC_isKind ln_RC_67 rfl rfl (Nat.le_of_ble_eq_true rfl) (Nat.le_of_ble_eq_true rfl) (Nat.le_of_ble_eq_true rfl) (Nat.le_of_ble_eq_true rfl) ?_
  refine aw_if_eq (tgt := 25) d_RC_placed_4 (by decide) (fun h4 => ?_) (fun h4 => ?_)
  · refine aw_iconst (v := nI 0) d_RC_placed_25 (by decide) ?_
    exact aw_zretE d_RC_placed_26 rfl rfl (bI_f (fun c => (bI_0 _).mp h4 c.1)).symm (by rw [if_neg (fun c => (bI_0 _).mp h4 c.1)]) rfl rfl
  · refine aw_iload_n d_RC_placed_7 rfl ?_
    refine aw_cS1 d_RC_placed_8 (c_RC_isYear _ y) mk_RC_isYear is_RC_isYear ln_RC_78 rfl rfl (Nat.le_of_ble_eq_true rfl) (Nat.le_of_ble_eq_true rfl) (Nat.le_of_ble_eq_true rfl) (Nat.le_of_ble_eq_true rfl) ?_
    refine aw_if_eq (tgt := 25) d_RC_placed_11 (by decide) (fun h11 => ?_) (fun h11 => ?_)
    · refine aw_iconst (v := nI 0) d_RC_placed_25 (by decide) ?_
      exact aw_zretE d_RC_placed_26 rfl rfl (bI_f (fun c => (bI_0 _).mp h11 c.2.1)).symm (by rw [if_neg (fun c => (bI_0 _).mp h11 c.2.1)]) rfl rfl
    · refine aw_lload_n d_RC_placed_14 rfl ?_
      refine aw_lconst (v := lN 0) d_RC_placed_15 rfl ?_
      refine aw_ldc2 (v := lN 100000000000) d_RC_placed_16 kl_RC_93 ?_
      refine aw_cS1 d_RC_placed_19 (c_RC_isWithin _ g (lN 0) (lN 100000000000)) mk_RC_isWithin is_RC_isWithin ln_RC_86 rfl rfl (Nat.le_of_ble_eq_true rfl) (Nat.le_of_ble_eq_true rfl) (Nat.le_of_ble_eq_true rfl) (Nat.le_of_ble_eq_true rfl) ?_
      refine aw_if_ne (tgt := 27) d_RC_placed_22 (by decide) (fun h22 => ?_) (fun h22 => ?_)
      · have hok : iR k 4 ∧ iR y 10 ∧ iW g (lN 0) (lN 100000000000) := ⟨bI_n h4, bI_n h11, bI_n h22⟩
        obtain ⟨i, hi, ei⟩ := in_ex hok.1 (by decide)
        obtain ⟨j, hj, ej⟩ := in_ex hok.2.1 (by decide)
        subst ei
        subst ej
        rw [cN_nI (by omega), cN_nI (by omega)]
        refine aw_aload_n d_RC_placed_27 rfl ?_
        refine aw_get d_RC_placed_28 fl_RC_27 rfl rfl ?_
        refine aw_iload_n d_RC_placed_31 rfl ?_
        refine aw_iload_n d_RC_placed_32 rfl ?_
        refine aw_cS1 d_RC_placed_33 (c_RC_cell _ i j) mk_RC_cell is_RC_cell ln_RC_95 rfl rfl (Nat.le_of_ble_eq_true rfl) (Nat.le_of_ble_eq_true rfl) (Nat.le_of_ble_eq_true rfl) (Nat.le_of_ble_eq_true rfl) ?_
        refine aw_lload_n d_RC_placed_36 rfl ?_
        refine aw_lastN d_RC_placed_37 rfl (by omega) (Nat.le_of_ble_eq_true rfl) (cs_s15 _ _ _) ?_
        refine aw_iconst (v := nI 1) d_RC_placed_38 (by decide) ?_
        exact aw_zretE d_RC_placed_39 rfl rfl (bI_t hok).symm (by rw [if_pos hok]) rfl rfl
      · refine aw_iconst (v := nI 0) d_RC_placed_25 (by decide) ?_
        exact aw_zretE d_RC_placed_26 rfl rfl (bI_f (fun c => (bI_0 _).mp h22 c.2.2)).symm (by rw [if_neg (fun c => (bI_0 _).mp h22 c.2.2)]) rfl rfl
theorem c_RC_solve (S : cs_S) (r : List am_C) (hb : b01 (S.1 4)) (n8 : Nat) (hf : fd_ok S n8) : am_ct y_RC_solve 7 [.ref 0] (cs_w S ++ r) (some (.int (if lr_v S 4 = -1 then nI 0 else nI 1 + lr_v S 4))) (cs_w (if lr_v S 4 = -1 then kp_S (cs_I S 7 (lr_st S 4)) n8 else cs_I S 7 (lr_st S 4)) ++ r) 0 0 := by
  refine am_ct.of rfl (Nat.le_of_ble_eq_true rfl) ?_
  refine aw_aload_n d_RC_solve_0 rfl ?_
  refine aw_get d_RC_solve_1 fl_RC_10 rfl rfl ?_
  refine aw_cV1 d_RC_solve_4 (c_Pl_leastInRing S r hb) mk_Pl_leastInRing is_Pl_leastInRing ln_RC_99 rfl rfl rfl rfl (Nat.le_of_ble_eq_true rfl) (Nat.le_of_ble_eq_true rfl) (Nat.le_of_ble_eq_true rfl) (Nat.le_of_ble_eq_true rfl) ?_
  refine aw_istore_n d_RC_solve_7 (Nat.le_of_ble_eq_true rfl) ?_
  refine aw_iload_n d_RC_solve_8 rfl ?_
  refine aw_iconst (v := -1) d_RC_solve_9 (by decide) ?_
  refine aw_icmp_eq (tgt := 17) d_RC_solve_10 (by decide) (fun h10 => ?_) (fun h10 => ?_)
  · refine aw_aload_n d_RC_solve_17 rfl ?_
    refine aw_get d_RC_solve_18 fl_RC_33 rfl rfl ?_
    refine aw_aload_n d_RC_solve_21 rfl ?_
    refine aw_get d_RC_solve_22 fl_RC_10 rfl rfl ?_
    refine aw_aload_n d_RC_solve_25 rfl ?_
    refine aw_get d_RC_solve_26 fl_RC_19 rfl rfl ?_
    refine aw_aload_n d_RC_solve_29 rfl ?_
    refine aw_get d_RC_solve_30 fl_RC_23 rfl rfl ?_
    refine aw_cV0 d_RC_solve_33 (c_So_keep (cs_I S 7 (lr_st S 4)) r hb n8 hf) mk_So_keep is_So_keep ln_RC_102 rfl rfl rfl rfl (Nat.le_of_ble_eq_true rfl) (Nat.le_of_ble_eq_true rfl) (Nat.le_of_ble_eq_true rfl) (Nat.le_of_ble_eq_true rfl) ?_
    refine aw_iconst (v := nI 0) d_RC_solve_36 (by decide) ?_
    exact aw_iretE d_RC_solve_37 rfl (by rw [if_pos h10]) (by rw [if_pos h10]) rfl rfl
  · refine aw_iconst (v := nI 1) d_RC_solve_13 (by decide) ?_
    refine aw_iload_n d_RC_solve_14 rfl ?_
    refine aw_iadd d_RC_solve_15 ?_
    exact aw_iretE d_RC_solve_16 rfl (by rw [if_neg h10]) (by rw [if_neg h10]) rfl rfl
theorem c_RC_counted (S : cs_S) (r : List am_C) (x y k : Int32) (h16 : narrow .boolean (.int (S.2.2 16)) = .int (S.2.2 16)) : am_ct y_RC_counted 4 [.ref 0, .int x, .int y, .int k] (cs_w S ++ r) (some (.long (cf_counted S x y k))) (cs_w S ++ r) 0 0 := by
  refine am_ct.of rfl (Nat.le_of_ble_eq_true rfl) ?_
  refine aw_aload_n d_RC_counted_0 rfl ?_
  refine aw_get d_RC_counted_1 fl_RC_33 rfl rfl ?_
  refine aw_cV1 d_RC_counted_4 (c_So_isThere S r h16) mk_So_isThere is_So_isThere ln_RC_106 rfl rfl rfl rfl (Nat.le_of_ble_eq_true rfl) (Nat.le_of_ble_eq_true rfl) (Nat.le_of_ble_eq_true rfl) (Nat.le_of_ble_eq_true rfl) ?_
  refine aw_if_eq (tgt := 31) d_RC_counted_7 (by decide) (fun h7 => ?_) (fun h7 => ?_)
  · refine aw_ldc2 (v := (-1)) d_RC_counted_31 kl_RC_113 ?_
    exact aw_lretE d_RC_counted_34 rfl (if_neg (fun c => c.1 h7)).symm rfl rfl rfl
  · refine aw_iload_n d_RC_counted_10 rfl ?_
    refine aw_cS1 d_RC_counted_11 (c_RC_isKind _ x) mk_RC_isKind is_RC_isKind ln_RC_67 rfl rfl (Nat.le_of_ble_eq_true rfl) (Nat.le_of_ble_eq_true rfl) (Nat.le_of_ble_eq_true rfl) (Nat.le_of_ble_eq_true rfl) ?_
    refine aw_if_eq (tgt := 31) d_RC_counted_14 (by decide) (fun h14 => ?_) (fun h14 => ?_)
    · refine aw_ldc2 (v := (-1)) d_RC_counted_31 kl_RC_113 ?_
      exact aw_lretE d_RC_counted_34 rfl (if_neg (fun c => (bI_0 _).mp h14 c.2.1)).symm rfl rfl rfl
    · refine aw_iload_n d_RC_counted_17 rfl ?_
      refine aw_cS1 d_RC_counted_18 (c_RC_isYear _ y) mk_RC_isYear is_RC_isYear ln_RC_78 rfl rfl (Nat.le_of_ble_eq_true rfl) (Nat.le_of_ble_eq_true rfl) (Nat.le_of_ble_eq_true rfl) (Nat.le_of_ble_eq_true rfl) ?_
      refine aw_if_eq (tgt := 31) d_RC_counted_21 (by decide) (fun h21 => ?_) (fun h21 => ?_)
      · refine aw_ldc2 (v := (-1)) d_RC_counted_31 kl_RC_113 ?_
        exact aw_lretE d_RC_counted_34 rfl (if_neg (fun c => (bI_0 _).mp h21 c.2.2.1)).symm rfl rfl rfl
      · refine aw_iload_n d_RC_counted_24 rfl ?_
        refine aw_cS1 d_RC_counted_25 (c_RC_isPart _ k) mk_RC_isPart is_RC_isPart ln_RC_110 rfl rfl (Nat.le_of_ble_eq_true rfl) (Nat.le_of_ble_eq_true rfl) (Nat.le_of_ble_eq_true rfl) (Nat.le_of_ble_eq_true rfl) ?_
        refine aw_if_ne (tgt := 35) d_RC_counted_28 (by decide) (fun h28 => ?_) (fun h28 => ?_)
        · have hok : S.2.2 16 ≠ 0 ∧ iR x 4 ∧ iR y 10 ∧ (k = 0 ∨ k = nI 1) := ⟨h7, bI_n h14, bI_n h21, bI_n h28⟩
          obtain ⟨i, hi, ei⟩ := in_ex hok.2.1 (by decide)
          obtain ⟨j, hj, ej⟩ := in_ex hok.2.2.1 (by decide)
          subst ei
          subst ej
          rw [show cf_counted S (nI i) (nI j) k = _ from if_pos hok, cN_nI (by omega), cN_nI (by omega)]
          refine aw_aload_n d_RC_counted_35 rfl ?_
          refine aw_get d_RC_counted_36 fl_RC_33 rfl rfl ?_
          refine aw_iload_n d_RC_counted_39 rfl ?_
          refine aw_iload_n d_RC_counted_40 rfl ?_
          refine aw_cV1 d_RC_counted_41 (c_So_aboveOf S r i j hi hj) mk_So_aboveOf is_So_aboveOf ln_RC_115 rfl rfl rfl rfl (Nat.le_of_ble_eq_true rfl) (Nat.le_of_ble_eq_true rfl) (Nat.le_of_ble_eq_true rfl) (Nat.le_of_ble_eq_true rfl) ?_
          refine aw_aload_n d_RC_counted_44 rfl ?_
          refine aw_get d_RC_counted_45 fl_RC_33 rfl rfl ?_
          refine aw_iload_n d_RC_counted_48 rfl ?_
          refine aw_cV1 d_RC_counted_49 (c_So_belowOf S r i hi) mk_So_belowOf is_So_belowOf ln_RC_119 rfl rfl rfl rfl (Nat.le_of_ble_eq_true rfl) (Nat.le_of_ble_eq_true rfl) (Nat.le_of_ble_eq_true rfl) (Nat.le_of_ble_eq_true rfl) ?_
          refine aw_iload_n d_RC_counted_52 rfl ?_
          refine aw_cS1 d_RC_counted_53 (c_RC_partOf _ _ _ k) mk_RC_partOf is_RC_partOf ln_RC_123 rfl rfl (Nat.le_of_ble_eq_true rfl) (Nat.le_of_ble_eq_true rfl) (Nat.le_of_ble_eq_true rfl) (Nat.le_of_ble_eq_true rfl) ?_
          exact aw_lretE d_RC_counted_56 rfl rfl rfl rfl rfl
        · refine aw_ldc2 (v := (-1)) d_RC_counted_31 kl_RC_113 ?_
          exact aw_lretE d_RC_counted_34 rfl (if_neg (fun c => (bI_0 _).mp h28 c.2.2.2)).symm rfl rfl rfl
theorem c_RC_rate (S : cs_S) (r : List am_C) (x y k : Int32) (h16 : narrow .boolean (.int (S.2.2 16)) = .int (S.2.2 16)) : am_ct y_RC_rate 4 [.ref 0, .int x, .int y, .int k] (cs_w S ++ r) (some (.long (cf_rate S x y k))) (cs_w S ++ r) 0 0 := by
  refine am_ct.of rfl (Nat.le_of_ble_eq_true rfl) ?_
  refine aw_aload_n d_RC_rate_0 rfl ?_
  refine aw_get d_RC_rate_1 fl_RC_33 rfl rfl ?_
  refine aw_cV1 d_RC_rate_4 (c_So_isThere S r h16) mk_So_isThere is_So_isThere ln_RC_106 rfl rfl rfl rfl (Nat.le_of_ble_eq_true rfl) (Nat.le_of_ble_eq_true rfl) (Nat.le_of_ble_eq_true rfl) (Nat.le_of_ble_eq_true rfl) ?_
  refine aw_if_eq (tgt := 31) d_RC_rate_7 (by decide) (fun h7 => ?_) (fun h7 => ?_)
  · refine aw_ldc2 (v := (-1)) d_RC_rate_31 kl_RC_113 ?_
    exact aw_lretE d_RC_rate_34 rfl (if_neg (fun c => c.1 h7)).symm rfl rfl rfl
  · refine aw_iload_n d_RC_rate_10 rfl ?_
    refine aw_cS1 d_RC_rate_11 (c_RC_isKind _ x) mk_RC_isKind is_RC_isKind ln_RC_67 rfl rfl (Nat.le_of_ble_eq_true rfl) (Nat.le_of_ble_eq_true rfl) (Nat.le_of_ble_eq_true rfl) (Nat.le_of_ble_eq_true rfl) ?_
    refine aw_if_eq (tgt := 31) d_RC_rate_14 (by decide) (fun h14 => ?_) (fun h14 => ?_)
    · refine aw_ldc2 (v := (-1)) d_RC_rate_31 kl_RC_113 ?_
      exact aw_lretE d_RC_rate_34 rfl (if_neg (fun c => (bI_0 _).mp h14 c.2.1)).symm rfl rfl rfl
    · refine aw_iload_n d_RC_rate_17 rfl ?_
      refine aw_cS1 d_RC_rate_18 (c_RC_isYear _ y) mk_RC_isYear is_RC_isYear ln_RC_78 rfl rfl (Nat.le_of_ble_eq_true rfl) (Nat.le_of_ble_eq_true rfl) (Nat.le_of_ble_eq_true rfl) (Nat.le_of_ble_eq_true rfl) ?_
      refine aw_if_eq (tgt := 31) d_RC_rate_21 (by decide) (fun h21 => ?_) (fun h21 => ?_)
      · refine aw_ldc2 (v := (-1)) d_RC_rate_31 kl_RC_113 ?_
        exact aw_lretE d_RC_rate_34 rfl (if_neg (fun c => (bI_0 _).mp h21 c.2.2.1)).symm rfl rfl rfl
      · refine aw_iload_n d_RC_rate_24 rfl ?_
        refine aw_cS1 d_RC_rate_25 (c_RC_isPart _ k) mk_RC_isPart is_RC_isPart ln_RC_110 rfl rfl (Nat.le_of_ble_eq_true rfl) (Nat.le_of_ble_eq_true rfl) (Nat.le_of_ble_eq_true rfl) (Nat.le_of_ble_eq_true rfl) ?_
        refine aw_if_ne (tgt := 35) d_RC_rate_28 (by decide) (fun h28 => ?_) (fun h28 => ?_)
        · have hok : S.2.2 16 ≠ 0 ∧ iR x 4 ∧ iR y 10 ∧ (k = 0 ∨ k = nI 1) := ⟨h7, bI_n h14, bI_n h21, bI_n h28⟩
          obtain ⟨i, hi, ei⟩ := in_ex hok.2.1 (by decide)
          obtain ⟨j, hj, ej⟩ := in_ex hok.2.2.1 (by decide)
          subst ei
          subst ej
          rw [show cf_rate S (nI i) (nI j) k = _ from if_pos hok, cN_nI (by omega), cN_nI (by omega)]
          refine aw_aload_n d_RC_rate_35 rfl ?_
          refine aw_get d_RC_rate_36 fl_RC_27 rfl rfl ?_
          refine aw_iload_n d_RC_rate_39 rfl ?_
          refine aw_iload_n d_RC_rate_40 rfl ?_
          refine aw_cS1 d_RC_rate_41 (c_RC_cell _ i j) mk_RC_cell is_RC_cell ln_RC_95 rfl rfl (Nat.le_of_ble_eq_true rfl) (Nat.le_of_ble_eq_true rfl) (Nat.le_of_ble_eq_true rfl) (Nat.le_of_ble_eq_true rfl) ?_
          refine aw_laldN d_RC_rate_44 rfl (by omega) (Nat.le_of_ble_eq_true rfl) ?_
          refine aw_lstore d_RC_rate_45 (Nat.le_of_ble_eq_true rfl) ?_
          refine aw_lload d_RC_rate_47 rfl ?_
          refine aw_lconst (v := lN 0) d_RC_rate_49 rfl ?_
          refine aw_lc_ne (tgt := 56) d_RC_rate_50 d_RC_rate_51 (by decide) (fun h51 => ?_) (fun h51 => ?_)
          · refine aw_aload_n d_RC_rate_56 rfl ?_
            refine aw_get d_RC_rate_57 fl_RC_33 rfl rfl ?_
            refine aw_iconst (v := nI 0) d_RC_rate_60 (by decide) ?_
            refine aw_iload_n d_RC_rate_61 rfl ?_
            refine aw_iload_n d_RC_rate_62 rfl ?_
            refine aw_cV1 d_RC_rate_63 (c_So_aboveOfCountry S r 0 i j (by decide) hi hj) mk_So_aboveOfCountry is_So_aboveOfCountry ln_RC_127 rfl rfl rfl rfl (Nat.le_of_ble_eq_true rfl) (Nat.le_of_ble_eq_true rfl) (Nat.le_of_ble_eq_true rfl) (Nat.le_of_ble_eq_true rfl) ?_
            refine aw_lstore d_RC_rate_66 (Nat.le_of_ble_eq_true rfl) ?_
            refine aw_lload d_RC_rate_68 rfl ?_
            refine aw_aload_n d_RC_rate_70 rfl ?_
            refine aw_get d_RC_rate_71 fl_RC_33 rfl rfl ?_
            refine aw_iload_n d_RC_rate_74 rfl ?_
            refine aw_cV1 d_RC_rate_75 (c_So_belowOf S r i hi) mk_So_belowOf is_So_belowOf ln_RC_119 rfl rfl rfl rfl (Nat.le_of_ble_eq_true rfl) (Nat.le_of_ble_eq_true rfl) (Nat.le_of_ble_eq_true rfl) (Nat.le_of_ble_eq_true rfl) ?_
            refine aw_lload d_RC_rate_78 rfl ?_
            refine aw_lmul d_RC_rate_80 ?_
            refine aw_iload_n d_RC_rate_81 rfl ?_
            refine aw_cS1 d_RC_rate_82 (c_RC_partOf _ _ _ k) mk_RC_partOf is_RC_partOf ln_RC_123 rfl rfl (Nat.le_of_ble_eq_true rfl) (Nat.le_of_ble_eq_true rfl) (Nat.le_of_ble_eq_true rfl) (Nat.le_of_ble_eq_true rfl) ?_
            exact aw_lretE d_RC_rate_85 rfl (by rw [if_neg h51]) rfl rfl rfl
          · refine aw_lconst (v := lN 0) d_RC_rate_54 rfl ?_
            exact aw_lretE d_RC_rate_55 rfl (by rw [if_pos h51]) rfl rfl rfl
        · refine aw_ldc2 (v := (-1)) d_RC_rate_31 kl_RC_113 ?_
          exact aw_lretE d_RC_rate_34 rfl (if_neg (fun c => (bI_0 _).mp h28 c.2.2.2)).symm rfl rfl rfl
theorem lp_RC_tw (S : cs_S) (r : List am_C) (hb : b01 (S.1 4)) (k : Int32) : ∀ (n i s : Nat), i + n = 20 → AW (am_Mof y_RC_twice) 3 0 0 4 [(3, .int (nI i)), (2, .int (nI s)), (0, .ref 0), (1, .int k)] [] (cs_w S ++ r) 0 0 (am_Z (some (.int (tw_f S k n i s))) (cs_w S ++ r) 0 0) := by
  intro n
  induction n with
  | zero =>
    intro i s hi
    obtain rfl : i = 20 := by omega
    refine aw_iload_n d_RC_twice_4 rfl ?_
    refine aw_bipush (v := nI 20) d_RC_twice_5 (by decide) ?_
    refine aw_icmp_ge (tgt := 42) d_RC_twice_7 (by decide) (fun h7 => ?_) (fun h7 => absurd (nI_le (Nat.le_refl 20) (by omega)) h7)
    refine aw_iconst (v := -1) d_RC_twice_42 (by decide) ?_
    exact aw_iretE d_RC_twice_43 rfl rfl rfl rfl rfl
  | succ n ih =>
    intro i s hi
    refine aw_iload_n d_RC_twice_4 rfl ?_
    refine aw_bipush (v := nI 20) d_RC_twice_5 (by decide) ?_
    refine aw_icmp_ge (tgt := 42) d_RC_twice_7 (by decide) (fun h7 => absurd h7 (nI_ge (by omega) (by omega))) (fun h7 => ?_)
    refine aw_aload_n d_RC_twice_10 rfl ?_
    refine aw_get d_RC_twice_11 fl_RC_10 rfl rfl ?_
    refine aw_iload_n d_RC_twice_14 rfl ?_
    refine aw_iconst (v := nI 4) d_RC_twice_15 (by decide) ?_
    refine aw_idiv d_RC_twice_16 (by decide) ?_
    rw [pk_div (by omega) (by omega) (by omega)]
    refine aw_iload_n d_RC_twice_17 rfl ?_
    refine aw_iconst (v := nI 4) d_RC_twice_18 (by decide) ?_
    refine aw_irem d_RC_twice_19 (by decide) ?_
    rw [pk_rem (by omega) (by omega) (by omega)]
    refine aw_cV1 d_RC_twice_20 (c_Pl_isPointWithAverage S r (i / 4) (i % 4) (by omega) (by omega) hb) mk_Pl_isPointWithAverage is_Pl_isPointWithAverage ln_RC_131 rfl rfl rfl rfl (Nat.le_of_ble_eq_true rfl) (Nat.le_of_ble_eq_true rfl) (Nat.le_of_ble_eq_true rfl) (Nat.le_of_ble_eq_true rfl) ?_
    refine aw_if_eq (tgt := 36) d_RC_twice_23 (by decide) (fun h23 => ?_) (fun h23 => ?_)
    · have hC := (bI_0 _).mp h23
      refine aw_iinc d_RC_twice_36 rfl (nI_1 _) (Nat.le_of_ble_eq_true rfl) ?_
      refine aw_goto (tgt := 4) d_RC_twice_39 (by decide) ?_
      have hq : tw_f S k (n + 1) i s = tw_f S k n (i + 1) s := if_neg hC
      rw [hq]
      exact aw_eql rfl (ih (i + 1) s (by omega))
    · have hC := bI_n h23
      refine aw_iload_n d_RC_twice_26 rfl ?_
      refine aw_iload_n d_RC_twice_27 rfl ?_
      refine aw_icmp_ne (tgt := 33) d_RC_twice_28 (by decide) (fun h28 => ?_) (fun h28 => ?_)
      · refine aw_iinc d_RC_twice_33 rfl (nI_1 _) (Nat.le_of_ble_eq_true rfl) ?_
        refine aw_iinc d_RC_twice_36 rfl (nI_1 _) (Nat.le_of_ble_eq_true rfl) ?_
        refine aw_goto (tgt := 4) d_RC_twice_39 (by decide) ?_
        have hq : tw_f S k (n + 1) i s = tw_f S k n (i + 1) (s + 1) := (if_pos hC).trans (if_neg h28)
        rw [hq]
        refine aw_pick (lv' := [(3, .int (nI (i + 1))), (2, .int (nI (s + 1))), (0, .ref 0), (1, .int k)]) ⟨rfl, rfl, rfl, rfl, trivial⟩ ?_
        exact ih (i + 1) (s + 1) (by omega)
      · refine aw_iload_n d_RC_twice_31 rfl ?_
        exact aw_iretE d_RC_twice_32 rfl ((if_pos hC).trans (if_pos h28)).symm rfl rfl rfl
theorem c_RC_twice (S : cs_S) (r : List am_C) (hb : b01 (S.1 4)) (k : Int32) : am_ct y_RC_twice 3 [.ref 0, .int k] (cs_w S ++ r) (some (.int (tw_f S k 20 0 0))) (cs_w S ++ r) 0 0 := by
  refine am_ct.of rfl (Nat.le_of_ble_eq_true rfl) ?_
  refine aw_iconst (v := nI 0) d_RC_twice_0 (by decide) ?_
  refine aw_istore_n d_RC_twice_1 (Nat.le_of_ble_eq_true rfl) ?_
  refine aw_iconst (v := nI 0) d_RC_twice_2 (by decide) ?_
  refine aw_istore_n d_RC_twice_3 (Nat.le_of_ble_eq_true rfl) ?_
  exact aw_eql rfl (lp_RC_tw S r hb k 20 0 0 rfl)
theorem lp_RC_to (S : cs_S) (r : List am_C) (hb : b01 (S.1 31)) (k : Int32) : ∀ (n i s : Nat), i + n = 5 → AW (am_Mof y_RC_told) 1 0 0 4 [(3, .int (nI i)), (2, .int (nI s)), (0, .ref 0), (1, .int k)] [] (cs_w S ++ r) 0 0 (am_Z (some (.int (to_f S k n i s))) (cs_w S ++ r) 0 0) := by
  intro n
  induction n with
  | zero =>
    intro i s hi
    obtain rfl : i = 5 := by omega
    refine aw_iload_n d_RC_told_4 rfl ?_
    refine aw_iconst (v := nI 5) d_RC_told_5 (by decide) ?_
    refine aw_icmp_ge (tgt := 36) d_RC_told_6 (by decide) (fun h6 => ?_) (fun h6 => absurd (nI_le (Nat.le_refl 5) (by omega)) h6)
    refine aw_iconst (v := -1) d_RC_told_36 (by decide) ?_
    exact aw_iretE d_RC_told_37 rfl rfl rfl rfl rfl
  | succ n ih =>
    intro i s hi
    refine aw_iload_n d_RC_told_4 rfl ?_
    refine aw_iconst (v := nI 5) d_RC_told_5 (by decide) ?_
    refine aw_icmp_ge (tgt := 36) d_RC_told_6 (by decide) (fun h6 => absurd h6 (nI_ge (by omega) (by omega))) (fun h6 => ?_)
    refine aw_aload_n d_RC_told_9 rfl ?_
    refine aw_get d_RC_told_10 fl_RC_33 rfl rfl ?_
    refine aw_iload_n d_RC_told_13 rfl ?_
    refine aw_cV1 d_RC_told_14 (c_So_lostBareAt S r i (by omega) hb) mk_So_lostBareAt is_So_lostBareAt ln_RC_134 rfl rfl rfl rfl (Nat.le_of_ble_eq_true rfl) (Nat.le_of_ble_eq_true rfl) (Nat.le_of_ble_eq_true rfl) (Nat.le_of_ble_eq_true rfl) ?_
    refine aw_if_eq (tgt := 30) d_RC_told_17 (by decide) (fun h17 => ?_) (fun h17 => ?_)
    · have hC : ¬ S.1 31 i ≠ 0 := fun c => c h17
      refine aw_iinc d_RC_told_30 rfl (nI_1 _) (Nat.le_of_ble_eq_true rfl) ?_
      refine aw_goto (tgt := 4) d_RC_told_33 (by decide) ?_
      have hq : to_f S k (n + 1) i s = to_f S k n (i + 1) s := if_neg hC
      rw [hq]
      exact aw_eql rfl (ih (i + 1) s (by omega))
    · have hC : S.1 31 i ≠ 0 := h17
      refine aw_iload_n d_RC_told_20 rfl ?_
      refine aw_iload_n d_RC_told_21 rfl ?_
      refine aw_icmp_ne (tgt := 27) d_RC_told_22 (by decide) (fun h22 => ?_) (fun h22 => ?_)
      · refine aw_iinc d_RC_told_27 rfl (nI_1 _) (Nat.le_of_ble_eq_true rfl) ?_
        refine aw_iinc d_RC_told_30 rfl (nI_1 _) (Nat.le_of_ble_eq_true rfl) ?_
        refine aw_goto (tgt := 4) d_RC_told_33 (by decide) ?_
        have hq : to_f S k (n + 1) i s = to_f S k n (i + 1) (s + 1) := (if_pos hC).trans (if_neg h22)
        rw [hq]
        refine aw_pick (lv' := [(3, .int (nI (i + 1))), (2, .int (nI (s + 1))), (0, .ref 0), (1, .int k)]) ⟨rfl, rfl, rfl, rfl, trivial⟩ ?_
        exact ih (i + 1) (s + 1) (by omega)
      · refine aw_iload_n d_RC_told_25 rfl ?_
        exact aw_iretE d_RC_told_26 rfl ((if_pos hC).trans (if_pos h22)).symm rfl rfl rfl
theorem c_RC_told (S : cs_S) (r : List am_C) (hb : b01 (S.1 31)) (k : Int32) : am_ct y_RC_told 1 [.ref 0, .int k] (cs_w S ++ r) (some (.int (to_f S k 5 0 0))) (cs_w S ++ r) 0 0 := by
  refine am_ct.of rfl (Nat.le_of_ble_eq_true rfl) ?_
  refine aw_iconst (v := nI 0) d_RC_told_0 (by decide) ?_
  refine aw_istore_n d_RC_told_1 (Nat.le_of_ble_eq_true rfl) ?_
  refine aw_iconst (v := nI 0) d_RC_told_2 (by decide) ?_
  refine aw_istore_n d_RC_told_3 (Nat.le_of_ble_eq_true rfl) ?_
  exact aw_eql rfl (lp_RC_to S r hb k 5 0 0 rfl)
theorem c_RC_once (S : cs_S) (r : List am_C) (h16 : narrow .boolean (.int (S.2.2 16)) = .int (S.2.2 16)) : am_ct y_RC_once 5 [.ref 0] (cs_w S ++ r) (some (.int (bI (S.2.2 16 = 0 ∨ nm_f S = true)))) (cs_w S ++ r) 0 0 := by
  refine am_ct.of rfl (Nat.le_of_ble_eq_true rfl) ?_
  refine aw_aload_n d_RC_once_0 rfl ?_
  refine aw_get d_RC_once_1 fl_RC_33 rfl rfl ?_
  refine aw_cV1 d_RC_once_4 (c_So_isThere S r h16) mk_So_isThere is_So_isThere ln_RC_106 rfl rfl rfl rfl (Nat.le_of_ble_eq_true rfl) (Nat.le_of_ble_eq_true rfl) (Nat.le_of_ble_eq_true rfl) (Nat.le_of_ble_eq_true rfl) ?_
  refine aw_if_eq (tgt := 20) d_RC_once_7 (by decide) (fun h7 => ?_) (fun h7 => ?_)
  · refine aw_iconst (v := nI 1) d_RC_once_20 (by decide) ?_
    refine aw_goto (tgt := 25) d_RC_once_21 (by decide) ?_
    exact aw_zretE d_RC_once_25 rfl rfl (bI_t (Or.inl h7)).symm rfl rfl rfl
  · refine aw_aload_n d_RC_once_10 rfl ?_
    refine aw_get d_RC_once_11 fl_RC_33 rfl rfl ?_
    refine aw_cV1 d_RC_once_14 (c_So_isNeverMoreThanBrought S r) mk_So_isNeverMoreThanBrought is_So_isNeverMoreThanBrought ln_RC_137 rfl rfl rfl rfl (Nat.le_of_ble_eq_true rfl) (Nat.le_of_ble_eq_true rfl) (Nat.le_of_ble_eq_true rfl) (Nat.le_of_ble_eq_true rfl) ?_
    refine aw_if_eq (tgt := 24) d_RC_once_17 (by decide) (fun h17 => ?_) (fun h17 => ?_)
    · refine aw_iconst (v := nI 0) d_RC_once_24 (by decide) ?_
      exact aw_zretE d_RC_once_25 rfl rfl (bI_f (fun c => c.elim h7 ((bI_0 _).mp h17))).symm rfl rfl rfl
    · refine aw_iconst (v := nI 1) d_RC_once_20 (by decide) ?_
      refine aw_goto (tgt := 25) d_RC_once_21 (by decide) ?_
      exact aw_zretE d_RC_once_25 rfl rfl (bI_t (Or.inr (bI_n h17))).symm rfl rfl rfl
theorem c_RC_hasStock (S : cs_S) (r : List am_C) (c k y : Int32) (h16 : narrow .boolean (.int (S.2.2 16)) = .int (S.2.2 16)) : am_ct y_RC_hasStock 1 [.ref 0, .int c, .int k, .int y] (cs_w S ++ r) (some (.int (bI (ok_stock S c k y)))) (cs_w S ++ r) 0 0 := by
  refine am_ct.of rfl (Nat.le_of_ble_eq_true rfl) ?_
  refine aw_aload_n d_RC_hasStock_0 rfl ?_
  refine aw_get d_RC_hasStock_1 fl_RC_33 rfl rfl ?_
  refine aw_cV1 d_RC_hasStock_4 (c_So_isThere S r h16) mk_So_isThere is_So_isThere ln_RC_106 rfl rfl rfl rfl (Nat.le_of_ble_eq_true rfl) (Nat.le_of_ble_eq_true rfl) (Nat.le_of_ble_eq_true rfl) (Nat.le_of_ble_eq_true rfl) ?_
  refine aw_if_eq (tgt := 35) d_RC_hasStock_7 (by decide) (fun h7 => ?_) (fun h7 => ?_)
  · refine aw_iconst (v := nI 0) d_RC_hasStock_35 (by decide) ?_
    exact aw_zretE d_RC_hasStock_36 rfl rfl (bI_f (fun c => c.1 h7)).symm rfl rfl rfl
  · refine aw_iload_n d_RC_hasStock_10 rfl ?_
    refine aw_cS1 d_RC_hasStock_11 (c_RC_isCountry _ c) mk_RC_isCountry is_RC_isCountry ln_RC_81 rfl rfl (Nat.le_of_ble_eq_true rfl) (Nat.le_of_ble_eq_true rfl) (Nat.le_of_ble_eq_true rfl) (Nat.le_of_ble_eq_true rfl) ?_
    refine aw_if_eq (tgt := 35) d_RC_hasStock_14 (by decide) (fun h14 => ?_) (fun h14 => ?_)
    · refine aw_iconst (v := nI 0) d_RC_hasStock_35 (by decide) ?_
      exact aw_zretE d_RC_hasStock_36 rfl rfl (bI_f (fun c => (bI_0 _).mp h14 c.2.1)).symm rfl rfl rfl
    · refine aw_iload_n d_RC_hasStock_17 rfl ?_
      refine aw_cS1 d_RC_hasStock_18 (c_RC_isKind _ k) mk_RC_isKind is_RC_isKind ln_RC_67 rfl rfl (Nat.le_of_ble_eq_true rfl) (Nat.le_of_ble_eq_true rfl) (Nat.le_of_ble_eq_true rfl) (Nat.le_of_ble_eq_true rfl) ?_
      refine aw_if_eq (tgt := 35) d_RC_hasStock_21 (by decide) (fun h21 => ?_) (fun h21 => ?_)
      · refine aw_iconst (v := nI 0) d_RC_hasStock_35 (by decide) ?_
        exact aw_zretE d_RC_hasStock_36 rfl rfl (bI_f (fun c => (bI_0 _).mp h21 c.2.2.1)).symm rfl rfl rfl
      · refine aw_iload_n d_RC_hasStock_24 rfl ?_
        refine aw_cS1 d_RC_hasStock_25 (c_RC_isYear _ y) mk_RC_isYear is_RC_isYear ln_RC_78 rfl rfl (Nat.le_of_ble_eq_true rfl) (Nat.le_of_ble_eq_true rfl) (Nat.le_of_ble_eq_true rfl) (Nat.le_of_ble_eq_true rfl) ?_
        refine aw_if_eq (tgt := 35) d_RC_hasStock_28 (by decide) (fun h28 => ?_) (fun h28 => ?_)
        · refine aw_iconst (v := nI 0) d_RC_hasStock_35 (by decide) ?_
          exact aw_zretE d_RC_hasStock_36 rfl rfl (bI_f (fun c => (bI_0 _).mp h28 c.2.2.2)).symm rfl rfl rfl
        · refine aw_iconst (v := nI 1) d_RC_hasStock_31 (by decide) ?_
          refine aw_goto (tgt := 36) d_RC_hasStock_32 (by decide) ?_
          exact aw_zretE d_RC_hasStock_36 rfl rfl (bI_t ⟨h7, bI_n h14, bI_n h21, bI_n h28⟩).symm rfl rfl rfl
theorem c_RC_claim (S : cs_S) (r : List am_C) (c k y : Int32) (g : Int64) (h16 : narrow .boolean (.int (S.2.2 16)) = .int (S.2.2 16)) : am_ct y_RC_claim 5 [.ref 0, .int c, .int k, .int y, .long g] (cs_w S ++ r) (some (.long (cf_claim S c k y g))) (cs_w (cg_claim S c k y g) ++ r) 0 0 := by
  refine am_ct.of rfl (Nat.le_of_ble_eq_true rfl) ?_
  refine aw_aload_n d_RC_claim_0 rfl ?_
  refine aw_iload_n d_RC_claim_1 rfl ?_
  refine aw_iload_n d_RC_claim_2 rfl ?_
  refine aw_iload_n d_RC_claim_3 rfl ?_
  refine aw_cV1 d_RC_claim_4 (c_RC_hasStock S r c k y h16) mk_RC_hasStock is_RC_hasStock ln_RC_140 rfl rfl rfl rfl (Nat.le_of_ble_eq_true rfl) (Nat.le_of_ble_eq_true rfl) (Nat.le_of_ble_eq_true rfl) (Nat.le_of_ble_eq_true rfl) ?_
  refine aw_if_eq (tgt := 22) d_RC_claim_7 (by decide) (fun h7 => ?_) (fun h7 => ?_)
  · refine aw_ldc2 (v := (-1)) d_RC_claim_22 kl_RC_113 ?_
    exact aw_lretE d_RC_claim_25 rfl (if_neg (fun c => (bI_0 _).mp h7 c.1)).symm (by unfold cg_claim; rw [if_neg (fun c => (bI_0 _).mp h7 c.1)]) rfl rfl
  · refine aw_lload d_RC_claim_10 rfl ?_
    refine aw_lconst (v := lN 1) d_RC_claim_12 rfl ?_
    refine aw_ldc2 (v := lN 1000000000000) d_RC_claim_13 kl_RC_143 ?_
    refine aw_cS1 d_RC_claim_16 (c_RC_isWithin _ g (lN 1) (lN 1000000000000)) mk_RC_isWithin is_RC_isWithin ln_RC_86 rfl rfl (Nat.le_of_ble_eq_true rfl) (Nat.le_of_ble_eq_true rfl) (Nat.le_of_ble_eq_true rfl) (Nat.le_of_ble_eq_true rfl) ?_
    refine aw_if_ne (tgt := 26) d_RC_claim_19 (by decide) (fun h19 => ?_) (fun h19 => ?_)
    · have hok : ok_stock S c k y := bI_n h7
      have hok2 : ok_stock S c k y ∧ iW g (lN 1) (lN 1000000000000) := ⟨hok, bI_n h19⟩
      unfold cf_claim cg_claim
      rw [if_pos hok2, if_pos hok2]
      obtain ⟨i1, hi1, e1⟩ := in_ex hok.2.1 (by decide)
      obtain ⟨i2, hi2, e2⟩ := in_ex hok.2.2.1 (by decide)
      obtain ⟨i3, hi3, e3⟩ := in_ex hok.2.2.2 (by decide)
      subst e1
      subst e2
      subst e3
      unfold ts_x
      rw [cN_nI (n := i1) (by omega), cN_nI (n := i2) (by omega), cN_nI (n := i3) (by omega)]
      refine aw_aload_n d_RC_claim_26 rfl ?_
      refine aw_get d_RC_claim_27 fl_RC_33 rfl rfl ?_
      refine aw_iload_n d_RC_claim_30 rfl ?_
      refine aw_iload_n d_RC_claim_31 rfl ?_
      refine aw_iload_n d_RC_claim_32 rfl ?_
      refine aw_lload d_RC_claim_33 rfl ?_
      refine aw_cV1 d_RC_claim_35 (c_So_take S r i1 i2 i3 hi1 hi2 hi3 g) mk_So_take is_So_take ln_RC_145 rfl rfl rfl rfl (Nat.le_of_ble_eq_true rfl) (Nat.le_of_ble_eq_true rfl) (Nat.le_of_ble_eq_true rfl) (Nat.le_of_ble_eq_true rfl) ?_
      exact aw_lretE d_RC_claim_38 rfl rfl rfl rfl rfl
    · refine aw_ldc2 (v := (-1)) d_RC_claim_22 kl_RC_113 ?_
      exact aw_lretE d_RC_claim_25 rfl (if_neg (fun c => (bI_0 _).mp h19 c.2)).symm (by unfold cg_claim; rw [if_neg (fun c => (bI_0 _).mp h19 c.2)]) rfl rfl
theorem c_RC_left (S : cs_S) (r : List am_C) (c k y : Int32) (h16 : narrow .boolean (.int (S.2.2 16)) = .int (S.2.2 16)) : am_ct y_RC_left 3 [.ref 0, .int c, .int k, .int y] (cs_w S ++ r) (some (.long (cf_left S c k y))) (cs_w S ++ r) 0 0 := by
  refine am_ct.of rfl (Nat.le_of_ble_eq_true rfl) ?_
  refine aw_aload_n d_RC_left_0 rfl ?_
  refine aw_iload_n d_RC_left_1 rfl ?_
  refine aw_iload_n d_RC_left_2 rfl ?_
  refine aw_iload_n d_RC_left_3 rfl ?_
  refine aw_cV1 d_RC_left_4 (c_RC_hasStock S r c k y h16) mk_RC_hasStock is_RC_hasStock ln_RC_140 rfl rfl rfl rfl (Nat.le_of_ble_eq_true rfl) (Nat.le_of_ble_eq_true rfl) (Nat.le_of_ble_eq_true rfl) (Nat.le_of_ble_eq_true rfl) ?_
  refine aw_if_eq (tgt := 23) d_RC_left_7 (by decide) (fun h7 => ?_) (fun h7 => ?_)
  · refine aw_ldc2 (v := (-1)) d_RC_left_23 kl_RC_113 ?_
    exact aw_lretE d_RC_left_26 rfl (if_neg ((bI_0 _).mp h7)).symm rfl rfl rfl
  · have hok : ok_stock S c k y := bI_n h7
    unfold cf_left
    rw [if_pos hok]
    obtain ⟨i1, hi1, e1⟩ := in_ex hok.2.1 (by decide)
    obtain ⟨i2, hi2, e2⟩ := in_ex hok.2.2.1 (by decide)
    obtain ⟨i3, hi3, e3⟩ := in_ex hok.2.2.2 (by decide)
    subst e1
    subst e2
    subst e3
    rw [cN_nI (n := i1) (by omega), cN_nI (n := i2) (by omega), cN_nI (n := i3) (by omega)]
    refine aw_aload_n d_RC_left_10 rfl ?_
    refine aw_get d_RC_left_11 fl_RC_33 rfl rfl ?_
    refine aw_iload_n d_RC_left_14 rfl ?_
    refine aw_iload_n d_RC_left_15 rfl ?_
    refine aw_iload_n d_RC_left_16 rfl ?_
    refine aw_cV1 d_RC_left_17 (c_So_stockOf S r i1 i2 i3 hi1 hi2 hi3) mk_So_stockOf is_So_stockOf ln_RC_149 rfl rfl rfl rfl (Nat.le_of_ble_eq_true rfl) (Nat.le_of_ble_eq_true rfl) (Nat.le_of_ble_eq_true rfl) (Nat.le_of_ble_eq_true rfl) ?_
    refine aw_goto (tgt := 26) d_RC_left_20 (by decide) ?_
    exact aw_lretE d_RC_left_26 rfl rfl rfl rfl rfl
theorem c_RC_open (S : cs_S) (r : List am_C) (x y k p : Int32) (h16 : narrow .boolean (.int (S.2.2 16)) = .int (S.2.2 16)) (n1 : Nat) (hn1 : S.2.2 1 = nI n1) (h5 : n1 ≤ 5) : am_ct y_RC_open 3 [.ref 0, .int x, .int y, .int k, .int p] (cs_w S ++ r) (some (.long (cf_open S x y k p n1))) (cs_w S ++ r) 0 0 := by
  refine am_ct.of rfl (Nat.le_of_ble_eq_true rfl) ?_
  refine aw_aload_n d_RC_open_0 rfl ?_
  refine aw_get d_RC_open_1 fl_RC_33 rfl rfl ?_
  refine aw_cV1 d_RC_open_4 (c_So_isThere S r h16) mk_So_isThere is_So_isThere ln_RC_106 rfl rfl rfl rfl (Nat.le_of_ble_eq_true rfl) (Nat.le_of_ble_eq_true rfl) (Nat.le_of_ble_eq_true rfl) (Nat.le_of_ble_eq_true rfl) ?_
  refine aw_if_eq (tgt := 32) d_RC_open_7 (by decide) (fun h7 => ?_) (fun h7 => ?_)
  · refine aw_lconst (v := lN 0) d_RC_open_32 rfl ?_
    exact aw_lretE d_RC_open_33 rfl (if_neg (fun c => c.1.1 h7)).symm rfl rfl rfl
  · refine aw_iload_n d_RC_open_10 rfl ?_
    refine aw_cS1 d_RC_open_11 (c_RC_isYear _ x) mk_RC_isYear is_RC_isYear ln_RC_78 rfl rfl (Nat.le_of_ble_eq_true rfl) (Nat.le_of_ble_eq_true rfl) (Nat.le_of_ble_eq_true rfl) (Nat.le_of_ble_eq_true rfl) ?_
    refine aw_if_eq (tgt := 32) d_RC_open_14 (by decide) (fun h14 => ?_) (fun h14 => ?_)
    · refine aw_lconst (v := lN 0) d_RC_open_32 rfl ?_
      exact aw_lretE d_RC_open_33 rfl (if_neg (fun c => (bI_0 _).mp h14 c.1.2.1)).symm rfl rfl rfl
    · refine aw_iload_n d_RC_open_17 rfl ?_
      refine aw_cS1 d_RC_open_18 (c_RC_isYear _ y) mk_RC_isYear is_RC_isYear ln_RC_78 rfl rfl (Nat.le_of_ble_eq_true rfl) (Nat.le_of_ble_eq_true rfl) (Nat.le_of_ble_eq_true rfl) (Nat.le_of_ble_eq_true rfl) ?_
      refine aw_if_eq (tgt := 32) d_RC_open_21 (by decide) (fun h21 => ?_) (fun h21 => ?_)
      · refine aw_lconst (v := lN 0) d_RC_open_32 rfl ?_
        exact aw_lretE d_RC_open_33 rfl (if_neg (fun c => (bI_0 _).mp h21 c.1.2.2.1)).symm rfl rfl rfl
      · refine aw_iload d_RC_open_24 rfl ?_
        refine aw_cS1 d_RC_open_26 (c_RC_isPart _ p) mk_RC_isPart is_RC_isPart ln_RC_110 rfl rfl (Nat.le_of_ble_eq_true rfl) (Nat.le_of_ble_eq_true rfl) (Nat.le_of_ble_eq_true rfl) (Nat.le_of_ble_eq_true rfl) ?_
        refine aw_if_ne (tgt := 34) d_RC_open_29 (by decide) (fun h29 => ?_) (fun h29 => ?_)
        · refine aw_iload_n d_RC_open_34 rfl ?_
          refine aw_if_lt (tgt := 51) d_RC_open_35 (by decide) (fun h35 => ?_) (fun h35 => ?_)
          · refine aw_lconst (v := lN 0) d_RC_open_51 rfl ?_
            exact aw_lretE d_RC_open_52 rfl (if_neg (fun c => c.2.1 h35)).symm rfl rfl rfl
          · obtain ⟨m, hm, em⟩ := nI_of h35
            subst em
            refine aw_aload_n d_RC_open_38 rfl ?_
            refine aw_get d_RC_open_39 fl_RC_10 rfl rfl ?_
            refine aw_iload_n d_RC_open_42 rfl ?_
            refine aw_iconst (v := nI 4) d_RC_open_43 (by decide) ?_
            refine aw_idiv d_RC_open_44 (by decide) ?_
            rw [pk_div hm (by omega) (by omega)]
            refine aw_cV1 d_RC_open_45 (c_Pl_has S r _) mk_Pl_has is_Pl_has ln_RC_59 rfl rfl rfl rfl (Nat.le_of_ble_eq_true rfl) (Nat.le_of_ble_eq_true rfl) (Nat.le_of_ble_eq_true rfl) (Nat.le_of_ble_eq_true rfl) ?_
            refine aw_if_ne (tgt := 53) d_RC_open_48 (by decide) (fun h48 => ?_) (fun h48 => ?_)
            · have hm4 : m / 4 < n1 := by
                have h9 := bI_n h48
                rw [hn1] at h9
                exact (nI_ltI (by omega) (by omega)).mp h9.2
              have hok : (S.2.2 16 ≠ 0 ∧ iR x 10 ∧ iR y 10 ∧ (p = 0 ∨ p = nI 1)) ∧ ¬ nI m < 0 ∧ cN (nI m) / 4 < n1 := ⟨⟨h7, bI_n h14, bI_n h21, bI_n h29⟩, h35, by rw [cN_nI hm]; exact hm4⟩
              rw [show cf_open S x y (nI m) p n1 = _ from if_pos hok]
              obtain ⟨i, hi, ei⟩ := in_ex hok.1.2.1 (by decide)
              obtain ⟨j, hj, ej⟩ := in_ex hok.1.2.2.1 (by decide)
              subst ei
              subst ej
              rw [cN_nI (n := i) (by omega), cN_nI (n := j) (by omega), cN_nI hm]
              refine aw_iload_n d_RC_open_53 rfl ?_
              refine aw_iconst (v := nI 4) d_RC_open_54 (by decide) ?_
              refine aw_irem d_RC_open_55 (by decide) ?_
              rw [pk_rem hm (by omega) (by omega)]
              refine aw_istore d_RC_open_56 (Nat.le_of_ble_eq_true rfl) ?_
              refine aw_aload_n d_RC_open_58 rfl ?_
              refine aw_get d_RC_open_59 fl_RC_33 rfl rfl ?_
              refine aw_iload_n d_RC_open_62 rfl ?_
              refine aw_iconst (v := nI 4) d_RC_open_63 (by decide) ?_
              refine aw_idiv d_RC_open_64 (by decide) ?_
              rw [pk_div hm (by omega) (by omega)]
              refine aw_iload d_RC_open_65 rfl ?_
              refine aw_iload_n d_RC_open_67 rfl ?_
              refine aw_iload_n d_RC_open_68 rfl ?_
              refine aw_cV1 d_RC_open_69 (c_So_difference S r (m / 4) (m % 4) i j (by omega) (by omega) hi hj) mk_So_difference is_So_difference ln_RC_152 rfl rfl rfl rfl (Nat.le_of_ble_eq_true rfl) (Nat.le_of_ble_eq_true rfl) (Nat.le_of_ble_eq_true rfl) (Nat.le_of_ble_eq_true rfl) ?_
              refine aw_lstore d_RC_open_72 (Nat.le_of_ble_eq_true rfl) ?_
              refine aw_lload d_RC_open_74 rfl ?_
              refine aw_aload_n d_RC_open_76 rfl ?_
              refine aw_get d_RC_open_77 fl_RC_33 rfl rfl ?_
              refine aw_iload d_RC_open_80 rfl ?_
              refine aw_cV1 d_RC_open_82 (c_So_belowOf S r (m % 4) (by omega)) mk_So_belowOf is_So_belowOf ln_RC_119 rfl rfl rfl rfl (Nat.le_of_ble_eq_true rfl) (Nat.le_of_ble_eq_true rfl) (Nat.le_of_ble_eq_true rfl) (Nat.le_of_ble_eq_true rfl) ?_
              refine aw_iload d_RC_open_85 rfl ?_
              refine aw_cS1 d_RC_open_87 (c_RC_partOf _ _ _ p) mk_RC_partOf is_RC_partOf ln_RC_123 rfl rfl (Nat.le_of_ble_eq_true rfl) (Nat.le_of_ble_eq_true rfl) (Nat.le_of_ble_eq_true rfl) (Nat.le_of_ble_eq_true rfl) ?_
              exact aw_lretE d_RC_open_90 rfl rfl rfl rfl rfl
            · refine aw_lconst (v := lN 0) d_RC_open_51 rfl ?_
              exact aw_lretE d_RC_open_52 rfl (if_neg (fun c => (bI_0 _).mp h48 (by rw [hn1]; have := c.2.2; rw [cN_nI hm] at this; exact ⟨nI_pos' (by omega), nI_lt this (by omega)⟩))).symm rfl rfl rfl
        · refine aw_lconst (v := lN 0) d_RC_open_32 rfl ?_
          exact aw_lretE d_RC_open_33 rfl (if_neg (fun c => (bI_0 _).mp h29 c.1.2.2.2)).symm rfl rfl rfl
theorem c_RC_audit (S : cs_S) (r : List am_C) (x : Int64) (n : Int32) (n8 : Nat) (hf : fd_ok S n8) : am_ct y_RC_audit 2 [.ref 0, .long x, .int n] (cs_w S ++ r) (some (.int (if ok_audit n n8 then n else -1))) (cs_w (cg_audit S x n n8) ++ r) 0 0 := by
  refine am_ct.of rfl (Nat.le_of_ble_eq_true rfl) ?_
  refine aw_iload_n d_RC_audit_0 rfl ?_
  refine aw_iconst (v := nI 1) d_RC_audit_1 (by decide) ?_
  refine aw_icmp_lt (tgt := 16) d_RC_audit_2 (by decide) (fun h2 => ?_) (fun h2 => ?_)
  · refine aw_iconst (v := -1) d_RC_audit_16 (by decide) ?_
    exact aw_iretE d_RC_audit_17 rfl (if_neg (fun c => c.1 h2)).symm (by unfold cg_audit; rw [if_neg (fun c => c.1 h2)]) rfl rfl
  · refine aw_iload_n d_RC_audit_5 rfl ?_
    refine aw_aload_n d_RC_audit_6 rfl ?_
    refine aw_get d_RC_audit_7 fl_RC_19 rfl rfl ?_
    refine aw_cV1 d_RC_audit_10 (c_Fe_size S r) mk_Fe_size is_Fe_size ln_RC_156 rfl rfl rfl rfl (Nat.le_of_ble_eq_true rfl) (Nat.le_of_ble_eq_true rfl) (Nat.le_of_ble_eq_true rfl) (Nat.le_of_ble_eq_true rfl) ?_
    refine aw_eqs (congrArg (fun z => Value.int z :: _) hf.1) ?_
    refine aw_icmp_le (tgt := 18) d_RC_audit_13 (by decide) (fun h13 => ?_) (fun h13 => ?_)
    · have hok : ok_audit n n8 := ⟨h2, h13⟩
      have h0 : ¬ n < 0 := fun e => h2 (Int32.lt_trans e (by decide))
      obtain ⟨m, hm, em⟩ := nI_of h0
      subst em
      have hm8 : m ≤ n8 := (nI_leI hm (by have := hf.2.1; omega)).mp h13
      unfold cg_audit
      rw [if_pos hok, if_pos hok, cN_nI hm]
      refine aw_aload_n d_RC_audit_18 rfl ?_
      refine aw_get d_RC_audit_19 fl_RC_40 rfl rfl ?_
      refine aw_lload_n d_RC_audit_22 rfl ?_
      refine aw_iload_n d_RC_audit_23 rfl ?_
      refine aw_aload_n d_RC_audit_24 rfl ?_
      refine aw_get d_RC_audit_25 fl_RC_19 rfl rfl ?_
      refine aw_cV1 d_RC_audit_28 (c_Fe_size S r) mk_Fe_size is_Fe_size ln_RC_156 rfl rfl rfl rfl (Nat.le_of_ble_eq_true rfl) (Nat.le_of_ble_eq_true rfl) (Nat.le_of_ble_eq_true rfl) (Nat.le_of_ble_eq_true rfl) ?_
      refine aw_eqs (congrArg (fun z => Value.int z :: _) hf.1) ?_
      refine aw_cV0 d_RC_audit_31 (c_Dr_take S r x m n8 hm8 hf.2.1) mk_Dr_take is_Dr_take ln_RC_159 rfl rfl rfl rfl (Nat.le_of_ble_eq_true rfl) (Nat.le_of_ble_eq_true rfl) (Nat.le_of_ble_eq_true rfl) (Nat.le_of_ble_eq_true rfl) ?_
      refine aw_iload_n d_RC_audit_34 rfl ?_
      exact aw_iretE d_RC_audit_35 rfl rfl rfl rfl rfl
    · refine aw_iconst (v := -1) d_RC_audit_16 (by decide) ?_
      exact aw_iretE d_RC_audit_17 rfl (if_neg (fun c => h13 c.2)).symm (by unfold cg_audit; rw [if_neg (fun c => h13 c.2)]) rfl rfl
theorem c_RC_drawn (S : cs_S) (r : List am_C) (x : Int32) (c : Nat) (hc : S.2.2 32 = nI c) (h60 : c ≤ 60) : am_ct y_RC_drawn 1 [.ref 0, .int x] (cs_w S ++ r) (some (.int (if 0 ≤ x ∧ x < nI c then S.1 33 x.toNatClampNeg else -1))) (cs_w S ++ r) 0 0 := by
  refine am_ct.of rfl (Nat.le_of_ble_eq_true rfl) ?_
  refine aw_aload_n d_RC_drawn_0 rfl ?_
  refine aw_get d_RC_drawn_1 fl_RC_40 rfl rfl ?_
  refine aw_iload_n d_RC_drawn_4 rfl ?_
  refine aw_cV1 d_RC_drawn_5 (c_Dr_row S r x c hc h60) mk_Dr_row is_Dr_row ln_RC_162 rfl rfl rfl rfl (Nat.le_of_ble_eq_true rfl) (Nat.le_of_ble_eq_true rfl) (Nat.le_of_ble_eq_true rfl) (Nat.le_of_ble_eq_true rfl) ?_
  exact aw_iretE d_RC_drawn_8 rfl rfl rfl rfl rfl
theorem c_RC_unit (S : cs_S) (r : List am_C) (u : Int32) (n : Nat) (hn : S.2.2 34 = nI n) (h200 : n ≤ 200) : am_ct y_RC_unit 1 [.ref 0, .int u] (cs_w S ++ r) (some (.int (bI ((¬ u < 0 ∧ u ≤ nI 255) ∧ n < 200)))) (cs_w (if (¬ u < 0 ∧ u ≤ nI 255) ∧ n < 200 then cs_F (cs_I S 35 (upd (S.1 35) n u)) 34 (nI (n + 1)) else S) ++ r) 0 0 := by
  refine am_ct.of rfl (Nat.le_of_ble_eq_true rfl) ?_
  refine aw_iload_n d_RC_unit_0 rfl ?_
  refine aw_if_lt (tgt := 26) d_RC_unit_1 (by decide) (fun h1 => ?_) (fun h1 => ?_)
  · refine aw_iconst (v := nI 0) d_RC_unit_26 (by decide) ?_
    exact aw_zretE d_RC_unit_27 rfl rfl (bI_f (fun c => c.1.1 h1)).symm (by rw [if_neg (fun c => c.1.1 h1)]) rfl rfl
  · refine aw_iload_n d_RC_unit_4 rfl ?_
    refine aw_sipush (v := nI 255) d_RC_unit_5 (by decide) ?_
    refine aw_icmp_gt (tgt := 26) d_RC_unit_8 (by decide) (fun h8 => ?_) (fun h8 => ?_)
    · refine aw_iconst (v := nI 0) d_RC_unit_26 (by decide) ?_
      exact aw_zretE d_RC_unit_27 rfl rfl (bI_f (fun c => absurd h8 (Int32.not_lt.mpr c.1.2))).symm (by rw [if_neg (fun c => absurd h8 (Int32.not_lt.mpr c.1.2))]) rfl rfl
    · refine aw_aload_n d_RC_unit_11 rfl ?_
      refine aw_get d_RC_unit_12 fl_RC_47 rfl rfl ?_
      refine aw_iload_n d_RC_unit_15 rfl ?_
      refine aw_cV1 d_RC_unit_16 (c_Te_add S r u n hn h200) mk_Te_add is_Te_add ln_RC_166 rfl rfl rfl rfl (Nat.le_of_ble_eq_true rfl) (Nat.le_of_ble_eq_true rfl) (Nat.le_of_ble_eq_true rfl) (Nat.le_of_ble_eq_true rfl) ?_
      refine aw_if_eq (tgt := 26) d_RC_unit_19 (by decide) (fun h19 => ?_) (fun h19 => ?_)
      · refine aw_iconst (v := nI 0) d_RC_unit_26 (by decide) ?_
        exact aw_zretE d_RC_unit_27 rfl rfl (bI_f (fun c => (bI_0 _).mp h19 c.2)).symm (by rw [if_neg ((bI_0 _).mp h19), if_neg (fun c => (bI_0 _).mp h19 c.2)]) rfl rfl
      · refine aw_iconst (v := nI 1) d_RC_unit_22 (by decide) ?_
        refine aw_goto (tgt := 27) d_RC_unit_23 (by decide) ?_
        exact aw_zretE d_RC_unit_27 rfl rfl (bI_t ⟨⟨h1, Int32.not_lt.mp h8⟩, bI_n h19⟩).symm (by rw [if_pos (bI_n h19), if_pos ⟨⟨h1, Int32.not_lt.mp h8⟩, bI_n h19⟩]) rfl rfl
theorem c_RC_form (S : cs_S) (r : List am_C) (x : Int32) (n : Nat) (hn : S.2.2 34 = nI n) (h200 : n ≤ 200) (h16 : narrow .boolean (.int (S.2.2 16)) = .int (S.2.2 16)) : am_ct y_RC_form 8 [.ref 0, .int x] (cs_w S ++ r) (some (.int (if 0 ≤ x then fa_f S n n 0 (cN x) else -1))) (cs_w S ++ r) 0 0 := by
  refine am_ct.of rfl (Nat.le_of_ble_eq_true rfl) ?_
  refine aw_iload_n d_RC_form_0 rfl ?_
  refine aw_if_ge (tgt := 8) d_RC_form_1 (by decide) (fun h1 => ?_) (fun h1 => ?_)
  · have h0 : ¬ x < 0 := (i32_nlt _ _).mpr h1
    obtain ⟨m, hm, em⟩ := nI_of h0
    subst em
    rw [if_pos h1, cN_nI hm]
    refine aw_aload_n d_RC_form_8 rfl ?_
    refine aw_get d_RC_form_9 fl_RC_47 rfl rfl ?_
    refine aw_iload_n d_RC_form_12 rfl ?_
    refine aw_aload_n d_RC_form_13 rfl ?_
    refine aw_get d_RC_form_14 fl_RC_33 rfl rfl ?_
    refine aw_cV1 d_RC_form_17 (c_Te_filledAt S r n hn h200 h16 m hm) mk_Te_filledAt is_Te_filledAt ln_RC_168 rfl rfl rfl rfl (Nat.le_of_ble_eq_true rfl) (Nat.le_of_ble_eq_true rfl) (Nat.le_of_ble_eq_true rfl) (Nat.le_of_ble_eq_true rfl) ?_
    exact aw_iretE d_RC_form_20 rfl rfl rfl rfl rfl
  · refine aw_iconst (v := -1) d_RC_form_4 (by decide) ?_
    refine aw_goto (tgt := 20) d_RC_form_5 (by decide) ?_
    exact aw_iretE d_RC_form_20 rfl (if_neg h1).symm rfl rfl rfl
