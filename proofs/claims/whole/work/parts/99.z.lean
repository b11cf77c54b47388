theorem c_Pl_shareOf (S : cs_S) (r : List am_C) (p t : Nat) (hp : p < 5) (ht : t < 5) : am_ct y_Pl_shareOf 0 [.ref 1, .int (nI p), .int (nI t)] (cs_w S ++ r) (some (.int (S.1 2 (p * 5 + t)))) (cs_w S ++ r) 0 0 := by
  refine am_ct.of rfl (Nat.le_of_ble_eq_true rfl) ?_
  refine aw_aload_n d_Pl_shareOf_0 rfl ?_
  refine aw_get d_Pl_shareOf_1 fl_Pl_9 rfl rfl ?_
  refine aw_iload_n d_Pl_shareOf_4 rfl ?_
  refine aw_iconst (v := nI 5) d_Pl_shareOf_5 rfl ?_
  refine aw_imul d_Pl_shareOf_6 ?_
  refine aw_iload_n d_Pl_shareOf_7 rfl ?_
  refine aw_iadd d_Pl_shareOf_8 ?_
  refine aw_iald d_Pl_shareOf_9 rfl (by rw [pk_mul, nI_add]; exact vp_in_nI (by omega) (by omega)) ?_
  rw [pk_mul, nI_add, nI_clamp (by omega)]
  exact aw_iret d_Pl_shareOf_10 rfl
theorem c_Pl_setLoss (S : cs_S) (r : List am_C) (p : Nat) (x : Int32) (hp : p < 5) : am_ct y_Pl_setLoss 0 [.ref 1, .int (nI p), .int x] (cs_w S ++ r) none (cs_w (cs_I (cs_I S 5 (upd (S.1 5) p 1)) 6 (upd (S.1 6) p x)) ++ r) 0 0 := by
  refine am_ct.of rfl (Nat.le_of_ble_eq_true rfl) ?_
  refine aw_aload_n d_Pl_setLoss_0 rfl ?_
  refine aw_get d_Pl_setLoss_1 fl_Pl_22 rfl rfl ?_
  refine aw_iload_n d_Pl_setLoss_4 rfl ?_
  refine aw_iconst (v := nI 1) d_Pl_setLoss_5 rfl ?_
  refine aw_zast d_Pl_setLoss_6 rfl (vp_in_nI hp (by omega)) ?_
  rw [nI_clamp (by omega)]
  refine aw_aload_n d_Pl_setLoss_7 rfl ?_
  refine aw_get d_Pl_setLoss_8 fl_Pl_25 rfl rfl ?_
  refine aw_iload_n d_Pl_setLoss_11 rfl ?_
  refine aw_iload_n d_Pl_setLoss_12 rfl ?_
  refine aw_iast d_Pl_setLoss_13 rfl (vp_in_nI hp (by omega)) ?_
  rw [nI_clamp (by omega)]
  refine aw_eqw (w' := (cs_w (cs_I (cs_I S 5 (upd (S.1 5) p 1)) 6 (upd (S.1 6) p x)) ++ r)) rfl ?_
  exact aw_vret d_Pl_setLoss_14 rfl
