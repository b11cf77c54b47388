/-! the calls that change plants, feeds, metals, placed, text, draws -/
def StI (yC yM : am_Y) (dC dM : Nat) (as : List Value) (C M : cs_S) : Prop := ∃ (x : Int32) (C' M' : cs_S), am_ct yC dC (.ref 0 :: as) (cs_w C ++ ms_w M) (some (.int x)) (cs_w C' ++ ms_w M) 0 0 ∧ am_ct yM dM (.ref 36 :: as) (cs_w C' ++ ms_w M) (some (.int x)) (cs_w C' ++ ms_w M') 0 0 ∧ Inv C' M'
def StL (yC yM : am_Y) (dC dM : Nat) (as : List Value) (C M : cs_S) : Prop := ∃ (x : Int64) (C' M' : cs_S), am_ct yC dC (.ref 0 :: as) (cs_w C ++ ms_w M) (some (.long x)) (cs_w C' ++ ms_w M) 0 0 ∧ am_ct yM dM (.ref 36 :: as) (cs_w C' ++ ms_w M) (some (.long x)) (cs_w C' ++ ms_w M') 0 0 ∧ Inv C' M'
theorem ct_eq {y : am_Y} {d : Nat} {as : List Value} {w : List am_C} {v v' : Option Value} {w1 w1' : List am_C} (h : am_ct y d as w v w1 0 0) (hv : v = v') (hw : w1 = w1') : am_ct y d as w v' w1' 0 0 := by subst hv; subst hw; exact h
theorem pl_iff {C M : cs_S} (h : In1 C M) (x : Int32) : iP C x ↔ mP M x := by unfold iP mP; rw [h.2.2.2.2.1]
theorem fd_of {C M : cs_S} {np nf : Nat} (h1 : In1 C M) (h3 : In3 M np nf) : fd_ok C nf := by
  obtain ⟨a, b, c⟩ := h3
  refine ⟨h1.2.2.2.2.2.1.trans a, b, fun j hj => ?_, fun j hj => ?_, fun j hj => ?_, fun j hj => ?_⟩
  · obtain ⟨p, hp, e, _⟩ := (c j hj).1
    rw [h1.2.1.1, e]; exact vp_in_nI hp (by omega)
  · obtain ⟨p, hp, e⟩ := (c j hj).2.1
    rw [h1.2.1.2.1, e]; exact vp_in_nI hp (by omega)
  · obtain ⟨p, hp, e⟩ := (c j hj).2.2.1
    rw [h1.2.1.2.2.1, e]; exact vp_in_nI hp (by omega)
  · obtain ⟨p, hp, e⟩ := (c j hj).2.2.2.1
    rw [h1.2.1.2.2.2.1, e]; exact vp_in_nI hp (by omega)
theorem gr_ex {g : Int64} {m : Nat} (hm : m < 2 ^ 63) (h : iW g (lN 0) (lN m)) : ∃ z : Int, 0 ≤ z ∧ z ≤ m ∧ g = zL z := by
  obtain ⟨k, hk, rfl⟩ := pk_lOf (x := g) (Int64.not_lt.mpr h.1)
  have := (pk_lLE hk hm).mp h.2
  exact ⟨k, by omega, by omega, (zL_n k).symm⟩
theorem s5_congr {f g : Nat → Int} (h : ∀ q, q < 5 → f q = g q) : s5 f = s5 g := by
  unfold s5; rw [h 0 (by omega), h 1 (by omega), h 2 (by omega), h 3 (by omega), h 4 (by omega)]
theorem s5_up {f g : Nat → Int} {r : Nat} (hr : r < 5) (h : ∀ q, q < 5 → q ≠ r → f q = g q) : s5 f = s5 g - g r + f r := by
  unfold s5
  rcases (show r = 0 ∨ r = 1 ∨ r = 2 ∨ r = 3 ∨ r = 4 by omega) with rfl | rfl | rfl | rfl | rfl
  · rw [h 1 (by omega) (by omega), h 2 (by omega) (by omega), h 3 (by omega) (by omega), h 4 (by omega) (by omega)]; omega
  · rw [h 0 (by omega) (by omega), h 2 (by omega) (by omega), h 3 (by omega) (by omega), h 4 (by omega) (by omega)]; omega
  · rw [h 0 (by omega) (by omega), h 1 (by omega) (by omega), h 3 (by omega) (by omega), h 4 (by omega) (by omega)]; omega
  · rw [h 0 (by omega) (by omega), h 1 (by omega) (by omega), h 2 (by omega) (by omega), h 4 (by omega) (by omega)]; omega
  · rw [h 0 (by omega) (by omega), h 1 (by omega) (by omega), h 2 (by omega) (by omega), h 3 (by omega) (by omega)]; omega
theorem b01_1 {f : Nat → Int32} (h : b01 f) (k : Nat) : b01 (upd f k 1) := fun j => by
  by_cases e : j = k
  · subst e; rw [pk_us]; exact Or.inr rfl
  · rw [pk_un e]; exact h j
theorem s_plant {C M : cs_S} (h : Inv C M) : StI y_RC_plant y_Mo_plant 1 0 [] C M := by
  obtain ⟨np, nf, h1, h2, h3, h4, h5, h6⟩ := h
  have e2 := h2.1
  have e1 : C.2.2 1 = nI np := h1.2.2.2.2.1.trans e2
  have hn5 := h2.2.1
  have c1 := c_RC_plant C (ms_w M)
  rw [e1] at c1
  by_cases hn : np < 5
  · have hl : nI np < nI 5 := nI_lt hn (by omega)
    have hne : ¬ nI np = nI 5 := fun e => by have := (nI_eq (by omega) (by omega)).mp e; omega
    rw [if_pos hl, if_pos hl] at c1
    have c2 := c_Mo_plant (cs_F C 1 (nI np + nI 1)) M
    rw [e2, if_neg hne, if_neg hne] at c2
    refine ⟨_, _, _, c1, c2, np + 1, nf, ?_, ?_, ?_, h4, h5, ?_⟩
    · exact ⟨h1.1, h1.2.1, h1.2.2.1, h1.2.2.2.1, rfl, h1.2.2.2.2.2⟩
    · refine ⟨nI_add np 1, by omega, fun p q hp hq => ?_, h2.2.2.2.1, fun p k a b c => h2.2.2.2.2.1 p k (by omega) b c, fun p a b => h2.2.2.2.2.2.1 p (by omega) b, h2.2.2.2.2.2.2⟩
      obtain ⟨n, a, b, c⟩ := h2.2.2.1 p q hp hq
      exact ⟨n, a, b, fun h => by have := c h; omega⟩
    · refine ⟨h3.1, h3.2.1, fun j hj => ?_⟩
      obtain ⟨⟨p, a, b, c⟩, r⟩ := h3.2.2 j hj
      exact ⟨⟨p, a, b, fun h => by have := c h; omega⟩, r⟩
    · exact In6_ext h6 (KpC_r C) ⟨rfl, rfl, rfl, rfl, rfl, rfl, rfl⟩ rfl (fun f _ => ⟨rfl, rfl, rfl, rfl, rfl⟩) (by omega) (Nat.le_refl _)
  · obtain rfl : np = 5 := by omega
    have hl : ¬ nI 5 < nI 5 := nI_nlt (Nat.le_refl 5) (by omega)
    rw [if_neg hl, if_neg hl] at c1
    have c2 := c_Mo_plant C M
    rw [e2, if_pos rfl, if_pos rfl] at c2
    exact ⟨_, _, _, c1, c2, 5, nf, h1, h2, h3, h4, h5, h6⟩
theorem ma_n {f : Nat → Int32} {p t : Nat} (ht : t < 5) {c : Nat → Nat} (h : ∀ q, q < 5 → f (5 * p + q) = nI (c q)) : ma_f f p t 5 = nI (c 0 + c 1 + c 2 + c 3 + c 4 - c t) := by
  show nI 0 + (if 0 = t then nI 0 else f (5 * p + 0)) + (if 1 = t then nI 0 else f (5 * p + 1)) + (if 2 = t then nI 0 else f (5 * p + 2)) + (if 3 = t then nI 0 else f (5 * p + 3)) + (if 4 = t then nI 0 else f (5 * p + 4)) = _
  rw [h 0 (by omega), h 1 (by omega), h 2 (by omega), h 3 (by omega), h 4 (by omega)]
  rcases (show t = 0 ∨ t = 1 ∨ t = 2 ∨ t = 3 ∨ t = 4 by omega) with rfl | rfl | rfl | rfl | rfl
  · rw [if_pos rfl, if_neg (by decide), if_neg (by decide), if_neg (by decide), if_neg (by decide), nI_add, nI_add, nI_add, nI_add, nI_add]; congr 1; omega
  · rw [if_neg (by decide), if_pos rfl, if_neg (by decide), if_neg (by decide), if_neg (by decide), nI_add, nI_add, nI_add, nI_add, nI_add]; congr 1; omega
  · rw [if_neg (by decide), if_neg (by decide), if_pos rfl, if_neg (by decide), if_neg (by decide), nI_add, nI_add, nI_add, nI_add, nI_add]; congr 1; omega
  · rw [if_neg (by decide), if_neg (by decide), if_neg (by decide), if_pos rfl, if_neg (by decide), nI_add, nI_add, nI_add, nI_add, nI_add]; congr 1; omega
  · rw [if_neg (by decide), if_neg (by decide), if_neg (by decide), if_neg (by decide), if_pos rfl, nI_add, nI_add, nI_add, nI_add, nI_add]; congr 1; omega
theorem sd_n {f : Nat → Int32} {p : Nat} {c : Nat → Nat} (h : ∀ q, q < 5 → f (5 * p + q) = nI (c q)) : sd_f f p 5 = nI (c 0 + c 1 + c 2 + c 3 + c 4) := by
  show nI 0 + f (5 * p + 0) + f (5 * p + 1) + f (5 * p + 2) + f (5 * p + 3) + f (5 * p + 4) = _
  rw [h 0 (by omega), h 1 (by omega), h 2 (by omega), h 3 (by omega), h 4 (by omega), nI_add, nI_add, nI_add, nI_add, nI_add]; congr 1; omega
theorem sh_ch {M : cs_S} {np : Nat} (h2 : In2 M np) {p : Nat} (hp : p < 5) : ∃ c : Nat → Nat, ∀ q, q < 5 → M.1 37 (5 * p + q) = nI (c q) ∧ c q ≤ 10 := by
  obtain ⟨c0, a0, b0, _⟩ := h2.2.2.1 p 0 hp (by omega)
  obtain ⟨c1, a1, b1, _⟩ := h2.2.2.1 p 1 hp (by omega)
  obtain ⟨c2, a2, b2, _⟩ := h2.2.2.1 p 2 hp (by omega)
  obtain ⟨c3, a3, b3, _⟩ := h2.2.2.1 p 3 hp (by omega)
  obtain ⟨c4, a4, b4, _⟩ := h2.2.2.1 p 4 hp (by omega)
  refine ⟨fun q => if q = 0 then c0 else if q = 1 then c1 else if q = 2 then c2 else if q = 3 then c3 else c4, fun q hq => ?_⟩
  rcases (show q = 0 ∨ q = 1 ∨ q = 2 ∨ q = 3 ∨ q = 4 by omega) with rfl | rfl | rfl | rfl | rfl
  · exact ⟨b0, a0⟩
  · exact ⟨b1, a1⟩
  · exact ⟨b2, a2⟩
  · exact ⟨b3, a3⟩
  · exact ⟨b4, a4⟩
theorem s5_n {f : Nat → Int32} {p n : Nat} {c : Nat → Nat} (h : ∀ q, q < 5 → f (5 * p + q) = nI (c q) ∧ c q ≤ 10) (hs : s5 (fun q => (f (5 * p + q)).toInt) = n) : n = c 0 + c 1 + c 2 + c 3 + c 4 := by
  have g := fun q hq => (show (f (5 * p + q)).toInt = (c q : Int) by rw [(h q hq).1, nI_toInt (by have := (h q hq).2; omega)])
  have hs2 : s5 (fun q => (c q : Int)) = n := (s5_congr g).symm.trans hs
  simp only [s5] at hs2
  omega
theorem sum_eq {C M : cs_S} {np : Nat} (h2 : In2 M np) (h5 : In5 C M) {p : Nat} (hp : p < 5) : ∃ n : Nat, n ≤ 10 ∧ C.1 3 p = nI n ∧ sd_f (M.1 37) p 5 = nI n := by
  obtain ⟨n, a, b, c⟩ := h5 p hp
  obtain ⟨f, hf⟩ := sh_ch h2 hp
  refine ⟨n, a, b, ?_⟩
  rw [sd_n (fun q hq => (hf q hq).1), s5_n hf c]
theorem s_share {C M : cs_S} (h : Inv C M) (x t : Int32) (a b : Int64) : StI y_RC_share y_Mo_share 2 2 [.int x, .int t, .long a, .long b] C M := by
  obtain ⟨np, nf, h1, h2, h3, h4, h5, h6⟩ := h
  have e2 := h2.1
  have hn5 := h2.2.1
  have e1 : C.2.2 1 = nI np := h1.2.2.2.2.1.trans e2
  have c1 := c_RC_share C (ms_w M) x t a b np e1 hn5
  have ok : ok_share C x t a b ↔ mk_share M x t a b := by
    unfold ok_share mk_share
    rw [tn_iff, pl_iff h1, pl_iff h1]
    exact ⟨fun h => ⟨h.2.1, h.2.2, h.1⟩, fun h => ⟨h.2.2, h.1, h.2.1⟩⟩
  by_cases hk : mk_share M x t a b
  · obtain ⟨p, hp, rfl⟩ := mP_ex hk.1 e2 hn5
    obtain ⟨r, hr, rfl⟩ := mP_ex hk.2.1 e2 hn5
    obtain ⟨m, hm, t1, t2⟩ := tn_ok hk.2.2
    have cp : cN (nI p) = p := cN_nI (by omega)
    have cr : cN (nI r) = r := cN_nI (by omega)
    obtain ⟨n, hn, b1, b2⟩ := h5 p (by omega)
    obtain ⟨f, hf⟩ := sh_ch h2 (p := p) (by omega)
    have en := s5_n hf b2
    have hfr := hf r (by omega)
    have hle : f r ≤ n := by
      rcases (show r = 0 ∨ r = 1 ∨ r = 2 ∨ r = 3 ∨ r = 4 by omega) with rfl | rfl | rfl | rfl | rfl <;> omega
    have i1 : C.1 2 (p * 5 + r) = nI (f r) := by rw [h1.1.1, Nat.mul_comm]; exact hfr.1
    have v1 : C.1 3 p - C.1 2 (p * 5 + r) + tn_f a b = nI (n - f r + m) := by
      rw [b1, i1, t1, pk_sub hle, nI_add]
    have v2 : ma_f (M.1 37) p r 5 + mt_n a b = nI (n - f r + m) := by
      rw [ma_n (by omega) (fun q hq => (hf q hq).1), t2, nI_add, en]
    have hc : sh_c C (nI p) (nI r) a b ↔ n - f r + m ≤ 10 := by
      unfold sh_c; rw [cp, cr, v1]; exact nI_leI (by omega) (by omega)
    have hd : ms_c M (nI p) (nI r) a b ↔ n - f r + m ≤ 10 := by
      unfold ms_c; rw [cp, cr, v2]; exact nI_leI (by omega) (by omega)
    by_cases hx : n - f r + m ≤ 10
    · have y1 : ok_share C (nI p) (nI r) a b ∧ sh_c C (nI p) (nI r) a b := ⟨ok.mpr hk, hc.mpr hx⟩
      have y2 : mk_share M (nI p) (nI r) a b ∧ ms_c M (nI p) (nI r) a b := ⟨hk, hd.mpr hx⟩
      rw [if_pos y1, bI_t y1, cp, cr, v1, t1] at c1
      have c2 := c_Mo_share (cs_I (cs_I C 2 (upd (C.1 2) (p * 5 + r) (nI m))) 3 (upd (C.1 3) p (nI (n - f r + m)))) M (nI p) (nI r) a b np e2 hn5
      rw [if_pos y2, bI_t y2, cp, cr, t2] at c2
      refine ⟨_, _, _, c1, c2, np, nf, ?_, ?_, h3, h4, ?_, ?_⟩
      · refine ⟨⟨?_, h1.1.2⟩, h1.2⟩
        show upd (C.1 2) (p * 5 + r) (nI m) = upd (M.1 37) (5 * p + r) (nI m)
        rw [h1.1.1, Nat.mul_comm]
      · refine ⟨e2, hn5, fun p' q' hp' hq' => ?_, h2.2.2.2⟩
        show ∃ n : Nat, n ≤ 10 ∧ upd (M.1 37) (5 * p + r) (nI m) (5 * p' + q') = nI n ∧ _
        by_cases e : 5 * p' + q' = 5 * p + r
        · refine ⟨m, hm, by rw [e, pk_us], fun _ => by omega⟩
        · rw [pk_un e]; exact h2.2.2.1 p' q' hp' hq'
      · intro p' hp'
        show ∃ n' : Nat, n' ≤ 10 ∧ upd (C.1 3) p (nI (n - f r + m)) p' = nI n' ∧ s5 (fun q => (upd (M.1 37) (5 * p + r) (nI m) (5 * p' + q)).toInt) = n'
        by_cases e : p' = p
        · subst e
          refine ⟨n - f r + m, hx, pk_us, ?_⟩
          rw [s5_up (g := fun q => (M.1 37 (5 * p' + q)).toInt) (show r < 5 by omega) (fun q hq hne => congrArg Int32.toInt (pk_un (by omega))), b2]
          show (n : Int) - (M.1 37 (5 * p' + r)).toInt + (upd (M.1 37) (5 * p' + r) (nI m) (5 * p' + r)).toInt = _
          rw [pk_us, hfr.1, nI_toInt (by omega), nI_toInt (by omega)]
          omega
        · rw [pk_un e]
          obtain ⟨n', q1, q2, q3⟩ := h5 p' hp'
          refine ⟨n', q1, q2, ?_⟩
          rw [← q3]
          exact s5_congr (fun q hq => congrArg Int32.toInt (pk_un (by omega)))
      · exact In6_ext h6 ⟨rfl, rfl, rfl, rfl, rfl, rfl, rfl⟩ ⟨rfl, rfl, rfl, rfl, rfl, rfl, rfl⟩ rfl (fun f _ => ⟨rfl, rfl, rfl, rfl, rfl⟩) (Nat.le_refl _) (Nat.le_refl _)
    · have y1 : ¬ (ok_share C (nI p) (nI r) a b ∧ sh_c C (nI p) (nI r) a b) := fun h => hx (hc.mp h.2)
      have y2 : ¬ (mk_share M (nI p) (nI r) a b ∧ ms_c M (nI p) (nI r) a b) := fun h => hx (hd.mp h.2)
      rw [if_neg y1, bI_f y1] at c1
      have c2 := c_Mo_share C M (nI p) (nI r) a b np e2 hn5
      rw [if_neg y2, bI_f y2] at c2
      exact ⟨_, _, _, c1, c2, np, nf, h1, h2, h3, h4, h5, h6⟩
  · have y1 : ¬ (ok_share C x t a b ∧ sh_c C x t a b) := fun h => hk (ok.mp h.1)
    have y2 : ¬ (mk_share M x t a b ∧ ms_c M x t a b) := fun h => hk h.1
    rw [if_neg y1, bI_f y1] at c1
    have c2 := c_Mo_share C M x t a b np e2 hn5
    rw [if_neg y2, bI_f y2] at c2
    exact ⟨_, _, _, c1, c2, np, nf, h1, h2, h3, h4, h5, h6⟩
theorem s_point {C M : cs_S} (h : Inv C M) (x k : Int32) : StI y_RC_point y_Mo_point 3 1 [.int x, .int k] C M := by
  obtain ⟨np, nf, h1, h2, h3, h4, h5, h6⟩ := h
  have e2 := h2.1
  have hn5 := h2.2.1
  have e1 : C.2.2 1 = nI np := h1.2.2.2.2.1.trans e2
  have hb : b01 (C.1 4) := by rw [h1.1.2.1]; exact h2.2.2.2.1
  have c1 := c_RC_point C (ms_w M) x k hb np e1 hn5
  have ok : ((iP C x ∧ iR k 4) ∧ C.1 4 (cN x * 4 + cN k) = 0) ↔ ((mP M x ∧ iR k 4) ∧ M.1 38 (4 * cN x + cN k) = 0) := by
    rw [pl_iff h1, h1.1.2.1, Nat.mul_comm]
  by_cases hk : (mP M x ∧ iR k 4) ∧ M.1 38 (4 * cN x + cN k) = 0
  · rw [if_pos (ok.mpr hk), bI_t (ok.mpr hk)] at c1
    have c2 := c_Mo_point (cs_I C 4 (upd (C.1 4) (cN x * 4 + cN k) 1)) M x k np e2 hn5
    rw [if_pos hk, bI_t hk] at c2
    obtain ⟨p, hp, rfl⟩ := mP_ex hk.1.1 e2 hn5
    obtain ⟨j, hj, rfl⟩ := in_ex hk.1.2 (by omega)
    have cp : cN (nI p) = p := cN_nI (by omega)
    have cj : cN (nI j) = j := cN_nI (by omega)
    rw [cp, cj] at c1 c2
    refine ⟨_, _, _, c1, c2, np, nf, ?_, ?_, h3, h4, h5, ?_⟩
    · refine ⟨⟨h1.1.1, ?_, h1.1.2.2⟩, h1.2⟩
      show upd (C.1 4) (p * 4 + j) 1 = upd (M.1 38) (4 * p + j) 1
      rw [h1.1.2.1, Nat.mul_comm]
    · refine ⟨e2, hn5, h2.2.2.1, b01_1 h2.2.2.2.1 _, fun p' k' a b c => ?_, h2.2.2.2.2.2⟩
      show upd (M.1 38) (4 * p + j) 1 (4 * p' + k') = 0
      rw [pk_un (by omega)]; exact h2.2.2.2.2.1 p' k' a b c
    · exact In6_ext h6 ⟨rfl, rfl, rfl, rfl, rfl, rfl, rfl⟩ ⟨rfl, rfl, rfl, rfl, rfl, rfl, rfl⟩ rfl (fun f _ => ⟨rfl, rfl, rfl, rfl, rfl⟩) (Nat.le_refl _) (Nat.le_refl _)
  · have y1 := fun h => hk (ok.mp h)
    rw [if_neg y1, bI_f y1] at c1
    have c2 := c_Mo_point C M x k np e2 hn5
    rw [if_neg hk, bI_f hk] at c2
    exact ⟨_, _, _, c1, c2, np, nf, h1, h2, h3, h4, h5, h6⟩
theorem s_average {C M : cs_S} (h : Inv C M) (x : Int32) (a b : Int64) : StI y_RC_average y_Mo_average 2 2 [.int x, .long a, .long b] C M := by
  obtain ⟨np, nf, h1, h2, h3, h4, h5, h6⟩ := h
  have e2 := h2.1
  have hn5 := h2.2.1
  have e1 : C.2.2 1 = nI np := h1.2.2.2.2.1.trans e2
  have c1 := c_RC_average C (ms_w M) x a b np e1 hn5
  have ok : (tn_f a b ≠ -1 ∧ iP C x) ↔ (mP M x ∧ iF a b) := by
    rw [pl_iff h1, tn_iff]; exact And.comm
  by_cases hk : mP M x ∧ iF a b
  · obtain ⟨m, hm, t1, t2⟩ := tn_ok hk.2
    rw [if_pos (ok.mpr hk), bI_t (ok.mpr hk), t1] at c1
    have c2 := c_Mo_average (cs_I (cs_I C 5 (upd (C.1 5) (cN x) 1)) 6 (upd (C.1 6) (cN x) (nI m))) M x a b np e2 hn5
    rw [if_pos hk, bI_t hk, t2] at c2
    obtain ⟨p, hp, rfl⟩ := mP_ex hk.1 e2 hn5
    have cp : cN (nI p) = p := cN_nI (by omega)
    rw [cp] at c1 c2
    refine ⟨_, _, _, c1, c2, np, nf, ?_, ?_, h3, h4, h5, ?_⟩
    · refine ⟨⟨h1.1.1, h1.1.2.1, ?_, ?_⟩, h1.2⟩
      · show upd (C.1 5) p 1 = upd (M.1 39) p 1
        rw [h1.1.2.2.1]
      · show upd (C.1 6) p (nI m) = upd (M.1 40) p (nI m)
        rw [h1.1.2.2.2]
    · refine ⟨e2, hn5, h2.2.2.1, h2.2.2.2.1, h2.2.2.2.2.1, fun p' a b => ?_, fun p' hp' => ?_⟩
      · show upd (M.1 39) p 1 p' = 0
        rw [pk_un (by omega)]; exact h2.2.2.2.2.2.1 p' a b
      · show ∃ n : Nat, n ≤ 10 ∧ upd (M.1 40) p (nI m) p' = nI n
        by_cases e : p' = p
        · exact ⟨m, hm, by rw [e, pk_us]⟩
        · rw [pk_un e]; exact h2.2.2.2.2.2.2 p' hp'
    · exact In6_ext h6 ⟨rfl, rfl, rfl, rfl, rfl, rfl, rfl⟩ ⟨rfl, rfl, rfl, rfl, rfl, rfl, rfl⟩ rfl (fun f _ => ⟨rfl, rfl, rfl, rfl, rfl⟩) (Nat.le_refl _) (Nat.le_refl _)
  · have y1 := fun h => hk (ok.mp h)
    rw [if_neg y1, bI_f y1] at c1
    have c2 := c_Mo_average C M x a b np e2 hn5
    rw [if_neg hk, bI_f hk] at c2
    exact ⟨_, _, _, c1, c2, np, nf, h1, h2, h3, h4, h5, h6⟩
theorem s_feed {C M : cs_S} (h : Inv C M) (x k : Int32) (g : Int64) (y c : Int32) : StI y_RC_feed y_Mo_feed 2 1 [.int x, .int k, .long g, .int y, .int c] C M := by
  obtain ⟨np, nf, h1, h2, h3, h4, h5, h6⟩ := h
  have e2 := h2.1
  have hn5 := h2.2.1
  have hf := fd_of h1 h3
  have c1 := c_RC_feed C (ms_w M) x k g y c nf hf
  have ok : ok_feed C x k g y c ↔ mk_feed M x k g y c := by
    unfold ok_feed mk_feed
    rw [pl_iff h1]
    exact ⟨fun h => ⟨h.1, h.2.1, h.2.2.2.2, h.2.2.1, h.2.2.2.1⟩, fun h => ⟨h.1, h.2.1, h.2.2.2.1, h.2.2.2.2, h.2.2.1⟩⟩
  by_cases hk : mk_feed M x k g y c ∧ nf < 60
  · have y1 : ok_feed C x k g y c ∧ nf < 60 := ⟨ok.mpr hk.1, hk.2⟩
    rw [if_pos y1, bI_t y1] at c1
    have c2 := c_Mo_feed (cs_F (cs_J (cs_I (cs_I (cs_I (cs_I C 9 (upd (C.1 9) nf x)) 10 (upd (C.1 10) nf k)) 11 (upd (C.1 11) nf y)) 12 (upd (C.1 12) nf c)) 13 (vp_updL (C.2.1 13) nf g)) 8 (nI (nf + 1))) M x k g y c nf h3.1 h3.2.1
    rw [if_pos hk, bI_t hk] at c2
    obtain ⟨⟨k1, k2, k3, k4, k5⟩, h60⟩ := hk
    refine ⟨_, _, _, c1, c2, np, nf + 1, ?_, h2, ?_, h4, h5, ?_⟩
    · refine ⟨h1.1, ⟨?_, ?_, ?_, ?_, ?_⟩, h1.2.2.1, h1.2.2.2.1, h1.2.2.2.2.1, rfl, h1.2.2.2.2.2.2⟩
      · show upd (C.1 9) nf x = upd (M.1 41) nf x
        rw [h1.2.1.1]
      · show upd (C.1 10) nf k = upd (M.1 42) nf k
        rw [h1.2.1.2.1]
      · show upd (C.1 11) nf y = upd (M.1 43) nf y
        rw [h1.2.1.2.2.1]
      · show upd (C.1 12) nf c = upd (M.1 44) nf c
        rw [h1.2.1.2.2.2.1]
      · show vp_updL (C.2.1 13) nf g = vp_updL (M.2.1 45) nf g
        rw [h1.2.1.2.2.2.2]
    · refine ⟨rfl, by omega, fun j hj => ?_⟩
      show (∃ p : Nat, p < 5 ∧ upd (M.1 41) nf x j = nI p ∧ (j < nf + 1 → p < np)) ∧ (∃ k' : Nat, k' < 4 ∧ upd (M.1 42) nf k j = nI k') ∧ (∃ y' : Nat, y' < 10 ∧ upd (M.1 43) nf y j = nI y') ∧ (∃ c' : Nat, c' < 4 ∧ upd (M.1 44) nf c j = nI c') ∧ ∃ g' : Int, 0 ≤ g' ∧ g' ≤ 1000000000 ∧ vp_updL (M.2.1 45) nf g j = zL g'
      by_cases e : j = nf
      · rw [e, pk_us, pk_us, pk_us, pk_us, pk_uLs]
        obtain ⟨p, hp, ep⟩ := mP_ex k1 e2 hn5
        obtain ⟨g', z1, z2, z3⟩ := gr_ex (by omega) k3
        exact ⟨⟨p, by omega, ep, fun _ => hp⟩, in_ex k2 (by omega), in_ex k4 (by omega), in_ex k5 (by omega), g', z1, by omega, z3⟩
      · rw [pk_un e, pk_un e, pk_un e, pk_un e, pk_uLn e]
        obtain ⟨⟨p, q1, q2, q3⟩, r⟩ := h3.2.2 j hj
        exact ⟨⟨p, q1, q2, fun h => q3 (by omega)⟩, r⟩
    · exact In6_ext h6 ⟨rfl, rfl, rfl, rfl, rfl, rfl, rfl⟩ ⟨rfl, rfl, rfl, rfl, rfl, rfl, rfl⟩ rfl (fun f hf => ⟨pk_un (by omega), pk_un (by omega), pk_un (by omega), pk_un (by omega), pk_uLn (by omega)⟩) (Nat.le_refl _) (by omega)
  · have y1 : ¬ (ok_feed C x k g y c ∧ nf < 60) := fun h => hk ⟨ok.mp h.1, h.2⟩
    rw [if_neg y1, bI_f y1] at c1
    have c2 := c_Mo_feed C M x k g y c nf h3.1 h3.2.1
    rw [if_neg hk, bI_f hk] at c2
    exact ⟨_, _, _, c1, c2, np, nf, h1, h2, h3, h4, h5, h6⟩
theorem s_metals {C M : cs_S} (h : Inv C M) (y : Int32) (g : Int64) : StI y_RC_metals y_Mo_metals 1 1 [.int y, .long g] C M := by
  obtain ⟨np, nf, h1, h2, h3, h4, h5, h6⟩ := h
  have c1 := c_RC_metals C (ms_w M) y g
  by_cases hk : iR y 10 ∧ iW g (lN 0) (lN 1000000000)
  · rw [if_pos hk, bI_t hk] at c1
    have c2 := c_Mo_metals (cs_J C 14 (vp_updL (C.2.1 14) (cN y) g)) M y g
    rw [if_pos hk, bI_t hk] at c2
    refine ⟨_, _, _, c1, c2, np, nf, ?_, h2, h3, ?_, h5, ?_⟩
    · refine ⟨h1.1, h1.2.1, ⟨?_, h1.2.2.1.2⟩, h1.2.2.2⟩
      show vp_updL (C.2.1 14) (cN y) g = vp_updL (M.2.1 46) (cN y) g
      rw [h1.2.2.1.1]
    · refine ⟨fun j hj => ?_, h4.2⟩
      show ∃ m : Int, 0 ≤ m ∧ m ≤ 1000000000 ∧ vp_updL (M.2.1 46) (cN y) g j = zL m
      by_cases e : j = cN y
      · rw [e, pk_uLs]
        obtain ⟨g', z1, z2, z3⟩ := gr_ex (by omega) hk.2
        exact ⟨g', z1, by omega, z3⟩
      · rw [pk_uLn e]; exact h4.1 j hj
    · exact In6_ext h6 ⟨rfl, rfl, rfl, rfl, rfl, rfl, rfl⟩ ⟨rfl, rfl, rfl, rfl, rfl, rfl, rfl⟩ rfl (fun f _ => ⟨rfl, rfl, rfl, rfl, rfl⟩) (Nat.le_refl _) (Nat.le_refl _)
  · rw [if_neg hk, bI_f hk] at c1
    have c2 := c_Mo_metals C M y g
    rw [if_neg hk, bI_f hk] at c2
    exact ⟨_, _, _, c1, c2, np, nf, h1, h2, h3, h4, h5, h6⟩
theorem s_placed {C M : cs_S} (h : Inv C M) (k y : Int32) (g : Int64) : StI y_RC_placed y_Mo_placed 1 1 [.int k, .int y, .long g] C M := by
  obtain ⟨np, nf, h1, h2, h3, h4, h5, h6⟩ := h
  have c1 := c_RC_placed C (ms_w M) k y g
  by_cases hk : iR k 4 ∧ iR y 10 ∧ iW g (lN 0) (lN 100000000000)
  · rw [if_pos hk, bI_t hk] at c1
    have c2 := c_Mo_placed (cs_J C 15 (vp_updL (C.2.1 15) (cN k * 10 + cN y) g)) M k y g
    rw [if_pos hk, bI_t hk] at c2
    refine ⟨_, _, _, c1, c2, np, nf, ?_, h2, h3, ?_, h5, ?_⟩
    · refine ⟨h1.1, h1.2.1, ⟨h1.2.2.1.1, ?_⟩, h1.2.2.2⟩
      show vp_updL (C.2.1 15) (cN k * 10 + cN y) g = vp_updL (M.2.1 47) (10 * cN k + cN y) g
      rw [h1.2.2.1.2, Nat.mul_comm]
    · refine ⟨h4.1, fun j hj => ?_, h4.2.2⟩
      show ∃ m : Int, 0 ≤ m ∧ m ≤ 100000000000 ∧ vp_updL (M.2.1 47) (10 * cN k + cN y) g j = zL m
      by_cases e : j = 10 * cN k + cN y
      · rw [e, pk_uLs]
        obtain ⟨g', z1, z2, z3⟩ := gr_ex (by omega) hk.2.2
        exact ⟨g', z1, by omega, z3⟩
      · rw [pk_uLn e]; exact h4.2.1 j hj
    · exact In6_ext h6 ⟨rfl, rfl, rfl, rfl, rfl, rfl, rfl⟩ ⟨rfl, rfl, rfl, rfl, rfl, rfl, rfl⟩ rfl (fun f _ => ⟨rfl, rfl, rfl, rfl, rfl⟩) (Nat.le_refl _) (Nat.le_refl _)
  · rw [if_neg hk, bI_f hk] at c1
    have c2 := c_Mo_placed C M k y g
    rw [if_neg hk, bI_f hk] at c2
    exact ⟨_, _, _, c1, c2, np, nf, h1, h2, h3, h4, h5, h6⟩
theorem s_audit {C M : cs_S} (h : Inv C M) (x : Int64) (n : Int32) : StI y_RC_audit y_Mo_audit 2 0 [.long x, .int n] C M := by
  obtain ⟨np, nf, h1, h2, h3, h4, h5, h6⟩ := h
  have hf := fd_of h1 h3
  have c1 := c_RC_audit C (ms_w M) x n nf hf
  by_cases hk : ok_audit n nf
  · unfold cg_audit at c1
    rw [if_pos hk, if_pos hk] at c1
    have c2 := c_Mo_audit (cs_F (cs_I C 33 (dr_f nf (cN n) 0 x (tr_f (C.1 33) nf))) 32 (nI (cN n))) M x n nf h3.1 h3.2.1
    unfold mg_audit at c2
    rw [if_pos hk, if_pos hk] at c2
    refine ⟨_, _, _, c1, c2, np, nf, ?_, h2, h3, ?_, h5, ?_⟩
    · refine ⟨h1.1, h1.2.1, h1.2.2.1, ⟨?_, h1.2.2.2.1.2⟩, h1.2.2.2.2.1, h1.2.2.2.2.2.1, h1.2.2.2.2.2.2.1, rfl, h1.2.2.2.2.2.2.2.2⟩
      show dr_f nf (cN n) 0 x (tr_f (C.1 33) nf) = dr_f nf (cN n) 0 x (tr_f (M.1 53) nf)
      rw [h1.2.2.2.1.1]
    · refine ⟨h4.1, h4.2.1, ⟨cN n, ?_, rfl⟩, h4.2.2.2⟩
      have hn0 : ¬ n < 0 := fun h => hk.1 (Int32.lt_trans h (by decide))
      obtain ⟨j, hj, rfl⟩ := nI_of hn0
      rw [cN_nI hj]
      have := (nI_leI hj (by have := h3.2.1; omega)).mp hk.2
      have := h3.2.1
      omega
    · exact In6_ext h6 ⟨rfl, rfl, rfl, rfl, rfl, rfl, rfl⟩ ⟨rfl, rfl, rfl, rfl, rfl, rfl, rfl⟩ rfl (fun f _ => ⟨rfl, rfl, rfl, rfl, rfl⟩) (Nat.le_refl _) (Nat.le_refl _)
  · unfold cg_audit at c1
    rw [if_neg hk, if_neg hk] at c1
    have c2 := c_Mo_audit C M x n nf h3.1 h3.2.1
    unfold mg_audit at c2
    rw [if_neg hk, if_neg hk] at c2
    exact ⟨_, _, _, c1, c2, np, nf, h1, h2, h3, h4, h5, h6⟩
theorem s_drawn {C M : cs_S} (h : Inv C M) (x : Int32) : StI y_RC_drawn y_Mo_drawn 1 0 [.int x] C M := by
  have h0 := h
  obtain ⟨np, nf, h1, h2, h3, h4, h5, h6⟩ := h
  obtain ⟨c, hc, ec⟩ := h4.2.2.1
  have c1 := c_RC_drawn C (ms_w M) x c (h1.2.2.2.2.2.2.2.1.trans ec) hc
  rw [h1.2.2.2.1.1] at c1
  exact ⟨_, C, M, c1, c_Mo_drawn C M x c ec hc, h0⟩
theorem s_unit {C M : cs_S} (h : Inv C M) (u : Int32) : StI y_RC_unit y_Mo_unit 1 0 [.int u] C M := by
  obtain ⟨np, nf, h1, h2, h3, h4, h5, h6⟩ := h
  obtain ⟨n, hn, en⟩ := h4.2.2.2.1
  have c1 := c_RC_unit C (ms_w M) u n (h1.2.2.2.2.2.2.2.2.trans en) hn
  by_cases hk : (¬ u < 0 ∧ u ≤ nI 255) ∧ n < 200
  · rw [if_pos hk, bI_t hk] at c1
    have c2 := c_Mo_unit (cs_F (cs_I C 35 (upd (C.1 35) n u)) 34 (nI (n + 1))) M u n en hn
    rw [if_pos hk, bI_t hk] at c2
    refine ⟨_, _, _, c1, c2, np, nf, ?_, h2, h3, ?_, h5, ?_⟩
    · refine ⟨h1.1, h1.2.1, h1.2.2.1, ⟨h1.2.2.2.1.1, ?_⟩, h1.2.2.2.2.1, h1.2.2.2.2.2.1, h1.2.2.2.2.2.2.1, h1.2.2.2.2.2.2.2.1, rfl⟩
      show upd (C.1 35) n u = upd (M.1 54) n u
      rw [h1.2.2.2.1.2]
    · refine ⟨h4.1, h4.2.1, h4.2.2.1, ⟨n + 1, by omega, rfl⟩, fun j hj => ?_, h4.2.2.2.2.2⟩
      show ∃ u' : Nat, u' ≤ 255 ∧ upd (M.1 54) n u j = nI u'
      by_cases e : j = n
      · rw [e, pk_us]
        obtain ⟨i, hi, rfl⟩ := nI_of hk.1.1
        exact ⟨i, (nI_leI hi (by omega)).mp hk.1.2, rfl⟩
      · rw [pk_un e]; exact h4.2.2.2.2.1 j hj
    · exact In6_ext h6 ⟨rfl, rfl, rfl, rfl, rfl, rfl, rfl⟩ ⟨rfl, rfl, rfl, rfl, rfl, rfl, rfl⟩ rfl (fun f _ => ⟨rfl, rfl, rfl, rfl, rfl⟩) (Nat.le_refl _) (Nat.le_refl _)
  · rw [if_neg hk, bI_f hk] at c1
    have c2 := c_Mo_unit C M u n en hn
    rw [if_neg hk, bI_f hk] at c2
    exact ⟨_, _, _, c1, c2, np, nf, h1, h2, h3, h4, h5, h6⟩
