/-! solve: what is kept -/
theorem mA_eq {C M : cs_S} {np : Nat} (h1 : In1 C M) (h2 : In2 M np) (h5 : In5 C M) {k r q : Nat} (hr : r < 5) : mA M k r q = cA C k r q := by
  obtain ⟨n, hn, a1, a2⟩ := sum_eq h2 h5 hr
  have e4 : C.1 4 (r * 4 + k) = M.1 38 (4 * r + k) := by rw [h1.1.2.1, Nat.mul_comm]
  have e2 : C.1 2 (r * 5 + q) = M.1 37 (5 * r + q) := by rw [h1.1.1, Nat.mul_comm]
  have hg : cs_g C k r ↔ lo_g M k r := by unfold cs_g lo_g; rw [e4, a1, a2]
  unfold mA cA
  by_cases h : q = 5
  · rw [if_pos h, if_pos h]
    by_cases hp : M.1 38 (4 * r + k) = 0
    · rw [if_neg (fun z => z hp)]
      by_cases hl : lo_g M k r
      · rw [if_neg (fun z => z.1 hl), if_pos (hg.mpr hl)]
      · rw [if_neg (fun z => hl (hg.mp z))]
        show _ = (if C.1 4 (r * 4 + k) = 0 then (if C.1 5 r = 0 then nI 0 else nI 10 - C.1 6 r) else nI 10).toInt
        rw [if_pos (e4.trans hp), h1.1.2.2.1, h1.1.2.2.2]
        by_cases ha : M.1 39 r = 0
        · rw [if_neg (fun z => z.2 ha), if_pos ha]; rfl
        · rw [if_pos ⟨hl, ha⟩, if_neg ha]; rfl
    · rw [if_pos hp, if_neg (fun z => hp (e4.symm.trans z.1))]
      show _ = (if C.1 4 (r * 4 + k) = 0 then (if C.1 5 r = 0 then nI 0 else nI 10 - C.1 6 r) else nI 10).toInt
      rw [if_neg (fun z => hp (e4.symm.trans z))]; rfl
  · rw [if_neg h, if_neg h]
    unfold lo_a
    rw [e2]
    congr 1
    exact if_iff9 hg.symm _ _
theorem cA_sk (C : cs_S) (k r : Nat) (hr : r < 5) : cA C k r 5 = 0 ∨ ((∀ q, q < 5 → q ≠ r → cA C k r q = 0) ∧ cA C k r r = 10) := by
  by_cases hg : cs_g C k r
  · left; unfold cA; rw [if_pos rfl, if_pos hg]
  · right
    refine ⟨fun q hq hne => ?_, ?_⟩
    · unfold cA; rw [if_neg (by omega), if_neg hne, if_neg hg]; rfl
    · unfold cA; rw [if_neg (by omega), if_pos rfl, if_neg hg]; rfl
theorem cA_hi {C M : cs_S} {np : Nat} (h1 : In1 C M) (h2 : In2 M np) (h5 : In5 C M) {k r : Nat} (hk : k < 4) (hn : np ≤ r) (hr : r < 5) : (∀ q, q < 5 → q ≠ r → cA C k r q = 0) ∧ cA C k r 5 = 0 := by
  obtain ⟨n, b1, b2, b3⟩ := h5 r hr
  obtain ⟨c, hc⟩ := sh_ch h2 hr
  have hz : ∀ q, q < 5 → c q = 0 := fun q hq => by
    obtain ⟨m, m1, m2, m3⟩ := h2.2.2.1 r q hr hq
    have e := (hc q hq).1.symm.trans m2
    have := (nI_eq (by have := (hc q hq).2; omega) (by omega)).mp e
    by_cases h0 : 0 < m
    · have := m3 h0; omega
    · omega
  have en := s5_n hc b3
  have z0 := hz 0 (by omega); have z1 := hz 1 (by omega); have z2 := hz 2 (by omega); have z3 := hz 3 (by omega); have z4 := hz 4 (by omega)
  have n0 : n = 0 := by omega
  have hg : ¬ cs_g C k r := fun z => by
    have := z.2
    rw [b2, n0] at this
    exact absurd this (by decide)
  have e4 : C.1 4 (r * 4 + k) = 0 := by rw [h1.1.2.1, Nat.mul_comm]; exact h2.2.2.2.2.1 r k hn hr hk
  have e5 : C.1 5 r = 0 := by rw [h1.1.2.2.1]; exact h2.2.2.2.2.2.1 r hn hr
  refine ⟨fun q hq hne => ?_, ?_⟩
  · unfold cA; rw [if_neg (by omega), if_neg hne, if_neg hg]; rfl
  · unfold cA
    rw [if_pos rfl, if_neg hg]
    show (if C.1 4 (r * 4 + k) = 0 then (if C.1 5 r = 0 then nI 0 else nI 10 - C.1 6 r) else nI 10).toInt = 0
    rw [if_pos e4, if_pos e5]; rfl
theorem sh_of {C M : cs_S} {np : Nat} (h1 : In1 C M) (h2 : In2 M np) : ∀ r q, r < 5 → q < 5 → ∃ n : Nat, n ≤ 10 ∧ C.1 2 (r * 5 + q) = nI n := fun r q hr hq => by
  obtain ⟨n, a, b, _⟩ := h2.2.2.1 r q hr hq
  exact ⟨n, a, by rw [h1.1.1, Nat.mul_comm]; exact b⟩
theorem wt_of {C M : cs_S} {np : Nat} (h1 : In1 C M) (h2 : In2 M np) (h5 : In5 C M) (k : Nat) (hR : ∀ p, p < 5 → cR C k p) : ∃ v : Nat → Int, (∀ q, q < 5 → 0 < v q) ∧ ∀ r, r < 5 → Rw v (cA C k r) r ∧ cA C k r r ≤ 10 := by
  refine wt_ok C k (sh_of h1 h2) (fun r hr => ?_) (fun r hr => by rw [h1.1.2.2.2]; exact h2.2.2.2.2.2.2 r hr) hR
  obtain ⟨n, a, b, c⟩ := h5 r hr
  refine ⟨n, a, b, ?_⟩
  rw [← c]
  exact s5_congr (fun q _ => by rw [h1.1.1, Nat.mul_comm])
theorem kw_f_at (J : Nat → Nat → Int64) (k p k' : Nat) (hk : k < 4) (hk' : k' < 4) : ∀ n, kw_f J k n (p * 4 + k') = if k' = k ∧ p < n then J (19 + p) 5 else J 25 (p * 4 + k')
  | 0 => by rw [if_neg (by omega)]; rfl
  | n + 1 => by
    show vp_updL (kw_f J k n) (n * 4 + k) (J (19 + n) 5) (p * 4 + k') = _
    by_cases h : p * 4 + k' = n * 4 + k
    · have h2 : k' = k ∧ p = n := by omega
      obtain ⟨rfl, rfl⟩ := h2
      rw [pk_uLs, if_pos (by omega)]
    · rw [pk_uLn h, kw_f_at J k p k' hk hk' n]
      by_cases h2 : k' = k ∧ p < n
      · rw [if_pos h2, if_pos (by omega)]
      · rw [if_neg h2, if_neg (by omega)]
theorem kk_ok (S : cs_S) (hs : ∀ r q, r < 5 → q < 5 → ∃ n : Nat, n ≤ 10 ∧ S.1 2 (r * 5 + q) = nI n) (hw : ∀ k, k < 4 → ∃ v : Nat → Int, (∀ q, q < 5 → 0 < v q) ∧ ∀ r, r < 5 → Rw v (cA S k r) r ∧ cA S k r r ≤ 10) : ∀ n, n ≤ 4 → (∀ j, (j < 19 ∨ 26 ≤ j) → kk_J S n j = S.2.1 j) ∧ ∀ k, k < n → ∃ (v : Nat → Int) (B : Nat → Nat → Nat → Int) (p : Nat → Int), (∀ q, q < 5 → 0 < v q) ∧ Bz (cA S k) B p ∧ (∀ k, k ≤ 5 → Bi v B p k) ∧ kk_J S n 24 k = zL (p 5) ∧ ∀ r, r < 5 → kk_J S n 25 (r * 4 + k) = zL (B 5 r 5)
  | 0, _ => ⟨fun j _ => rfl, fun k hk => absurd hk (by omega)⟩
  | n + 1, hn => by
    obtain ⟨ih1, ih2⟩ := kk_ok S hs hw n (by omega)
    obtain ⟨v, hv, hrw⟩ := hw n (by omega)
    obtain ⟨B, p, hz⟩ := bz_ex (cA S n)
    have hB := bi_all hv hz hrw
    have kw := kw_ok hv (S.1, kk_J S n, S.2.2) n hs (B := B) (p := p) hz hB
    obtain ⟨k1, k2, k3⟩ := kw
    have k3 : ∀ j, (j < 19 ∨ 24 ≤ j) → (kw_F (S.1, kk_J S n, S.2.2) n).1 j = kk_J S n j := k3
    have eK : kk_J S (n + 1) = va_up (kw_1 (S.1, kk_J S n, S.2.2) n) 25 (kw_f (kw_1 (S.1, kk_J S n, S.2.2) n) n 5) := rfl
    have e24 : kk_J S (n + 1) 24 = vp_updL (kk_J S n 24) n (zL (p 5)) := by
      rw [eK, va_up_ne _ _ (by decide)]
      show vp_updL ((kw_F (S.1, kk_J S n, S.2.2) n).1 24) n (kw_F (S.1, kk_J S n, S.2.2) n).2 = _
      rw [k1, k3 24 (by omega)]
    have e25 : kk_J S (n + 1) 25 = kw_f (kw_1 (S.1, kk_J S n, S.2.2) n) n 5 := rfl
    have w1 : ∀ j, j ≠ 24 → kw_1 (S.1, kk_J S n, S.2.2) n j = (kw_F (S.1, kk_J S n, S.2.2) n).1 j := fun j hj => va_up_ne _ _ hj
    refine ⟨fun j hj => ?_, fun k hk => ?_⟩
    · rw [eK, va_up_ne _ _ (show j ≠ 25 by omega), w1 j (by omega), k3 j (by omega), ih1 j hj]
    · by_cases e : k = n
      · subst e
        refine ⟨v, B, p, hv, hz, hB, by rw [e24, pk_uLs], fun r hr => ?_⟩
        rw [e25, kw_f_at _ _ _ _ (by omega) (by omega), if_pos ⟨rfl, hr⟩, w1 _ (by omega), k2 r hr]
      · obtain ⟨v', B', p', a1, a2, a3, a4, a5⟩ := ih2 k (by omega)
        refine ⟨v', B', p', a1, a2, a3, by rw [e24, pk_uLn e]; exact a4, fun r hr => ?_⟩
        rw [e25, kw_f_at _ _ _ _ (by omega) (by omega), if_neg (fun z => e z.1), w1 _ (by decide), k3 25 (by omega)]
        exact a5 r hr
theorem cl_at (f : Nat → Int64) (j : Nat) : ∀ n, cl_f f n j = if j < n then lN 0 else f j
  | 0 => by rw [if_neg (by omega)]; rfl
  | n + 1 => by
    show vp_updL (cl_f f n) n (lN 0) j = _
    by_cases h : j = n
    · subst h; rw [pk_uLs, if_pos (by omega)]
    · rw [pk_uLn h, cl_at f j n]
      by_cases h2 : j < n
      · rw [if_pos h2, if_pos (by omega)]
      · rw [if_neg h2, if_neg (by omega)]
theorem zb_at (f : Nat → Int32) (j : Nat) : ∀ n, zb_f f n j = if j < n then 0 else f j
  | 0 => by rw [if_neg (by omega)]; rfl
  | n + 1 => by
    show upd (zb_f f n) n 0 j = _
    by_cases h : j = n
    · subst h; rw [pk_us, if_pos (by omega)]
    · rw [pk_un h, zb_at f j n]
      by_cases h2 : j < n
      · rw [if_pos h2, if_pos (by omega)]
      · rw [if_neg h2, if_neg (by omega)]
theorem cp_at (f g : Nat → Int64) (j : Nat) : ∀ n, cp_f f g n j = if j < n then g j else f j
  | 0 => by rw [if_neg (by omega)]; rfl
  | n + 1 => by
    show vp_updL (cp_f f g n) n (g n) j = _
    by_cases h : j = n
    · subst h; rw [pk_uLs, if_pos (by omega)]
    · rw [pk_uLn h, cp_at f g j n]
      by_cases h2 : j < n
      · rw [if_pos h2, if_pos (by omega)]
      · rw [if_neg h2, if_neg (by omega)]
theorem mt_b_at (J : Nat → Nat → Int64) (j : Nat) : ∀ n, mt_b J n j = if 30 ≤ j ∧ j < 30 + n then J 27 j + J 14 (j - 30) else J 27 j
  | 0 => by rw [if_neg (by omega)]; rfl
  | n + 1 => by
    show vp_updL (mt_b J n) (3 * 10 + n) (mt_b J n (3 * 10 + n) + J 14 n) j = _
    by_cases h : j = 3 * 10 + n
    · subst h
      rw [pk_uLs, mt_b_at J _ n, if_neg (by omega), if_pos (by omega), show 3 * 10 + n - 30 = n by omega]
    · rw [pk_uLn h, mt_b_at J j n]
      by_cases h2 : 30 ≤ j ∧ j < 30 + n
      · rw [if_pos h2, if_pos (by omega)]
      · rw [if_neg h2, if_neg (by omega)]
theorem mt_c_at (J : Nat → Nat → Int64) (j : Nat) : ∀ n, mt_c J n j = if 30 ≤ j ∧ j < 30 + n then J 28 j + J 14 (j - 30) * J 24 3 else J 28 j
  | 0 => by rw [if_neg (by omega)]; rfl
  | n + 1 => by
    show vp_updL (mt_c J n) (0 * 4 * 10 + (3 * 10 + n)) (mt_c J n (0 * 4 * 10 + (3 * 10 + n)) + J 14 n * J 24 3) j = _
    by_cases h : j = 0 * 4 * 10 + (3 * 10 + n)
    · subst h
      rw [pk_uLs, mt_c_at J _ n, if_neg (by omega), if_pos (by omega), show 0 * 4 * 10 + (3 * 10 + n) - 30 = n by omega]
    · rw [pk_uLn h, mt_c_at J j n]
      by_cases h2 : 30 ≤ j ∧ j < 30 + n
      · rw [if_pos h2, if_pos (by omega)]
      · rw [if_neg h2, if_neg (by omega)]
/-- the sums after n feeds -/
theorem af_ok (S T : cs_S) (J : Nat → Nat → Int64) (q w : Nat → Int) (nf : Nat) (h60 : nf ≤ 60)
    (e41 : T.1 41 = S.1 9) (e42 : T.1 42 = S.1 10) (e43 : T.1 43 = S.1 11) (e44 : T.1 44 = S.1 12) (e45 : T.2.1 45 = J 13)
    (hf : ∀ j, j < nf → (∃ p : Nat, p < 5 ∧ S.1 9 j = nI p) ∧ (∃ k : Nat, k < 4 ∧ S.1 10 j = nI k) ∧ (∃ y : Nat, y < 10 ∧ S.1 11 j = nI y) ∧ (∃ c : Nat, c < 4 ∧ S.1 12 j = nI c))
    (hw : ∀ p k, p < 5 → k < 4 → J 25 (p * 4 + k) = zL (w (4 * p + k)))
    (h26 : ∀ j, j < 200 → J 26 j = lN 0) (h27 : ∀ k y, k < 4 → y < 10 → J 27 (k * 10 + y) = zL (if k = 3 then (T.2.1 51 y).toInt else 0))
    (h28 : ∀ c k y, c < 4 → k < 4 → y < 10 → J 28 (c * 4 * 10 + (k * 10 + y)) = zL (if k = 3 ∧ nI c ≤ 0 then (T.2.1 51 y).toInt * q k else 0)) : ∀ n, n ≤ nf →
    (∀ j, j ≠ 26 → j ≠ 27 → j ≠ 28 → af_J S J n j = J j) ∧
    (∀ p k y, p < 5 → k < 4 → y < 10 → af_J S J n 26 ((p * 4 + k) * 10 + y) = zL (fe_T T p k y n)) ∧
    (∀ k y, k < 4 → y < 10 → af_J S J n 27 (k * 10 + y) = zL (fd_T T k y n)) ∧
    ∀ c k y, c < 4 → k < 4 → y < 10 → af_J S J n 28 (c * 4 * 10 + (k * 10 + y)) = zL (sm_T T w k y (nI c) (-1) n + (if k = 3 ∧ nI c ≤ 0 then (T.2.1 51 y).toInt * q k else 0))
  | 0, _ => ⟨fun j _ _ _ => rfl, fun p k y hp hk hy => h26 _ (by omega), fun k y hk hy => h27 k y hk hy, fun c k y hc hk hy => by
      show J 28 _ = zL (0 + _)
      rw [Int.zero_add]; exact h28 c k y hc hk hy⟩
  | n + 1, hn => by
    obtain ⟨i1, i2, i3, i4⟩ := af_ok S T J q w nf h60 e41 e42 e43 e44 e45 hf hw h26 h27 h28 n (by omega)
    obtain ⟨⟨p, hp, ep⟩, ⟨k, hk, ek⟩, ⟨y, hy, ey⟩, ⟨c, hc, ec⟩⟩ := hf n (by omega)
    have st : af_J S J (n + 1) = ad_J (af_J S J n) p k y c n := by
      show ad_J (af_J S J n) (S.1 9 n).toNatClampNeg (S.1 10 n).toNatClampNeg (S.1 11 n).toNatClampNeg (S.1 12 n).toNatClampNeg n = _
      rw [ep, ek, ey, ec, nI_clamp (by omega), nI_clamp (by omega), nI_clamp (by omega), nI_clamp (by omega)]
    have g13 : af_J S J n 13 n = zL (T.2.1 45 n).toInt := by rw [i1 13 (by decide) (by decide) (by decide), e45, zL_of]
    have g25 : af_J S J n 25 (p * 4 + k) = zL (w (4 * p + k)) := by rw [i1 25 (by decide) (by decide) (by decide), hw p k hp hk]
    have t41 : T.1 41 n = nI p := by rw [e41]; exact ep
    have t42 : T.1 42 n = nI k := by rw [e42]; exact ek
    have t43 : T.1 43 n = nI y := by rw [e43]; exact ey
    have t44 : T.1 44 n = nI c := by rw [e44]; exact ec
    have s26 : af_J S J (n + 1) 26 = vp_updL (af_J S J n 26) ((p * 4 + k) * 10 + y) (af_J S J n 26 ((p * 4 + k) * 10 + y) + af_J S J n 13 n) := by rw [st]; rfl
    have s27 : af_J S J (n + 1) 27 = vp_updL (af_J S J n 27) (k * 10 + y) (af_J S J n 27 (k * 10 + y) + af_J S J n 13 n) := by rw [st]; rfl
    have s28 : af_J S J (n + 1) 28 = vp_updL (af_J S J n 28) (c * 4 * 10 + (k * 10 + y)) (af_J S J n 28 (c * 4 * 10 + (k * 10 + y)) + af_J S J n 13 n * af_J S J n 25 (p * 4 + k)) := by rw [st]; rfl
    refine ⟨fun j h1 h2 h3 => ?_, fun p' k' y' hp' hk' hy' => ?_, fun k' y' hk' hy' => ?_, fun c' k' y' hc' hk' hy' => ?_⟩
    · rw [st]
      show va_up (va_up (va_up (af_J S J n) 26 _) 27 _) 28 _ j = _
      rw [va_up_ne _ _ h3, va_up_ne _ _ h2, va_up_ne _ _ h1]
      exact i1 j h1 h2 h3
    · rw [s26]
      show _ = zL (fe_T T p' k' y' n + (if T.1 41 n = nI p' ∧ T.1 42 n = nI k' ∧ T.1 43 n = nI y' then (T.2.1 45 n).toInt else 0))
      rw [t41, t42, t43]
      by_cases e : (p' * 4 + k') * 10 + y' = (p * 4 + k) * 10 + y
      · have e3 : p' = p ∧ k' = k ∧ y' = y := by omega
        obtain ⟨rfl, rfl, rfl⟩ := e3
        rw [pk_uLs, if_pos ⟨rfl, rfl, rfl⟩, i2 p' k' y' hp hk hy, g13, zL_add]
      · rw [pk_uLn e, if_neg, Int.add_zero]
        · exact i2 p' k' y' hp' hk' hy'
        · rintro ⟨a1, a2, a3⟩
          have := (nI_eq (by omega) (by omega)).mp a1
          have := (nI_eq (by omega) (by omega)).mp a2
          have := (nI_eq (by omega) (by omega)).mp a3
          omega
    · rw [s27]
      show _ = zL (fd_T T k' y' n + (if T.1 42 n = nI k' ∧ T.1 43 n = nI y' then (T.2.1 45 n).toInt else 0))
      rw [t42, t43]
      by_cases e : k' * 10 + y' = k * 10 + y
      · have e3 : k' = k ∧ y' = y := by omega
        obtain ⟨rfl, rfl⟩ := e3
        rw [pk_uLs, if_pos ⟨rfl, rfl⟩, i3 k' y' hk hy, g13, zL_add]
      · rw [pk_uLn e, if_neg, Int.add_zero]
        · exact i3 k' y' hk' hy'
        · rintro ⟨a2, a3⟩
          have := (nI_eq (by omega) (by omega)).mp a2
          have := (nI_eq (by omega) (by omega)).mp a3
          omega
    · rw [s28]
      have hsm : sm_T T w k' y' (nI c') (-1) (n + 1) = sm_T T w k' y' (nI c') (-1) n + (if k' = k ∧ y' = y ∧ c' = c then (T.2.1 45 n).toInt * w (4 * p + k') else 0) := by
        show sm_T T w k' y' (nI c') (-1) n + (if sm_c T k' y' (nI c') (-1) n then (T.2.1 45 n).toInt * w (4 * cN (T.1 41 n) + k') else 0) = _
        rw [show cN (T.1 41 n) = p by rw [t41, cN_nI (by omega)]]
        congr 1
        refine if_iff9 ?_ _ _
        unfold sm_c
        rw [t42, t43, t44, nI_eq (by omega) (by omega), nI_eq (by omega) (by omega), nI_eq (by omega) (by omega)]
        exact ⟨fun z => ⟨z.1.symm, z.2.1.symm, (z.2.2.1.resolve_left (nI_pos (by omega))).symm⟩, fun z => ⟨z.1.symm, z.2.1.symm, Or.inr z.2.2.symm, Or.inl (by decide)⟩⟩
      rw [hsm]
      by_cases e : c' * 4 * 10 + (k' * 10 + y') = c * 4 * 10 + (k * 10 + y)
      · have e3 : c' = c ∧ k' = k ∧ y' = y := by omega
        obtain ⟨rfl, rfl, rfl⟩ := e3
        rw [pk_uLs, if_pos ⟨rfl, rfl, rfl⟩, i4 c' k' y' hc hk hy, g13, g25, zL_mul, zL_add]
        congr 1; omega
      · rw [pk_uLn e, if_neg (by omega), Int.add_zero]
        exact i4 c' k' y' hc' hk' hy'
theorem fs_y_at (a b st : Nat → Int64) (c k : Nat) (j : Nat) : ∀ n, fs_y a b st c k n j = if c * 4 * 10 + k * 10 ≤ j ∧ j < c * 4 * 10 + k * 10 + n then dn_f (a k) (b j) else st j
  | 0 => by rw [if_neg (by omega)]; rfl
  | n + 1 => by
    show vp_updL (fs_y a b st c k n) (c * 4 * 10 + (k * 10 + n)) (dn_f (a k) (b (c * 4 * 10 + (k * 10 + n)))) j = _
    by_cases h : j = c * 4 * 10 + (k * 10 + n)
    · rw [h, pk_uLs, if_pos (by omega)]
    · rw [pk_uLn h, fs_y_at a b st c k j n]
      by_cases h2 : c * 4 * 10 + k * 10 ≤ j ∧ j < c * 4 * 10 + k * 10 + n
      · rw [if_pos h2, if_pos (by omega)]
      · rw [if_neg h2, if_neg (by omega)]
theorem fs_k_at (a b st : Nat → Int64) (c k y : Nat) (hk : k < 4) (hy : y < 10) (c' : Nat) : ∀ n, n ≤ 4 → fs_k a b st c' n (c * 4 * 10 + (k * 10 + y)) = if c' = c ∧ k < n then dn_f (a k) (b (c * 4 * 10 + (k * 10 + y))) else st (c * 4 * 10 + (k * 10 + y))
  | 0, _ => by rw [if_neg (by omega)]; rfl
  | n + 1, hn => by
    show fs_y a b (fs_k a b st c' n) c' n 10 (c * 4 * 10 + (k * 10 + y)) = _
    rw [fs_y_at]
    by_cases h : c' = c ∧ k = n
    · obtain ⟨rfl, rfl⟩ := h
      rw [if_pos (by omega), if_pos (by omega)]
    · rw [if_neg (by omega), fs_k_at a b st c k y hk hy c' n (by omega)]
      by_cases h2 : c' = c ∧ k < n
      · rw [if_pos h2, if_pos (by omega)]
      · rw [if_neg h2, if_neg (by omega)]
theorem fs_c_at (a b st : Nat → Int64) (c k y : Nat) (hk : k < 4) (hy : y < 10) : ∀ n, fs_c a b st n (c * 4 * 10 + (k * 10 + y)) = if c < n then dn_f (a k) (b (c * 4 * 10 + (k * 10 + y))) else st (c * 4 * 10 + (k * 10 + y))
  | 0 => by rw [if_neg (by omega)]; rfl
  | n + 1 => by
    show fs_k a b (fs_c a b st n) n 4 (c * 4 * 10 + (k * 10 + y)) = _
    rw [fs_k_at a b _ c k y hk hy n 4 (Nat.le_refl 4)]
    by_cases h : n = c
    · rw [if_pos ⟨h, hk⟩, if_pos (by omega)]
    · rw [if_neg (fun z => h z.1), fs_c_at a b st c k y hk hy n]
      by_cases h2 : c < n
      · rw [if_pos h2, if_pos (by omega)]
      · rw [if_neg h2, if_neg (by omega)]
/-! told: where bare plants lose -/
theorem lb_at (S : cs_S) (k : Nat) (e f : Nat → Int32) (p : Nat) : ∀ n, lb_f S k e f n p = if p < n ∧ e p ≠ 0 ∧ cs_b S k p then 1 else f p
  | 0 => by rw [if_neg (by omega)]; rfl
  | n + 1 => by
    show (if e n ≠ 0 ∧ cs_b S k n then upd (lb_f S k e f n) n 1 else lb_f S k e f n) p = _
    by_cases h : e n ≠ 0 ∧ cs_b S k n
    · rw [if_pos h]
      by_cases hp : p = n
      · subst hp; rw [pk_us, if_pos ⟨by omega, h⟩]
      · rw [pk_un hp, lb_at S k e f p n]
        by_cases h2 : p < n ∧ e p ≠ 0 ∧ cs_b S k p
        · rw [if_pos h2, if_pos ⟨by omega, h2.2⟩]
        · rw [if_neg h2, if_neg (fun z => h2 ⟨by omega, z.2⟩)]
    · rw [if_neg h, lb_at S k e f p n]
      by_cases h2 : p < n ∧ e p ≠ 0 ∧ cs_b S k p
      · rw [if_pos h2, if_pos ⟨by omega, h2.2⟩]
      · rw [if_neg h2, if_neg]
        intro z
        by_cases hp : p = n
        · subst hp; exact h z.2
        · exact h2 ⟨by omega, z.2⟩
theorem cs_b_lk (n8 : Nat) (D : cs_S) (m k p : Nat) : cs_b (lk_S n8 D m) k p ↔ cs_b D k p := by
  unfold cs_b
  rw [lk_S_1 n8 D 4 (by decide) (by decide), lk_S_1 n8 D 3 (by decide) (by decide), lk_S_1 n8 D 5 (by decide) (by decide)]
theorem cs_I_s (S : cs_S) (k : Nat) (g : Nat → Int32) : (cs_I S k g).1 k = g := if_pos rfl
theorem lk_s31 (n8 : Nat) (D : cs_S) (m : Nat) : (lk_S n8 D (m + 1)).1 31 = lb_f (lk_S n8 D m) m (fc_R (lk_S n8 D m) m n8) ((lk_S n8 D m).1 31) 5 := cs_I_s _ 31 _
theorem lk_31 (n8 : Nat) (D : cs_S) (p : Nat) (hp : p < 5) : ∀ m, (lk_S n8 D m).1 31 p ≠ 0 ↔ D.1 31 p ≠ 0 ∨ ∃ k, k < m ∧ fc_R (lk_S n8 D k) k n8 p ≠ 0 ∧ cs_b D k p
  | 0 => ⟨fun h => Or.inl h, fun h => h.elim id (fun ⟨k, hk, _⟩ => absurd hk (by omega))⟩
  | m + 1 => by
    have ih := lk_31 n8 D p hp m
    rw [lk_s31, lb_at]
    by_cases h : p < 5 ∧ fc_R (lk_S n8 D m) m n8 p ≠ 0 ∧ cs_b (lk_S n8 D m) m p
    · rw [if_pos h]
      exact ⟨fun _ => Or.inr ⟨m, by omega, h.2.1, (cs_b_lk n8 D m m p).mp h.2.2⟩, fun _ => by decide⟩
    · rw [if_neg h, ih]
      constructor
      · rintro (z | ⟨k, a, b⟩)
        · exact Or.inl z
        · exact Or.inr ⟨k, by omega, b⟩
      · rintro (z | ⟨k, a, b, c⟩)
        · exact Or.inl z
        · by_cases e : k = m
          · subst e; exact absurd ⟨hp, b, (cs_b_lk n8 D k k p).mpr c⟩ h
          · exact Or.inr ⟨k, by omega, b, c⟩
theorem lk_b01 (n8 : Nat) (D : cs_S) (h : b01 (D.1 31)) : ∀ m, b01 ((lk_S n8 D m).1 31)
  | 0 => h
  | m + 1 => fun p => by
    rw [lk_s31, lb_at]
    by_cases h2 : p < 5 ∧ fc_R (lk_S n8 D m) m n8 p ≠ 0 ∧ cs_b (lk_S n8 D m) m p
    · rw [if_pos h2]; exact Or.inr rfl
    · rw [if_neg h2]; exact lk_b01 n8 D h m p
theorem fc_2_at (S : cs_S) (k : Nat) (e : Nat → Int32) (p : Nat) : ∀ n, fc_2 S k e n p ≠ 0 ↔ e p ≠ 0 ∨ ∃ j, j < n ∧ S.1 10 j = nI k ∧ lN 0 < S.2.1 13 j ∧ cN (S.1 9 j) = p
  | 0 => ⟨fun h => Or.inl h, fun h => h.elim id (fun ⟨k, hk, _⟩ => absurd hk (by omega))⟩
  | n + 1 => by
    show (if S.1 10 n = nI k ∧ lN 0 < S.2.1 13 n then upd (fc_2 S k e n) (S.1 9 n).toNatClampNeg 1 else fc_2 S k e n) p ≠ 0 ↔ _
    have ih := fc_2_at S k e p n
    by_cases h : S.1 10 n = nI k ∧ lN 0 < S.2.1 13 n
    · rw [if_pos h]
      by_cases hp : p = (S.1 9 n).toNatClampNeg
      · rw [hp, pk_us]
        exact ⟨fun _ => Or.inr ⟨n, by omega, h.1, h.2, rfl⟩, fun _ => by decide⟩
      · rw [pk_un hp, ih]
        constructor
        · rintro (z | ⟨j, a, b⟩)
          · exact Or.inl z
          · exact Or.inr ⟨j, by omega, b⟩
        · rintro (z | ⟨j, a, b, c, d⟩)
          · exact Or.inl z
          · by_cases ej : j = n
            · subst ej; exact absurd d.symm hp
            · exact Or.inr ⟨j, by omega, b, c, d⟩
    · rw [if_neg h, ih]
      constructor
      · rintro (z | ⟨j, a, b⟩)
        · exact Or.inl z
        · exact Or.inr ⟨j, by omega, b⟩
      · rintro (z | ⟨j, a, b, c, d⟩)
        · exact Or.inl z
        · by_cases ej : j = n
          · subst ej; exact absurd ⟨b, c⟩ h
          · exact Or.inr ⟨j, by omega, b, c, d⟩
abbrev cam (S : cs_S) (k n p : Nat) : Bool := ex_n (fun j => decide (S.1 42 j = nI k ∧ lN 0 < S.2.1 45 j ∧ cN (S.1 41 j) = p)) n
theorem bool_iff {a b : Bool} (h : a = true ↔ b = true) : a = b := Bool.eq_iff_iff.mpr h
/-- D: the class's state; M: the reference's, of the same plants and feeds -/
theorem came_ok {D M : cs_S} {np : Nat} (h2 : In2 M np) (d2 : D.1 2 = M.1 37) (d4 : D.1 4 = M.1 38) (d9 : D.1 9 = M.1 41) (d10 : D.1 10 = M.1 42) (d13 : D.2.1 13 = M.2.1 45) (d3 : ∀ p, p < 5 → ∃ n : Nat, n ≤ 10 ∧ D.1 3 p = nI n ∧ sd_f (M.1 37) p 5 = nI n) (n8 k p : Nat) (hp : p < 5) : fc_R (lk_S n8 D k) k n8 p ≠ 0 ↔ Rc (cam M k n8) (gE M k) 4 p = true := by
  unfold fc_R
  rw [fc_4_iff _ _ _ p hp]
  refine Rc_eq (fun p hp => bool_iff ?_) (fun q p hq hp => bool_iff ?_) 4 p hp
  · rw [decide_eq_true_iff, fc_2_at, ex_n_iff, zb_at, if_pos hp, lk_S_1 n8 D 10 (by decide) (by decide), lk_S_1 n8 D 9 (by decide) (by decide), lk_S_2, d9, d10, d13]
    constructor
    · rintro (z | ⟨j, a, b⟩)
      · exact absurd rfl z
      · exact ⟨j, a, decide_eq_true b⟩
    · rintro ⟨j, a, b⟩
      exact Or.inr ⟨j, a, of_decide_eq_true b⟩
  · rw [decide_eq_true_iff, decide_eq_true_iff]
    unfold cs_g
    rw [lk_S_1 n8 D 4 (by decide) (by decide), lk_S_1 n8 D 3 (by decide) (by decide), lk_S_1 n8 D 2 (by decide) (by decide), d2, d4, Nat.mul_comm p 4, Nat.mul_comm p 5]
    constructor
    · rintro ⟨⟨a, b⟩, c⟩; exact ⟨a, c⟩
    · rintro ⟨a, c⟩
      refine ⟨⟨a, ?_⟩, c⟩
      obtain ⟨n, n1, n2, n3⟩ := d3 p hp
      obtain ⟨f, hf⟩ := sh_ch h2 hp
      rw [n2, ← nI_0, nI_ltI (by omega) (by omega)]
      have e := sd_n (f := M.1 37) (p := p) (c := f) (fun q hq => (hf q hq).1)
      rw [n3] at e
      have b0 := (hf 0 (by omega)).2; have b1 := (hf 1 (by omega)).2; have b2 := (hf 2 (by omega)).2; have b3 := (hf 3 (by omega)).2; have b4 := (hf 4 (by omega)).2
      have e := (nI_eq (by omega) (by omega)).mp e
      rw [(hf q hq).1, ← nI_0, nI_ltI (by omega) (by have := (hf q hq).2; omega)] at c
      rcases (show q = 0 ∨ q = 1 ∨ q = 2 ∨ q = 3 ∨ q = 4 by omega) with rfl | rfl | rfl | rfl | rfl <;> omega
theorem nb1_at {S : cs_S} {k : Nat} (p : Nat) (hp : p < 5) : ∀ n, (∀ f, f < n → ∃ r : Nat, r < 5 ∧ S.1 41 f = nI r) → (bt (nb_1 S k n) p = true ↔ cam S k n p = true)
  | 0, _ => by
    show bt (nI 0) p = true ↔ false = true
    rw [bt_0]
  | n + 1, h => by
    have ih := nb1_at (S := S) (k := k) p hp n (fun f hf => h f (by omega))
    obtain ⟨r, hr, er⟩ := h n (by omega)
    show bt (nb_1 S k n ||| (if S.1 42 n = nI k ∧ lN 0 < S.2.1 45 n then nI 1 <<< (S.1 41 n &&& 31) else nI 0)) p = true ↔ (cam S k n p || decide (S.1 42 n = nI k ∧ lN 0 < S.2.1 45 n ∧ cN (S.1 41 n) = p)) = true
    rw [bt_or, Bool.or_eq_true, Bool.or_eq_true, ih, decide_eq_true_iff, er, cN_nI (by omega)]
    refine or_congr Iff.rfl ?_
    by_cases hc : S.1 42 n = nI k ∧ lN 0 < S.2.1 45 n
    · rw [if_pos hc, bt_1 hp hr, decide_eq_true_iff]
      exact ⟨fun z => ⟨hc.1, hc.2, z.symm⟩, fun z => z.2.2.symm⟩
    · rw [if_neg hc, bt_0]
      exact ⟨fun z => absurd z (by decide), fun z => absurd ⟨z.1, z.2.1⟩ hc⟩
theorem nb2_at (S : cs_S) (k : Nat) (x : Int32) (w : Nat → Int32) (p k' : Nat) (hk : k < 4) (hk' : k' < 4) : ∀ n, nb_2 S k x w n (4 * p + k') = if k' = k ∧ p < n then bI (bm_c S k p ∧ rb_c x p) else w (4 * p + k')
  | 0 => by rw [if_neg (by omega)]; rfl
  | n + 1 => by
    show upd (nb_2 S k x w n) (4 * n + k) (bI (bm_c S k n ∧ rb_c x n)) (4 * p + k') = _
    by_cases h : 4 * p + k' = 4 * n + k
    · have h2 : k' = k ∧ p = n := by omega
      obtain ⟨rfl, rfl⟩ := h2
      rw [pk_us, if_pos (by omega)]
    · rw [pk_un h, nb2_at S k x w p k' hk hk' n]
      by_cases h2 : k' = k ∧ p < n
      · rw [if_pos h2, if_pos (by omega)]
      · rw [if_neg h2, if_neg (by omega)]
theorem nbw_at (S : cs_S) (np nf p k : Nat) (hp : p < np) : ∀ m, m ≤ 4 → k < m → nb_w S np nf m (4 * p + k) = bI (bm_c S k p ∧ rb_c (rt_f S np k (nb_1 S k nf) 5) p)
  | 0, _, h => absurd h (by omega)
  | m + 1, hm, hk => by
    show nb_2 S m (rt_f S np m (nb_1 S m nf) 5) (nb_w S np nf m) np (4 * p + k) = _
    rw [nb2_at S m _ _ p k (by omega) (by omega)]
    by_cases e : k = m
    · subst e; rw [if_pos ⟨rfl, hp⟩]
    · rw [if_neg (fun z => e z.1)]
      exact nbw_at S np nf p k hp m (by omega) (by omega)
theorem wv_at (f : Nat → Int64) (v : Nat → Int) (k p k' : Nat) (hk : k < 4) (hk' : k' < 4) : ∀ n, wv f v k n (4 * p + k') = if k' = k ∧ p < n then zL (v p) else f (4 * p + k')
  | 0 => by rw [if_neg (by omega)]; rfl
  | n + 1 => by
    show vp_updL (wv f v k n) (4 * n + k) (zL (v n)) (4 * p + k') = _
    by_cases h : 4 * p + k' = 4 * n + k
    · have h2 : k' = k ∧ p = n := by omega
      obtain ⟨rfl, rfl⟩ := h2
      rw [pk_uLs, if_pos (by omega)]
    · rw [pk_uLn h, wv_at f v k p k' hk hk' n]
      by_cases h2 : k' = k ∧ p < n
      · rw [if_pos h2, if_pos (by omega)]
      · rw [if_neg h2, if_neg (by omega)]
theorem svo_at (S : cs_S) (np p k : Nat) (hp : p < np) : ∀ m, m ≤ 4 → k < m → sv_o S np m (4 * p + k) = zL (wo (sv_X S np (k + 1)) p).1
  | 0, _, h => absurd h (by omega)
  | m + 1, hm, hk => by
    show wv (sv_o S np m) (fun p => (wo (sv_X S np (m + 1)) p).1) m np (4 * p + k) = _
    rw [wv_at _ _ m p k (by omega) (by omega)]
    by_cases e : k = m
    · subst e; rw [if_pos ⟨rfl, hp⟩]
    · rw [if_neg (fun z => e z.1)]
      exact svo_at S np p k hp m (by omega) (by omega)
theorem svu_at (S : cs_S) (np p k : Nat) (hp : p < np) : ∀ m, m ≤ 4 → k < m → sv_u S np m (4 * p + k) = zL (wo (sv_X S np (k + 1)) p).2
  | 0, _, h => absurd h (by omega)
  | m + 1, hm, hk => by
    show wv (sv_u S np m) (fun p => (wo (sv_X S np (m + 1)) p).2) m np (4 * p + k) = _
    rw [wv_at _ _ m p k (by omega) (by omega)]
    by_cases e : k = m
    · subst e; rw [if_pos ⟨rfl, hp⟩]
    · rw [if_neg (fun z => e z.1)]
      exact svu_at S np p k hp m (by omega) (by omega)
