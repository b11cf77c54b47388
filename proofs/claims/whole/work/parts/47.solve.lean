/-! solve -/
theorem rc_lt {T : Nat → Bool} {E : Nat → Nat → Bool} {np : Nat} (hT : ∀ p, p < 5 → T p = true → p < np) (hE : ∀ p q, p < 5 → q < 5 → E p q = true → p < np) : ∀ n p, p < 5 → Rc T E n p = true → p < np
  | 0, p, hp, h => hT p hp h
  | n + 1, p, hp, h => by
    rcases Rc_s.mp h with h1 | ⟨q, h1, h2, h3⟩
    · exact rc_lt hT hE n p hp h1
    · exact hE p q hp h1 h2
theorem cA_ext {S S' : cs_S} (h2 : S'.1 2 = S.1 2) (h3 : S'.1 3 = S.1 3) (h4 : S'.1 4 = S.1 4) (h5 : S'.1 5 = S.1 5) (h6 : S'.1 6 = S.1 6) (k : Nat) : cA S' k = cA S k := by
  funext r q
  unfold cA cs_g cs_tc
  rw [h2, h3, h4, h5, h6]
theorem sh_pos {M : cs_S} {np : Nat} (h2 : In2 M np) {p q : Nat} (hp : p < 5) (hq : q < 5) (h : 0 < M.1 37 (5 * p + q)) : p < np ∧ q < np := by
  obtain ⟨n, a, b, c⟩ := h2.2.2.1 p q hp hq
  rw [b, ← nI_0, nI_ltI (by omega) (by omega)] at h
  exact c h
theorem cR_iff {C M : cs_S} {np : Nat} (h1 : In1 C M) (h2 : In2 M np) (h5 : In5 C M) {k p : Nat} (hp : p < 5) : cR C k p ↔ mR M k p := by
  refine Rc_eq (fun p hp => bool_iff ?_) (fun p q hp hq => ?_) 4 p hp
  · obtain ⟨n, hn, a1, a2⟩ := sum_eq h2 h5 hp
    rw [decide_eq_true_iff, decide_eq_true_iff, a1, a2, h1.1.2.1, Nat.mul_comm p 4, ← nI_0, nI_ltI (by omega) (by omega), nI_ltI (by omega) (by omega), nI_eq (a := n) (by omega) (by omega)]
    by_cases hx : M.1 38 (4 * p + k) = nI 0
    · constructor
      · rintro (z | z)
        · exact Or.inr (Or.inl (by
            by_cases h0 : n = 0
            · exact h0
            · exact absurd ⟨hx, by omega⟩ z))
        · exact Or.inr (Or.inr z)
      · rintro (z | z | z)
        · exact absurd hx z
        · exact Or.inl (fun y => by omega)
        · exact Or.inr z
    · exact ⟨fun _ => Or.inl hx, fun _ => Or.inl (fun y => hx y.1)⟩
  · show decide (0 < C.1 2 (p * 5 + q)) = decide (0 < M.1 37 (5 * p + q))
    rw [h1.1.1, Nat.mul_comm p 5]
theorem mR_hi {M : cs_S} {np : Nat} (h2 : In2 M np) {k p : Nat} (hn : np ≤ p) (hp : p < 5) : mR M k p := by
  obtain ⟨c, hc⟩ := sh_ch h2 hp
  have hz : ∀ q, q < 5 → c q = 0 := fun q hq => by
    obtain ⟨m, m1, m2, m3⟩ := h2.2.2.1 p q hp hq
    have e := (hc q hq).1.symm.trans m2
    have := (nI_eq (by have := (hc q hq).2; omega) (by omega)).mp e
    by_cases h0 : 0 < m
    · have := m3 h0; omega
    · omega
  refine Rc_04 (decide_eq_true (Or.inr (Or.inl ?_)))
  rw [sd_n (fun q hq => (hc q hq).1), hz 0 (by omega), hz 1 (by omega), hz 2 (by omega), hz 3 (by omega), hz 4 (by omega)]
  rfl
theorem In1_7 {C M : cs_S} (h : In1 C M) (e : Nat → Int32) : In1 (cs_I C 7 e) M := h
theorem kf_ok {C M : cs_S} {np : Nat} (h1 : In1 C M) (h2 : In2 M np) (h5 : In5 C M) (hall : ∀ k p, k < 4 → p < 5 → cR C k p) (A : cs_S) (a2 : A.1 2 = C.1 2) (a3 : A.1 3 = C.1 3) (a4 : A.1 4 = C.1 4) (a5 : A.1 5 = C.1 5) (a6 : A.1 6 = C.1 6) :
    (∀ j, (j < 19 ∨ 26 ≤ j) → kk_J A 4 j = A.2.1 j) ∧ ∀ k, k < 4 → ∃ (v : Nat → Int) (B : Nat → Nat → Nat → Int) (p : Nat → Int), (∀ q, q < 5 → 0 < v q) ∧ Bz (cA C k) B p ∧ (∀ k, k ≤ 5 → Bi v B p k) ∧ (kk_J A 4 24 k).toInt = p 5 ∧ ∀ r, r < 5 → (kk_J A 4 25 (4 * r + k)).toInt = B 5 r 5 := by
  have ea := fun k => cA_ext a2 a3 a4 a5 a6 k
  have K := kk_ok A (by rw [a2]; exact sh_of h1 h2) (fun k hk => by rw [ea k]; exact wt_of h1 h2 h5 k (fun p hp => hall k p hk hp)) 4 (Nat.le_refl 4)
  refine ⟨K.1, fun k hk => ?_⟩
  obtain ⟨v, B, p, hv, hz, hB, k1, k2⟩ := K.2 k hk
  rw [ea k] at hz
  have h5p := (hB 5 (Nat.le_refl 5)).1
  have h5l := pw_5 (bi_le hz hB 5 (Nat.le_refl 5)) (Nat.le_refl 5)
  refine ⟨v, B, p, hv, hz, hB, by rw [k1, zL_T ⟨by omega, by omega⟩], fun r hr => ?_⟩
  have hb := (bi_abs hv (hB 5 (Nat.le_refl 5)) hr (show 5 < 6 by omega)).1
  rw [Nat.mul_comm 4 r, k2 r hr, zL_T ⟨by omega, by omega⟩]
theorem sv_of {C M : cs_S} {np : Nat} (h1 : In1 C M) (h2 : In2 M np) (h5 : In5 C M) {k : Nat} (hk : k < 4) {v : Nat → Int} {B : Nat → Nat → Nat → Int} {p : Nat → Int} (hv : ∀ q, q < 5 → 0 < v q) (hz : Bz (cA C k) B p) (hB : ∀ k, k ≤ 5 → Bi v B p k) :
    (∀ c, c < np → elP (el_c (ly_f M k np (sv_X M np k) np) np c) c ∧ ∀ i, i < np → elO (el_i (el_c (ly_f M k np (sv_X M np k) np) np c) c i) c i) ∧ ∀ i, i < np → woO (sv_X M np (k + 1)) i ∧ wo (sv_X M np (k + 1)) i = rd (B 5 i 5) (p 5) := by
  have hn5 := h2.2.1
  have ha : ∀ r, r < 5 → cA C k r r ≤ 10 := fun r hr => by
    have := ((hB 0 (by omega)).2 r hr).2.1 (by omega)
    rw [hz.1, hz.2.1] at this
    omega
  have hsk := fun r hr => cA_sk C k r hr
  have h0 : ∀ i q, i < np → q < 6 → ly_f M k np (sv_X M np k) np (6 * i + q) = rd (cA C k i q) 10 := fun i q hi hq => by
    rw [ly_f_at M k np hn5 (sv_X M np k) (fun p' q' a b c => by
      obtain ⟨n, n1, n2, n3⟩ := h2.2.2.1 p' q' (by omega) c
      have n0 : n = 0 := by
        by_cases z : 0 < n
        · have := n3 z; omega
        · omega
      unfold lo_a
      rw [if_neg (by omega), n2, n0]
      split <;> rfl) np (Nat.le_refl np) i q hi hq, mA_eq h1 h2 h5 (by omega)]
  refine ⟨fun c hc => el_all hv hz hB ha hsk hn5 h0 c hc, fun i hi => ?_⟩
  exact wo_all hv hz hB ha hsk hn5 h0 (fun k' a b => cA_hi h1 h2 h5 hk a b) i hi
theorem In2_ext {M M' : cs_S} {np : Nat} (h : In2 M np) (e0 : M'.2.2 0 = M.2.2 0) (e37 : M'.1 37 = M.1 37) (e38 : M'.1 38 = M.1 38) (e39 : M'.1 39 = M.1 39) (e40 : M'.1 40 = M.1 40) : In2 M' np := by
  unfold In2; rw [e0, e37, e38, e39, e40]; exact h
theorem In3_ext {M M' : cs_S} {np nf : Nat} (h : In3 M np nf) (e5 : M'.2.2 5 = M.2.2 5) (e41 : M'.1 41 = M.1 41) (e42 : M'.1 42 = M.1 42) (e43 : M'.1 43 = M.1 43) (e44 : M'.1 44 = M.1 44) (e45 : M'.2.1 45 = M.2.1 45) : In3 M' np nf := by
  unfold In3; rw [e5, e41, e42, e43, e44, e45]; exact h
theorem s_solve_ok {C M : cs_S} {np nf : Nat} (h1 : In1 C M) (h2 : In2 M np) (h3 : In3 M np nf) (h4 : In4 M) (h5 : In5 C M) (h6 : In6 C M np nf) (e : Nat → Int32) (hall : ∀ k p, k < 4 → p < 5 → cR C k p) : svO M np ∧ Inv (kp_S (cs_I C 7 e) nf) (me_S M np nf) := by
  have hn5 := h2.2.1
  have h60 := h3.2.1
  obtain ⟨koff, kf⟩ := kf_ok h1 h2 h5 hall (kp_A (cs_I C 7 e)) rfl rfl rfl rfl rfl
  have hO : svO M np := fun k hk => by
    obtain ⟨v, B, p, hv, hz, hB, _, _⟩ := kf k hk
    have S := sv_of h1 h2 h5 hk hv hz hB
    exact ⟨S.1, fun i hi => (S.2 i hi).1⟩
  refine ⟨hO, ?_⟩
  generalize hJ : kk_J (kp_A (cs_I C 7 e)) 4 = J4 at koff kf
  let q : Nat → Int := fun k => (J4 24 k).toInt
  let w : Nat → Int := fun j => (J4 25 j).toInt
  let Bb : cs_S := kp_B (cs_I C 7 e)
  have eB : Bb = cs_cl ((kp_A (cs_I C 7 e)).1, J4, (kp_A (cs_I C 7 e)).2.2) := by rw [← hJ]; rfl
  let J5 : Nat → Nat → Int64 := mt_J Bb.2.1 10
  have j26 : J5 26 = cl_f (J4 26) 200 := by show Bb.2.1 26 = _; rw [eB]; rfl
  have b27 : Bb.2.1 27 = cl_f (J4 27) 40 := by rw [eB]; rfl
  have b28 : Bb.2.1 28 = cl_f (J4 28) 160 := by rw [eB]; rfl
  have b14 : Bb.2.1 14 = M.2.1 46 := by rw [eB]; show J4 14 = _; rw [koff 14 (by omega)]; exact h1.2.2.1.1
  have b24 : Bb.2.1 24 = J4 24 := by rw [eB]; rfl
  have j24 : J5 24 = J4 24 := b24
  have j25 : J5 25 = J4 25 := by show Bb.2.1 25 = _; rw [eB]; rfl
  have j13 : J5 13 = M.2.1 45 := by show Bb.2.1 13 = _; rw [eB]; show J4 13 = _; rw [koff 13 (by omega)]; exact h1.2.1.2.2.2.2
  have j14 : J5 14 = M.2.1 46 := b14
  have j15 : J5 15 = M.2.1 47 := by show Bb.2.1 15 = _; rw [eB]; show J4 15 = _; rw [koff 15 (by omega)]; exact h1.2.2.1.2
  have m51 : ∀ y, y < 10 → (me_S M np nf).2.1 51 y = M.2.1 46 y := fun y hy => by
    show cp_f (M.2.1 51) (M.2.1 46) 10 y = _
    rw [cp_at, if_pos hy]
  have m52 : (me_S M np nf).2.1 52 = cl_f (M.2.1 52) 160 := rfl
  have m50 : (me_S M np nf).1 50 = nb_w (me_C M np nf) np nf 4 := rfl
  have AF := af_ok Bb (me_S M np nf) J5 q w nf h60 h1.2.1.1.symm h1.2.1.2.1.symm h1.2.1.2.2.1.symm h1.2.1.2.2.2.1.symm (by rw [j13]; rfl)
    (fun j hj => by
      have hh := h3.2.2 j (by omega)
      obtain ⟨⟨p, a, b, _⟩, r1, r2, r3, _⟩ := hh
      refine ⟨⟨p, a, ?_⟩, ?_, ?_, ?_⟩
      · show C.1 9 j = nI p; rw [h1.2.1.1]; exact b
      · show ∃ k : Nat, k < 4 ∧ C.1 10 j = nI k; rw [h1.2.1.2.1]; exact r1
      · show ∃ k : Nat, k < 10 ∧ C.1 11 j = nI k; rw [h1.2.1.2.2.1]; exact r2
      · show ∃ k : Nat, k < 4 ∧ C.1 12 j = nI k; rw [h1.2.1.2.2.2.1]; exact r3)
    (fun p k hp hk => by rw [j25]; show _ = zL (J4 25 (4 * p + k)).toInt; rw [zL_of, Nat.mul_comm])
    (fun j hj => by rw [j26, cl_at, if_pos hj])
    (fun k y hk hy => by
      show mt_b Bb.2.1 10 (k * 10 + y) = _
      rw [mt_b_at, b27, b14, cl_at, if_pos (show k * 10 + y < 40 by omega), m51 y hy]
      by_cases e3 : k = 3
      · subst e3
        rw [if_pos (by omega), if_pos rfl, show 3 * 10 + y - 30 = y by omega, zL_of, ← zL_0, ← zL_of (M.2.1 46 y), zL_add, Int.zero_add]
      · rw [if_neg (by omega), if_neg e3]; rfl)
    (fun c k y hc hk hy => by
      show mt_c Bb.2.1 10 (c * 4 * 10 + (k * 10 + y)) = _
      rw [mt_c_at, b28, b14, b24, cl_at, if_pos (show c * 4 * 10 + (k * 10 + y) < 160 by omega), m51 y hy]
      by_cases e3 : c = 0 ∧ k = 3
      · obtain ⟨rfl, rfl⟩ := e3
        rw [if_pos (by omega), if_pos ⟨rfl, by decide⟩, show 0 * 4 * 10 + (3 * 10 + y) - 30 = y by omega]
        show _ = zL ((M.2.1 46 y).toInt * (J4 24 3).toInt)
        rw [← zL_mul, zL_of, zL_of, ← zL_0, ← zL_of (M.2.1 46 y * J4 24 3), zL_add, Int.zero_add]
      · rw [if_neg (by omega), if_neg]
        · rfl
        · rintro ⟨z1, z2⟩
          rw [← nI_0, nI_leI (by omega) (by omega)] at z2
          omega)
    nf (Nat.le_refl nf)
  obtain ⟨af1, af2, af3, af4⟩ := AF
  have c2 : (kp_S (cs_I C 7 e) nf).2 = (kp_D (cs_I C 7 e) nf).2 := lk_S_2 nf _ 4
  have c1 : ∀ j, j ≠ 30 → j ≠ 31 → (kp_S (cs_I C 7 e) nf).1 j = (kp_D (cs_I C 7 e) nf).1 j := fun j a b => lk_S_1 nf _ j a b 4
  have dJ : ∀ j, j ≠ 29 → (kp_S (cs_I C 7 e) nf).2.1 j = af_J Bb J5 nf j := fun j hj => by rw [c2]; exact va_up_ne _ _ hj
  have hKF : ∀ k, k < 4 → (0 < q k ∧ q k ≤ 100000) ∧ (∀ r, r < 5 → 0 ≤ w (4 * r + k) ∧ w (4 * r + k) ≤ q k) ∧ ∀ r, r < np → wo (sv_X M np (k + 1)) r = rd (w (4 * r + k)) (q k) := fun k hk => by
    obtain ⟨v, B, p, hv, hz, hB, k1, k2⟩ := kf k hk
    have k1 : q k = p 5 := k1
    have k2 : ∀ r, r < 5 → w (4 * r + k) = B 5 r 5 := k2
    have S := sv_of h1 h2 h5 hk hv hz hB
    refine ⟨?_, fun r hr => ?_, fun r hr => by rw [(S.2 r hr).2, k1, k2 r (by omega)]⟩
    · rw [k1]; exact ⟨(hB 5 (Nat.le_refl 5)).1, pw_5 (bi_le hz hB 5 (Nat.le_refl 5)) (Nat.le_refl 5)⟩
    · rw [k1, k2 r hr]
      have hr5 := (hB 5 (Nat.le_refl 5)).2 r hr
      refine ⟨hr5.1.2.1, ?_⟩
      rw [← hr5.2.2.1 hr]
      exact (hr5.1.off (q := if r = 0 then 1 else 0) hr (by split <;> omega) (by split <;> omega)).2
  have hmO : mO (me_S M np nf) nf q w := by
    refine ⟨rfl, h60, fun f hf => ?_, fun k hk => (hKF k hk).1, fun p k hp hk => (hKF k hk).2.1 p hp, fun y hy => by rw [m51 y hy]; exact h4.1 y hy⟩
    obtain ⟨⟨p, a, b, c⟩, ⟨k, d1, d2⟩, _, _, g, g1, g2, g3⟩ := h3.2.2 f (by omega)
    have hpn := c hf
    refine ⟨p, k, a, d1, b, d2, g, g1, g2, g3, ?_, ?_⟩
    · show sv_o M np 4 (4 * p + k) = _
      rw [svo_at M np p k hpn 4 (Nat.le_refl 4) d1, (hKF k d1).2.2 p hpn]
    · show sv_u M np 4 (4 * p + k) = _
      rw [svu_at M np p k hpn 4 (Nat.le_refl 4) d1, (hKF k d1).2.2 p hpn]
  have hct : ∀ c k y, c < 4 → k < 4 → y < 10 → af_J Bb J5 nf 28 (c * 4 * 10 + (k * 10 + y)) = zL (ct_T (me_S M np nf) nf q w k y (nI c)) := af4
  have d3 : ∀ p, p < 5 → ∃ n : Nat, n ≤ 10 ∧ (kp_D (cs_I C 7 e) nf).1 3 p = nI n ∧ sd_f (M.1 37) p 5 = nI n := fun p hp => sum_eq h2 h5 hp
  have d31 : (kp_D (cs_I C 7 e) nf).1 31 = zb_f (C.1 31) 5 := rfl
  refine ⟨np, nf, ?_, In2_ext h2 rfl rfl rfl rfl rfl, In3_ext h3 rfl rfl rfl rfl rfl rfl, ?_, ?_, ?_⟩
  · refine ⟨⟨?_, ?_, ?_, ?_⟩, ⟨?_, ?_, ?_, ?_, ?_⟩, ⟨?_, ?_⟩, ⟨?_, ?_⟩, ?_, ?_, ?_, ?_, ?_⟩
    · rw [c1 2 (by decide) (by decide)]; exact h1.1.1
    · rw [c1 4 (by decide) (by decide)]; exact h1.1.2.1
    · rw [c1 5 (by decide) (by decide)]; exact h1.1.2.2.1
    · rw [c1 6 (by decide) (by decide)]; exact h1.1.2.2.2
    · rw [c1 9 (by decide) (by decide)]; exact h1.2.1.1
    · rw [c1 10 (by decide) (by decide)]; exact h1.2.1.2.1
    · rw [c1 11 (by decide) (by decide)]; exact h1.2.1.2.2.1
    · rw [c1 12 (by decide) (by decide)]; exact h1.2.1.2.2.2.1
    · rw [dJ 13 (by decide), af1 13 (by decide) (by decide) (by decide), j13]; rfl
    · rw [dJ 14 (by decide), af1 14 (by decide) (by decide) (by decide), j14]; rfl
    · rw [dJ 15 (by decide), af1 15 (by decide) (by decide) (by decide), j15]; rfl
    · rw [c1 33 (by decide) (by decide)]; exact h1.2.2.2.1.1
    · rw [c1 35 (by decide) (by decide)]; exact h1.2.2.2.1.2
    · rw [c2]; exact h1.2.2.2.2.1
    · rw [c2]; exact h1.2.2.2.2.2.1
    · rw [c2]; rfl
    · rw [c2]; exact h1.2.2.2.2.2.2.2.1
    · rw [c2]; exact h1.2.2.2.2.2.2.2.2
  · exact ⟨h4.1, h4.2.1, h4.2.2.1, h4.2.2.2.1, h4.2.2.2.2.1, Or.inr rfl, ⟨np, hn5, rfl⟩⟩
  · intro p hp
    rw [c1 3 (by decide) (by decide)]
    exact h5 p hp
  · refine ⟨lk_b01 nf _ (by
      rw [d31]
      intro j
      rw [zb_at]
      by_cases hj : j < 5
      · rw [if_pos hj]; exact Or.inl rfl
      · rw [if_neg hj]; exact h6.1 j) 4, fun h => absurd (show (1 : Int32) = 0 from h) (by decide), fun _ => ⟨nf, np, q, w, hmO, ⟨rfl, Nat.le_refl np, Nat.le_refl nf, fun f hf => ?_⟩, ⟨fun k hk => ?_, fun p k hp hk => ?_⟩, ⟨fun p k y hp hk hy => ?_, fun k y hk hy => ?_, fun c k y hc hk hy => ?_, fun c k y hc hk hy => ?_⟩, fun p hp => ?_⟩⟩
    · obtain ⟨⟨p, a, b, c⟩, _⟩ := h3.2.2 f (by omega)
      exact ⟨p, c hf, b⟩
    · rw [dJ 24 (by decide), af1 24 (by decide) (by decide) (by decide), j24]
      show _ = zL (J4 24 k).toInt
      rw [zL_of]
    · rw [dJ 25 (by decide), af1 25 (by decide) (by decide) (by decide), j25]
      show _ = zL (J4 25 (4 * p + k)).toInt
      rw [zL_of, Nat.mul_comm]
    · rw [dJ 26 (by decide)]; exact af2 p k y hp hk hy
    · rw [dJ 27 (by decide)]; exact af3 k y hk hy
    · rw [dJ 28 (by decide)]; exact hct c k y hc hk hy
    · have e29 : (kp_S (cs_I C 7 e) nf).2.1 29 = fs_c (af_J Bb J5 nf 24) (af_J Bb J5 nf 28) (af_J Bb J5 nf 29) 4 := by rw [c2]; rfl
      have hq := (hKF k hk).1
      have hb := ct_b hmO hk hy (nI c)
      rw [e29, fs_c_at _ _ _ c k y hk hy, if_pos hc, hct c k y hc hk hy, af1 24 (by decide) (by decide) (by decide), j24]
      unfold st_x
      rw [m52, cl_at, if_pos (by omega), ← zL_0, zL_sub, Int.sub_zero]
      have eq : J4 24 k = zL (q k) := (zL_of _).symm
      unfold dn_f
      rw [eq, if_neg (fun z => by have := (zL_le (b := 0) ⟨by omega, by omega⟩ zR_0).mp z; omega), zL_div ⟨by omega, by omega⟩ ⟨by omega, by omega⟩, Int.tdiv_eq_ediv_of_nonneg hb.1]
    · show (lk_S nf (kp_D (cs_I C 7 e) nf) 4).1 31 p ≠ 0 ↔ p < np ∧ ex_n (fun k => decide ((me_S M np nf).1 50 (4 * p + k) ≠ 0)) 4 = true
      rw [lk_31 nf _ p hp 4, ex_n_iff, m50, d31, zb_at, if_pos hp]
      have cam_ok := fun k => came_ok (D := kp_D (cs_I C 7 e) nf) h2 h1.1.1 h1.1.2.1 h1.2.1.1 h1.2.1.2.1 (by show af_J Bb J5 nf 13 = _; rw [af1 13 (by decide) (by decide) (by decide), j13]) d3 nf k p hp
      have hbm : ∀ k, cs_b (kp_D (cs_I C 7 e) nf) k p ↔ bm_c (me_C M np nf) k p := fun k => by
        show (C.1 4 (p * 4 + k) = 0 ∧ C.1 3 p = 0 ∧ C.1 5 p = 0) ↔ (M.1 38 (4 * p + k) = 0 ∧ sd_f (M.1 37) p 5 = 0 ∧ M.1 39 p = 0)
        obtain ⟨n, _, n1, n2⟩ := sum_eq h2 h5 hp
        rw [h1.1.2.1, h1.1.2.2.1, n1, n2, Nat.mul_comm p 4]
      have hrt : ∀ k, rb_c (rt_f (me_C M np nf) np k (nb_1 (me_C M np nf) k nf) 5) p ↔ Rc (cam M k nf) (gE M k) 4 p = true := fun k => by
        rw [rb_iff _ p hp, rt_iff (S := me_C M np nf) hn5 (fun p' q' a b c => sh_pos h2 a b c) _ p hp]
        exact Rc_eq (fun p' hp' => bool_iff (nb1_at (S := me_C M np nf) p' hp' nf (fun f hf => by
          obtain ⟨⟨r, a, b, _⟩, _⟩ := h3.2.2 f (by omega)
          exact ⟨r, a, b⟩))) (fun _ _ _ _ => rfl) 4 p hp
      constructor
      · rintro (z | ⟨k, a, b, c⟩)
        · exact absurd rfl z
        · have b := (cam_ok k).mp b
          have hpn : p < np := rc_lt (fun p' hp' ht => by
            obtain ⟨j, j1, j2⟩ := (ex_n_iff _ nf).mp ht
            have j2 := of_decide_eq_true j2
            obtain ⟨⟨r, r1, r2, r3⟩, _⟩ := h3.2.2 j (by omega)
            have := j2.2.2
            rw [r2, cN_nI (by omega)] at this
            have := r3 j1
            omega) (fun q' p' hq' hp' he => by
            have he := of_decide_eq_true he
            exact (sh_pos h2 hp' hq' he.2).2) 4 p hp b
          refine ⟨hpn, k, a, decide_eq_true ?_⟩
          rw [nbw_at _ _ _ p k hpn 4 (Nat.le_refl 4) a, bI_ne]
          exact ⟨(hbm k).mp c, (hrt k).mpr b⟩
      · rintro ⟨hpn, k, a, b⟩
        have b := of_decide_eq_true b
        rw [nbw_at _ _ _ p k hpn 4 (Nat.le_refl 4) a, bI_ne] at b
        exact Or.inr ⟨k, a, (cam_ok k).mpr ((hrt k).mp b.2), (hbm k).mpr b.1⟩
theorem s_solve {C M : cs_S} (h : Inv C M) : StI y_RC_solve y_Mo_solve 7 4 [] C M := by
  obtain ⟨np, nf, h1, h2, h3, h4, h5, h6⟩ := h
  have hn5 := h2.2.1
  have hb : b01 (C.1 4) := by rw [h1.1.2.1]; exact h2.2.2.2.1
  have c1 := c_RC_solve C (ms_w M) hb nf (fd_of h1 h3)
  rcases ring_eq hn5 (fun p q a b c => (sh_pos h2 a b c).2) (fun k p _ hp => cR_iff h1 h2 h5 hp) (fun k p _ a b => mR_hi h2 a b) with ⟨r1, r2, r3⟩ | ⟨p, hp, r1, r2⟩
  · rw [if_pos r1, if_pos r1] at c1
    obtain ⟨hO, hI⟩ := s_solve_ok h1 h2 h3 h4 h5 h6 (lr_st C 4) r3
    exact ⟨_, _, _, c1, c_Mo_solve_ok _ M np h2.1 hn5 nf h3.1 h3.2.1 r2 hO, hI⟩
  · have hne : ¬ lr_v C 4 = -1 := by rw [r1]; exact nI_n1 (by omega)
    rw [if_neg hne, if_neg hne, r1, nI_add] at c1
    exact ⟨_, _, _, c1, c_Mo_solve_no _ M np h2.1 hn5 p r2, np, nf, h1, h2, h3, h4, h5, In6_ext h6 ⟨rfl, rfl, rfl, rfl, rfl, rfl, rfl⟩ (KpM_r M) rfl (fun f _ => ⟨rfl, rfl, rfl, rfl, rfl⟩) (Nat.le_refl _) (Nat.le_refl _)⟩
