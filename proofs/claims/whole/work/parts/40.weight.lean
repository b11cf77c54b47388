/-! weights: where every plant comes to an end, the rows outweigh -/
def uu (T : Nat → Bool) (E : Nat → Nat → Bool) (p : Nat) : Int := if Rc T E 0 p = true then 9999 else if Rc T E 1 p = true then 999 else if Rc T E 2 p = true then 99 else if Rc T E 3 p = true then 9 else 0
theorem uu_b (T : Nat → Bool) (E : Nat → Nat → Bool) (p : Nat) : 0 ≤ uu T E p ∧ uu T E p ≤ 9999 := by
  unfold uu
  by_cases h0 : Rc T E 0 p = true
  · rw [if_pos h0]; omega
  rw [if_neg h0]
  by_cases h1 : Rc T E 1 p = true
  · rw [if_pos h1]; omega
  rw [if_neg h1]
  by_cases h2 : Rc T E 2 p = true
  · rw [if_pos h2]; omega
  rw [if_neg h2]
  by_cases h3 : Rc T E 3 p = true
  · rw [if_pos h3]; omega
  rw [if_neg h3]; omega
theorem uu_g0 {T : Nat → Bool} {E : Nat → Nat → Bool} {p : Nat} (h : Rc T E 0 p = true) : 9999 ≤ uu T E p := by
  unfold uu; rw [if_pos h]; omega
theorem uu_g1 {T : Nat → Bool} {E : Nat → Nat → Bool} {p : Nat} (h : Rc T E 1 p = true) : 999 ≤ uu T E p := by
  by_cases h0 : Rc T E 0 p = true
  · have := uu_g0 h0; omega
  · unfold uu; rw [if_neg h0, if_pos h]; omega
theorem uu_g2 {T : Nat → Bool} {E : Nat → Nat → Bool} {p : Nat} (h : Rc T E 2 p = true) : 99 ≤ uu T E p := by
  by_cases h1 : Rc T E 1 p = true
  · have := uu_g1 h1; omega
  · have h0 : ¬ Rc T E 0 p = true := fun h => h1 (Rc_m h)
    unfold uu; rw [if_neg h0, if_neg h1, if_pos h]; omega
theorem uu_g3 {T : Nat → Bool} {E : Nat → Nat → Bool} {p : Nat} (h : Rc T E 3 p = true) : 9 ≤ uu T E p := by
  by_cases h2 : Rc T E 2 p = true
  · have := uu_g2 h2; omega
  · have h1 : ¬ Rc T E 1 p = true := fun h => h2 (Rc_m h)
    have h0 : ¬ Rc T E 0 p = true := fun h => h1 (Rc_m h)
    unfold uu; rw [if_neg h0, if_neg h1, if_neg h2, if_pos h]; omega
theorem uu_st {T : Nat → Bool} {E : Nat → Nat → Bool} {p : Nat} (h4 : Rc T E 4 p = true) (h0 : ¬ Rc T E 0 p = true) : ∃ q, q < 5 ∧ E p q = true ∧ 10 * uu T E p < uu T E q := by
  by_cases h1 : Rc T E 1 p = true
  · rcases Rc_s.mp h1 with h | ⟨q, a, b, c⟩
    · exact absurd h h0
    · have e : uu T E p = 999 := by unfold uu; rw [if_neg h0, if_pos h1]
      have := uu_g0 c
      exact ⟨q, a, b, by omega⟩
  by_cases h2 : Rc T E 2 p = true
  · rcases Rc_s.mp h2 with h | ⟨q, a, b, c⟩
    · exact absurd h h1
    · have e : uu T E p = 99 := by unfold uu; rw [if_neg h0, if_neg h1, if_pos h2]
      have := uu_g1 c
      exact ⟨q, a, b, by omega⟩
  by_cases h3 : Rc T E 3 p = true
  · rcases Rc_s.mp h3 with h | ⟨q, a, b, c⟩
    · exact absurd h h2
    · have e : uu T E p = 9 := by unfold uu; rw [if_neg h0, if_neg h1, if_neg h2, if_pos h3]
      have := uu_g2 c
      exact ⟨q, a, b, by omega⟩
  · rcases Rc_s.mp h4 with h | ⟨q, a, b, c⟩
    · exact absurd h h3
    · have e : uu T E p = 0 := by unfold uu; rw [if_neg h0, if_neg h1, if_neg h2, if_neg h3]
      have := uu_g3 c
      exact ⟨q, a, b, by omega⟩
theorem s5_mem {f : Nat → Int} (h : ∀ q, q < 5 → 0 ≤ f q) {q : Nat} (hq : q < 5) : f q ≤ s5 f := by
  unfold s5
  have h0 := h 0 (by omega); have h1 := h 1 (by omega); have h2 := h 2 (by omega); have h3 := h 3 (by omega); have h4 := h 4 (by omega)
  rcases (show q = 0 ∨ q = 1 ∨ q = 2 ∨ q = 3 ∨ q = 4 by omega) with rfl | rfl | rfl | rfl | rfl <;> omega
def dl (r q : Nat) : Int := if q = r then 10 else 0
theorem dl_s (r : Nat) : dl r r = 10 := if_pos rfl
theorem dl_n {r q : Nat} (h : q ≠ r) : dl r q = 0 := if_neg h
theorem dl_5 {r : Nat} (hr : r < 5) (f : Nat → Int) : dl r 0 * f 0 + dl r 1 * f 1 + dl r 2 * f 2 + dl r 3 * f 3 + dl r 4 * f 4 = 10 * f r := by
  rcases (show r = 0 ∨ r = 1 ∨ r = 2 ∨ r = 3 ∨ r = 4 by omega) with rfl | rfl | rfl | rfl | rfl <;>
  simp [dl]
theorem dl_1 {r : Nat} (hr : r < 5) : dl r 0 + dl r 1 + dl r 2 + dl r 3 + dl r 4 = 10 := by
  have h := dl_5 hr (fun _ => 1)
  simp only [Int.mul_one] at h
  exact h
theorem wt_e {t u : Nat → Int} {r : Nat} (hr : r < 5) : s5 (fun q => (dl r q - t q) * (99999 - u q)) = 10 * (99999 - u r) - (99999 * s5 t - s5 (fun q => t q * u q)) := by
  have h := dl_5 hr (fun q => 99999 - u q)
  unfold s5
  simp only [Int.sub_mul, Int.mul_sub] at h ⊢
  omega
theorem wt_pos {t u : Nat → Int} {r : Nat} (hr : r < 5) (ht : ∀ q, q < 5 → 0 ≤ t q) (hu : ∀ q, q < 5 → 0 ≤ u q ∧ u q ≤ 9999) (h : s5 t ≤ 9 ∨ (s5 t ≤ 10 ∧ ∃ q, q < 5 ∧ 1 ≤ t q ∧ 10 * u r < u q)) : 0 < s5 (fun q => (dl r q - t q) * (99999 - u q)) := by
  have hz : ∀ q, q < 5 → 0 ≤ t q * u q := fun q hq => Int.mul_nonneg (ht q hq) (hu q hq).1
  rw [wt_e hr]
  rcases h with h | ⟨h1, q, hq, h2, h3⟩
  · have h4 : 0 ≤ s5 (fun q => t q * u q) := Int.le_trans (hz 0 (by omega)) (s5_mem (f := fun q => t q * u q) hz (show 0 < 5 by omega))
    have := (hu r hr).2
    omega
  · have h4 : t q * u q ≤ s5 (fun q => t q * u q) := s5_mem (f := fun q => t q * u q) hz hq
    have h5 : u q ≤ t q * u q := by
      have := Int.mul_le_mul_of_nonneg_right h2 (hu q hq).1
      rwa [Int.one_mul] at this
    omega
theorem wt_ok (S : cs_S) (k : Nat) (hs : ∀ r q, r < 5 → q < 5 → ∃ n : Nat, n ≤ 10 ∧ S.1 2 (r * 5 + q) = nI n) (hsum : ∀ r, r < 5 → ∃ n : Nat, n ≤ 10 ∧ S.1 3 r = nI n ∧ s5 (fun q => (S.1 2 (r * 5 + q)).toInt) = n) (hl : ∀ r, r < 5 → ∃ n : Nat, n ≤ 10 ∧ S.1 6 r = nI n) (hR : ∀ p, p < 5 → cR S k p) : ∃ v : Nat → Int, (∀ q, q < 5 → 0 < v q) ∧ ∀ r, r < 5 → Rw v (cA S k r) r ∧ cA S k r r ≤ 10 := by
  refine ⟨fun p => 99999 - uu (cT S k) (cE S) p, fun q hq => ?_, fun r hr => ?_⟩
  · have := uu_b (cT S k) (cE S) q
    show 0 < 99999 - uu (cT S k) (cE S) q
    omega
  have hu : ∀ q, q < 5 → 0 ≤ uu (cT S k) (cE S) q ∧ uu (cT S k) (cE S) q ≤ 9999 := fun q _ => uu_b _ _ q
  have ht : ∀ q, q < 5 → 0 ≤ (S.1 2 (r * 5 + q)).toInt := fun q hq => by
    obtain ⟨n, hn, en⟩ := hs r q hr hq
    rw [en, nI_toInt (by omega)]; omega
  obtain ⟨n, hn, en, es⟩ := hsum r hr
  by_cases hg : cs_g S k r
  · have hrow : ∀ q, q < 5 → cA S k r q = dl r q - (S.1 2 (r * 5 + q)).toInt := fun q hq => by
      unfold cA dl; rw [if_neg (by omega), if_pos hg]
    have h5 : cA S k r 5 = 0 := by unfold cA; rw [if_pos rfl, if_pos hg]
    have hsr : s5 (cA S k r) = 10 - n := by
      have hd := dl_1 hr
      rw [← es]
      simp only [s5]
      rw [hrow 0 (by omega), hrow 1 (by omega), hrow 2 (by omega), hrow 3 (by omega), hrow 4 (by omega)]
      omega
    refine ⟨⟨fun q hq hne => ?_, by rw [h5]; exact Int.le_refl 0, by rw [h5, hsr]; omega, ?_⟩, ?_⟩
    · rw [hrow q hq, dl_n hne]; have := ht q hq; omega
    · have e : s5 (fun q => cA S k r q * (99999 - uu (cT S k) (cE S) q)) = s5 (fun q => (dl r q - (S.1 2 (r * 5 + q)).toInt) * (99999 - uu (cT S k) (cE S) q)) := by
        simp only [s5]
        rw [hrow 0 (by omega), hrow 1 (by omega), hrow 2 (by omega), hrow 3 (by omega), hrow 4 (by omega)]
      rw [e]
      refine wt_pos (t := fun q => (S.1 2 (r * 5 + q)).toInt) (u := uu (cT S k) (cE S)) hr ht hu ?_
      by_cases h9 : n ≤ 9
      · left; rw [es]; omega
      · right
        refine ⟨by rw [es]; omega, ?_⟩
        have hT : ¬ Rc (cT S k) (cE S) 0 r = true := fun h => by
          rcases of_decide_eq_true (show cT S k r = true from h) with h | h
          · exact h hg
          · rw [en] at h
            have := (nI_ltI (by omega) (by omega)).mp h
            omega
        obtain ⟨q, h1, h2, h3⟩ := uu_st (hR r hr) hT
        refine ⟨q, h1, ?_, h3⟩
        have h2 := of_decide_eq_true h2
        obtain ⟨m, hm, em⟩ := hs r q hr h1
        show 1 ≤ (S.1 2 (r * 5 + q)).toInt
        rw [em, nI_toInt (by omega)]
        rw [em, ← nI_0] at h2
        have := (nI_ltI (by omega) (by omega)).mp h2
        omega
    · rw [hrow r hr, dl_s]; have := ht r hr; omega
  · have hrow : ∀ q, q < 5 → cA S k r q = dl r q := fun q hq => by
      unfold cA dl; rw [if_neg (by omega), if_neg hg, Int.sub_zero]
    have h5 : ∃ m : Nat, m ≤ 10 ∧ cA S k r 5 = m := by
      unfold cA; rw [if_pos rfl, if_neg hg]
      obtain ⟨m, hm, em⟩ := hl r hr
      by_cases h1 : S.1 4 (r * 4 + k) = 0
      · by_cases h2 : S.1 5 r = 0
        · refine ⟨0, by omega, ?_⟩
          show (if S.1 4 (r * 4 + k) = 0 then (if S.1 5 r = 0 then nI 0 else nI 10 - S.1 6 r) else nI 10).toInt = _
          rw [if_pos h1, if_pos h2, nI_toInt (by omega)]
        · refine ⟨10 - m, by omega, ?_⟩
          show (if S.1 4 (r * 4 + k) = 0 then (if S.1 5 r = 0 then nI 0 else nI 10 - S.1 6 r) else nI 10).toInt = _
          rw [if_pos h1, if_neg h2, em, pk_sub hm, nI_toInt (by omega)]
      · refine ⟨10, by omega, ?_⟩
        show (if S.1 4 (r * 4 + k) = 0 then (if S.1 5 r = 0 then nI 0 else nI 10 - S.1 6 r) else nI 10).toInt = _
        rw [if_neg h1, nI_toInt (by omega)]
    obtain ⟨m, hm, e5⟩ := h5
    have hsr : s5 (cA S k r) = 10 := by
      unfold s5
      rw [hrow 0 (by omega), hrow 1 (by omega), hrow 2 (by omega), hrow 3 (by omega), hrow 4 (by omega)]
      exact dl_1 hr
    refine ⟨⟨fun q hq hne => ?_, by rw [e5]; omega, by rw [e5, hsr]; omega, ?_⟩, ?_⟩
    · rw [hrow q hq, dl_n hne]; exact Int.le_refl 0
    · have e : s5 (fun q => cA S k r q * (99999 - uu (cT S k) (cE S) q)) = 10 * (99999 - uu (cT S k) (cE S) r) := by
        have hd := dl_5 hr (fun q => 99999 - uu (cT S k) (cE S) q)
        simp only [s5]
        rw [hrow 0 (by omega), hrow 1 (by omega), hrow 2 (by omega), hrow 3 (by omega), hrow 4 (by omega)]
        exact hd
      rw [e]
      have := (hu r hr).2
      omega
    · rw [hrow r hr, dl_s]; exact Int.le_refl 10
