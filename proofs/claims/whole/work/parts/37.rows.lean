/-! the sequence of matrices; rows like those of a chain of plants: pivots above 0, bounds -/
def er (r : Nat) : Nat → Int := fun q => if q = r then -1 else 0
theorem er_s (r : Nat) : er r r = -1 := if_pos rfl
theorem er_n {r q : Nat} (h : q ≠ r) : er r q = 0 := if_neg h
theorem bp_st (a : Nat → Nat → Int) : ∀ k, k < 4 → bp a (k + 1) = bE a k (a k) k
  | 0, _ => bp_1 a
  | 1, _ => bp_2 a
  | 2, _ => bp_3 a
  | 3, _ => bp_4 a
  | k + 4, h => by omega
theorem be_st (a : Nat → Nat → Int) (x : Nat → Int) (q : Nat) : ∀ k, k < 4 → bp a k * bE a (k + 1) x q = bp a (k + 1) * bE a k x q - bE a k x k * bE a k (a k) q
  | 0, _ => by rw [bs_1]; show 1 * _ = _; rw [bp_1, Int.one_mul]
  | 1, _ => bs_2 a x q
  | 2, _ => bs_3 a x q
  | 3, _ => bs_4 a x q
  | k + 4, h => by omega
theorem be_fz (a : Nat → Nat → Int) (q : Nat) : ∀ k, k < 4 → k < q → bE a (k + 1) (er k) q = bE a k (a k) q
  | 0, _, h => by simp only [bE]; rw [er_n (by omega), er_s]; simp only [bF]; omega
  | 1, _, h => by rw [← bF_2]; simp only [bE]; rw [er_n (r := 1) (q := q) (by omega), er_s, er_n (by omega)]; omega
  | 2, _, h => by rw [← bF_3]; simp only [bE]; rw [er_n (r := 2) (q := q) (by omega), er_s, er_n (r := 2) (q := 0) (by omega), er_n (r := 2) (q := 1) (by omega)]; omega
  | 3, _, h => by rw [← bF_4]; simp only [bE]; rw [er_n (r := 3) (q := q) (by omega), er_s, er_n (r := 3) (q := 0) (by omega), er_n (r := 3) (q := 1) (by omega), er_n (r := 3) (q := 2) (by omega)]; omega
  | k + 4, h, _ => by omega
def bx (a : Nat → Nat → Int) (k r q : Nat) : Int := if q < k then (if q = r then bp a k else 0) else if r < k then bE a k (er r) q else bE a k (a r) q
theorem bx_lo {a : Nat → Nat → Int} {k r q : Nat} (h : q < k) : bx a k r q = if q = r then bp a k else 0 := if_pos h
theorem bx_fr {a : Nat → Nat → Int} {k r q : Nat} (h : k ≤ q) (hr : r < k) : bx a k r q = bE a k (er r) q := (if_neg (by omega)).trans (if_pos hr)
theorem bx_hi {a : Nat → Nat → Int} {k r q : Nat} (h : k ≤ q) (hr : k ≤ r) : bx a k r q = bE a k (a r) q := (if_neg (by omega)).trans (if_neg (by omega))
theorem bx_st (a : Nat → Nat → Int) {k r q : Nat} (hk : k < 4) (hr : r ≠ k) : bp a k * bx a (k + 1) r q = bp a (k + 1) * bx a k r q - bx a k r k * bx a k k q := by
  rcases Nat.lt_trichotomy q k with h | h | h
  · rw [bx_lo (k := k + 1) (by omega), bx_lo (k := k) (r := r) h, bx_lo (k := k) (r := k) h, if_neg (show ¬ q = k by omega)]
    split
    · rw [Int.mul_zero, Int.sub_zero, Int.mul_comm]
    · simp
  · subst h
    rw [bx_lo (k := q + 1) (by omega), if_neg (fun e => hr e.symm), bx_hi (k := q) (r := q) (Nat.le_refl _) (Nat.le_refl _), ← bp_st a q hk, Int.mul_comm (bx a q r q)]
    omega
  · rw [bx_hi (k := k) (r := k) (by omega) (Nat.le_refl _)]
    rcases Nat.lt_or_ge r k with h2 | h2
    · rw [bx_fr (k := k + 1) (by omega) (by omega), bx_fr (k := k) (q := q) (by omega) h2, bx_fr (k := k) (q := k) (by omega) h2]
      exact be_st a (er r) q k hk
    · rw [bx_hi (k := k + 1) (by omega) (by omega), bx_hi (k := k) (q := q) (by omega) h2, bx_hi (k := k) (q := k) (by omega) h2]
      exact be_st a (a r) q k hk
theorem bx_ow (a : Nat → Nat → Int) {k q : Nat} (hk : k < 4) : bx a (k + 1) k q = bx a k k q := by
  rcases Nat.lt_trichotomy q k with h | h | h
  · rw [bx_lo (k := k + 1) (by omega), bx_lo h, if_neg (by omega), if_neg (by omega)]
  · subst h
    rw [bx_lo (k := q + 1) (by omega), if_pos rfl, bx_hi (Nat.le_refl _) (Nat.le_refl _), bp_st a q hk]
  · rw [bx_fr (k := k + 1) (by omega) (by omega), bx_hi (by omega) (Nat.le_refl _)]
    exact be_fz a q k hk h
/-- what the elimination in whole numbers makes of the rows a: the matrix B k after k steps, the pivots p -/
def Bz (a : Nat → Nat → Int) (B : Nat → Nat → Nat → Int) (p : Nat → Int) : Prop :=
  p 0 = 1 ∧ (∀ r q, B 0 r q = a r q) ∧ (∀ k, k < 5 → p (k + 1) = B k k k) ∧
  (∀ k, k < 5 → ∀ q, B (k + 1) k q = B k k q) ∧ ∀ k, k < 5 → ∀ r q, r ≠ k → q < 6 → p k * B (k + 1) r q = p (k + 1) * B k r q - B k r k * B k k q
theorem bz_ex (a : Nat → Nat → Int) : ∃ B p, Bz a B p := by
  refine ⟨fun k r q => if k = 5 then (if q < 5 then (if q = r then bE a 4 (a 4) 4 else 0) else if r = 4 then bE a 4 (a 4) q else if r < 4 then Classical.choose (bs_5 a (er r) q) else Classical.choose (bs_5 a (a r) q)) else bx a k r q, fun k => if k = 5 then bE a 4 (a 4) 4 else bp a k, rfl, fun r q => ?_, fun k hk => ?_, fun k hk q => ?_, fun k hk r q hr hq => ?_⟩
  · show bx a 0 r q = a r q
    exact bx_hi (Nat.zero_le _) (Nat.zero_le _)
  · show (if k + 1 = 5 then _ else _) = (if k = 5 then _ else _)
    rw [if_neg (show ¬ k = 5 by omega), bx_hi (Nat.le_refl _) (Nat.le_refl _)]
    split
    · obtain rfl : k = 4 := by omega
      rfl
    · exact bp_st a k (by omega)
  · show (if k + 1 = 5 then _ else _) = (if k = 5 then _ else _)
    rw [if_neg (show ¬ k = 5 by omega)]
    split
    · obtain rfl : k = 4 := by omega
      split
      · rename_i hq5
        rcases Nat.lt_or_ge q 4 with h | h
        · rw [if_neg (by omega), bx_lo h, if_neg (by omega)]
        · obtain rfl : q = 4 := by omega
          rw [if_pos rfl, bx_hi (Nat.le_refl _) (Nat.le_refl _)]
      · rw [if_pos rfl, bx_hi (by omega) (Nat.le_refl _)]
    · exact bx_ow a (by omega)
  · show (if k = 5 then _ else _) * (if k + 1 = 5 then _ else _) = (if k + 1 = 5 then _ else _) * (if k = 5 then _ else _) - (if k = 5 then _ else _) * (if k = 5 then _ else _)
    rw [if_neg (show ¬ k = 5 by omega), if_neg (show ¬ k = 5 by omega), if_neg (show ¬ k = 5 by omega), if_neg (show ¬ k = 5 by omega)]
    by_cases h5 : k + 1 = 5
    · rw [if_pos h5, if_pos h5]
      obtain rfl : k = 4 := by omega
      by_cases hq5 : q < 5
      · rw [if_pos hq5]
        rcases Nat.lt_or_ge q 4 with h | h
        · rw [bx_lo (k := 4) (r := r) h, bx_lo (k := 4) (r := 4) h, if_neg (show ¬ q = 4 by omega)]
          split
          · rw [Int.mul_zero, Int.sub_zero, Int.mul_comm]
          · simp
        · obtain rfl : q = 4 := by omega
          rw [if_neg (fun e => hr e.symm), bx_hi (k := 4) (r := 4) (Nat.le_refl _) (Nat.le_refl _), Int.mul_comm (bx a 4 r 4)]
          omega
      · rw [if_neg hq5, if_neg hr, bx_hi (k := 4) (r := 4) (by omega) (Nat.le_refl _)]
        by_cases hr4 : r < 4
        · rw [if_pos hr4, bx_fr (q := q) (by omega) hr4, bx_fr (q := 4) (by omega) hr4]
          exact Classical.choose_spec (bs_5 a (er r) q)
        · rw [if_neg hr4, bx_hi (q := q) (by omega) (by omega), bx_hi (q := 4) (by omega) (by omega)]
          exact Classical.choose_spec (bs_5 a (a r) q)
    · rw [if_neg h5, if_neg h5]
      exact bx_st a (by omega) hr
def s5 (f : Nat → Int) : Int := f 0 + f 1 + f 2 + f 3 + f 4
theorem mnn {x y : Int} (hx : 0 < x) (h : 0 ≤ x * y) : 0 ≤ y := by
  rcases Int.lt_or_le y 0 with h1 | h1
  · have := Int.mul_neg_of_pos_of_neg hx h1; omega
  · exact h1
theorem mnp {x y : Int} (hx : 0 < x) (h : x * y ≤ 0) : y ≤ 0 := by
  rcases Int.lt_or_le 0 y with h1 | h1
  · have := Int.mul_pos hx h1; omega
  · exact h1
theorem mps {x y : Int} (hx : 0 < x) (h : 0 < x * y) : 0 < y := by
  rcases Int.lt_or_le 0 y with h1 | h1
  · exact h1
  · have := Int.mul_nonpos_of_nonneg_of_nonpos (Int.le_of_lt hx) h1; omega
theorem mz {x y : Int} (hx : 0 < x) (h : x * y = 0) : y = 0 := by
  rcases Int.mul_eq_zero.mp h with e | e
  · omega
  · exact e
/-- a row like that of a plant: r its own place -/
def Rw (v : Nat → Int) (f : Nat → Int) (r : Nat) : Prop := (∀ q, q < 5 → q ≠ r → f q ≤ 0) ∧ 0 ≤ f 5 ∧ f 5 ≤ s5 f ∧ 0 < s5 (fun q => f q * v q)
theorem Rw.step {v : Nat → Int} {f g n : Nat → Int} {r k : Nat} {P P' : Int} (hk : k < 5) (hrk : r ≠ k) (hP : 0 < P) (hP' : 0 < P') (hf : Rw v f r) (hg : Rw v g k) (he : ∀ q, q < 6 → P * n q = P' * f q - f k * g q) (hgk : g k = P') : Rw v n r := by
  have hc : f k ≤ 0 := hf.1 k hk (fun e => hrk e.symm)
  refine ⟨fun q hq hqr => ?_, ?_, ?_, ?_⟩
  · refine mnp hP ?_
    rw [he q (by omega)]
    by_cases e : q = k
    · subst e; rw [hgk, Int.mul_comm (f q)]; omega
    · have h1 := Int.mul_nonpos_of_nonneg_of_nonpos (Int.le_of_lt hP') (hf.1 q hq hqr)
      have h2 := Int.mul_nonneg_of_nonpos_of_nonpos hc (hg.1 q hq e)
      omega
  · refine mnn hP ?_
    rw [he 5 (by omega)]
    have h1 := Int.mul_nonneg (Int.le_of_lt hP') hf.2.1
    have h2 := Int.mul_nonpos_of_nonpos_of_nonneg hc hg.2.1
    omega
  · have e0 := he 0 (by omega); have e1 := he 1 (by omega); have e2 := he 2 (by omega); have e3 := he 3 (by omega); have e4 := he 4 (by omega); have e5 := he 5 (by omega)
    have h1 : 0 ≤ P' * (s5 f - f 5) := Int.mul_nonneg (Int.le_of_lt hP') (by have := hf.2.2.1; omega)
    have h2 : f k * (s5 g - g 5) ≤ 0 := Int.mul_nonpos_of_nonpos_of_nonneg hc (by have := hg.2.2.1; omega)
    have h3 : P * (s5 n - n 5) = P' * (s5 f - f 5) - f k * (s5 g - g 5) := by unfold s5; grind
    have h4 : 0 ≤ s5 n - n 5 := mnn hP (by omega)
    omega
  · have e0 := he 0 (by omega); have e1 := he 1 (by omega); have e2 := he 2 (by omega); have e3 := he 3 (by omega); have e4 := he 4 (by omega)
    have h1 := Int.mul_pos hP' hf.2.2.2
    have h2 := Int.mul_nonpos_of_nonpos_of_nonneg hc (Int.le_of_lt hg.2.2.2)
    have h3 : P * s5 (fun q => n q * v q) = P' * s5 (fun q => f q * v q) - f k * s5 (fun q => g q * v q) := by unfold s5; grind
    exact mps hP (by omega)
theorem Rw.diag {v : Nat → Int} (hv : ∀ q, q < 5 → 0 < v q) {f : Nat → Int} {r : Nat} (hr : r < 5) (hf : Rw v f r) : 0 < f r := by
  have h : ∀ q, q < 5 → q ≠ r → f q * v q ≤ 0 := fun q hq e => Int.mul_nonpos_of_nonpos_of_nonneg (hf.1 q hq e) (Int.le_of_lt (hv q hq))
  have h4 : 0 < f 0 * v 0 + f 1 * v 1 + f 2 * v 2 + f 3 * v 3 + f 4 * v 4 := hf.2.2.2
  have hp : 0 < f r * v r := by
    rcases (show r = 0 ∨ r = 1 ∨ r = 2 ∨ r = 3 ∨ r = 4 by omega) with rfl | rfl | rfl | rfl | rfl
    · have := h 1 (by omega) (by omega); have := h 2 (by omega) (by omega); have := h 3 (by omega) (by omega); have := h 4 (by omega) (by omega); omega
    · have := h 0 (by omega) (by omega); have := h 2 (by omega) (by omega); have := h 3 (by omega) (by omega); have := h 4 (by omega) (by omega); omega
    · have := h 0 (by omega) (by omega); have := h 1 (by omega) (by omega); have := h 3 (by omega) (by omega); have := h 4 (by omega) (by omega); omega
    · have := h 0 (by omega) (by omega); have := h 1 (by omega) (by omega); have := h 2 (by omega) (by omega); have := h 4 (by omega) (by omega); omega
    · have := h 0 (by omega) (by omega); have := h 1 (by omega) (by omega); have := h 2 (by omega) (by omega); have := h 3 (by omega) (by omega); omega
  rw [Int.mul_comm] at hp
  exact mps (hv r hr) hp
theorem Rw.off {v : Nat → Int} {f : Nat → Int} {r q : Nat} (hr : r < 5) (hq : q < 5) (hne : q ≠ r) (hf : Rw v f r) : -f r ≤ f q ∧ f 5 ≤ f r := by
  have h1 := hf.1; have h2 := hf.2.1; have h3 := hf.2.2.1
  unfold s5 at h3
  have g : ∀ z, z < 5 → z ≠ r → f z ≤ 0 := h1
  rcases (show r = 0 ∨ r = 1 ∨ r = 2 ∨ r = 3 ∨ r = 4 by omega) with rfl | rfl | rfl | rfl | rfl
  · have := g 1 (by omega) (by omega); have := g 2 (by omega) (by omega); have := g 3 (by omega) (by omega); have := g 4 (by omega) (by omega)
    rcases (show q = 1 ∨ q = 2 ∨ q = 3 ∨ q = 4 by omega) with rfl | rfl | rfl | rfl <;> omega
  · have := g 0 (by omega) (by omega); have := g 2 (by omega) (by omega); have := g 3 (by omega) (by omega); have := g 4 (by omega) (by omega)
    rcases (show q = 0 ∨ q = 2 ∨ q = 3 ∨ q = 4 by omega) with rfl | rfl | rfl | rfl <;> omega
  · have := g 0 (by omega) (by omega); have := g 1 (by omega) (by omega); have := g 3 (by omega) (by omega); have := g 4 (by omega) (by omega)
    rcases (show q = 0 ∨ q = 1 ∨ q = 3 ∨ q = 4 by omega) with rfl | rfl | rfl | rfl <;> omega
  · have := g 0 (by omega) (by omega); have := g 1 (by omega) (by omega); have := g 2 (by omega) (by omega); have := g 4 (by omega) (by omega)
    rcases (show q = 0 ∨ q = 1 ∨ q = 2 ∨ q = 4 by omega) with rfl | rfl | rfl | rfl <;> omega
  · have := g 0 (by omega) (by omega); have := g 1 (by omega) (by omega); have := g 2 (by omega) (by omega); have := g 3 (by omega) (by omega)
    rcases (show q = 0 ∨ q = 1 ∨ q = 2 ∨ q = 3 by omega) with rfl | rfl | rfl | rfl <;> omega
/-- all rows after k steps -/
def Bi (v : Nat → Int) (B : Nat → Nat → Nat → Int) (p : Nat → Int) (k : Nat) : Prop := 0 < p k ∧ ∀ r, r < 5 → Rw v (B k r) r ∧ (k ≤ r → B k r r ≤ 10 * p k) ∧ (r < k → B k r r = p k) ∧ ∀ q, q < k → q < 5 → q ≠ r → B k r q = 0
theorem bi_all {v : Nat → Int} (hv : ∀ q, q < 5 → 0 < v q) {a : Nat → Nat → Int} {B : Nat → Nat → Nat → Int} {p : Nat → Int} (hz : Bz a B p) (ha : ∀ r, r < 5 → Rw v (a r) r ∧ a r r ≤ 10) : ∀ k, k ≤ 5 → Bi v B p k
  | 0, _ => by
    refine ⟨by rw [hz.1]; decide, fun r hr => ?_⟩
    have e : B 0 r = a r := funext (hz.2.1 r)
    rw [e, hz.1]
    exact ⟨(ha r hr).1, fun _ => by have := (ha r hr).2; omega, fun h => by omega, fun q h => by omega⟩
  | k + 1, hk => by
    have ih := bi_all hv hz ha k (by omega)
    have hkk := ih.2 k (by omega)
    have hp1 := hz.2.2.1 k (by omega)
    have hP' : 0 < p (k + 1) := by rw [hp1]; exact hkk.1.diag hv (by omega)
    refine ⟨hP', fun r hr => ?_⟩
    by_cases e : r = k
    · subst e
      have eo : B (r + 1) r = B r r := funext (hz.2.2.2.1 r (by omega))
      rw [eo]
      exact ⟨hkk.1, fun h => by omega, fun _ => hp1.symm, fun q h h5 hne => hkk.2.2.2 q (by omega) h5 hne⟩
    · have hrr := ih.2 r hr
      have he : ∀ q, q < 6 → p k * B (k + 1) r q = p (k + 1) * B k r q - B k r k * B k k q := fun q hq => hz.2.2.2.2 k (by omega) r q e hq
      have hR := Rw.step (by omega) e ih.1 hP' hrr.1 hkk.1 he hp1.symm
      refine ⟨hR, fun h => ?_, fun h => ?_, fun q h h5 hne => ?_⟩
      · have h1 := hrr.2.1 (by omega)
        have h2 := he r (by omega)
        have h3 := Int.mul_nonneg_of_nonpos_of_nonpos (hrr.1.1 k (by omega) (fun x => e x.symm)) (hkk.1.1 r hr e)
        have h4 : p k * B (k + 1) r r ≤ p k * (10 * p (k + 1)) := by
          have h5 : p (k + 1) * B k r r ≤ p (k + 1) * (10 * p k) := Int.mul_le_mul_of_nonneg_left h1 (Int.le_of_lt hP')
          have h6 : p (k + 1) * (10 * p k) = p k * (10 * p (k + 1)) := by ac_rfl
          omega
        exact Int.le_of_mul_le_mul_left h4 ih.1
      · have h0 := hkk.2.2.2 r (by omega) hr e
        have h1 := hrr.2.2.1 (by omega)
        have h2 := he r (by omega)
        rw [h0, h1, Int.mul_zero, Int.sub_zero, Int.mul_comm (p (k + 1))] at h2
        exact Int.eq_of_mul_eq_mul_left (Int.ne_of_gt ih.1) h2
      · refine mz ih.1 ?_
        rw [he q (by omega)]
        by_cases eq : q = k
        · subst eq; rw [← hp1, Int.mul_comm (B q r q)]; omega
        · rw [hrr.2.2.2 q (by omega) h5 hne, hkk.2.2.2 q (by omega) h5 eq]; omega
theorem bi_le {v : Nat → Int} {a : Nat → Nat → Int} {B : Nat → Nat → Nat → Int} {p : Nat → Int} (hz : Bz a B p) (hB : ∀ k, k ≤ 5 → Bi v B p k) : ∀ k, k ≤ 5 → p k ≤ 10 ^ k
  | 0, _ => by rw [hz.1]; decide
  | k + 1, h => by
    have ih := bi_le hz hB k (by omega)
    have h1 := ((hB k (by omega)).2 k (by omega)).2.1 (Nat.le_refl _)
    rw [hz.2.2.1 k (by omega), Int.pow_succ]
    omega
