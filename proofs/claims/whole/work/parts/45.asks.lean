/-! the calls that ask -/
theorem tw_0 (C : cs_S) (k : Int32) : ∀ m i s, (∀ j, i ≤ j → j < i + m → C.1 5 (j / 4) = 0) → tw_f C k m i s = -1
  | 0, _, _, _ => rfl
  | m + 1, i, s, h => by
    show (if C.1 5 (i / 4) ≠ 0 ∧ _ then _ else tw_f C k m (i + 1) s) = -1
    rw [if_neg (fun z => z.1 (h i (Nat.le_refl i) (by omega)))]
    exact tw_0 C k m (i + 1) s (fun j a b => h j (by omega) (by omega))
theorem tw_eq {C M : cs_S} (h4 : C.1 4 = M.1 38) (h5 : C.1 5 = M.1 39) (k : Int32) (m : Nat) : ∀ n i s, (∀ j, i + n ≤ j → j < i + n + m → C.1 5 (j / 4) = 0) → tw_f C k (n + m) i s = mw_f M k n i s
  | 0, i, s, h => by
    rw [Nat.zero_add]
    exact tw_0 C k m i s (fun j a b => h j (by omega) (by omega))
  | n + 1, i, s, h => by
    have ih := tw_eq h4 h5 k m n (i + 1)
    rw [show n + 1 + m = (n + m) + 1 by omega]
    show (if C.1 5 (i / 4) ≠ 0 ∧ C.1 4 (i / 4 * 4 + i % 4) ≠ 0 then (if nI s = k then nI i else tw_f C k (n + m) (i + 1) (s + 1)) else tw_f C k (n + m) (i + 1) s) = (if M.1 38 i ≠ 0 ∧ M.1 39 (i / 4) ≠ 0 then (if nI s = k then nI i else mw_f M k n (i + 1) (s + 1)) else mw_f M k n (i + 1) s)
    rw [ih (s + 1) (fun j a b => h j (by omega) (by omega)), ih s (fun j a b => h j (by omega) (by omega)), h4, h5, show i / 4 * 4 + i % 4 = i by omega]
    exact if_iff9 And.comm _ _
theorem s_twice {C M : cs_S} (h : Inv C M) (k : Int32) : StI y_RC_twice y_Mo_twice 3 0 [.int k] C M := by
  have h0 := h
  obtain ⟨np, nf, h1, h2, h3, h4, h5, h6⟩ := h
  have hn5 := h2.2.1
  have hb : b01 (C.1 4) := by rw [h1.1.2.1]; exact h2.2.2.2.1
  have c1 := c_RC_twice C (ms_w M) hb k
  have e : tw_f C k 20 0 0 = mw_f M k (4 * np) 0 0 := by
    have := tw_eq h1.1.2.1 h1.1.2.2.1 k (20 - 4 * np) (4 * np) 0 0 (fun j a b => by
      rw [h1.1.2.2.1]; exact h2.2.2.2.2.2.1 (j / 4) (by omega) (by omega))
    rwa [show 4 * np + (20 - 4 * np) = 20 by omega] at this
  rw [e] at c1
  exact ⟨_, C, M, c1, c_Mo_twice C M np h2.1 hn5 k, h0⟩
theorem to_0 (C : cs_S) (k : Int32) : ∀ m i s, (∀ j, i ≤ j → j < i + m → C.1 31 j = 0) → to_f C k m i s = -1
  | 0, _, _, _ => rfl
  | m + 1, i, s, h => by
    show (if C.1 31 i ≠ 0 then _ else to_f C k m (i + 1) s) = -1
    rw [if_neg (fun z => z (h i (Nat.le_refl i) (by omega)))]
    exact to_0 C k m (i + 1) s (fun j a b => h j (by omega) (by omega))
theorem to_eq {C M : cs_S} (k : Int32) (m : Nat) : ∀ n i s, (∀ j, i ≤ j → j < i + n → (C.1 31 j ≠ 0 ↔ mo_c M j 4 = true)) → (∀ j, i + n ≤ j → j < i + n + m → C.1 31 j = 0) → to_f C k (n + m) i s = mo_f M k n i s
  | 0, i, s, _, h => by
    rw [Nat.zero_add]
    exact to_0 C k m i s (fun j a b => h j (by omega) (by omega))
  | n + 1, i, s, hi, h => by
    have ih := fun s => to_eq (C := C) (M := M) k m n (i + 1) s (fun j a b => hi j (by omega) (by omega)) (fun j a b => h j (by omega) (by omega))
    rw [show n + 1 + m = (n + m) + 1 by omega]
    show (if C.1 31 i ≠ 0 then (if nI s = k then nI i else to_f C k (n + m) (i + 1) (s + 1)) else to_f C k (n + m) (i + 1) s) = (if mo_c M i 4 = true then (if nI s = k then nI i else mo_f M k n (i + 1) (s + 1)) else mo_f M k n (i + 1) s)
    rw [ih (s + 1), ih s]
    exact if_iff9 (hi i (Nat.le_refl i) (by omega)) _ _
theorem s_told {C M : cs_S} (h : Inv C M) (k : Int32) : StI y_RC_told y_Mo_told 1 0 [.int k] C M := by
  have h0 := h
  obtain ⟨np, nf, h1, h2, h3, h4, h5, h6⟩ := h
  have hn5 := h2.2.1
  have c1 := c_RC_told C (ms_w M) h6.1 k
  by_cases h13 : M.2.2 13 = 0
  · obtain ⟨s, hs, es⟩ := h4.2.2.2.2.2.2
    have c2 := c_Mo_told C M s es hs k
    rw [if_pos h13] at c2
    rw [to_0 C k 5 0 0 (fun j a b => h6.2.1 h13 j (by omega))] at c1
    exact ⟨_, C, M, c1, c2, h0⟩
  · obtain ⟨ns, sp, q, w, i7⟩ := h6.2.2 h13
    have hsp := i7.2.1
    have c2 := c_Mo_told C M sp hsp.1 (by have := hsp.2.1; omega) k
    rw [if_neg h13] at c2
    have e : to_f C k 5 0 0 = mo_f M k sp 0 0 := by
      have hs5 : sp ≤ 5 := by have := hsp.2.1; omega
      have := to_eq (C := C) (M := M) k (5 - sp) sp 0 0 (fun j a b => by
        rw [i7.2.2.2.2 j (by omega)]; exact ⟨fun z => z.2, fun z => ⟨by omega, z⟩⟩) (fun j a b => Decidable.byContradiction (fun hc => by
        have := (i7.2.2.2.2 j (by omega)).mp hc; omega))
      rwa [show sp + (5 - sp) = 5 by omega] at this
    rw [e] at c1
    exact ⟨_, C, M, c1, c2, h0⟩
theorem sm_m1 {S : cs_S} {k y : Nat} {p : Int32} {f : Nat} : sm_c S k y (-1) p f ↔ S.1 42 f = nI k ∧ S.1 43 f = nI y ∧ (p < 0 ∨ S.1 41 f = p) :=
  ⟨fun h => ⟨h.1, h.2.1, h.2.2.2⟩, fun h => ⟨h.1, h.2.1, Or.inl (by decide), h.2.2⟩⟩
theorem sm_cn {S : cs_S} {k y c : Nat} (hc : c < 2 ^ 31) {p : Int32} {f : Nat} : sm_c S k y (nI c) p f ↔ sm_c S k y (-1) p f ∧ S.1 44 f = nI c := by
  rw [sm_m1]
  exact ⟨fun h => ⟨⟨h.1, h.2.1, h.2.2.2⟩, h.2.2.1.resolve_left (nI_pos hc)⟩, fun h => ⟨h.1.1, h.1.2.1, Or.inr h.2, h.1.2.2⟩⟩
theorem sm_all {S : cs_S} (w : Nat → Int) (k y : Nat) (p : Int32) : ∀ n, (∀ f, f < n → ∃ c : Nat, c < 4 ∧ S.1 44 f = nI c) → sm_T S w k y (-1) p n = sm_T S w k y (nI 0) p n + sm_T S w k y (nI 1) p n + sm_T S w k y (nI 2) p n + sm_T S w k y (nI 3) p n
  | 0, _ => rfl
  | n + 1, h => by
    have ih := sm_all w k y p n (fun f hf => h f (by omega))
    obtain ⟨c', hc', ec⟩ := h n (by omega)
    have e : ∀ c, c < 4 → sm_T S w k y (nI c) p (n + 1) = sm_T S w k y (nI c) p n + if c = c' then (if sm_c S k y (-1) p n then (S.2.1 45 n).toInt * w (4 * cN (S.1 41 n) + k) else 0) else 0 := fun c hc => by
      show sm_T S w k y (nI c) p n + (if sm_c S k y (nI c) p n then (S.2.1 45 n).toInt * w (4 * cN (S.1 41 n) + k) else 0) = _
      congr 1
      by_cases e1 : c = c'
      · rw [if_pos e1]
        refine if_iff9 ?_ _ _
        rw [sm_cn (by omega), e1]; exact ⟨fun h => h.1, fun h => ⟨h, ec⟩⟩
      · rw [if_neg e1, if_neg]
        rw [sm_cn (by omega), ec]
        exact fun h => e1 ((nI_eq (by omega) (by omega)).mp h.2).symm
    have e0 : sm_T S w k y (-1) p (n + 1) = sm_T S w k y (-1) p n + (if sm_c S k y (-1) p n then (S.2.1 45 n).toInt * w (4 * cN (S.1 41 n) + k) else 0) := rfl
    rw [e0, ih, e 0 (by omega), e 1 (by omega), e 2 (by omega), e 3 (by omega)]
    generalize (if sm_c S k y (-1) p n then (S.2.1 45 n).toInt * w (4 * cN (S.1 41 n) + k) else 0) = v
    rcases (show c' = 0 ∨ c' = 1 ∨ c' = 2 ∨ c' = 3 by omega) with rfl | rfl | rfl | rfl
    · rw [if_pos rfl, if_neg (by decide), if_neg (by decide), if_neg (by decide)]; omega
    · rw [if_neg (by decide), if_pos rfl, if_neg (by decide), if_neg (by decide)]; omega
    · rw [if_neg (by decide), if_neg (by decide), if_pos rfl, if_neg (by decide)]; omega
    · rw [if_neg (by decide), if_neg (by decide), if_neg (by decide), if_pos rfl]; omega
theorem ct_all {S : cs_S} {ns : Nat} (q w : Nat → Int) (k y : Nat) (h : ∀ f, f < ns → ∃ c : Nat, c < 4 ∧ S.1 44 f = nI c) : ct_T S ns q w k y (-1) = ct_T S ns q w k y (nI 0) + ct_T S ns q w k y (nI 1) + ct_T S ns q w k y (nI 2) + ct_T S ns q w k y (nI 3) := by
  unfold ct_T
  rw [sm_all w k y (-1) ns h]
  have m1 : ((-1 : Int32) ≤ 0) := by decide
  have m0 : (nI 0 ≤ 0) := by decide
  have n1 : ¬ (nI 1 ≤ 0) := by decide
  have n2 : ¬ (nI 2 ≤ 0) := by decide
  have n3 : ¬ (nI 3 ≤ 0) := by decide
  rw [if_neg (show ¬ (k = 3 ∧ nI 1 ≤ 0) from fun h => n1 h.2), if_neg (show ¬ (k = 3 ∧ nI 2 ≤ 0) from fun h => n2 h.2), if_neg (show ¬ (k = 3 ∧ nI 3 ≤ 0) from fun h => n3 h.2)]
  by_cases e : k = 3
  · rw [if_pos ⟨e, m1⟩, if_pos ⟨e, m0⟩]; omega
  · rw [if_neg (fun h => e h.1), if_neg (fun h => e h.1)]; omega
theorem ab_eq {C M : cs_S} {np nf ns sp : Nat} {q w : Nat → Int} (h3 : In3 M np nf) (i7 : In7 C M np nf ns sp q w) {k y : Nat} (hk : k < 4) (hy : y < 10) : ab_f (C.2.1 28) k y 4 = zL (ct_T M ns q w k y (-1)) := by
  have d3 := i7.2.2.2.1.2.2.1
  have hns := i7.1.2.1
  rw [ct_all q w k y (fun f hf => (h3.2.2 f (by omega)).2.2.2.1)]
  show lN 0 + C.2.1 28 (0 * 4 * 10 + (k * 10 + y)) + C.2.1 28 (1 * 4 * 10 + (k * 10 + y)) + C.2.1 28 (2 * 4 * 10 + (k * 10 + y)) + C.2.1 28 (3 * 4 * 10 + (k * 10 + y)) = _
  rw [d3 0 k y (by omega) hk hy, d3 1 k y (by omega) hk hy, d3 2 k y (by omega) hk hy, d3 3 k y (by omega) hk hy, ← zL_0, zL_add, zL_add, zL_add, zL_add, Int.zero_add]
theorem prt_iff (p : Int32) : (p = 0 ∨ p = nI 1) ↔ iW p.toInt64 (lN 0) (lN 1) := by
  have hz : zR p.toInt := ⟨by have := p.le_toInt; omega, by have := p.toInt_lt; omega⟩
  rw [zL_i]
  have e1 : lN 0 ≤ zL p.toInt ↔ 0 ≤ p.toInt := zL_le (a := 0) zR_0 hz
  have e2 : zL p.toInt ≤ lN 1 ↔ p.toInt ≤ 1 := zL_le (b := 1) hz ⟨by decide, by decide⟩
  have e3 : iW (zL p.toInt) (lN 0) (lN 1) ↔ 0 ≤ p.toInt ∧ p.toInt ≤ 1 := by unfold iW; rw [e1, e2]
  rw [e3]
  constructor
  · rintro (h | h)
    · rw [h]; decide
    · rw [h]; decide
  · rintro ⟨h1, h2⟩
    rcases (show p.toInt = 0 ∨ p.toInt = 1 by omega) with h | h
    · exact Or.inl (Int32.toInt_inj.mp h)
    · exact Or.inr (Int32.toInt_inj.mp h)
theorem h16_of {C M : cs_S} (h1 : In1 C M) (h4 : In4 M) : narrow .boolean (.int (C.2.2 16)) = .int (C.2.2 16) := by
  rw [h1.2.2.2.2.2.2.1]
  rcases h4.2.2.2.2.2.1 with h | h <;> rw [h] <;> rfl
theorem qb {M : cs_S} {ns : Nat} {q w : Nat → Int} (h : mO M ns q w) {k : Nat} (hk : k < 4) : 0 < q k ∧ q k ≤ 100000 := h.2.2.2.1 k hk
theorem s_counted {C M : cs_S} (h : Inv C M) (x y p : Int32) : StL y_RC_counted y_Mo_counted 4 4 [.int x, .int y, .int p] C M := by
  have h0 := h
  obtain ⟨np, nf, h1, h2, h3, h4, h5, h6⟩ := h
  have c1 := c_RC_counted C (ms_w M) x y p (h16_of h1 h4)
  have e13 := h1.2.2.2.2.2.2.1
  have ok : (C.2.2 16 ≠ 0 ∧ iR x 4 ∧ iR y 10 ∧ (p = 0 ∨ p = nI 1)) ↔ ok_m M x y p := by
    unfold ok_m; rw [e13, prt_iff]
  by_cases hk : ok_m M x y p
  · obtain ⟨ns, sp, q, w, i7⟩ := h6.2.2 hk.1
    have c2 := c_Mo_counted C M ns q w (fun _ => i7.1) x y p
    obtain ⟨k, hk4, rfl⟩ := in_ex hk.2.1 (by omega)
    obtain ⟨j, hj, rfl⟩ := in_ex hk.2.2.1 (by omega)
    have ck : cN (nI k) = k := cN_nI (by omega)
    have cj : cN (nI j) = j := cN_nI (by omega)
    have hq := qb i7.1 hk4
    have hb := ct_b i7.1 hk4 hj (-1)
    unfold cf_counted at c1
    unfold mf_counted mg_counted at c2
    rw [if_pos (ok.mpr hk), ck, cj, ab_eq h3 i7 hk4 hj, i7.2.2.1.1 k hk4, pt_ok ⟨by omega, by omega⟩ hq.1 (by omega)] at c1
    rw [if_pos hk, if_pos hk, ck, cj] at c2
    exact ⟨_, C, _, c1, c2, Inv_Q h0 _⟩
  · unfold cf_counted at c1
    rw [if_neg (fun z => hk (ok.mp z))] at c1
    by_cases h13 : M.2.2 13 = 0
    · have c2 := c_Mo_counted C M 0 (fun _ => 0) (fun _ => 0) (fun z => absurd h13 z) x y p
      unfold mf_counted mg_counted at c2
      rw [if_neg hk, if_neg hk] at c2
      exact ⟨_, C, M, c1, c2, h0⟩
    · obtain ⟨ns, sp, q, w, i7⟩ := h6.2.2 h13
      have c2 := c_Mo_counted C M ns q w (fun _ => i7.1) x y p
      unfold mf_counted mg_counted at c2
      rw [if_neg hk, if_neg hk] at c2
      exact ⟨_, C, M, c1, c2, h0⟩
theorem s_rate {C M : cs_S} (h : Inv C M) (x y p : Int32) : StL y_RC_rate y_Mo_rate 4 4 [.int x, .int y, .int p] C M := by
  have h0 := h
  obtain ⟨np, nf, h1, h2, h3, h4, h5, h6⟩ := h
  have c1 := c_RC_rate C (ms_w M) x y p (h16_of h1 h4)
  have e13 := h1.2.2.2.2.2.2.1
  have ok : (C.2.2 16 ≠ 0 ∧ iR x 4 ∧ iR y 10 ∧ (p = 0 ∨ p = nI 1)) ↔ ok_m M x y p := by
    unfold ok_m; rw [e13, prt_iff]
  by_cases hk : ok_m M x y p
  · obtain ⟨ns, sp, q, w, i7⟩ := h6.2.2 hk.1
    have c2 := c_Mo_rate C M ns q w (fun _ => i7.1) h4.2.1 x y p
    obtain ⟨k, hk4, rfl⟩ := in_ex hk.2.1 (by omega)
    obtain ⟨j, hj, rfl⟩ := in_ex hk.2.2.1 (by omega)
    have ck : cN (nI k) = k := cN_nI (by omega)
    have cj : cN (nI j) = j := cN_nI (by omega)
    have hq := qb i7.1 hk4
    have hb := ct_b i7.1 hk4 hj (nI 0)
    unfold cf_rate at c1
    unfold mf_rate mg_rate at c2
    rw [if_pos (ok.mpr hk), ck, cj, h1.2.2.1.2, Nat.mul_comm k 10] at c1
    rw [if_pos hk, if_pos hk, ck, cj] at c2
    by_cases hz : M.2.1 47 (10 * k + j) = lN 0
    · rw [if_pos hz] at c1
      rw [if_pos hz, if_pos hz] at c2
      exact ⟨_, C, M, c1, c2, h0⟩
    · obtain ⟨g, g1, g2, eg⟩ := h4.2.1 (10 * k + j) (by omega)
      have gz : zR g := ⟨by omega, by omega⟩
      have g0 : 0 < g := by
        rcases Int.lt_or_eq_of_le g1 with h | h
        · exact h
        · exact absurd (by rw [eg, ← h]; rfl) hz
      have hm := pl hq.1 g0 hq.2 g2
      rw [if_neg hz, Nat.mul_comm 10 k, i7.2.2.2.1.2.2.1 0 k j (by omega) hk4 hj, Nat.mul_comm k 10, i7.2.2.1.1 k hk4, eg, zL_mul, pt_ok ⟨by omega, by omega⟩ hm.1 (by omega)] at c1
      rw [if_neg hz, if_neg hz, eg, zL_T gz] at c2
      exact ⟨_, C, _, c1, c2, Inv_Q h0 _⟩
  · unfold cf_rate at c1
    rw [if_neg (fun z => hk (ok.mp z))] at c1
    by_cases h13 : M.2.2 13 = 0
    · have c2 := c_Mo_rate C M 0 (fun _ => 0) (fun _ => 0) (fun z => absurd h13 z) h4.2.1 x y p
      unfold mf_rate mg_rate at c2
      rw [if_neg hk, if_neg hk] at c2
      exact ⟨_, C, M, c1, c2, h0⟩
    · obtain ⟨ns, sp, q, w, i7⟩ := h6.2.2 h13
      have c2 := c_Mo_rate C M ns q w (fun _ => i7.1) h4.2.1 x y p
      unfold mf_rate mg_rate at c2
      rw [if_neg hk, if_neg hk] at c2
      exact ⟨_, C, M, c1, c2, h0⟩
theorem oc_y_iff (S : cs_S) (ns : Nat) (q w : Nat → Int) (k : Nat) (b : Bool) : ∀ n, oc_y S ns q w k b n = true ↔ b = true ∧ ∀ y, y < n → oc_c S ns q w k y
  | 0 => ⟨fun h => ⟨h, fun y hy => absurd hy (by omega)⟩, fun h => h.1⟩
  | n + 1 => by
    show (oc_y S ns q w k b n && decide (oc_c S ns q w k n)) = true ↔ _
    rw [Bool.and_eq_true, oc_y_iff S ns q w k b n, decide_eq_true_iff]
    constructor
    · rintro ⟨⟨h1, h2⟩, h3⟩
      refine ⟨h1, fun y hy => ?_⟩
      by_cases e : y = n
      · rw [e]; exact h3
      · exact h2 y (by omega)
    · rintro ⟨h1, h2⟩
      exact ⟨⟨h1, fun y hy => h2 y (by omega)⟩, h2 n (by omega)⟩
theorem oc_k_iff (S : cs_S) (ns : Nat) (q w : Nat → Int) : ∀ n, oc_k S ns q w n = true ↔ ∀ k, k < n → ∀ y, y < 10 → oc_c S ns q w k y
  | 0 => ⟨fun _ k hk => absurd hk (by omega), fun _ => rfl⟩
  | n + 1 => by
    show oc_y S ns q w n (oc_k S ns q w n) 10 = true ↔ _
    rw [oc_y_iff, oc_k_iff S ns q w n]
    constructor
    · rintro ⟨h1, h2⟩ k hk
      by_cases e : k = n
      · rw [e]; exact h2
      · exact h1 k (by omega)
    · intro h
      exact ⟨fun k hk => h k (by omega), h n (by omega)⟩
theorem s_once {C M : cs_S} (h : Inv C M) : StI y_RC_once y_Mo_once 5 4 [] C M := by
  have h0 := h
  obtain ⟨np, nf, h1, h2, h3, h4, h5, h6⟩ := h
  have c1 := c_RC_once C (ms_w M) (h16_of h1 h4)
  have e13 := h1.2.2.2.2.2.2.1
  by_cases h13 : M.2.2 13 = 0
  · have c2 := c_Mo_once C M 0 (fun _ => 0) (fun _ => 0) (fun z => absurd h13 z)
    unfold mf_once mg_once at c2
    rw [if_pos h13, if_pos h13, bI_t rfl] at c2
    rw [bI_t (Or.inl (e13.trans h13))] at c1
    exact ⟨_, C, M, c1, c2, h0⟩
  · obtain ⟨ns, sp, q, w, i7⟩ := h6.2.2 h13
    have c2 := c_Mo_once C M ns q w (fun _ => i7.1)
    unfold mf_once mg_once at c2
    rw [if_neg h13, if_neg h13] at c2
    have hiff : (C.2.2 16 = 0 ∨ nm_f C = true) ↔ oc_k M ns q w 4 = true := by
      rw [oc_k_iff, nm_f_all]
      have hnm : ∀ k y, k < 4 → y < 10 → (nm_c C k y ↔ oc_c M ns q w k y) := fun k y hk hy => by
        unfold nm_c oc_c
        have hq := qb i7.1 hk
        have hb := ct_b i7.1 hk hy (-1)
        have hf := fd_b i7.1 k y hy ns (Nat.le_refl ns)
        have hns := i7.1.2.1
        have hm : 0 ≤ fd_T M k y ns * q k ∧ fd_T M k y ns * q k ≤ 61000000000 * 100000 := ⟨Int.mul_nonneg hf.1 (by omega), Int.mul_le_mul (by omega) hq.2 (by omega) (by omega)⟩
        rw [ab_eq h3 i7 hk hy, i7.2.2.2.1.2.1 k y hk hy, i7.2.2.1.1 k hk, zL_mul]
        exact zL_le ⟨by omega, by omega⟩ ⟨by omega, by omega⟩
      constructor
      · rintro (h | h)
        · exact absurd (e13.symm.trans h) h13
        · exact fun k hk y hy => (hnm k y hk hy).mp (h k hk y hy)
      · exact fun h => Or.inr (fun k hk y hy => (hnm k y hk hy).mpr (h k hk y hy))
    rw [bI_iff hiff] at c1
    exact ⟨_, C, _, c1, c2, Inv_Q h0 _⟩
theorem s_left {C M : cs_S} (h : Inv C M) (x y z : Int32) : StL y_RC_left y_Mo_left 3 5 [.int x, .int y, .int z] C M := by
  have h0 := h
  obtain ⟨np, nf, h1, h2, h3, h4, h5, h6⟩ := h
  have c1 := c_RC_left C (ms_w M) x y z (h16_of h1 h4)
  have e13 := h1.2.2.2.2.2.2.1
  have ok : ok_stock C x y z ↔ ok_l M x y z := by unfold ok_stock ok_l; rw [e13]
  by_cases hk : ok_l M x y z
  · obtain ⟨ns, sp, q, w, i7⟩ := h6.2.2 hk.1
    have c2 := c_Mo_left C M ns q w (fun _ => i7.1) x y z
    obtain ⟨c, hc, rfl⟩ := in_ex hk.2.1 (by omega)
    obtain ⟨k, hk4, rfl⟩ := in_ex hk.2.2.1 (by omega)
    obtain ⟨j, hj, rfl⟩ := in_ex hk.2.2.2 (by omega)
    have cc : cN (nI c) = c := cN_nI (by omega)
    have ck : cN (nI k) = k := cN_nI (by omega)
    have cj : cN (nI j) = j := cN_nI (by omega)
    unfold cf_left at c1
    unfold mf_left mg_left at c2
    rw [if_pos (ok.mpr hk), cc, ck, cj, i7.2.2.2.1.2.2.2 c k j hc hk4 hj] at c1
    rw [if_pos hk, if_pos hk, cc, ck, cj] at c2
    exact ⟨_, C, _, c1, c2, Inv_Q h0 _⟩
  · unfold cf_left at c1
    rw [if_neg (fun z => hk (ok.mp z))] at c1
    by_cases h13 : M.2.2 13 = 0
    · have c2 := c_Mo_left C M 0 (fun _ => 0) (fun _ => 0) (fun z => absurd h13 z) x y z
      unfold mf_left mg_left at c2
      rw [if_neg hk, if_neg hk] at c2
      exact ⟨_, C, M, c1, c2, h0⟩
    · obtain ⟨ns, sp, q, w, i7⟩ := h6.2.2 h13
      have c2 := c_Mo_left C M ns q w (fun _ => i7.1) x y z
      unfold mf_left mg_left at c2
      rw [if_neg hk, if_neg hk] at c2
      exact ⟨_, C, M, c1, c2, h0⟩
theorem fe_w {S : cs_S} {w : Nat → Int} {p k y : Nat} (hp : p < 2 ^ 31) : ∀ n, sm_T S w k y (-1) (nI p) n = fe_T S p k y n * w (4 * p + k)
  | 0 => by show (0 : Int) = 0 * _; rw [Int.zero_mul]
  | n + 1 => by
    show sm_T S w k y (-1) (nI p) n + (if sm_c S k y (-1) (nI p) n then (S.2.1 45 n).toInt * w (4 * cN (S.1 41 n) + k) else 0) = (fe_T S p k y n + (if S.1 41 n = nI p ∧ S.1 42 n = nI k ∧ S.1 43 n = nI y then (S.2.1 45 n).toInt else 0)) * w (4 * p + k)
    rw [fe_w hp n, Int.add_mul]
    congr 1
    by_cases h : S.1 41 n = nI p ∧ S.1 42 n = nI k ∧ S.1 43 n = nI y
    · rw [if_pos h, if_pos (sm_m1.mpr ⟨h.2.1, h.2.2, Or.inr h.1⟩), h.1, cN_nI hp]
    · rw [if_neg h, if_neg, Int.zero_mul]
      intro h2
      have h2 := sm_m1.mp h2
      exact h ⟨h2.2.2.resolve_left (nI_pos hp), h2.1, h2.2.1⟩
theorem fe_b9 {S : cs_S} {ns : Nat} {q w : Nat → Int} (h : mO S ns q w) (p k y : Nat) : ∀ n, n ≤ ns → 0 ≤ fe_T S p k y n ∧ fe_T S p k y n ≤ n * 1000000000
  | 0, _ => ⟨Int.le_refl 0, by show (0 : Int) ≤ _; omega⟩
  | n + 1, hn => by
    have ih := fe_b9 h p k y n (by omega)
    obtain ⟨p', k', _, _, _, _, g, b5, b6, b7, _⟩ := h.2.2.1 n (by omega)
    show 0 ≤ fe_T S p k y n + (if S.1 41 n = nI p ∧ S.1 42 n = nI k ∧ S.1 43 n = nI y then (S.2.1 45 n).toInt else 0) ∧ fe_T S p k y n + (if S.1 41 n = nI p ∧ S.1 42 n = nI k ∧ S.1 43 n = nI y then (S.2.1 45 n).toInt else 0) ≤ _
    rw [b7, zL_T ⟨by omega, by omega⟩]
    split <;> omega
theorem s_open {C M : cs_S} (h : Inv C M) (x y k p : Int32) : StL y_RC_open y_Mo_open 3 3 [.int x, .int y, .int k, .int p] C M := by
  have h0 := h
  obtain ⟨np, nf, h1, h2, h3, h4, h5, h6⟩ := h
  have e2 := h2.1
  have hn5 := h2.2.1
  have e1 : C.2.2 1 = nI np := h1.2.2.2.2.1.trans e2
  have c1 := c_RC_open C (ms_w M) x y k p (h16_of h1 h4) np e1 hn5
  have e13 := h1.2.2.2.2.2.2.1
  have ok : ((C.2.2 16 ≠ 0 ∧ iR x 10 ∧ iR y 10 ∧ (p = 0 ∨ p = nI 1)) ∧ ¬ k < 0 ∧ cN k / 4 < np) ↔ ok_o M np x y k p := by
    unfold ok_o
    rw [e13, prt_iff]
    have hkk : ¬ k < 0 → (cN k / 4 < np ↔ k < nI (4 * np)) := fun hk => by
      obtain ⟨j, hj, rfl⟩ := nI_of hk
      rw [cN_nI hj, nI_ltI hj (by omega)]
      omega
    exact ⟨fun h => ⟨h.1.1, h.1.2.1, h.1.2.2.1, ⟨h.2.1, (hkk h.2.1).mp h.2.2⟩, h.1.2.2.2⟩, fun h => ⟨⟨h.1, h.2.1, h.2.2.1, h.2.2.2.2⟩, h.2.2.2.1.1, (hkk h.2.2.2.1.1).mpr h.2.2.2.1.2⟩⟩
  by_cases hk : ok_o M np x y k p
  · obtain ⟨ns, sp, q, w, i7⟩ := h6.2.2 hk.1
    have c2 := c_Mo_open C M np e2 hn5 ns q w (fun _ => i7.1) x y k p
    unfold cf_open at c1
    unfold mf_open mg_open at c2
    rw [if_pos (ok.mpr hk)] at c1
    rw [if_pos hk, if_pos hk] at c2
    obtain ⟨ya, ha, rfl⟩ := in_ex hk.2.1 (by omega)
    obtain ⟨yb, hb, rfl⟩ := in_ex hk.2.2.1 (by omega)
    obtain ⟨j, hj, rfl⟩ := nI_of hk.2.2.2.1.1
    have hj20 : j < 4 * np := (nI_ltI hj (by omega)).mp hk.2.2.2.1.2
    have ca : cN (nI ya) = ya := cN_nI (by omega)
    have cb : cN (nI yb) = yb := cN_nI (by omega)
    have cj : cN (nI j) = j := cN_nI (by omega)
    have hq := qb i7.1 (show j % 4 < 4 by omega)
    have hw := i7.1.2.2.2.2.1 (j / 4) (j % 4) (by omega) (by omega)
    have fa := fe_b9 i7.1 (j / 4) (j % 4) ya ns (Nat.le_refl ns)
    have fb := fe_b9 i7.1 (j / 4) (j % 4) yb ns (Nat.le_refl ns)
    have hns := i7.1.2.1
    have hA : (-sm_T M w (j % 4) ya (-1) (nI (j / 4)) ns + sm_T M w (j % 4) yb (-1) (nI (j / 4)) ns) = (fe_T M (j / 4) (j % 4) yb ns - fe_T M (j / 4) (j % 4) ya ns) * w (4 * (j / 4) + j % 4) := by
      rw [fe_w (by omega), fe_w (by omega), Int.sub_mul]; omega
    have hd : df_x C ya yb j = zL (-sm_T M w (j % 4) ya (-1) (nI (j / 4)) ns + sm_T M w (j % 4) yb (-1) (nI (j / 4)) ns) := by
      unfold df_x
      rw [i7.2.2.2.1.1 (j / 4) (j % 4) yb (by omega) (by omega) hb, i7.2.2.2.1.1 (j / 4) (j % 4) ya (by omega) (by omega) ha, i7.2.2.1.2 (j / 4) (j % 4) (by omega) (by omega), zL_sub, zL_mul, hA]
    have hr : zR (-sm_T M w (j % 4) ya (-1) (nI (j / 4)) ns + sm_T M w (j % 4) yb (-1) (nI (j / 4)) ns) := by
      rw [hA]
      have hm : ((fe_T M (j / 4) (j % 4) yb ns - fe_T M (j / 4) (j % 4) ya ns) * w (4 * (j / 4) + j % 4)).natAbs ≤ 60000000000 * 100000 := zb (by omega) (by omega)
      exact ⟨by omega, by omega⟩
    rw [ca, cb, cj, hd, i7.2.2.1.1 (j % 4) (by omega), pt_ok hr hq.1 (by omega)] at c1
    rw [ca, cb, cj] at c2
    exact ⟨_, C, _, c1, c2, Inv_Q h0 _⟩
  · unfold cf_open at c1
    rw [if_neg (fun z => hk (ok.mp z))] at c1
    by_cases h13 : M.2.2 13 = 0
    · have c2 := c_Mo_open C M np e2 hn5 0 (fun _ => 0) (fun _ => 0) (fun z => absurd h13 z) x y k p
      unfold mf_open mg_open at c2
      rw [if_neg hk, if_neg hk] at c2
      exact ⟨_, C, M, c1, c2, h0⟩
    · obtain ⟨ns, sp, q, w, i7⟩ := h6.2.2 h13
      have c2 := c_Mo_open C M np e2 hn5 ns q w (fun _ => i7.1) x y k p
      unfold mf_open mg_open at c2
      rw [if_neg hk, if_neg hk] at c2
      exact ⟨_, C, M, c1, c2, h0⟩
/-! claim -/
abbrev ClR (M : cs_S) (ns : Nat) (q w : Nat → Int) (st tk : Nat → Int64) : Prop := ∀ c k y, c < 4 → k < 4 → y < 10 → st (c * 4 * 10 + (k * 10 + y)) = zL (ct_T M ns q w k y (nI c) / q k) - tk (40 * c + 10 * k + y)
theorem cl_ts {M : cs_S} {ns : Nat} {q w : Nat → Int} {st tk : Nat → Int64} (h : ClR M ns q w st tk) {c k : Nat} (hc : c < 4) (hk : k < 4) : ∀ n i a, i + n ≤ 10 → ts_f st c k n i a = mt_s (st_y M ns q w c k tk) n i a
  | 0, _, _, _ => rfl
  | n + 1, i, a, hi => by
    show ts_f st c k n (i + 1) (a + st (c * 4 * 10 + (k * 10 + i))) = mt_s (st_y M ns q w c k tk) n (i + 1) (a + st_y M ns q w c k tk i)
    rw [cl_ts h hc hk n (i + 1) _ (by omega), h c k i hc hk (by omega)]
theorem i64_sa (a b c : Int64) : a - b - c = a - (b + c) := by
  rw [← zL_of a, ← zL_of b, ← zL_of c, zL_sub, zL_sub, zL_add, zL_sub]; congr 1; omega
theorem cl_tk {M : cs_S} {ns : Nat} {q w : Nat → Int} {c k : Nat} (hc : c < 4) (hk : k < 4) : ∀ n i (due : Int64) (st tk : Nat → Int64), i + n ≤ 10 → ClR M ns q w st tk → ClR M ns q w (tk_f c k n i due st) (mk_f M ns q w c k n i due tk)
  | 0, _, _, _, _, _, h => h
  | n + 1, i, due, st, tk, hi, h => by
    have e : tk_p st c k i due = mk_p M ns q w c k i due tk := by
      unfold tk_p mk_p; rw [h c k i hc hk (by omega)]
    show ClR M ns q w (tk_f c k n (i + 1) (due - tk_p st c k i due) (vp_updL st (c * 4 * 10 + (k * 10 + i)) (st (c * 4 * 10 + (k * 10 + i)) - tk_p st c k i due))) (mk_f M ns q w c k n (i + 1) (due - mk_p M ns q w c k i due tk) (vp_updL tk (40 * c + 10 * k + i) (tk (40 * c + 10 * k + i) + mk_p M ns q w c k i due tk)))
    rw [e]
    refine cl_tk hc hk n (i + 1) _ _ _ (by omega) (fun c' k' y' hc' hk' hy' => ?_)
    by_cases e2 : c' * 4 * 10 + (k' * 10 + y') = c * 4 * 10 + (k * 10 + i)
    · have e3 : c' = c ∧ k' = k ∧ y' = i := by omega
      obtain ⟨rfl, rfl, rfl⟩ := e3
      rw [pk_uLs, pk_uLs, h c' k' y' hc hk hy', i64_sa]
    · rw [pk_uLn e2, pk_uLn (by omega)]
      exact h c' k' y' hc' hk' hy'
theorem In7_cl {C M : cs_S} {np nf ns sp : Nat} {q w : Nat → Int} (h : In7 C M np nf ns sp q w) {st tk : Nat → Int64} (hcl : ClR M ns q w st tk) (v : Int × Int) : In7 (cs_J C 29 st) (mQ (cs_J M 52 tk) v) np nf ns sp q w := by
  obtain ⟨a1, b1, c1, ⟨d1, d2, d3, d4⟩, e1⟩ := h
  have hs : SmE M (mQ (cs_J M 52 tk) v) ns := fun f _ => ⟨rfl, rfl, rfl, rfl, rfl⟩
  have h51 : (mQ (cs_J M 52 tk) v).2.1 51 = M.2.1 51 := rfl
  refine ⟨mO_ext a1 ⟨rfl, rfl, rfl, rfl, rfl, rfl⟩ hs, b1, c1, ⟨fun p k y hp hk hy => ?_, fun k y hk hy => ?_, fun c k y hc hk hy => ?_, fun c k y hc hk hy => ?_⟩, e1⟩
  · rw [fe_T_ext p k y ns hs]; exact d1 p k y hp hk hy
  · rw [fd_T_ext k y h51 ns hs]; exact d2 k y hk hy
  · rw [ct_T_ext hs h51]; exact d3 c k y hc hk hy
  · unfold st_x
    rw [ct_T_ext hs h51]
    exact hcl c k y hc hk hy
theorem s_claim {C M : cs_S} (h : Inv C M) (x y z : Int32) (g : Int64) : StL y_RC_claim y_Mo_claim 5 5 [.int x, .int y, .int z, .long g] C M := by
  have h0 := h
  obtain ⟨np, nf, h1, h2, h3, h4, h5, h6⟩ := h
  have c1 := c_RC_claim C (ms_w M) x y z g (h16_of h1 h4)
  have e13 := h1.2.2.2.2.2.2.1
  have ok : (ok_stock C x y z ∧ iW g (lN 1) (lN 1000000000000)) ↔ (ok_l M x y z ∧ iW g (lN 1) (lN 1000000000000)) := by unfold ok_stock ok_l; rw [e13]
  by_cases hk : ok_l M x y z ∧ iW g (lN 1) (lN 1000000000000)
  · obtain ⟨ns, sp, q, w, i7⟩ := h6.2.2 hk.1.1
    obtain ⟨c, hc, rfl⟩ := in_ex hk.1.2.1 (by omega)
    obtain ⟨k, hk4, rfl⟩ := in_ex hk.1.2.2.1 (by omega)
    obtain ⟨j, hj, rfl⟩ := in_ex hk.1.2.2.2 (by omega)
    have cc : cN (nI c) = c := cN_nI (by omega)
    have ck : cN (nI k) = k := cN_nI (by omega)
    have cj : cN (nI j) = j := cN_nI (by omega)
    have hcl : ClR M ns q w (C.2.1 29) (M.2.1 52) := i7.2.2.2.1.2.2.2
    have es : ts_x C (nI c) (nI k) (nI j) = mk_a M ns q w c k j := by
      unfold ts_x mk_a; rw [cc, ck, cj]; exact cl_ts hcl hc hk4 _ _ _ (by omega)
    unfold cf_claim cg_claim at c1
    rw [if_pos (ok.mpr hk), if_pos (ok.mpr hk), es, cc, ck, cj] at c1
    by_cases hl : mk_a M ns q w c k j < g
    · rw [if_pos hl, if_pos hl] at c1
      have c2 := c_Mo_claim C M ns q w (fun _ => i7.1) (nI c) (nI k) (nI j) g
      unfold mf_claim mg_claim at c2
      rw [if_pos hk, if_pos hk, cc, ck, cj, if_pos hl, if_pos hl] at c2
      exact ⟨_, C, _, c1, c2, Inv_Q h0 _⟩
    · rw [if_neg hl, if_neg hl] at c1
      have c2 := c_Mo_claim (cs_J C 29 (tk_f c k (j + 1 - (j - 2)) (j - 2) g (C.2.1 29))) M ns q w (fun _ => i7.1) (nI c) (nI k) (nI j) g
      unfold mf_claim mg_claim at c2
      rw [if_pos hk, if_pos hk, cc, ck, cj, if_neg hl, if_neg hl] at c2
      have hcl2 := cl_tk hc hk4 (j + 1 - (j - 2)) (j - 2) g (C.2.1 29) (M.2.1 52) (by omega) hcl
      refine ⟨_, _, _, c1, c2, np, nf, h1, h2, h3, h4, h5, h6.1, fun h => absurd h hk.1.1, fun _ => ⟨ns, sp, q, w, In7_cl i7 hcl2 _⟩⟩
  · unfold cf_claim cg_claim at c1
    rw [if_neg (fun z => hk (ok.mp z)), if_neg (fun z => hk (ok.mp z))] at c1
    by_cases h13 : M.2.2 13 = 0
    · have c2 := c_Mo_claim C M 0 (fun _ => 0) (fun _ => 0) (fun z => absurd h13 z) x y z g
      unfold mf_claim mg_claim at c2
      rw [if_neg hk, if_neg hk] at c2
      exact ⟨_, C, M, c1, c2, h0⟩
    · obtain ⟨ns, sp, q, w, i7⟩ := h6.2.2 h13
      have c2 := c_Mo_claim C M ns q w (fun _ => i7.1) x y z g
      unfold mf_claim mg_claim at c2
      rw [if_neg hk, if_neg hk] at c2
      exact ⟨_, C, M, c1, c2, h0⟩
/-! form -/
theorem mk_dg {u m : Nat} (hu : u ≤ 255) (hm : m < 100) : (0 ≤ nI u - nI 48 ∧ nI u - nI 48 < nI (m + 1)) ↔ (¬ nI u < nI 48 ∧ nI u ≤ nI (48 + m)) := by
  by_cases h : u < 48
  · have h1 := pk_sneg (a := u) (b := 48) (by omega) h
    have h2 : nI u < nI 48 := nI_lt h (by omega)
    exact ⟨fun z => absurd z.1 (Int32.not_le.mpr h1), fun z => absurd h2 z.1⟩
  · rw [pk_sub (by omega), nI_ltI (by omega) (by omega), nI_ltI (by omega) (by omega), nI_leI (by omega) (by omega)]
    exact ⟨fun z => ⟨h, by omega⟩, fun z => ⟨nI_pos' (by omega), by omega⟩⟩
theorem mk_iff {C M : cs_S} {n a : Nat} (h35 : C.1 35 = M.1 54) (hu : ∀ j, j < 200 → ∃ u : Nat, u ≤ 255 ∧ M.1 54 j = nI u) (hn : n ≤ 200) : mk_c C n a ↔ mu_c M n a := by
  unfold mk_c mu_c
  rw [h35]
  by_cases h : a + 2 < n
  · obtain ⟨u1, b1, e1⟩ := hu (a + 1) (by omega)
    obtain ⟨u2, b2, e2⟩ := hu (a + 2) (by omega)
    rw [e1, e2]
    have d1 := mk_dg (m := 3) b1 (by omega)
    have d2 := mk_dg (m := 9) b2 (by omega)
    exact ⟨fun z => ⟨z.1, z.2.1, (d1.mp z.2.2.1).1, (d1.mp z.2.2.1).2, (d2.mp z.2.2.2).1, (d2.mp z.2.2.2).2⟩, fun z => ⟨z.1, z.2.1, d1.mpr ⟨z.2.2.1, z.2.2.2.1⟩, d2.mpr ⟨z.2.2.2.2.1, z.2.2.2.2.2⟩⟩⟩
  · exact ⟨fun z => absurd z.1 h, fun z => absurd z.1 h⟩
theorem wd_lg : ∀ n m w, m < 10 ^ (n + 1) → m < 2 ^ 63 → wd_f n (lN m) w = lg_f (n + 1) (m / 10) w
  | 0, m, w, h, h2 => by
    show w = if m / 10 = 0 then w else _
    rw [if_pos (by omega)]
  | n + 1, m, w, h, h2 => by
    show (if lN m < lN 10 then w else wd_f n (lN m / lN 10) (w + 1)) = if m / 10 = 0 then w else lg_f (n + 1) (m / 10 / 10) (w + 1)
    by_cases h10 : m < 10
    · rw [if_pos ((pk_lLT h2 (by omega)).mpr h10), if_pos (by omega)]
    · rw [if_neg (fun z => h10 ((pk_lLT h2 (by omega)).mp z)), if_neg (by omega), pk_lDiv h2 (by omega) (by omega)]
      have hp : 10 ^ (n + 1 + 1) = 10 * 10 ^ (n + 1) := by rw [Nat.pow_succ]; omega
      exact wd_lg n (m / 10) (w + 1) (by omega) (by omega)
theorem fa_eq {C M : cs_S} {ns : Nat} {q w : Nat → Int} {n : Nat} (h35 : C.1 35 = M.1 54) (hu : ∀ j, j < 200 → ∃ u : Nat, u ≤ 255 ∧ M.1 54 j = nI u) (hn : n ≤ 200) (hw : ∀ a, mu_c M n a → wd_x C a = fm_w M ns q w a) (hb : ∀ a m, mu_c M n a → m < fm_w M ns q w a → nb_x C a (wd_x C a - 1 - m) = fm_b M ns q w a m) : ∀ f a m, fa_f C n f a m = fm_f M ns q w n f a m
  | 0, _, _ => rfl
  | f + 1, a, m => by
    show (if n ≤ a then -1 else if mk_c C n a then (if m < wd_x C a then nb_x C a (wd_x C a - 1 - m) else fa_f C n f (a + 3) (m - wd_x C a)) else (if m < 1 then C.1 35 a else fa_f C n f (a + 1) (m - 1))) = (if n ≤ a then -1 else if mu_c M n a then (if m < fm_w M ns q w a then fm_b M ns q w a m else fm_f M ns q w n f (a + 3) (m - fm_w M ns q w a)) else (if m < 1 then M.1 54 a else fm_f M ns q w n f (a + 1) (m - 1)))
    rw [fa_eq h35 hu hn hw hb f, fa_eq h35 hu hn hw hb f]
    by_cases h1 : n ≤ a
    · rw [if_pos h1, if_pos h1]
    · rw [if_neg h1, if_neg h1]
      by_cases h2 : mu_c M n a
      · rw [if_pos ((mk_iff h35 hu hn).mpr h2), if_pos h2, hw a h2]
        by_cases h3 : m < fm_w M ns q w a
        · rw [if_pos h3, if_pos h3, ← hb a m h2 h3, hw a h2]
        · rw [if_neg h3, if_neg h3]
      · rw [if_neg (fun z => h2 ((mk_iff h35 hu hn).mp z)), if_neg h2, h35]
theorem s_form {C M : cs_S} (h : Inv C M) (x : Int32) : StI y_RC_form y_Mo_form 8 4 [.int x] C M := by
  have h0 := h
  obtain ⟨np, nf, h1, h2, h3, h4, h5, h6⟩ := h
  obtain ⟨n, hn, en⟩ := h4.2.2.2.1
  have hu := h4.2.2.2.2.1
  have h35 := h1.2.2.2.1.2
  have e13 := h1.2.2.2.2.2.2.1
  have c1 := c_RC_form C (ms_w M) x n (h1.2.2.2.2.2.2.2.2.trans en) hn (h16_of h1 h4)
  by_cases h13 : M.2.2 13 = 0
  · obtain ⟨v', c2⟩ := c_Mo_form C M 0 (fun _ => 0) (fun _ => 0) (fun z => absurd h13 z) n en hn x
    rw [fa_eq (M := M) (ns := 0) (q := fun _ => 0) (w := fun _ => 0) h35 hu hn (fun a _ => by unfold wd_x fm_w; rw [if_pos (e13.trans h13), if_pos h13]) (fun a m _ _ => by unfold nb_x fm_b; rw [if_pos (e13.trans h13), if_pos h13])] at c1
    exact ⟨_, C, _, c1, c2, Inv_Q h0 _⟩
  · obtain ⟨ns, sp, q, w, i7⟩ := h6.2.2 h13
    obtain ⟨v', c2⟩ := c_Mo_form C M ns q w (fun _ => i7.1) n en hn x
    have h16 : ¬ C.2.2 16 = 0 := fun z => h13 (e13.symm.trans z)
    have hx : ∀ a, mu_c M n a → nm_x C a = lN (fm_n M ns q w a) ∧ fm_n M ns q w a < 10 ^ 18 := fun a ha => by
      have k4 := (mu_in (m := 3) (by omega) ha.2.2.1 ha.2.2.2.1).1
      have y10 := (mu_in (m := 9) (by omega) ha.2.2.2.2.1 ha.2.2.2.2.2).1
      obtain ⟨k, hk, ek⟩ := in_ex k4 (by omega)
      obtain ⟨y, hy, ey⟩ := in_ex y10 (by omega)
      have fk : fm_k M a = k := by unfold fm_k; rw [ek, cN_nI (by omega)]
      have fy : fm_y M a = y := by unfold fm_y; rw [ey, cN_nI (by omega)]
      have tk : tx_k C a = k := by unfold tx_k; rw [h35]; exact fk
      have ty : tx_y C a = y := by unfold tx_y; rw [h35]; exact fy
      have hq := qb i7.1 hk
      have hb := ct_b i7.1 hk hy (-1)
      have hd0 : 0 ≤ ct_T M ns q w k y (-1) / q k := Int.ediv_nonneg hb.1 (by omega)
      have hd1 : ct_T M ns q w k y (-1) / q k ≤ ct_T M ns q w k y (-1) := Int.ediv_le_self _ hb.1
      unfold nm_x fm_n
      rw [fk, fy, tk, ty, ab_eq h3 i7 hk hy, i7.2.2.1.1 k hk]
      unfold dn_f
      rw [if_neg (fun z => by have := (zL_le (b := 0) ⟨by omega, by omega⟩ zR_0).mp z; omega), zL_div ⟨by omega, by omega⟩ ⟨by omega, by omega⟩, Int.tdiv_eq_ediv_of_nonneg hb.1, ← zL_n, Int.toNat_of_nonneg hd0]
      exact ⟨rfl, by omega⟩
    have hw : ∀ a, mu_c M n a → wd_x C a = fm_w M ns q w a := fun a ha => by
      unfold wd_x fm_w
      rw [if_neg h16, if_neg h13, (hx a ha).1]
      exact wd_lg 18 _ 1 (by have := (hx a ha).2; omega) (by have := (hx a ha).2; omega)
    rw [fa_eq (M := M) (ns := ns) (q := q) (w := w) h35 hu hn hw (fun a m ha hm => by
      rw [hw a ha]
      unfold nb_x fm_b fm_w
      rw [if_neg h16, if_neg h13, if_neg h13, (hx a ha).1])] at c1
    exact ⟨_, C, _, c1, c2, Inv_Q h0 _⟩
