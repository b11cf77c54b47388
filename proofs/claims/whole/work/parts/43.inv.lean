/-! class against reference: what stays true between two calls -/
theorem tn_ok {a b : Int64} (h : iF a b) : ∃ m : Nat, m ≤ 10 ∧ tn_f a b = nI m ∧ mt_n a b = nI m := by
  obtain ⟨h1, h2, h3⟩ := h
  obtain ⟨i, hi, rfl⟩ := pk_lOf (x := a) (Int64.not_lt.mpr h2)
  rcases h1 with rfl | rfl | rfl | rfl
  · have hb := (pk_lLE (by omega) (by omega)).mp h3
    rcases (show i = 0 ∨ i = 1 by omega) with rfl | rfl
    · exact ⟨0, by omega, by decide +kernel, by decide +kernel⟩
    · exact ⟨10, by omega, by decide +kernel, by decide +kernel⟩
  · have hb := (pk_lLE (by omega) (by omega)).mp h3
    rcases (show i = 0 ∨ i = 1 ∨ i = 2 by omega) with rfl | rfl | rfl
    · exact ⟨0, by omega, by decide +kernel, by decide +kernel⟩
    · exact ⟨5, by omega, by decide +kernel, by decide +kernel⟩
    · exact ⟨10, by omega, by decide +kernel, by decide +kernel⟩
  · have hb := (pk_lLE (by omega) (by omega)).mp h3
    rcases (show i = 0 ∨ i = 1 ∨ i = 2 ∨ i = 3 ∨ i = 4 ∨ i = 5 by omega) with rfl | rfl | rfl | rfl | rfl | rfl
    · exact ⟨0, by omega, by decide +kernel, by decide +kernel⟩
    · exact ⟨2, by omega, by decide +kernel, by decide +kernel⟩
    · exact ⟨4, by omega, by decide +kernel, by decide +kernel⟩
    · exact ⟨6, by omega, by decide +kernel, by decide +kernel⟩
    · exact ⟨8, by omega, by decide +kernel, by decide +kernel⟩
    · exact ⟨10, by omega, by decide +kernel, by decide +kernel⟩
  · have hb := (pk_lLE (by omega) (by omega)).mp h3
    rcases (show i = 0 ∨ i = 1 ∨ i = 2 ∨ i = 3 ∨ i = 4 ∨ i = 5 ∨ i = 6 ∨ i = 7 ∨ i = 8 ∨ i = 9 ∨ i = 10 by omega) with rfl | rfl | rfl | rfl | rfl | rfl | rfl | rfl | rfl | rfl | rfl
    · exact ⟨0, by omega, by decide +kernel, by decide +kernel⟩
    · exact ⟨1, by omega, by decide +kernel, by decide +kernel⟩
    · exact ⟨2, by omega, by decide +kernel, by decide +kernel⟩
    · exact ⟨3, by omega, by decide +kernel, by decide +kernel⟩
    · exact ⟨4, by omega, by decide +kernel, by decide +kernel⟩
    · exact ⟨5, by omega, by decide +kernel, by decide +kernel⟩
    · exact ⟨6, by omega, by decide +kernel, by decide +kernel⟩
    · exact ⟨7, by omega, by decide +kernel, by decide +kernel⟩
    · exact ⟨8, by omega, by decide +kernel, by decide +kernel⟩
    · exact ⟨9, by omega, by decide +kernel, by decide +kernel⟩
    · exact ⟨10, by omega, by decide +kernel, by decide +kernel⟩
theorem tn_iff (a b : Int64) : tn_f a b ≠ -1 ↔ iF a b := by
  constructor
  · intro h
    refine Decidable.byContradiction (fun hc => h ?_)
    unfold tn_f; rw [if_neg hc]
  · intro h e
    obtain ⟨m, hm, e1, _⟩ := tn_ok h
    rw [e1] at e
    exact nI_n1 (by omega) e
theorem eu_ok : ∀ (n x y : Nat), y < 2 ^ n → x < 2 ^ 63 → y < 2 ^ 63 → eu_f (2 * n) (lN x) (lN y) = lN (Nat.gcd x y)
  | 0, x, y, h, hx, hy => by
    obtain rfl : y = 0 := by omega
    rw [Nat.gcd_zero_right]; rfl
  | n + 1, x, y, h, hx, hy => by
    show (if lN y = lN 0 then lN x else eu_f (2 * n + 1) (lN y) (lN x - lN x / lN y * lN y)) = _
    by_cases h0 : y = 0
    · subst h0; rw [if_pos rfl, Nat.gcd_zero_right]
    · rw [if_neg (fun e => h0 ((pk_lEQ hy (by omega)).mp e)), pk_lRem hx (by omega) hy]
      have hr := Nat.mod_lt x (show 0 < y by omega)
      show (if lN (x % y) = lN 0 then lN y else eu_f (2 * n) (lN (x % y)) (lN y - lN y / lN (x % y) * lN (x % y))) = _
      by_cases h1 : x % y = 0
      · rw [h1, if_pos rfl, Nat.gcd_comm, Nat.gcd_rec, h1, Nat.gcd_zero_left]
      · rw [if_neg (fun e => h1 ((pk_lEQ (by omega) (by omega)).mp e)), pk_lRem hy (by omega) (by omega)]
        have hm := Nat.mod_lt y (show 0 < x % y by omega)
        have hd := Nat.div_add_mod y (x % y)
        have hq : 1 ≤ y / (x % y) := (Nat.one_le_div_iff (by omega)).mpr (by omega)
        have hq2 : x % y * 1 ≤ x % y * (y / (x % y)) := Nat.mul_le_mul_left _ hq
        have hp : 2 ^ (n + 1) = 2 * 2 ^ n := by rw [Nat.pow_succ]; omega
        rw [eu_ok n (x % y) (y % (x % y)) (by omega) (by omega) (by omega)]
        rw [Nat.gcd_comm x y, Nat.gcd_rec y x, Nat.gcd_comm (x % y) (y % (x % y)), ← Nat.gcd_rec (x % y) y]
theorem pt_ok {A D : Int} (hA : zR A) (hD : 0 < D) (hD2 : D < 2 ^ 63) (k : Int32) : pt_f (zL A) (zL D) k = if k = 0 then zL (rd A D).1 else zL (rd A D).2 := by
  have hab : (if lN 0 ≤ zL A then zL A else -zL A) = lN A.natAbs := by
    by_cases h : 0 ≤ A
    · rw [if_pos (show lN 0 ≤ zL A from (zL_le (a := 0) zR_0 hA).mpr h), zL_nabs h]
    · rw [if_neg (show ¬ lN 0 ≤ zL A from fun e => h ((zL_le (a := 0) zR_0 hA).mp e)), zL_nneg (by omega)]
  have hg : eu_f 128 (if lN 0 ≤ zL A then zL A else -zL A) (zL D) = lN (Int.gcd A D) := by
    rw [hab, zL_nabs (Int.le_of_lt hD)]
    have h1 := hA.1
    have h2 := hA.2
    exact eu_ok 64 A.natAbs D.natAbs (by omega) (by omega) (by omega)
  unfold pt_f
  rw [hg, if_neg (show ¬ lN (Int.gcd A D) = lN 0 from rd_ne hD hD2), rd_t1 hA hD hD2, rd_t2 hD hD2]
def fe_T (S : cs_S) (p k y : Nat) : Nat → Int
  | 0 => 0
  | f + 1 => fe_T S p k y f + (if S.1 41 f = nI p ∧ S.1 42 f = nI k ∧ S.1 43 f = nI y then (S.2.1 45 f).toInt else 0)
def In1 (C M : cs_S) : Prop :=
  (C.1 2 = M.1 37 ∧ C.1 4 = M.1 38 ∧ C.1 5 = M.1 39 ∧ C.1 6 = M.1 40) ∧
  (C.1 9 = M.1 41 ∧ C.1 10 = M.1 42 ∧ C.1 11 = M.1 43 ∧ C.1 12 = M.1 44 ∧ C.2.1 13 = M.2.1 45) ∧
  (C.2.1 14 = M.2.1 46 ∧ C.2.1 15 = M.2.1 47) ∧ (C.1 33 = M.1 53 ∧ C.1 35 = M.1 54) ∧
  (C.2.2 1 = M.2.2 0 ∧ C.2.2 8 = M.2.2 5 ∧ C.2.2 16 = M.2.2 13 ∧ C.2.2 32 = M.2.2 21 ∧ C.2.2 34 = M.2.2 24)
def In2 (M : cs_S) (np : Nat) : Prop := M.2.2 0 = nI np ∧ np ≤ 5 ∧ (∀ p q, p < 5 → q < 5 → ∃ n : Nat, n ≤ 10 ∧ M.1 37 (5 * p + q) = nI n ∧ (0 < n → p < np ∧ q < np)) ∧ b01 (M.1 38) ∧ (∀ p k, np ≤ p → p < 5 → k < 4 → M.1 38 (4 * p + k) = 0) ∧ (∀ p, np ≤ p → p < 5 → M.1 39 p = 0) ∧ ∀ p, p < 5 → ∃ n : Nat, n ≤ 10 ∧ M.1 40 p = nI n
def In3 (M : cs_S) (np nf : Nat) : Prop := M.2.2 5 = nI nf ∧ nf ≤ 60 ∧ ∀ j, j < 60 → (∃ p : Nat, p < 5 ∧ M.1 41 j = nI p ∧ (j < nf → p < np)) ∧ (∃ k : Nat, k < 4 ∧ M.1 42 j = nI k) ∧ (∃ y : Nat, y < 10 ∧ M.1 43 j = nI y) ∧ (∃ c : Nat, c < 4 ∧ M.1 44 j = nI c) ∧ ∃ g : Int, 0 ≤ g ∧ g ≤ 1000000000 ∧ M.2.1 45 j = zL g
def In4 (M : cs_S) : Prop := (∀ y, y < 10 → ∃ m : Int, 0 ≤ m ∧ m ≤ 1000000000 ∧ M.2.1 46 y = zL m) ∧ (∀ j, j < 40 → ∃ g : Int, 0 ≤ g ∧ g ≤ 100000000000 ∧ M.2.1 47 j = zL g) ∧ (∃ c : Nat, c ≤ 60 ∧ M.2.2 21 = nI c) ∧ (∃ n : Nat, n ≤ 200 ∧ M.2.2 24 = nI n) ∧ (∀ j, j < 200 → ∃ u : Nat, u ≤ 255 ∧ M.1 54 j = nI u) ∧ (M.2.2 13 = 0 ∨ M.2.2 13 = 1) ∧ ∃ s : Nat, s ≤ 5 ∧ M.2.2 17 = nI s
def In5 (C M : cs_S) : Prop := ∀ p, p < 5 → ∃ n : Nat, n ≤ 10 ∧ C.1 3 p = nI n ∧ s5 (fun q => (M.1 37 (5 * p + q)).toInt) = n
def In7 (C M : cs_S) (np nf ns sp : Nat) (q w : Nat → Int) : Prop :=
  mO M ns q w ∧ (M.2.2 17 = nI sp ∧ sp ≤ np ∧ ns ≤ nf ∧ ∀ f, f < ns → ∃ p : Nat, p < sp ∧ M.1 41 f = nI p) ∧
  ((∀ k, k < 4 → C.2.1 24 k = zL (q k)) ∧ ∀ p k, p < 5 → k < 4 → C.2.1 25 (p * 4 + k) = zL (w (4 * p + k))) ∧
  ((∀ p k y, p < 5 → k < 4 → y < 10 → C.2.1 26 ((p * 4 + k) * 10 + y) = zL (fe_T M p k y ns)) ∧
   (∀ k y, k < 4 → y < 10 → C.2.1 27 (k * 10 + y) = zL (fd_T M k y ns)) ∧
   (∀ c k y, c < 4 → k < 4 → y < 10 → C.2.1 28 (c * 4 * 10 + (k * 10 + y)) = zL (ct_T M ns q w k y (nI c))) ∧
   ∀ c k y, c < 4 → k < 4 → y < 10 → C.2.1 29 (c * 4 * 10 + (k * 10 + y)) = st_x M ns q w c k y) ∧
  ∀ p, p < 5 → (C.1 31 p ≠ 0 ↔ p < sp ∧ mo_c M p 4 = true)
def In6 (C M : cs_S) (np nf : Nat) : Prop := b01 (C.1 31) ∧ (M.2.2 13 = 0 → ∀ p, p < 5 → C.1 31 p = 0) ∧ (M.2.2 13 ≠ 0 → ∃ (ns sp : Nat) (q w : Nat → Int), In7 C M np nf ns sp q w)
def Inv (C M : cs_S) : Prop := ∃ np nf : Nat, In1 C M ∧ In2 M np ∧ In3 M np nf ∧ In4 M ∧ In5 C M ∧ In6 C M np nf
/-! kept cells -/
abbrev SmE (S S' : cs_S) (n : Nat) : Prop := ∀ f, f < n → S'.1 41 f = S.1 41 f ∧ S'.1 42 f = S.1 42 f ∧ S'.1 43 f = S.1 43 f ∧ S'.1 44 f = S.1 44 f ∧ S'.2.1 45 f = S.2.1 45 f
theorem sm_T_ext {S S' : cs_S} (w : Nat → Int) (k y : Nat) (c p : Int32) : ∀ n, SmE S S' n → sm_T S' w k y c p n = sm_T S w k y c p n
  | 0, _ => rfl
  | n + 1, h => by
    have e := h n (by omega)
    show sm_T S' w k y c p n + (if sm_c S' k y c p n then (S'.2.1 45 n).toInt * w (4 * cN (S'.1 41 n) + k) else 0) = sm_T S w k y c p n + (if sm_c S k y c p n then (S.2.1 45 n).toInt * w (4 * cN (S.1 41 n) + k) else 0)
    rw [sm_T_ext w k y c p n (fun f hf => h f (by omega))]
    unfold sm_c
    rw [e.1, e.2.1, e.2.2.1, e.2.2.2.1, e.2.2.2.2]
theorem ct_T_ext {S S' : cs_S} {ns : Nat} (h : SmE S S' ns) (h51 : S'.2.1 51 = S.2.1 51) (q w : Nat → Int) (k y : Nat) (c : Int32) : ct_T S' ns q w k y c = ct_T S ns q w k y c := by
  unfold ct_T; rw [sm_T_ext w k y c (-1) ns h, h51]
theorem fd_T_ext {S S' : cs_S} (k y : Nat) (h51 : S'.2.1 51 = S.2.1 51) : ∀ n, SmE S S' n → fd_T S' k y n = fd_T S k y n
  | 0, _ => by show (if k = 3 then (S'.2.1 51 y).toInt else 0) = (if k = 3 then (S.2.1 51 y).toInt else 0); rw [h51]
  | n + 1, h => by
    have e := h n (by omega)
    show fd_T S' k y n + (if S'.1 42 n = nI k ∧ S'.1 43 n = nI y then (S'.2.1 45 n).toInt else 0) = fd_T S k y n + (if S.1 42 n = nI k ∧ S.1 43 n = nI y then (S.2.1 45 n).toInt else 0)
    rw [fd_T_ext k y h51 n (fun f hf => h f (by omega)), e.2.1, e.2.2.1, e.2.2.2.2]
theorem fe_T_ext {S S' : cs_S} (p k y : Nat) : ∀ n, SmE S S' n → fe_T S' p k y n = fe_T S p k y n
  | 0, _ => rfl
  | n + 1, h => by
    have e := h n (by omega)
    show fe_T S' p k y n + (if S'.1 41 n = nI p ∧ S'.1 42 n = nI k ∧ S'.1 43 n = nI y then (S'.2.1 45 n).toInt else 0) = fe_T S p k y n + (if S.1 41 n = nI p ∧ S.1 42 n = nI k ∧ S.1 43 n = nI y then (S.2.1 45 n).toInt else 0)
    rw [fe_T_ext p k y n (fun f hf => h f (by omega)), e.1, e.2.1, e.2.2.1, e.2.2.2.2]
def KpN (M M' : cs_S) : Prop := M'.2.2 17 = M.2.2 17 ∧ M'.2.2 18 = M.2.2 18 ∧ M'.1 50 = M.1 50 ∧ M'.2.1 48 = M.2.1 48 ∧ M'.2.1 49 = M.2.1 49 ∧ M'.2.1 51 = M.2.1 51
def KpM (M M' : cs_S) : Prop := M'.2.2 17 = M.2.2 17 ∧ M'.2.2 18 = M.2.2 18 ∧ M'.1 50 = M.1 50 ∧ M'.2.1 48 = M.2.1 48 ∧ M'.2.1 49 = M.2.1 49 ∧ M'.2.1 51 = M.2.1 51 ∧ M'.2.1 52 = M.2.1 52
def KpC (C C' : cs_S) : Prop := C'.2.1 24 = C.2.1 24 ∧ C'.2.1 25 = C.2.1 25 ∧ C'.2.1 26 = C.2.1 26 ∧ C'.2.1 27 = C.2.1 27 ∧ C'.2.1 28 = C.2.1 28 ∧ C'.2.1 29 = C.2.1 29 ∧ C'.1 31 = C.1 31
theorem mO_ext {M M' : cs_S} {ns : Nat} {q w : Nat → Int} (h : mO M ns q w) (hm : KpN M M') (hs : SmE M M' ns) : mO M' ns q w := by
  obtain ⟨a1, a2, a3, a4, a5, a6⟩ := h
  obtain ⟨_, m2, _, m4, m5, m6⟩ := hm
  refine ⟨by rw [m2]; exact a1, a2, fun f hf => ?_, a4, a5, fun y hy => by rw [m6]; exact a6 y hy⟩
  have e := hs f hf
  obtain ⟨p, k, b1, b2, b3, b4, g, b5, b6, b7, b8, b9⟩ := a3 f hf
  exact ⟨p, k, b1, b2, by rw [e.1]; exact b3, by rw [e.2.1]; exact b4, g, b5, b6, by rw [e.2.2.2.2]; exact b7, by rw [m4]; exact b8, by rw [m5]; exact b9⟩
theorem In7_ext {C C' M M' : cs_S} {np np' nf nf' ns sp : Nat} {q w : Nat → Int} (h : In7 C M np nf ns sp q w) (hc : KpC C C') (hm : KpM M M') (hs : SmE M M' ns) (hnp : np ≤ np') (hnf : nf ≤ nf') : In7 C' M' np' nf' ns sp q w := by
  obtain ⟨a1, ⟨b1, b2, b3, b4⟩, ⟨c1, c2⟩, ⟨d1, d2, d3, d4⟩, e1⟩ := h
  have hO := mO_ext a1 ⟨hm.1, hm.2.1, hm.2.2.1, hm.2.2.2.1, hm.2.2.2.2.1, hm.2.2.2.2.2.1⟩ hs
  obtain ⟨m1, m2, m3, m4, m5, m6, m7⟩ := hm
  obtain ⟨k1, k2, k3, k4, k5, k6, k7⟩ := hc
  refine ⟨hO, ⟨by rw [m1]; exact b1, by omega, by omega, fun f hf => by rw [(hs f hf).1]; exact b4 f hf⟩, ⟨fun k hk => by rw [k1]; exact c1 k hk, fun p k hp hk => by rw [k2]; exact c2 p k hp hk⟩, ⟨fun p k y hp hk hy => by rw [k3, fe_T_ext p k y ns hs]; exact d1 p k y hp hk hy, fun k y hk hy => by rw [k4, fd_T_ext k y m6 ns hs]; exact d2 k y hk hy, fun c k y hc hk hy => by rw [k5, ct_T_ext hs m6]; exact d3 c k y hc hk hy, fun c k y hc hk hy => ?_⟩, fun p hp => ?_⟩
  · rw [k6]
    unfold st_x
    rw [ct_T_ext hs m6, m7]
    exact d4 c k y hc hk hy
  · rw [k7]
    show _ ↔ p < sp ∧ ex_n (fun k => decide (M'.1 50 (4 * p + k) ≠ 0)) 4 = true
    rw [m3]; exact e1 p hp
theorem In6_ext {C C' M M' : cs_S} {np np' nf nf' : Nat} (h : In6 C M np nf) (hc : KpC C C') (hm : KpM M M') (h13 : M'.2.2 13 = M.2.2 13) (hs : SmE M M' nf) (hnp : np ≤ np') (hnf : nf ≤ nf') : In6 C' M' np' nf' := by
  obtain ⟨a1, a2, a3⟩ := h
  refine ⟨by rw [hc.2.2.2.2.2.2]; exact a1, fun h => by rw [hc.2.2.2.2.2.2]; exact a2 (by rw [← h13]; exact h), fun h => ?_⟩
  obtain ⟨ns, sp, q, w, i7⟩ := a3 (by rw [← h13]; exact h)
  exact ⟨ns, sp, q, w, In7_ext i7 hc hm (fun f hf => hs f (by have := i7.2.1.2.2.1; omega)) hnp hnf⟩
theorem KpC_r (C : cs_S) : KpC C C := ⟨rfl, rfl, rfl, rfl, rfl, rfl, rfl⟩
theorem KpM_r (M : cs_S) : KpM M M := ⟨rfl, rfl, rfl, rfl, rfl, rfl, rfl⟩
theorem Inv_Q {C M : cs_S} (h : Inv C M) (v : Int × Int) : Inv C (mQ M v) := by
  obtain ⟨np, nf, h1, h2, h3, h4, h5, h6⟩ := h
  exact ⟨np, nf, h1, h2, h3, h4, h5, In6_ext h6 (KpC_r C) ⟨rfl, rfl, rfl, rfl, rfl, rfl, rfl⟩ rfl (fun f _ => ⟨rfl, rfl, rfl, rfl, rfl⟩) (Nat.le_refl _) (Nat.le_refl _)⟩
