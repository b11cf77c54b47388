/-! the class's elimination is that of the whole numbers -/
def cA (S : cs_S) (k r q : Nat) : Int := if q = 5 then (if cs_g S k r then 0 else (cs_tc S k r).toInt) else (if q = r then 10 else 0) - (if cs_g S k r then (S.1 2 (r * 5 + q)).toInt else 0)
theorem fl_in_at (f : Nat → Int64) (S : cs_S) (k i q : Nat) : ∀ t, fl_in f S k i t q = if q < t then (if cs_g S k i then (-(S.1 2 (i * 5 + q))).toInt64 else lN 0) else f q
  | 0 => by rw [if_neg (by omega)]; rfl
  | t + 1 => by
    show vp_updL (fl_in f S k i t) t _ q = _
    by_cases h : q = t
    · subst h; rw [pk_uLs, if_pos (show q < q + 1 by omega)]
    · rw [pk_uLn h, fl_in_at f S k i q t]
      by_cases h2 : q < t
      · rw [if_pos h2, if_pos (show q < t + 1 by omega)]
      · rw [if_neg h2, if_neg (show ¬ q < t + 1 by omega)]
theorem fl_J_at (S : cs_S) (k j : Nat) : ∀ n, fl_J S k n j = if 19 ≤ j ∧ j < 19 + n then fl_r (S.2.1 j) S k (j - 19) else S.2.1 j
  | 0 => by rw [if_neg (by omega)]; rfl
  | n + 1 => by
    show va_up (fl_J S k n) (19 + n) _ j = _
    by_cases h : j = 19 + n
    · subst h
      rw [if_pos (by omega)]
      show (if 19 + n = 19 + n then _ else _) = _
      rw [if_pos rfl, fl_J_at S k (19 + n) n, if_neg (by omega), Nat.add_sub_cancel_left]
    · rw [va_up_ne _ _ h, fl_J_at S k j n]
      by_cases h2 : 19 ≤ j ∧ j < 19 + n
      · rw [if_pos h2, if_pos (by omega)]
      · rw [if_neg h2, if_neg (by omega)]
theorem neg_zL {x : Int32} {n : Nat} (hn : n ≤ 10) (h : x = nI n) : (-x).toInt64 = zL (-x.toInt) := by
  rw [zL_i, h]
  congr 1
  rw [nI_toInt (by omega), Int32.toInt_neg, nI_toInt (by omega)]
  exact Int.bmod_eq_of_le (by omega) (by omega)
theorem fl_ok (S : cs_S) (k : Nat) (hs : ∀ r q, r < 5 → q < 5 → ∃ n : Nat, n ≤ 10 ∧ S.1 2 (r * 5 + q) = nI n) (r q : Nat) (hr : r < 5) (hq : q < 6) : fl_J S k 5 (19 + r) q = zL (cA S k r q) := by
  rw [fl_J_at, if_pos (by omega), Nat.add_sub_cancel_left]
  unfold fl_r cA
  by_cases h5 : q = 5
  · subst h5
    rw [pk_uLs, if_pos rfl]
    split
    · rfl
    · rw [zL_i]
  · rw [pk_uLn h5, if_neg h5]
    obtain ⟨n, hn, en⟩ := hs r q hr (by omega)
    unfold fl_2
    by_cases hqr : q = r
    · subst hqr
      rw [pk_uLs, fl_in_at, if_pos (by omega), if_pos rfl]
      split
      · rw [neg_zL hn en, show lN 10 = zL 10 from rfl, zL_add]; congr 1; omega
      · rfl
    · rw [pk_uLn hqr, fl_in_at, if_pos (by omega), if_neg hqr]
      split
      · rw [neg_zL hn en]; congr 1; omega
      · rfl
theorem cr_f_at (fa fs : Nat → Int64) (pv fc l : Int64) (q : Nat) : ∀ t, cr_f fa fs pv fc l t q = if q < t then (pv * fa q - fc * fs q) / l else fa q
  | 0 => by rw [if_neg (by omega)]; rfl
  | t + 1 => by
    show vp_updL (cr_f fa fs pv fc l t) t ((pv * cr_f fa fs pv fc l t t - fc * fs t) / l) q = _
    by_cases h : q = t
    · subst h; rw [pk_uLs, cr_f_at fa fs pv fc l q q, if_neg (by omega), if_pos (by omega)]
    · rw [pk_uLn h, cr_f_at fa fs pv fc l q t]
      by_cases h2 : q < t
      · rw [if_pos h2, if_pos (by omega)]
      · rw [if_neg h2, if_neg (by omega)]
theorem cc_J_at (J : Nat → Nat → Int64) (s : Nat) (l : Int64) (hl : ¬ l = lN 0) (j : Nat) : ∀ n, cc_J J s l n j = if 19 ≤ j ∧ j < 19 + n ∧ j ≠ 19 + s then cr_f (J j) (J (19 + s)) (J (19 + s) s) (J j s) l 6 else J j
  | 0 => by rw [if_neg (by omega)]; rfl
  | n + 1 => by
    have hs : cc_J J s l n (19 + s) = J (19 + s) := by rw [cc_J_at J s l hl (19 + s) n, if_neg (by omega)]
    show (if n = s then cc_J J s l n else cr_J (cc_J J s l n) n s l) j = _
    by_cases e : n = s
    · rw [if_pos e, cc_J_at J s l hl j n]
      by_cases h2 : 19 ≤ j ∧ j < 19 + n ∧ j ≠ 19 + s
      · rw [if_pos h2, if_pos (by omega)]
      · rw [if_neg h2, if_neg (by omega)]
    · rw [if_neg e]
      unfold cr_J
      rw [if_neg hl]
      by_cases h : j = 19 + n
      · subst h
        have hn : cc_J J s l n (19 + n) = J (19 + n) := by rw [cc_J_at J s l hl (19 + n) n, if_neg (by omega)]
        rw [if_pos (by omega)]
        show (if 19 + n = 19 + n then _ else _) = _
        rw [if_pos rfl, hs, hn]
      · rw [va_up_ne _ _ h, cc_J_at J s l hl j n]
        by_cases h2 : 19 ≤ j ∧ j < 19 + n ∧ j ≠ 19 + s
        · rw [if_pos h2, if_pos (by omega)]
        · rw [if_neg h2, if_neg (by omega)]
theorem bi_abs {v : Nat → Int} (hv : ∀ q, q < 5 → 0 < v q) {B : Nat → Nat → Nat → Int} {p : Nat → Int} {k r q : Nat} (h : Bi v B p k) (hr : r < 5) (hq : q < 6) : (B k r q).natAbs ≤ (10 * p k).natAbs ∧ (r < k → (B k r q).natAbs ≤ (p k).natAbs) := by
  have h1 := h.2 r hr
  have hd := h1.1.diag hv hr
  have hp := h.1
  have hb : (B k r q).natAbs ≤ (B k r r).natAbs := by
    by_cases e : q = r
    · rw [e]; exact Nat.le_refl _
    · by_cases e5 : q = 5
      · subst e5
        have h0 := h1.1.2.1
        have h2 := (h1.1.off (q := if r = 0 then 1 else 0) hr (by split <;> omega) (by split <;> omega)).2
        omega
      · have h2 := (h1.1.off hr (q := q) (by omega) e).1
        have h3 := h1.1.1 q (by omega) e
        omega
  rcases Nat.lt_or_ge r k with h2 | h2
  · have := h1.2.2.1 h2
    rw [this] at hb
    exact ⟨by omega, fun _ => hb⟩
  · have := h1.2.1 h2
    exact ⟨by omega, fun h3 => by omega⟩
theorem pw_5 {p : Nat → Int} {k : Nat} (h : p k ≤ 10 ^ k) (hk : k ≤ 5) : p k ≤ 100000 := by
  rcases (show k = 0 ∨ k = 1 ∨ k = 2 ∨ k = 3 ∨ k = 4 ∨ k = 5 by omega) with rfl | rfl | rfl | rfl | rfl | rfl <;> omega
theorem fi_ok {v : Nat → Int} (hv : ∀ q, q < 5 → 0 < v q) {a : Nat → Nat → Int} {B : Nat → Nat → Nat → Int} {p : Nat → Int} (hz : Bz a B p) (hB : ∀ k, k ≤ 5 → Bi v B p k) : ∀ (n s : Nat) (J : Nat → Nat → Int64), s + n = 5 → (∀ r q, r < 5 → q < 6 → J (19 + r) q = zL (B s r q)) → (fi_f n s J (zL (p s))).2 = zL (p 5) ∧ (∀ r q, r < 5 → q < 6 → (fi_f n s J (zL (p s))).1 (19 + r) q = zL (B 5 r q)) ∧ ∀ j, (j < 19 ∨ 24 ≤ j) → (fi_f n s J (zL (p s))).1 j = J j
  | 0, s, J, hs, hJ => by
    obtain rfl : s = 5 := by omega
    exact ⟨rfl, hJ, fun j _ => rfl⟩
  | n + 1, s, J, hs, hJ => by
    have hBs := hB s (by omega)
    have hB1 := hB (s + 1) (by omega)
    have hp5 := pw_5 (bi_le hz hB s (by omega)) (by omega)
    have hp6 := pw_5 (bi_le hz hB (s + 1) (by omega)) (by omega)
    have h0 := hBs.1
    have h1 := hB1.1
    have hpv : J (19 + s) s = zL (p (s + 1)) := by rw [hJ s s (by omega) (by omega), hz.2.2.1 s (by omega)]
    have hne : ¬ J (19 + s) s = lN 0 := by
      rw [hpv]; intro e
      have := (zL_eq (b := 0) ⟨by omega, by omega⟩ zR_0).mp e
      omega
    have hl : ¬ zL (p s) = lN 0 := fun e => by
      have := (zL_eq (b := 0) ⟨by omega, by omega⟩ zR_0).mp e
      omega
    have hq : fi_f (n + 1) s J (zL (p s)) = fi_f n (s + 1) (cc_J J s (zL (p s)) 5) (zL (p (s + 1))) := by
      show (if _ then _ else _) = _
      rw [if_neg hne, hpv]
    rw [hq]
    have ih := fi_ok hv hz hB n (s + 1) (cc_J J s (zL (p s)) 5) (by omega) (fun r q hr h6 => by
      rw [cc_J_at J s _ hl]
      by_cases e : r = s
      · subst e
        rw [if_neg (by omega), hJ r q hr h6, hz.2.2.2.1 r (by omega)]
      · rw [if_pos (by omega), cr_f_at, if_pos h6, hpv, hJ r q hr h6, hJ s q (by omega) h6, hJ r s hr (by omega), zL_mul, zL_mul, zL_sub, ← hz.2.2.2.2 s (by omega) r q e h6]
        have hb := (bi_abs hv hB1 hr h6).1
        have hm : (p s * B (s + 1) r q).natAbs ≤ 100000 * 1000000 := by rw [Int.natAbs_mul]; exact Nat.mul_le_mul (by omega) (by omega)
        rw [zL_dvd ⟨by omega, by omega⟩ ⟨by omega, by omega⟩ ⟨_, rfl⟩, Int.mul_ediv_cancel_left _ (Int.ne_of_gt h0)])
    refine ⟨ih.1, ih.2.1, fun j hj => ?_⟩
    rw [ih.2.2 j hj, cc_J_at J s _ hl, if_neg (by omega)]
theorem kw_ok {v : Nat → Int} (hv : ∀ q, q < 5 → 0 < v q) (S : cs_S) (k : Nat) (hs : ∀ r q, r < 5 → q < 5 → ∃ n : Nat, n ≤ 10 ∧ S.1 2 (r * 5 + q) = nI n) {B : Nat → Nat → Nat → Int} {p : Nat → Int} (hz : Bz (cA S k) B p) (hB : ∀ k, k ≤ 5 → Bi v B p k) : (kw_F S k).2 = zL (p 5) ∧ (∀ r, r < 5 → (kw_F S k).1 (19 + r) 5 = zL (B 5 r 5)) ∧ ∀ j, (j < 19 ∨ 24 ≤ j) → (kw_F S k).1 j = S.2.1 j := by
  have h := fi_ok hv hz hB 5 0 (fl_J S k 5) rfl (fun r q hr hq => by rw [fl_ok S k hs r q hr hq, hz.2.1])
  rw [hz.1] at h
  refine ⟨h.1, fun r hr => h.2.1 r 5 hr (by omega), fun j hj => ?_⟩
  rw [show (kw_F S k).1 j = fl_J S k 5 j from h.2.2 j hj, fl_J_at, if_neg (by omega)]
