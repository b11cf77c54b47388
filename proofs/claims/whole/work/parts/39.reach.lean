/-! reach: the closure of a set under edges among five plants; the class's sweeps, the reference's bits -/
def Rc (T : Nat → Bool) (E : Nat → Nat → Bool) : Nat → Nat → Bool
  | 0, p => T p
  | n + 1, p => Rc T E n p || ex_n (fun q => E p q && Rc T E n q) 5
theorem Rc_s {T : Nat → Bool} {E : Nat → Nat → Bool} {n p : Nat} : Rc T E (n + 1) p = true ↔ Rc T E n p = true ∨ ∃ q, q < 5 ∧ E p q = true ∧ Rc T E n q = true := by
  show (Rc T E n p || ex_n (fun q => E p q && Rc T E n q) 5) = true ↔ _
  rw [Bool.or_eq_true, ex_n_iff]
  constructor
  · rintro (h | ⟨q, h1, h2⟩)
    · exact Or.inl h
    · rw [Bool.and_eq_true] at h2
      exact Or.inr ⟨q, h1, h2⟩
  · rintro (h | ⟨q, h1, h2⟩)
    · exact Or.inl h
    · refine Or.inr ⟨q, h1, ?_⟩
      rw [Bool.and_eq_true]; exact h2
theorem Rc_m {T : Nat → Bool} {E : Nat → Nat → Bool} {n p : Nat} (h : Rc T E n p = true) : Rc T E (n + 1) p = true := Rc_s.mpr (Or.inl h)
def c5 (f : Nat → Bool) : Nat := (f 0).toNat + (f 1).toNat + (f 2).toNat + (f 3).toNat + (f 4).toNat
theorem bn_1 (b : Bool) : b.toNat ≤ 1 := by cases b <;> decide
theorem bn_le {a b : Bool} (h : a = true → b = true) : a.toNat ≤ b.toNat := by
  cases a
  · exact Nat.zero_le _
  · rw [h rfl]; exact Nat.le_refl _
theorem bn_lt {a b : Bool} (h1 : b = true) (h2 : ¬ a = true) : a.toNat < b.toNat := by
  cases a
  · rw [h1]; decide
  · exact absurd rfl h2
theorem c5_le (f : Nat → Bool) : c5 f ≤ 5 := by
  unfold c5
  have h0 := bn_1 (f 0); have h1 := bn_1 (f 1); have h2 := bn_1 (f 2); have h3 := bn_1 (f 3); have h4 := bn_1 (f 4)
  omega
theorem c5_lt {f g : Nat → Bool} (h : ∀ p, p < 5 → f p = true → g p = true) (hx : ∃ p, p < 5 ∧ g p = true ∧ ¬ f p = true) : c5 f < c5 g := by
  obtain ⟨p, hp, hg, hf⟩ := hx
  have hl := bn_lt hg hf
  have h0 := bn_le (h 0 (by omega)); have h1 := bn_le (h 1 (by omega)); have h2 := bn_le (h 2 (by omega)); have h3 := bn_le (h 3 (by omega)); have h4 := bn_le (h 4 (by omega))
  unfold c5
  rcases (show p = 0 ∨ p = 1 ∨ p = 2 ∨ p = 3 ∨ p = 4 by omega) with rfl | rfl | rfl | rfl | rfl <;> omega
theorem c5_pos {f : Nat → Bool} (hx : ∃ p, p < 5 ∧ f p = true) : 0 < c5 f := by
  obtain ⟨p, hp, hf⟩ := hx
  have hl : 0 < (f p).toNat := by rw [hf]; decide
  unfold c5
  rcases (show p = 0 ∨ p = 1 ∨ p = 2 ∨ p = 3 ∨ p = 4 by omega) with rfl | rfl | rfl | rfl | rfl <;> omega
def Rk (T : Nat → Bool) (E : Nat → Nat → Bool) (n : Nat) : Prop := ∀ p, p < 5 → Rc T E (n + 1) p = true → Rc T E n p = true
theorem Rk_s {T : Nat → Bool} {E : Nat → Nat → Bool} {n : Nat} (h : Rk T E n) : Rk T E (n + 1) := fun p hp hx => by
  rcases Rc_s.mp hx with h1 | ⟨q, h1, h2, h3⟩
  · exact h1
  · exact Rc_s.mpr (Or.inr ⟨q, h1, h2, h q h1 h3⟩)
theorem Rk_or (T : Nat → Bool) (E : Nat → Nat → Bool) (n : Nat) : Rk T E n ∨ c5 (Rc T E n) < c5 (Rc T E (n + 1)) := by
  by_cases h : ∃ p, p < 5 ∧ Rc T E (n + 1) p = true ∧ ¬ Rc T E n p = true
  · exact Or.inr (c5_lt (fun p _ hp => Rc_m hp) h)
  · refine Or.inl (fun p hp hx => Decidable.byContradiction (fun hc => h ⟨p, hp, hx, hc⟩))
theorem Rk_4 (T : Nat → Bool) (E : Nat → Nat → Bool) : Rk T E 4 := by
  by_cases hz : ∃ p, p < 5 ∧ Rc T E 0 p = true
  · have h0 := c5_pos hz
    have h5 := c5_le (Rc T E 5)
    rcases Rk_or T E 0 with h | a0
    · exact Rk_s (Rk_s (Rk_s (Rk_s h)))
    rcases Rk_or T E 1 with h | a1
    · exact Rk_s (Rk_s (Rk_s h))
    rcases Rk_or T E 2 with h | a2
    · exact Rk_s (Rk_s h)
    rcases Rk_or T E 3 with h | a3
    · exact Rk_s h
    rcases Rk_or T E 4 with h | a4
    · exact h
    have b0 : c5 (Rc T E 0) < c5 (Rc T E 1) := a0
    have b1 : c5 (Rc T E 1) < c5 (Rc T E 2) := a1
    have b2 : c5 (Rc T E 2) < c5 (Rc T E 3) := a2
    have b3 : c5 (Rc T E 3) < c5 (Rc T E 4) := a3
    have b4 : c5 (Rc T E 4) < c5 (Rc T E 5) := a4
    omega
  · have h : Rk T E 0 := fun p hp hx => by
      rcases Rc_s.mp hx with h1 | ⟨q, h1, h2, h3⟩
      · exact h1
      · exact absurd ⟨q, h1, h3⟩ hz
    exact Rk_s (Rk_s (Rk_s (Rk_s h)))
theorem Rc_cl {T : Nat → Bool} {E : Nat → Nat → Bool} {p q : Nat} (hp : p < 5) (hq : q < 5) (he : E p q = true) (h : Rc T E 4 q = true) : Rc T E 4 p = true := Rk_4 T E p hp (Rc_s.mpr (Or.inr ⟨q, hq, he, h⟩))
theorem Rc_le {T : Nat → Bool} {E : Nat → Nat → Bool} {n p : Nat} (h : Rc T E n p = true) : ∀ m, Rc T E (n + m) p = true
  | 0 => h
  | m + 1 => Rc_m (Rc_le h m)
theorem Rc_04 {T : Nat → Bool} {E : Nat → Nat → Bool} {p : Nat} (h : T p = true) : Rc T E 4 p = true := Rc_le (n := 0) h 4
theorem Rc_eq {T T' : Nat → Bool} {E E' : Nat → Nat → Bool} (hT : ∀ p, p < 5 → T p = T' p) (hE : ∀ p q, p < 5 → q < 5 → E p q = E' p q) : ∀ n p, p < 5 → (Rc T E n p = true ↔ Rc T' E' n p = true)
  | 0, p, hp => by show T p = true ↔ T' p = true; rw [hT p hp]
  | n + 1, p, hp => by
    rw [Rc_s, Rc_s, Rc_eq hT hE n p hp]
    constructor
    · rintro (h | ⟨q, h1, h2, h3⟩)
      · exact Or.inl h
      · exact Or.inr ⟨q, h1, by rw [← hE p q hp h1]; exact h2, (Rc_eq hT hE n q h1).mp h3⟩
    · rintro (h | ⟨q, h1, h2, h3⟩)
      · exact Or.inl h
      · exact Or.inr ⟨q, h1, by rw [hE p q hp h1]; exact h2, (Rc_eq hT hE n q h1).mpr h3⟩
theorem bI_ne (c : Prop) [Decidable c] : bI c ≠ 0 ↔ c := by
  unfold bI; split
  · exact ⟨fun _ => ‹c›, fun _ => by decide⟩
  · exact ⟨fun h => absurd rfl h, fun h => absurd h ‹¬ c›⟩
/-! the class's ends -/
abbrev cE (S : cs_S) (p q : Nat) : Bool := decide (0 < S.1 2 (p * 5 + q))
abbrev cT (S : cs_S) (k p : Nat) : Bool := decide (¬ (S.1 4 (p * 4 + k) = 0 ∧ 0 < S.1 3 p) ∨ S.1 3 p < nI 10)
theorem fe_a_at (e : Nat → Int32) (S : cs_S) (k j : Nat) : ∀ n, j < n → fe_a e S k n j = bI (¬ (S.1 4 (j * 4 + k) = 0 ∧ 0 < S.1 3 j) ∨ S.1 3 j < nI 10)
  | 0, h => absurd h (by omega)
  | n + 1, h => by
    show upd (fe_a e S k n) n _ j = _
    by_cases hj : j = n
    · subst hj; rw [pk_us]
    · rw [pk_un hj, fe_a_at e S k j n (by omega)]
theorem fe_b_mono (sh e : Nat → Int32) (j : Nat) (h : e j ≠ 0) : ∀ n, fe_b sh e n j ≠ 0
  | 0 => h
  | n + 1 => by
    show upd (fe_b sh e n) n _ j ≠ 0
    by_cases hj : j = n
    · subst hj; rw [pk_us, bI_ne]; exact Or.inl (fe_b_mono sh e j h j)
    · rw [pk_un hj]; exact fe_b_mono sh e j h n
theorem fe_b_lo (sh e : Nat → Int32) (j t : Nat) (ht : t < 5) (h1 : e t ≠ 0) (h2 : 0 < sh (j * 5 + t)) : ∀ n, j < n → fe_b sh e n j ≠ 0
  | 0, h => absurd h (by omega)
  | n + 1, h => by
    show upd (fe_b sh e n) n _ j ≠ 0
    by_cases hj : j = n
    · subst hj
      rw [pk_us, bI_ne]
      exact Or.inr ((ex_n_iff _ 5).mpr ⟨t, ht, decide_eq_true ⟨fe_b_mono sh e t h1 j, h2⟩⟩)
    · rw [pk_un hj]; exact fe_b_lo sh e j t ht h1 h2 n (by omega)
theorem fe_b_up (sh e : Nat → Int32) (U : Nat → Prop) (hU : ∀ p q, p < 5 → q < 5 → 0 < sh (p * 5 + q) → U q → U p) (h : ∀ j, j < 5 → e j ≠ 0 → U j) : ∀ n, n ≤ 5 → ∀ j, j < 5 → fe_b sh e n j ≠ 0 → U j
  | 0, _, j, hj, hx => h j hj hx
  | n + 1, hn, j, hj, hx => by
    have ih := fe_b_up sh e U hU h n (by omega)
    have hx : upd (fe_b sh e n) n (bI (fe_b sh e n n ≠ 0 ∨ ex_n (fun t => decide (fe_b sh e n t ≠ 0 ∧ 0 < sh (n * 5 + t))) 5 = true)) j ≠ 0 := hx
    by_cases hjn : j = n
    · subst hjn
      rw [pk_us, bI_ne, ex_n_iff] at hx
      rcases hx with hx | ⟨t, h1, h2⟩
      · exact ih j hj hx
      · have h2 := of_decide_eq_true h2
        exact hU j t hj h1 h2.2 (ih t h1 h2.1)
    · rw [pk_un hjn] at hx; exact ih j hj hx
theorem fe_c_lo (S : cs_S) (k : Nat) (e : Nat → Int32) (he : ∀ p, p < 5 → cT S k p = true → e p ≠ 0) : ∀ n p, p < 5 → Rc (cT S k) (cE S) n p = true → fe_c (S.1 2) e n p ≠ 0
  | 0, p, hp, h => he p hp h
  | n + 1, p, hp, h => by
    show fe_b (S.1 2) (fe_c (S.1 2) e n) 5 p ≠ 0
    rcases Rc_s.mp h with h1 | ⟨q, h1, h2, h3⟩
    · exact fe_b_mono _ _ p (fe_c_lo S k e he n p hp h1) 5
    · exact fe_b_lo _ _ p q h1 (fe_c_lo S k e he n q h1 h3) (of_decide_eq_true h2) 5 hp
theorem fe_c_up (S : cs_S) (k : Nat) (e : Nat → Int32) (he : ∀ p, p < 5 → e p ≠ 0 → cT S k p = true) : ∀ n p, p < 5 → fe_c (S.1 2) e n p ≠ 0 → Rc (cT S k) (cE S) 4 p = true
  | 0, p, hp, h => Rc_04 (he p hp h)
  | n + 1, p, hp, h => fe_b_up (S.1 2) (fe_c (S.1 2) e n) (fun p => Rc (cT S k) (cE S) 4 p = true) (fun p q hp hq h1 h2 => Rc_cl hp hq (decide_eq_true h1) h2) (fun j hj hx => fe_c_up S k e he n j hj hx) 5 (Nat.le_refl 5) p hp h
theorem fe_R_iff (e : Nat → Int32) (S : cs_S) (k p : Nat) (hp : p < 5) : fe_R e S k p ≠ 0 ↔ Rc (cT S k) (cE S) 4 p = true := by
  unfold fe_R
  have h : ∀ p, p < 5 → (fe_a e S k 5 p ≠ 0 ↔ cT S k p = true) := fun p hp => by
    rw [fe_a_at e S k p 5 hp, bI_ne, decide_eq_true_iff]
  exact ⟨fe_c_up S k _ (fun p hp hx => (h p hp).mp hx) 4 p hp, fe_c_lo S k _ (fun p hp hx => (h p hp).mpr hx) 4 p hp⟩
theorem lr_f_sp (e : Nat → Int32) : ∀ n i, i + n ≤ 5 → (lr_f e n i = -1 ∧ ∀ j, i ≤ j → j < i + n → e j ≠ 0) ∨ ∃ p, lr_f e n i = nI p ∧ i ≤ p ∧ p < i + n ∧ e p = 0 ∧ ∀ j, i ≤ j → j < p → e j ≠ 0
  | 0, i, _ => Or.inl ⟨rfl, fun j h1 h2 => absurd h2 (by omega)⟩
  | n + 1, i, hn => by
    by_cases h : e i = 0
    · refine Or.inr ⟨i, ?_, Nat.le_refl i, by omega, h, fun j h1 h2 => absurd h2 (by omega)⟩
      show (if e i = 0 then nI i else _) = _
      rw [if_pos h]
    · have hq : lr_f e (n + 1) i = lr_f e n (i + 1) := if_neg h
      rw [hq]
      rcases lr_f_sp e n (i + 1) (by omega) with ⟨h1, h2⟩ | ⟨p, h1, h2, h3, h4, h5⟩
      · refine Or.inl ⟨h1, fun j a b => ?_⟩
        by_cases e1 : j = i
        · rw [e1]; exact h
        · exact h2 j (by omega) (by omega)
      · refine Or.inr ⟨p, h1, by omega, by omega, h4, fun j a b => ?_⟩
        by_cases e1 : j = i
        · rw [e1]; exact h
        · exact h5 j (by omega) b
theorem nI_n1 {p : Nat} (hp : p < 2 ^ 31) : nI p ≠ -1 := fun e => by
  have h1 := nI_pos' hp
  rw [e] at h1
  exact absurd h1 (by decide)
abbrev cR (S : cs_S) (k p : Nat) : Prop := Rc (cT S k) (cE S) 4 p = true
theorem lr_v_sp (S : cs_S) : ∀ m, m ≤ 4 → (lr_v S m = -1 ∧ ∀ k p, k < m → p < 5 → cR S k p) ∨ ∃ p, p < 5 ∧ lr_v S m = nI p ∧ (∃ k, k < m ∧ ¬ cR S k p) ∧ ∀ k j, k < m → j < p → cR S k j
  | 0, _ => Or.inl ⟨rfl, fun k p h _ => absurd h (by omega)⟩
  | m + 1, hm => by
    have hl := lr_f_sp (lr_st S (m + 1)) 5 0 (by omega)
    have hiff : ∀ p, p < 5 → (lr_st S (m + 1) p ≠ 0 ↔ cR S m p) := fun p hp => fe_R_iff (lr_st S m) S m p hp
    have ih := lr_v_sp S m (by omega)
    have hd : lr_v S (m + 1) = if lr_f (lr_st S (m + 1)) 5 0 ≠ -1 ∧ (lr_v S m = -1 ∨ lr_f (lr_st S (m + 1)) 5 0 < lr_v S m) then lr_f (lr_st S (m + 1)) 5 0 else lr_v S m := rfl
    rw [hd]
    rcases hl with ⟨a1, a2⟩ | ⟨p, a1, a2, a3, a4, a5⟩
    · rw [if_neg (fun h => h.1 a1)]
      have hall : ∀ p, p < 5 → cR S m p := fun p hp => (hiff p hp).mp (a2 p (by omega) (by omega))
      rcases ih with ⟨b1, b2⟩ | ⟨r, b1, b2, ⟨k, b3, b4⟩, b5⟩
      · refine Or.inl ⟨b1, fun k p hk hp => ?_⟩
        by_cases e : k = m
        · rw [e]; exact hall p hp
        · exact b2 k p (by omega) hp
      · refine Or.inr ⟨r, b1, b2, ⟨k, by omega, b4⟩, fun k j hk hj => ?_⟩
        by_cases e : k = m
        · rw [e]; exact hall j (by omega)
        · exact b5 k j (by omega) hj
    · have hn : ¬ cR S m p := fun h => (hiff p (by omega)).mpr h a4
      have hlow : ∀ j, j < p → cR S m j := fun j hj => (hiff j (by omega)).mp (a5 j (by omega) hj)
      rw [a1]
      rcases ih with ⟨b1, b2⟩ | ⟨r, b1, b2, ⟨k, b3, b4⟩, b5⟩
      · rw [if_pos ⟨nI_n1 (by omega), Or.inl b1⟩]
        refine Or.inr ⟨p, by omega, rfl, ⟨m, by omega, hn⟩, fun k j hk hj => ?_⟩
        by_cases e : k = m
        · rw [e]; exact hlow j hj
        · exact b2 k j (by omega) (by omega)
      · by_cases hpr : p < r
        · rw [if_pos ⟨nI_n1 (by omega), Or.inr (by rw [b2]; exact (nI_ltI (by omega) (by omega)).mpr hpr)⟩]
          refine Or.inr ⟨p, by omega, rfl, ⟨m, by omega, hn⟩, fun k j hk hj => ?_⟩
          by_cases e : k = m
          · rw [e]; exact hlow j hj
          · exact b5 k j (by omega) (by omega)
        · rw [if_neg (fun h => by
            rcases h.2 with h2 | h2
            · rw [b2] at h2; exact nI_n1 (by omega) h2
            · rw [b2] at h2; exact hpr ((nI_ltI (by omega) (by omega)).mp h2))]
          refine Or.inr ⟨r, b1, b2, ⟨k, by omega, b4⟩, fun k j hk hj => ?_⟩
          by_cases e : k = m
          · rw [e]; exact hlow j (by omega)
          · exact b5 k j (by omega) hj
/-! the reference's bits -/
abbrev bt (x : Int32) (p : Nat) : Bool := x.toBitVec.getLsbD p
theorem bt_or (x y : Int32) (p : Nat) : bt (x ||| y) p = (bt x p || bt y p) := by
  show (x ||| y).toBitVec.getLsbD p = _
  rw [Int32.toBitVec_or, BitVec.getLsbD_or]
theorem bt_0 (p : Nat) : bt (nI 0) p = false := by
  show (BitVec.ofNat 32 0).getLsbD p = false
  simp
theorem bt_1 {p q : Nat} (hp : p < 5) (hq : q < 5) : bt (nI 1 <<< (nI q &&& 31)) p = decide (p = q) := by
  rcases (show p = 0 ∨ p = 1 ∨ p = 2 ∨ p = 3 ∨ p = 4 by omega) with rfl | rfl | rfl | rfl | rfl <;>
  rcases (show q = 0 ∨ q = 1 ∨ q = 2 ∨ q = 3 ∨ q = 4 by omega) with rfl | rfl | rfl | rfl | rfl <;> decide +kernel
theorem ofb_1 (b : Bool) : BitVec.setWidth 32 (BitVec.ofBool b) = 1#32 ↔ b = true := by cases b <;> decide
theorem rb_iff (x : Int32) (p : Nat) (hp : p < 5) : rb_c x p ↔ bt x p = true := by
  have hs : ((nI p &&& 31).toBitVec.smod 32).toNat = p := by
    rcases (show p = 0 ∨ p = 1 ∨ p = 2 ∨ p = 3 ∨ p = 4 by omega) with rfl | rfl | rfl | rfl | rfl <;> decide +kernel
  have e : (x >>> (nI p &&& 31) &&& nI 1).toBitVec = x.toBitVec.sshiftRight p &&& 1#32 := by
    rw [Int32.toBitVec_and, Int32.toBitVec_shiftRight]
    show x.toBitVec.sshiftRight ((nI p &&& 31).toBitVec.smod 32).toNat &&& _ = _
    rw [hs]
    rfl
  have e2 : rb_c x p ↔ x.toBitVec.sshiftRight p &&& 1#32 = 1#32 := by
    rw [← e]
    exact ⟨fun h => by rw [h]; rfl, fun h => Int32.toBitVec_inj.mp (by rw [h]; rfl)⟩
  rw [e2, BitVec.and_one_eq_setWidth_ofBool_getLsbD, ofb_1, BitVec.getLsbD_sshiftRight]
  rw [if_pos (by omega), decide_eq_false (by omega), Nat.add_zero]
  simp
theorem rq_mono {S : cs_S} {k p : Nat} {x : Int32} {j : Nat} (h : bt x j = true) : ∀ n, bt (rq_f S k p x n) j = true
  | 0 => h
  | n + 1 => by
    show bt (rq_f S k p x n ||| _) j = true
    rw [bt_or, rq_mono h n, Bool.true_or]
theorem rq_step {S : cs_S} {k p : Nat} {x : Int32} {q : Nat} (hp : p < 5) (hq : q < 5) (h : bt x p = true) (h1 : S.1 38 (4 * p + k) = 0) (h2 : 0 < S.1 37 (5 * p + q)) : ∀ n, q < n → bt (rq_f S k p x n) q = true
  | 0, hn => absurd hn (by omega)
  | n + 1, hn => by
    show bt (rq_f S k p x n ||| (if rq_c S k p n (rq_f S k p x n) then nI 1 <<< (nI n &&& 31) else nI 0)) q = true
    rw [bt_or]
    by_cases e : q = n
    · subst e
      rw [if_pos ⟨(rb_iff _ p hp).mpr (rq_mono h q), h1, h2⟩, bt_1 hq hq, decide_eq_true rfl, Bool.or_true]
    · rw [rq_step hp hq h h1 h2 n (by omega), Bool.true_or]
abbrev clU (S : cs_S) (k : Nat) (U : Nat → Prop) : Prop := ∀ p q, p < 5 → q < 5 → U p → S.1 38 (4 * p + k) = 0 → 0 < S.1 37 (5 * p + q) → U q
theorem rq_up {S : cs_S} {k p : Nat} {U : Nat → Prop} (hU : clU S k U) (hp : p < 5) {x : Int32} (h : ∀ j, j < 5 → bt x j = true → U j) : ∀ n, n ≤ 5 → ∀ j, j < 5 → bt (rq_f S k p x n) j = true → U j
  | 0, _, j, hj, hx => h j hj hx
  | n + 1, hn, j, hj, hx => by
    have ih := rq_up hU hp h n (by omega)
    have hx : bt (rq_f S k p x n ||| (if rq_c S k p n (rq_f S k p x n) then nI 1 <<< (nI n &&& 31) else nI 0)) j = true := hx
    rw [bt_or, Bool.or_eq_true] at hx
    rcases hx with hx | hx
    · exact ih j hj hx
    · by_cases hc : rq_c S k p n (rq_f S k p x n)
      · rw [if_pos hc, bt_1 hj (by omega), decide_eq_true_iff] at hx
        subst hx
        exact hU p j hp hj (ih p hp ((rb_iff _ p hp).mp hc.1)) hc.2.1 hc.2.2
      · rw [if_neg hc, bt_0] at hx
        exact absurd hx (by decide)
theorem rp_mono {S : cs_S} {n k : Nat} {x : Int32} {j : Nat} (h : bt x j = true) : ∀ m, bt (rp_f S n k x m) j = true
  | 0 => h
  | m + 1 => rq_mono (rp_mono h m) n
theorem rp_step {S : cs_S} {n k p : Nat} {x : Int32} {q : Nat} (hp : p < 5) (hq : q < 5) (hqn : q < n) (h : bt x p = true) (h1 : S.1 38 (4 * p + k) = 0) (h2 : 0 < S.1 37 (5 * p + q)) : ∀ m, p < m → bt (rp_f S n k x m) q = true
  | 0, hn => absurd hn (by omega)
  | m + 1, hn => by
    by_cases e : p = m
    · subst e; exact rq_step hp hq (rp_mono h p) h1 h2 n hqn
    · exact rq_mono (rp_step hp hq hqn h h1 h2 m (by omega)) n
theorem rp_up {S : cs_S} {n k : Nat} (hn : n ≤ 5) {U : Nat → Prop} (hU : clU S k U) {x : Int32} (h : ∀ j, j < 5 → bt x j = true → U j) : ∀ m, m ≤ 5 → ∀ j, j < 5 → bt (rp_f S n k x m) j = true → U j
  | 0, _, j, hj, hx => h j hj hx
  | m + 1, hm, j, hj, hx => rq_up hU (show m < 5 by omega) (rp_up hn hU h m (by omega)) n hn j hj hx
theorem rt_mono {S : cs_S} {n k : Nat} {x : Int32} {j t : Nat} (h : bt (rt_f S n k x t) j = true) : ∀ m, bt (rt_f S n k x (t + m)) j = true
  | 0 => h
  | m + 1 => rp_mono (rt_mono h m) n
theorem rt_step {S : cs_S} {n k p : Nat} (hn : n ≤ 5) {x : Int32} {q t : Nat} (hp : p < n) (hq : q < n) (h : bt (rt_f S n k x t) p = true) (h1 : S.1 38 (4 * p + k) = 0) (h2 : 0 < S.1 37 (5 * p + q)) : bt (rt_f S n k x (t + 1)) q = true := rp_step (by omega) (by omega) hq h h1 h2 n hp
theorem rt_up {S : cs_S} {n k : Nat} (hn : n ≤ 5) {U : Nat → Prop} (hU : clU S k U) {x : Int32} (h : ∀ j, j < 5 → bt x j = true → U j) : ∀ t, ∀ j, j < 5 → bt (rt_f S n k x t) j = true → U j
  | 0, j, hj, hx => h j hj hx
  | t + 1, j, hj, hx => rp_up hn hU (rt_up hn hU h t) n hn j hj hx
abbrev mE (S : cs_S) (p q : Nat) : Bool := decide (0 < S.1 37 (5 * p + q))
abbrev mT (S : cs_S) (k p : Nat) : Bool := decide (S.1 38 (4 * p + k) ≠ 0 ∨ sd_f (S.1 37) p 5 = 0 ∨ sd_f (S.1 37) p 5 < nI 10)
abbrev mR (S : cs_S) (k p : Nat) : Prop := Rc (mT S k) (mE S) 4 p = true
theorem rc_fw {S : cs_S} {np k : Nat} (h5 : np ≤ 5) (hz : ∀ p q, p < 5 → q < 5 → 0 < S.1 37 (5 * p + q) → q < np) {x : Int32} : ∀ n t p, n + t ≤ 5 → p < np → bt (rt_f S np k x t) p = true → Rc (mT S k) (mE S) n p = true → ∃ r, r < np ∧ bt (rt_f S np k x 5) r = true ∧ mT S k r = true
  | 0, t, p, hn, hp, hb, hr => ⟨p, hp, by have := rt_mono hb (5 - t); rwa [show t + (5 - t) = 5 by omega] at this, hr⟩
  | n + 1, t, p, hn, hp, hb, hr => by
    rcases Rc_s.mp hr with h1 | ⟨q, h1, h2, h3⟩
    · exact rc_fw h5 hz n t p (by omega) hp hb h1
    · have h2 := of_decide_eq_true h2
      by_cases hpt : S.1 38 (4 * p + k) = 0
      · have hq := hz p q (by omega) h1 h2
        exact rc_fw h5 hz n (t + 1) q (by omega) hq (rt_step h5 hp hq hb hpt h2) h3
      · exact ⟨p, hp, by have := rt_mono hb (5 - t); rwa [show t + (5 - t) = 5 by omega] at this, decide_eq_true (Or.inl hpt)⟩
theorem en_iff {S : cs_S} {np k p0 : Nat} (h5 : np ≤ 5) (hz : ∀ p q, p < 5 → q < 5 → 0 < S.1 37 (5 * p + q) → q < np) (hp0 : p0 < np) : en_c S np p0 k = true ↔ mR S k p0 := by
  show ex_n (fun p => decide (ed_c S k (re_x S np p0 k) p)) np = true ↔ _
  rw [ex_n_iff]
  constructor
  · rintro ⟨p, hp, h⟩
    have h := of_decide_eq_true h
    have hu := rt_up (S := S) (k := k) h5 (U := fun q => mR S k q → mR S k p0) (fun p q hp hq hU _ h2 hx => hU (Rc_cl hp hq (decide_eq_true h2) hx)) (x := nI 1 <<< (nI p0 &&& 31)) (fun j hj hb hx => by
      rw [bt_1 hj (by omega), decide_eq_true_iff] at hb
      rw [← hb]; exact hx) 5 p (by omega) ((rb_iff _ p (by omega)).mp h.1)
    exact hu (Rc_04 (decide_eq_true h.2))
  · intro h
    obtain ⟨r, h1, h2, h3⟩ := rc_fw (S := S) (k := k) h5 hz (x := nI 1 <<< (nI p0 &&& 31)) 4 0 p0 (by omega) hp0 (by show bt (nI 1 <<< (nI p0 &&& 31)) p0 = true; rw [bt_1 (by omega) (by omega)]; exact decide_eq_true rfl) h
    exact ⟨r, h1, decide_eq_true ⟨(rb_iff _ r (by omega)).mpr h2, of_decide_eq_true h3⟩⟩
theorem so_f_sp {S : cs_S} {np : Nat} (h5 : np ≤ 5) (hz : ∀ p q, p < 5 → q < 5 → 0 < S.1 37 (5 * p + q) → q < np) : ∀ n p, p + n = np → (so_f S np n p = none ∧ ∀ k j, k < 4 → p ≤ j → j < np → mR S k j) ∨ ∃ r, so_f S np n p = some r ∧ p ≤ r ∧ r < np ∧ (∃ k, k < 4 ∧ ¬ mR S k r) ∧ ∀ k j, k < 4 → p ≤ j → j < r → mR S k j
  | 0, p, h => Or.inl ⟨rfl, fun k j _ a b => absurd b (by omega)⟩
  | n + 1, p, h => by
    have hd : so_f S np (n + 1) p = if al_n (fun k => en_c S np p k) 4 = true then so_f S np n (p + 1) else some p := rfl
    rw [hd]
    by_cases ha : al_n (fun k => en_c S np p k) 4 = true
    · rw [if_pos ha]
      have hk : ∀ k, k < 4 → mR S k p := fun k hk => (en_iff h5 hz (by omega)).mp ((al_n_iff _ 4).mp ha k hk)
      rcases so_f_sp h5 hz n (p + 1) (by omega) with ⟨a, b⟩ | ⟨r, a, b, c, d, e⟩
      · refine Or.inl ⟨a, fun k j h1 h2 h3 => ?_⟩
        by_cases e : j = p
        · rw [e]; exact hk k h1
        · exact b k j h1 (by omega) h3
      · refine Or.inr ⟨r, a, by omega, c, d, fun k j h1 h2 h3 => ?_⟩
        by_cases e1 : j = p
        · rw [e1]; exact hk k h1
        · exact e k j h1 (by omega) h3
    · rw [if_neg ha]
      refine Or.inr ⟨p, rfl, Nat.le_refl p, by omega, ?_, fun k j _ a b => absurd b (by omega)⟩
      refine Classical.byContradiction (fun hc => ha ((al_n_iff _ 4).mpr (fun k hk => (en_iff h5 hz (by omega)).mpr ?_)))
      exact Classical.byContradiction (fun hc2 => hc ⟨k, hk, hc2⟩)
/-! the ring: both sides answer the same -/
theorem ring_eq {C M : cs_S} {np : Nat} (h5 : np ≤ 5) (hz : ∀ p q, p < 5 → q < 5 → 0 < M.1 37 (5 * p + q) → q < np) (hR : ∀ k p, k < 4 → p < 5 → (cR C k p ↔ mR M k p)) (hhi : ∀ k p, k < 4 → np ≤ p → p < 5 → mR M k p) :
    (lr_v C 4 = -1 ∧ so_f M np np 0 = none ∧ ∀ k p, k < 4 → p < 5 → cR C k p) ∨ ∃ p, p < 5 ∧ lr_v C 4 = nI p ∧ so_f M np np 0 = some p := by
  rcases lr_v_sp C 4 (Nat.le_refl 4) with ⟨a1, a2⟩ | ⟨p, a1, a2, ⟨k, a3, a4⟩, a5⟩
  · rcases so_f_sp h5 hz np 0 (by omega) with ⟨b1, b2⟩ | ⟨r, b1, b2, b3, ⟨k, b4, b5⟩, b6⟩
    · exact Or.inl ⟨a1, b1, a2⟩
    · exact absurd ((hR k r b4 (by omega)).mp (a2 k r b4 (by omega))) b5
  · have hpn : p < np := Nat.lt_of_not_le (fun h => a4 ((hR k p a3 a1).mpr (hhi k p a3 h a1)))
    rcases so_f_sp h5 hz np 0 (by omega) with ⟨b1, b2⟩ | ⟨r, b1, b2, b3, ⟨k2, b4, b5⟩, b6⟩
    · exact absurd ((hR k p a3 a1).mpr (b2 k p a3 (by omega) hpn)) a4
    · refine Or.inr ⟨p, a1, a2, ?_⟩
      have e : r = p := by
        rcases Nat.lt_trichotomy r p with h | h | h
        · exact absurd ((hR k2 r b4 (by omega)).mp (a5 k2 r b4 h)) b5
        · exact h
        · exact absurd ((hR k p a3 a1).mpr (b6 k p a3 (by omega) h)) a4
      rw [b1, e]
/-! came: what was fed and where it goes on -/
abbrev fE (S : cs_S) (k q p : Nat) : Bool := decide (cs_g S k p ∧ 0 < S.1 2 (p * 5 + q))
theorem nx_mono (sh e : Nat → Int32) (p j : Nat) (h : e j ≠ 0) : ∀ n, nx_f sh e p n j ≠ 0
  | 0 => h
  | n + 1 => by
    show upd (nx_f sh e p n) n _ j ≠ 0
    by_cases hj : j = n
    · subst hj; rw [pk_us, bI_ne]; exact Or.inl (nx_mono sh e p j h j)
    · rw [pk_un hj]; exact nx_mono sh e p j h n
theorem nx_lo (sh e : Nat → Int32) (p q : Nat) (h : 0 < sh (p * 5 + q)) : ∀ n, q < n → nx_f sh e p n q ≠ 0
  | 0, hn => absurd hn (by omega)
  | n + 1, hn => by
    show upd (nx_f sh e p n) n _ q ≠ 0
    by_cases hj : q = n
    · subst hj; rw [pk_us, bI_ne]; exact Or.inr h
    · rw [pk_un hj]; exact nx_lo sh e p q h n (by omega)
theorem nx_up (sh e : Nat → Int32) (p : Nat) : ∀ n j, nx_f sh e p n j ≠ 0 → e j ≠ 0 ∨ (j < n ∧ 0 < sh (p * 5 + j))
  | 0, j, h => Or.inl h
  | n + 1, j, h => by
    have h : upd (nx_f sh e p n) n (bI (nx_f sh e p n n ≠ 0 ∨ 0 < sh (p * 5 + n))) j ≠ 0 := h
    by_cases hj : j = n
    · subst hj
      rw [pk_us, bI_ne] at h
      rcases h with h | h
      · rcases nx_up sh e p j j h with h | h
        · exact Or.inl h
        · exact absurd h.1 (by omega)
      · exact Or.inr ⟨by omega, h⟩
    · rw [pk_un hj] at h
      rcases nx_up sh e p n j h with h | h
      · exact Or.inl h
      · exact Or.inr ⟨by omega, h.2⟩
theorem fc_3_mono (S : cs_S) (k : Nat) (e : Nat → Int32) (j : Nat) (h : e j ≠ 0) : ∀ n, fc_3 S k e n j ≠ 0
  | 0 => h
  | n + 1 => by
    show (if fc_3 S k e n n ≠ 0 ∧ cs_g S k n then nx_f (S.1 2) (fc_3 S k e n) n 5 else fc_3 S k e n) j ≠ 0
    split
    · exact nx_mono _ _ n j (fc_3_mono S k e j h n) 5
    · exact fc_3_mono S k e j h n
theorem fc_3_lo (S : cs_S) (k : Nat) (e : Nat → Int32) (p q : Nat) (hq : q < 5) (h : e p ≠ 0) (h1 : cs_g S k p) (h2 : 0 < S.1 2 (p * 5 + q)) : ∀ n, p < n → fc_3 S k e n q ≠ 0
  | 0, hn => absurd hn (by omega)
  | n + 1, hn => by
    show (if fc_3 S k e n n ≠ 0 ∧ cs_g S k n then nx_f (S.1 2) (fc_3 S k e n) n 5 else fc_3 S k e n) q ≠ 0
    by_cases hj : p = n
    · subst hj
      rw [if_pos ⟨fc_3_mono S k e p h p, h1⟩]
      exact nx_lo _ _ p q h2 5 hq
    · have ih := fc_3_lo S k e p q hq h h1 h2 n (by omega)
      split
      · exact nx_mono _ _ n q ih 5
      · exact ih
theorem fc_3_up (S : cs_S) (k : Nat) (e : Nat → Int32) (U : Nat → Prop) (hU : ∀ p q, p < 5 → q < 5 → U p → cs_g S k p → 0 < S.1 2 (p * 5 + q) → U q) (h : ∀ j, j < 5 → e j ≠ 0 → U j) : ∀ n, n ≤ 5 → ∀ j, j < 5 → fc_3 S k e n j ≠ 0 → U j
  | 0, _, j, hj, hx => h j hj hx
  | n + 1, hn, j, hj, hx => by
    have ih := fc_3_up S k e U hU h n (by omega)
    have hx : (if fc_3 S k e n n ≠ 0 ∧ cs_g S k n then nx_f (S.1 2) (fc_3 S k e n) n 5 else fc_3 S k e n) j ≠ 0 := hx
    by_cases hc : fc_3 S k e n n ≠ 0 ∧ cs_g S k n
    · rw [if_pos hc] at hx
      rcases nx_up _ _ n 5 j hx with hx | hx
      · exact ih j hj hx
      · exact hU n j (by omega) hj (ih n (by omega) hc.1) hc.2 hx.2
    · rw [if_neg hc] at hx; exact ih j hj hx
theorem fc_4_lo (S : cs_S) (k : Nat) (e : Nat → Int32) : ∀ n p, p < 5 → Rc (fun p => decide (e p ≠ 0)) (fE S k) n p = true → fc_4 S k e n p ≠ 0
  | 0, p, hp, h => of_decide_eq_true h
  | n + 1, q, hq, h => by
    show fc_3 S k (fc_4 S k e n) 5 q ≠ 0
    rcases Rc_s.mp h with h1 | ⟨p, h1, h2, h3⟩
    · exact fc_3_mono S k _ q (fc_4_lo S k e n q hq h1) 5
    · have h2 := of_decide_eq_true h2
      exact fc_3_lo S k _ p q hq (fc_4_lo S k e n p h1 h3) h2.1 h2.2 5 h1
theorem fc_4_up (S : cs_S) (k : Nat) (e : Nat → Int32) : ∀ n p, p < 5 → fc_4 S k e n p ≠ 0 → Rc (fun p => decide (e p ≠ 0)) (fE S k) 4 p = true
  | 0, p, hp, h => Rc_04 (decide_eq_true h)
  | n + 1, p, hp, h => fc_3_up S k (fc_4 S k e n) (fun p => Rc (fun p => decide (e p ≠ 0)) (fE S k) 4 p = true) (fun p q hp hq h1 h2 h3 => Rc_cl hq hp (decide_eq_true ⟨h2, h3⟩) h1) (fun j hj hx => fc_4_up S k e n j hj hx) 5 (Nat.le_refl 5) p hp h
theorem fc_4_iff (S : cs_S) (k : Nat) (e : Nat → Int32) (p : Nat) (hp : p < 5) : fc_4 S k e 4 p ≠ 0 ↔ Rc (fun p => decide (e p ≠ 0)) (fE S k) 4 p = true := ⟨fc_4_up S k e 4 p hp, fc_4_lo S k e 4 p hp⟩
/-- the reference's forward reach from any bits is the closure, edges turned -/
abbrev gE (S : cs_S) (k q p : Nat) : Bool := decide (S.1 38 (4 * p + k) = 0 ∧ 0 < S.1 37 (5 * p + q))
theorem rt_lo {S : cs_S} {np k : Nat} (h5 : np ≤ 5) (hz : ∀ p q, p < 5 → q < 5 → 0 < S.1 37 (5 * p + q) → p < np ∧ q < np) {x : Int32} : ∀ n p, p < 5 → Rc (bt x) (gE S k) n p = true → bt (rt_f S np k x n) p = true
  | 0, p, hp, h => h
  | n + 1, q, hq, h => by
    rcases Rc_s.mp h with h1 | ⟨p, h1, h2, h3⟩
    · exact rt_mono (rt_lo h5 hz n q hq h1) 1
    · have h2 := of_decide_eq_true h2
      have hb := hz p q h1 hq h2.2
      exact rt_step h5 hb.1 hb.2 (rt_lo h5 hz n p h1 h3) h2.1 h2.2
theorem rt_iff {S : cs_S} {np k : Nat} (h5 : np ≤ 5) (hz : ∀ p q, p < 5 → q < 5 → 0 < S.1 37 (5 * p + q) → p < np ∧ q < np) (x : Int32) (p : Nat) (hp : p < 5) : bt (rt_f S np k x 5) p = true ↔ Rc (bt x) (gE S k) 4 p = true := by
  constructor
  · exact rt_up (S := S) (k := k) h5 (U := fun q => Rc (bt x) (gE S k) 4 q = true) (fun p q hp hq h1 h2 h3 => Rc_cl hq hp (decide_eq_true ⟨h2, h3⟩) h1) (fun j hj hb => Rc_04 hb) 5 p hp
  · intro h
    exact rt_lo h5 hz 5 p hp (Rc_m h)
