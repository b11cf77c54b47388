/-! the reference's elimination, in fractions -/
abbrev Fr (x : Int × Int) (N D : Int) : Prop := 0 < D ∧ x = rd N D
theorem fr_cross {x : Int × Int} {N D N' D' : Int} (h : Fr x N D) (hD : 0 < D') (e : N * D' = N' * D) : Fr x N' D' := ⟨hD, h.2.trans (rd_cross h.1 hD e)⟩
theorem fr_b {x : Int × Int} {N D : Int} (h : Fr x N D) : 0 < x.2 ∧ x.2 ≤ D ∧ x.1 * D = N * x.2 ∧ x.1.natAbs ≤ N.natAbs := by
  rw [h.2]; exact ⟨rd_pos h.1, rd_le h.1, rd_x N D, rd_abs N D⟩
theorem fr_ab {x : Int × Int} {N D : Int} (h : Fr x N D) (hN : N.natAbs ≤ D.natAbs) : x.1.natAbs ≤ x.2.natAbs := by
  have hb := fr_b h
  have e := congrArg Int.natAbs hb.2.2.1
  rw [Int.natAbs_mul, Int.natAbs_mul] at e
  have hD : 0 < D.natAbs := by have := h.1; omega
  refine Nat.le_of_mul_le_mul_right ?_ hD
  rw [e, Nat.mul_comm]
  exact Nat.mul_le_mul_left _ hN
theorem fr_mul {x y : Int × Int} {N D N' D' : Int} (hx : Fr x N D) (hy : Fr y N' D') : Fr (rd (x.1 * y.1) (x.2 * y.2)) (N * N') (D * D') := by
  have h1 := (fr_b hx).2.2.1
  have h2 := (fr_b hy).2.2.1
  refine ⟨Int.mul_pos hx.1 hy.1, rd_cross (Int.mul_pos (fr_b hx).1 (fr_b hy).1) (Int.mul_pos hx.1 hy.1) ?_⟩
  have e : x.1 * y.1 * (D * D') = (x.1 * D) * (y.1 * D') := by grind
  rw [e, h1, h2]; grind
theorem fr_pos {y : Int × Int} {N' D' : Int} (hy : Fr y N' D') (hN : 0 < N') : 0 < y.1 := by
  have h2 := fr_b hy
  refine mps hy.1 ?_
  rw [Int.mul_comm, h2.2.2.1]
  exact Int.mul_pos hN h2.1
theorem fr_div {x y : Int × Int} {N D N' D' : Int} (hx : Fr x N D) (hy : Fr y N' D') (hN : 0 < N') : Fr (rd (x.1 * y.2) (x.2 * y.1)) (N * D') (D * N') := by
  have h1 := (fr_b hx).2.2.1
  have h2 := (fr_b hy).2.2.1
  refine ⟨Int.mul_pos hx.1 hN, rd_cross (Int.mul_pos (fr_b hx).1 (fr_pos hy hN)) (Int.mul_pos hx.1 hN) ?_⟩
  have e : x.1 * y.2 * (D * N') = (x.1 * D) * (N' * y.2) := by grind
  rw [e, h1, ← h2]; grind
theorem fr_sub {x y : Int × Int} {N D N' D' : Int} (hx : Fr x N D) (hy : Fr y N' D') : Fr (rd (x.1 * y.2 - y.1 * x.2) (x.2 * y.2)) (N * D' - N' * D) (D * D') := by
  have h1 := (fr_b hx).2.2.1
  have h2 := (fr_b hy).2.2.1
  refine ⟨Int.mul_pos hx.1 hy.1, rd_cross (Int.mul_pos (fr_b hx).1 (fr_b hy).1) (Int.mul_pos hx.1 hy.1) ?_⟩
  have e : (x.1 * y.2 - y.1 * x.2) * (D * D') = (x.1 * D) * (y.2 * D') - (y.1 * D') * (x.2 * D) := by grind
  rw [e, h1, h2]; grind
theorem zb {a b : Int} {m n : Nat} (ha : a.natAbs ≤ m) (hb : b.natAbs ≤ n) : (a * b).natAbs ≤ m * n := by
  rw [Int.natAbs_mul]; exact Nat.mul_le_mul ha hb
theorem lsF_eq {X Y : Nat → Int × Int} {k fr : Nat} {fo fu : Int} (h1 : X k = Y k) (h2 : X fr = Y fr) : lsF X k fr fo fu = lsF Y k fr fo fu := by
  unfold lsF lsA; rw [h1, h2]
theorem lsO_eq {X Y : Nat → Int × Int} {k fr : Nat} {fo fu : Int} (h1 : X k = Y k) (h2 : X fr = Y fr) (h : lsO Y k fr fo fu) : lsO X k fr fo fu := by
  unfold lsO lsA at *; rw [h1, h2]; exact h
theorem el_q_at {X : Nat → Int × Int} {c i : Nat} (hi : i ≠ c) (a b : Int) : ∀ n, n ≤ 6 → ∀ j, el_q X c i a b n j = if 6 * i ≤ j ∧ j < 6 * i + n then lsF X j (6 * c + (j - 6 * i)) a b else X j
  | 0, _, j => by rw [if_neg (by omega)]; rfl
  | n + 1, hn, j => by
    have ih := el_q_at (X := X) hi a b n (by omega)
    show mu (el_q X c i a b n) (6 * i + n) (lsF (el_q X c i a b n) (6 * i + n) (6 * c + n) a b) j = _
    by_cases hj : j = 6 * i + n
    · subst hj
      rw [mu_s, if_pos (by omega), Nat.add_sub_cancel_left]
      exact lsF_eq (by rw [ih, if_neg (by omega)]) (by rw [ih, if_neg (by omega)])
    · rw [mu_n hj, ih j]
      by_cases h2 : 6 * i ≤ j ∧ j < 6 * i + n
      · rw [if_pos h2, if_pos (by omega)]
      · rw [if_neg h2, if_neg (by omega)]
theorem el_row {X : Nat → Int × Int} {c i : Nat} (hi : i ≠ c) (hc : c < 5) {u D h P E : Int} {b e g : Nat → Int}
    (hx : ∀ q, q < 6 → Fr (X (6 * i + q)) (u * b q) D) (hy : ∀ q, q < 6 → Fr (X (6 * c + q)) (e q) E) (he : e c = P) (hP : 0 < P) (hP5 : P ≤ 100000) (hE5 : E ≤ 100000)
    (hub : ∀ q, q < 6 → (u * b q).natAbs ≤ D.natAbs) (heb : ∀ q, q < 6 → (e q).natAbs ≤ 100000) (hh : 0 < h) (hg : ∀ q, q < 6 → e q * h = g q * P) (hgb : ∀ q, q < 6 → (g q).natAbs ≤ h.natAbs)
    (hD7 : D ≤ 10000000) (hDh : D * (D * h) ≤ 1000000000000000000) :
    elO X c i ∧ ∀ q, q < 6 → Fr (lsF X (6 * i + q) (6 * c + q) (elA X c i).1 (elA X c i).2) (u * b q * (D * h) - u * b c * g q * D) (D * (D * h)) := by
  have fx := hx c (by omega)
  have fy := hy c (by omega)
  rw [he] at fy
  have hD := fx.1
  have bx := fr_b fx
  have ax := fr_ab fx (hub c (by omega))
  have by1 := fr_b fy
  have py := fr_pos fy hP
  have fA : Fr (elA X c i) (u * b c * E) (D * P) := fr_div fx fy hP
  have n1 : ((X (6 * i + c)).1 * (X (6 * c + c)).2).natAbs ≤ 10000000 * 100000 := zb (by omega) (by omega)
  have n2 : ((X (6 * i + c)).2 * (X (6 * c + c)).1).natAbs ≤ 10000000 * 100000 := zb (by omega) (by omega)
  have p2 : 0 < (X (6 * i + c)).2 * (X (6 * c + c)).1 := Int.mul_pos bx.1 py
  have a1 : (elA X c i).1.natAbs ≤ 10000000 * 100000 := Nat.le_trans (rd_abs _ _) n1
  have a2 : 0 < (elA X c i).2 := (fr_b fA).1
  have a3 : (elA X c i).2 ≤ (X (6 * i + c)).2 * (X (6 * c + c)).1 := rd_le p2
  have fL : ∀ q, q < 6 → Fr (lsA X (6 * c + q) (elA X c i).1 (elA X c i).2) (u * b c * g q) (D * h) := fun q hq => by
    refine fr_cross (fr_mul fA (hy q hq)) (Int.mul_pos hD hh) ?_
    have h3 := hg q hq
    have e1 : u * b c * E * e q * (D * h) = u * b c * E * D * (e q * h) := by grind
    rw [e1, h3]; grind
  have fF : ∀ q, q < 6 → Fr (lsF X (6 * i + q) (6 * c + q) (elA X c i).1 (elA X c i).2) (u * b q * (D * h) - u * b c * g q * D) (D * (D * h)) := fun q hq => fr_sub (hx q hq) (fL q hq)
  have hO : ∀ q, q < 6 → lsO X (6 * i + q) (6 * c + q) (elA X c i).1 (elA X c i).2 := fun q hq => by
    have bz := fr_b (hy q hq)
    have bL := fr_b (fL q hq)
    have bw := fr_b (hx q hq)
    have aw := fr_ab (hx q hq) (hub q hq)
    have aL := fr_ab (fL q hq) (by rw [Int.natAbs_mul (u * b c), Int.natAbs_mul D]; exact Nat.mul_le_mul (hub c (by omega)) (hgb q hq))
    have eb := heb q hq
    have m1 : ((elA X c i).1 * (X (6 * c + q)).1).natAbs ≤ 10000000 * 100000 * 100000 := zb a1 (by omega)
    have m2 : ((elA X c i).2 * (X (6 * c + q)).2).natAbs ≤ 10000000 * 100000 * 100000 := zb (by omega) (by omega)
    have m3 : 0 < (elA X c i).2 * (X (6 * c + q)).2 := Int.mul_pos a2 bz.1
    have k1 : (X (6 * i + q)).2 * (lsA X (6 * c + q) (elA X c i).1 (elA X c i).2).2 ≤ D * (D * h) := Int.mul_le_mul bw.2.1 bL.2.1 (Int.le_of_lt bL.1) (Int.le_of_lt hD)
    have k2 : 0 < (X (6 * i + q)).2 * (lsA X (6 * c + q) (elA X c i).1 (elA X c i).2).2 := Int.mul_pos bw.1 bL.1
    have k3 : ((X (6 * i + q)).1 * (lsA X (6 * c + q) (elA X c i).1 (elA X c i).2).2).natAbs ≤ ((X (6 * i + q)).2 * (lsA X (6 * c + q) (elA X c i).1 (elA X c i).2).2).natAbs := by
      rw [Int.natAbs_mul, Int.natAbs_mul]; exact Nat.mul_le_mul_right _ aw
    have k4 : ((lsA X (6 * c + q) (elA X c i).1 (elA X c i).2).1 * (X (6 * i + q)).2).natAbs ≤ ((X (6 * i + q)).2 * (lsA X (6 * c + q) (elA X c i).1 (elA X c i).2).2).natAbs := by
      rw [Int.natAbs_mul, Int.natAbs_mul, Nat.mul_comm]; exact Nat.mul_le_mul_left _ aL
    exact ⟨⟨by omega, by omega⟩, m3, by omega, ⟨by omega, by omega⟩, bw.1, by omega⟩
  refine ⟨fun _ => ⟨⟨by omega, by omega⟩, fun _ => ⟨⟨by omega, by omega⟩, p2, by omega, fun q hq => ?_⟩⟩, fF⟩
  refine lsO_eq ?_ ?_ (hO q hq)
  · rw [el_q_at hi _ _ q (by omega), if_neg (by omega)]
  · rw [el_q_at hi _ _ q (by omega), if_neg (by omega)]
theorem el_tgt {u D h P pc w uc bq bc bn e g : Int} (hpc : 0 < pc) (h1 : u * (w * pc) = uc * D) (h2 : pc * bn = P * bq - bc * e) (h3 : e * h = g * P) :
    (u * bq * (D * h) - u * bc * g * D) * (w * P) = uc * bn * (D * (D * h)) := by
  refine Int.eq_of_mul_eq_mul_left (Int.ne_of_gt hpc) ?_
  have e1 : pc * ((u * bq * (D * h) - u * bc * g * D) * (w * P)) = (u * (w * pc)) * D * (bq * h * P - bc * (g * P)) := by grind
  have e2 : pc * (uc * bn * (D * (D * h))) = uc * D * D * h * (pc * bn) := by grind
  rw [e1, e2, h1, h2, ← h3]; grind
/-! sinks -/
theorem sk_row {a : Nat → Nat → Int} {B : Nat → Nat → Nat → Int} {p : Nat → Int} (hz : Bz a B p) (hp : ∀ k, k ≤ 5 → 0 < p k) {s : Nat} (hs : s < 5) (h0 : ∀ q, q < 5 → q ≠ s → a s q = 0) : ∀ k, k ≤ s → ∀ q, q < 6 → B k s q = p k * a s q
  | 0, _, q, _ => by rw [hz.2.1, hz.1, Int.one_mul]
  | k + 1, hk, q, hq => by
    have ih := sk_row hz hp hs h0 k (by omega)
    have st := hz.2.2.2.2 k (by omega) s q (by omega) hq
    have hk0 := hp k (by omega)
    rw [ih q hq, ih k (by omega), h0 k (by omega) (by omega), Int.mul_zero, Int.zero_mul, Int.sub_zero] at st
    refine Int.eq_of_mul_eq_mul_left (Int.ne_of_gt hk0) ?_
    rw [st]; grind
theorem sk_col {a : Nat → Nat → Int} {B : Nat → Nat → Nat → Int} {p : Nat → Int} (hz : Bz a B p) (hp : ∀ k, k ≤ 5 → 0 < p k) (h0 : ∀ r, r < 5 → a r 5 = 0) : ∀ k, k ≤ 5 → ∀ r, r < 5 → B k r 5 = 0
  | 0, _, r, hr => by rw [hz.2.1, h0 r hr]
  | k + 1, hk, r, hr => by
    have ih := sk_col hz hp h0 k (by omega)
    by_cases e : r = k
    · subst e; rw [hz.2.2.2.1 r (by omega), ih r hr]
    · have st := hz.2.2.2.2 k (by omega) r 5 e (by omega)
      rw [ih r hr, ih k (by omega), Int.mul_zero, Int.mul_zero, Int.sub_zero] at st
      exact mz (hp k (by omega)) st
def uc (p : Nat → Int) (c i : Nat) : Int := if i < c then p (i + 1) else 1
def wc (p : Nat → Int) (c i : Nat) : Int := if i < c then 10 * p i else 10
def Rp (B : Nat → Nat → Nat → Int) (p : Nat → Int) (c i : Nat) : Prop := ∃ (u D h : Int) (g : Nat → Int), u * (wc p c i * p c) = uc p c i * D ∧ 0 < D ∧ 0 < h ∧ (∀ q, q < 6 → B c c q * h = g q * p (c + 1)) ∧ ((D ≤ 1000000 ∧ h ≤ 100000) ∨ (D ≤ 10000000 ∧ h ≤ 10))
theorem pl {x y : Int} {m n : Int} (hx : 0 < x) (hy : 0 < y) (h1 : x ≤ m) (h2 : y ≤ n) : 0 < x * y ∧ x * y ≤ m * n := ⟨Int.mul_pos hx hy, Int.mul_le_mul h1 h2 (Int.le_of_lt hy) (Int.le_trans (Int.le_of_lt hx) h1)⟩
theorem rp_ok {v : Nat → Int} {a : Nat → Nat → Int} {B : Nat → Nat → Nat → Int} {p : Nat → Int} (hz : Bz a B p) (hB : ∀ k, k ≤ 5 → Bi v B p k) (ha : ∀ r, r < 5 → a r r ≤ 10) (hsk : ∀ r, r < 5 → a r 5 = 0 ∨ ((∀ q, q < 5 → q ≠ r → a r q = 0) ∧ a r r = 10)) {c i : Nat} (hc : c < 5) (hi : i < 5) (hne : i ≠ c) : Rp B p c i ∨ B c i c = 0 := by
  have hp : ∀ k, k ≤ 5 → 0 < p k := fun k hk => (hB k hk).1
  have hl := bi_le hz hB
  have p0 : p 0 = 1 := hz.1
  have b1 := hl 1 (by omega); have b2 := hl 2 (by omega); have b3 := hl 3 (by omega); have b4 := hl 4 (by omega); have b5 := hl 5 (by omega)
  have q1 := hp 1 (by omega); have q2 := hp 2 (by omega); have q3 := hp 3 (by omega); have q4 := hp 4 (by omega); have q5 := hp 5 (by omega)
  have dflt : ∀ D, wc p c i * p c = D → 0 < D → D ≤ 1000000 → p (c + 1) ≤ 100000 → Rp B p c i := fun D e h0 h1 h2 => ⟨uc p c i, D, p (c + 1), B c c, by rw [e], h0, hp (c + 1) (by omega), fun q _ => rfl, Or.inl ⟨h1, h2⟩⟩
  by_cases h4 : c = 4
  · subst h4
    rcases (show i = 0 ∨ i = 1 ∨ i = 2 ∨ i = 3 by omega) with rfl | rfl | rfl | rfl
    · left; refine dflt (10 * p 0 * p 4) rfl ?_ ?_ (by show p 5 ≤ _; omega)
      · rw [p0]; omega
      · rw [p0]; omega
    · left
      have := pl q1 q4 (m := 10) (n := 10000) (by omega) (by omega)
      refine dflt (10 * p 1 * p 4) rfl ?_ ?_ (by show p 5 ≤ _; omega)
      · rw [Int.mul_assoc]; omega
      · rw [Int.mul_assoc]; omega
    · have h24 := pl q2 q4 (m := 100) (n := 10000) (by omega) (by omega)
      by_cases hno : ∀ r, r < 5 → a r 5 = 0
      · left
        refine ⟨p 3, 10 * (p 2 * p 4), 1, fun q => if q = 4 then 1 else 0, ?_, by omega, by omega, fun q hq => ?_, Or.inr ⟨by omega, by omega⟩⟩
        · show p 3 * (10 * p 2 * p 4) = p 3 * (10 * (p 2 * p 4)); rw [Int.mul_assoc 10]
        · show B 4 4 q * 1 = (if q = 4 then 1 else 0) * p (4 + 1)
          by_cases e4 : q = 4
          · subst e4; rw [if_pos rfl, Int.mul_one, Int.one_mul]; exact (hz.2.2.1 4 (by omega)).symm
          · rw [if_neg e4, Int.mul_one, Int.zero_mul]
            by_cases e5 : q = 5
            · subst e5; exact sk_col hz hp hno 4 (by omega) 4 (by omega)
            · exact ((hB 4 (by omega)).2 4 (by omega)).2.2.2 q (by omega) (by omega) e4
      · obtain ⟨s, hs⟩ : ∃ s, ¬ (s < 5 → a s 5 = 0) := Classical.not_forall.mp hno
        have hs5 : s < 5 := Decidable.byContradiction (fun h => hs (fun h2 => absurd h2 h))
        have hs0 : a s 5 ≠ 0 := fun h => hs (fun _ => h)
        obtain ⟨k1, k2⟩ := (hsk s hs5).resolve_left hs0
        have row := sk_row hz hp hs5 k1
        have piv : p (s + 1) = 10 * p s := by rw [hz.2.2.1 s hs5, row s (Nat.le_refl s) s (by omega), k2, Int.mul_comm]
        rcases (show s = 0 ∨ s = 1 ∨ s = 2 ∨ s = 3 ∨ s = 4 by omega) with rfl | rfl | rfl | rfl | rfl
        · left
          have z : ∀ r q, r ≠ 0 → 1 ≤ q → q < 5 → B 1 r q = 10 * a r q := fun r q hr h1 h5 => by
            have st := hz.2.2.2.2 0 (by omega) r q hr (by omega)
            rw [hz.1, Int.one_mul, hz.2.1, hz.2.1, hz.2.1, k1 q h5 (by omega), Int.mul_zero, Int.sub_zero, piv, hz.1] at st
            rw [st]; omega
          have e2 : p 2 = 10 * a 1 1 := by rw [hz.2.2.1 1 (by omega), z 1 1 (by omega) (by omega) (by omega)]
          have e1 : p 1 = 10 := by rw [piv, hz.1]; rfl
          have e3 : p 3 = 10 * (a 1 1 * a 2 2 - a 2 1 * a 1 2) := by
            have st := hz.2.2.2.2 1 (by omega) 2 2 (by omega) (by omega)
            rw [z 2 2 (by omega) (by omega) (by omega), z 2 1 (by omega) (by omega) (by omega), z 1 2 (by omega) (by omega) (by omega), ← hz.2.2.1 2 (by omega), e1, e2] at st
            grind
          have ha1 := ha 1 (by omega)
          have hb1 : 0 < a 1 1 := by omega
          have := pl hb1 q4 (m := 10) (n := 10000) (by omega) (by omega)
          refine ⟨a 1 1 * a 2 2 - a 2 1 * a 1 2, 10 * (a 1 1 * p 4), p 5, B 4 4, ?_, by omega, q5, fun q _ => rfl, Or.inl ⟨by omega, by omega⟩⟩
          show (a 1 1 * a 2 2 - a 2 1 * a 1 2) * (10 * p 2 * p 4) = p 3 * (10 * (a 1 1 * p 4))
          rw [e2, e3]; grind
        · left
          have e3 : p 3 = 10 * B 1 2 2 := by
            have st := hz.2.2.2.2 1 (by omega) 2 2 (by omega) (by omega)
            rw [row 1 (by omega) 2 (by omega), k1 2 (by omega) (by omega), Int.mul_zero, Int.mul_zero, Int.sub_zero, ← hz.2.2.1 2 (by omega), piv] at st
            refine Int.eq_of_mul_eq_mul_left (Int.ne_of_gt q1) ?_
            rw [st]; grind
          have := pl q1 q4 (m := 10) (n := 10000) (by omega) (by omega)
          refine ⟨B 1 2 2, 10 * (p 1 * p 4), p 5, B 4 4, ?_, by omega, q5, fun q _ => rfl, Or.inl ⟨by omega, by omega⟩⟩
          show B 1 2 2 * (10 * p 2 * p 4) = p 3 * (10 * (p 1 * p 4))
          rw [e3, piv]; grind
        · right
          have r3 : ∀ q, q < 5 → q ≠ 2 → B 3 2 q = 0 := fun q hq hn => by rw [hz.2.2.2.1 2 (by omega), row 2 (by omega) q (by omega), k1 q hq hn, Int.mul_zero]
          have st := hz.2.2.2.2 3 (by omega) 2 4 (by omega) (by omega)
          rw [r3 4 (by omega) (by omega), r3 3 (by omega) (by omega), Int.mul_zero, Int.zero_mul, Int.sub_zero] at st
          exact mz q3 st
        · left
          refine ⟨1, 100 * p 2, p 5, B 4 4, ?_, by omega, q5, fun q _ => rfl, Or.inl ⟨by omega, by omega⟩⟩
          show 1 * (10 * p 2 * p 4) = p 3 * (100 * p 2)
          rw [piv]; grind
        · left
          refine ⟨p 3, 10 * (p 2 * p 4), 10, a 4, ?_, by omega, by omega, fun q hq => ?_, Or.inr ⟨by omega, by omega⟩⟩
          · show p 3 * (10 * p 2 * p 4) = p 3 * (10 * (p 2 * p 4)); rw [Int.mul_assoc 10]
          · rw [row 4 (by omega) q hq, piv]; grind
    · left
      refine ⟨1, 10 * p 3, p 5, B 4 4, ?_, by omega, q5, fun q _ => rfl, Or.inl ⟨by omega, by omega⟩⟩
      show 1 * (10 * p 3 * p 4) = p 4 * (10 * p 3)
      grind
  · left
    by_cases hic : i < c
    · have e : wc p c i * p c = 10 * (p i * p c) := by unfold wc; rw [if_pos hic, Int.mul_assoc]
      have hpi : p i ≤ 100 := by
        rcases (show i = 0 ∨ i = 1 ∨ i = 2 by omega) with rfl | rfl | rfl <;> omega
      have hpc : p c ≤ 1000 := by
        rcases (show c = 1 ∨ c = 2 ∨ c = 3 by omega) with rfl | rfl | rfl <;> omega
      have := pl (hp i (by omega)) (hp c (by omega)) hpi hpc
      refine dflt _ e (by omega) (by omega) (pw_5 (hl (c + 1) (by omega)) (by omega))
    · have e : wc p c i * p c = 10 * p c := by unfold wc; rw [if_neg hic]
      have hpc := pw_5 (hl c (by omega)) (by omega)
      have := hp c (by omega)
      refine dflt _ e (by omega) (by omega) (pw_5 (hl (c + 1) (by omega)) (by omega))
