/-! the reference's elimination, all steps -/
theorem uc_s {p : Nat → Int} {c i : Nat} (h : i ≠ c) : uc p (c + 1) i = uc p c i := by
  unfold uc
  by_cases h1 : i < c
  · rw [if_pos h1, if_pos (by omega)]
  · rw [if_neg h1, if_neg (by omega)]
theorem wc_s {p : Nat → Int} {c i : Nat} (h : i ≠ c) : wc p (c + 1) i = wc p c i := by
  unfold wc
  by_cases h1 : i < c
  · rw [if_pos h1, if_pos (by omega)]
  · rw [if_neg h1, if_neg (by omega)]
def Ro (B : Nat → Nat → Nat → Int) (p : Nat → Int) (X : Nat → Int × Int) (c i : Nat) : Prop := ∀ q, q < 6 → X (6 * i + q) = rd (uc p c i * B c i q) (wc p c i * p c)
theorem el_r_off {X : Nat → Int × Int} {c i j : Nat} (hj : ¬ (6 * i ≤ j ∧ j < 6 * i + 6)) : el_r X c i j = X j := by
  unfold el_r
  by_cases h : i ≠ c ∧ (X (6 * i + c)).1 ≠ 0
  · rw [if_pos h, el_q_at h.1 _ _ 6 (Nat.le_refl 6), if_neg hj]
  · rw [if_neg h]
theorem el_z {a : Nat → Nat → Int} {B : Nat → Nat → Nat → Int} {p : Nat → Int} (hz : Bz a B p) (hp : ∀ k, k ≤ 5 → 0 < p k) {c i q : Nat} (hc : c < 5) (hne : i ≠ c) (hq : q < 6) (hw : 0 < wc p c i) (h0 : B c i c = 0) : rd (uc p c i * B c i q) (wc p c i * p c) = rd (uc p (c + 1) i * B (c + 1) i q) (wc p (c + 1) i * p (c + 1)) := by
  have st := hz.2.2.2.2 c hc i q hne hq
  rw [h0, Int.zero_mul, Int.sub_zero] at st
  rw [uc_s hne, wc_s hne]
  refine rd_cross (Int.mul_pos hw (hp c (by omega))) (Int.mul_pos hw (hp (c + 1) (by omega))) ?_
  have e1 : uc p c i * B c i q * (wc p c i * p (c + 1)) = uc p c i * wc p c i * (p (c + 1) * B c i q) := by grind
  rw [e1, ← st]; grind
theorem ab_x {x y X Y : Int} (h : x * Y = y * X) (hY : 0 < Y) (hy : y.natAbs ≤ Y.natAbs) : x.natAbs ≤ X.natAbs := by
  have e := congrArg Int.natAbs h
  rw [Int.natAbs_mul, Int.natAbs_mul] at e
  refine Nat.le_of_mul_le_mul_right (c := Y.natAbs) ?_ (by omega)
  rw [e, Nat.mul_comm X.natAbs]
  exact Nat.mul_le_mul_right _ hy
theorem el_cb {v : Nat → Int} (hv : ∀ q, q < 5 → 0 < v q) {a : Nat → Nat → Int} {B : Nat → Nat → Nat → Int} {p : Nat → Int} (hz : Bz a B p) (hB : ∀ k, k ≤ 5 → Bi v B p k) {c i q : Nat} (hc : c ≤ 5) (hi : i < 5) (hq : q < 6) : (uc p c i * B c i q).natAbs ≤ (wc p c i * p c).natAbs := by
  have hb := bi_abs hv (hB c hc) hi hq
  unfold uc wc
  by_cases h : i < c
  · rw [if_pos h, if_pos h, Int.natAbs_mul, Int.natAbs_mul]
    refine Nat.mul_le_mul ?_ (hb.2 h)
    have h1 := ((hB i (by omega)).2 i hi).2.1 (Nat.le_refl i)
    have h2 := hz.2.2.1 i hi
    have h3 := (hB (i + 1) (by omega)).1
    omega
  · rw [if_neg h, if_neg h, Int.one_mul]; exact hb.1
theorem wc_pos {v : Nat → Int} {B : Nat → Nat → Nat → Int} {p : Nat → Int} (hB : ∀ k, k ≤ 5 → Bi v B p k) {c i : Nat} (hi : i ≤ 5) : 0 < wc p c i := by
  unfold wc
  have := (hB i hi).1
  by_cases h : i < c
  · rw [if_pos h]; omega
  · rw [if_neg h]; omega
theorem uc_pos {v : Nat → Int} {B : Nat → Nat → Nat → Int} {p : Nat → Int} (hB : ∀ k, k ≤ 5 → Bi v B p k) {c i : Nat} (hi : i < 5) : 0 < uc p c i := by
  unfold uc
  have := (hB (i + 1) (by omega)).1
  by_cases h : i < c
  · rw [if_pos h]; omega
  · rw [if_neg h]; omega
theorem ro_cc {B : Nat → Nat → Nat → Int} {p : Nat → Int} {X : Nat → Int × Int} {c : Nat} (h : Ro B p X c c) (hp : 0 < p c) {q : Nat} (hq : q < 6) : Fr (X (6 * c + q)) (B c c q) (10 * p c) := by
  refine ⟨by omega, ?_⟩
  rw [h q hq]; unfold uc wc
  rw [if_neg (by omega), if_neg (by omega), Int.one_mul]
theorem el_r_ok {v : Nat → Int} (hv : ∀ q, q < 5 → 0 < v q) {a : Nat → Nat → Int} {B : Nat → Nat → Nat → Int} {p : Nat → Int} (hz : Bz a B p) (hB : ∀ k, k ≤ 5 → Bi v B p k) (ha : ∀ r, r < 5 → a r r ≤ 10) (hsk : ∀ r, r < 5 → a r 5 = 0 ∨ ((∀ q, q < 5 → q ≠ r → a r q = 0) ∧ a r r = 10)) {X : Nat → Int × Int} {c i : Nat} (hc : c < 5) (hi : i < 5) (hne : i ≠ c) (hri : Ro B p X c i) (hrc : Ro B p X c c) : elO X c i ∧ Ro B p (el_r X c i) (c + 1) i := by
  have hp : ∀ k, k ≤ 5 → 0 < p k := fun k hk => (hB k hk).1
  have hw : 0 < wc p c i := wc_pos hB (by omega)
  have hu0 : 0 < uc p c i := uc_pos hB hi
  have hpc := hp c (by omega)
  have hP := hp (c + 1) (by omega)
  have hP5 := pw_5 (bi_le hz hB (c + 1) (by omega)) (by omega)
  have hD0 : 0 < wc p c i * p c := Int.mul_pos hw hpc
  have hzero : B c i c = 0 → (X (6 * i + c)).1 = 0 := fun h0 => by
    rw [hri c (by omega), h0, Int.mul_zero, rd_0 hD0]
  have hback : (X (6 * i + c)).1 = 0 → B c i c = 0 := fun h0 => by
    have f := fr_b (x := X (6 * i + c)) ⟨hD0, hri c (by omega)⟩
    rw [h0, Int.zero_mul] at f
    have h1 := mz f.1 (show (X (6 * i + c)).2 * (uc p c i * B c i c) = 0 by rw [Int.mul_comm]; exact f.2.2.1.symm)
    exact mz hu0 h1
  have hsk0 : B c i c = 0 → Ro B p (el_r X c i) (c + 1) i := fun h0 q hq => by
    have e : el_r X c i = X := by unfold el_r; rw [if_neg (fun h => h.2 (hzero h0))]
    rw [e, hri q hq]
    exact el_z hz hp hc hne hq hw h0
  rcases rp_ok hz hB ha hsk hc hi hne with ⟨u, D, h, g, e1, hD, hh, hg, hbd⟩ | h0
  · have hx : ∀ q, q < 6 → Fr (X (6 * i + q)) (u * B c i q) D := fun q hq => by
      refine fr_cross ⟨hD0, hri q hq⟩ hD ?_
      have e2 : uc p c i * B c i q * D = uc p c i * D * B c i q := by grind
      rw [e2, ← e1]; grind
    have hub : ∀ q, q < 6 → (u * B c i q).natAbs ≤ D.natAbs := fun q hq => by
      refine ab_x (Y := wc p c i * p c) (y := uc p c i * B c i q) ?_ hD0 (el_cb hv hz hB (by omega) hi hq)
      have e2 : u * B c i q * (wc p c i * p c) = u * (wc p c i * p c) * B c i q := by grind
      rw [e2, e1]; grind
    have heb : ∀ q, q < 6 → (B c c q).natAbs ≤ (p (c + 1)).natAbs := fun q hq => by
      rw [← hz.2.2.2.1 c hc q]
      exact (bi_abs hv (hB (c + 1) (by omega)) hc hq).2 (by omega)
    have hgb : ∀ q, q < 6 → (g q).natAbs ≤ h.natAbs := fun q hq => ab_x (Y := p (c + 1)) (y := B c c q) (by rw [← hg q hq]) hP (heb q hq)
    have hE5 : 10 * p c ≤ 100000 := by
      have := bi_le hz hB c (by omega)
      rcases (show c = 0 ∨ c = 1 ∨ c = 2 ∨ c = 3 ∨ c = 4 by omega) with rfl | rfl | rfl | rfl | rfl <;> omega
    have hDh : D * (D * h) ≤ 1000000000000000000 := by
      rcases hbd with ⟨d1, d2⟩ | ⟨d1, d2⟩
      · have k1 := pl hD hh d1 d2
        have k2 := pl hD k1.1 d1 k1.2
        omega
      · have k1 := pl hD hh d1 d2
        have k2 := pl hD k1.1 d1 k1.2
        omega
    obtain ⟨o, f⟩ := el_row hne hc hx (fun q hq => ro_cc hrc hpc hq) (hz.2.2.1 c hc).symm hP hP5 hE5 hub (fun q hq => by have := heb q hq; omega) hh hg hgb (by omega) hDh
    refine ⟨o, ?_⟩
    by_cases hx0 : (X (6 * i + c)).1 = 0
    · exact hsk0 (hback hx0)
    · intro q hq
      unfold el_r
      rw [if_pos ⟨hne, hx0⟩, el_q_at hne _ _ 6 (Nat.le_refl 6), if_pos (by omega), Nat.add_sub_cancel_left, (f q hq).2, uc_s hne, wc_s hne]
      exact rd_cross (f q hq).1 (Int.mul_pos hw hP) (el_tgt hpc e1 (hz.2.2.2.2 c hc i q hne hq) (hg q hq))
  · refine ⟨fun _ => ?_, hsk0 h0⟩
    rw [hzero h0]
    exact ⟨zR_0, fun h => absurd rfl h⟩
theorem el_i_ok {v : Nat → Int} (hv : ∀ q, q < 5 → 0 < v q) {a : Nat → Nat → Int} {B : Nat → Nat → Nat → Int} {p : Nat → Int} (hz : Bz a B p) (hB : ∀ k, k ≤ 5 → Bi v B p k) (ha : ∀ r, r < 5 → a r r ≤ 10) (hsk : ∀ r, r < 5 → a r 5 = 0 ∨ ((∀ q, q < 5 → q ≠ r → a r q = 0) ∧ a r r = 10)) {X : Nat → Int × Int} {np c : Nat} (h5 : np ≤ 5) (hc : c < np) (hX : ∀ i, i < np → Ro B p X c i) : ∀ n, n ≤ np → ∀ i, i < np → (i < n → i ≠ c → Ro B p (el_i X c n) (c + 1) i) ∧ ((n ≤ i ∨ i = c) → Ro B p (el_i X c n) c i)
  | 0, _, i, hi => ⟨fun h => absurd h (by omega), fun _ => hX i hi⟩
  | n + 1, hn, i, hi => by
    have ih := el_i_ok hv hz hB ha hsk h5 hc hX n (by omega)
    have e : el_i X c (n + 1) = el_r (el_i X c n) c n := rfl
    rw [e]
    by_cases hnc : n = c
    · have e2 : el_r (el_i X c n) c n = el_i X c n := by unfold el_r; rw [if_neg (fun h => h.1 hnc)]
      rw [e2]
      exact ⟨fun h1 h2 => (ih i hi).1 (by omega) h2, fun h => (ih i hi).2 (by omega)⟩
    · have r := el_r_ok hv hz hB ha hsk (X := el_i X c n) (by omega) (show n < 5 by omega) hnc ((ih n (by omega)).2 (Or.inl (Nat.le_refl n))) ((ih c hc).2 (Or.inr rfl))
      have off : ∀ i, i ≠ n → ∀ q, q < 6 → el_r (el_i X c n) c n (6 * i + q) = el_i X c n (6 * i + q) := fun i hin q hq => el_r_off (by omega)
      by_cases hin : i = n
      · subst hin
        exact ⟨fun _ _ => r.2, fun h => absurd h (by omega)⟩
      · exact ⟨fun h1 h2 q hq => by rw [off i hin q hq]; exact (ih i hi).1 (by omega) h2 q hq, fun h q hq => by rw [off i hin q hq]; exact (ih i hi).2 (by omega) q hq⟩
theorem el_c_ok {v : Nat → Int} (hv : ∀ q, q < 5 → 0 < v q) {a : Nat → Nat → Int} {B : Nat → Nat → Nat → Int} {p : Nat → Int} (hz : Bz a B p) (hB : ∀ k, k ≤ 5 → Bi v B p k) (ha : ∀ r, r < 5 → a r r ≤ 10) (hsk : ∀ r, r < 5 → a r 5 = 0 ∨ ((∀ q, q < 5 → q ≠ r → a r q = 0) ∧ a r r = 10)) {X : Nat → Int × Int} {np : Nat} (h5 : np ≤ 5) (h0 : ∀ i q, i < np → q < 6 → X (6 * i + q) = rd (a i q) 10) : ∀ c, c ≤ np → ∀ i, i < np → Ro B p (el_c X np c) c i
  | 0, _, i, hi => fun q hq => by
    show X (6 * i + q) = _
    rw [h0 i q hi hq]; unfold uc wc
    rw [if_neg (by omega), if_neg (by omega), hz.1, Int.one_mul, hz.2.1]; rfl
  | c + 1, hc, i, hi => by
    have ih := el_c_ok hv hz hB ha hsk h5 h0 c (by omega)
    have r := el_i_ok hv hz hB ha hsk h5 (show c < np by omega) ih np (Nat.le_refl np) i hi
    show Ro B p (el_i (el_c X np c) c np) (c + 1) i
    by_cases e : i = c
    · subst e
      intro q hq
      rw [r.2 (Or.inr rfl) q hq]
      have q0 := (hB i (by omega)).1
      have q1 := (hB (i + 1) (by omega)).1
      unfold uc wc
      rw [if_neg (by omega), if_neg (by omega), if_pos (by omega), if_pos (by omega), hz.2.2.2.1 i (by omega)]
      refine rd_cross (by omega) (Int.mul_pos (by omega) q1) ?_
      grind
    · exact r.1 hi e
theorem el_all {v : Nat → Int} (hv : ∀ q, q < 5 → 0 < v q) {a : Nat → Nat → Int} {B : Nat → Nat → Nat → Int} {p : Nat → Int} (hz : Bz a B p) (hB : ∀ k, k ≤ 5 → Bi v B p k) (ha : ∀ r, r < 5 → a r r ≤ 10) (hsk : ∀ r, r < 5 → a r 5 = 0 ∨ ((∀ q, q < 5 → q ≠ r → a r q = 0) ∧ a r r = 10)) {X : Nat → Int × Int} {np : Nat} (h5 : np ≤ 5) (h0 : ∀ i q, i < np → q < 6 → X (6 * i + q) = rd (a i q) 10) (c : Nat) (hc : c < np) : elP (el_c X np c) c ∧ ∀ i, i < np → elO (el_i (el_c X np c) c i) c i := by
  have R := el_c_ok hv hz hB ha hsk h5 h0 c (by omega)
  have hpc := (hB c (by omega)).1
  have hP := (hB (c + 1) (by omega)).1
  have hP5 := pw_5 (bi_le hz hB (c + 1) (by omega)) (by omega)
  constructor
  · have f := ro_cc (R c hc) hpc (show c < 6 by omega)
    rw [← hz.2.2.1 c (by omega)] at f
    have h1 := fr_pos f hP
    have h2 := (fr_b f).2.2.2
    exact ⟨⟨by omega, by omega⟩, Int.ne_of_gt h1⟩
  · intro i hi
    by_cases e : i = c
    · exact fun h => absurd e h
    · have I := el_i_ok hv hz hB ha hsk h5 hc R i (by omega)
      exact (el_r_ok hv hz hB ha hsk (by omega) (by omega) e ((I i hi).2 (Or.inl (Nat.le_refl i))) ((I c hc).2 (Or.inr rfl))).1
theorem wo_up {v : Nat → Int} {a : Nat → Nat → Int} {B : Nat → Nat → Nat → Int} {p : Nat → Int} (hz : Bz a B p) (hB : ∀ k, k ≤ 5 → Bi v B p k) {np i : Nat} (hi : i < np) (hhi : ∀ k, np ≤ k → k < 5 → (∀ q, q < 5 → q ≠ k → a k q = 0) ∧ a k 5 = 0) : ∀ n, np + n ≤ 5 → rd (B (np + n) i 5) (p (np + n)) = rd (B np i 5) (p np)
  | 0, _ => rfl
  | n + 1, hn => by
    rw [← wo_up hz hB hi hhi n (by omega)]
    have hp : ∀ k, k ≤ 5 → 0 < p k := fun k hk => (hB k hk).1
    have hh := hhi (np + n) (by omega) (by omega)
    have st := hz.2.2.2.2 (np + n) (by omega) i 5 (by omega) (by omega)
    rw [sk_row hz hp (show np + n < 5 by omega) hh.1 (np + n) (Nat.le_refl _) 5 (by omega), hh.2, Int.mul_zero, Int.mul_zero, Int.sub_zero] at st
    refine rd_cross (hp (np + (n + 1)) (by omega)) (hp (np + n) (by omega)) ?_
    rw [Int.mul_comm]
    show p (np + n) * B (np + n + 1) i 5 = _
    rw [st, Int.mul_comm]
    rfl
theorem wo_all {v : Nat → Int} (hv : ∀ q, q < 5 → 0 < v q) {a : Nat → Nat → Int} {B : Nat → Nat → Nat → Int} {p : Nat → Int} (hz : Bz a B p) (hB : ∀ k, k ≤ 5 → Bi v B p k) (ha : ∀ r, r < 5 → a r r ≤ 10) (hsk : ∀ r, r < 5 → a r 5 = 0 ∨ ((∀ q, q < 5 → q ≠ r → a r q = 0) ∧ a r r = 10)) {X : Nat → Int × Int} {np : Nat} (h5 : np ≤ 5) (h0 : ∀ i q, i < np → q < 6 → X (6 * i + q) = rd (a i q) 10) (hhi : ∀ k, np ≤ k → k < 5 → (∀ q, q < 5 → q ≠ k → a k q = 0) ∧ a k 5 = 0) (i : Nat) (hi : i < np) : woO (el_c X np np) i ∧ wo (el_c X np np) i = rd (B 5 i 5) (p 5) := by
  have R := el_c_ok hv hz hB ha hsk h5 h0 np (Nat.le_refl np) i hi
  have hp : ∀ k, k ≤ 5 → 0 < p k := fun k hk => (hB k hk).1
  have hpi := hp i (by omega)
  have hpn := hp np h5
  have hP := hp (i + 1) (by omega)
  have li := pw_5 (bi_le hz hB i (by omega)) (by omega)
  have ln := pw_5 (bi_le hz hB np h5) h5
  have lP := pw_5 (bi_le hz hB (i + 1) (by omega)) (by omega)
  have hw : wc p np i = 10 * p i := by unfold wc; rw [if_pos hi]
  have hu : uc p np i = p (i + 1) := by unfold uc; rw [if_pos hi]
  have hD0 : 0 < 10 * p i * p np := Int.mul_pos (by omega) hpn
  have x5 : Fr (el_c X np np (6 * i + 5)) (p (i + 1) * B np i 5) (10 * p i * p np) := ⟨hD0, by rw [R 5 (by omega), hw, hu]⟩
  have xi : Fr (el_c X np np (6 * i + i)) (p (i + 1)) (10 * p i) := by
    refine fr_cross (N := p (i + 1) * B np i i) (D := 10 * p i * p np) ⟨hD0, by rw [R i (by omega), hw, hu]⟩ (by omega) ?_
    rw [((hB np h5).2 i (by omega)).2.2.1 hi]; grind
  have ab := fr_ab x5 (by have := el_cb hv hz hB h5 (show i < 5 by omega) (show 5 < 6 by omega); rw [hw, hu] at this; exact this)
  have b5 := fr_b x5
  have bi := fr_b xi
  have py := fr_pos xi hP
  have k1 := pl hpi hpn li ln
  have eD : 10 * p i * p np = 10 * (p i * p np) := Int.mul_assoc 10 (p i) (p np)
  have n1 : ((el_c X np np (6 * i + 5)).1 * (el_c X np np (6 * i + i)).2).natAbs ≤ 100000000000 * 1000000 := zb (by omega) (by omega)
  have n2 : ((el_c X np np (6 * i + 5)).2 * (el_c X np np (6 * i + i)).1).natAbs ≤ 100000000000 * 1000000 := zb (by omega) (by omega)
  refine ⟨⟨⟨by omega, by omega⟩, Int.mul_pos b5.1 py, by omega⟩, ?_⟩
  have f : Fr (wo (el_c X np np) i) (p (i + 1) * B np i 5 * (10 * p i)) (10 * p i * p np * p (i + 1)) := fr_div x5 xi hP
  have f2 := fr_cross f hpn (N' := B np i 5) (by grind)
  rw [f2.2, ← wo_up hz hB hi hhi (5 - np) (by omega)]
  rw [show np + (5 - np) = 5 by omega]
/-! laid out -/
theorem ly_0_at (X : Nat → Int × Int) (p j : Nat) : ∀ n, ly_0 X p n j = if 6 * p ≤ j ∧ j < 6 * p + n then rd 0 1 else X j
  | 0 => by rw [if_neg (by omega)]; rfl
  | n + 1 => by
    show mu (ly_0 X p n) (6 * p + n) (rd 0 1) j = _
    by_cases h : j = 6 * p + n
    · subst h; rw [mu_s, if_pos (by omega)]
    · rw [mu_n h, ly_0_at X p j n]
      by_cases h2 : 6 * p ≤ j ∧ j < 6 * p + n
      · rw [if_pos h2, if_pos (by omega)]
      · rw [if_neg h2, if_neg (by omega)]
theorem ly_1_at (S : cs_S) (k : Nat) (X : Nat → Int × Int) (p j : Nat) : ∀ n, ly_1 S k X p n j = if 6 * p ≤ j ∧ j < 6 * p + n then rd (lo_a S k p (j - 6 * p)) 10 else X j
  | 0 => by rw [if_neg (by omega)]; rfl
  | n + 1 => by
    show mu (ly_1 S k X p n) (6 * p + n) (rd (lo_a S k p n) 10) j = _
    by_cases h : j = 6 * p + n
    · subst h; rw [mu_s, if_pos (by omega), Nat.add_sub_cancel_left]
    · rw [mu_n h, ly_1_at S k X p j n]
      by_cases h2 : 6 * p ≤ j ∧ j < 6 * p + n
      · rw [if_pos h2, if_pos (by omega)]
      · rw [if_neg h2, if_neg (by omega)]
theorem ly_2_n (S : cs_S) (k : Nat) (X : Nat → Int × Int) (p j : Nat) (h : j ≠ 6 * p + 5) : ly_2 S k X p j = X j := by
  unfold ly_2
  by_cases h1 : S.1 38 (4 * p + k) ≠ 0
  · rw [if_pos h1, mu_n h]
  · rw [if_neg h1]
    by_cases h2 : ¬ lo_g S k p ∧ S.1 39 p ≠ 0
    · rw [if_pos h2, mu_n h]
    · rw [if_neg h2]
def mA (S : cs_S) (k p q : Nat) : Int := if q = 5 then (if S.1 38 (4 * p + k) ≠ 0 then 10 else if ¬ lo_g S k p ∧ S.1 39 p ≠ 0 then lo_b S p else 0) else lo_a S k p q
theorem rd_01 : rd 0 1 = rd 0 10 := rd_cross (by decide) (by decide) (by decide)
theorem rd_11 : rd 1 1 = rd 10 10 := rd_cross (by decide) (by decide) (by decide)
theorem ly_row (S : cs_S) (k np : Nat) (h5 : np ≤ 5) (X : Nat → Int × Int) (p : Nat) (hhi : ∀ q, np ≤ q → q < 5 → lo_a S k p q = 0) (q : Nat) (hq : q < 6) : ly_2 S k (ly_1 S k (ly_0 X p 6) p np) p (6 * p + q) = rd (mA S k p q) 10 := by
  by_cases e5 : q = 5
  · subst e5
    have hb : ly_1 S k (ly_0 X p 6) p np (6 * p + 5) = rd 0 1 := by
      rw [ly_1_at, if_neg (by omega), ly_0_at, if_pos (by omega)]
    unfold ly_2 mA
    rw [if_pos rfl]
    by_cases h1 : S.1 38 (4 * p + k) ≠ 0
    · rw [if_pos h1, if_pos h1, mu_s, rd_11]
    · rw [if_neg h1, if_neg h1]
      by_cases h2 : ¬ lo_g S k p ∧ S.1 39 p ≠ 0
      · rw [if_pos h2, if_pos h2, mu_s]
      · rw [if_neg h2, if_neg h2, hb, rd_01]
  · rw [ly_2_n _ _ _ _ _ (by omega), ly_1_at]
    unfold mA
    rw [if_neg e5]
    by_cases h2 : q < np
    · rw [if_pos (by omega), Nat.add_sub_cancel_left]
    · rw [if_neg (by omega), ly_0_at, if_pos (by omega), hhi q (by omega) (by omega), rd_01]
theorem ly_off (S : cs_S) (k np : Nat) (h5 : np ≤ 5) (X : Nat → Int × Int) (p j : Nat) (hj : ¬ (6 * p ≤ j ∧ j < 6 * p + 6)) : ly_2 S k (ly_1 S k (ly_0 X p 6) p np) p j = X j := by
  rw [ly_2_n _ _ _ _ _ (by omega), ly_1_at, if_neg (by omega), ly_0_at, if_neg hj]
theorem ly_f_at (S : cs_S) (k np : Nat) (h5 : np ≤ 5) (X : Nat → Int × Int) (hhi : ∀ p q, p < np → np ≤ q → q < 5 → lo_a S k p q = 0) : ∀ n, n ≤ np → ∀ i q, i < n → q < 6 → ly_f S k np X n (6 * i + q) = rd (mA S k i q) 10
  | 0, _, i, q, hi, _ => absurd hi (by omega)
  | n + 1, hn, i, q, hi, hq => by
    show ly_2 S k (ly_1 S k (ly_0 (ly_f S k np X n) n 6) n np) n (6 * i + q) = _
    by_cases e : i = n
    · subst e; exact ly_row S k np h5 _ i (fun q h1 h2 => hhi i q (by omega) h1 h2) q hq
    · rw [ly_off S k np h5 _ n _ (by omega)]
      exact ly_f_at S k np h5 X hhi n (by omega) i q (by omega) hq
