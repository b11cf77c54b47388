/-! THE CLAIM OUT OF ONE WALK OF THE LAW'S BODY. Your part is whole_start (and what it stands on); all else here is the same for every law, but numbers. -/
def R_law : String := "RateChainsLaw"
def lw_P (b : Addr) (xs : List Int32) (args : Array Value) (s : State) : Prop := args = #[.ref b] ∧ s.IntsAt b xs ∧ xs.length ≤ 3584 ∧ (Jvm.Cond.and given_1 narrow_1).before args s = true
def lw_Q (_ : Array Value) (s : State) (o : Outcome) (t : State) : Prop := o = .returned (some (.int 1)) ∧ Framed s o t [] 600000 7302250
def lw_Z (below : List Frame) (a : Array Value) (s : State) : State → Prop := fun t => ∃ o, t.status = .running ∧ Ended t below o ∧ lw_Q a s o t
/-- the law's own end, with 1 on the stack, nothing written that was there before, its room as the claim has it -/
theorem lw_ret {p : Program} {l : Launch} {e : Env} {s : State} {m : MethodId} {below : List Frame} {meth : Method} {c : Code} {b : Nat} (hx : p.tables.exec = Jvm.exec) (hb : c.code = code) (hr : meth.sig.returnType = ret) (hlocks : meth.locks = false) {pc : Nat} {H : Heap} {ls : Array Slot} (hdg : decode code pc = .ok (.ireturn, 1)) : W p l e room_1 s m #[Value.ref b] below meth c H [] 600000 7302250 (lw_Z below #[Value.ref b] s) (F0 m pc ls [.int 1]) := by
  intro T hT X
  obtain ⟨fs, hret, hrun, hended, hW, hframe⟩ := X.leave (v := some (.int 1)) (hlocks := hlocks) (fun h => by rw [hr] at h; cases h)
  have hmeth' : T.vm.method? m = some meth := X.method'
  refine ⟨T.setFrames fs, ?_, .returned (some (.int 1)), hrun, hended, rfl, ⟨_, rfl⟩, hW, hframe⟩
  jvm_step X.here [X.here.top, hx, hb, hdg, hmeth', hr, ret, narrow_b1]
  (try refine ⟨rfl, ?_⟩); (try refine ⟨rfl, ?_⟩)
  first | (intro acts; rw [hret _ acts rfl rfl rfl]) | rw [hret _ _ rfl rfl rfl]
  exact Steps.refl _
/-- what holds at the law's entry: the machine, the code, the tables' words (any of lw_tbl by 'hts w (by decide +kernel)'), the script of L ints xs at the cell b, what the Statement gives of the start (any of its parts by flat_of_before) -/
def lw_At (p : Program) (s : State) (m : MethodId) (meth : Method) (c : Code) (b L : Nat) (xs : Nat → Int32) : Prop :=
  p.tables.exec = Jvm.exec ∧ c.code = code ∧ meth.sig.returnType = ret ∧ c.maxLocals = 4 ∧ s.vm.findClass R_law = some m.cls ∧ (∀ w ∈ lw_tbl, w.before #[Value.ref b] s = true) ∧ va_X b L xs s s.heap ∧ b < s.heap.size ∧ meth.locks = false ∧ (Jvm.Cond.and given_1 narrow_1).before #[Value.ref b] s = true
theorem lw_retG {p : Program} {l : Launch} {e : Env} {s : State} {m : MethodId} {below : List Frame} {meth : Method} {c : Code} {R : Room} {args : Array Value} (hx : p.tables.exec = Jvm.exec) (hb : c.code = code) (hr : meth.sig.returnType = ret) (hlocks : meth.locks = false) {pc : Nat} {H : Heap} {ls : Array Slot} (hdg : decode code pc = .ok (.ireturn, 1)) : W p l e R s m args below meth c H [] 600000 7302250 (lw_Z below args s) (F0 m pc ls [.int 1]) := by
  intro T hT X
  obtain ⟨fs, hret, hrun, hended, hW, hframe⟩ := X.leave (v := some (.int 1)) (hlocks := hlocks) (fun h => by rw [hr] at h; cases h)
  have hmeth' : T.vm.method? m = some meth := X.method'
  refine ⟨T.setFrames fs, ?_, .returned (some (.int 1)), hrun, hended, rfl, ⟨_, rfl⟩, hW, hframe⟩
  jvm_step X.here [X.here.top, hx, hb, hdg, hmeth', hr, ret, narrow_b1]
  (try refine ⟨rfl, ?_⟩); (try refine ⟨rfl, ?_⟩)
  first | (intro acts; rw [hret _ acts rfl rfl rfl]) | rw [hret _ _ rfl rfl rfl]
  exact Steps.refl _
theorem lw_end {X : State → Nat → Nat → Prop} {nm : String} (hX9 : ∀ (s : State) (b sc : Nat), X s b sc → s.heap.size ≤ b) {d rc rs cells slots : Nat} {lv : List (Nat × Value)} {w : List am_C} (h1 : cells ≤ 600000) (h2 : slots ≤ 7302250) : AW (lw_M (X, nm)) d rc rs 1104 lv [.int 1] w cells slots (fun _ _ _ _ args s below => lw_Z below args s) := by
  intro p l e R s m args below meth c D tc b sc F H locs ls hR hS hl
  obtain ⟨hx, hb, hml, hr, hown, hname, hlocks, hts, hK, hbs, hfl, hcs, h9⟩ := id F
  refine va_forget (fun q hq => Nat.le_trans (hX9 s b sc h9) (hS.2.2 q hq)) ?_
  refine W.widen (k := 600000) (n := 7302250) h1 h2 ?_
  exact lw_retG hx hb hr hlocks (d_law_1104 (X := (X, nm)))
theorem lw_Inv0 : Inv cs_0 cs_0 := by
  refine ⟨0, 0, ⟨⟨rfl, rfl, rfl, rfl⟩, ⟨rfl, rfl, rfl, rfl, rfl⟩, ⟨rfl, rfl⟩, ⟨rfl, rfl⟩, rfl, rfl, rfl, rfl, rfl⟩, ⟨rfl, by omega, fun p q _ _ => ⟨0, by omega, rfl, fun h => absurd h (by omega)⟩, fun _ => Or.inl rfl, fun _ _ _ _ _ => rfl, fun _ _ _ => rfl, fun _ _ => ⟨0, by omega, rfl⟩⟩, ⟨rfl, by omega, fun j _ => ⟨⟨0, by omega, rfl, fun h => absurd h (by omega)⟩, ⟨0, by omega, rfl⟩, ⟨0, by omega, rfl⟩, ⟨0, by omega, rfl⟩, 0, by omega, by omega, rfl⟩⟩, ⟨fun _ _ => ⟨0, by omega, by omega, rfl⟩, fun _ _ => ⟨0, by omega, by omega, rfl⟩, ⟨0, by omega, rfl⟩, ⟨0, by omega, rfl⟩, fun _ _ => ⟨0, by omega, rfl⟩, Or.inl rfl, ⟨0, by omega, rfl⟩⟩, fun p _ => ⟨0, by omega, rfl, rfl⟩, fun _ => Or.inl rfl, fun _ _ _ => rfl, fun h => absurd rfl h⟩
theorem lw_first {nm : String} {L : Nat} {xs : Nat → Int32} (hL : L ≤ 3584) (z : UInt32) : AW (lw_M (lw_X L xs, nm)) 9 57 2323 0 [(0, .float z)] [] [] 0 0 (fun _ _ _ _ args s below => lw_Z below args s) := by
  refine aw_new d_law_0 nw_La_7 (Nat.le_of_ble_eq_true rfl) (Nat.le_of_ble_eq_true rfl) ?_
  refine aw_dup d_law_3 rfl ?_
  refine aw_callI d_law_4 c_RC_init mk_RC_init is_RC_init ln_La_9 rfl rfl (Nat.le_of_ble_eq_true rfl) (Nat.le_of_ble_eq_true rfl) (Nat.le_of_ble_eq_true rfl) (Nat.le_of_ble_eq_true rfl) ?_
  refine aw_astore_n d_law_7 (Nat.le_of_ble_eq_true rfl) ?_
  refine aw_new d_law_8 nw_La_10 (Nat.le_of_ble_eq_true rfl) (Nat.le_of_ble_eq_true rfl) ?_
  refine aw_dup d_law_11 rfl ?_
  refine aw_callI d_law_12 (c_Mo_init cs_0) mk_Mo_init is_Mo_init ln_La_12 rfl rfl (Nat.le_of_ble_eq_true rfl) (Nat.le_of_ble_eq_true rfl) (Nat.le_of_ble_eq_true rfl) (Nat.le_of_ble_eq_true rfl) ?_
  refine aw_astore_n d_law_15 (Nat.le_of_ble_eq_true rfl) ?_
  refine aw_iconst (v := nI 0) d_law_16 (by decide) ?_
  refine aw_istore_n d_law_17 (Nat.le_of_ble_eq_true rfl) ?_
  refine aw_eql (lv' := lw_lv z 0) rfl ?_
  refine lw_loop hL (Nat.le_refl _) (Nat.le_refl _) (fun i C M => ?_) (L + 1) 0 cs_0 cs_0 (by omega) (by omega) lw_Inv0
  refine aw_iconst (v := 1) d_law_1103 (by decide) ?_
  exact lw_end (fun s b sc h => h.2.2) (Nat.le_of_ble_eq_true rfl) (Nat.le_of_ble_eq_true rfl)
theorem X9_of {s : State} {args : Array Value} (h : (Cond.arrayOver (.array .long)).before args s = true) : am_X9 s := by
  simp only [Cond.before, Cond.holds, Cond.value, beq_iff_eq] at h
  cases hc : s.vm.findClass (FieldType.array .long).toString with
  | none => simp [hc] at h
  | some comp =>
    simp only [hc, Option.bind_some, Option.bind_eq_some_iff, Option.map_eq_some_iff] at h
    obtain ⟨c, hi, k, hk, hb⟩ := h
    obtain ⟨hlt, hp, -⟩ := Array.findIdx?_eq_some_iff_getElem.mp hi
    have hkk : s.vm.classes[c] = k := (Array.getElem?_eq_some_iff.mp hk).2
    rw [hkk] at hp
    cases hkind : k.kind with
    | array component ty =>
      rw [hkind] at hb hp
      simp at hb hp
      exact ⟨comp, c, k, hc, hi, hk, by rw [hkind, hp, hb.1], hb.2⟩
    | _ => rw [hkind] at hb; simp at hb
theorem whole_start {p : Program} {e : Env} {s : State} {m : MethodId} {below : List Frame} {meth : Method} {c : Code} (l : Launch) {b L : Nat} {xs : Nat → Int32} (hL : L ≤ 3584) (C0 : lw_At p s m meth c b L xs) : W p l e room_1 s m #[Value.ref b] below meth c s.heap [] 0 0 (lw_Z below #[Value.ref b] s) (entryFrame m ([Value.ref b] : List Value).toArray 4) := by
  obtain ⟨hx, hb, hr, hml, hown, hts, hX, hbl, hlocks, hgv⟩ := id C0
  have hG : ∀ w ∈ am_G, w.before #[Value.ref b] s = true := fun w hw => hts w (List.mem_filter.mp hw).1
  obtain ⟨c0, j0, k0⟩ := u_known (C := R_Dr) (T := T_Dr) (N := 2) (n := 2) hG i_Dr (hts (.instantiable R_Dr 2) (by decide +kernel))
  obtain ⟨c1, j1, k1⟩ := u_known (C := R_Fe) (T := T_Fe) (N := 6) (n := 6) hG i_Fe (hts (.instantiable R_Fe 6) (by decide +kernel))
  obtain ⟨c2, j2, k2⟩ := u_known (C := R_Pl) (T := T_Pl) (N := 7) (n := 7) hG i_Pl (hts (.instantiable R_Pl 7) (by decide +kernel))
  obtain ⟨c3, j3, k3⟩ := u_known (C := R_So) (T := T_So) (N := 10) (n := 10) hG i_So (hts (.instantiable R_So 10) (by decide +kernel))
  obtain ⟨c4, j4, k4⟩ := u_known (C := R_Te) (T := T_Te) (N := 2) (n := 2) hG i_Te (hts (.instantiable R_Te 2) (by decide +kernel))
  obtain ⟨c5, j5, k5⟩ := u_known (C := R_Wo) (T := T_Wo) (N := 1) (n := 1) hG i_Wo (hts (.instantiable R_Wo 1) (by decide +kernel))
  obtain ⟨c6, j6, k6⟩ := u_known (C := R_RC) (T := T_RC) (N := 7) (n := 7) hG i_RC (hts (.instantiable R_RC 7) (by decide +kernel))
  obtain ⟨c7, j7, k7⟩ := u_known (C := R_Mo) (T := T_Mo) (N := 29) (n := 29) hG i_Mo (hts (.instantiable R_Mo 29) (by decide +kernel))
  obtain ⟨ai, ki, pi, fi, qi, ri⟩ := Cond.arrayClass_spec (hG _ ac_int)
  obtain ⟨al, kl, pl', fl, ql, rl⟩ := Cond.arrayClass_spec (hG _ ac_long)
  obtain ⟨az, kz, pz, fz, qz, rz⟩ := Cond.arrayClass_spec (hG _ ac_boolean)
  have hX9 : am_X9 s := X9_of (hts (.arrayOver (.array .long)) (by decide +kernel))
  obtain ⟨xp, xc, xk, x1, x2, x3, x4, x5⟩ := id hX9
  have hcl : ∀ (k : Nat) (q : vw_C), am_cl[k]? = some q → u_Kn s q.1 q.2.1 q.2.2 ((fun k => match k with | 0 => c0 | 1 => c1 | 2 => c2 | 3 => c3 | 4 => c4 | 5 => c5 | 6 => c6 | _ => c7 : Nat → ClassId) k) ((fun k => match k with | 0 => j0 | 1 => j1 | 2 => j2 | 3 => j3 | 4 => j4 | 5 => j5 | 6 => j6 | _ => j7 : Nat → Nat → Nat) k) := fun k q hq => by
    match k, hq with
    | 0, hq => cases hq; exact k0
    | 1, hq => cases hq; exact k1
    | 2, hq => cases hq; exact k2
    | 3, hq => cases hq; exact k3
    | 4, hq => cases hq; exact k4
    | 5, hq => cases hq; exact k5
    | 6, hq => cases hq; exact k6
    | 7, hq => cases hq; exact k7
    | k + 8, hq => simp [am_cl] at hq
  have hai : ArrOfT s ai .int ∧ va_RA s ai .int := ⟨fun n z => ⟨fun k h => (by cases h), ki, qi, pi, ri⟩, fi⟩
  have hal : ArrOfT s al .long ∧ va_RA s al .long := ⟨fun n z => ⟨fun k h => (by cases h), kl, ql, pl', rl⟩, fl⟩
  have haz : ArrOfT s az .boolean ∧ va_RA s az .boolean := ⟨fun n z => ⟨fun k h => (by cases h), kz, qz, pz, rz⟩, fz⟩
  have haa : ArrOfT s xc (.array .long) ∧ va_RA s xc (.array .long) := ⟨fun n z => ⟨fun k h => (by cases h), xk, x3, xp, x4⟩, x5⟩
  have hK : am_K (fun k => match k with | 0 => c0 | 1 => c1 | 2 => c2 | 3 => c3 | 4 => c4 | 5 => c5 | 6 => c6 | _ => c7, fun k => match k with | 0 => j0 | 1 => j1 | 2 => j2 | 3 => j3 | 4 => j4 | 5 => j5 | 6 => j6 | _ => j7) (fun t => match t with | 0 => ai | 1 => al | 2 => az | 3 => ai | _ => xc) s := by
    refine ⟨⟨hcl, fun k q hq => ?_⟩, fun w hw => va_Nw.of (am_isN_tab (am_N_is w hw)) (hts w ((by decide +kernel : ∀ w ∈ am_N, w ∈ lw_tbl) w hw)), hX9⟩
    match k, hq with
    | 0, hq => cases hq; exact hai
    | 1, hq => cases hq; exact hal
    | 2, hq => cases hq; exact haz
    | 3, hq => cases hq; exact hai
    | 4, hq => cases hq; exact haa
    | k + 5, hq => simp [am_tys, am_nt] at hq
  have hl := lv_entry ([.ref b]) (n := 4) (Nat.le_of_ble_eq_true rfl)
  rw [lg_entry_eq]
  refine lw_first (nm := meth.name) hL 0 (D := (fun k => match k with | 0 => c0 | 1 => c1 | 2 => c2 | 3 => c3 | 4 => c4 | 5 => c5 | 6 => c6 | _ => c7, fun k => match k with | 0 => j0 | 1 => j1 | 2 => j2 | 3 => j3 | 4 => j4 | 5 => j5 | 6 => j6 | _ => j7)) (tc := fun t => match t with | 0 => ai | 1 => al | 2 => az | 3 => ai | _ => xc) (b := s.heap.size) (sc := b) ⟨hx, hb, hml, hr, hown, rfl, hlocks, hG, hK, Nat.le_refl _, ⟨by decide, by decide⟩, ⟨by decide, by decide⟩, hX, hbl, Nat.le_refl _⟩ ⟨rfl, fun k q h => ?_⟩ va_S.rf ?_
  · simp [am_w] at h
  · exact hl
