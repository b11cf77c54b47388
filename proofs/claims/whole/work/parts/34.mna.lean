/-! new long[n][m]: the row of the abstract machine -/
theorem am_X9_use {s : State} (args : Array Value) (h : am_X9 s) : (Cond.arrayOver (.array .long)).before args s = true := by
  obtain ⟨comp, c, k, h1, h2, h3, h4, h5⟩ := h
  have e1 : s.vm.findClass (FieldType.array .long).toString = some comp := h1
  have e5 : s.vm.findClass ("[" ++ (FieldType.array .long).toString) = some c := h5
  simp only [Cond.before, Cond.holds, Cond.value, beq_iff_eq]
  simp only [e1, e5, Option.bind_some]
  refine Eq.trans (congrArg (fun z => Option.bind z _) h2) ?_
  show Option.map _ _ = _
  rw [h3]
  simp [h4]
theorem am_outer (c : ClassId) (N h0 : Nat) : ∀ i : Nat, Jvm.Free.Multi.outerC c N h0 i = arrV c N (fun j => va_rf (if j < i then some (h0 + 1 + j) else none))
  | 0 => by
    show ({ cls := c, slots := Array.replicate N .null, vm := .none } : Cell) = _
    rw [arrV_new]
    exact congrArg (arrV c N) (funext fun j => by simp [va_rf])
  | i + 1 => by
    show (Jvm.Free.Multi.outerC c N h0 i).setSlot i (.ref (h0 + 1 + i)) = _
    rw [am_outer c N h0 i, arrV_store]
    refine congrArg (arrV c N) (funext fun j => ?_)
    rcases Nat.lt_trichotomy j i with h | h | h
    · simp [updV, Nat.ne_of_lt h, h, Nat.lt_succ_of_lt h]
    · subst h; simp [updV, va_rf]
    · simp [updV, Nat.ne_of_gt h, show ¬ j < i by omega, show ¬ j < i + 1 by omega]
section AMM
variable {M : am_M} {d rc rs pc : Nat} {lv : List (Nat × Value)} {st : List Value} {w : List am_C} {cells slots : Nat} {Z : am_E}
theorem aw_mna {idx N' K' : Nat} {n k : Int32} (hd : decode M.1 pc = .ok (.multianewarray idx 2, 4)) (hcl : Cond.classLink M.2.2.2.1 idx "[[J" ∈ am_G) (hg : Cond.arrayClass .long ∈ am_G) (hn : ¬ n < 0) (hk : ¬ k < 0) (hN : n.toNatClampNeg = N') (hM : k.toNatClampNeg = K') (h1 : N' ≤ 1000) (h2 : K' ≤ 1000) (hcells : cells + (1 + N') ≤ rc) (hslots : slots + (N' + N' * K') ≤ rs)
    (kk : AW M d rc rs (pc + 4) lv (.ref w.length :: st) (w ++ [.inl (4, N', .inr (.inr (.inr (.inr (fun i => if i < N' then some (w.length + 1 + i) else none)))))] ++ List.replicate N' (.inl (1, K', .inr (.inl (fun _ => 0))))) (cells + 1 + N') (slots + N' + N' * K') Z) : AW M d rc rs pc lv (.int k :: .int n :: st) w cells slots Z := by
  subst hN
  subst hM
  intro p l e R s m args below meth c D tc b sc F H locs ls hR hS hl
  obtain ⟨hx, hb, hml, hr, hown, hname, hlocks, hts, hK, hbs, hfl, hcs, -⟩ := id F
  have hP := hR.2
  intro T hT Xs
  obtain ⟨vm₁, cA, comp, -, fA, fC, hO, hI, X', step⟩ := Xs.multianewarray2F hx (own := M.2.2.2.1) (index := idx) (ty := .long) hown (hts _ hcl) (am_X9_use args hK.2.2) (hts _ hg) (g := F0 m pc ls (.int k :: .int n :: st.map (am_v b sc))) rfl (by rw [hb]; exact hd) rfl hn hk (by omega) (by show _ * 8 ≤ _; omega) (by omega) rfl rfl (Nat.le_trans hcells hcs.1) (Nat.le_trans hslots hcs.2)
  have t4 : (am_tys tc)[4]? = some (tc 4, .array .long) := am_tys_at (by decide)
  have t1 : (am_tys tc)[1]? = some (tc 1, .long) := am_tys_at (by decide)
  have hcA : cA = tc 4 := Option.some.inj (fA.symm.trans (hK.1.2 4 _ t4).2)
  have hcC : comp = tc 1 := Option.some.inj (fC.symm.trans (hK.1.2 1 _ t1).2)
  subst hcA
  subst hcC
  generalize hF : Jvm.Free.Multi.fill (T.setVm vm₁) (tc 4) (tc 1) n.toNatClampNeg k.toNatClampNeg (defaultValue .long) n.toNatClampNeg = G at X' step
  have hTh : (T.setVm vm₁).heap = H := hT
  obtain ⟨f1, f2, -, -⟩ := Jvm.Free.Multi.fill_facts (T.setVm vm₁) (tc 4) (tc 1) n.toNatClampNeg k.toNatClampNeg (defaultValue .long) n.toNatClampNeg
  rw [hF, hTh] at f1 f2
  have hold : ∀ x : Nat, x < H.size → G.heap[x]? = H[x]? := fun x hx => by
    have := Jvm.Free.Multi.fill_old (T.setVm vm₁) (tc 4) (tc 1) n.toNatClampNeg k.toNatClampNeg (defaultValue .long) (a := x) (by rw [hTh]; exact hx) n.toNatClampNeg
    rw [hF, hTh] at this
    exact this
  have hrow : ∀ j : Nat, j < n.toNatClampNeg → G.heap[H.size + 1 + j]? = some (Jvm.Free.Multi.innerC (tc 1) k.toNatClampNeg (defaultValue .long)) := fun j hj => by
    have := Jvm.Free.Multi.fill_inner (T.setVm vm₁) (tc 4) (tc 1) n.toNatClampNeg k.toNatClampNeg (defaultValue .long) n.toNatClampNeg j hj
    rw [hF, hTh] at this
    exact this
  rw [am_outer] at f2
  rw [hR.1] at f1 f2 hrow
  have hkeep : ∀ (j : Nat) (x : Nat × va_E), (am_w tc b sc w)[j]? = some x → G.heap[x.1]? = H[x.1]? := fun j x hx => hold x.1 ((hP j x hx).lt)
  have hR2 : am_R D tc b sc (w ++ [.inl (4, n.toNatClampNeg, .inr (.inr (.inr (.inr (fun i => if i < n.toNatClampNeg then some (w.length + 1 + i) else none)))))] ++ List.replicate n.toNatClampNeg (.inl (1, k.toNatClampNeg, .inr (.inl (fun _ => 0))))) G.heap := by
    refine ⟨by rw [f1, List.length_append, List.length_append, List.length_replicate]; show _ = b + (w.length + 1 + _); omega, ?_⟩
    intro j x hx
    rw [am_w_get] at hx
    by_cases hj : j < w.length
    · have hx2 : (am_w tc b sc w)[j]? = some x := by
        rw [am_w_get, ← hx, List.append_assoc, List.getElem?_append_left hj]
      exact (hP.kept hkeep) j x hx2
    · by_cases hj2 : j = w.length
      · subst hj2
        rw [List.append_assoc, List.getElem?_append_right (Nat.le_refl _), Nat.sub_self] at hx
        cases hx
        show G.heap[b + w.length]? = some (vp_cell _ _)
        rw [f2]
        show _ = some (arrV (tc 4) n.toNatClampNeg (fun j => va_rf (((if j < n.toNatClampNeg then some (w.length + 1 + j) else none) : Option Nat).map (fun k => b + k))))
        refine congrArg some (congrArg (arrV (tc 4) n.toNatClampNeg) (funext fun j => ?_))
        split
        · show va_rf _ = va_rf _
          rw [show b + w.length + 1 + j = b + (w.length + 1 + j) by omega]
          rfl
        · rfl
      · rw [List.getElem?_append_right (by rw [List.length_append]; show w.length + 1 ≤ j; omega), List.getElem?_replicate] at hx
        split at hx
        · rename_i hlt
          have hlen : (w ++ [(.inl (4, n.toNatClampNeg, .inr (.inr (.inr (.inr (fun i => if i < n.toNatClampNeg then some (w.length + 1 + i) else none))))) : am_C)]).length = w.length + 1 := by simp
          rw [hlen] at hlt
          cases hx
          have := hrow (j - (w.length + 1)) hlt
          show G.heap[b + j]? = some (vp_cell _ _)
          rw [show b + j = b + w.length + 1 + (j - (w.length + 1)) by omega, this]
          show some ({ cls := tc 1, slots := Array.replicate k.toNatClampNeg (.long 0), vm := .none } : Cell) = _
          rw [arrV_new]
          rfl
        · cases hx
  obtain ⟨t, a1, b1⟩ := kk F hR2 ⟨by rw [f1, ← hR.1]; have := hS.1; omega, fun x h1 h2 => (hold x (Nat.lt_of_lt_of_le h1 hS.1)).trans (hS.2.1 x h1 h2), hS.2.2⟩ hl G rfl X'
  refine ⟨t, step t ?_, b1⟩
  have e9 : T.heap.size = b + w.length := by rw [hT, hR.1]
  rw [e9]
  exact a1
end AMM
