/-! THE ABSTRACT MACHINE. A world w: the cells that were made since the law began, in the order of their making; a reference in it is a number of a cell ('.ref k': the k-th cell). The machine's address of the k-th cell is b + k. '.float _' stands for the script. -/
abbrev am_C : Type := (Nat × vp_A) ⊕ (Nat × List Value)
def am_v (b sc : Nat) (v : Value) : Value := match v with
  | .ref k => .ref (b + k)
  | .float _ => .ref sc
  | x => x
def am_a (b : Nat) (a : vp_A) : vp_A := match a with
  | (n, .inr (.inr (.inr (.inr f)))) => (n, .inr (.inr (.inr (.inr (fun i => (f i).map (fun k => b + k))))))
  | x => x
def am_c (tc : Nat → ClassId) (b sc : Nat) (c : am_C) : va_E := match c with
  | .inl (t, a) => .inl (tc t, am_a b a)
  | .inr (ci, fs) => .inr (ci, fs.map (am_v b sc))
def am_w (tc : Nat → ClassId) (b sc : Nat) (w : List am_C) : va_W := w.mapIdx (fun k c => (b + k, am_c tc b sc c))
theorem am_w_get (tc : Nat → ClassId) (b sc : Nat) (w : List am_C) (k : Nat) : (am_w tc b sc w)[k]? = (w[k]?).map (fun c => (b + k, am_c tc b sc c)) := by
  unfold am_w
  rw [List.getElem?_mapIdx]
theorem am_w_at {tc : Nat → ClassId} {b sc : Nat} {w : List am_C} {k : Nat} {c : am_C} (h : w[k]? = some c) : (am_w tc b sc w)[k]? = some (b + k, am_c tc b sc c) := by
  rw [am_w_get, h]; rfl
theorem am_w_set (tc : Nat → ClassId) (b sc : Nat) (w : List am_C) (k : Nat) (c : am_C) : (am_w tc b sc w).set k (b + k, am_c tc b sc c) = am_w tc b sc (w.set k c) := by
  apply List.ext_getElem?
  intro i
  rw [am_w_get, List.getElem?_set, List.getElem?_set, am_w_get]
  have hlen : (am_w tc b sc w).length = w.length := by simp [am_w]
  by_cases h : k = i
  · subst h
    by_cases hk : k < w.length
    · simp [hlen, hk]
    · simp [hlen, hk]
  · simp [h]
theorem am_w_push (tc : Nat → ClassId) (b sc : Nat) (w : List am_C) (c : am_C) : am_w tc b sc w ++ [(b + w.length, am_c tc b sc c)] = am_w tc b sc (w ++ [c]) := by
  simp [am_w, List.mapIdx_append]
theorem am_w_D (tc : Nat → ClassId) (b sc : Nat) (w : List am_C) : va_D (fun q => b ≤ q) (am_w tc b sc w) := by
  refine ⟨fun i j p q hi hj h => ?_, fun k q hk => ?_⟩
  · rw [am_w_get] at hi hj
    cases h1 : w[i]? with
    | none => rw [h1] at hi; cases hi
    | some ci =>
      cases h2 : w[j]? with
      | none => rw [h2] at hj; cases hj
      | some cj =>
        rw [h1] at hi; rw [h2] at hj
        cases hi; cases hj
        simp at h
        exact h
  · rw [am_w_get] at hk
    cases h1 : w[k]? with
    | none => rw [h1] at hk; cases hk
    | some ci => rw [h1] at hk; cases hk; simp
theorem am_v_cat (b sc : Nat) (v : Value) : (am_v b sc v).category = v.category := by cases v <;> rfl
/-- the heap holds the world, and ends with it -/
def am_R (D : va_G) (tc : Nat → ClassId) (b sc : Nat) (w : List am_C) (H : Heap) : Prop := H.size = b + w.length ∧ va_P D am_cl (am_w tc b sc w) H
def am_isN : Cond → Bool
  | .fieldLinkNest _ _ _ _ _ _ => true
  | .methodLinkNest _ _ _ _ => true
  | _ => false
theorem am_isN_warm {w : Cond} (h : am_isN w = true) {s U : State} (hW : s.WarmedH U.vm) (hZ : va_Nw w s) : va_Nw w U := by
  cases w with
  | fieldLinkNest a i b n d h => exact va_Nw.warmF hW hZ
  | methodLinkNest a i x h => exact va_Nw.warmM hW hZ
  | _ => cases h
theorem am_isN_tab {w : Cond} (h : am_isN w = true) : w.onTables = true := by
  cases w with
  | fieldLinkNest a i b n d h => rfl
  | methodLinkNest a i x h => rfl
  | _ => cases h
theorem am_N_is : ∀ w ∈ am_N, am_isN w = true := by decide +kernel
theorem am_X9_moved {u U : State} (hvm : u.vm.Alike U.vm) (h : am_X9 u) : am_X9 U := by
  obtain ⟨comp, c, k, h1, h2, h3, h4, h5⟩ := h
  obtain ⟨k', hk', he⟩ := hvm.2.2 _ _ h3
  have hi : (U.vm.classes.findIdx? fun (x : Class) => match x.kind with | .array component _ => component == comp | _ => false) = some c := by
    rw [hvm.findIdx?_eq _ (fun _ => rfl)]
    exact h2
  exact ⟨comp, c, k', by rw [hvm.findClass]; exact h1, hi, hk', by rw [he]; exact h4, by rw [hvm.findClass]; exact h5⟩
def am_tys (tc : Nat → ClassId) : List (ClassId × FieldType) := (List.range am_nt).map (fun t => (tc t, am_ty t))
theorem am_tys_at {tc : Nat → ClassId} {t : Nat} (h : t < am_nt) : (am_tys tc)[t]? = some (tc t, am_ty t) := by
  simp [am_tys, h]
/-- what a method knows of the tables -/
def am_K (D : va_G) (tc : Nat → ClassId) (U : State) : Prop := va_K D am_cl (am_tys tc) U ∧ (∀ w ∈ am_N, va_Nw w U) ∧ am_X9 U
theorem am_K.warm {D : va_G} {tc : Nat → ClassId} {s U : State} (hW : s.WarmedH U.vm) (h : am_K D tc s) : am_K D tc U :=
  ⟨va_K.moved hW.alike h.1, fun w hw => am_isN_warm (am_N_is w hw) hW (h.2.1 w hw), am_X9_moved hW.alike h.2.2⟩
theorem am_K.calling {D : va_G} {tc : Nat → ClassId} {U : State} (g : JFrame) (mk : MethodId) (a : Array Value) (h : am_K D tc U) : am_K D tc (U.calling g mk a) :=
  ⟨va_K.moved (u := U) (U := U.calling g mk a) (Vm.Alike.refl U.vm) h.1, fun w hw => va_Nw.same (am_isN_tab (am_N_is w hw)) (rfl : U.vm = (U.calling g mk a).vm) (h.2.1 w hw), am_X9_moved (u := U) (U := U.calling g mk a) (Vm.Alike.refl U.vm) h.2.2⟩
/-- a method: its bytes, its locals, what it returns, its class, its name, what else holds at its entry -/
abbrev am_M : Type := ByteArray × Nat × Option FieldType × String × String × (State → Nat → Nat → Prop)
def am_Fix (M : am_M) (d rc rs b sc : Nat) (D : va_G) (tc : Nat → ClassId) (p : Program) (R : Room) (s : State) (m : MethodId) (args : Array Value) (meth : Method) (c : Code) : Prop :=
  p.tables.exec = Jvm.exec ∧ c.code = M.1 ∧ c.maxLocals = M.2.1 ∧ meth.sig.returnType = M.2.2.1 ∧ s.vm.findClass M.2.2.2.1 = some m.cls ∧ meth.name = M.2.2.2.2.1 ∧ meth.locks = false ∧ (∀ w ∈ am_G, w.before args s = true) ∧ am_K D tc s ∧ b ≤ s.heap.size ∧ (d ≤ R.frames ∧ 40 * d ≤ R.locals) ∧ (rc ≤ R.cells ∧ rs ≤ R.slots) ∧ M.2.2.2.2.2 s b sc
abbrev am_L (b sc : Nat) (lv : List (Nat × Value)) : List (Nat × Value) := lv.map (fun q => (q.1, am_v b sc q.2))
abbrev am_E : Type := Nat → Nat → va_G → (Nat → ClassId) → Array Value → State → List Frame → State → Prop
/-- the machine, at pc with these locals, this stack and this world, comes to the end Z -/
def AW (M : am_M) (d rc rs pc : Nat) (lv : List (Nat × Value)) (st : List Value) (w : List am_C) (cells slots : Nat) (Z : am_E) : Prop :=
  ∀ ⦃p : Program⦄ ⦃l : Launch⦄ ⦃e : Env⦄ ⦃R : Room⦄ ⦃s : State⦄ ⦃m : MethodId⦄ ⦃args : Array Value⦄ ⦃below : List Frame⦄ ⦃meth : Method⦄ ⦃c : Code⦄ ⦃D : va_G⦄ ⦃tc : Nat → ClassId⦄ ⦃b sc : Nat⦄,
    am_Fix M d rc rs b sc D tc p R s m args meth c → ∀ ⦃H : Heap⦄ ⦃locs : List Loc⦄ ⦃ls : Array Slot⦄, am_R D tc b sc w H → va_S (fun q => b ≤ q) s.heap H locs → lv_has ls M.2.1 (am_L b sc lv) →
    W p l e R s m args below meth c H locs cells slots (Z b sc D tc args s below) (F0 m pc ls (st.map (am_v b sc)))
def am_Q (D : va_G) (tc : Nat → ClassId) (b sc : Nat) (r : Option Value) (w : List am_C) : Array Value → State → Outcome → State → Prop := fun _ st o t => o = .returned (r.map (am_v b sc)) ∧ am_R D tc b sc w t.heap ∧ va_F (fun q => b ≤ q) st t
def am_Z (r : Option Value) (w : List am_C) (mc ms : Nat) : am_E := fun b sc D tc args s below => MQ below (am_Q D tc b sc r w) args s mc ms (fun q => b ≤ q)
def am_rm (d mc ms : Nat) : Room := { frames := d, cells := mc, slots := ms, locals := 40 * d }
def am_P (D : va_G) (tc : Nat → ClassId) (b sc : Nat) (as : List Value) (w : List am_C) : Array Value → State → Prop := va_Pc (as.map (am_v b sc)) (fun U => am_R D tc b sc w U.heap ∧ am_K D tc U)
theorem am_P_blind (D : va_G) (tc : Nat → ClassId) (b sc : Nat) (as : List Value) (w : List am_C) : FrameBlind (am_P D tc b sc as w) := fun a U g mk q => ⟨q.1, q.2.1, q.2.2.calling g mk a⟩
/-- the contract of a method: called with as in the world w it returns r, and the world is w' -/
def am_ct (y : am_Y) (d : Nat) (as : List Value) (w : List am_C) (r : Option Value) (w' : List am_C) (mc ms : Nat) : Prop :=
  ∀ (l : Launch) (D : va_G) (tc : Nat → ClassId) (b sc : Nat), Met l y.1 (.code y.1 y.2.1 y.2.2.1 y.2.2.2 :: am_G) (am_rm d mc ms) (am_P D tc b sc as w) (am_Q D tc b sc r w') mc ms (fun q => b ≤ q)
abbrev am_Mof (y : am_Y) : am_M := (y.2.1, y.2.2.1, y.2.2.2, y.1.cls, y.1.name, fun _ _ _ => True)
theorem am_args (b sc : Nat) : ∀ (as : List Value) (i : Nat), lv_args i (as.map (am_v b sc)) = am_L b sc (lv_args i as)
  | [], _ => rfl
  | v :: vs, i => by
    show (i, am_v b sc v) :: lv_args (if (am_v b sc v).category = 2 then i + 2 else i + 1) (vs.map (am_v b sc)) = _
    rw [am_v_cat, am_args b sc vs]
    rfl
theorem am_sl (b sc : Nat) : ∀ (as : List Value), (lg_sl (as.map (am_v b sc))).length = (lg_sl as).length
  | [] => rfl
  | v :: vs => by
    have h := am_sl b sc vs
    simp only [lg_sl, List.map_cons, List.flatMap_cons, List.length_append] at h ⊢
    rw [h, am_v_cat]
    split <;> rfl
theorem am_ct.of {y : am_Y} {d : Nat} {as : List Value} {w w' : List am_C} {r : Option Value} {mc ms : Nat} (hy : plainName y.1.cls = true) (hn : (lg_sl as).length ≤ y.2.2.1) (h : AW (am_Mof y) d mc ms 0 (lv_args 0 as) [] w 0 0 (am_Z r w' mc ms)) : am_ct y d as w r w' mc ms := by
  intro l D tc b sc
  refine Met.ofW (cc := y.2.1) (maxL := y.2.2.1) (ret := y.2.2.2) hy rfl ?_
  intro p e s m args below meth c s₁ B hml hv
  obtain ⟨rfl, hR, hK⟩ := hv
  have hts := atoms_spec (ws := .code y.1 y.2.1 y.2.2.1 y.2.2.2 :: am_G) B.pre
  rw [lg_entry_eq]
  refine h ⟨B.exec, B.bytes, hml, B.returns, findClass_of_methodNamed B.named, (name_of_methodNamed B.named B.method).1, B.notSynchronized, fun w hw => hts w (List.mem_cons_of_mem _ hw), hK, by rw [hR.1]; exact Nat.le_add_right _ _, ⟨Nat.le_refl _, Nat.le_refl _⟩, ⟨Nat.le_refl _, Nat.le_refl _⟩, trivial⟩ hR va_S.rf ?_
  have := lv_entry (as.map (am_v b sc)) (n := y.2.2.1) (by rw [am_sl]; exact hn)
  rw [am_args] at this
  exact this
section AMR
variable {M : am_M} {d rc rs pc : Nat} {lv : List (Nat × Value)} {st : List Value} {w : List am_C} {cells slots : Nat} {Z : am_E}
theorem aw_eqs {st' : List Value} (h : st = st') (k : AW M d rc rs pc lv st' w cells slots Z) : AW M d rc rs pc lv st w cells slots Z := by subst h; exact k
theorem aw_eqw {w' : List am_C} (h : w = w') (k : AW M d rc rs pc lv st w' cells slots Z) : AW M d rc rs pc lv st w cells slots Z := by subst h; exact k
theorem aw_eql {lv' : List (Nat × Value)} (h : lv = lv') (k : AW M d rc rs pc lv' st w cells slots Z) : AW M d rc rs pc lv st w cells slots Z := by subst h; exact k
/-- fewer locals are known -/
theorem aw_sub {lv' : List (Nat × Value)} (h : ∀ q ∈ lv', q ∈ lv) (k : AW M d rc rs pc lv' st w cells slots Z) : AW M d rc rs pc lv st w cells slots Z := by
  intro p l e R s m args below meth c D tc b sc F H locs ls hR hS hl
  refine k F hR hS ⟨hl.1, hl.2.1, fun q hq => ?_⟩
  obtain ⟨q', h1, rfl⟩ := List.mem_map.mp hq
  exact hl.2.2 _ (List.mem_map.mpr ⟨q', h q' h1, rfl⟩)
def am_lk : List (Nat × Value) → Nat → Option Value
  | [], _ => none
  | q :: l, i => if q.1 = i then some q.2 else am_lk l i
theorem am_lk_mem : ∀ {l : List (Nat × Value)} {i : Nat} {v : Value}, am_lk l i = some v → (i, v) ∈ l
  | q :: l, i, v, h => by
    unfold am_lk at h
    split at h
    · rename_i e
      cases h
      subst e
      exact List.mem_cons_self
    · exact List.mem_cons_of_mem _ (am_lk_mem h)
theorem am_lk_has {b sc nL : Nat} {ls : Array Slot} {i : Nat} {v : Value} (hl : lv_has ls nL (am_L b sc lv)) (h : am_lk lv i = some v) : ls[i]? = some (.val (am_v b sc v)) :=
  hl.2.2 (i, am_v b sc v) (List.mem_map.mpr ⟨(i, v), am_lk_mem h, rfl⟩)
def am_s1 (lv : List (Nat × Value)) (i : Nat) (v : Value) : List (Nat × Value) := (i, v) :: lv.filter (fun q => !(q.1 == i) && !(q.1 + 1 == i && q.2.category == 2))
def am_s2 (lv : List (Nat × Value)) (i : Nat) (v : Value) : List (Nat × Value) := (i, v) :: lv.filter (fun q => !(q.1 == i) && (!(q.1 == i + 1) && !(q.1 + 1 == i && q.2.category == 2)))
theorem am_s1_eq (b sc : Nat) (lv : List (Nat × Value)) (i : Nat) (v : Value) : (i, am_v b sc v) :: (am_L b sc lv).filter (fun q => !(q.1 == i) && !(q.1 + 1 == i && q.2.category == 2)) = am_L b sc (am_s1 lv i v) := by
  simp only [am_L, am_s1, List.filter_map, List.map_cons, List.cons.injEq, true_and]
  congr 1
  apply List.filter_congr
  intro q _
  simp [am_v_cat]
theorem am_s2_eq (b sc : Nat) (lv : List (Nat × Value)) (i : Nat) (v : Value) : (i, am_v b sc v) :: (am_L b sc lv).filter (fun q => !(q.1 == i) && (!(q.1 == i + 1) && !(q.1 + 1 == i && q.2.category == 2))) = am_L b sc (am_s2 lv i v) := by
  simp only [am_L, am_s2, List.filter_map, List.map_cons, List.cons.injEq, true_and]
  congr 1
  apply List.filter_congr
  intro q _
  simp [am_v_cat]
theorem aw_iconst {n : Int} {v : Int32} (hd : decode M.1 pc = .ok (.iconst n, 1)) (hv : Int32.ofInt n = v) (k : AW M d rc rs (pc + 1) lv (.int v :: st) w cells slots Z) : AW M d rc rs pc lv st w cells slots Z := by
  intro p l e R s m args below meth c D tc b sc F H locs ls hR hS hl
  exact lv_iconst F.1 F.2.1 hd hv (k F hR hS hl)
theorem aw_bipush {n : Int} {v : Int32} (hd : decode M.1 pc = .ok (.bipush n, 2)) (hv : (Int8.ofInt n).toInt32 = v) (k : AW M d rc rs (pc + 2) lv (.int v :: st) w cells slots Z) : AW M d rc rs pc lv st w cells slots Z := by
  intro p l e R s m args below meth c D tc b sc F H locs ls hR hS hl
  exact lv_bipush F.1 F.2.1 hd hv (k F hR hS hl)
theorem aw_sipush {n : Int} {v : Int32} (hd : decode M.1 pc = .ok (.sipush n, 3)) (hv : (Int16.ofInt n).toInt32 = v) (k : AW M d rc rs (pc + 3) lv (.int v :: st) w cells slots Z) : AW M d rc rs pc lv st w cells slots Z := by
  intro p l e R s m args below meth c D tc b sc F H locs ls hR hS hl
  exact lv_sipush F.1 F.2.1 hd hv (k F hR hS hl)
theorem aw_lconst {n : Fin 2} {v : Int64} (hd : decode M.1 pc = .ok (.lconst n, 1)) (hv : Int64.ofNat (n : Nat) = v) (k : AW M d rc rs (pc + 1) lv (.long v :: st) w cells slots Z) : AW M d rc rs pc lv st w cells slots Z := by
  intro p l e R s m args below meth c D tc b sc F H locs ls hR hS hl
  exact lv_lconst F.1 F.2.1 hd hv (k F hR hS hl)
theorem aw_ldc {index : Nat} {v : Int32} (hd : decode M.1 pc = .ok (.ldc index, 2)) (hg : Cond.constant M.2.2.2.1 index v ∈ am_G) (k : AW M d rc rs (pc + 2) lv (.int v :: st) w cells slots Z) : AW M d rc rs pc lv st w cells slots Z := by
  intro p l e R s m args below meth c D tc b sc F H locs ls hR hS hl
  exact lv_ldc F.1 F.2.1 F.2.2.2.2.1 (F.2.2.2.2.2.2.2.1 _ hg) hd (k F hR hS hl)
theorem aw_ldc2 {index : Nat} {v : Int64} (hd : decode M.1 pc = .ok (.ldc2_w index, 3)) (hg : Cond.constantLong M.2.2.2.1 index v ∈ am_G) (k : AW M d rc rs (pc + 3) lv (.long v :: st) w cells slots Z) : AW M d rc rs pc lv st w cells slots Z := by
  intro p l e R s m args below meth c D tc b sc F H locs ls hR hS hl
  exact lv_ldc2 F.1 F.2.1 F.2.2.2.2.1 (F.2.2.2.2.2.2.2.1 _ hg) hd (k F hR hS hl)
theorem aw_iload_n {k : Fin 4} {x : Int32} (hd : decode M.1 pc = .ok (.iload_n k, 1)) (h : am_lk lv k = some (.int x)) (kk : AW M d rc rs (pc + 1) lv (.int x :: st) w cells slots Z) : AW M d rc rs pc lv st w cells slots Z := by
  intro p l e R s m args below meth c D tc b sc F H locs ls hR hS hl
  exact lv_iload_n F.1 F.2.1 hd rfl (am_lk_has hl h) (kk F hR hS hl)
theorem aw_iload {i : Nat} {x : Int32} (hd : decode M.1 pc = .ok (.iload i, 2)) (h : am_lk lv i = some (.int x)) (kk : AW M d rc rs (pc + 2) lv (.int x :: st) w cells slots Z) : AW M d rc rs pc lv st w cells slots Z := by
  intro p l e R s m args below meth c D tc b sc F H locs ls hR hS hl
  exact lv_iload F.1 F.2.1 hd (am_lk_has hl h) (kk F hR hS hl)
theorem aw_lload_n {k : Fin 4} {x : Int64} (hd : decode M.1 pc = .ok (.lload_n k, 1)) (h : am_lk lv k = some (.long x)) (kk : AW M d rc rs (pc + 1) lv (.long x :: st) w cells slots Z) : AW M d rc rs pc lv st w cells slots Z := by
  intro p l e R s m args below meth c D tc b sc F H locs ls hR hS hl
  exact lv_lload_n F.1 F.2.1 hd rfl (am_lk_has hl h) (kk F hR hS hl)
theorem aw_lload {i : Nat} {x : Int64} (hd : decode M.1 pc = .ok (.lload i, 2)) (h : am_lk lv i = some (.long x)) (kk : AW M d rc rs (pc + 2) lv (.long x :: st) w cells slots Z) : AW M d rc rs pc lv st w cells slots Z := by
  intro p l e R s m args below meth c D tc b sc F H locs ls hR hS hl
  exact lv_lload F.1 F.2.1 hd (am_lk_has hl h) (kk F hR hS hl)
theorem aw_aload_n {k : Fin 4} {x : Nat} (hd : decode M.1 pc = .ok (.aload_n k, 1)) (h : am_lk lv k = some (.ref x)) (kk : AW M d rc rs (pc + 1) lv ((.ref x) :: st) w cells slots Z) : AW M d rc rs pc lv st w cells slots Z := by
  intro p l e R s m args below meth c D tc b sc F H locs ls hR hS hl
  exact lv_aload_n F.1 F.2.1 hd rfl (am_lk_has hl h) (kk F hR hS hl)
theorem aw_aload {i : Nat} {x : Nat} (hd : decode M.1 pc = .ok (.aload i, 2)) (h : am_lk lv i = some (.ref x)) (kk : AW M d rc rs (pc + 2) lv ((.ref x) :: st) w cells slots Z) : AW M d rc rs pc lv st w cells slots Z := by
  intro p l e R s m args below meth c D tc b sc F H locs ls hR hS hl
  exact lv_aload F.1 F.2.1 hd (am_lk_has hl h) (kk F hR hS hl)
theorem aw_aload_nS {k : Fin 4} {x : UInt32} (hd : decode M.1 pc = .ok (.aload_n k, 1)) (h : am_lk lv k = some (.float x)) (kk : AW M d rc rs (pc + 1) lv ((.float x) :: st) w cells slots Z) : AW M d rc rs pc lv st w cells slots Z := by
  intro p l e R s m args below meth c D tc b sc F H locs ls hR hS hl
  exact lv_aload_n F.1 F.2.1 hd rfl (am_lk_has hl h) (kk F hR hS hl)
theorem aw_aloadS {i : Nat} {x : UInt32} (hd : decode M.1 pc = .ok (.aload i, 2)) (h : am_lk lv i = some (.float x)) (kk : AW M d rc rs (pc + 2) lv ((.float x) :: st) w cells slots Z) : AW M d rc rs pc lv st w cells slots Z := by
  intro p l e R s m args below meth c D tc b sc F H locs ls hR hS hl
  exact lv_aload F.1 F.2.1 hd (am_lk_has hl h) (kk F hR hS hl)
theorem aw_istore_n {k : Fin 4} {x : Int32} (hd : decode M.1 pc = .ok (.istore_n k, 1)) (hn : (k : Nat) < M.2.1) (kk : AW M d rc rs (pc + 1) (am_s1 lv k (.int x)) st w cells slots Z) : AW M d rc rs pc lv (.int x :: st) w cells slots Z := by
  intro p l e R s m args below meth c D tc b sc F H locs ls hR hS hl
  exact lv_istore_n F.1 F.2.1 hd rfl hl hn (am_s1_eq b sc lv k (.int x)) (fun ls hl => kk F hR hS hl)
theorem aw_istore {i : Nat} {x : Int32} (hd : decode M.1 pc = .ok (.istore i, 2)) (hn : i < M.2.1) (kk : AW M d rc rs (pc + 2) (am_s1 lv i (.int x)) st w cells slots Z) : AW M d rc rs pc lv (.int x :: st) w cells slots Z := by
  intro p l e R s m args below meth c D tc b sc F H locs ls hR hS hl
  exact lv_istore F.1 F.2.1 hd hl hn (am_s1_eq b sc lv i (.int x)) (fun ls hl => kk F hR hS hl)
theorem aw_lstore_n {k : Fin 4} {x : Int64} (hd : decode M.1 pc = .ok (.lstore_n k, 1)) (hn : (k : Nat) + 1 < M.2.1) (kk : AW M d rc rs (pc + 1) (am_s2 lv k (.long x)) st w cells slots Z) : AW M d rc rs pc lv (.long x :: st) w cells slots Z := by
  intro p l e R s m args below meth c D tc b sc F H locs ls hR hS hl
  exact lv_lstore_n F.1 F.2.1 hd rfl hl hn (am_s2_eq b sc lv k (.long x)) (fun ls hl => kk F hR hS hl)
theorem aw_lstore {i : Nat} {x : Int64} (hd : decode M.1 pc = .ok (.lstore i, 2)) (hn : i + 1 < M.2.1) (kk : AW M d rc rs (pc + 2) (am_s2 lv i (.long x)) st w cells slots Z) : AW M d rc rs pc lv (.long x :: st) w cells slots Z := by
  intro p l e R s m args below meth c D tc b sc F H locs ls hR hS hl
  exact lv_lstore F.1 F.2.1 hd hl hn (am_s2_eq b sc lv i (.long x)) (fun ls hl => kk F hR hS hl)
theorem aw_astore_n {k : Fin 4} {x : Nat} (hd : decode M.1 pc = .ok (.astore_n k, 1)) (hn : (k : Nat) < M.2.1) (kk : AW M d rc rs (pc + 1) (am_s1 lv k (.ref x)) st w cells slots Z) : AW M d rc rs pc lv (.ref x :: st) w cells slots Z := by
  intro p l e R s m args below meth c D tc b sc F H locs ls hR hS hl
  exact lv_astore_n F.1 F.2.1 hd rfl hl hn (am_s1_eq b sc lv k (.ref x)) (fun ls hl => kk F hR hS hl)
theorem aw_astore {i : Nat} {x : Nat} (hd : decode M.1 pc = .ok (.astore i, 2)) (hn : i < M.2.1) (kk : AW M d rc rs (pc + 2) (am_s1 lv i (.ref x)) st w cells slots Z) : AW M d rc rs pc lv (.ref x :: st) w cells slots Z := by
  intro p l e R s m args below meth c D tc b sc F H locs ls hR hS hl
  exact lv_astore F.1 F.2.1 hd hl hn (am_s1_eq b sc lv i (.ref x)) (fun ls hl => kk F hR hS hl)
theorem am_lk_idx : ∀ {l : List (Nat × Value)} {i : Nat} {v : Value}, am_lk l i = some v → ∃ k : Nat, l[k]? = some (i, v)
  | l, i, v, h => List.getElem?_of_mem (am_lk_mem h)
theorem aw_iinc {i : Nat} {n : Int} {x v : Int32} (hd : decode M.1 pc = .ok (.iinc i n, 3)) (h : am_lk lv i = some (.int x)) (hv : x + Int32.ofInt n = v) (hn : i < M.2.1) (kk : AW M d rc rs (pc + 3) (am_s1 lv i (.int v)) st w cells slots Z) : AW M d rc rs pc lv st w cells slots Z := by
  intro p l e R s m args below meth c D tc b sc F H locs ls hR hS hl
  obtain ⟨k, hk⟩ := am_lk_idx h
  exact lv_iinc F.1 F.2.1 hd hl (k := k) (by rw [List.getElem?_map, hk]; rfl) hv hn (am_s1_eq b sc lv i (.int v)) (fun ls hl => kk F hR hS hl)
theorem aw_iadd {x y : Int32} (hd : decode M.1 pc = .ok (.iadd, 1)) (k : AW M d rc rs (pc + 1) lv (.int (x + y) :: st) w cells slots Z) : AW M d rc rs pc lv (.int y :: .int x :: st) w cells slots Z := by
  intro p l e R s m args below meth c D tc b sc F H locs ls hR hS hl
  exact lv_iadd F.1 F.2.1 hd (k F hR hS hl)
theorem aw_isub {x y : Int32} (hd : decode M.1 pc = .ok (.isub, 1)) (k : AW M d rc rs (pc + 1) lv (.int (x - y) :: st) w cells slots Z) : AW M d rc rs pc lv (.int y :: .int x :: st) w cells slots Z := by
  intro p l e R s m args below meth c D tc b sc F H locs ls hR hS hl
  exact lv_isub F.1 F.2.1 hd (k F hR hS hl)
theorem aw_imul {x y : Int32} (hd : decode M.1 pc = .ok (.imul, 1)) (k : AW M d rc rs (pc + 1) lv (.int (x * y) :: st) w cells slots Z) : AW M d rc rs pc lv (.int y :: .int x :: st) w cells slots Z := by
  intro p l e R s m args below meth c D tc b sc F H locs ls hR hS hl
  exact lv_imul F.1 F.2.1 hd (k F hR hS hl)
theorem aw_iand {x y : Int32} (hd : decode M.1 pc = .ok (.iand, 1)) (k : AW M d rc rs (pc + 1) lv (.int (x &&& y) :: st) w cells slots Z) : AW M d rc rs pc lv (.int y :: .int x :: st) w cells slots Z := by
  intro p l e R s m args below meth c D tc b sc F H locs ls hR hS hl
  exact lv_iand F.1 F.2.1 hd (k F hR hS hl)
theorem aw_ior {x y : Int32} (hd : decode M.1 pc = .ok (.ior, 1)) (k : AW M d rc rs (pc + 1) lv (.int (x ||| y) :: st) w cells slots Z) : AW M d rc rs pc lv (.int y :: .int x :: st) w cells slots Z := by
  intro p l e R s m args below meth c D tc b sc F H locs ls hR hS hl
  exact lv_ior F.1 F.2.1 hd (k F hR hS hl)
theorem aw_ixor {x y : Int32} (hd : decode M.1 pc = .ok (.ixor, 1)) (k : AW M d rc rs (pc + 1) lv (.int (x ^^^ y) :: st) w cells slots Z) : AW M d rc rs pc lv (.int y :: .int x :: st) w cells slots Z := by
  intro p l e R s m args below meth c D tc b sc F H locs ls hR hS hl
  exact lv_ixor F.1 F.2.1 hd (k F hR hS hl)
theorem aw_ishl {x y : Int32} (hd : decode M.1 pc = .ok (.ishl, 1)) (k : AW M d rc rs (pc + 1) lv (.int (x <<< (y &&& 31)) :: st) w cells slots Z) : AW M d rc rs pc lv (.int y :: .int x :: st) w cells slots Z := by
  intro p l e R s m args below meth c D tc b sc F H locs ls hR hS hl
  exact lv_ishl F.1 F.2.1 hd (k F hR hS hl)
theorem aw_ishr {x y : Int32} (hd : decode M.1 pc = .ok (.ishr, 1)) (k : AW M d rc rs (pc + 1) lv (.int (x >>> (y &&& 31)) :: st) w cells slots Z) : AW M d rc rs pc lv (.int y :: .int x :: st) w cells slots Z := by
  intro p l e R s m args below meth c D tc b sc F H locs ls hR hS hl
  exact lv_ishr F.1 F.2.1 hd (k F hR hS hl)
theorem aw_ladd {x y : Int64} (hd : decode M.1 pc = .ok (.ladd, 1)) (k : AW M d rc rs (pc + 1) lv (.long (x + y) :: st) w cells slots Z) : AW M d rc rs pc lv (.long y :: .long x :: st) w cells slots Z := by
  intro p l e R s m args below meth c D tc b sc F H locs ls hR hS hl
  exact lv_ladd F.1 F.2.1 hd (k F hR hS hl)
theorem aw_lsub {x y : Int64} (hd : decode M.1 pc = .ok (.lsub, 1)) (k : AW M d rc rs (pc + 1) lv (.long (x - y) :: st) w cells slots Z) : AW M d rc rs pc lv (.long y :: .long x :: st) w cells slots Z := by
  intro p l e R s m args below meth c D tc b sc F H locs ls hR hS hl
  exact lv_lsub F.1 F.2.1 hd (k F hR hS hl)
theorem aw_lmul {x y : Int64} (hd : decode M.1 pc = .ok (.lmul, 1)) (k : AW M d rc rs (pc + 1) lv (.long (x * y) :: st) w cells slots Z) : AW M d rc rs pc lv (.long y :: .long x :: st) w cells slots Z := by
  intro p l e R s m args below meth c D tc b sc F H locs ls hR hS hl
  exact lv_lmul F.1 F.2.1 hd (k F hR hS hl)
theorem aw_land {x y : Int64} (hd : decode M.1 pc = .ok (.land, 1)) (k : AW M d rc rs (pc + 1) lv (.long (x &&& y) :: st) w cells slots Z) : AW M d rc rs pc lv (.long y :: .long x :: st) w cells slots Z := by
  intro p l e R s m args below meth c D tc b sc F H locs ls hR hS hl
  exact lv_land F.1 F.2.1 hd (k F hR hS hl)
theorem aw_lor {x y : Int64} (hd : decode M.1 pc = .ok (.lor, 1)) (k : AW M d rc rs (pc + 1) lv (.long (x ||| y) :: st) w cells slots Z) : AW M d rc rs pc lv (.long y :: .long x :: st) w cells slots Z := by
  intro p l e R s m args below meth c D tc b sc F H locs ls hR hS hl
  exact lv_lor F.1 F.2.1 hd (k F hR hS hl)
theorem aw_lxor {x y : Int64} (hd : decode M.1 pc = .ok (.lxor, 1)) (k : AW M d rc rs (pc + 1) lv (.long (x ^^^ y) :: st) w cells slots Z) : AW M d rc rs pc lv (.long y :: .long x :: st) w cells slots Z := by
  intro p l e R s m args below meth c D tc b sc F H locs ls hR hS hl
  exact lv_lxor F.1 F.2.1 hd (k F hR hS hl)
theorem aw_idiv {x y : Int32} (hd : decode M.1 pc = .ok (.idiv, 1)) (hne : ¬ y = 0) (k : AW M d rc rs (pc + 1) lv (.int (x / y) :: st) w cells slots Z) : AW M d rc rs pc lv (.int y :: .int x :: st) w cells slots Z := by
  intro p l e R s m args below meth c D tc b sc F H locs ls hR hS hl
  exact lv_idiv F.1 F.2.1 hd hne (k F hR hS hl)
theorem aw_irem {x y : Int32} (hd : decode M.1 pc = .ok (.irem, 1)) (hne : ¬ y = 0) (k : AW M d rc rs (pc + 1) lv (.int (x - x / y * y) :: st) w cells slots Z) : AW M d rc rs pc lv (.int y :: .int x :: st) w cells slots Z := by
  intro p l e R s m args below meth c D tc b sc F H locs ls hR hS hl
  exact lv_irem F.1 F.2.1 hd hne (k F hR hS hl)
theorem aw_ldiv {x y : Int64} (hd : decode M.1 pc = .ok (.ldiv, 1)) (hne : ¬ y = 0) (k : AW M d rc rs (pc + 1) lv (.long (x / y) :: st) w cells slots Z) : AW M d rc rs pc lv (.long y :: .long x :: st) w cells slots Z := by
  intro p l e R s m args below meth c D tc b sc F H locs ls hR hS hl
  exact lv_ldiv F.1 F.2.1 hd hne (k F hR hS hl)
theorem aw_lrem {x y : Int64} (hd : decode M.1 pc = .ok (.lrem, 1)) (hne : ¬ y = 0) (k : AW M d rc rs (pc + 1) lv (.long (x - x / y * y) :: st) w cells slots Z) : AW M d rc rs pc lv (.long y :: .long x :: st) w cells slots Z := by
  intro p l e R s m args below meth c D tc b sc F H locs ls hR hS hl
  exact lv_lrem F.1 F.2.1 hd hne (k F hR hS hl)
theorem aw_ineg {x : Int32} (hd : decode M.1 pc = .ok (.ineg, 1)) (k : AW M d rc rs (pc + 1) lv (.int (-x) :: st) w cells slots Z) : AW M d rc rs pc lv (.int x :: st) w cells slots Z := by
  intro p l e R s m args below meth c D tc b sc F H locs ls hR hS hl
  exact lv_ineg F.1 F.2.1 hd (k F hR hS hl)
theorem aw_lneg {x : Int64} (hd : decode M.1 pc = .ok (.lneg, 1)) (k : AW M d rc rs (pc + 1) lv (.long (-x) :: st) w cells slots Z) : AW M d rc rs pc lv (.long x :: st) w cells slots Z := by
  intro p l e R s m args below meth c D tc b sc F H locs ls hR hS hl
  exact lv_lneg F.1 F.2.1 hd (k F hR hS hl)
theorem aw_i2l {x : Int32} (hd : decode M.1 pc = .ok (.i2l, 1)) (k : AW M d rc rs (pc + 1) lv (.long x.toInt64 :: st) w cells slots Z) : AW M d rc rs pc lv (.int x :: st) w cells slots Z := by
  intro p l e R s m args below meth c D tc b sc F H locs ls hR hS hl
  exact lv_i2l F.1 F.2.1 hd rfl (k F hR hS hl)
theorem aw_l2i {x : Int64} (hd : decode M.1 pc = .ok (.l2i, 1)) (k : AW M d rc rs (pc + 1) lv (.int x.toInt32 :: st) w cells slots Z) : AW M d rc rs pc lv (.long x :: st) w cells slots Z := by
  intro p l e R s m args below meth c D tc b sc F H locs ls hR hS hl
  exact lv_l2i F.1 F.2.1 hd rfl (k F hR hS hl)
theorem aw_lushr {x : Int64} {y : Int32} (hd : decode M.1 pc = .ok (.lushr, 1)) (k : AW M d rc rs (pc + 1) lv (.long (x.toUInt64 >>> (y.toInt64.toUInt64 &&& Int64.toUInt64 63)).toInt64 :: st) w cells slots Z) : AW M d rc rs pc lv (.int y :: .long x :: st) w cells slots Z := by
  intro p l e R s m args below meth c D tc b sc F H locs ls hR hS hl
  exact lv_lushr F.1 F.2.1 hd rfl (k F hR hS hl)
theorem aw_lshl {x : Int64} {y : Int32} (hd : decode M.1 pc = .ok (.lshl, 1)) (k : AW M d rc rs (pc + 1) lv (.long (x <<< (y.toInt64 &&& 63)) :: st) w cells slots Z) : AW M d rc rs pc lv (.int y :: .long x :: st) w cells slots Z := by
  intro p l e R s m args below meth c D tc b sc F H locs ls hR hS hl
  exact lv_lshl F.1 F.2.1 hd rfl (k F hR hS hl)
theorem aw_lshr {x : Int64} {y : Int32} (hd : decode M.1 pc = .ok (.lshr, 1)) (k : AW M d rc rs (pc + 1) lv (.long (x >>> (y.toInt64 &&& 63)) :: st) w cells slots Z) : AW M d rc rs pc lv (.int y :: .long x :: st) w cells slots Z := by
  intro p l e R s m args below meth c D tc b sc F H locs ls hR hS hl
  exact lv_lshr F.1 F.2.1 hd rfl (k F hR hS hl)
theorem aw_lcmp {x y : Int64} (hd : decode M.1 pc = .ok (.lcmp, 1)) (k : AW M d rc rs (pc + 1) lv (.int (lg_cmp x y) :: st) w cells slots Z) : AW M d rc rs pc lv (.long y :: .long x :: st) w cells slots Z := by
  intro p l e R s m args below meth c D tc b sc F H locs ls hR hS hl
  exact W.lcmp F.1 F.2.1 hd (k F hR hS hl)
theorem aw_dup {x : Value} (hd : decode M.1 pc = .ok (.dup, 1)) (hx : x.category = 1) (k : AW M d rc rs (pc + 1) lv (x :: x :: st) w cells slots Z) : AW M d rc rs pc lv (x :: st) w cells slots Z := by
  intro p l e R s m args below meth c D tc b sc F H locs ls hR hS hl
  exact lv_dup F.1 F.2.1 hd (by rw [am_v_cat]; exact hx) (k F hR hS hl)
theorem aw_pop {x : Value} (hd : decode M.1 pc = .ok (.pop, 1)) (hx : x.category = 1) (k : AW M d rc rs (pc + 1) lv st w cells slots Z) : AW M d rc rs pc lv (x :: st) w cells slots Z := by
  intro p l e R s m args below meth c D tc b sc F H locs ls hR hS hl
  exact lv_pop F.1 F.2.1 hd (by rw [am_v_cat]; exact hx) (k F hR hS hl)
theorem aw_pop2 {x : Value} (hd : decode M.1 pc = .ok (.pop2, 1)) (hx : x.category = 2) (k : AW M d rc rs (pc + 1) lv st w cells slots Z) : AW M d rc rs pc lv (x :: st) w cells slots Z := by
  intro p l e R s m args below meth c D tc b sc F H locs ls hR hS hl
  exact lv_pop2_2 F.1 F.2.1 hd (by rw [am_v_cat]; exact hx) (k F hR hS hl)
theorem aw_dup_x1 {x y : Value} (hd : decode M.1 pc = .ok (.dup_x1, 1)) (hx : x.category = 1) (hy : y.category = 1) (k : AW M d rc rs (pc + 1) lv (x :: y :: x :: st) w cells slots Z) : AW M d rc rs pc lv (x :: y :: st) w cells slots Z := by
  intro p l e R s m args below meth c D tc b sc F H locs ls hR hS hl
  exact lv_dup_x1 F.1 F.2.1 hd (by rw [am_v_cat]; exact hx) (by rw [am_v_cat]; exact hy) (k F hR hS hl)
theorem aw_dup_x2 {x y z : Value} (hd : decode M.1 pc = .ok (.dup_x2, 1)) (hx : x.category = 1) (hy : y.category = 1) (hz : z.category = 1) (k : AW M d rc rs (pc + 1) lv (x :: y :: z :: x :: st) w cells slots Z) : AW M d rc rs pc lv (x :: y :: z :: st) w cells slots Z := by
  intro p l e R s m args below meth c D tc b sc F H locs ls hR hS hl
  exact lv_dup_x2 F.1 F.2.1 hd (by rw [am_v_cat]; exact hx) (by rw [am_v_cat]; exact hy) (by rw [am_v_cat]; exact hz) (k F hR hS hl)
theorem aw_dup2 {x y : Value} (hd : decode M.1 pc = .ok (.dup2, 1)) (hx : x.category = 1) (hy : y.category = 1) (k : AW M d rc rs (pc + 1) lv (x :: y :: x :: y :: st) w cells slots Z) : AW M d rc rs pc lv (x :: y :: st) w cells slots Z := by
  intro p l e R s m args below meth c D tc b sc F H locs ls hR hS hl
  exact lv_dup2_11 F.1 F.2.1 hd (by rw [am_v_cat]; exact hx) (by rw [am_v_cat]; exact hy) (k F hR hS hl)
theorem aw_dup2L {x : Value} (hd : decode M.1 pc = .ok (.dup2, 1)) (hx : x.category = 2) (k : AW M d rc rs (pc + 1) lv (x :: x :: st) w cells slots Z) : AW M d rc rs pc lv (x :: st) w cells slots Z := by
  intro p l e R s m args below meth c D tc b sc F H locs ls hR hS hl
  exact lv_dup2_2 F.1 F.2.1 hd (by rw [am_v_cat]; exact hx) (k F hR hS hl)
theorem aw_if_eq {x : Int32} {off : Int} {tgt : Nat} (hd : decode M.1 pc = .ok (.ifCond .eq off, 3)) (ht : (pc : Int) + off = (tgt : Int)) (kt : x = 0 → AW M d rc rs tgt lv st w cells slots Z) (kf : ¬ x = 0 → AW M d rc rs (pc + 3) lv st w cells slots Z) : AW M d rc rs pc lv (.int x :: st) w cells slots Z := by
  intro p l e R s m args below meth c D tc b sc F H locs ls hR hS hl
  exact lv_if_eq F.1 F.2.1 hd ht (fun h => kt h F hR hS hl) (fun h => kf h F hR hS hl)
theorem aw_icmp_eq {x y : Int32} {off : Int} {tgt : Nat} (hd : decode M.1 pc = .ok (.if_icmp .eq off, 3)) (ht : (pc : Int) + off = (tgt : Int)) (kt : x = y → AW M d rc rs tgt lv st w cells slots Z) (kf : ¬ x = y → AW M d rc rs (pc + 3) lv st w cells slots Z) : AW M d rc rs pc lv (.int y :: .int x :: st) w cells slots Z := by
  intro p l e R s m args below meth c D tc b sc F H locs ls hR hS hl
  exact lv_icmp_eq F.1 F.2.1 hd ht (fun h => kt h F hR hS hl) (fun h => kf h F hR hS hl)
theorem aw_if_ne {x : Int32} {off : Int} {tgt : Nat} (hd : decode M.1 pc = .ok (.ifCond .ne off, 3)) (ht : (pc : Int) + off = (tgt : Int)) (kt : ¬ x = 0 → AW M d rc rs tgt lv st w cells slots Z) (kf : x = 0 → AW M d rc rs (pc + 3) lv st w cells slots Z) : AW M d rc rs pc lv (.int x :: st) w cells slots Z := by
  intro p l e R s m args below meth c D tc b sc F H locs ls hR hS hl
  exact lv_if_ne F.1 F.2.1 hd ht (fun h => kt h F hR hS hl) (fun h => kf h F hR hS hl)
theorem aw_icmp_ne {x y : Int32} {off : Int} {tgt : Nat} (hd : decode M.1 pc = .ok (.if_icmp .ne off, 3)) (ht : (pc : Int) + off = (tgt : Int)) (kt : ¬ x = y → AW M d rc rs tgt lv st w cells slots Z) (kf : x = y → AW M d rc rs (pc + 3) lv st w cells slots Z) : AW M d rc rs pc lv (.int y :: .int x :: st) w cells slots Z := by
  intro p l e R s m args below meth c D tc b sc F H locs ls hR hS hl
  exact lv_icmp_ne F.1 F.2.1 hd ht (fun h => kt h F hR hS hl) (fun h => kf h F hR hS hl)
theorem aw_if_lt {x : Int32} {off : Int} {tgt : Nat} (hd : decode M.1 pc = .ok (.ifCond .lt off, 3)) (ht : (pc : Int) + off = (tgt : Int)) (kt : x < 0 → AW M d rc rs tgt lv st w cells slots Z) (kf : ¬ x < 0 → AW M d rc rs (pc + 3) lv st w cells slots Z) : AW M d rc rs pc lv (.int x :: st) w cells slots Z := by
  intro p l e R s m args below meth c D tc b sc F H locs ls hR hS hl
  exact lv_if_lt F.1 F.2.1 hd ht (fun h => kt h F hR hS hl) (fun h => kf h F hR hS hl)
theorem aw_icmp_lt {x y : Int32} {off : Int} {tgt : Nat} (hd : decode M.1 pc = .ok (.if_icmp .lt off, 3)) (ht : (pc : Int) + off = (tgt : Int)) (kt : x < y → AW M d rc rs tgt lv st w cells slots Z) (kf : ¬ x < y → AW M d rc rs (pc + 3) lv st w cells slots Z) : AW M d rc rs pc lv (.int y :: .int x :: st) w cells slots Z := by
  intro p l e R s m args below meth c D tc b sc F H locs ls hR hS hl
  exact lv_icmp_lt F.1 F.2.1 hd ht (fun h => kt h F hR hS hl) (fun h => kf h F hR hS hl)
theorem aw_if_ge {x : Int32} {off : Int} {tgt : Nat} (hd : decode M.1 pc = .ok (.ifCond .ge off, 3)) (ht : (pc : Int) + off = (tgt : Int)) (kt : 0 ≤ x → AW M d rc rs tgt lv st w cells slots Z) (kf : ¬ 0 ≤ x → AW M d rc rs (pc + 3) lv st w cells slots Z) : AW M d rc rs pc lv (.int x :: st) w cells slots Z := by
  intro p l e R s m args below meth c D tc b sc F H locs ls hR hS hl
  exact lv_if_ge F.1 F.2.1 hd ht (fun h => kt h F hR hS hl) (fun h => kf h F hR hS hl)
theorem aw_icmp_ge {x y : Int32} {off : Int} {tgt : Nat} (hd : decode M.1 pc = .ok (.if_icmp .ge off, 3)) (ht : (pc : Int) + off = (tgt : Int)) (kt : y ≤ x → AW M d rc rs tgt lv st w cells slots Z) (kf : ¬ y ≤ x → AW M d rc rs (pc + 3) lv st w cells slots Z) : AW M d rc rs pc lv (.int y :: .int x :: st) w cells slots Z := by
  intro p l e R s m args below meth c D tc b sc F H locs ls hR hS hl
  exact lv_icmp_ge F.1 F.2.1 hd ht (fun h => kt h F hR hS hl) (fun h => kf h F hR hS hl)
theorem aw_if_gt {x : Int32} {off : Int} {tgt : Nat} (hd : decode M.1 pc = .ok (.ifCond .gt off, 3)) (ht : (pc : Int) + off = (tgt : Int)) (kt : 0 < x → AW M d rc rs tgt lv st w cells slots Z) (kf : ¬ 0 < x → AW M d rc rs (pc + 3) lv st w cells slots Z) : AW M d rc rs pc lv (.int x :: st) w cells slots Z := by
  intro p l e R s m args below meth c D tc b sc F H locs ls hR hS hl
  exact lv_if_gt F.1 F.2.1 hd ht (fun h => kt h F hR hS hl) (fun h => kf h F hR hS hl)
theorem aw_icmp_gt {x y : Int32} {off : Int} {tgt : Nat} (hd : decode M.1 pc = .ok (.if_icmp .gt off, 3)) (ht : (pc : Int) + off = (tgt : Int)) (kt : y < x → AW M d rc rs tgt lv st w cells slots Z) (kf : ¬ y < x → AW M d rc rs (pc + 3) lv st w cells slots Z) : AW M d rc rs pc lv (.int y :: .int x :: st) w cells slots Z := by
  intro p l e R s m args below meth c D tc b sc F H locs ls hR hS hl
  exact lv_icmp_gt F.1 F.2.1 hd ht (fun h => kt h F hR hS hl) (fun h => kf h F hR hS hl)
theorem aw_if_le {x : Int32} {off : Int} {tgt : Nat} (hd : decode M.1 pc = .ok (.ifCond .le off, 3)) (ht : (pc : Int) + off = (tgt : Int)) (kt : x ≤ 0 → AW M d rc rs tgt lv st w cells slots Z) (kf : ¬ x ≤ 0 → AW M d rc rs (pc + 3) lv st w cells slots Z) : AW M d rc rs pc lv (.int x :: st) w cells slots Z := by
  intro p l e R s m args below meth c D tc b sc F H locs ls hR hS hl
  exact lv_if_le F.1 F.2.1 hd ht (fun h => kt h F hR hS hl) (fun h => kf h F hR hS hl)
theorem aw_icmp_le {x y : Int32} {off : Int} {tgt : Nat} (hd : decode M.1 pc = .ok (.if_icmp .le off, 3)) (ht : (pc : Int) + off = (tgt : Int)) (kt : x ≤ y → AW M d rc rs tgt lv st w cells slots Z) (kf : ¬ x ≤ y → AW M d rc rs (pc + 3) lv st w cells slots Z) : AW M d rc rs pc lv (.int y :: .int x :: st) w cells slots Z := by
  intro p l e R s m args below meth c D tc b sc F H locs ls hR hS hl
  exact lv_icmp_le F.1 F.2.1 hd ht (fun h => kt h F hR hS hl) (fun h => kf h F hR hS hl)
theorem aw_goto {off : Int} {tgt : Nat} (hd : decode M.1 pc = .ok (.goto off, 3)) (ht : (pc : Int) + off = (tgt : Int)) (k : AW M d rc rs tgt lv st w cells slots Z) : AW M d rc rs pc lv st w cells slots Z := by
  intro p l e R s m args below meth c D tc b sc F H locs ls hR hS hl
  exact lv_goto F.1 F.2.1 hd ht (k F hR hS hl)
theorem aw_tableIn {dflt lo hi : Int} {offs : Array Int} {len : Nat} {x : Int32} {off : Int} {tgt : Nat} (hd : decode M.1 pc = .ok (.tableswitch dflt lo hi offs, len)) (h1 : ¬ x.toInt < lo) (h2 : ¬ hi < x.toInt) (ho : offs[(x.toInt - lo).toNat]? = some off) (ht : (pc : Int) + off = (tgt : Int)) (k : AW M d rc rs tgt lv st w cells slots Z) : AW M d rc rs pc lv (.int x :: st) w cells slots Z := by
  intro p l e R s m args below meth c D tc b sc F H locs ls hR hS hl
  exact lv_tableIn F.1 F.2.1 hd h1 h2 ho ht (k F hR hS hl)
theorem aw_tableOut {dflt lo hi : Int} {offs : Array Int} {len : Nat} {x : Int32} {tgt : Nat} (hd : decode M.1 pc = .ok (.tableswitch dflt lo hi offs, len)) (h : x.toInt < lo ∨ hi < x.toInt) (ht : (pc : Int) + dflt = (tgt : Int)) (k : AW M d rc rs tgt lv st w cells slots Z) : AW M d rc rs pc lv (.int x :: st) w cells slots Z := by
  intro p l e R s m args below meth c D tc b sc F H locs ls hR hS hl
  exact lv_tableOut F.1 F.2.1 hd h ht (k F hR hS hl)
theorem aw_iret {v : Int32} (hd : decode M.1 pc = .ok (.ireturn, 1)) (hr : M.2.2.1 = some .int) : AW M d rc rs pc lv [.int v] w cells slots (am_Z (some (.int v)) w cells slots) := by
  intro p l e R s m args below meth c D tc b sc F H locs ls hR hS hl
  exact W.iret F.1 F.2.1 (F.2.2.2.1.trans hr) (fun t ht hW => ⟨rfl, by rw [ht]; exact hR, hS.F ht⟩) hS.2.2 hd F.2.2.2.2.2.2.1
theorem aw_zret {v : Int32} (hd : decode M.1 pc = .ok (.ireturn, 1)) (hr : M.2.2.1 = some .boolean) (hn : narrow .boolean (.int v) = .int v) : AW M d rc rs pc lv [.int v] w cells slots (am_Z (some (.int v)) w cells slots) := by
  intro p l e R s m args below meth c D tc b sc F H locs ls hR hS hl
  exact W.zret F.1 F.2.1 (F.2.2.2.1.trans hr) hn (fun t ht hW => ⟨rfl, by rw [ht]; exact hR, hS.F ht⟩) hS.2.2 hd F.2.2.2.2.2.2.1
theorem aw_lret {v : Int64} (hd : decode M.1 pc = .ok (.lreturn, 1)) (hr : M.2.2.1 = some .long) : AW M d rc rs pc lv [.long v] w cells slots (am_Z (some (.long v)) w cells slots) := by
  intro p l e R s m args below meth c D tc b sc F H locs ls hR hS hl
  exact W.lret F.1 F.2.1 (F.2.2.2.1.trans hr) (fun t ht hW => ⟨rfl, by rw [ht]; exact hR, hS.F ht⟩) hS.2.2 hd F.2.2.2.2.2.2.1
theorem aw_vret (hd : decode M.1 pc = .ok (.return_, 1)) (hr : M.2.2.1 = none) : AW M d rc rs pc lv [] w cells slots (am_Z none w cells slots) := by
  intro p l e R s m args below meth c D tc b sc F H locs ls hR hS hl
  exact W.vret F.1 F.2.1 (F.2.2.2.1.trans hr) (fun t ht hW => ⟨rfl, by rw [ht]; exact hR, hS.F ht⟩) hS.2.2 hd F.2.2.2.2.2.2.1
theorem aw_aret {q : Nat} {rt : FieldType} (hd : decode M.1 pc = .ok (.areturn, 1)) (hr : M.2.2.1 = some rt) (hrt : (∃ n, rt = .object n) ∨ ∃ t, rt = .array t) : AW M d rc rs pc lv [.ref q] w cells slots (am_Z (some (.ref q)) w cells slots) := by
  intro p l e R s m args below meth c D tc b sc F H locs ls hR hS hl
  exact W.aret (v := .ref (b + q)) F.1 F.2.1 (F.2.2.2.1.trans hr) hrt (Or.inr ⟨_, rfl⟩) (fun t ht hW => ⟨rfl, by rw [ht]; exact hR, hS.F ht⟩) hS.2.2 hd F.2.2.2.2.2.2.1
theorem aw_widen {k n : Nat} (h1 : cells ≤ k) (h2 : slots ≤ n) (kk : AW M d rc rs pc lv st w k n Z) : AW M d rc rs pc lv st w cells slots Z := by
  intro p l e R s m args below meth c D tc b sc F H locs ls hR hS hl
  exact W.widen h1 h2 (kk F hR hS hl)
/-- a field by its number in the pool -/
def am_fl (own : String) (idx ci k : Nat) : Prop := ∃ (C : String) (T : u_T) (N : Nat), am_cl[ci]? = some (C, T, N) ∧ (∀ z ∈ u_ws C T N, z ∈ am_G) ∧ k < N ∧ Cond.fieldLink own idx (T k).1 (T k).2.1 (T k).2.2.1 ∈ am_G
def am_fp (own : String) (idx ci k : Nat) (ty : FieldType) : Prop := ∃ (C : String) (T : u_T) (N : Nat) (ty0 : Nat → FieldType), am_cl[ci]? = some (C, T, N) ∧ (∀ z ∈ u_ws C T N, z ∈ am_G) ∧ k < N ∧ Cond.fieldLink own idx (T k).1 (T k).2.1 (T k).2.2.1 ∈ am_G ∧ (∀ k, k < N → parseFieldDescriptor (T k).2.2.1 = some (ty0 k)) ∧ (∀ a, a < N → ∀ b, b < N → a ≠ b → (T a).2.1 ≠ (T b).2.1) ∧ (T k).2.2.2 = false ∧ parseFieldDescriptor (T k).2.2.1 = some ty
def am_fF (own : String) (idx ci k : Nat) (ty : FieldType) : Prop := ∃ (C : String) (T : u_T) (N : Nat) (ty0 : Nat → FieldType), am_cl[ci]? = some (C, T, N) ∧ (∀ z ∈ u_ws C T N, z ∈ am_G) ∧ k < N ∧ Cond.fieldLink own idx (T k).1 (T k).2.1 (T k).2.2.1 ∈ am_G ∧ (∀ k, k < N → parseFieldDescriptor (T k).2.2.1 = some (ty0 k)) ∧ (∀ a, a < N → ∀ b, b < N → a ≠ b → (T a).2.1 ≠ (T b).2.1) ∧ (T k).2.2.2 = true ∧ (T k).1 = own ∧ parseFieldDescriptor (T k).2.2.1 = some ty
theorem aw_get {idx q ci k : Nat} {fs : List Value} {v : Value} (hd : decode M.1 pc = .ok (.getfield idx, 3)) (hf : am_fl M.2.2.2.1 idx ci k) (hw : w[q]? = some (.inr (ci, fs))) (hv : fs[k]? = some v) (kk : AW M d rc rs (pc + 3) lv (v :: st) w cells slots Z) : AW M d rc rs pc lv (.ref q :: st) w cells slots Z := by
  intro p l e R s m args below meth c D tc b sc F H locs ls hR hS hl
  obtain ⟨C, T, N, hc, hin, hk, hlk⟩ := hf
  obtain ⟨hx, hb, hml, hr, hown, hname, hlocks, hts, hK, -⟩ := id F
  have he : (am_w tc b sc w)[q]? = some (b + q, .inr (ci, fs.map (am_v b sc))) := am_w_at hw
  exact va_get hx hb hts hin hown hK.1 hR.2 q he hc k hk (hts _ hlk) (fun _ h => h) (v := am_v b sc v) (by rw [List.getElem?_map, hv]; rfl) hd (kk F hR hS hl)
theorem aw_put {idx q ci k : Nat} {ty : FieldType} {fs : List Value} {v : Value} (hd : decode M.1 pc = .ok (.putfield idx, 3)) (hf : am_fp M.2.2.2.1 idx ci k ty) (hw : w[q]? = some (.inr (ci, fs))) (hl9 : k < fs.length) (hn : ∀ b sc : Nat, narrow ty (am_v b sc v) = am_v b sc v ∧ fits ty (am_v b sc v) = true) (kk : AW M d rc rs (pc + 3) lv st (w.set q (.inr (ci, fs.set k v))) cells slots Z) : AW M d rc rs pc lv (v :: .ref q :: st) w cells slots Z := by
  intro p l e R s m args below meth c D tc b sc F H locs ls hR hS hl
  obtain ⟨C, T, N, ty0, hc, hin, hk, hlk, hty, hnm, hfin, hd9⟩ := hf
  obtain ⟨hx, hb, hml, hr, hown, hname, hlocks, hts, hK, -⟩ := id F
  have hP := hR.2
  have he : (am_w tc b sc w)[q]? = some (b + q, .inr (ci, fs.map (am_v b sc))) := am_w_at hw
  have hDD := am_w_D tc b sc w
  have hap := va_apart (own := M.2.2.2.1) hts hin ty0 hty hnm hK.1 hc
  obtain ⟨r, h1, cell, q1, q2, q3, q4⟩ := hP q _ he
  have hr9 : r = (C, T, N) := Option.some.inj (h1.symm.trans hc)
  subst hr9
  obtain ⟨hSl, hfc, kC, hkC, hkind⟩ := hK.1.1 ci _ hc
  obtain ⟨cf, kf, fi, f, hi, hsl⟩ := hSl k hk
  have hlay := hts _ (hin _ (u_in_lay hk))
  unfold u_lay at hlay
  rw [if_neg (by rw [hfin]; decide)] at hlay
  have hst := (u_facts hfc hkC (u_lays hts hin hk) hi).1
  have h6 := u_store hfc hkC hkind hlay hi hd9 (hn b sc).1 (hn b sc).2
  refine W.putK hx hb (f := f) ⟨hown, hts _ hlk, ⟨_, _, _, hi⟩, hst⟩ (by rw [q2]; exact h6) q1 q3 (by rw [hsl]; exact k2_hasslot (q4 k hk)) rfl rfl hd fun H' e1 e2 e3 => ?_
  rw [hsl] at e1 ⊢
  have hset : (am_w tc b sc w).set q (b + q, .inr (ci, (fs.map (am_v b sc)).set k (am_v b sc v))) = am_w tc b sc (w.set q (.inr (ci, fs.set k v))) := by
    rw [← List.map_set]; exact am_w_set tc b sc w q (.inr (ci, fs.set k v))
  refine kk F ⟨by rw [e2, hR.1, List.length_set], ?_⟩ (hS.put e2 e3 (hDD.2 q _ he)) hl
  rw [← hset]
  exact hP.set hDD he ⟨_, hc, t_OB.to (V := updV (vp_V (fs.map (am_v b sc))) k (am_v b sc v)) ⟨_, e1, q2, q3, t_set q4 hap hk _⟩ (fun j _ => vp_updV_set (by rw [List.length_map]; exact hl9) _ j)⟩ e3
theorem aw_putF {idx q ci k : Nat} {ty : FieldType} {fs : List Value} {v : Value} (hd : decode M.1 pc = .ok (.putfield idx, 3)) (hf : am_fF M.2.2.2.1 idx ci k ty) (hin2 : M.2.2.2.2.1 = "<init>") (hw : w[q]? = some (.inr (ci, fs))) (hl9 : k < fs.length) (hn : ∀ b sc : Nat, narrow ty (am_v b sc v) = am_v b sc v ∧ fits ty (am_v b sc v) = true) (kk : AW M d rc rs (pc + 3) lv st (w.set q (.inr (ci, fs.set k v))) cells slots Z) : AW M d rc rs pc lv (v :: .ref q :: st) w cells slots Z := by
  intro p l e R s m args below meth c D tc b sc F H locs ls hR hS hl
  obtain ⟨C, T, N, ty0, hc, hin, hk, hlk, hty, hnm, hfin, hdecl, hd9⟩ := hf
  obtain ⟨hx, hb, hml, hr, hown, hname, hlocks, hts, hK, -⟩ := id F
  have hP := hR.2
  have he : (am_w tc b sc w)[q]? = some (b + q, .inr (ci, fs.map (am_v b sc))) := am_w_at hw
  have hDD := am_w_D tc b sc w
  have hap := va_apart (own := M.2.2.2.1) hts hin ty0 hty hnm hK.1 hc
  obtain ⟨r, h1, cell, q1, q2, q3, q4⟩ := hP q _ he
  have hr9 : r = (C, T, N) := Option.some.inj (h1.symm.trans hc)
  subst hr9
  obtain ⟨hSl, hfc, kC, hkC, hkind⟩ := hK.1.1 ci _ hc
  obtain ⟨cf, kf, fi, f, hi, hsl⟩ := hSl k hk
  have hlay := hts _ (hin _ (u_in_lay hk))
  unfold u_lay at hlay
  rw [if_pos hfin] at hlay
  have hst := (u_facts hfc hkC (u_lays hts hin hk) hi).1
  have hcf : m.cls = cf := by
    obtain ⟨_, _, c', _, _, _, -, -, hf', -, -, -, hown2, -⟩ := Cond.laysFinal_spec hlay
    have e1 : c' = cf := by have := hi.symm.trans hf'; simp at this; exact this.1.symm
    rw [hdecl] at hown2
    rw [← e1]; exact Option.some.inj (hown.symm.trans hown2)
  have h6 := u_fits hfc hkC hkind (Or.inr hlay) hi hd9 (hn b sc).1 (hn b sc).2
  refine W.putFinK hx hb hown (hts _ hlk) hi hst hcf (hname.trans hin2) (by rw [q2]; exact h6) q1 q3 (by rw [hsl]; exact k2_hasslot (q4 k hk)) rfl rfl hd fun H' e1 e2 e3 => ?_
  rw [hsl] at e1 ⊢
  have hset : (am_w tc b sc w).set q (b + q, .inr (ci, (fs.map (am_v b sc)).set k (am_v b sc v))) = am_w tc b sc (w.set q (.inr (ci, fs.set k v))) := by
    rw [← List.map_set]; exact am_w_set tc b sc w q (.inr (ci, fs.set k v))
  refine kk F ⟨by rw [e2, hR.1, List.length_set], ?_⟩ (hS.put e2 e3 (hDD.2 q _ he)) hl
  rw [← hset]
  exact hP.set hDD he ⟨_, hc, t_OB.to (V := updV (vp_V (fs.map (am_v b sc))) k (am_v b sc v)) ⟨_, e1, q2, q3, t_set q4 hap hk _⟩ (fun j _ => vp_updV_set (by rw [List.length_map]; exact hl9) _ j)⟩ e3
theorem aw_iald {q n : Nat} {f : Nat → Int32} {i : Int32} (hd : decode M.1 pc = .ok (.iaload, 1)) (hw : w[q]? = some (.inl (0, n, .inl f))) (hin : vp_in i n) (kk : AW M d rc rs (pc + 1) lv (.int (f i.toNatClampNeg) :: st) w cells slots Z) : AW M d rc rs pc lv (.int i :: .ref q :: st) w cells slots Z := by
  intro p l e R s m args below meth c D tc b sc F H locs ls hR hS hl
  obtain ⟨hx, hb, hml, hr, hown, hname, hlocks, hts, hK, -⟩ := id F
  have he : (am_w tc b sc w)[q]? = some (b + q, .inl (tc 0, n, .inl f)) := am_w_at hw
  exact va_iald hx hb hK.1 hR.2 q 0 he (am_tys_at (by decide)) hin hd (kk F hR hS hl)
theorem aw_iast {q n : Nat} {f : Nat → Int32} {i : Int32} {x : Int32} (hd : decode M.1 pc = .ok (.iastore, 1)) (hw : w[q]? = some (.inl (0, n, .inl f))) (hin : vp_in i n) (kk : AW M d rc rs (pc + 1) lv st (w.set q (.inl (0, n, .inl (upd f i.toNatClampNeg x)))) cells slots Z) : AW M d rc rs pc lv (.int x :: .int i :: .ref q :: st) w cells slots Z := by
  intro p l e R s m args below meth c D tc b sc F H locs ls hR hS hl
  obtain ⟨hx, hb, hml, hr, hown, hname, hlocks, hts, hK, -⟩ := id F
  have he : (am_w tc b sc w)[q]? = some (b + q, .inl (tc 0, n, .inl f)) := am_w_at hw
  have hP := hR.2
  have hDD := am_w_D tc b sc w
  have ht : (am_tys tc)[0]? = some (tc 0, .int) := am_tys_at (by decide)
  refine W.iast hx hb (hP q _ he) ((hK.1.2 0 _ ht).1 n (fun j => .int (f j))) (fun q => by cases q) (by show ¬ (i < 0 ∨ (arrV _ _ _).slots.size ≤ _); rw [arrV_size]; exact hin) rfl rfl hd fun H1 e z oq => ?_
  have hset : (am_w tc b sc w).set q (b + q, .inl (tc 0, n, .inl (upd f i.toNatClampNeg x))) = am_w tc b sc (w.set q (.inl (0, n, .inl (upd f i.toNatClampNeg x)))) := am_w_set tc b sc w q (.inl (0, n, .inl (upd f i.toNatClampNeg x)))
  refine kk F ⟨by rw [z, hR.1, List.length_set], ?_⟩ (hS.put z oq (hDD.2 q _ he)) hl
  rw [← hset]
  refine hP.set hDD he ?_ oq
  show H1[b + q]? = some (vp_cell _ _)
  rw [e]
  rw [vp_cell_i, vp_cell_i, arrV_store]
  congr 2
  funext j
  by_cases hj : j = i.toNatClampNeg
  · subst hj
    simp [updV, upd, vp_nar]
    try rfl
  · simp [updV, upd, hj]
theorem aw_newai {n : Int32} {N' : Nat} (hd : decode M.1 pc = .ok (.newarray .int, 2)) (hg : Cond.arrayClass .int ∈ am_G) (hn : ¬ n < 0) (hN : n.toNatClampNeg = N') (hbytes : N' * componentBytes .int ≤ 536870912) (hcells : cells + 1 ≤ rc) (hslots : slots + N' ≤ rs) (kk : AW M d rc rs (pc + 2) lv (.ref w.length :: st) (w ++ [.inl (0, N', .inl (fun _ => 0))]) (cells + 1) (slots + N') Z) : AW M d rc rs pc lv (.int n :: st) w cells slots Z := by
  intro p l e R s m args below meth c D tc b sc F H locs ls hR hS hl
  obtain ⟨hx, hb, hml, hr, hown, hname, hlocks, hts, hK, hbs, hfl, hcs, -⟩ := id F
  have hP := hR.2
  refine va_newaK hx hb (atype := .int) (hts _ hg) rfl hd rfl hn hN hbytes (Nat.le_trans hcells hcs.1) (Nat.le_trans hslots hcs.2) hR.1 fun H1 cA e1 z1 o1 hAr hNm => ?_
  have ht : (am_tys tc)[0]? = some (tc 0, .int) := am_tys_at (by decide)
  have hcA : cA = tc 0 := Option.some.inj (hNm.symm.trans (hK.1.2 0 _ ht).2)
  subst hcA
  have hkeep : ∀ (k : Nat) (x : Nat × va_E), (am_w tc b sc w)[k]? = some x → H1[x.1]? = H[x.1]? := fun k x hx => o1 x.1 (by have := (hP k x hx).lt; rw [hR.1] at this; exact this)
  have hpush : am_w tc b sc w ++ [(b + w.length, .inl (tc 0, N', .inl (fun _ => 0)))] = am_w tc b sc (w ++ [.inl (0, N', .inl (fun _ => 0))]) := am_w_push tc b sc w (.inl (0, N', .inl (fun _ => 0)))
  refine kk F ⟨by rw [z1, List.length_append, Nat.add_assoc]; rfl, ?_⟩ ⟨Nat.le_trans hS.1 (by rw [hR.1]; omega), fun x h1 h2 => (o1 x (by have := hS.1; rw [hR.1] at this; omega)).trans (hS.2.1 x h1 h2), hS.2.2⟩ hl
  rw [← hpush]
  refine (hP.kept hkeep).app (fun k x hx => ?_)
  have hz : k < 1 := (List.getElem?_eq_some_iff.mp hx).1
  rw [show k = 0 by omega] at hx
  cases hx
  show H1[b + w.length]? = some (vp_cell _ _)
  rw [e1]
  rfl
theorem aw_lald {q n : Nat} {f : Nat → Int64} {i : Int32} (hd : decode M.1 pc = .ok (.laload, 1)) (hw : w[q]? = some (.inl (1, n, .inr (.inl f)))) (hin : vp_in i n) (kk : AW M d rc rs (pc + 1) lv (.long (f i.toNatClampNeg) :: st) w cells slots Z) : AW M d rc rs pc lv (.int i :: .ref q :: st) w cells slots Z := by
  intro p l e R s m args below meth c D tc b sc F H locs ls hR hS hl
  obtain ⟨hx, hb, hml, hr, hown, hname, hlocks, hts, hK, -⟩ := id F
  have he : (am_w tc b sc w)[q]? = some (b + q, .inl (tc 1, n, .inr (.inl f))) := am_w_at hw
  exact va_lald hx hb hK.1 hR.2 q 1 he (am_tys_at (by decide)) hin hd (kk F hR hS hl)
theorem aw_last {q n : Nat} {f : Nat → Int64} {i : Int32} {x : Int64} (hd : decode M.1 pc = .ok (.lastore, 1)) (hw : w[q]? = some (.inl (1, n, .inr (.inl f)))) (hin : vp_in i n) (kk : AW M d rc rs (pc + 1) lv st (w.set q (.inl (1, n, .inr (.inl (vp_updL f i.toNatClampNeg x))))) cells slots Z) : AW M d rc rs pc lv (.long x :: .int i :: .ref q :: st) w cells slots Z := by
  intro p l e R s m args below meth c D tc b sc F H locs ls hR hS hl
  obtain ⟨hx, hb, hml, hr, hown, hname, hlocks, hts, hK, -⟩ := id F
  have he : (am_w tc b sc w)[q]? = some (b + q, .inl (tc 1, n, .inr (.inl f))) := am_w_at hw
  have hP := hR.2
  have hDD := am_w_D tc b sc w
  have ht : (am_tys tc)[1]? = some (tc 1, .long) := am_tys_at (by decide)
  refine W.last hx hb (hP q _ he) ((hK.1.2 1 _ ht).1 n (fun j => .long (f j))) (fun q => by cases q) (by show ¬ (i < 0 ∨ (arrV _ _ _).slots.size ≤ _); rw [arrV_size]; exact hin) rfl rfl hd fun H1 e z oq => ?_
  have hset : (am_w tc b sc w).set q (b + q, .inl (tc 1, n, .inr (.inl (vp_updL f i.toNatClampNeg x)))) = am_w tc b sc (w.set q (.inl (1, n, .inr (.inl (vp_updL f i.toNatClampNeg x))))) := am_w_set tc b sc w q (.inl (1, n, .inr (.inl (vp_updL f i.toNatClampNeg x))))
  refine kk F ⟨by rw [z, hR.1, List.length_set], ?_⟩ (hS.put z oq (hDD.2 q _ he)) hl
  rw [← hset]
  refine hP.set hDD he ?_ oq
  show H1[b + q]? = some (vp_cell _ _)
  rw [e]
  rw [vp_cell_l, vp_cell_l, arrV_store]
  congr 2
  funext j
  by_cases hj : j = i.toNatClampNeg
  · subst hj
    simp [updV, vp_updL, vp_nar]
    try rfl
  · simp [updV, vp_updL, hj]
theorem aw_newal {n : Int32} {N' : Nat} (hd : decode M.1 pc = .ok (.newarray .long, 2)) (hg : Cond.arrayClass .long ∈ am_G) (hn : ¬ n < 0) (hN : n.toNatClampNeg = N') (hbytes : N' * componentBytes .long ≤ 536870912) (hcells : cells + 1 ≤ rc) (hslots : slots + N' ≤ rs) (kk : AW M d rc rs (pc + 2) lv (.ref w.length :: st) (w ++ [.inl (1, N', .inr (.inl (fun _ => 0)))]) (cells + 1) (slots + N') Z) : AW M d rc rs pc lv (.int n :: st) w cells slots Z := by
  intro p l e R s m args below meth c D tc b sc F H locs ls hR hS hl
  obtain ⟨hx, hb, hml, hr, hown, hname, hlocks, hts, hK, hbs, hfl, hcs, -⟩ := id F
  have hP := hR.2
  refine va_newaK hx hb (atype := .long) (hts _ hg) rfl hd rfl hn hN hbytes (Nat.le_trans hcells hcs.1) (Nat.le_trans hslots hcs.2) hR.1 fun H1 cA e1 z1 o1 hAr hNm => ?_
  have ht : (am_tys tc)[1]? = some (tc 1, .long) := am_tys_at (by decide)
  have hcA : cA = tc 1 := Option.some.inj (hNm.symm.trans (hK.1.2 1 _ ht).2)
  subst hcA
  have hkeep : ∀ (k : Nat) (x : Nat × va_E), (am_w tc b sc w)[k]? = some x → H1[x.1]? = H[x.1]? := fun k x hx => o1 x.1 (by have := (hP k x hx).lt; rw [hR.1] at this; exact this)
  have hpush : am_w tc b sc w ++ [(b + w.length, .inl (tc 1, N', .inr (.inl (fun _ => 0))))] = am_w tc b sc (w ++ [.inl (1, N', .inr (.inl (fun _ => 0)))]) := am_w_push tc b sc w (.inl (1, N', .inr (.inl (fun _ => 0))))
  refine kk F ⟨by rw [z1, List.length_append, Nat.add_assoc]; rfl, ?_⟩ ⟨Nat.le_trans hS.1 (by rw [hR.1]; omega), fun x h1 h2 => (o1 x (by have := hS.1; rw [hR.1] at this; omega)).trans (hS.2.1 x h1 h2), hS.2.2⟩ hl
  rw [← hpush]
  refine (hP.kept hkeep).app (fun k x hx => ?_)
  have hz : k < 1 := (List.getElem?_eq_some_iff.mp hx).1
  rw [show k = 0 by omega] at hx
  cases hx
  show H1[b + w.length]? = some (vp_cell _ _)
  rw [e1]
  rfl
theorem aw_zald {q n : Nat} {f : Nat → Int32} {i : Int32} (hd : decode M.1 pc = .ok (.baload, 1)) (hw : w[q]? = some (.inl (2, n, .inl f))) (hin : vp_in i n) (kk : AW M d rc rs (pc + 1) lv (.int (f i.toNatClampNeg) :: st) w cells slots Z) : AW M d rc rs pc lv (.int i :: .ref q :: st) w cells slots Z := by
  intro p l e R s m args below meth c D tc b sc F H locs ls hR hS hl
  obtain ⟨hx, hb, hml, hr, hown, hname, hlocks, hts, hK, -⟩ := id F
  have he : (am_w tc b sc w)[q]? = some (b + q, .inl (tc 2, n, .inl f)) := am_w_at hw
  exact va_zald hx hb hK.1 hR.2 q 2 he (am_tys_at (by decide)) hin hd (kk F hR hS hl)
theorem aw_zast {q n : Nat} {f : Nat → Int32} {i : Int32} {x : Int32} (hd : decode M.1 pc = .ok (.bastore, 1)) (hw : w[q]? = some (.inl (2, n, .inl f))) (hin : vp_in i n) (kk : AW M d rc rs (pc + 1) lv st (w.set q (.inl (2, n, .inl (upd f i.toNatClampNeg (vp_nar .boolean x))))) cells slots Z) : AW M d rc rs pc lv (.int x :: .int i :: .ref q :: st) w cells slots Z := by
  intro p l e R s m args below meth c D tc b sc F H locs ls hR hS hl
  obtain ⟨hx, hb, hml, hr, hown, hname, hlocks, hts, hK, -⟩ := id F
  have he : (am_w tc b sc w)[q]? = some (b + q, .inl (tc 2, n, .inl f)) := am_w_at hw
  have hP := hR.2
  have hDD := am_w_D tc b sc w
  have ht : (am_tys tc)[2]? = some (tc 2, .boolean) := am_tys_at (by decide)
  refine W.zast hx hb (hP q _ he) ((hK.1.2 2 _ ht).1 n (fun j => .int (f j))) (fun q => by cases q) (by show ¬ (i < 0 ∨ (arrV _ _ _).slots.size ≤ _); rw [arrV_size]; exact hin) rfl rfl hd fun H1 e z oq => ?_
  have hset : (am_w tc b sc w).set q (b + q, .inl (tc 2, n, .inl (upd f i.toNatClampNeg (vp_nar .boolean x)))) = am_w tc b sc (w.set q (.inl (2, n, .inl (upd f i.toNatClampNeg (vp_nar .boolean x))))) := am_w_set tc b sc w q (.inl (2, n, .inl (upd f i.toNatClampNeg (vp_nar .boolean x))))
  refine kk F ⟨by rw [z, hR.1, List.length_set], ?_⟩ (hS.put z oq (hDD.2 q _ he)) hl
  rw [← hset]
  refine hP.set hDD he ?_ oq
  show H1[b + q]? = some (vp_cell _ _)
  rw [e]
  rw [vp_cell_i, vp_cell_i, arrV_store]
  congr 2
  funext j
  by_cases hj : j = i.toNatClampNeg
  · subst hj
    simp [updV, upd, vp_nar]
    try rfl
  · simp [updV, upd, hj]
theorem aw_newaz {n : Int32} {N' : Nat} (hd : decode M.1 pc = .ok (.newarray .boolean, 2)) (hg : Cond.arrayClass .boolean ∈ am_G) (hn : ¬ n < 0) (hN : n.toNatClampNeg = N') (hbytes : N' * componentBytes .boolean ≤ 536870912) (hcells : cells + 1 ≤ rc) (hslots : slots + N' ≤ rs) (kk : AW M d rc rs (pc + 2) lv (.ref w.length :: st) (w ++ [.inl (2, N', .inl (fun _ => 0))]) (cells + 1) (slots + N') Z) : AW M d rc rs pc lv (.int n :: st) w cells slots Z := by
  intro p l e R s m args below meth c D tc b sc F H locs ls hR hS hl
  obtain ⟨hx, hb, hml, hr, hown, hname, hlocks, hts, hK, hbs, hfl, hcs, -⟩ := id F
  have hP := hR.2
  refine va_newaK hx hb (atype := .boolean) (hts _ hg) rfl hd rfl hn hN hbytes (Nat.le_trans hcells hcs.1) (Nat.le_trans hslots hcs.2) hR.1 fun H1 cA e1 z1 o1 hAr hNm => ?_
  have ht : (am_tys tc)[2]? = some (tc 2, .boolean) := am_tys_at (by decide)
  have hcA : cA = tc 2 := Option.some.inj (hNm.symm.trans (hK.1.2 2 _ ht).2)
  subst hcA
  have hkeep : ∀ (k : Nat) (x : Nat × va_E), (am_w tc b sc w)[k]? = some x → H1[x.1]? = H[x.1]? := fun k x hx => o1 x.1 (by have := (hP k x hx).lt; rw [hR.1] at this; exact this)
  have hpush : am_w tc b sc w ++ [(b + w.length, .inl (tc 2, N', .inl (fun _ => 0)))] = am_w tc b sc (w ++ [.inl (2, N', .inl (fun _ => 0))]) := am_w_push tc b sc w (.inl (2, N', .inl (fun _ => 0)))
  refine kk F ⟨by rw [z1, List.length_append, Nat.add_assoc]; rfl, ?_⟩ ⟨Nat.le_trans hS.1 (by rw [hR.1]; omega), fun x h1 h2 => (o1 x (by have := hS.1; rw [hR.1] at this; omega)).trans (hS.2.1 x h1 h2), hS.2.2⟩ hl
  rw [← hpush]
  refine (hP.kept hkeep).app (fun k x hx => ?_)
  have hz : k < 1 := (List.getElem?_eq_some_iff.mp hx).1
  rw [show k = 0 by omega] at hx
  cases hx
  show H1[b + w.length]? = some (vp_cell _ _)
  rw [e1]
  rfl
theorem aw_alen {q t : Nat} {x : vp_A} {v : Int32} (hd : decode M.1 pc = .ok (.arraylength, 1)) (hw : w[q]? = some (.inl (t, x))) (ht : t < am_nt) (hv : Int32.ofNat x.1 = v) (kk : AW M d rc rs (pc + 1) lv (.int v :: st) w cells slots Z) : AW M d rc rs pc lv (.ref q :: st) w cells slots Z := by
  intro p l e R s m args below meth c D tc b sc F H locs ls hR hS hl
  obtain ⟨hx, hb, hml, hr, hown, hname, hlocks, hts, hK, -⟩ := id F
  have he : (am_w tc b sc w)[q]? = some (b + q, .inl (tc t, am_a b x)) := am_w_at hw
  have h1 : (am_a b x).1 = x.1 := by
    obtain ⟨n, f | f | f | f | f⟩ := x <;> rfl
  exact va_alen hx hb hK.1 hR.2 q t he (am_tys_at ht) (by rw [h1]; exact hv) hd (kk F hR hS hl)
theorem aw_sld {L : Nat} {xs : Nat → Int32} {z : UInt32} {i : Int32} (hd : decode M.1 pc = .ok (.iaload, 1)) (hX : ∀ (s : State) (b sc : Nat), M.2.2.2.2.2 s b sc → va_X sc L xs s s.heap ∧ sc < b) (hin : vp_in i L) (kk : AW M d rc rs (pc + 1) lv (.int (xs i.toNatClampNeg) :: st) w cells slots Z) : AW M d rc rs pc lv (.int i :: .float z :: st) w cells slots Z := by
  intro p l e R s m args below meth c D tc b sc F H locs ls hR hS hl
  obtain ⟨hx, hb, hml, hr, hown, hname, hlocks, hts, hK, hbs, hfl, hcs, h9⟩ := id F
  obtain ⟨h1, h2⟩ := hX s b sc h9
  exact va_sld hx hb h1 (by omega) (Nat.not_le.mpr h2) hS hin hd (kk F hR hS hl)
theorem aw_slen {L : Nat} {xs : Nat → Int32} {z : UInt32} (hd : decode M.1 pc = .ok (.arraylength, 1)) (hX : ∀ (s : State) (b sc : Nat), M.2.2.2.2.2 s b sc → va_X sc L xs s s.heap ∧ sc < b) (kk : AW M d rc rs (pc + 1) lv (.int (Int32.ofNat L) :: st) w cells slots Z) : AW M d rc rs pc lv (.float z :: st) w cells slots Z := by
  intro p l e R s m args below meth c D tc b sc F H locs ls hR hS hl
  obtain ⟨hx, hb, hml, hr, hown, hname, hlocks, hts, hK, hbs, hfl, hcs, h9⟩ := id F
  obtain ⟨h1, h2⟩ := hX s b sc h9
  exact va_slen hx hb h1 (by omega) (Nat.not_le.mpr h2) hS hd (kk F hR hS hl)
/-- a new object by the number of its class in the pool -/
def am_nw (own : String) (idx ci N : Nat) (fs : List Value) : Prop := ∃ (C : String) (T : u_T) (ty0 : Nat → FieldType), am_cl[ci]? = some (C, T, N) ∧ (∀ z ∈ u_ws C T N, z ∈ am_G) ∧ (∀ k, k < N → parseFieldDescriptor (T k).2.2.1 = some (ty0 k)) ∧ Cond.classLink own idx C ∈ am_G ∧ Cond.instantiable C N ∈ am_G ∧ Cond.initialized C ∈ am_G ∧ ∀ b sc j : Nat, j < N → defaultValue (ty0 j) = vp_V (fs.map (am_v b sc)) j
theorem aw_new {idx ci N : Nat} {fs : List Value} (hd : decode M.1 pc = .ok (.new idx, 3)) (hf : am_nw M.2.2.2.1 idx ci N fs) (hcells : cells + 1 ≤ rc) (hslots : slots + N ≤ rs) (kk : AW M d rc rs (pc + 3) lv (.ref w.length :: st) (w ++ [.inr (ci, fs)]) (cells + 1) (slots + N) Z) : AW M d rc rs pc lv st w cells slots Z := by
  intro p l e R s m args below meth c D tc b sc F H locs ls hR hS hl
  obtain ⟨C, T, ty0, hc, hin, hty, hcl, hinst, hini, hfs⟩ := hf
  obtain ⟨hx, hb, hml, hr, hown, hname, hlocks, hts, hK, hbs, hfl, hcs, -⟩ := id F
  have hP := hR.2
  have hKn := hK.1.1 ci _ hc
  refine W.newcK hx hb hown (hts _ hcl) (hts _ hinst) (hts _ hini) rfl hd (Nat.le_trans hcells hcs.1) (Nat.le_trans hslots hcs.2) hKn.2.1 hR.1 fun H1 kC hkC e1 z1 o1 => ?_
  have hkeep : ∀ (k : Nat) (x : Nat × va_E), (am_w tc b sc w)[k]? = some x → H1[x.1]? = H[x.1]? := fun k x hx => o1 x.1 (by have := (hP k x hx).lt; rw [hR.1] at this; exact this)
  have hpush : am_w tc b sc w ++ [(b + w.length, .inr (ci, fs.map (am_v b sc)))] = am_w tc b sc (w ++ [.inr (ci, fs)]) := am_w_push tc b sc w (.inr (ci, fs))
  refine kk F ⟨by rw [z1, List.length_append, Nat.add_assoc]; rfl, ?_⟩ ⟨Nat.le_trans hS.1 (by rw [hR.1]; omega), fun x h1 h2 => (o1 x (by have := hS.1; rw [hR.1] at this; omega)).trans (hS.2.1 x h1 h2), hS.2.2⟩ hl
  rw [← hpush]
  refine (hP.kept hkeep).app (fun k x hx => ?_)
  have hz : k < 1 := (List.getElem?_eq_some_iff.mp hx).1
  rw [show k = 0 by omega] at hx
  cases hx
  exact ⟨_, hc, (u_born ty0 hts hin hKn hkC e1 hty).to (fun j hj => hfs b sc j hj)⟩
theorem am_after {p : Program} {l : Launch} {e : Env} {R : Room} {s : State} {m : MethodId} {args : Array Value} {below : List Frame} {meth : Method} {c : Code} {H : Heap} {locs : List Loc} {Q : State → Prop} {D : va_G} {tc : Nat → ClassId} {b sc : Nat} {ls : Array Slot} {st0 rest : List Value} {r : Option Value} {w1 : List am_C} {a : Array Value} {mc ms : Nat}
    (hr : va_Run p l e R s m args below meth c H locs cells slots mc ms (F0 m pc ls st0) rest (am_Q D tc b sc r w1 a) (fun q => b ≤ q)) (hS : va_S (fun q => b ≤ q) s.heap H locs)
    (kk : ∀ (H1 : Heap) (locs1 : List Loc), am_R D tc b sc w1 H1 → va_S (fun q => b ≤ q) s.heap H1 locs1 → W p l e R s m args below meth c H1 locs1 (cells + mc) (slots + ms) Q (F0 m (pc + 3) ls ((r.map (am_v b sc)).toList ++ rest))) : W p l e R s m args below meth c H locs cells slots Q (F0 m pc ls st0) := by
  intro T hT X
  obtain ⟨v, st₀, t, T', L, h0, X', hL, e1, e2, hq, st⟩ := hr T hT X
  obtain ⟨hv, hR1, hF⟩ := hq
  have hv : v = r.map (am_v b sc) := by cases hv; rfl
  subst hv
  obtain ⟨t2, a1, b1⟩ := kk t.heap (locs ++ L) hR1 ⟨Nat.le_trans hS.1 (by rw [← h0]; exact hF.1), fun q h1 h2 => (hF.2 q (by rw [h0]; exact Nat.lt_of_lt_of_le h1 hS.1) h2).trans (by rw [h0]; exact hS.2.1 q h1 h2), fun q hq => (List.mem_append.mp hq).elim (hS.2.2 q) (hL q)⟩ T' e1 X'
  exact ⟨t2, st t2 a1, b1⟩
theorem am_stk (b sc : Nat) (r : Option Value) (st : List Value) : (r.map (am_v b sc)).toList ++ st.map (am_v b sc) = (r.toList ++ st).map (am_v b sc) := by cases r <;> rfl
theorem am_good {y : am_Y} (h : Cond.code y.1 y.2.1 y.2.2.1 y.2.2.2 ∈ am_G) : GoodIn am_G (Cond.code y.1 y.2.1 y.2.2.1 y.2.2.2 :: am_G) := by
  intro w hw
  rcases List.mem_cons.mp hw with e | hw
  · rw [e]; exact ⟨h, good_of_word (am_G_good _ h)⟩
  · exact ⟨hw, good_of_word (am_G_good _ hw)⟩
/-- a method that may be called, with n parameters -/
def am_mk (y : am_Y) (n : Nat) : Prop := Cond.code y.1 y.2.1 y.2.2.1 y.2.2.2 ∈ am_G ∧ (y.1.cls ≠ "java/lang/invoke/MethodHandle" ∧ y.1.cls ≠ "java/lang/invoke/VarHandle") ∧ (parseMethodDescriptor y.1.desc).map (fun d => d.parameters.length) = some n ∧ y.2.2.1 ≤ 21 ∧ Cond.initialized y.1.cls ∈ am_G
theorem am_cat (b sc : Nat) : ∀ st : List Value, ((st.map (am_v b sc)).map fun v => v.category).sum = (st.map fun v => v.category).sum
  | [] => rfl
  | v :: st => by simp only [List.map_cons, List.sum_cons, am_v_cat, am_cat b sc st]
theorem aw_callV {y : am_Y} {d' idx n mc ms : Nat} {q ci N : Nat} {T : u_T} {fs : List Value} {As stk : List Value} {r : Option Value} {w1 : List am_C} (hd : decode M.1 pc = .ok (.invokevirtual idx, 3)) (ct : am_ct y d' (.ref q :: As) w r w1 mc ms) (hm : am_mk y n) (hi : Cond.instanceMethod y.1 ∈ am_G ∧ Cond.selects y.1.cls y.1 y.1 ∈ am_G) (hlk : Cond.methodLink M.2.2.2.1 idx y.1 ∈ am_G) (hw : w[q]? = some (.inr (ci, fs))) (hc : am_cl[ci]? = some (y.1.cls, T, N)) (hst : stk = As.reverse ++ .ref q :: st) (hn : As.length = n) (hcat : (st.map fun v => v.category).sum ≤ 8) (hdd : d' + 1 ≤ d) (hrc : cells + mc ≤ rc) (hrs : slots + ms ≤ rs) (kk : AW M d rc rs (pc + 3) lv (r.toList ++ st) w1 (cells + mc) (slots + ms) Z) : AW M d rc rs pc lv stk w cells slots Z := by
  intro p l e R s m args below meth c D tc b sc F H locs ls hR hS hl
  subst hst
  obtain ⟨hx, hb, hml, hr, hown, hname, hlocks, hts, hK, hbs, hfl, hcs, -⟩ := id F
  have he : (am_w tc b sc w)[q]? = some (b + q, .inr (ci, fs.map (am_v b sc))) := am_w_at hw
  have hroom : (am_rm d' mc ms).frames + 1 ≤ R.frames ∧ 8 + (y.2.2.1 + 11) + (am_rm d' mc ms).locals ≤ R.locals := by
    have h21 : y.2.2.1 ≤ 21 := hm.2.2.2.1
    constructor
    · show d' + 1 ≤ _; omega
    · show 8 + (_ + 11) + 40 * d' ≤ _; omega
  have hrun := va_runV (rest := st.map (am_v b sc)) (b := b + q) (As := As.map (am_v b sc)) (g := F0 m pc ls ((As.reverse ++ .ref q :: st).map (am_v b sc))) (cells := cells) (slots := slots) (locs := locs) (below := below) (e := e) (meth := meth) ⟨hx, hb, hml, hown, hts⟩ (ct l D tc b sc) ⟨callB_of n hts (am_good hm.1) rfl rfl rfl (hts _ hm.2.2.2.2) (hts _ hlk) ⟨hm.2.1.1, hm.2.1.2, hm.2.2.1⟩ hroom, hts _ hi.1, hts _ hi.2⟩ ⟨am_P_blind D tc b sc _ w, va_recv hK.1 hR.2 hc he, fun U hU hW => ⟨rfl, by rw [hU]; exact hR, hK.warm hW⟩⟩ rfl (by rw [List.length_map]; exact hn) hl.1 (by simp [am_v]) (lv_room (by rw [am_cat]; exact hcat)) hd ⟨Nat.le_trans hrc hcs.1, Nat.le_trans hrs hcs.2⟩
  refine am_after hrun hS fun H1 locs1 hR1 hS1 => ?_
  rw [am_stk]
  exact kk F hR1 hS1 hl
theorem aw_callVN {y : am_Y} {d' idx n mc ms : Nat} {host : String} {q ci N : Nat} {T : u_T} {fs : List Value} {As stk : List Value} {r : Option Value} {w1 : List am_C} (hd : decode M.1 pc = .ok (.invokevirtual idx, 3)) (ct : am_ct y d' (.ref q :: As) w r w1 mc ms) (hm : am_mk y n) (hi : Cond.instanceMethod y.1 ∈ am_G ∧ Cond.selects y.1.cls y.1 y.1 ∈ am_G) (hlk : Cond.methodLinkNest M.2.2.2.1 idx y.1 host ∈ am_N) (hw : w[q]? = some (.inr (ci, fs))) (hc : am_cl[ci]? = some (y.1.cls, T, N)) (hst : stk = As.reverse ++ .ref q :: st) (hn : As.length = n) (hcat : (st.map fun v => v.category).sum ≤ 8) (hdd : d' + 1 ≤ d) (hrc : cells + mc ≤ rc) (hrs : slots + ms ≤ rs) (kk : AW M d rc rs (pc + 3) lv (r.toList ++ st) w1 (cells + mc) (slots + ms) Z) : AW M d rc rs pc lv stk w cells slots Z := by
  intro p l e R s m args below meth c D tc b sc F H locs ls hR hS hl
  subst hst
  obtain ⟨hx, hb, hml, hr, hown, hname, hlocks, hts, hK, hbs, hfl, hcs, -⟩ := id F
  have he : (am_w tc b sc w)[q]? = some (b + q, .inr (ci, fs.map (am_v b sc))) := am_w_at hw
  have hroom : (am_rm d' mc ms).frames + 1 ≤ R.frames ∧ 8 + (y.2.2.1 + 11) + (am_rm d' mc ms).locals ≤ R.locals := by
    have h21 : y.2.2.1 ≤ 21 := hm.2.2.2.1
    constructor
    · show d' + 1 ≤ _; omega
    · show 8 + (_ + 11) + 40 * d' ≤ _; omega
  have hrun := va_runVN (rest := st.map (am_v b sc)) (b := b + q) (As := As.map (am_v b sc)) (g := F0 m pc ls ((As.reverse ++ .ref q :: st).map (am_v b sc))) (cells := cells) (slots := slots) (locs := locs) (below := below) (e := e) (meth := meth) ⟨hx, hb, hml, hown, hts⟩ (ct l D tc b sc) ⟨va_cnB n hts (am_good hm.1) rfl rfl rfl (hK.2.1 _ hlk) (hts _ hm.2.2.2.2) ⟨hm.2.1.1, hm.2.1.2, hm.2.2.1⟩ hroom, hts _ hi.1, hts _ hi.2⟩ ⟨am_P_blind D tc b sc _ w, va_recv hK.1 hR.2 hc he, fun U hU hW => ⟨rfl, by rw [hU]; exact hR, hK.warm hW⟩⟩ rfl (by rw [List.length_map]; exact hn) hl.1 (by simp [am_v]) (lv_room (by rw [am_cat]; exact hcat)) hd ⟨Nat.le_trans hrc hcs.1, Nat.le_trans hrs hcs.2⟩
  refine am_after hrun hS fun H1 locs1 hR1 hS1 => ?_
  rw [am_stk]
  exact kk F hR1 hS1 hl
theorem aw_callS {y : am_Y} {d' idx n mc ms : Nat} {As stk : List Value} {r : Option Value} {w1 : List am_C} (hd : decode M.1 pc = .ok (.invokestatic idx, 3)) (ct : am_ct y d' As w r w1 mc ms) (hm : am_mk y n) (hi : Cond.static y.1 ∈ am_G) (hlk : Cond.methodLink M.2.2.2.1 idx y.1 ∈ am_G)  (hst : stk = As.reverse ++ st) (hn : As.length = n) (hcat : (st.map fun v => v.category).sum ≤ 8) (hdd : d' + 1 ≤ d) (hrc : cells + mc ≤ rc) (hrs : slots + ms ≤ rs) (kk : AW M d rc rs (pc + 3) lv (r.toList ++ st) w1 (cells + mc) (slots + ms) Z) : AW M d rc rs pc lv stk w cells slots Z := by
  intro p l e R s m args below meth c D tc b sc F H locs ls hR hS hl
  subst hst
  obtain ⟨hx, hb, hml, hr, hown, hname, hlocks, hts, hK, hbs, hfl, hcs, -⟩ := id F
  have hroom : (am_rm d' mc ms).frames + 1 ≤ R.frames ∧ 8 + (y.2.2.1 + 11) + (am_rm d' mc ms).locals ≤ R.locals := by
    have h21 : y.2.2.1 ≤ 21 := hm.2.2.2.1
    constructor
    · show d' + 1 ≤ _; omega
    · show 8 + (_ + 11) + 40 * d' ≤ _; omega
  have hrun := va_runS (rest := st.map (am_v b sc)) (As := As.map (am_v b sc)) (g := F0 m pc ls ((As.reverse ++ st).map (am_v b sc))) (cells := cells) (slots := slots) (locs := locs) (below := below) (e := e) (meth := meth) ⟨hx, hb, hml, hown, hts⟩ (ct l D tc b sc) ⟨callB_of n hts (am_good hm.1) rfl rfl rfl (hts _ hm.2.2.2.2) (hts _ hlk) ⟨hm.2.1.1, hm.2.1.2, hm.2.2.1⟩ hroom, hts _ hi⟩ ⟨am_P_blind D tc b sc _ w, fun U hU hW => ⟨rfl, by rw [hU]; exact hR, hK.warm hW⟩⟩ rfl (by rw [List.length_map]; exact hn) hl.1 (by simp [am_v]) (lv_room (by rw [am_cat]; exact hcat)) hd ⟨Nat.le_trans hrc hcs.1, Nat.le_trans hrs hcs.2⟩
  refine am_after hrun hS fun H1 locs1 hR1 hS1 => ?_
  rw [am_stk]
  exact kk F hR1 hS1 hl
theorem aw_callSN {y : am_Y} {d' idx n mc ms : Nat} {host : String} {As stk : List Value} {r : Option Value} {w1 : List am_C} (hd : decode M.1 pc = .ok (.invokestatic idx, 3)) (ct : am_ct y d' As w r w1 mc ms) (hm : am_mk y n) (hi : Cond.static y.1 ∈ am_G) (hlk : Cond.methodLinkNest M.2.2.2.1 idx y.1 host ∈ am_N)  (hst : stk = As.reverse ++ st) (hn : As.length = n) (hcat : (st.map fun v => v.category).sum ≤ 8) (hdd : d' + 1 ≤ d) (hrc : cells + mc ≤ rc) (hrs : slots + ms ≤ rs) (kk : AW M d rc rs (pc + 3) lv (r.toList ++ st) w1 (cells + mc) (slots + ms) Z) : AW M d rc rs pc lv stk w cells slots Z := by
  intro p l e R s m args below meth c D tc b sc F H locs ls hR hS hl
  subst hst
  obtain ⟨hx, hb, hml, hr, hown, hname, hlocks, hts, hK, hbs, hfl, hcs, -⟩ := id F
  have hroom : (am_rm d' mc ms).frames + 1 ≤ R.frames ∧ 8 + (y.2.2.1 + 11) + (am_rm d' mc ms).locals ≤ R.locals := by
    have h21 : y.2.2.1 ≤ 21 := hm.2.2.2.1
    constructor
    · show d' + 1 ≤ _; omega
    · show 8 + (_ + 11) + 40 * d' ≤ _; omega
  have hrun := va_runSN (rest := st.map (am_v b sc)) (As := As.map (am_v b sc)) (g := F0 m pc ls ((As.reverse ++ st).map (am_v b sc))) (cells := cells) (slots := slots) (locs := locs) (below := below) (e := e) (meth := meth) ⟨hx, hb, hml, hown, hts⟩ (ct l D tc b sc) ⟨va_cnB n hts (am_good hm.1) rfl rfl rfl (hK.2.1 _ hlk) (hts _ hm.2.2.2.2) ⟨hm.2.1.1, hm.2.1.2, hm.2.2.1⟩ hroom, hts _ hi, trivial⟩ ⟨am_P_blind D tc b sc _ w, fun U hU hW => ⟨rfl, by rw [hU]; exact hR, hK.warm hW⟩⟩ rfl (by rw [List.length_map]; exact hn) hl.1 (by simp [am_v]) (lv_room (by rw [am_cat]; exact hcat)) hd ⟨Nat.le_trans hrc hcs.1, Nat.le_trans hrs hcs.2⟩
  refine am_after hrun hS fun H1 locs1 hR1 hS1 => ?_
  rw [am_stk]
  exact kk F hR1 hS1 hl
theorem aw_callI {y : am_Y} {d' idx n mc ms : Nat} {q : Nat} {As stk : List Value} {r : Option Value} {w1 : List am_C} (hd : decode M.1 pc = .ok (.invokespecial idx, 3)) (ct : am_ct y d' (.ref q :: As) w r w1 mc ms) (hm : am_mk y n) (hi : Cond.instanceMethod y.1 ∈ am_G ∧ y.1.name = "<init>" ∧ y.2.2.2 = none) (hlk : Cond.methodLink M.2.2.2.1 idx y.1 ∈ am_G)  (hst : stk = As.reverse ++ .ref q :: st) (hn : As.length = n) (hcat : (st.map fun v => v.category).sum ≤ 8) (hdd : d' + 1 ≤ d) (hrc : cells + mc ≤ rc) (hrs : slots + ms ≤ rs) (kk : AW M d rc rs (pc + 3) lv (r.toList ++ st) w1 (cells + mc) (slots + ms) Z) : AW M d rc rs pc lv stk w cells slots Z := by
  obtain ⟨yn, ycd, ynl, yrt⟩ := y
  obtain ⟨hi1, hi2, hi3⟩ := hi
  dsimp only at hi3
  subst hi3
  have hi : Cond.instanceMethod yn ∈ am_G ∧ yn.name = "<init>" := ⟨hi1, hi2⟩
  intro p l e R s m args below meth c D tc b sc F H locs ls hR hS hl
  subst hst
  obtain ⟨hx, hb, hml, hr, hown, hname, hlocks, hts, hK, hbs, hfl, hcs, -⟩ := id F
  have hroom : (am_rm d' mc ms).frames + 1 ≤ R.frames ∧ 8 + (ynl + 11) + (am_rm d' mc ms).locals ≤ R.locals := by
    have h21 : ynl ≤ 21 := hm.2.2.2.1
    constructor
    · show d' + 1 ≤ _; omega
    · show 8 + (_ + 11) + 40 * d' ≤ _; omega
  have hrun := va_runI (rest := st.map (am_v b sc)) (b := b + q) (As := As.map (am_v b sc)) (g := F0 m pc ls ((As.reverse ++ .ref q :: st).map (am_v b sc))) (cells := cells) (slots := slots) (locs := locs) (below := below) (e := e) (meth := meth) ⟨hx, hb, hml, hown, hts⟩ (ct l D tc b sc) ⟨callB_of n hts (am_good hm.1) rfl rfl rfl (hts _ hm.2.2.2.2) (hts _ hlk) ⟨hm.2.1.1, hm.2.1.2, hm.2.2.1⟩ hroom, hi.2, hts _ hi.1⟩ ⟨am_P_blind D tc b sc _ w, fun U hU hW => ⟨rfl, by rw [hU]; exact hR, hK.warm hW⟩⟩ rfl (by rw [List.length_map]; exact hn) hl.1 (by simp [am_v]) (lv_room (by rw [am_cat]; exact hcat)) hd ⟨Nat.le_trans hrc hcs.1, Nat.le_trans hrs hcs.2⟩
  refine am_after hrun hS fun H1 locs1 hR1 hS1 => ?_
  rw [am_stk]
  exact kk F hR1 hS1 hl
theorem aw_callIN {y : am_Y} {d' idx n mc ms : Nat} {host : String} {q : Nat} {As stk : List Value} {r : Option Value} {w1 : List am_C} (hd : decode M.1 pc = .ok (.invokespecial idx, 3)) (ct : am_ct y d' (.ref q :: As) w r w1 mc ms) (hm : am_mk y n) (hi : Cond.instanceMethod y.1 ∈ am_G ∧ y.1.name = "<init>" ∧ y.2.2.2 = none) (hlk : Cond.methodLinkNest M.2.2.2.1 idx y.1 host ∈ am_N)  (hst : stk = As.reverse ++ .ref q :: st) (hn : As.length = n) (hcat : (st.map fun v => v.category).sum ≤ 8) (hdd : d' + 1 ≤ d) (hrc : cells + mc ≤ rc) (hrs : slots + ms ≤ rs) (kk : AW M d rc rs (pc + 3) lv (r.toList ++ st) w1 (cells + mc) (slots + ms) Z) : AW M d rc rs pc lv stk w cells slots Z := by
  obtain ⟨yn, ycd, ynl, yrt⟩ := y
  obtain ⟨hi1, hi2, hi3⟩ := hi
  dsimp only at hi3
  subst hi3
  have hi : Cond.instanceMethod yn ∈ am_G ∧ yn.name = "<init>" := ⟨hi1, hi2⟩
  intro p l e R s m args below meth c D tc b sc F H locs ls hR hS hl
  subst hst
  obtain ⟨hx, hb, hml, hr, hown, hname, hlocks, hts, hK, hbs, hfl, hcs, -⟩ := id F
  have hroom : (am_rm d' mc ms).frames + 1 ≤ R.frames ∧ 8 + (ynl + 11) + (am_rm d' mc ms).locals ≤ R.locals := by
    have h21 : ynl ≤ 21 := hm.2.2.2.1
    constructor
    · show d' + 1 ≤ _; omega
    · show 8 + (_ + 11) + 40 * d' ≤ _; omega
  have hrun := va_runIN (rest := st.map (am_v b sc)) (b := b + q) (As := As.map (am_v b sc)) (g := F0 m pc ls ((As.reverse ++ .ref q :: st).map (am_v b sc))) (cells := cells) (slots := slots) (locs := locs) (below := below) (e := e) (meth := meth) ⟨hx, hb, hml, hown, hts⟩ (ct l D tc b sc) ⟨va_cnB n hts (am_good hm.1) rfl rfl rfl (hK.2.1 _ hlk) (hts _ hm.2.2.2.2) ⟨hm.2.1.1, hm.2.1.2, hm.2.2.1⟩ hroom, hi.2, hts _ hi.1⟩ ⟨am_P_blind D tc b sc _ w, fun U hU hW => ⟨rfl, by rw [hU]; exact hR, hK.warm hW⟩⟩ rfl (by rw [List.length_map]; exact hn) hl.1 (by simp [am_v]) (lv_room (by rw [am_cat]; exact hcat)) hd ⟨Nat.le_trans hrc hcs.1, Nat.le_trans hrs hcs.2⟩
  refine am_after hrun hS fun H1 locs1 hR1 hS1 => ?_
  rw [am_stk]
  exact kk F hR1 hS1 hl
theorem aw_objInit {idx q : Nat} (hd : decode M.1 pc = .ok (.invokespecial idx, 3)) (hlk : Cond.methodLink M.2.2.2.1 idx Lib.objectInit ∈ am_G) (h1 : Cond.instanceMethod Lib.objectInit ∈ am_G) (h2 : Cond.code Lib.objectInit ⟨#[0xb1]⟩ 1 none ∈ am_G) (hcat : (st.map fun v => v.category).sum ≤ 8) (hdd : 1 ≤ d) (kk : AW M d rc rs (pc + 3) lv st w cells slots Z) : AW M d rc rs pc lv (.ref q :: st) w cells slots Z := by
  intro p l e R s m args below meth c D tc b sc F H locs ls hR hS hl
  obtain ⟨hx, hb, hml, hr, hown, hname, hlocks, hts, hK, hbs, hfl, hcs, -⟩ := id F
  refine W.objInit hx hb hown (hts _ hlk) (hts _ h1) (hts _ h2) rfl (by rw [hml]; exact hl.1) rfl hd (by omega) ?_ (kk F hR hS hl)
  have h := lv_room (m := m) (pc := pc) (ls := ls) (rest := (Value.ref q :: st).map (am_v b sc)) (st := st.map (am_v b sc)) (by rw [am_cat]; exact hcat)
  exact Nat.le_trans (Nat.add_le_add_right h 12) (by omega)
theorem aw_mmax {idx : Nat} {x y : Int32} (hd : decode M.1 pc = .ok (.invokestatic idx, 3)) (hlk : Cond.methodLink M.2.2.2.1 idx Lib.Math.max.name ∈ am_G) (h1 : Cond.static Lib.Math.max.name ∈ am_G) (h2 : Cond.initialized "java/lang/Math" ∈ am_G) (h3 : Cond.code Lib.Math.max.name Lib.Math.max.code 2 (some .int) ∈ am_G) (hcat : (st.map fun v => v.category).sum ≤ 8) (hdd : 1 ≤ d) (hrc : cells ≤ rc) (hrs : slots ≤ rs) (kk : AW M d rc rs (pc + 3) lv (.int (if x < y then y else x) :: st) w cells slots Z) : AW M d rc rs pc lv (.int y :: .int x :: st) w cells slots Z := by
  intro p l e R s m args below meth c D tc b sc F H locs ls hR hS hl
  obtain ⟨hx, hb, hml, hr, hown, hname, hlocks, hts, hK, hbs, hfl, hcs, -⟩ := id F
  exact va_mmax hx hb (hml.trans hl.1.symm) hown (hts _ hlk) (hts _ h1) (hts _ h2) (hts _ h3) (by omega) (by rw [am_cat]; omega) (Nat.le_trans hrc hcs.1) (Nat.le_trans hrs hcs.2) hd (kk F hR hS hl)
theorem aw_mminL {idx : Nat} {x y : Int64} (hd : decode M.1 pc = .ok (.invokestatic idx, 3)) (hlk : Cond.methodLink M.2.2.2.1 idx Lib.MathLoose.min_long.x ∈ am_G) (h1 : Cond.static Lib.MathLoose.min_long.x ∈ am_G) (h2 : Cond.initialized "java/lang/Math" ∈ am_G) (h3 : Cond.code Lib.MathLoose.min_long.x Lib.MathLoose.min_long.code 4 (some .long) ∈ am_G) (hcat : (st.map fun v => v.category).sum ≤ 8) (hdd : 1 ≤ d) (hrc : cells ≤ rc) (hrs : slots ≤ rs) (kk : AW M d rc rs (pc + 3) lv (.long (if y < x then y else x) :: st) w cells slots Z) : AW M d rc rs pc lv (.long y :: .long x :: st) w cells slots Z := by
  intro p l e R s m args below meth c D tc b sc F H locs ls hR hS hl
  obtain ⟨hx, hb, hml, hr, hown, hname, hlocks, hts, hK, hbs, hfl, hcs, -⟩ := id F
  exact va_mmin_long hx hb (hml.trans hl.1.symm) hown (hts _ hlk) (hts _ h1) (hts _ h2) (hts _ h3) (by omega) (by rw [am_cat]; omega) (Nat.le_trans hrc hcs.1) (Nat.le_trans hrs hcs.2) hd (kk F hR hS hl)
theorem aw_aald {q t n j : Nat} {f : Nat → Option Nat} {i : Int32} {y : Nat} (hd : decode M.1 pc = .ok (.aaload, 1)) (hw : w[q]? = some (.inl (t, n, .inr (.inr (.inr (.inr f)))))) (ht : t < am_nt) (hrf : (am_ty t).isReference = true) (hin : vp_in i n) (hj : i.toNatClampNeg = j) (hf : f j = some y) (kk : AW M d rc rs (pc + 1) lv (.ref y :: st) w cells slots Z) : AW M d rc rs pc lv (.int i :: .ref q :: st) w cells slots Z := by
  intro p l e R s m args below meth c D tc b sc F H locs ls hR hS hl
  obtain ⟨hx, hb, hml, hr, hown, hname, hlocks, hts, hK, -⟩ := id F
  have he : (am_w tc b sc w)[q]? = some (b + q, .inl (tc t, n, .inr (.inr (.inr (.inr (fun i => (f i).map (fun k => b + k))))))) := am_w_at hw
  subst hj
  have hlt : i.toNatClampNeg < n := Nat.not_le.mp fun q => hin (Or.inr q)
  exact W.aald (v := .ref (b + y)) (ty := am_ty t) hx hb (hR.2 q _ he) ((hK.1.2 t _ (am_tys_at ht)).1 n (fun j => va_rf ((f j).map (fun k => b + k)))) hrf (fun q => by cases q) (by show ¬ (i < 0 ∨ (arrV _ _ _).slots.size ≤ _); rw [arrV_size]; exact hin) (by show (arrV _ _ _).slots[_]? = _; rw [arrV_read _ _ hlt]; show some (va_rf ((f _).map _)) = _; rw [hf]; rfl) rfl rfl hd (kk F hR hS hl)
end AMR
