/-! further rows of the abstract machine: indices as numbers, compares of longs, calls with an answer -/
def bI (c : Prop) [Decidable c] : Int32 := if c then 1 else 0
theorem bI_0 (c : Prop) [Decidable c] : bI c = 0 ↔ ¬ c := by unfold bI; split <;> simp_all
theorem bI_t {c : Prop} [Decidable c] (h : c) : bI c = 1 := if_pos h
theorem bI_f {c : Prop} [Decidable c] (h : ¬ c) : bI c = 0 := if_neg h
theorem bI_nar (c : Prop) [Decidable c] : narrow .boolean (.int (bI c)) = .int (bI c) := by unfold bI; split <;> rfl
theorem bI_vp (c : Prop) [Decidable c] : vp_nar .boolean (bI c) = bI c := by unfold bI; split <;> rfl
theorem am_cmp_eq (x y : Int64) : lg_cmp x y = 0 ↔ x = y := by
  unfold lg_cmp
  by_cases h1 : y < x
  · have h2 : x ≠ y := fun e => by subst e; exact absurd h1 Int64.lt_irrefl
    simp [h1, h2]
  · by_cases h2 : x = y
    · simp [h1, h2]
    · simp [h1, h2]
theorem am_cmp_lt (x y : Int64) : lg_cmp x y < 0 ↔ x < y := by
  unfold lg_cmp
  by_cases h1 : y < x
  · have h2 : ¬ x < y := lg_lt_not h1
    simp [h1, h2]
  · by_cases h2 : x = y
    · subst h2; simp [h1]
    · have h3 : x < y := by
        rw [Int64.lt_iff_toInt_lt] at h1 ⊢
        have : x.toInt ≠ y.toInt := fun e => h2 (Int64.toInt_inj.mp e)
        omega
      simp [h1, h2, h3]
theorem am_cmp_gt (x y : Int64) : 0 < lg_cmp x y ↔ y < x := by
  unfold lg_cmp
  by_cases h1 : y < x
  · simp [h1]
  · by_cases h2 : x = y
    · simp [h1, h2]
    · simp [h1, h2]
theorem i32_nlt (x y : Int32) : ¬ x < y ↔ y ≤ x := by
  rw [Int32.lt_iff_toInt_lt, Int32.le_iff_toInt_le]; omega
theorem i64_nlt (x y : Int64) : ¬ x < y ↔ y ≤ x := by
  rw [Int64.lt_iff_toInt_lt, Int64.le_iff_toInt_le]; omega
theorem am_cmp_ge (x y : Int64) : 0 ≤ lg_cmp x y ↔ y ≤ x := by
  rw [← i32_nlt, am_cmp_lt, i64_nlt]
theorem am_cmp_le (x y : Int64) : lg_cmp x y ≤ 0 ↔ x ≤ y := by
  rw [← i32_nlt, am_cmp_gt, i64_nlt]
section AMH
variable {M : am_M} {d rc rs pc : Nat} {lv : List (Nat × Value)} {st : List Value} {w : List am_C} {cells slots : Nat} {Z : am_E}
theorem aw_lc_eq {x y : Int64} {off : Int} {tgt : Nat} (hd : decode M.1 pc = .ok (.lcmp, 1)) (hd2 : decode M.1 (pc + 1) = .ok (.ifCond .eq off, 3)) (ht : ((pc + 1 : Nat) : Int) + off = (tgt : Int)) (kt : x = y → AW M d rc rs tgt lv st w cells slots Z) (kf : ¬ x = y → AW M d rc rs (pc + 4) lv st w cells slots Z) : AW M d rc rs pc lv (.long y :: .long x :: st) w cells slots Z :=
  aw_lcmp hd (aw_if_eq hd2 ht (fun h => kt ((am_cmp_eq x y).mp h)) (fun h => kf (fun e => h ((am_cmp_eq x y).mpr e))))
theorem aw_lc_ne {x y : Int64} {off : Int} {tgt : Nat} (hd : decode M.1 pc = .ok (.lcmp, 1)) (hd2 : decode M.1 (pc + 1) = .ok (.ifCond .ne off, 3)) (ht : ((pc + 1 : Nat) : Int) + off = (tgt : Int)) (kt : ¬ x = y → AW M d rc rs tgt lv st w cells slots Z) (kf : x = y → AW M d rc rs (pc + 4) lv st w cells slots Z) : AW M d rc rs pc lv (.long y :: .long x :: st) w cells slots Z :=
  aw_lcmp hd (aw_if_ne hd2 ht (fun h => kt (fun e => h ((am_cmp_eq x y).mpr e))) (fun h => kf ((am_cmp_eq x y).mp h)))
theorem aw_lc_lt {x y : Int64} {off : Int} {tgt : Nat} (hd : decode M.1 pc = .ok (.lcmp, 1)) (hd2 : decode M.1 (pc + 1) = .ok (.ifCond .lt off, 3)) (ht : ((pc + 1 : Nat) : Int) + off = (tgt : Int)) (kt : x < y → AW M d rc rs tgt lv st w cells slots Z) (kf : ¬ x < y → AW M d rc rs (pc + 4) lv st w cells slots Z) : AW M d rc rs pc lv (.long y :: .long x :: st) w cells slots Z :=
  aw_lcmp hd (aw_if_lt hd2 ht (fun h => kt ((am_cmp_lt x y).mp h)) (fun h => kf (fun e => h ((am_cmp_lt x y).mpr e))))
theorem aw_lc_ge {x y : Int64} {off : Int} {tgt : Nat} (hd : decode M.1 pc = .ok (.lcmp, 1)) (hd2 : decode M.1 (pc + 1) = .ok (.ifCond .ge off, 3)) (ht : ((pc + 1 : Nat) : Int) + off = (tgt : Int)) (kt : y ≤ x → AW M d rc rs tgt lv st w cells slots Z) (kf : ¬ y ≤ x → AW M d rc rs (pc + 4) lv st w cells slots Z) : AW M d rc rs pc lv (.long y :: .long x :: st) w cells slots Z :=
  aw_lcmp hd (aw_if_ge hd2 ht (fun h => kt ((am_cmp_ge x y).mp h)) (fun h => kf (fun e => h ((am_cmp_ge x y).mpr e))))
theorem aw_lc_gt {x y : Int64} {off : Int} {tgt : Nat} (hd : decode M.1 pc = .ok (.lcmp, 1)) (hd2 : decode M.1 (pc + 1) = .ok (.ifCond .gt off, 3)) (ht : ((pc + 1 : Nat) : Int) + off = (tgt : Int)) (kt : y < x → AW M d rc rs tgt lv st w cells slots Z) (kf : ¬ y < x → AW M d rc rs (pc + 4) lv st w cells slots Z) : AW M d rc rs pc lv (.long y :: .long x :: st) w cells slots Z :=
  aw_lcmp hd (aw_if_gt hd2 ht (fun h => kt ((am_cmp_gt x y).mp h)) (fun h => kf (fun e => h ((am_cmp_gt x y).mpr e))))
theorem aw_lc_le {x y : Int64} {off : Int} {tgt : Nat} (hd : decode M.1 pc = .ok (.lcmp, 1)) (hd2 : decode M.1 (pc + 1) = .ok (.ifCond .le off, 3)) (ht : ((pc + 1 : Nat) : Int) + off = (tgt : Int)) (kt : x ≤ y → AW M d rc rs tgt lv st w cells slots Z) (kf : ¬ x ≤ y → AW M d rc rs (pc + 4) lv st w cells slots Z) : AW M d rc rs pc lv (.long y :: .long x :: st) w cells slots Z :=
  aw_lcmp hd (aw_if_le hd2 ht (fun h => kt ((am_cmp_le x y).mp h)) (fun h => kf (fun e => h ((am_cmp_le x y).mpr e))))
theorem aw_ialdN {q n j : Nat} {f : Nat → Int32} (hd : decode M.1 pc = .ok (.iaload, 1)) (hw : w[q]? = some (.inl (0, n, .inl f))) (hj : j < n) (hn : n < 2 ^ 31) (kk : AW M d rc rs (pc + 1) lv (.int (f j) :: st) w cells slots Z) : AW M d rc rs pc lv (.int (nI j) :: .ref q :: st) w cells slots Z :=
  aw_iald hd hw (vp_in_nI hj hn) (by rw [nI_clamp (by omega)]; exact kk)
theorem aw_iastN {q n j : Nat} {f : Nat → Int32} {x : Int32} {w1 : List am_C} (hd : decode M.1 pc = .ok (.iastore, 1)) (hw : w[q]? = some (.inl (0, n, .inl f))) (hj : j < n) (hn : n < 2 ^ 31) (hw1 : w.set q (.inl (0, n, .inl (upd f j x))) = w1) (kk : AW M d rc rs (pc + 1) lv st w1 cells slots Z) : AW M d rc rs pc lv (.int x :: .int (nI j) :: .ref q :: st) w cells slots Z :=
  aw_iast hd hw (vp_in_nI hj hn) (by rw [nI_clamp (by omega), hw1]; exact kk)
theorem aw_laldN {q n j : Nat} {f : Nat → Int64} (hd : decode M.1 pc = .ok (.laload, 1)) (hw : w[q]? = some (.inl (1, n, .inr (.inl f)))) (hj : j < n) (hn : n < 2 ^ 31) (kk : AW M d rc rs (pc + 1) lv (.long (f j) :: st) w cells slots Z) : AW M d rc rs pc lv (.int (nI j) :: .ref q :: st) w cells slots Z :=
  aw_lald hd hw (vp_in_nI hj hn) (by rw [nI_clamp (by omega)]; exact kk)
theorem aw_lastN {q n j : Nat} {f : Nat → Int64} {x : Int64} {w1 : List am_C} (hd : decode M.1 pc = .ok (.lastore, 1)) (hw : w[q]? = some (.inl (1, n, .inr (.inl f)))) (hj : j < n) (hn : n < 2 ^ 31) (hw1 : w.set q (.inl (1, n, .inr (.inl (vp_updL f j x)))) = w1) (kk : AW M d rc rs (pc + 1) lv st w1 cells slots Z) : AW M d rc rs pc lv (.long x :: .int (nI j) :: .ref q :: st) w cells slots Z :=
  aw_last hd hw (vp_in_nI hj hn) (by rw [nI_clamp (by omega), hw1]; exact kk)
theorem aw_zaldN {q n j : Nat} {f : Nat → Int32} (hd : decode M.1 pc = .ok (.baload, 1)) (hw : w[q]? = some (.inl (2, n, .inl f))) (hj : j < n) (hn : n < 2 ^ 31) (kk : AW M d rc rs (pc + 1) lv (.int (f j) :: st) w cells slots Z) : AW M d rc rs pc lv (.int (nI j) :: .ref q :: st) w cells slots Z :=
  aw_zald hd hw (vp_in_nI hj hn) (by rw [nI_clamp (by omega)]; exact kk)
theorem aw_zastN {q n j : Nat} {f : Nat → Int32} {x : Int32} {w1 : List am_C} (hd : decode M.1 pc = .ok (.bastore, 1)) (hw : w[q]? = some (.inl (2, n, .inl f))) (hj : j < n) (hn : n < 2 ^ 31) (hw1 : w.set q (.inl (2, n, .inl (upd f j (vp_nar .boolean x)))) = w1) (kk : AW M d rc rs (pc + 1) lv st w1 cells slots Z) : AW M d rc rs pc lv (.int x :: .int (nI j) :: .ref q :: st) w cells slots Z :=
  aw_zast hd hw (vp_in_nI hj hn) (by rw [nI_clamp (by omega), hw1]; exact kk)
theorem aw_aaldN {q t n j y : Nat} {f : Nat → Option Nat} (hd : decode M.1 pc = .ok (.aaload, 1)) (hw : w[q]? = some (.inl (t, n, .inr (.inr (.inr (.inr f)))))) (ht : t < am_nt) (hrf : (am_ty t).isReference = true) (hj : j < n) (hn : n < 2 ^ 31) (hf : f j = some y) (kk : AW M d rc rs (pc + 1) lv (.ref y :: st) w cells slots Z) : AW M d rc rs pc lv (.int (nI j) :: .ref q :: st) w cells slots Z :=
  aw_aald hd hw ht hrf (vp_in_nI hj hn) (nI_clamp (by omega)) hf kk
theorem aw_putW {idx q ci k : Nat} {ty : FieldType} {fs : List Value} {v : Value} {w1 : List am_C} (hd : decode M.1 pc = .ok (.putfield idx, 3)) (hf : am_fp M.2.2.2.1 idx ci k ty) (hw : w[q]? = some (.inr (ci, fs))) (hl9 : k < fs.length) (hn : ∀ b sc : Nat, narrow ty (am_v b sc v) = am_v b sc v ∧ fits ty (am_v b sc v) = true) (hw1 : w.set q (.inr (ci, fs.set k v)) = w1) (kk : AW M d rc rs (pc + 3) lv st w1 cells slots Z) : AW M d rc rs pc lv (v :: .ref q :: st) w cells slots Z :=
  aw_put hd hf hw hl9 hn (by rw [hw1]; exact kk)
theorem aw_cV1 {y : am_Y} {d' idx n : Nat} {q ci N : Nat} {T : u_T} {fs : List Value} {As stk : List Value} {v : Value} {w1 : List am_C} (hd : decode M.1 pc = .ok (.invokevirtual idx, 3)) (ct : am_ct y d' (.ref q :: As) w (some v) w1 0 0) (hm : am_mk y n) (hi : Cond.instanceMethod y.1 ∈ am_G ∧ Cond.selects y.1.cls y.1 y.1 ∈ am_G) (hlk : Cond.methodLink M.2.2.2.1 idx y.1 ∈ am_G) (hw : w[q]? = some (.inr (ci, fs))) (hc : am_cl[ci]? = some (y.1.cls, T, N)) (hst : stk = As.reverse ++ .ref q :: st) (hn : As.length = n) (hcat : (st.map fun v => v.category).sum ≤ 8) (hdd : d' + 1 ≤ d) (hrc : cells ≤ rc) (hrs : slots ≤ rs) (kk : AW M d rc rs (pc + 3) lv (v :: st) w1 cells slots Z) : AW M d rc rs pc lv stk w cells slots Z :=
  aw_callV hd ct hm hi hlk hw hc hst hn hcat hdd hrc hrs kk
theorem aw_cV0 {y : am_Y} {d' idx n : Nat} {q ci N : Nat} {T : u_T} {fs : List Value} {As stk : List Value} {w1 : List am_C} (hd : decode M.1 pc = .ok (.invokevirtual idx, 3)) (ct : am_ct y d' (.ref q :: As) w none w1 0 0) (hm : am_mk y n) (hi : Cond.instanceMethod y.1 ∈ am_G ∧ Cond.selects y.1.cls y.1 y.1 ∈ am_G) (hlk : Cond.methodLink M.2.2.2.1 idx y.1 ∈ am_G) (hw : w[q]? = some (.inr (ci, fs))) (hc : am_cl[ci]? = some (y.1.cls, T, N)) (hst : stk = As.reverse ++ .ref q :: st) (hn : As.length = n) (hcat : (st.map fun v => v.category).sum ≤ 8) (hdd : d' + 1 ≤ d) (hrc : cells ≤ rc) (hrs : slots ≤ rs) (kk : AW M d rc rs (pc + 3) lv st w1 cells slots Z) : AW M d rc rs pc lv stk w cells slots Z :=
  aw_callV hd ct hm hi hlk hw hc hst hn hcat hdd hrc hrs kk
theorem aw_cVN1 {y : am_Y} {d' idx n : Nat} {host : String} {q ci N : Nat} {T : u_T} {fs : List Value} {As stk : List Value} {v : Value} {w1 : List am_C} (hd : decode M.1 pc = .ok (.invokevirtual idx, 3)) (ct : am_ct y d' (.ref q :: As) w (some v) w1 0 0) (hm : am_mk y n) (hi : Cond.instanceMethod y.1 ∈ am_G ∧ Cond.selects y.1.cls y.1 y.1 ∈ am_G) (hlk : Cond.methodLinkNest M.2.2.2.1 idx y.1 host ∈ am_N) (hw : w[q]? = some (.inr (ci, fs))) (hc : am_cl[ci]? = some (y.1.cls, T, N)) (hst : stk = As.reverse ++ .ref q :: st) (hn : As.length = n) (hcat : (st.map fun v => v.category).sum ≤ 8) (hdd : d' + 1 ≤ d) (hrc : cells ≤ rc) (hrs : slots ≤ rs) (kk : AW M d rc rs (pc + 3) lv (v :: st) w1 cells slots Z) : AW M d rc rs pc lv stk w cells slots Z :=
  aw_callVN hd ct hm hi hlk hw hc hst hn hcat hdd hrc hrs kk
theorem aw_cVN0 {y : am_Y} {d' idx n : Nat} {host : String} {q ci N : Nat} {T : u_T} {fs : List Value} {As stk : List Value} {w1 : List am_C} (hd : decode M.1 pc = .ok (.invokevirtual idx, 3)) (ct : am_ct y d' (.ref q :: As) w none w1 0 0) (hm : am_mk y n) (hi : Cond.instanceMethod y.1 ∈ am_G ∧ Cond.selects y.1.cls y.1 y.1 ∈ am_G) (hlk : Cond.methodLinkNest M.2.2.2.1 idx y.1 host ∈ am_N) (hw : w[q]? = some (.inr (ci, fs))) (hc : am_cl[ci]? = some (y.1.cls, T, N)) (hst : stk = As.reverse ++ .ref q :: st) (hn : As.length = n) (hcat : (st.map fun v => v.category).sum ≤ 8) (hdd : d' + 1 ≤ d) (hrc : cells ≤ rc) (hrs : slots ≤ rs) (kk : AW M d rc rs (pc + 3) lv st w1 cells slots Z) : AW M d rc rs pc lv stk w cells slots Z :=
  aw_callVN hd ct hm hi hlk hw hc hst hn hcat hdd hrc hrs kk
theorem aw_cS1 {y : am_Y} {d' idx n : Nat} {As stk : List Value} {v : Value} {w1 : List am_C} (hd : decode M.1 pc = .ok (.invokestatic idx, 3)) (ct : am_ct y d' As w (some v) w1 0 0) (hm : am_mk y n) (hi : Cond.static y.1 ∈ am_G) (hlk : Cond.methodLink M.2.2.2.1 idx y.1 ∈ am_G) (hst : stk = As.reverse ++ st) (hn : As.length = n) (hcat : (st.map fun v => v.category).sum ≤ 8) (hdd : d' + 1 ≤ d) (hrc : cells ≤ rc) (hrs : slots ≤ rs) (kk : AW M d rc rs (pc + 3) lv (v :: st) w1 cells slots Z) : AW M d rc rs pc lv stk w cells slots Z :=
  aw_callS hd ct hm hi hlk hst hn hcat hdd hrc hrs kk
theorem aw_cS0 {y : am_Y} {d' idx n : Nat} {As stk : List Value} {w1 : List am_C} (hd : decode M.1 pc = .ok (.invokestatic idx, 3)) (ct : am_ct y d' As w none w1 0 0) (hm : am_mk y n) (hi : Cond.static y.1 ∈ am_G) (hlk : Cond.methodLink M.2.2.2.1 idx y.1 ∈ am_G) (hst : stk = As.reverse ++ st) (hn : As.length = n) (hcat : (st.map fun v => v.category).sum ≤ 8) (hdd : d' + 1 ≤ d) (hrc : cells ≤ rc) (hrs : slots ≤ rs) (kk : AW M d rc rs (pc + 3) lv st w1 cells slots Z) : AW M d rc rs pc lv stk w cells slots Z :=
  aw_callS hd ct hm hi hlk hst hn hcat hdd hrc hrs kk
theorem aw_cSN1 {y : am_Y} {d' idx n : Nat} {host : String} {As stk : List Value} {v : Value} {w1 : List am_C} (hd : decode M.1 pc = .ok (.invokestatic idx, 3)) (ct : am_ct y d' As w (some v) w1 0 0) (hm : am_mk y n) (hi : Cond.static y.1 ∈ am_G) (hlk : Cond.methodLinkNest M.2.2.2.1 idx y.1 host ∈ am_N) (hst : stk = As.reverse ++ st) (hn : As.length = n) (hcat : (st.map fun v => v.category).sum ≤ 8) (hdd : d' + 1 ≤ d) (hrc : cells ≤ rc) (hrs : slots ≤ rs) (kk : AW M d rc rs (pc + 3) lv (v :: st) w1 cells slots Z) : AW M d rc rs pc lv stk w cells slots Z :=
  aw_callSN hd ct hm hi hlk hst hn hcat hdd hrc hrs kk
theorem aw_cSN0 {y : am_Y} {d' idx n : Nat} {host : String} {As stk : List Value} {w1 : List am_C} (hd : decode M.1 pc = .ok (.invokestatic idx, 3)) (ct : am_ct y d' As w none w1 0 0) (hm : am_mk y n) (hi : Cond.static y.1 ∈ am_G) (hlk : Cond.methodLinkNest M.2.2.2.1 idx y.1 host ∈ am_N) (hst : stk = As.reverse ++ st) (hn : As.length = n) (hcat : (st.map fun v => v.category).sum ≤ 8) (hdd : d' + 1 ≤ d) (hrc : cells ≤ rc) (hrs : slots ≤ rs) (kk : AW M d rc rs (pc + 3) lv st w1 cells slots Z) : AW M d rc rs pc lv stk w cells slots Z :=
  aw_callSN hd ct hm hi hlk hst hn hcat hdd hrc hrs kk
def am_has (lv : List (Nat × Value)) : List (Nat × Value) → Prop
  | [] => True
  | q :: l => am_lk lv q.1 = some q.2 ∧ am_has lv l
theorem am_has_mem {lv : List (Nat × Value)} : ∀ {l : List (Nat × Value)}, am_has lv l → ∀ q ∈ l, q ∈ lv
  | q :: l, h, x, hx => by
    rcases List.mem_cons.mp hx with e | hx
    · subst e; exact am_lk_mem h.1
    · exact am_has_mem h.2 x hx
theorem aw_pick {lv' : List (Nat × Value)} (h : am_has lv lv') (k : AW M d rc rs pc lv' st w cells slots Z) : AW M d rc rs pc lv st w cells slots Z := aw_sub (am_has_mem h) k
theorem aw_iretE {v v' : Int32} {w' : List am_C} {mc ms : Nat} (hd : decode M.1 pc = .ok (.ireturn, 1)) (hr : M.2.2.1 = some .int) (hv : v = v') (hw : w = w') (h1 : cells = mc) (h2 : slots = ms) : AW M d rc rs pc lv [.int v] w cells slots (am_Z (some (.int v')) w' mc ms) := by
  subst hv; subst hw; subst h1; subst h2; exact aw_iret hd hr
theorem aw_zretE {v v' : Int32} {w' : List am_C} {mc ms : Nat} (hd : decode M.1 pc = .ok (.ireturn, 1)) (hr : M.2.2.1 = some .boolean) (hn : narrow .boolean (.int v) = .int v) (hv : v = v') (hw : w = w') (h1 : cells = mc) (h2 : slots = ms) : AW M d rc rs pc lv [.int v] w cells slots (am_Z (some (.int v')) w' mc ms) := by
  subst hv; subst hw; subst h1; subst h2; exact aw_zret hd hr hn
theorem aw_lretE {v v' : Int64} {w' : List am_C} {mc ms : Nat} (hd : decode M.1 pc = .ok (.lreturn, 1)) (hr : M.2.2.1 = some .long) (hv : v = v') (hw : w = w') (h1 : cells = mc) (h2 : slots = ms) : AW M d rc rs pc lv [.long v] w cells slots (am_Z (some (.long v')) w' mc ms) := by
  subst hv; subst hw; subst h1; subst h2; exact aw_lret hd hr
theorem aw_vretE {w' : List am_C} {mc ms : Nat} (hd : decode M.1 pc = .ok (.return_, 1)) (hr : M.2.2.1 = none) (hw : w = w') (h1 : cells = mc) (h2 : slots = ms) : AW M d rc rs pc lv [] w cells slots (am_Z none w' mc ms) := by
  subst hw; subst h1; subst h2; exact aw_vret hd hr
end AMH
theorem cs_f1_6 (S : cs_S) (r : List am_C) (x : Int32) : (cs_w S ++ r).set 1 (.inr (2, List.set [.ref 2, .ref 3, .ref 4, .ref 5, .ref 6, .ref 7, .int (S.2.2 1)] 6 (.int x))) = cs_w (cs_F S 1 x) ++ r := rfl
theorem cs_s2 (S : cs_S) (r : List am_C) (g : Nat → Int32) : (cs_w S ++ r).set 2 (.inl (0, 25, .inl g)) = cs_w (cs_I S 2 g) ++ r := rfl
theorem cs_s3 (S : cs_S) (r : List am_C) (g : Nat → Int32) : (cs_w S ++ r).set 3 (.inl (0, 5, .inl g)) = cs_w (cs_I S 3 g) ++ r := rfl
theorem cs_s4 (S : cs_S) (r : List am_C) (g : Nat → Int32) : (cs_w S ++ r).set 4 (.inl (2, 20, .inl g)) = cs_w (cs_I S 4 g) ++ r := rfl
theorem cs_s5 (S : cs_S) (r : List am_C) (g : Nat → Int32) : (cs_w S ++ r).set 5 (.inl (2, 5, .inl g)) = cs_w (cs_I S 5 g) ++ r := rfl
theorem cs_s6 (S : cs_S) (r : List am_C) (g : Nat → Int32) : (cs_w S ++ r).set 6 (.inl (0, 5, .inl g)) = cs_w (cs_I S 6 g) ++ r := rfl
theorem cs_s7 (S : cs_S) (r : List am_C) (g : Nat → Int32) : (cs_w S ++ r).set 7 (.inl (2, 5, .inl g)) = cs_w (cs_I S 7 g) ++ r := rfl
theorem cs_f8_5 (S : cs_S) (r : List am_C) (x : Int32) : (cs_w S ++ r).set 8 (.inr (1, List.set [.ref 9, .ref 10, .ref 11, .ref 12, .ref 13, .int (S.2.2 8)] 5 (.int x))) = cs_w (cs_F S 8 x) ++ r := rfl
theorem cs_s9 (S : cs_S) (r : List am_C) (g : Nat → Int32) : (cs_w S ++ r).set 9 (.inl (0, 60, .inl g)) = cs_w (cs_I S 9 g) ++ r := rfl
theorem cs_s10 (S : cs_S) (r : List am_C) (g : Nat → Int32) : (cs_w S ++ r).set 10 (.inl (0, 60, .inl g)) = cs_w (cs_I S 10 g) ++ r := rfl
theorem cs_s11 (S : cs_S) (r : List am_C) (g : Nat → Int32) : (cs_w S ++ r).set 11 (.inl (0, 60, .inl g)) = cs_w (cs_I S 11 g) ++ r := rfl
theorem cs_s12 (S : cs_S) (r : List am_C) (g : Nat → Int32) : (cs_w S ++ r).set 12 (.inl (0, 60, .inl g)) = cs_w (cs_I S 12 g) ++ r := rfl
theorem cs_s13 (S : cs_S) (r : List am_C) (g : Nat → Int64) : (cs_w S ++ r).set 13 (.inl (1, 60, .inr (.inl g))) = cs_w (cs_J S 13 g) ++ r := rfl
theorem cs_s14 (S : cs_S) (r : List am_C) (g : Nat → Int64) : (cs_w S ++ r).set 14 (.inl (1, 10, .inr (.inl g))) = cs_w (cs_J S 14 g) ++ r := rfl
theorem cs_s15 (S : cs_S) (r : List am_C) (g : Nat → Int64) : (cs_w S ++ r).set 15 (.inl (1, 40, .inr (.inl g))) = cs_w (cs_J S 15 g) ++ r := rfl
theorem cs_f16_9 (S : cs_S) (r : List am_C) (x : Int32) : (cs_w S ++ r).set 16 (.inr (3, List.set [.ref 17, .ref 24, .ref 25, .ref 26, .ref 27, .ref 28, .ref 29, .ref 30, .ref 31, .int (S.2.2 16)] 9 (.int x))) = cs_w (cs_F S 16 x) ++ r := rfl
theorem cs_s19 (S : cs_S) (r : List am_C) (g : Nat → Int64) : (cs_w S ++ r).set 19 (.inl (1, 6, .inr (.inl g))) = cs_w (cs_J S 19 g) ++ r := rfl
theorem cs_s20 (S : cs_S) (r : List am_C) (g : Nat → Int64) : (cs_w S ++ r).set 20 (.inl (1, 6, .inr (.inl g))) = cs_w (cs_J S 20 g) ++ r := rfl
theorem cs_s21 (S : cs_S) (r : List am_C) (g : Nat → Int64) : (cs_w S ++ r).set 21 (.inl (1, 6, .inr (.inl g))) = cs_w (cs_J S 21 g) ++ r := rfl
theorem cs_s22 (S : cs_S) (r : List am_C) (g : Nat → Int64) : (cs_w S ++ r).set 22 (.inl (1, 6, .inr (.inl g))) = cs_w (cs_J S 22 g) ++ r := rfl
theorem cs_s23 (S : cs_S) (r : List am_C) (g : Nat → Int64) : (cs_w S ++ r).set 23 (.inl (1, 6, .inr (.inl g))) = cs_w (cs_J S 23 g) ++ r := rfl
theorem cs_s24 (S : cs_S) (r : List am_C) (g : Nat → Int64) : (cs_w S ++ r).set 24 (.inl (1, 4, .inr (.inl g))) = cs_w (cs_J S 24 g) ++ r := rfl
theorem cs_s25 (S : cs_S) (r : List am_C) (g : Nat → Int64) : (cs_w S ++ r).set 25 (.inl (1, 20, .inr (.inl g))) = cs_w (cs_J S 25 g) ++ r := rfl
theorem cs_s26 (S : cs_S) (r : List am_C) (g : Nat → Int64) : (cs_w S ++ r).set 26 (.inl (1, 200, .inr (.inl g))) = cs_w (cs_J S 26 g) ++ r := rfl
theorem cs_s27 (S : cs_S) (r : List am_C) (g : Nat → Int64) : (cs_w S ++ r).set 27 (.inl (1, 40, .inr (.inl g))) = cs_w (cs_J S 27 g) ++ r := rfl
theorem cs_s28 (S : cs_S) (r : List am_C) (g : Nat → Int64) : (cs_w S ++ r).set 28 (.inl (1, 160, .inr (.inl g))) = cs_w (cs_J S 28 g) ++ r := rfl
theorem cs_s29 (S : cs_S) (r : List am_C) (g : Nat → Int64) : (cs_w S ++ r).set 29 (.inl (1, 160, .inr (.inl g))) = cs_w (cs_J S 29 g) ++ r := rfl
theorem cs_s30 (S : cs_S) (r : List am_C) (g : Nat → Int32) : (cs_w S ++ r).set 30 (.inl (2, 5, .inl g)) = cs_w (cs_I S 30 g) ++ r := rfl
theorem cs_s31 (S : cs_S) (r : List am_C) (g : Nat → Int32) : (cs_w S ++ r).set 31 (.inl (2, 5, .inl g)) = cs_w (cs_I S 31 g) ++ r := rfl
theorem cs_f32_1 (S : cs_S) (r : List am_C) (x : Int32) : (cs_w S ++ r).set 32 (.inr (0, List.set [.ref 33, .int (S.2.2 32)] 1 (.int x))) = cs_w (cs_F S 32 x) ++ r := rfl
theorem cs_s33 (S : cs_S) (r : List am_C) (g : Nat → Int32) : (cs_w S ++ r).set 33 (.inl (0, 60, .inl g)) = cs_w (cs_I S 33 g) ++ r := rfl
theorem cs_f34_1 (S : cs_S) (r : List am_C) (x : Int32) : (cs_w S ++ r).set 34 (.inr (4, List.set [.ref 35, .int (S.2.2 34)] 1 (.int x))) = cs_w (cs_F S 34 x) ++ r := rfl
theorem cs_s35 (S : cs_S) (r : List am_C) (g : Nat → Int32) : (cs_w S ++ r).set 35 (.inl (0, 200, .inl g)) = cs_w (cs_I S 35 g) ++ r := rfl
theorem ms_f36_0 (C S : cs_S) (x : Int32) : (cs_w C ++ ms_w S).set 36 (.inr (7, List.set [.int (S.2.2 0), .ref 37, .ref 38, .ref 39, .ref 40, .int (S.2.2 5), .ref 41, .ref 42, .ref 43, .ref 44, .ref 45, .ref 46, .ref 47, .int (S.2.2 13), .ref 48, .ref 49, .ref 50, .int (S.2.2 17), .int (S.2.2 18), .ref 51, .ref 52, .int (S.2.2 21), .ref 53, .ref 54, .int (S.2.2 24), .ref 55, .ref 56, .long (S.2.1 27 0), .long (S.2.1 28 0)] 0 (.int x))) = cs_w C ++ ms_w (cs_F S 0 x) := rfl
theorem ms_f36_5 (C S : cs_S) (x : Int32) : (cs_w C ++ ms_w S).set 36 (.inr (7, List.set [.int (S.2.2 0), .ref 37, .ref 38, .ref 39, .ref 40, .int (S.2.2 5), .ref 41, .ref 42, .ref 43, .ref 44, .ref 45, .ref 46, .ref 47, .int (S.2.2 13), .ref 48, .ref 49, .ref 50, .int (S.2.2 17), .int (S.2.2 18), .ref 51, .ref 52, .int (S.2.2 21), .ref 53, .ref 54, .int (S.2.2 24), .ref 55, .ref 56, .long (S.2.1 27 0), .long (S.2.1 28 0)] 5 (.int x))) = cs_w C ++ ms_w (cs_F S 5 x) := rfl
theorem ms_f36_13 (C S : cs_S) (x : Int32) : (cs_w C ++ ms_w S).set 36 (.inr (7, List.set [.int (S.2.2 0), .ref 37, .ref 38, .ref 39, .ref 40, .int (S.2.2 5), .ref 41, .ref 42, .ref 43, .ref 44, .ref 45, .ref 46, .ref 47, .int (S.2.2 13), .ref 48, .ref 49, .ref 50, .int (S.2.2 17), .int (S.2.2 18), .ref 51, .ref 52, .int (S.2.2 21), .ref 53, .ref 54, .int (S.2.2 24), .ref 55, .ref 56, .long (S.2.1 27 0), .long (S.2.1 28 0)] 13 (.int x))) = cs_w C ++ ms_w (cs_F S 13 x) := rfl
theorem ms_f36_17 (C S : cs_S) (x : Int32) : (cs_w C ++ ms_w S).set 36 (.inr (7, List.set [.int (S.2.2 0), .ref 37, .ref 38, .ref 39, .ref 40, .int (S.2.2 5), .ref 41, .ref 42, .ref 43, .ref 44, .ref 45, .ref 46, .ref 47, .int (S.2.2 13), .ref 48, .ref 49, .ref 50, .int (S.2.2 17), .int (S.2.2 18), .ref 51, .ref 52, .int (S.2.2 21), .ref 53, .ref 54, .int (S.2.2 24), .ref 55, .ref 56, .long (S.2.1 27 0), .long (S.2.1 28 0)] 17 (.int x))) = cs_w C ++ ms_w (cs_F S 17 x) := rfl
theorem ms_f36_18 (C S : cs_S) (x : Int32) : (cs_w C ++ ms_w S).set 36 (.inr (7, List.set [.int (S.2.2 0), .ref 37, .ref 38, .ref 39, .ref 40, .int (S.2.2 5), .ref 41, .ref 42, .ref 43, .ref 44, .ref 45, .ref 46, .ref 47, .int (S.2.2 13), .ref 48, .ref 49, .ref 50, .int (S.2.2 17), .int (S.2.2 18), .ref 51, .ref 52, .int (S.2.2 21), .ref 53, .ref 54, .int (S.2.2 24), .ref 55, .ref 56, .long (S.2.1 27 0), .long (S.2.1 28 0)] 18 (.int x))) = cs_w C ++ ms_w (cs_F S 18 x) := rfl
theorem ms_f36_21 (C S : cs_S) (x : Int32) : (cs_w C ++ ms_w S).set 36 (.inr (7, List.set [.int (S.2.2 0), .ref 37, .ref 38, .ref 39, .ref 40, .int (S.2.2 5), .ref 41, .ref 42, .ref 43, .ref 44, .ref 45, .ref 46, .ref 47, .int (S.2.2 13), .ref 48, .ref 49, .ref 50, .int (S.2.2 17), .int (S.2.2 18), .ref 51, .ref 52, .int (S.2.2 21), .ref 53, .ref 54, .int (S.2.2 24), .ref 55, .ref 56, .long (S.2.1 27 0), .long (S.2.1 28 0)] 21 (.int x))) = cs_w C ++ ms_w (cs_F S 21 x) := rfl
theorem ms_f36_24 (C S : cs_S) (x : Int32) : (cs_w C ++ ms_w S).set 36 (.inr (7, List.set [.int (S.2.2 0), .ref 37, .ref 38, .ref 39, .ref 40, .int (S.2.2 5), .ref 41, .ref 42, .ref 43, .ref 44, .ref 45, .ref 46, .ref 47, .int (S.2.2 13), .ref 48, .ref 49, .ref 50, .int (S.2.2 17), .int (S.2.2 18), .ref 51, .ref 52, .int (S.2.2 21), .ref 53, .ref 54, .int (S.2.2 24), .ref 55, .ref 56, .long (S.2.1 27 0), .long (S.2.1 28 0)] 24 (.int x))) = cs_w C ++ ms_w (cs_F S 24 x) := rfl
theorem ms_f36_27 (C S : cs_S) (x : Int64) : (cs_w C ++ ms_w S).set 36 (.inr (7, List.set [.int (S.2.2 0), .ref 37, .ref 38, .ref 39, .ref 40, .int (S.2.2 5), .ref 41, .ref 42, .ref 43, .ref 44, .ref 45, .ref 46, .ref 47, .int (S.2.2 13), .ref 48, .ref 49, .ref 50, .int (S.2.2 17), .int (S.2.2 18), .ref 51, .ref 52, .int (S.2.2 21), .ref 53, .ref 54, .int (S.2.2 24), .ref 55, .ref 56, .long (S.2.1 27 0), .long (S.2.1 28 0)] 27 (.long x))) = cs_w C ++ ms_w (cs_J S 27 (fun _ => x)) := rfl
theorem ms_f36_28 (C S : cs_S) (x : Int64) : (cs_w C ++ ms_w S).set 36 (.inr (7, List.set [.int (S.2.2 0), .ref 37, .ref 38, .ref 39, .ref 40, .int (S.2.2 5), .ref 41, .ref 42, .ref 43, .ref 44, .ref 45, .ref 46, .ref 47, .int (S.2.2 13), .ref 48, .ref 49, .ref 50, .int (S.2.2 17), .int (S.2.2 18), .ref 51, .ref 52, .int (S.2.2 21), .ref 53, .ref 54, .int (S.2.2 24), .ref 55, .ref 56, .long (S.2.1 27 0), .long (S.2.1 28 0)] 28 (.long x))) = cs_w C ++ ms_w (cs_J S 28 (fun _ => x)) := rfl
theorem ms_s37 (C S : cs_S) (g : Nat → Int32) : (cs_w C ++ ms_w S).set 37 (.inl (0, 25, .inl g)) = cs_w C ++ ms_w (cs_I S 37 g) := rfl
theorem ms_s38 (C S : cs_S) (g : Nat → Int32) : (cs_w C ++ ms_w S).set 38 (.inl (2, 20, .inl g)) = cs_w C ++ ms_w (cs_I S 38 g) := rfl
theorem ms_s39 (C S : cs_S) (g : Nat → Int32) : (cs_w C ++ ms_w S).set 39 (.inl (2, 5, .inl g)) = cs_w C ++ ms_w (cs_I S 39 g) := rfl
theorem ms_s40 (C S : cs_S) (g : Nat → Int32) : (cs_w C ++ ms_w S).set 40 (.inl (0, 5, .inl g)) = cs_w C ++ ms_w (cs_I S 40 g) := rfl
theorem ms_s41 (C S : cs_S) (g : Nat → Int32) : (cs_w C ++ ms_w S).set 41 (.inl (0, 60, .inl g)) = cs_w C ++ ms_w (cs_I S 41 g) := rfl
theorem ms_s42 (C S : cs_S) (g : Nat → Int32) : (cs_w C ++ ms_w S).set 42 (.inl (0, 60, .inl g)) = cs_w C ++ ms_w (cs_I S 42 g) := rfl
theorem ms_s43 (C S : cs_S) (g : Nat → Int32) : (cs_w C ++ ms_w S).set 43 (.inl (0, 60, .inl g)) = cs_w C ++ ms_w (cs_I S 43 g) := rfl
theorem ms_s44 (C S : cs_S) (g : Nat → Int32) : (cs_w C ++ ms_w S).set 44 (.inl (0, 60, .inl g)) = cs_w C ++ ms_w (cs_I S 44 g) := rfl
theorem ms_s45 (C S : cs_S) (g : Nat → Int64) : (cs_w C ++ ms_w S).set 45 (.inl (1, 60, .inr (.inl g))) = cs_w C ++ ms_w (cs_J S 45 g) := rfl
theorem ms_s46 (C S : cs_S) (g : Nat → Int64) : (cs_w C ++ ms_w S).set 46 (.inl (1, 10, .inr (.inl g))) = cs_w C ++ ms_w (cs_J S 46 g) := rfl
theorem ms_s47 (C S : cs_S) (g : Nat → Int64) : (cs_w C ++ ms_w S).set 47 (.inl (1, 40, .inr (.inl g))) = cs_w C ++ ms_w (cs_J S 47 g) := rfl
theorem ms_s48 (C S : cs_S) (g : Nat → Int64) : (cs_w C ++ ms_w S).set 48 (.inl (1, 20, .inr (.inl g))) = cs_w C ++ ms_w (cs_J S 48 g) := rfl
theorem ms_s49 (C S : cs_S) (g : Nat → Int64) : (cs_w C ++ ms_w S).set 49 (.inl (1, 20, .inr (.inl g))) = cs_w C ++ ms_w (cs_J S 49 g) := rfl
theorem ms_s50 (C S : cs_S) (g : Nat → Int32) : (cs_w C ++ ms_w S).set 50 (.inl (2, 20, .inl g)) = cs_w C ++ ms_w (cs_I S 50 g) := rfl
theorem ms_s51 (C S : cs_S) (g : Nat → Int64) : (cs_w C ++ ms_w S).set 51 (.inl (1, 10, .inr (.inl g))) = cs_w C ++ ms_w (cs_J S 51 g) := rfl
theorem ms_s52 (C S : cs_S) (g : Nat → Int64) : (cs_w C ++ ms_w S).set 52 (.inl (1, 160, .inr (.inl g))) = cs_w C ++ ms_w (cs_J S 52 g) := rfl
theorem ms_s53 (C S : cs_S) (g : Nat → Int32) : (cs_w C ++ ms_w S).set 53 (.inl (0, 60, .inl g)) = cs_w C ++ ms_w (cs_I S 53 g) := rfl
theorem ms_s54 (C S : cs_S) (g : Nat → Int32) : (cs_w C ++ ms_w S).set 54 (.inl (0, 200, .inl g)) = cs_w C ++ ms_w (cs_I S 54 g) := rfl
theorem ms_s55 (C S : cs_S) (g : Nat → Int64) : (cs_w C ++ ms_w S).set 55 (.inl (1, 30, .inr (.inl g))) = cs_w C ++ ms_w (cs_J S 55 g) := rfl
theorem ms_s56 (C S : cs_S) (g : Nat → Int64) : (cs_w C ++ ms_w S).set 56 (.inl (1, 30, .inr (.inl g))) = cs_w C ++ ms_w (cs_J S 56 g) := rfl
