/-! Contracts over a world of fixed shape, how a body is begun, how a method is called. -/
def rg_ws (y : MethodName) (cc : ByteArray) (n : Nat) (ret : Option FieldType) : List Cond := Cond.code y cc n ret :: lw_gd
theorem rg_wsG {y : MethodName} {cc : ByteArray} {n : Nat} {ret : Option FieldType} (h : Cond.code y cc n ret ∈ lw_gd) : GoodIn lw_gd (rg_ws y cc n ret) := lw_goodIn (fun w hw => by
  rcases List.mem_cons.mp hw with e | hw
  · rw [e]; exact h
  · exact hw)
theorem rg_nest_tab : ∀ w ∈ lw_nest, w.onTables = true := by decide +kernel
theorem rg_nest_same {u U : State} (h : u.vm = U.vm) (hn : ∀ w ∈ lw_nest, va_Nw w u) : ∀ w ∈ lw_nest, va_Nw w U := fun w hw => va_Nw.same (rg_nest_tab w hw) h (hn w hw)
theorem rg_nest_warm {s U : State} (hW : s.WarmedH U.vm) (hn : ∀ w ∈ lw_nest, va_Nw w s) : ∀ w ∈ lw_nest, va_Nw w U := by
  intro w hw
  have h1 := hn w hw
  simp only [lw_nest, List.mem_cons, List.not_mem_nil, or_false] at hw
  rcases hw with rfl | rfl | rfl | rfl | rfl | rfl | rfl | rfl <;> exact va_Nw.warmM hW h1
abbrev rg_inj (κ : rg_K) (tb : List rg_Sh) : Prop := ∀ i j, i < tb.length → j < tb.length → κ.2.2.2 i = κ.2.2.2 j → i = j
/-- what a method may change: the world's cells, and what is made behind sz -/
def rg_WA (κ : rg_K) (tb : List rg_Sh) (sz : Nat) : Nat → Prop := fun q => (∃ k, k < tb.length ∧ κ.2.2.2 k = q) ∨ sz ≤ q
def rg_Wp (κ : rg_K) (tb : List rg_Sh) (σ : rg_S) (t : State) : Prop := va_P κ.2.1 vwCl (rg_wd κ tb σ) t.heap ∧ va_K κ.2.1 vwCl (rg_tys κ.2.2.1) t
def rg_Wi (κ : rg_K) (tb : List rg_Sh) (σ : rg_S) (sz : Nat) (U : State) : Prop := U.heap.size = sz ∧ rg_Wp κ tb σ U ∧ rg_inj κ tb ∧ (∀ w ∈ lw_nest, va_Nw w U) ∧ rg_X κ (rg_WA κ tb sz) U
theorem rg_Wi_blind {κ : rg_K} {tb : List rg_Sh} {σ : rg_S} {sz : Nat} {as : List Value} : FrameBlind (va_Pc as (rg_Wi κ tb σ sz)) := fun a U g mk q => by
  obtain ⟨q0, q1, ⟨qP, qK⟩, q2, q3, q4⟩ := q
  exact ⟨q0, q1, ⟨qP, va_K.moved (u := U) (U := U.calling g mk a) (Vm.Alike.refl U.vm) qK⟩, q2, rg_nest_same (u := U) (U := U.calling g mk a) rfl q3, rg_X_same (u := U) (U := U.calling g mk a) rfl rfl q4⟩
abbrev rg_rm (fr lo : Nat) : Room := { frames := fr, cells := 0, slots := 0, locals := lo }
/-- a method that answers an int, over the world tb -/
def rg_CI (κ : rg_K) (tb : List rg_Sh) (y : MethodName) (cc : ByteArray) (n : Nat) (ret : FieldType) (fr lo : Nat) (as : List Value) (σ : rg_S) (post : Int → rg_S → Prop) : Prop :=
  ∀ sz : Nat, Met κ.1 y (rg_ws y cc n (some ret)) (rg_rm fr lo) (va_Pc as (rg_Wi κ tb σ sz)) (va_Qi (fun (r : Int32) (u : Int × rg_S) => r = rg_I u.1 ∧ post u.1 u.2) (fun u t => rg_Wp κ tb u.2 t) (rg_WA κ tb sz)) 0 0 (rg_WA κ tb sz)
/-- .. and a void one -/
def rg_CV (κ : rg_K) (tb : List rg_Sh) (y : MethodName) (cc : ByteArray) (n : Nat) (fr lo : Nat) (as : List Value) (σ : rg_S) (post : rg_S → Prop) : Prop :=
  ∀ sz : Nat, Met κ.1 y (rg_ws y cc n none) (rg_rm fr lo) (va_Pc as (rg_Wi κ tb σ sz)) (va_Qv (fun (u : rg_S) => post u) (fun u t => rg_Wp κ tb u t) (rg_WA κ tb sz)) 0 0 (rg_WA κ tb sz)
/-- what a body of an int method has at hand for its end -/
def rg_RI (κ : rg_K) (Γ : rg_C) (tb : List rg_Sh) (cc : ByteArray) (n : Nat) (ret : FieldType) (post : Int → rg_S → Prop) : Prop :=
  ∀ (pc : Nat) (lv : List (Nat × Value)) (r : Int) (σ' : rg_S), decode cc pc = .ok (.ireturn, 1) → (ret = .boolean → r = 0 ∨ r = 1) → post r σ' → rg_G κ Γ tb n 0 0 pc lv [.int (rg_I r)] σ'
def rg_RV (κ : rg_K) (Γ : rg_C) (tb : List rg_Sh) (cc : ByteArray) (n : Nat) (post : rg_S → Prop) : Prop :=
  ∀ (pc : Nat) (lv : List (Nat × Value)) (σ' : rg_S), decode cc pc = .ok (.return_, 1) → post σ' → rg_G κ Γ tb n 0 0 pc lv [] σ'
theorem rg_entI {κ : rg_K} {tb : List rg_Sh} {y : MethodName} {cc : ByteArray} {n : Nat} {ret : FieldType} {fr lo : Nat} {as : List Value} {σ : rg_S} {post : Int → rg_S → Prop} (lv : List (Nat × Value)) (hlv : lv_args 0 as = lv) (hy : plainName y.cls = true) (hn : (lg_sl as).length ≤ n) (hret : ret = .int ∨ ret = .boolean)
    (body : ∀ Γ : rg_C, rg_F κ Γ tb cc y.cls n fr lo → rg_RI κ Γ tb cc n ret post → rg_G κ Γ tb n 0 0 0 lv [] σ) : rg_CI κ tb y cc n ret fr lo as σ post := by
  intro sz
  refine Met.ofW (cc := cc) (maxL := n) (ret := some ret) hy rfl ?_
  intro p e s m args below meth c s₁ B hml hv
  obtain ⟨rfl, hsz, ⟨hP, hK⟩, hinj, hnest, hX9⟩ := hv
  subst hsz
  have hts := atoms_spec (ws := rg_ws y cc n (some ret)) B.pre
  have hown : s.vm.findClass y.cls = some m.cls := findClass_of_methodNamed B.named
  have hlocks : meth.locks = false := B.notSynchronized
  have hl := lv_entry as (n := n) hn
  rw [lg_entry_eq]
  rw [hlv] at hl
  have F : rg_F κ (p, e, (headSpec (rg_ws y cc n (some ret)) (rg_rm fr lo)).room, s, m, as.toArray, below, meth, c, rg_WA κ tb s.heap.size, s.heap, MQ below (va_Qi (fun (r : Int32) (u : Int × rg_S) => r = rg_I u.1 ∧ post u.1 u.2) (fun u t => rg_Wp κ tb u.2 t) (rg_WA κ tb s.heap.size)) as.toArray s 0 0 (rg_WA κ tb s.heap.size)) tb cc y.cls n fr lo :=
    ⟨B.exec, B.bytes, hml, hown, fun w h => hts w (List.mem_cons_of_mem _ h), hK, hinj, fun i hi => Or.inl ⟨i, hi, rfl⟩, fun q h => Or.inr h, Nat.le_refl _, Nat.le_refl _, hlocks, hnest, rfl, hX9⟩
  refine body _ F ?_ s.heap [] _ hP va_S.rf hl
  intro pc lv r σ' d h01 hp H locs ls hP1 hS h
  rcases hret with rfl | rfl
  · exact W.iret B.exec B.bytes B.returns (fun t ht hW => ⟨⟨_, (r, σ'), rfl, ⟨rfl, hp⟩, ⟨by rw [ht]; exact hP1, va_K.moved hW.alike hK⟩⟩, hS.F ht⟩) hS.2.2 d hlocks
  · exact W.zret B.exec B.bytes B.returns (rg_narrow_z (h01 rfl)) (fun t ht hW => ⟨⟨_, (r, σ'), rfl, ⟨rfl, hp⟩, ⟨by rw [ht]; exact hP1, va_K.moved hW.alike hK⟩⟩, hS.F ht⟩) hS.2.2 d hlocks
theorem rg_entV {κ : rg_K} {tb : List rg_Sh} {y : MethodName} {cc : ByteArray} {n : Nat} {fr lo : Nat} {as : List Value} {σ : rg_S} {post : rg_S → Prop} (lv : List (Nat × Value)) (hlv : lv_args 0 as = lv) (hy : plainName y.cls = true) (hn : (lg_sl as).length ≤ n)
    (body : ∀ Γ : rg_C, rg_F κ Γ tb cc y.cls n fr lo → rg_RV κ Γ tb cc n post → rg_G κ Γ tb n 0 0 0 lv [] σ) : rg_CV κ tb y cc n fr lo as σ post := by
  intro sz
  refine Met.ofW (cc := cc) (maxL := n) (ret := none) hy rfl ?_
  intro p e s m args below meth c s₁ B hml hv
  obtain ⟨rfl, hsz, ⟨hP, hK⟩, hinj, hnest, hX9⟩ := hv
  subst hsz
  have hts := atoms_spec (ws := rg_ws y cc n none) B.pre
  have hown : s.vm.findClass y.cls = some m.cls := findClass_of_methodNamed B.named
  have hlocks : meth.locks = false := B.notSynchronized
  have hl := lv_entry as (n := n) hn
  rw [lg_entry_eq]
  rw [hlv] at hl
  have F : rg_F κ (p, e, (headSpec (rg_ws y cc n none) (rg_rm fr lo)).room, s, m, as.toArray, below, meth, c, rg_WA κ tb s.heap.size, s.heap, MQ below (va_Qv (fun (u : rg_S) => post u) (fun u t => rg_Wp κ tb u t) (rg_WA κ tb s.heap.size)) as.toArray s 0 0 (rg_WA κ tb s.heap.size)) tb cc y.cls n fr lo :=
    ⟨B.exec, B.bytes, hml, hown, fun w h => hts w (List.mem_cons_of_mem _ h), hK, hinj, fun i hi => Or.inl ⟨i, hi, rfl⟩, fun q h => Or.inr h, Nat.le_refl _, Nat.le_refl _, hlocks, hnest, rfl, hX9⟩
  refine body _ F ?_ s.heap [] _ hP va_S.rf hl
  intro pc lv σ' d hp H locs ls hP1 hS h
  exact W.vret B.exec B.bytes B.returns (fun t ht hW => ⟨⟨σ', rfl, hp, ⟨by rw [ht]; exact hP1, va_K.moved hW.alike hK⟩⟩, hS.F ht⟩) hS.2.2 d hlocks
theorem rg_ex2 {P : Int → rg_S → Prop} {r0 : Int} {σ0 : rg_S} (h : P r0 σ0) : ∀ (r : Int) (σ' : rg_S), (r = r0 ∧ σ' = σ0) → P r σ' := by
  rintro r σ' ⟨rfl, rfl⟩; exact h
theorem rg_ex1 {P : rg_S → Prop} {σ0 : rg_S} (h : P σ0) : ∀ (σ' : rg_S), σ' = σ0 → P σ' := by
  rintro σ' rfl; exact h
section RC
variable {κ : rg_K} {Γ : rg_C} {tb : List rg_Sh} {cc : ByteArray} {own : String} {nL fr lo pc : Nat} {lv : List (Nat × Value)} {st : List Value} {σ : rg_S}
theorem rg_WA_sub {κ : rg_K} {tb : List rg_Sh} {A : Nat → Prop} {H0 H : Heap} (hAi : ∀ i, i < tb.length → A (κ.2.2.2 i)) (hA : ∀ q, H0.size ≤ q → A q) (hz : H0.size ≤ H.size) : ∀ q, rg_WA κ tb H.size q → A q := by
  intro q h
  rcases h with ⟨k, hk, rfl⟩ | h
  · exact hAi k hk
  · exact hA q (Nat.le_trans hz h)
/-- the callee's part of a call: its name's words -/
abbrev rg_vm (y : MethodName) (c' : ByteArray) (n' : Nat) (ret' : Option FieldType) (np : Nat) : Prop :=
  Cond.code y c' n' ret' ∈ lw_gd ∧ Cond.initialized y.cls ∈ lw_gd ∧ (y.cls ≠ "java/lang/invoke/MethodHandle" ∧ y.cls ≠ "java/lang/invoke/VarHandle" ∧ (parseMethodDescriptor y.desc).map (fun d => d.parameters.length) = some np)
theorem rg_callVI (F : rg_F κ Γ tb cc own nL fr lo) {y : MethodName} {c' : ByteArray} {n' fr' lo' : Nat} {ret' : FieldType} (As rest : List Value) {post : Int → rg_S → Prop} (k0 : Nat) (hM : rg_CI κ tb y c' n' ret' fr' lo' (.ref (κ.2.2.2 k0) :: As) σ post)
    {ci idx N : Nat} {T : u_T} {fs : List (Option Nat)} (hs : tb[k0]? = some (.inr (ci, fs))) (hc : vwCl[ci]? = some (y.cls, T, N)) (hv : rg_vm y c' n' (some ret') As.length) (hi : Cond.instanceMethod y ∈ lw_gd ∧ Cond.selects y.cls y y ∈ lw_gd) (hml : Cond.methodLink own idx y ∈ lw_gd)
    (hR : fr' + 1 ≤ fr ∧ 8 + (n' + 11) + lo' ≤ lo) (hst : st = As.reverse ++ .ref (κ.2.2.2 k0) :: rest) (hroom : (rest.map fun v => v.category).sum ≤ 8) (d : decode cc pc = .ok (.invokevirtual idx, 3))
    (kk : ∀ (r : Int) (σ' : rg_S), post r σ' → rg_G κ Γ tb nL 0 0 (pc + 3) lv (.int (rg_I r) :: rest) σ') : rg_G κ Γ tb nL 0 0 pc lv st σ := by
  obtain ⟨p, e, R, s, m, args, below, meth, c, A, H0, Q⟩ := Γ
  obtain ⟨hx, hb, hmx, hown, hts, hK, hi0, hAi, hA, hfr, hlo, hlk, hnest, hH0, hX9⟩ := F
  subst hH0
  intro H locs ls hP hS h
  subst hst
  have cb := callB_of (R := R) (s := s) (args := args) (own := own) (index := idx) (rm := rg_rm fr' lo') (mc := 0) (ms := 0) As.length hts (rg_wsG hv.1) rfl rfl rfl (hts _ hv.2.1) (hts _ hml) hv.2.2 ⟨Nat.le_trans hR.1 hfr, Nat.le_trans hR.2 hlo⟩
  have hsub := rg_WA_sub hAi hA hS.1
  refine va_calli (va_runV (As := As) (rest := rest) (C := y.cls) ⟨hx, hb, hmx, hown, hts⟩ (hM H.size) ⟨cb, hts _ hi.1, hts _ hi.2⟩ ⟨rg_Wi_blind, va_recv hK hP hc (rg_wd_get σ hs), fun U hU hW => ⟨rfl, by rw [hU], ⟨by rw [hU]; exact hP, va_K.moved hW.alike hK⟩, hi0, rg_nest_warm hW hnest, rg_X_sub hX9 hW hS hU hsub⟩⟩ rfl rfl h.1 rfl (lv_room hroom) d ⟨Nat.zero_le _, Nat.zero_le _⟩) hS (fun q _ hq => hsub q hq) hsub (fun r u t H1 locs1 ht hvm hw hB hz1 hk1 hS1 => ?_)
  obtain ⟨rfl, hp⟩ := hw
  exact kk u.1 u.2 hp H1 locs1 ls (by rw [← ht]; exact hB.1) hS1 h
theorem rg_callVV (F : rg_F κ Γ tb cc own nL fr lo) {y : MethodName} {c' : ByteArray} {n' fr' lo' : Nat} (As rest : List Value) {post : rg_S → Prop} (k0 : Nat) (hM : rg_CV κ tb y c' n' fr' lo' (.ref (κ.2.2.2 k0) :: As) σ post)
    {ci idx N : Nat} {T : u_T} {fs : List (Option Nat)} (hs : tb[k0]? = some (.inr (ci, fs))) (hc : vwCl[ci]? = some (y.cls, T, N)) (hv : rg_vm y c' n' none As.length) (hi : Cond.instanceMethod y ∈ lw_gd ∧ Cond.selects y.cls y y ∈ lw_gd) (hml : Cond.methodLink own idx y ∈ lw_gd)
    (hR : fr' + 1 ≤ fr ∧ 8 + (n' + 11) + lo' ≤ lo) (hst : st = As.reverse ++ .ref (κ.2.2.2 k0) :: rest) (hroom : (rest.map fun v => v.category).sum ≤ 8) (d : decode cc pc = .ok (.invokevirtual idx, 3))
    (kk : ∀ (σ' : rg_S), post σ' → rg_G κ Γ tb nL 0 0 (pc + 3) lv rest σ') : rg_G κ Γ tb nL 0 0 pc lv st σ := by
  obtain ⟨p, e, R, s, m, args, below, meth, c, A, H0, Q⟩ := Γ
  obtain ⟨hx, hb, hmx, hown, hts, hK, hi0, hAi, hA, hfr, hlo, hlk, hnest, hH0, hX9⟩ := F
  subst hH0
  intro H locs ls hP hS h
  subst hst
  have cb := callB_of (R := R) (s := s) (args := args) (own := own) (index := idx) (rm := rg_rm fr' lo') (mc := 0) (ms := 0) As.length hts (rg_wsG hv.1) rfl rfl rfl (hts _ hv.2.1) (hts _ hml) hv.2.2 ⟨Nat.le_trans hR.1 hfr, Nat.le_trans hR.2 hlo⟩
  have hsub := rg_WA_sub hAi hA hS.1
  refine va_callv (va_runV (As := As) (rest := rest) (C := y.cls) ⟨hx, hb, hmx, hown, hts⟩ (hM H.size) ⟨cb, hts _ hi.1, hts _ hi.2⟩ ⟨rg_Wi_blind, va_recv hK hP hc (rg_wd_get σ hs), fun U hU hW => ⟨rfl, by rw [hU], ⟨by rw [hU]; exact hP, va_K.moved hW.alike hK⟩, hi0, rg_nest_warm hW hnest, rg_X_sub hX9 hW hS hU hsub⟩⟩ rfl rfl h.1 rfl (lv_room hroom) d ⟨Nat.zero_le _, Nat.zero_le _⟩) hS (fun q _ hq => hsub q hq) hsub (fun u t H1 locs1 ht hvm hw hB hz1 hk1 hS1 => ?_)
  exact kk u hw H1 locs1 ls (by rw [← ht]; exact hB.1) hS1 h
theorem rg_callSI (F : rg_F κ Γ tb cc own nL fr lo) {y : MethodName} {c' : ByteArray} {n' fr' lo' : Nat} {ret' : FieldType} (As rest : List Value) {post : Int → rg_S → Prop} (hM : rg_CI κ tb y c' n' ret' fr' lo' As σ post)
    {idx : Nat} (hv : rg_vm y c' n' (some ret') As.length) (hi : Cond.static y ∈ lw_gd) (hml : Cond.methodLink own idx y ∈ lw_gd)
    (hR : fr' + 1 ≤ fr ∧ 8 + (n' + 11) + lo' ≤ lo) (hst : st = As.reverse ++ rest) (hroom : (rest.map fun v => v.category).sum ≤ 8) (d : decode cc pc = .ok (.invokestatic idx, 3))
    (kk : ∀ (r : Int) (σ' : rg_S), post r σ' → rg_G κ Γ tb nL 0 0 (pc + 3) lv (.int (rg_I r) :: rest) σ') : rg_G κ Γ tb nL 0 0 pc lv st σ := by
  obtain ⟨p, e, R, s, m, args, below, meth, c, A, H0, Q⟩ := Γ
  obtain ⟨hx, hb, hmx, hown, hts, hK, hi0, hAi, hA, hfr, hlo, hlk, hnest, hH0, hX9⟩ := F
  subst hH0
  intro H locs ls hP hS h
  subst hst
  have cb := callB_of (R := R) (s := s) (args := args) (own := own) (index := idx) (rm := rg_rm fr' lo') (mc := 0) (ms := 0) As.length hts (rg_wsG hv.1) rfl rfl rfl (hts _ hv.2.1) (hts _ hml) hv.2.2 ⟨Nat.le_trans hR.1 hfr, Nat.le_trans hR.2 hlo⟩
  have hsub := rg_WA_sub hAi hA hS.1
  refine va_calli (va_runS (As := As) (rest := rest) ⟨hx, hb, hmx, hown, hts⟩ (hM H.size) ⟨cb, hts _ hi⟩ ⟨rg_Wi_blind, fun U hU hW => ⟨rfl, by rw [hU], ⟨by rw [hU]; exact hP, va_K.moved hW.alike hK⟩, hi0, rg_nest_warm hW hnest, rg_X_sub hX9 hW hS hU hsub⟩⟩ rfl rfl h.1 rfl (lv_room hroom) d ⟨Nat.zero_le _, Nat.zero_le _⟩) hS (fun q _ hq => hsub q hq) hsub (fun r u t H1 locs1 ht hvm hw hB hz1 hk1 hS1 => ?_)
  obtain ⟨rfl, hp⟩ := hw
  exact kk u.1 u.2 hp H1 locs1 ls (by rw [← ht]; exact hB.1) hS1 h
theorem rg_callSV (F : rg_F κ Γ tb cc own nL fr lo) {y : MethodName} {c' : ByteArray} {n' fr' lo' : Nat} (As rest : List Value) {post : rg_S → Prop} (hM : rg_CV κ tb y c' n' fr' lo' As σ post)
    {idx : Nat} (hv : rg_vm y c' n' none As.length) (hi : Cond.static y ∈ lw_gd) (hml : Cond.methodLink own idx y ∈ lw_gd)
    (hR : fr' + 1 ≤ fr ∧ 8 + (n' + 11) + lo' ≤ lo) (hst : st = As.reverse ++ rest) (hroom : (rest.map fun v => v.category).sum ≤ 8) (d : decode cc pc = .ok (.invokestatic idx, 3))
    (kk : ∀ (σ' : rg_S), post σ' → rg_G κ Γ tb nL 0 0 (pc + 3) lv rest σ') : rg_G κ Γ tb nL 0 0 pc lv st σ := by
  obtain ⟨p, e, R, s, m, args, below, meth, c, A, H0, Q⟩ := Γ
  obtain ⟨hx, hb, hmx, hown, hts, hK, hi0, hAi, hA, hfr, hlo, hlk, hnest, hH0, hX9⟩ := F
  subst hH0
  intro H locs ls hP hS h
  subst hst
  have cb := callB_of (R := R) (s := s) (args := args) (own := own) (index := idx) (rm := rg_rm fr' lo') (mc := 0) (ms := 0) As.length hts (rg_wsG hv.1) rfl rfl rfl (hts _ hv.2.1) (hts _ hml) hv.2.2 ⟨Nat.le_trans hR.1 hfr, Nat.le_trans hR.2 hlo⟩
  have hsub := rg_WA_sub hAi hA hS.1
  refine va_callv (va_runS (As := As) (rest := rest) ⟨hx, hb, hmx, hown, hts⟩ (hM H.size) ⟨cb, hts _ hi⟩ ⟨rg_Wi_blind, fun U hU hW => ⟨rfl, by rw [hU], ⟨by rw [hU]; exact hP, va_K.moved hW.alike hK⟩, hi0, rg_nest_warm hW hnest, rg_X_sub hX9 hW hS hU hsub⟩⟩ rfl rfl h.1 rfl (lv_room hroom) d ⟨Nat.zero_le _, Nat.zero_le _⟩) hS (fun q _ hq => hsub q hq) hsub (fun u t H1 locs1 ht hvm hw hB hz1 hk1 hS1 => ?_)
  exact kk u hw H1 locs1 ls (by rw [← ht]; exact hB.1) hS1 h
/-- a static method of a nest mate -/
theorem rg_callNI (F : rg_F κ Γ tb cc own nL fr lo) {y : MethodName} {c' : ByteArray} {n' fr' lo' : Nat} {ret' : FieldType} {host : String} (As rest : List Value) {post : Int → rg_S → Prop} (hM : rg_CI κ tb y c' n' ret' fr' lo' As σ post)
    {idx : Nat} (hv : rg_vm y c' n' (some ret') As.length) (hi : Cond.static y ∈ lw_gd) (hml : Cond.methodLinkNest own idx y host ∈ lw_nest)
    (hR : fr' + 1 ≤ fr ∧ 8 + (n' + 11) + lo' ≤ lo) (hst : st = As.reverse ++ rest) (hroom : (rest.map fun v => v.category).sum ≤ 8) (d : decode cc pc = .ok (.invokestatic idx, 3))
    (kk : ∀ (r : Int) (σ' : rg_S), post r σ' → rg_G κ Γ tb nL 0 0 (pc + 3) lv (.int (rg_I r) :: rest) σ') : rg_G κ Γ tb nL 0 0 pc lv st σ := by
  obtain ⟨p, e, R, s, m, args, below, meth, c, A, H0, Q⟩ := Γ
  obtain ⟨hx, hb, hmx, hown, hts, hK, hi0, hAi, hA, hfr, hlo, hlk, hnest, hH0, hX9⟩ := F
  subst hH0
  intro H locs ls hP hS h
  subst hst
  have cb := va_cnB (R := R) (s := s) (args := args) (own := own) (index := idx) (host := host) (rm := rg_rm fr' lo') (mc := 0) (ms := 0) As.length hts (rg_wsG hv.1) rfl rfl rfl (hnest _ hml) (hts _ hv.2.1) hv.2.2 ⟨Nat.le_trans hR.1 hfr, Nat.le_trans hR.2 hlo⟩
  have hsub := rg_WA_sub hAi hA hS.1
  refine va_calli (va_runSN (As := As) (rest := rest) ⟨hx, hb, hmx, hown, hts⟩ (hM H.size) ⟨cb, hts _ hi, trivial⟩ ⟨rg_Wi_blind, fun U hU hW => ⟨rfl, by rw [hU], ⟨by rw [hU]; exact hP, va_K.moved hW.alike hK⟩, hi0, rg_nest_warm hW hnest, rg_X_sub hX9 hW hS hU hsub⟩⟩ rfl rfl h.1 rfl (lv_room hroom) d ⟨Nat.zero_le _, Nat.zero_le _⟩) hS (fun q _ hq => hsub q hq) hsub (fun r u t H1 locs1 ht hvm hw hB hz1 hk1 hS1 => ?_)
  obtain ⟨rfl, hp⟩ := hw
  exact kk u.1 u.2 hp H1 locs1 ls (by rw [← ht]; exact hB.1) hS1 h
theorem rg_tableIn (F : rg_F κ Γ tb cc own nL fr lo) {dflt lo9 hi9 off x : Int} {offs : Array Int} {len : Nat} {rest : List Value} (tgt : Nat) (d : decode cc pc = .ok (.tableswitch dflt lo9 hi9 offs, len)) (hr : rg_Rg x) (h1 : ¬ x < lo9) (h2 : ¬ hi9 < x) (ho : offs[(x - lo9).toNat]? = some off) (ht : (pc : Int) + off = (tgt : Int))
    (kk : rg_G κ Γ tb nL 0 0 tgt lv rest σ) : rg_G κ Γ tb nL 0 0 pc lv (.int (rg_I x) :: rest) σ := by
  obtain ⟨p, e, R, s, m, args, below, meth, c, A, H0, Q⟩ := Γ
  obtain ⟨hx, hb, -⟩ := F
  intro H locs ls hP hS h
  exact lv_tableIn hx hb d (by rw [rg_I_toInt hr]; exact h1) (by rw [rg_I_toInt hr]; exact h2) (by rw [rg_I_toInt hr]; exact ho) ht (kk H locs ls hP hS h)
theorem rg_tableOut (F : rg_F κ Γ tb cc own nL fr lo) {dflt lo9 hi9 x : Int} {offs : Array Int} {len : Nat} {rest : List Value} (tgt : Nat) (d : decode cc pc = .ok (.tableswitch dflt lo9 hi9 offs, len)) (hr : rg_Rg x) (h1 : x < lo9 ∨ hi9 < x) (ht : (pc : Int) + dflt = (tgt : Int))
    (kk : rg_G κ Γ tb nL 0 0 tgt lv rest σ) : rg_G κ Γ tb nL 0 0 pc lv (.int (rg_I x) :: rest) σ := by
  obtain ⟨p, e, R, s, m, args, below, meth, c, A, H0, Q⟩ := Γ
  obtain ⟨hx, hb, -⟩ := F
  intro H locs ls hP hS h
  exact lv_tableOut hx hb d (by rw [rg_I_toInt hr]; exact h1) ht (kk H locs ls hP hS h)
theorem rg_lookup (F : rg_F κ Γ tb cc own nL fr lo) {dflt off x : Int} {ps : Array (Int × Int)} {len : Nat} {rest : List Value} (tgt : Nat) (d : decode cc pc = .ok (.lookupswitch dflt ps, len)) (hr : rg_Rg x) (hp : (ps.toList.zip (ps.toList.drop 1)).all (fun (a, next) => a.1 < next.1) = true) (ho : Op.lookupswitch.offset ps.toList dflt x = off) (ht : (pc : Int) + off = (tgt : Int))
    (kk : rg_G κ Γ tb nL 0 0 tgt lv rest σ) : rg_G κ Γ tb nL 0 0 pc lv (.int (rg_I x) :: rest) σ := by
  obtain ⟨p, e, R, s, m, args, below, meth, c, A, H0, Q⟩ := Γ
  obtain ⟨hx, hb, -⟩ := F
  intro H locs ls hP hS h
  exact lv_lookup hx hb d hp (by rw [rg_I_toInt hr]; exact ho) ht (kk H locs ls hP hS h)
theorem rg_min (F : rg_F κ Γ tb cc own nL fr lo) {a b : Int} {idx : Nat} {rest : List Value} (hl : Cond.methodLink own idx Lib.Math.min.name ∈ lw_gd) (h1 : Cond.static Lib.Math.min.name ∈ lw_gd) (h2 : Cond.initialized "java/lang/Math" ∈ lw_gd) (h3 : Cond.code Lib.Math.min.name Lib.Math.min.code 2 (some .int) ∈ lw_gd) (hR : 1 ≤ fr ∧ (rest.map fun v => v.category).sum + 13 ≤ lo) (ha : rg_Rg a) (hb2 : rg_Rg b) (d : decode cc pc = .ok (.invokestatic idx, 3))
    (kk : rg_G κ Γ tb nL 0 0 (pc + 3) lv (.int (rg_I (if b < a then b else a)) :: rest) σ) : rg_G κ Γ tb nL 0 0 pc lv (.int (rg_I b) :: .int (rg_I a) :: rest) σ := by
  obtain ⟨p, e, R, s, m, args, below, meth, c, A, H0, Q⟩ := Γ
  obtain ⟨hx, hb, hmx, hown, hts, hK, hi0, hAi, hA, hfr, hlo, hlk, hnest, hH0, hX9⟩ := F
  subst hH0
  intro H locs ls hP hS h
  refine va_mmin hx hb (hmx.trans h.1.symm) hown (hts _ hl) (hts _ h1) (hts _ h2) (hts _ h3) (Nat.le_trans hR.1 hfr) (Nat.le_trans hR.2 hlo) (Nat.zero_le _) (Nat.zero_le _) d ?_
  have e9 : (if rg_I b < rg_I a then rg_I b else rg_I a) = rg_I (if b < a then b else a) := by
    by_cases z : b < a
    · rw [if_pos z, if_pos ((rg_I_lt hb2 ha).mpr z)]
    · rw [if_neg z, if_neg (fun y => z ((rg_I_lt hb2 ha).mp y))]
  rw [e9]
  exact kk H locs ls hP hS h
theorem rg_copy (F : rg_F κ Γ tb cc own nL fr lo) {idx n : Nat} {rest : List Value} (k0 k1 : Nat) (hs0 : tb[k0]? = some (.inl (1, n))) (hs1 : tb[k1]? = some (.inl (1, n))) (hn : n < 2 ^ 31) (hl : Cond.methodLink own idx arraycopyName ∈ lw_gd) (h1 : Cond.native arraycopyName ∈ lw_gd) (h2 : Cond.static arraycopyName ∈ lw_gd) (h3 : Cond.initialized "java/lang/System" ∈ lw_gd)
    (hR : 1 ≤ fr ∧ (rest.map fun v => v.category).sum + (nativeFrameWords "java/lang/System" "arraycopy" 5 + 11) ≤ lo) (d : decode cc pc = .ok (.invokestatic idx, 3))
    (kk : rg_G κ Γ tb nL 0 0 (pc + 3) lv rest (rg_wr σ k1 (fun j => if j < n then σ k0 j else σ k1 j))) : rg_G κ Γ tb nL 0 0 pc lv (.int (rg_I (n : Int)) :: .int (rg_I 0) :: .ref (κ.2.2.2 k1) :: .int (rg_I 0) :: .ref (κ.2.2.2 k0) :: rest) σ := by
  obtain ⟨p, e, R, s, m, args, below, meth, c, A, H0, Q⟩ := Γ
  obtain ⟨hx, hb, hmx, hown, hts, hK, hi0, hAi, hA, hfr, hlo, hlk, hnest, hH0, hX9⟩ := F
  subst hH0
  intro H locs ls hP hS h
  have z0 : (rg_I 0).toNatClampNeg = 0 := by decide +kernel
  have zn : (rg_I (n : Int)).toNatClampNeg = n := rg_I_clamp hn
  have zlt : ¬ rg_I 0 < 0 := by decide +kernel
  have znl : ¬ rg_I (n : Int) < 0 := by
    rw [← rg_I_0, rg_I_lt ⟨by omega, by omega⟩ rg_R0]; omega
  refine va_copyi (ty := .int) hx hb (hmx.trans h.1.symm) hown (hts _ hl) (hts _ h1) (hts _ h2) (hts _ h3) hK hP (rg_wd_D hi0 hAi σ) hS k0 k1 1 1 (rg_wd_get σ hs0) (rg_wd_get σ hs1) rfl rfl rfl zlt zlt znl (by rw [z0, zn]; omega) (by rw [z0, zn]; omega) (fun i _ => rfl) (Nat.le_trans hR.1 hfr) (Nat.le_trans hR.2 hlo) d (fun H1 locs1 hP1 _ hS1 => ?_)
  rw [z0, zn] at hP1
  have e9 : va_cpy (fun j => rg_I (σ k0 j)) (fun j => rg_I (σ k1 j)) 0 0 n = fun j => rg_I ((fun j => if j < n then σ k0 j else σ k1 j) j) := by
    funext j
    unfold va_cpy
    by_cases z : j < n
    · rw [if_pos ⟨Nat.zero_le _, by omega⟩]
      simp [z]
    · rw [if_neg (by omega)]
      simp [z]
  rw [e9] at hP1
  have e1 := rg_wd_set (κ := κ) σ hs1 (fun j => if j < n then σ k0 j else σ k1 j)
  simp only [rg_el] at e1
  rw [e1] at hP1
  exact kk H1 locs1 ls hP1 hS1 h
end RC
