/-! Calls where the world called stands first. -/
section RHC
variable {κ : rg_K} {Γ : rg_C} {cc : ByteArray} {own : String} {nL fr lo cm sm cells slots pc : Nat} {lv : List (Nat × Value)} {st : List Value} {w2 : va_W} {tb : List rg_Sh} {P : Nat → Prop} {τ τ' : rg_S}
theorem rg_HcallI (F : rg_FJ κ Γ cc own nL fr lo cm sm) (G : rg_FW κ Γ tb P) (hos : ∀ q ∈ w2, P q.1) (hcs : cells ≤ cm ∧ slots ≤ sm) {y : MethodName} {c' : ByteArray} {n' fr' lo' : Nat} {ret' : FieldType} (As rest : List Value) {post : Int → rg_S → Prop} (k0 : Nat) (hM : rg_CI κ tb y c' n' ret' fr' lo' (.ref (κ.2.2.2 k0) :: As) τ post)
    {ci idx N : Nat} {T : u_T} {fs : List (Option Nat)} (hs : tb[k0]? = some (.inr (ci, fs))) (hc : vwCl[ci]? = some (y.cls, T, N)) (hv : rg_vm y c' n' (some ret') As.length) (hi : Cond.instanceMethod y ∈ lw_gd ∧ Cond.selects y.cls y y ∈ lw_gd) (hml : Cond.methodLink own idx y ∈ lw_gd)
    (hR : fr' + 1 ≤ fr ∧ 8 + (n' + 11) + lo' ≤ lo) (hst : st = As.reverse ++ .ref (κ.2.2.2 k0) :: rest) (hroom : (rest.map fun v => v.category).sum ≤ 8) (d : decode cc pc = .ok (.invokevirtual idx, 3))
    (kk : ∀ (r : Int) (τ' : rg_S), post r τ' → rg_J κ Γ nL cells slots (pc + 3) lv (.int (rg_I r) :: rest) (rg_wd κ tb τ' ++ w2)) : rg_J κ Γ nL cells slots pc lv st (rg_wd κ tb τ ++ w2) := by
  have h := rg_JcallI (w1 := []) (ad := κ.2.2.2) (w2 := w2) F G (by rw [List.nil_append]; exact hos) hcs As rest k0 hM hs hc hv hi hml hR hst hroom d (by intro r τ' hp; rw [List.nil_append]; exact kk r τ' hp)
  rw [List.nil_append] at h
  exact h
theorem rg_HcallV (F : rg_FJ κ Γ cc own nL fr lo cm sm) (G : rg_FW κ Γ tb P) (hos : ∀ q ∈ w2, P q.1) (hcs : cells ≤ cm ∧ slots ≤ sm) {y : MethodName} {c' : ByteArray} {n' fr' lo' : Nat} (As rest : List Value) {post : rg_S → Prop} (k0 : Nat) (hM : rg_CV κ tb y c' n' fr' lo' (.ref (κ.2.2.2 k0) :: As) τ post)
    {ci idx N : Nat} {T : u_T} {fs : List (Option Nat)} (hs : tb[k0]? = some (.inr (ci, fs))) (hc : vwCl[ci]? = some (y.cls, T, N)) (hv : rg_vm y c' n' none As.length) (hi : Cond.instanceMethod y ∈ lw_gd ∧ Cond.selects y.cls y y ∈ lw_gd) (hml : Cond.methodLink own idx y ∈ lw_gd)
    (hR : fr' + 1 ≤ fr ∧ 8 + (n' + 11) + lo' ≤ lo) (hst : st = As.reverse ++ .ref (κ.2.2.2 k0) :: rest) (hroom : (rest.map fun v => v.category).sum ≤ 8) (d : decode cc pc = .ok (.invokevirtual idx, 3))
    (kk : ∀ (τ' : rg_S), post τ' → rg_J κ Γ nL cells slots (pc + 3) lv rest (rg_wd κ tb τ' ++ w2)) : rg_J κ Γ nL cells slots pc lv st (rg_wd κ tb τ ++ w2) := by
  have h := rg_JcallV (w1 := []) (ad := κ.2.2.2) (w2 := w2) F G (by rw [List.nil_append]; exact hos) hcs As rest k0 hM hs hc hv hi hml hR hst hroom d (by intro τ' hp; rw [List.nil_append]; exact kk τ' hp)
  rw [List.nil_append] at h
  exact h
theorem rg_HcallD (F : rg_FJ κ Γ cc own nL fr lo cm sm) (G : rg_FW κ Γ tb P) (hos : ∀ q ∈ w2, P q.1) (hcs : cells ≤ cm ∧ slots ≤ sm) {y : MethodName} {c' : ByteArray} {n' fr' lo' : Nat} (As rest : List Value) {post : UInt64 → rg_S → Prop} (k0 : Nat) (hM : rg_CD κ tb y c' n' fr' lo' (.ref (κ.2.2.2 k0) :: As) τ post)
    {ci idx N : Nat} {T : u_T} {fs : List (Option Nat)} (hs : tb[k0]? = some (.inr (ci, fs))) (hc : vwCl[ci]? = some (y.cls, T, N)) (hv : rg_vm y c' n' (some .double) As.length) (hi : Cond.instanceMethod y ∈ lw_gd ∧ Cond.selects y.cls y y ∈ lw_gd) (hml : Cond.methodLink own idx y ∈ lw_gd)
    (hR : fr' + 1 ≤ fr ∧ 8 + (n' + 11) + lo' ≤ lo) (hst : st = As.reverse ++ .ref (κ.2.2.2 k0) :: rest) (hroom : (rest.map fun v => v.category).sum ≤ 8) (d : decode cc pc = .ok (.invokevirtual idx, 3))
    (kk : ∀ (r : UInt64) (τ' : rg_S), post r τ' → rg_J κ Γ nL cells slots (pc + 3) lv (.double r :: rest) (rg_wd κ tb τ' ++ w2)) : rg_J κ Γ nL cells slots pc lv st (rg_wd κ tb τ ++ w2) := by
  have h := rg_JcallD (w1 := []) (ad := κ.2.2.2) (w2 := w2) F G (by rw [List.nil_append]; exact hos) hcs As rest k0 hM hs hc hv hi hml hR hst hroom d (by intro r τ' hp; rw [List.nil_append]; exact kk r τ' hp)
  rw [List.nil_append] at h
  exact h
theorem rg_HcallX (F : rg_FJ κ Γ cc own nL fr lo cm sm) (G : rg_FW κ Γ tb P) (hos : ∀ q ∈ w2, P q.1) (hcs : cells + 1 ≤ cm ∧ slots + 6 ≤ sm) {y : MethodName} {c' : ByteArray} {n' fr' lo' : Nat} {ret' : Option FieldType} {E : String} (As rest : List Value) (k0 : Nat) (hM : rg_TX κ tb y c' n' ret' fr' lo' (.ref (κ.2.2.2 k0) :: As) τ τ' E)
    {ci idx N : Nat} {T : u_T} {fs : List (Option Nat)} (hs : tb[k0]? = some (.inr (ci, fs))) (hc : vwCl[ci]? = some (y.cls, T, N)) (hv : rg_vm y c' n' ret' As.length) (hi : Cond.instanceMethod y ∈ lw_gd ∧ Cond.selects y.cls y y ∈ lw_gd) (hml : Cond.methodLink own idx y ∈ lw_gd)
    (hR : fr' + 1 ≤ fr ∧ 8 + (n' + 11) + lo' ≤ lo) (hst : st = As.reverse ++ .ref (κ.2.2.2 k0) :: rest) (hroom : (rest.map fun v => v.category).sum ≤ 8) (d : decode cc pc = .ok (.invokevirtual idx, 3))
    (pre : List ExceptionTableEntry) (x : ExceptionTableEntry) (suf : List ExceptionTableEntry) (t1 : Γ.2.2.2.2.2.2.2.2.1.exceptionTable.toList = pre ++ x :: suf) (t2 : ∀ z ∈ pre, covers z pc = false ∨ (z.catchType ≠ 0 ∧ ∃ nm : String, Cond.classLink own z.catchType nm ∈ lw_gd ∧ va_Nc E nm Γ.2.2.2.1)) (t3 : covers x pc = true) (t4 : x.catchType ≠ 0) (t5 : Cond.classLink own x.catchType E ∈ lw_gd) (t6 : Cond.castable E E ∈ lw_exw)
    (kk : ∀ q9 : Nat, rg_J κ Γ nL (cells + 1) (slots + 6) x.handlerPc lv [.ref q9] (rg_wd κ tb τ' ++ w2)) : rg_J κ Γ nL cells slots pc lv st (rg_wd κ tb τ ++ w2) := by
  have h := rg_JcallX (w1 := []) (ad := κ.2.2.2) (w2 := w2) F G (by rw [List.nil_append]; exact hos) hcs As rest k0 hM hs hc hv hi hml hR hst hroom d ⟨pre, x, suf, t1, t2, t3, t4, t5, t6, by intro q9; rw [List.nil_append]; exact kk q9⟩
  rw [List.nil_append] at h
  exact h
end RHC
