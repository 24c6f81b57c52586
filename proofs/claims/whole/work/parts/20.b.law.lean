/-! The law: both sides' worlds and the cells of the answers, beside each other. -/
abbrev rg_kk (κ : rg_K) (adM : Nat → Nat) : rg_K := (κ.1, κ.2.1, κ.2.2.1, adM)
def rg_gw (κ : rg_K) (adM : Nat → Nat) (tb tb' : List rg_Sh) (co : ClassId × ClassId) (σ τ : rg_S) (o : Nat) (f : Nat → Int64) (od : Nat) (g : Nat → UInt64) : va_W := rg_wd κ tb σ ++ (rg_wd (κ.1, κ.2.1, κ.2.2.1, adM) tb' τ ++ [rg_eL co o f, rg_eD co od g])
def rg_FG (κ : rg_K) (adM : Nat → Nat) (co : ClassId × ClassId) (Γ : rg_C) (tb tb' : List rg_Sh) (o od b L : Nat) (xs : Nat → Int32) : Prop :=
  rg_FJ κ Γ code RL 9 13 480 1122 42737 ∧ rg_FW κ Γ tb (fun q => (∃ i, i < tb'.length ∧ q = adM i) ∨ q = o ∨ q = od) ∧ rg_FW (κ.1, κ.2.1, κ.2.2.1, adM) Γ tb' (fun q => (∃ i, i < tb.length ∧ q = κ.2.2.2 i) ∨ q = o ∨ q = od) ∧ va_K κ.2.1 vwCl (rg_tyo co) Γ.2.2.2.1 ∧ (∀ z ∈ lw_ncp, va_Nc z.1 z.2 Γ.2.2.2.1) ∧ Γ.2.2.2.2.2.2.2.2.2.1 o ∧ Γ.2.2.2.2.2.2.2.2.2.1 od ∧ ¬ o = od ∧ rg_scr Γ b L xs
theorem rg_own {κ : rg_K} {tb : List rg_Sh} {σ : rg_S} : ∀ q ∈ rg_wd κ tb σ, ∃ i, i < tb.length ∧ q.1 = κ.2.2.2 i := fun q hq => by
  obtain ⟨k, hk⟩ := List.mem_iff_getElem?.mp hq
  exact ⟨k, rg_wd_addr hk⟩
theorem rg_FW_dis {κ : rg_K} {Γ : rg_C} {tb : List rg_Sh} {P : Nat → Prop} (h : rg_FW κ Γ tb P) : ∀ i, i < tb.length → ¬ P (κ.2.2.2 i) := by
  obtain ⟨p, e, R, s, m, args, below, meth, c, A, H0, Q⟩ := Γ
  exact h.2.2.2
section RLG
variable {κ : rg_K} {adM : Nat → Nat} {co : ClassId × ClassId} {Γ : rg_C} {tb tb' : List rg_Sh} {o od b L : Nat} {xs : Nat → Int32} {cells slots pc : Nat} {lv : List (Nat × Value)} {st : List Value} {σ τ σ9 τ9 : rg_S} {f : Nat → Int64} {g : Nat → UInt64} {w : va_W}
theorem rg_FG_wM (F : rg_FG κ adM co Γ tb tb' o od b L xs) : ∀ q ∈ rg_wd (κ.1, κ.2.1, κ.2.2.1, adM) tb' τ ++ [rg_eL co o f, rg_eD co od g], (∃ i, i < tb'.length ∧ q.1 = adM i) ∨ q.1 = o ∨ q.1 = od := fun q hq => by
  rcases List.mem_append.mp hq with z | z
  · exact Or.inl (rg_own q z)
  · simp only [List.mem_cons, List.not_mem_nil, or_false] at z
    rcases z with rfl | rfl
    · exact Or.inr (Or.inl rfl)
    · exact Or.inr (Or.inr rfl)
theorem rg_FG_wC (F : rg_FG κ adM co Γ tb tb' o od b L xs) : ∀ q ∈ rg_wd κ tb σ ++ [rg_eL co o f, rg_eD co od g], (∃ i, i < tb.length ∧ q.1 = κ.2.2.2 i) ∨ q.1 = o ∨ q.1 = od := fun q hq => by
  rcases List.mem_append.mp hq with z | z
  · exact Or.inl (rg_own q z)
  · simp only [List.mem_cons, List.not_mem_nil, or_false] at z
    rcases z with rfl | rfl
    · exact Or.inr (Or.inl rfl)
    · exact Or.inr (Or.inr rfl)
theorem rg_LmI (F : rg_FG κ adM co Γ tb tb' o od b L xs) (hcs : cells ≤ 1122 ∧ slots ≤ 42737) {y : MethodName} {c' : ByteArray} {n' fr' lo' : Nat} {ret' : FieldType} (As rest : List Value) {post : Int → rg_S → Prop} (k0 : Nat) (hM : rg_CI (κ.1, κ.2.1, κ.2.2.1, adM) tb' y c' n' ret' fr' lo' (.ref (adM k0) :: As) τ post)
    {ci idx N : Nat} {T : u_T} {fs : List (Option Nat)} (hs : tb'[k0]? = some (.inr (ci, fs))) (hc : vwCl[ci]? = some (y.cls, T, N)) (hv : rg_vm y c' n' (some ret') As.length) (hi : Cond.instanceMethod y ∈ lw_gd ∧ Cond.selects y.cls y y ∈ lw_gd) (hml : Cond.methodLink RL idx y ∈ lw_gd)
    (hR : fr' + 1 ≤ 13 ∧ 8 + (n' + 11) + lo' ≤ 480) (hst : st = As.reverse ++ .ref (adM k0) :: rest) (hroom : (rest.map fun v => v.category).sum ≤ 8) (d : decode code pc = .ok (.invokevirtual idx, 3))
    (kk : ∀ (r : Int) (τ' : rg_S), post r τ' → rg_J κ Γ 9 cells slots (pc + 3) lv (.int (rg_I r) :: rest) (rg_gw κ adM tb tb' co σ τ' o f od g)) : rg_J κ Γ 9 cells slots pc lv st (rg_gw κ adM tb tb' co σ τ o f od g) :=
  rg_JcallI F.1 F.2.2.1 (rg_FG_wC F) hcs As rest k0 hM hs hc hv hi hml hR hst hroom d kk
theorem rg_LmV (F : rg_FG κ adM co Γ tb tb' o od b L xs) (hcs : cells ≤ 1122 ∧ slots ≤ 42737) {y : MethodName} {c' : ByteArray} {n' fr' lo' : Nat} (As rest : List Value) {post : rg_S → Prop} (k0 : Nat) (hM : rg_CV (κ.1, κ.2.1, κ.2.2.1, adM) tb' y c' n' fr' lo' (.ref (adM k0) :: As) τ post)
    {ci idx N : Nat} {T : u_T} {fs : List (Option Nat)} (hs : tb'[k0]? = some (.inr (ci, fs))) (hc : vwCl[ci]? = some (y.cls, T, N)) (hv : rg_vm y c' n' none As.length) (hi : Cond.instanceMethod y ∈ lw_gd ∧ Cond.selects y.cls y y ∈ lw_gd) (hml : Cond.methodLink RL idx y ∈ lw_gd)
    (hR : fr' + 1 ≤ 13 ∧ 8 + (n' + 11) + lo' ≤ 480) (hst : st = As.reverse ++ .ref (adM k0) :: rest) (hroom : (rest.map fun v => v.category).sum ≤ 8) (d : decode code pc = .ok (.invokevirtual idx, 3))
    (kk : ∀ (τ' : rg_S), post τ' → rg_J κ Γ 9 cells slots (pc + 3) lv rest (rg_gw κ adM tb tb' co σ τ' o f od g)) : rg_J κ Γ 9 cells slots pc lv st (rg_gw κ adM tb tb' co σ τ o f od g) :=
  rg_JcallV F.1 F.2.2.1 (rg_FG_wC F) hcs As rest k0 hM hs hc hv hi hml hR hst hroom d kk
theorem rg_LmD (F : rg_FG κ adM co Γ tb tb' o od b L xs) (hcs : cells ≤ 1122 ∧ slots ≤ 42737) {y : MethodName} {c' : ByteArray} {n' fr' lo' : Nat} (As rest : List Value) {post : UInt64 → rg_S → Prop} (k0 : Nat) (hM : rg_CD (κ.1, κ.2.1, κ.2.2.1, adM) tb' y c' n' fr' lo' (.ref (adM k0) :: As) τ post)
    {ci idx N : Nat} {T : u_T} {fs : List (Option Nat)} (hs : tb'[k0]? = some (.inr (ci, fs))) (hc : vwCl[ci]? = some (y.cls, T, N)) (hv : rg_vm y c' n' (some .double) As.length) (hi : Cond.instanceMethod y ∈ lw_gd ∧ Cond.selects y.cls y y ∈ lw_gd) (hml : Cond.methodLink RL idx y ∈ lw_gd)
    (hR : fr' + 1 ≤ 13 ∧ 8 + (n' + 11) + lo' ≤ 480) (hst : st = As.reverse ++ .ref (adM k0) :: rest) (hroom : (rest.map fun v => v.category).sum ≤ 8) (d : decode code pc = .ok (.invokevirtual idx, 3))
    (kk : ∀ (r : UInt64) (τ' : rg_S), post r τ' → rg_J κ Γ 9 cells slots (pc + 3) lv (.double r :: rest) (rg_gw κ adM tb tb' co σ τ' o f od g)) : rg_J κ Γ 9 cells slots pc lv st (rg_gw κ adM tb tb' co σ τ o f od g) :=
  rg_JcallD F.1 F.2.2.1 (rg_FG_wC F) hcs As rest k0 hM hs hc hv hi hml hR hst hroom d kk
/-- the class's own, called by the law (its sheet) -/
theorem rg_LcI (F : rg_FG κ adM co Γ tb tb' o od b L xs) (hcs : cells ≤ 1122 ∧ slots ≤ 42737) {y : MethodName} {c' : ByteArray} {n' fr' lo' : Nat} {ret' : FieldType} (As rest : List Value) {post : Int → rg_S → Prop} (k0 : Nat) (hM : rg_CI κ tb y c' n' ret' fr' lo' (.ref (κ.2.2.2 k0) :: As) σ post)
    {ci idx N : Nat} {T : u_T} {fs : List (Option Nat)} (hs : tb[k0]? = some (.inr (ci, fs))) (hc : vwCl[ci]? = some (y.cls, T, N)) (hv : rg_vm y c' n' (some ret') As.length) (hi : Cond.instanceMethod y ∈ lw_gd ∧ Cond.selects y.cls y y ∈ lw_gd) (hml : Cond.methodLink RL idx y ∈ lw_gd)
    (hR : fr' + 1 ≤ 13 ∧ 8 + (n' + 11) + lo' ≤ 480) (hst : st = As.reverse ++ .ref (κ.2.2.2 k0) :: rest) (hroom : (rest.map fun v => v.category).sum ≤ 8) (d : decode code pc = .ok (.invokevirtual idx, 3))
    (kk : ∀ (r : Int) (σ' : rg_S), post r σ' → rg_J κ Γ 9 cells slots (pc + 3) lv (.int (rg_I r) :: rest) (rg_gw κ adM tb tb' co σ' τ o f od g)) : rg_J κ Γ 9 cells slots pc lv st (rg_gw κ adM tb tb' co σ τ o f od g) :=
  rg_HcallI F.1 F.2.1 (rg_FG_wM F) hcs As rest k0 hM hs hc hv hi hml hR hst hroom d kk
/-- a helper with a long's cell -/
theorem rg_LhL (F : rg_FG κ adM co Γ rg_tC tb' o od b L xs) (hcs : cells + 1 ≤ 1122 ∧ slots + 6 ≤ 42737) {y : MethodName} {c' : ByteArray} {n' : Nat} {hh : List (Nat × Nat × Nat × Nat)} (ha rest : List Value) {K : Int} {v : Int64} (hq : ∀ (o : Nat) (f : Nat → Int64), rg_HC κ co y c' n' hh (ha ++ [.ref o]) σ [o] [rg_eL co o f] (fun k s ws => k = K ∧ s = σ9 ∧ ∃ f9, ws = [rg_eL co o f9] ∧ (K = 0 → f9 0 = v)))
    {idx : Nat} (hcw : Cond.codeWith y c' n' (some .int) hh ∈ lw_gd) (hin : Cond.initialized y.cls ∈ lw_gd) (hst9 : Cond.static y ∈ lw_gd) (hml : Cond.methodLink RL idx y ∈ lw_gd) (hd : y.cls ≠ "java/lang/invoke/MethodHandle" ∧ y.cls ≠ "java/lang/invoke/VarHandle" ∧ (parseMethodDescriptor y.desc).map (fun d => d.parameters.length) = some (ha ++ [Value.ref o]).length)
    (hR : 8 + (n' + 11) + 200 ≤ 480) (hst : st = (ha ++ [Value.ref o]).reverse ++ rest) (hroom : (rest.map fun v => v.category).sum ≤ 8) (d : decode code pc = .ok (.invokestatic idx, 3))
    (kk : ∀ f9 : Nat → Int64, (K = 0 → f9 0 = v) → rg_J κ Γ 9 (cells + 1) (slots + 6) (pc + 3) lv (.int (rg_I K) :: rest) (rg_gw κ adM rg_tC tb' co σ9 τ o f9 od g)) : rg_J κ Γ 9 cells slots pc lv st (rg_gw κ adM rg_tC tb' co σ τ o f od g) := by
  refine rg_JcallH F.1 F.2.1 F.2.2.2.1 F.2.2.2.2.1 (w2 := rg_wd (κ.1, κ.2.1, κ.2.2.1, adM) tb' τ ++ [rg_eL co o f, rg_eD co od g]) (ws := [rg_eL co o f]) (os := [o]) (rg_FG_wM F) (fun q hq => ?_) (fun a ha => ?_) hcs (ha ++ [.ref o]) (hq o f) hcw hin hst9 hml hd ⟨by omega, hR⟩ hst hroom d (fun r σ' ws' hp => ?_)
  · rw [List.mem_singleton] at hq
    rw [hq]
    exact List.mem_append_right _ List.mem_cons_self
  · rw [List.mem_singleton] at ha
    rw [ha]
    exact ⟨Or.inr (Or.inl rfl), F.2.2.2.2.2.1⟩
  · obtain ⟨rfl, rfl, f9, rfl, hz⟩ := hp
    refine ⟨rg_wd (κ.1, κ.2.1, κ.2.2.1, adM) tb' τ ++ [rg_eL co o f9, rg_eD co od g], fun q hq => ?_, kk f9 hz⟩
    rcases List.mem_append.mp hq with z | z
    · refine Or.inr ⟨List.mem_append_left _ z, fun y9 => ?_⟩
      rw [List.mem_singleton] at y9
      obtain ⟨i, h1, h2⟩ := rg_own q z
      exact rg_FW_dis F.2.2.1 i h1 (Or.inr (Or.inl (h2.symm.trans y9)))
    · simp only [List.mem_cons, List.not_mem_nil, or_false] at z
      rcases z with rfl | rfl
      · exact Or.inl List.mem_cons_self
      · refine Or.inr ⟨List.mem_append_right _ (List.mem_cons_of_mem _ List.mem_cons_self), fun y9 => ?_⟩
        rw [List.mem_singleton] at y9
        exact F.2.2.2.2.2.2.2.1 y9.symm
/-- .. with a double's -/
theorem rg_LhD (F : rg_FG κ adM co Γ rg_tC tb' o od b L xs) (hcs : cells + 1 ≤ 1122 ∧ slots + 6 ≤ 42737) {y : MethodName} {c' : ByteArray} {n' : Nat} {hh : List (Nat × Nat × Nat × Nat)} (ha rest : List Value) {K : Int} {v : UInt64} (hq : ∀ (o : Nat) (f : Nat → UInt64), rg_HC κ co y c' n' hh (ha ++ [.ref o]) σ [o] [rg_eD co o f] (fun k s ws => k = K ∧ s = σ9 ∧ ∃ f9, ws = [rg_eD co o f9] ∧ (K = 0 → f9 0 = v)))
    {idx : Nat} (hcw : Cond.codeWith y c' n' (some .int) hh ∈ lw_gd) (hin : Cond.initialized y.cls ∈ lw_gd) (hst9 : Cond.static y ∈ lw_gd) (hml : Cond.methodLink RL idx y ∈ lw_gd) (hd : y.cls ≠ "java/lang/invoke/MethodHandle" ∧ y.cls ≠ "java/lang/invoke/VarHandle" ∧ (parseMethodDescriptor y.desc).map (fun d => d.parameters.length) = some (ha ++ [Value.ref od]).length)
    (hR : 8 + (n' + 11) + 200 ≤ 480) (hst : st = (ha ++ [Value.ref od]).reverse ++ rest) (hroom : (rest.map fun v => v.category).sum ≤ 8) (d : decode code pc = .ok (.invokestatic idx, 3))
    (kk : ∀ g9 : Nat → UInt64, (K = 0 → g9 0 = v) → rg_J κ Γ 9 (cells + 1) (slots + 6) (pc + 3) lv (.int (rg_I K) :: rest) (rg_gw κ adM rg_tC tb' co σ9 τ o f od g9)) : rg_J κ Γ 9 cells slots pc lv st (rg_gw κ adM rg_tC tb' co σ τ o f od g) := by
  refine rg_JcallH F.1 F.2.1 F.2.2.2.1 F.2.2.2.2.1 (w2 := rg_wd (κ.1, κ.2.1, κ.2.2.1, adM) tb' τ ++ [rg_eL co o f, rg_eD co od g]) (ws := [rg_eD co od g]) (os := [od]) (rg_FG_wM F) (fun q hq => ?_) (fun a ha => ?_) hcs (ha ++ [.ref od]) (hq od g) hcw hin hst9 hml hd ⟨by omega, hR⟩ hst hroom d (fun r σ' ws' hp => ?_)
  · rw [List.mem_singleton] at hq
    rw [hq]
    exact List.mem_append_right _ (List.mem_cons_of_mem _ List.mem_cons_self)
  · rw [List.mem_singleton] at ha
    rw [ha]
    exact ⟨Or.inr (Or.inr rfl), F.2.2.2.2.2.2.1⟩
  · obtain ⟨rfl, rfl, f9, rfl, hz⟩ := hp
    refine ⟨rg_wd (κ.1, κ.2.1, κ.2.2.1, adM) tb' τ ++ [rg_eL co o f, rg_eD co od f9], fun q hq => ?_, kk f9 hz⟩
    rcases List.mem_append.mp hq with z | z
    · refine Or.inr ⟨List.mem_append_left _ z, fun y9 => ?_⟩
      rw [List.mem_singleton] at y9
      obtain ⟨i, h1, h2⟩ := rg_own q z
      exact rg_FW_dis F.2.2.1 i h1 (Or.inr (Or.inr (h2.symm.trans y9)))
    · simp only [List.mem_cons, List.not_mem_nil, or_false] at z
      rcases z with rfl | rfl
      · refine Or.inr ⟨List.mem_append_right _ List.mem_cons_self, fun y9 => ?_⟩
        rw [List.mem_singleton] at y9
        exact F.2.2.2.2.2.2.2.1 y9
      · exact Or.inl List.mem_cons_self
/-- .. with none -/
theorem rg_LhV (F : rg_FG κ adM co Γ rg_tC tb' o od b L xs) (hcs : cells + 1 ≤ 1122 ∧ slots + 6 ≤ 42737) {y : MethodName} {c' : ByteArray} {n' : Nat} {hh : List (Nat × Nat × Nat × Nat)} (ha rest : List Value) {K : Int} (hq : rg_HC κ co y c' n' hh ha σ [] [] (fun k s ws => k = K ∧ s = σ9 ∧ ws = []))
    {idx : Nat} (hcw : Cond.codeWith y c' n' (some .int) hh ∈ lw_gd) (hin : Cond.initialized y.cls ∈ lw_gd) (hst9 : Cond.static y ∈ lw_gd) (hml : Cond.methodLink RL idx y ∈ lw_gd) (hd : y.cls ≠ "java/lang/invoke/MethodHandle" ∧ y.cls ≠ "java/lang/invoke/VarHandle" ∧ (parseMethodDescriptor y.desc).map (fun d => d.parameters.length) = some ha.length)
    (hR : 8 + (n' + 11) + 200 ≤ 480) (hst : st = ha.reverse ++ rest) (hroom : (rest.map fun v => v.category).sum ≤ 8) (d : decode code pc = .ok (.invokestatic idx, 3))
    (kk : rg_J κ Γ 9 (cells + 1) (slots + 6) (pc + 3) lv (.int (rg_I K) :: rest) (rg_gw κ adM rg_tC tb' co σ9 τ o f od g)) : rg_J κ Γ 9 cells slots pc lv st (rg_gw κ adM rg_tC tb' co σ τ o f od g) := by
  refine rg_JcallH F.1 F.2.1 F.2.2.2.1 F.2.2.2.2.1 (w2 := rg_wd (κ.1, κ.2.1, κ.2.2.1, adM) tb' τ ++ [rg_eL co o f, rg_eD co od g]) (ws := []) (os := []) (rg_FG_wM F) (fun q hq => absurd hq List.not_mem_nil) (fun a ha => absurd ha List.not_mem_nil) hcs ha hq hcw hin hst9 hml hd ⟨by omega, hR⟩ hst hroom d (fun r σ' ws' hp => ?_)
  obtain ⟨rfl, rfl, rfl⟩ := hp
  exact ⟨_, fun q hq => Or.inr ⟨hq, List.not_mem_nil⟩, kk⟩
theorem rg_gwL : rg_eL co o f ∈ rg_gw κ adM tb tb' co σ τ o f od g := List.mem_append_right _ (List.mem_append_right _ List.mem_cons_self)
theorem rg_gwD : rg_eD co od g ∈ rg_gw κ adM tb tb' co σ τ o f od g := List.mem_append_right _ (List.mem_append_right _ (List.mem_cons_of_mem _ List.mem_cons_self))
/-- script[i + n] -/
theorem rg_Larg (F : rg_FG κ adM co Γ tb tb' o od b L xs) (q0 q5 n : Nat) {i : Nat} {rest : List Value} (hn : i + n < L) (hq0 : lv[q0]? = some (0, .ref b)) (hq5 : lv[q5]? = some (5, .int (rg_I (i : Int))))
    (d : decode code pc = .ok (.aload_n 0, 1) ∧ decode code (pc + 1) = .ok (.iload 5, 2) ∧ decode code (pc + 3) = .ok (.iconst (n : Int), 1) ∧ decode code (pc + 4) = .ok (.iadd, 1) ∧ decode code (pc + 5) = .ok (.iaload, 1))
    (kk : rg_J κ Γ 9 cells slots (pc + 6) lv (.int (rg_I (xs (i + n)).toInt) :: rest) w) : rg_J κ Γ 9 cells slots pc lv rest w := by
  refine rg_Jaload_n F.1 q0 0 rfl d.1 hq0 (rg_Jiload F.1 q5 5 d.2.1 hq5 (rg_Jiconst F.1 d.2.2.1 (rg_Jiadd F.1 d.2.2.2.1 ?_)))
  rw [← Int.natCast_add]
  refine rg_Jsld F.1 F.2.2.2.2.2.2.2.2 hn d.2.2.2.2 ?_
  rw [rg_I_of] at kk
  exact kk
/-- a truth value out of an int -/
theorem rg_Lbool (F : rg_FG κ adM co Γ tb tb' o od b L xs) {v : Int} {rest : List Value} (hv : rg_Rg v) (d : decode code pc = .ok (.ifCond .eq 7, 3) ∧ decode code (pc + 3) = .ok (.iconst 1, 1) ∧ decode code (pc + 4) = .ok (.goto 4, 3) ∧ decode code (pc + 7) = .ok (.iconst 0, 1))
    (kk : rg_J κ Γ 9 cells slots (pc + 8) lv (.int (rg_I (if v = 0 then 0 else 1)) :: rest) w) : rg_J κ Γ 9 cells slots pc lv (.int (rg_I v) :: rest) w := by
  refine rg_Jif_eq F.1 (pc + 7) d.1 (by omega) hv (fun z => ?_) (fun z => ?_)
  · rw [if_pos z] at kk
    exact rg_Jiconst F.1 d.2.2.2 kk
  · rw [if_neg z] at kk
    exact rg_Jiconst F.1 d.2.1 (rg_Jgoto F.1 (pc + 8) d.2.2.1 (by omega) kk)
end RLG
