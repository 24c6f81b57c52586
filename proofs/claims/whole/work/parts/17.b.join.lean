/-! Calls out of a heap that holds several worlds. -/
theorem rg_FW_mono {κ : rg_K} {Γ : rg_C} {tb : List rg_Sh} {P P' : Nat → Prop} (h : rg_FW κ Γ tb P) (hp : ∀ q, P' q → P q) : rg_FW κ Γ tb P' := by
  obtain ⟨p, e, R, s, m, args, below, meth, c, A, H0, Q⟩ := Γ
  obtain ⟨h1, h2, h3, h4⟩ := h
  exact ⟨h1, h2, h3, fun i hi z => h4 i hi (hp _ z)⟩
section RJC
variable {κ : rg_K} {Γ : rg_C} {cc : ByteArray} {own : String} {nL fr lo cm sm cells slots pc : Nat} {lv : List (Nat × Value)} {st : List Value} {w1 w2 : va_W} {ad : Nat → Nat} {tb : List rg_Sh} {P : Nat → Prop} {τ τ' : rg_S}
theorem rg_JcallI (F : rg_FJ κ Γ cc own nL fr lo cm sm) (G : rg_FW (κ.1, κ.2.1, κ.2.2.1, ad) Γ tb P) (hos : ∀ q ∈ w1 ++ w2, P q.1) (hcs : cells ≤ cm ∧ slots ≤ sm) {y : MethodName} {c' : ByteArray} {n' fr' lo' : Nat} {ret' : FieldType} (As rest : List Value) {post : Int → rg_S → Prop} (k0 : Nat) (hM : rg_CI (κ.1, κ.2.1, κ.2.2.1, ad) tb y c' n' ret' fr' lo' (.ref (ad k0) :: As) τ post)
    {ci idx N : Nat} {T : u_T} {fs : List (Option Nat)} (hs : tb[k0]? = some (.inr (ci, fs))) (hc : vwCl[ci]? = some (y.cls, T, N)) (hv : rg_vm y c' n' (some ret') As.length) (hi : Cond.instanceMethod y ∈ lw_gd ∧ Cond.selects y.cls y y ∈ lw_gd) (hml : Cond.methodLink own idx y ∈ lw_gd)
    (hR : fr' + 1 ≤ fr ∧ 8 + (n' + 11) + lo' ≤ lo) (hst : st = As.reverse ++ .ref (ad k0) :: rest) (hroom : (rest.map fun v => v.category).sum ≤ 8) (d : decode cc pc = .ok (.invokevirtual idx, 3))
    (kk : ∀ (r : Int) (τ' : rg_S), post r τ' → rg_J κ Γ nL cells slots (pc + 3) lv (.int (rg_I r) :: rest) (w1 ++ (rg_wd (κ.1, κ.2.1, κ.2.2.1, ad) tb τ' ++ w2))) : rg_J κ Γ nL cells slots pc lv st (w1 ++ (rg_wd (κ.1, κ.2.1, κ.2.2.1, ad) tb τ ++ w2)) := by
  obtain ⟨p, e, R, s, m, args, below, meth, c, A, H0, Q⟩ := Γ
  obtain ⟨hx, hb, hmx, hown, hts, hK, hA, ⟨hfr, hlo, hcm, hsm⟩, hlk, hnest, hexw, hH0⟩ := F
  obtain ⟨hi0, hAi, hX9, hdis⟩ := G
  subst hH0
  intro H locs ls hP hS h
  subst hst
  obtain ⟨hP1, hP2⟩ := rg_P_app.mp hP
  obtain ⟨hPM, hP3⟩ := rg_P_app.mp hP2
  have cb := callB_of (R := R) (s := s) (args := args) (own := own) (index := idx) (rm := rg_rm fr' lo') (mc := 0) (ms := 0) As.length hts (rg_wsG hv.1) rfl rfl rfl (hts _ hv.2.1) (hts _ hml) hv.2.2 ⟨Nat.le_trans hR.1 hfr, Nat.le_trans hR.2 hlo⟩
  have hsub := rg_WA_sub (κ := (κ.1, κ.2.1, κ.2.2.1, ad)) hAi hA hS.1
  refine va_calli (va_runV (As := As) (rest := rest) (C := y.cls) ⟨hx, hb, hmx, hown, hts⟩ (hM H.size) ⟨cb, hts _ hi.1, hts _ hi.2⟩ ⟨rg_Wi_blind, va_recv hK hPM hc (rg_wd_get τ hs), fun U hU hW => ⟨rfl, by rw [hU], ⟨by rw [hU]; exact hPM, va_K.moved hW.alike hK⟩, hi0, rg_nest_warm hW hnest, rg_X_sub hX9 hW hS hU hsub⟩⟩ rfl rfl h.1 rfl (lv_room hroom) d ⟨by omega, by omega⟩) hS (fun q _ hq => hsub q hq) hsub (fun r u t H1 locs1 ht hvm hw hB hz1 hk1 hS1 => ?_)
  obtain ⟨rfl, hp⟩ := hw
  refine kk u.1 u.2 hp H1 locs1 ls (rg_P_app.mpr ⟨rg_keep hdis (fun q hq => hos q (List.mem_append_left _ hq)) hP1 hk1, rg_P_app.mpr ⟨by rw [← ht]; exact hB.1, rg_keep hdis (fun q hq => hos q (List.mem_append_right _ hq)) hP3 hk1⟩⟩) hS1 h
theorem rg_JcallV (F : rg_FJ κ Γ cc own nL fr lo cm sm) (G : rg_FW (κ.1, κ.2.1, κ.2.2.1, ad) Γ tb P) (hos : ∀ q ∈ w1 ++ w2, P q.1) (hcs : cells ≤ cm ∧ slots ≤ sm) {y : MethodName} {c' : ByteArray} {n' fr' lo' : Nat} (As rest : List Value) {post : rg_S → Prop} (k0 : Nat) (hM : rg_CV (κ.1, κ.2.1, κ.2.2.1, ad) tb y c' n' fr' lo' (.ref (ad k0) :: As) τ post)
    {ci idx N : Nat} {T : u_T} {fs : List (Option Nat)} (hs : tb[k0]? = some (.inr (ci, fs))) (hc : vwCl[ci]? = some (y.cls, T, N)) (hv : rg_vm y c' n' none As.length) (hi : Cond.instanceMethod y ∈ lw_gd ∧ Cond.selects y.cls y y ∈ lw_gd) (hml : Cond.methodLink own idx y ∈ lw_gd)
    (hR : fr' + 1 ≤ fr ∧ 8 + (n' + 11) + lo' ≤ lo) (hst : st = As.reverse ++ .ref (ad k0) :: rest) (hroom : (rest.map fun v => v.category).sum ≤ 8) (d : decode cc pc = .ok (.invokevirtual idx, 3))
    (kk : ∀ (τ' : rg_S), post τ' → rg_J κ Γ nL cells slots (pc + 3) lv rest (w1 ++ (rg_wd (κ.1, κ.2.1, κ.2.2.1, ad) tb τ' ++ w2))) : rg_J κ Γ nL cells slots pc lv st (w1 ++ (rg_wd (κ.1, κ.2.1, κ.2.2.1, ad) tb τ ++ w2)) := by
  obtain ⟨p, e, R, s, m, args, below, meth, c, A, H0, Q⟩ := Γ
  obtain ⟨hx, hb, hmx, hown, hts, hK, hA, ⟨hfr, hlo, hcm, hsm⟩, hlk, hnest, hexw, hH0⟩ := F
  obtain ⟨hi0, hAi, hX9, hdis⟩ := G
  subst hH0
  intro H locs ls hP hS h
  subst hst
  obtain ⟨hP1, hP2⟩ := rg_P_app.mp hP
  obtain ⟨hPM, hP3⟩ := rg_P_app.mp hP2
  have cb := callB_of (R := R) (s := s) (args := args) (own := own) (index := idx) (rm := rg_rm fr' lo') (mc := 0) (ms := 0) As.length hts (rg_wsG hv.1) rfl rfl rfl (hts _ hv.2.1) (hts _ hml) hv.2.2 ⟨Nat.le_trans hR.1 hfr, Nat.le_trans hR.2 hlo⟩
  have hsub := rg_WA_sub (κ := (κ.1, κ.2.1, κ.2.2.1, ad)) hAi hA hS.1
  refine va_callv (va_runV (As := As) (rest := rest) (C := y.cls) ⟨hx, hb, hmx, hown, hts⟩ (hM H.size) ⟨cb, hts _ hi.1, hts _ hi.2⟩ ⟨rg_Wi_blind, va_recv hK hPM hc (rg_wd_get τ hs), fun U hU hW => ⟨rfl, by rw [hU], ⟨by rw [hU]; exact hPM, va_K.moved hW.alike hK⟩, hi0, rg_nest_warm hW hnest, rg_X_sub hX9 hW hS hU hsub⟩⟩ rfl rfl h.1 rfl (lv_room hroom) d ⟨by omega, by omega⟩) hS (fun q _ hq => hsub q hq) hsub (fun u t H1 locs1 ht hvm hw hB hz1 hk1 hS1 => ?_)
  refine kk u hw H1 locs1 ls (rg_P_app.mpr ⟨rg_keep hdis (fun q hq => hos q (List.mem_append_left _ hq)) hP1 hk1, rg_P_app.mpr ⟨by rw [← ht]; exact hB.1, rg_keep hdis (fun q hq => hos q (List.mem_append_right _ hq)) hP3 hk1⟩⟩) hS1 h
theorem rg_JcallD (F : rg_FJ κ Γ cc own nL fr lo cm sm) (G : rg_FW (κ.1, κ.2.1, κ.2.2.1, ad) Γ tb P) (hos : ∀ q ∈ w1 ++ w2, P q.1) (hcs : cells ≤ cm ∧ slots ≤ sm) {y : MethodName} {c' : ByteArray} {n' fr' lo' : Nat} (As rest : List Value) {post : UInt64 → rg_S → Prop} (k0 : Nat) (hM : rg_CD (κ.1, κ.2.1, κ.2.2.1, ad) tb y c' n' fr' lo' (.ref (ad k0) :: As) τ post)
    {ci idx N : Nat} {T : u_T} {fs : List (Option Nat)} (hs : tb[k0]? = some (.inr (ci, fs))) (hc : vwCl[ci]? = some (y.cls, T, N)) (hv : rg_vm y c' n' (some .double) As.length) (hi : Cond.instanceMethod y ∈ lw_gd ∧ Cond.selects y.cls y y ∈ lw_gd) (hml : Cond.methodLink own idx y ∈ lw_gd)
    (hR : fr' + 1 ≤ fr ∧ 8 + (n' + 11) + lo' ≤ lo) (hst : st = As.reverse ++ .ref (ad k0) :: rest) (hroom : (rest.map fun v => v.category).sum ≤ 8) (d : decode cc pc = .ok (.invokevirtual idx, 3))
    (kk : ∀ (r : UInt64) (τ' : rg_S), post r τ' → rg_J κ Γ nL cells slots (pc + 3) lv (.double r :: rest) (w1 ++ (rg_wd (κ.1, κ.2.1, κ.2.2.1, ad) tb τ' ++ w2))) : rg_J κ Γ nL cells slots pc lv st (w1 ++ (rg_wd (κ.1, κ.2.1, κ.2.2.1, ad) tb τ ++ w2)) := by
  obtain ⟨p, e, R, s, m, args, below, meth, c, A, H0, Q⟩ := Γ
  obtain ⟨hx, hb, hmx, hown, hts, hK, hA, ⟨hfr, hlo, hcm, hsm⟩, hlk, hnest, hexw, hH0⟩ := F
  obtain ⟨hi0, hAi, hX9, hdis⟩ := G
  subst hH0
  intro H locs ls hP hS h
  subst hst
  obtain ⟨hP1, hP2⟩ := rg_P_app.mp hP
  obtain ⟨hPM, hP3⟩ := rg_P_app.mp hP2
  have cb := callB_of (R := R) (s := s) (args := args) (own := own) (index := idx) (rm := rg_rm fr' lo') (mc := 0) (ms := 0) As.length hts (rg_wsG hv.1) rfl rfl rfl (hts _ hv.2.1) (hts _ hml) hv.2.2 ⟨Nat.le_trans hR.1 hfr, Nat.le_trans hR.2 hlo⟩
  have hsub := rg_WA_sub (κ := (κ.1, κ.2.1, κ.2.2.1, ad)) hAi hA hS.1
  refine va_calld (va_runV (As := As) (rest := rest) (C := y.cls) ⟨hx, hb, hmx, hown, hts⟩ (hM H.size) ⟨cb, hts _ hi.1, hts _ hi.2⟩ ⟨rg_Wi_blind, va_recv hK hPM hc (rg_wd_get τ hs), fun U hU hW => ⟨rfl, by rw [hU], ⟨by rw [hU]; exact hPM, va_K.moved hW.alike hK⟩, hi0, rg_nest_warm hW hnest, rg_X_sub hX9 hW hS hU hsub⟩⟩ rfl rfl h.1 rfl (lv_room hroom) d ⟨by omega, by omega⟩) hS (fun q _ hq => hsub q hq) hsub (fun r u t H1 locs1 ht hvm hw hB hz1 hk1 hS1 => ?_)
  obtain ⟨rfl, hp⟩ := hw
  refine kk u.1 u.2 hp H1 locs1 ls (rg_P_app.mpr ⟨rg_keep hdis (fun q hq => hos q (List.mem_append_left _ hq)) hP1 hk1, rg_P_app.mpr ⟨by rw [← ht]; exact hB.1, rg_keep hdis (fun q hq => hos q (List.mem_append_right _ hq)) hP3 hk1⟩⟩) hS1 h
/-- .. of one that throws E: caught here by the row x of the table -/
theorem rg_JcallX (F : rg_FJ κ Γ cc own nL fr lo cm sm) (G : rg_FW (κ.1, κ.2.1, κ.2.2.1, ad) Γ tb P) (hos : ∀ q ∈ w1 ++ w2, P q.1) (hcs : cells + 1 ≤ cm ∧ slots + 6 ≤ sm) {y : MethodName} {c' : ByteArray} {n' fr' lo' : Nat} {ret' : Option FieldType} {E : String} (As rest : List Value) (k0 : Nat) (hM : rg_TX (κ.1, κ.2.1, κ.2.2.1, ad) tb y c' n' ret' fr' lo' (.ref (ad k0) :: As) τ τ' E)
    {ci idx N : Nat} {T : u_T} {fs : List (Option Nat)} (hs : tb[k0]? = some (.inr (ci, fs))) (hc : vwCl[ci]? = some (y.cls, T, N)) (hv : rg_vm y c' n' ret' As.length) (hi : Cond.instanceMethod y ∈ lw_gd ∧ Cond.selects y.cls y y ∈ lw_gd) (hml : Cond.methodLink own idx y ∈ lw_gd)
    (hR : fr' + 1 ≤ fr ∧ 8 + (n' + 11) + lo' ≤ lo) (hst : st = As.reverse ++ .ref (ad k0) :: rest) (hroom : (rest.map fun v => v.category).sum ≤ 8) (d : decode cc pc = .ok (.invokevirtual idx, 3))
    (htab : ∃ (pre : List ExceptionTableEntry) (x : ExceptionTableEntry) (suf : List ExceptionTableEntry), Γ.2.2.2.2.2.2.2.2.1.exceptionTable.toList = pre ++ x :: suf ∧ (∀ z ∈ pre, covers z pc = false ∨ (z.catchType ≠ 0 ∧ ∃ nm : String, Cond.classLink own z.catchType nm ∈ lw_gd ∧ va_Nc E nm Γ.2.2.2.1)) ∧ covers x pc = true ∧ x.catchType ≠ 0 ∧ Cond.classLink own x.catchType E ∈ lw_gd ∧ Cond.castable E E ∈ lw_exw ∧
      ∀ q9 : Nat, rg_J κ Γ nL (cells + 1) (slots + 6) x.handlerPc lv [.ref q9] (w1 ++ (rg_wd (κ.1, κ.2.1, κ.2.2.1, ad) tb τ' ++ w2))) : rg_J κ Γ nL cells slots pc lv st (w1 ++ (rg_wd (κ.1, κ.2.1, κ.2.2.1, ad) tb τ ++ w2)) := by
  obtain ⟨p, e, R, s, m, args, below, meth, c, A, H0, Q⟩ := Γ
  obtain ⟨hx, hb, hmx, hown, hts, hK, hA, ⟨hfr, hlo, hcm, hsm⟩, hlk, hnest, hexw, hH0⟩ := F
  obtain ⟨hi0, hAi, hX9, hdis⟩ := G
  obtain ⟨pre, x, suf, t1, t2, t3, t4, t5, t6, kk⟩ := htab
  subst hH0
  intro H locs ls hP hS h
  subst hst
  obtain ⟨hP1, hP2⟩ := rg_P_app.mp hP
  obtain ⟨hPM, hP3⟩ := rg_P_app.mp hP2
  have cb := callB_of (R := R) (s := s) (args := args) (own := own) (index := idx) (rm := rg_rx fr' lo') (mc := 1) (ms := 6) As.length hts (rg_wsG hv.1) rfl rfl rfl (hts _ hv.2.1) (hts _ hml) hv.2.2 ⟨Nat.le_trans hR.1 hfr, Nat.le_trans hR.2 hlo⟩
  have hsub := rg_WA_sub (κ := (κ.1, κ.2.1, κ.2.2.1, ad)) hAi hA hS.1
  have hr := vx_runV (H := H) (locs := locs) (cells := cells) (slots := slots) (below := below) (meth := meth) (e := e) (As := As) (rest := rest) (C := y.cls) (g := F0 m pc ls (As.reverse ++ .ref (ad k0) :: rest)) ⟨hx, hb, hmx, hown, hts⟩ (hM H.size) ⟨cb, hts _ hi.1, hts _ hi.2⟩ ⟨rg_Wj_blind, va_recv hK hPM hc (rg_wd_get τ hs), fun U hU hW => ⟨rfl, ⟨by rw [hU], ⟨by rw [hU]; exact hPM, va_K.moved hW.alike hK⟩, hi0, rg_nest_warm hW hnest, rg_X_sub hX9 hW hS hU hsub⟩, rg_exw_warm hW hexw⟩⟩ rfl rfl h.1 rfl (lv_room hroom) d ⟨by omega, by omega⟩
  intro T9 hT X
  rcases hr T9 hT X with ⟨v, st₀, t, T', L, h0, X', hL, e1, e2, hf, st⟩ | ⟨q, st₀, t, T', L, E', ce, h0, X', hL, e1, e2, ⟨u, hp, ⟨hE, hb9⟩, hF⟩, hce, hcv, hcl, st⟩
  · exact hf.elim
  · subst hE
    obtain ⟨k1, k2, k3⟩ := vx_keep h0 e1 hS (fun q _ h => hsub q h) hsub hL hF
    obtain ⟨t9, a1, b1⟩ := (vx_catch (H := T'.heap) (locs := locs ++ L) (name := E') (E := E') (ce := ce) (q := q) (rest := rest) (ls := ls) (pc := pc) hown pre x suf t1 (fun z hz => (t2 z hz).imp id (fun y => ⟨y.1, y.2.imp (fun nm z => ⟨hts _ z.1, z.2⟩)⟩)) t3 t4 (hts _ t5) (va_Nw.use (rg_exw_tab _ t6) (hexw _ t6)) (by rw [e1]; exact hce) hcv hcl
      (kk q T'.heap (locs ++ L) ls (rg_P_app.mpr ⟨rg_keep (κ := (κ.1, κ.2.1, κ.2.2.1, ad)) hdis (fun q hq => hos q (List.mem_append_left _ hq)) hP1 k2, rg_P_app.mpr ⟨by rw [e1]; exact hb9.1, rg_keep (κ := (κ.1, κ.2.1, κ.2.2.1, ad)) hdis (fun q hq => hos q (List.mem_append_right _ hq)) hP3 k2⟩⟩) k3 h)) T' rfl X'
    exact ⟨t9, st.trans a1, b1⟩
end RJC
