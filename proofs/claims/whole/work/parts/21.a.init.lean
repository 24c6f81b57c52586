/-! Constructors: a world that grows. -/
abbrev rg_fr (a sz : Nat) : Nat → Prop := fun q => q = a ∨ sz ≤ q
abbrev rg_rnn (fr lo mc ms : Nat) : Room := { frames := fr, cells := mc, slots := ms, locals := lo }
def rg_Wn (κ : rg_K) (w : va_W) (a sz : Nat) (U : State) : Prop := U.heap.size = sz ∧ va_P κ.2.1 vwCl w U.heap ∧ va_K κ.2.1 vwCl (rg_tys κ.2.2.1) U ∧ (∀ w ∈ lw_nest, va_Nw w U) ∧ (∀ w ∈ lw_exw, va_Nw w U) ∧ rg_X κ (rg_fr a sz) U
theorem rg_Wn_blind {κ : rg_K} {w : va_W} {a sz : Nat} {as : List Value} : FrameBlind (va_Pc as (rg_Wn κ w a sz)) := fun b U g mk q => by
  obtain ⟨q0, q1, q2, q3, q4, q5, q6⟩ := q
  exact ⟨q0, q1, q2, va_K.moved (u := U) (U := U.calling g mk b) (Vm.Alike.refl U.vm) q3, rg_nest_same (u := U) (U := U.calling g mk b) rfl q4, rg_exw_same (u := U) (U := U.calling g mk b) rfl q5, rg_X_same (u := U) (U := U.calling g mk b) rfl rfl q6⟩
/-- a constructor: over the cell e0 at a, and what it makes -/
def rg_NC (κ : rg_K) (y : MethodName) (cc : ByteArray) (n : Nat) (fr lo mc ms : Nat) (as : List Value) (e0 : va_E) (post : Nat → va_W → Prop) : Prop :=
  ∀ sz a : Nat, Met κ.1 y (rg_ws y cc n none) (rg_rnn fr lo mc ms) (va_Pc (.ref a :: as) (rg_Wn κ [(a, e0)] a sz)) (va_Qv (fun (w : va_W) => post a w) (fun w t => va_P κ.2.1 vwCl w t.heap ∧ va_D (rg_fr a sz) w) (rg_fr a sz)) mc ms (rg_fr a sz)
def rg_FN (κ : rg_K) (Γ : rg_C) (cc : ByteArray) (own : String) (nL fr lo cm sm : Nat) : Prop :=
  rg_FJ κ Γ cc own nL fr lo cm sm ∧ Γ.2.2.2.2.2.2.2.1.name = "<init>" ∧ rg_X κ Γ.2.2.2.2.2.2.2.2.2.1 Γ.2.2.2.1
abbrev rg_A (Γ : rg_C) : Nat → Prop := Γ.2.2.2.2.2.2.2.2.2.1
def rg_RNN (κ : rg_K) (Γ : rg_C) (cc : ByteArray) (n mc ms : Nat) (post : va_W → Prop) : Prop :=
  ∀ (cells slots pc : Nat) (lv : List (Nat × Value)) (w : va_W), cells ≤ mc → slots ≤ ms → decode cc pc = .ok (.return_, 1) → va_D (rg_A Γ) w → post w → rg_J κ Γ n cells slots pc lv [] w
theorem rg_entNN {κ : rg_K} {y : MethodName} {cc : ByteArray} {n fr lo mc ms : Nat} {as : List Value} {e0 : va_E} {post : Nat → va_W → Prop} (hy : plainName y.cls = true) (hy2 : y.name = "<init>") (hn : (lg_sl as).length + 1 ≤ n)
    (body : ∀ (Γ : rg_C) (a : Nat), rg_FN κ Γ cc y.cls n fr lo mc ms → va_D (rg_A Γ) [(a, e0)] → rg_RNN κ Γ cc n mc ms (post a) → rg_J κ Γ n 0 0 0 (lv_args 0 (.ref a :: as)) [] [(a, e0)]) : rg_NC κ y cc n fr lo mc ms as e0 post := by
  intro sz a
  refine Met.ofW (cc := cc) (maxL := n) (ret := none) hy rfl ?_
  intro p e s m args below meth c s₁ B hml hv
  obtain ⟨rfl, hsz, hP, hK, hnest, hexw, hX9⟩ := hv
  subst hsz
  have hts := atoms_spec (ws := rg_ws y cc n none) B.pre
  have hown : s.vm.findClass y.cls = some m.cls := findClass_of_methodNamed B.named
  have hin : meth.name = "<init>" := by have q := (name_of_methodNamed B.named B.method).1; exact q.trans hy2
  have hlocks : meth.locks = false := B.notSynchronized
  have hl := lv_entry (.ref a :: as) (n := n) (by exact hn)
  rw [lg_entry_eq]
  refine body (p, e, (headSpec (rg_ws y cc n none) (rg_rnn fr lo mc ms)).room, s, m, (.ref a :: as).toArray, below, meth, c, rg_fr a s.heap.size, s.heap, MQ below (va_Qv (fun (w : va_W) => post a w) (fun w t => va_P κ.2.1 vwCl w t.heap ∧ va_D (rg_fr a s.heap.size) w) (rg_fr a s.heap.size)) (.ref a :: as).toArray s mc ms (rg_fr a s.heap.size)) a ⟨⟨B.exec, B.bytes, hml, hown, fun w h => hts w (List.mem_cons_of_mem _ h), hK, fun q h => Or.inr h, ⟨Nat.le_refl _, Nat.le_refl _, Nat.le_refl _, Nat.le_refl _⟩, hlocks, hnest, hexw, rfl⟩, hin, hX9⟩ ⟨fun i j p q hp hq _ => ?_, fun k q hq => ?_⟩ ?_ s.heap [] _ hP va_S.rf hl
  · have h1 := (List.getElem?_eq_some_iff.mp hp).1
    have h2 := (List.getElem?_eq_some_iff.mp hq).1
    simp only [List.length_singleton] at h1 h2
    omega
  · have h2 := List.mem_of_getElem? hq
    rw [List.mem_singleton] at h2
    rw [h2]; exact Or.inl rfl
  · intro cells slots pc lv w hc1 hs6 d hD hp H locs ls hP1 hS h
    exact W.widen hc1 hs6 (W.vret B.exec B.bytes B.returns (fun t ht hW => ⟨⟨w, rfl, hp, by rw [ht]; exact hP1, hD⟩, hS.F ht⟩) hS.2.2 d hlocks)
theorem va_RA_inj {U : State} {c1 c2 : ClassId} {ty : FieldType} (h1 : va_RA U c1 ty) (h2 : va_RA U c2 ty) : c1 = c2 := by
  cases ty with
  | object C =>
    obtain ⟨k1, d1, -, -, -, a1⟩ := h1
    obtain ⟨k2, d2, -, -, -, a2⟩ := h2
    exact Option.some.inj (a1.symm.trans a2)
  | _ => exact Option.some.inj (Eq.trans (Eq.symm h1) h2)
section RNJ
variable {κ : rg_K} {Γ : rg_C} {cc : ByteArray} {own : String} {nL fr lo cm sm cells slots pc : Nat} {lv : List (Nat × Value)} {rest st : List Value} {w r : va_W}
theorem rg_Jsuper (F : rg_FN κ Γ cc own nL fr lo cm sm) {idx a : Nat} (hml : Cond.methodLink own idx objectInit ∈ lw_gd) (hR : 1 ≤ fr ∧ 20 ≤ lo) (hroom : (rest.map fun v => v.category).sum ≤ 8) (d : decode cc pc = .ok (.invokespecial idx, 3)) (kk : rg_J κ Γ nL cells slots (pc + 3) lv rest w) : rg_J κ Γ nL cells slots pc lv (.ref a :: rest) w := by
  obtain ⟨p, e, R, s, m, args, below, meth, c, A, H0, Q⟩ := Γ
  obtain ⟨⟨hx, hb, hmx, hown, hts, hK, hA, ⟨hfr, hlo, hcm, hsm⟩, -⟩, -⟩ := F
  intro H locs ls hP hS h
  exact W.objInit hx hb hown (hts _ hml) (hts _ k_im_objectInit) (hts _ k_co_objectInit) rfl (by rw [hmx]; exact h.1) rfl d (Nat.le_trans hR.1 hfr) (Nat.le_trans (Nat.add_le_add_right (lv_room hroom) 12) (Nat.le_trans hR.2 hlo)) (kk H locs ls hP hS h)
theorem rg_Jdup (F : rg_FJ κ Γ cc own nL fr lo cm sm) {v : Value} (hv : v.category = 1) (d : decode cc pc = .ok (.dup, 1)) (kk : rg_J κ Γ nL cells slots (pc + 1) lv (v :: v :: rest) w) : rg_J κ Γ nL cells slots pc lv (v :: rest) w := by
  obtain ⟨p, e, R, s, m, args, below, meth, c, A, H0, Q⟩ := Γ
  obtain ⟨hx, hb, -⟩ := F
  intro H locs ls hP hS h
  exact lv_dup hx hb d hv (kk H locs ls hP hS h)
theorem rg_Jsipush (F : rg_FJ κ Γ cc own nL fr lo cm sm) {n : Int} (d : decode cc pc = .ok (.sipush n, 3)) (hn : (Int16.ofInt n).toInt32 = rg_I n) (kk : rg_J κ Γ nL cells slots (pc + 3) lv (.int (rg_I n) :: rest) w) : rg_J κ Γ nL cells slots pc lv rest w := by
  obtain ⟨p, e, R, s, m, args, below, meth, c, A, H0, Q⟩ := Γ
  obtain ⟨hx, hb, -⟩ := F
  intro H locs ls hP hS h
  exact lv_sipush hx hb d hn (kk H locs ls hP hS h)
/-- a new array of a known kind -/
theorem rg_Jnewg (F : rg_FJ κ Γ cc own nL fr lo cm sm) (hD : va_D (rg_A Γ) w) {tys : List (ClassId × FieldType)} (hK : va_K κ.2.1 vwCl tys Γ.2.2.2.1) {j : Nat} {cA : ClassId} {ty : FieldType} (hj : tys[j]? = some (cA, ty)) {atype : ArrayType} (hty : newarray.typeOf atype = ty) (har : Cond.arrayClass ty ∈ lw_gd) {N : Nat} {a0 : vp_A} (ha : ∀ cA : ClassId, vp_cell cA a0 = arrV cA N (fun _ => defaultValue ty))
    (hN : N ≤ 65536) (hcs : cells + 1 ≤ cm ∧ slots + N ≤ sm) (d : decode cc pc = .ok (.newarray atype, 2)) (kk : ∀ q, va_D (rg_A Γ) (w ++ [(q, .inl (cA, a0))]) → rg_J κ Γ nL (cells + 1) (slots + N) (pc + 2) lv (.ref q :: rest) (w ++ [(q, .inl (cA, a0))])) : rg_J κ Γ nL cells slots pc lv (.int (rg_I (N : Int)) :: rest) w := by
  obtain ⟨p, e, R, s, m, args, below, meth, c, A, H0, Q⟩ := Γ
  obtain ⟨hx, hb, hmx, hown, hts, -, hA, ⟨hfr, hlo, hcm, hsm⟩, -⟩ := F
  intro H locs ls hP hS h
  have h1 : componentBytes ty ≤ 8 := by subst hty; cases atype <;> decide
  have h2 : ¬ rg_I (N : Int) < 0 := by rw [← rg_I_0, rg_I_lt ⟨by omega, by omega⟩ rg_R0]; omega
  refine va_newa hx hb (by rw [hty]; exact hts _ har) hty hK hP hD hS hA (a0 := a0) ha h2 (rg_I_clamp (by omega)) (Nat.le_trans (Nat.mul_le_mul_left N h1) (by omega)) (by omega) (by omega) d (fun q cB H1 hK1 hP1 hD1 hS1 => ?_)
  have e1 : cB = cA := va_RA_inj (hK1.2 tys.length (cB, ty) (by simp)).2 (hK.2 j _ hj).2
  subst e1
  exact kk q hD1 H1 locs ls hP1 hS1 h
/-- .. of a world's own kinds -/
theorem rg_Jnewa (F : rg_FJ κ Γ cc own nL fr lo cm sm) (hD : va_D (rg_A Γ) w) (kd N : Nat) {ty : FieldType} (hj : ∀ cy : rg_Cy, (rg_tys cy)[kd]? = some (rg_cy cy kd, ty)) {atype : ArrayType} (hty : newarray.typeOf atype = ty) (har : Cond.arrayClass ty ∈ lw_gd) (ha : ∀ cA : ClassId, vp_cell cA (N, .inl (fun _ => 0)) = arrV cA N (fun _ => defaultValue ty))
    (hN : N ≤ 65536) (hcs : cells + 1 ≤ cm ∧ slots + N ≤ sm) (d : decode cc pc = .ok (.newarray atype, 2)) (kk : ∀ q, va_D (rg_A Γ) (w ++ [(q, rg_el κ (fun _ => 0) (.inl (kd, N)))]) → rg_J κ Γ nL (cells + 1) (slots + N) (pc + 2) lv (.ref q :: rest) (w ++ [(q, rg_el κ (fun _ => 0) (.inl (kd, N)))])) : rg_J κ Γ nL cells slots pc lv (.int (rg_I (N : Int)) :: rest) w := by
  have e0 : rg_el κ (fun _ => 0) (.inl (kd, N)) = .inl (rg_cy κ.2.2.1 kd, N, .inl (fun _ => 0)) := by
    show (Sum.inl (rg_cy κ.2.2.1 kd, N, Sum.inl (fun _ => rg_I 0)) : va_E) = _
    rw [rg_I_0]
  rw [e0] at kk
  refine rg_Jnewg F hD (tys := rg_tys κ.2.2.1) ?_ (hj κ.2.2.1) hty har ha hN hcs d kk
  obtain ⟨p, e, R, s, m, args, below, meth, c, A, H0, Q⟩ := Γ
  exact F.2.2.2.2.2.1
/-- a new object -/
theorem rg_Jnew (F : rg_FJ κ Γ cc own nL fr lo cm sm) (hD : va_D (rg_A Γ) w) {ci idx N : Nat} {C : String} {T : u_T} (hc : vwCl[ci]? = some (C, T, N)) (hin : ∀ w ∈ u_ws C T N, w ∈ lw_gd) {ty0 : Nat → FieldType} (hty : ∀ k, k < N → parseFieldDescriptor (T k).2.2.1 = some (ty0 k)) (hcl : Cond.classLink own idx C ∈ lw_gd) (hinst : Cond.instantiable C N ∈ lw_gd) (hini : Cond.initialized C ∈ lw_gd)
    (fs : List Value) (hfs : ∀ j, j < N → defaultValue (ty0 j) = vp_V fs j) (hcs : cells + 1 ≤ cm ∧ slots + N ≤ sm) (d : decode cc pc = .ok (.new idx, 3)) (kk : ∀ q, va_D (rg_A Γ) (w ++ [(q, .inr (ci, fs))]) → rg_J κ Γ nL (cells + 1) (slots + N) (pc + 3) lv (.ref q :: rest) (w ++ [(q, .inr (ci, fs))])) : rg_J κ Γ nL cells slots pc lv rest w := by
  obtain ⟨p, e, R, s, m, args, below, meth, c, A, H0, Q⟩ := Γ
  obtain ⟨hx, hb, hmx, hown, hts, hK, hA, ⟨hfr, hlo, hcm, hsm⟩, -⟩ := F
  intro H locs ls hP hS h
  exact va_new hx hb hts hin ty0 hty hown (hts _ hcl) (hts _ hinst) (hts _ hini) hK hP hD hS hA hc hfs (by omega) (by omega) d (fun q H1 hP1 hD1 hS1 => kk q hD1 H1 locs ls hP1 hS1 h)
/-- a final field of the object at the head of the world -/
theorem rg_JputF (F : rg_FN κ Γ cc own nL fr lo cm sm) {a ci idx N : Nat} {C : String} {T : u_T} {fs : List Value} (hD : va_D (rg_A Γ) ((a, .inr (ci, fs)) :: r)) (hc : vwCl[ci]? = some (C, T, N)) (hin : ∀ w ∈ u_ws C T N, w ∈ lw_gd) {ty0 : Nat → FieldType} (hty : ∀ k, k < N → parseFieldDescriptor (T k).2.2.1 = some (ty0 k)) (hnm : ∀ a, a < N → ∀ b, b < N → a ≠ b → (T a).2.1 ≠ (T b).2.1) (k : Nat) (hk : k < N) (hlink : Cond.fieldLink own idx (T k).1 (T k).2.1 (T k).2.2.1 ∈ lw_gd) (hfin : (T k).2.2.2 = true) (hdecl : (T k).1 = own)
    {v : Value} (hn : narrow (ty0 k) v = v) (hfit : fits (ty0 k) v = true) (hl : k < fs.length) (d : decode cc pc = .ok (.putfield idx, 3)) (kk : va_D (rg_A Γ) ((a, .inr (ci, fs.set k v)) :: r) → rg_J κ Γ nL cells slots (pc + 3) lv rest ((a, .inr (ci, fs.set k v)) :: r)) : rg_J κ Γ nL cells slots pc lv (v :: .ref a :: rest) ((a, .inr (ci, fs)) :: r) := by
  obtain ⟨p, e, R, s, m, args, below, meth, c, A, H0, Q⟩ := Γ
  obtain ⟨⟨hx, hb, hmx, hown, hts, hK, hA, -⟩, hin2, -⟩ := F
  intro H locs ls hP hS h
  exact va_putF (T := T) hx hb hts hin ty0 hty hnm hown hK hP hD hS 0 rfl hc k hk (hts _ hlink) (fun _ h => h) hfin hin2 hdecl (hty k hk) hn hfit hl d (fun H1 locs1 hP1 hD1 hS1 => kk hD1 H1 locs1 ls hP1 hS1 h)
/-- .. one that isn't final -/
theorem rg_JputN (F : rg_FN κ Γ cc own nL fr lo cm sm) {a ci idx N : Nat} {C : String} {T : u_T} {fs : List Value} (hD : va_D (rg_A Γ) ((a, .inr (ci, fs)) :: r)) (hc : vwCl[ci]? = some (C, T, N)) (hin : ∀ w ∈ u_ws C T N, w ∈ lw_gd) {ty0 : Nat → FieldType} (hty : ∀ k, k < N → parseFieldDescriptor (T k).2.2.1 = some (ty0 k)) (hnm : ∀ a, a < N → ∀ b, b < N → a ≠ b → (T a).2.1 ≠ (T b).2.1) (k : Nat) (hk : k < N) (hlink : Cond.fieldLink own idx (T k).1 (T k).2.1 (T k).2.2.1 ∈ lw_gd) (hfin : (T k).2.2.2 = false)
    {v : Value} (hn : narrow (ty0 k) v = v) (hfit : fits (ty0 k) v = true) (hl : k < fs.length) (d : decode cc pc = .ok (.putfield idx, 3)) (kk : va_D (rg_A Γ) ((a, .inr (ci, fs.set k v)) :: r) → rg_J κ Γ nL cells slots (pc + 3) lv rest ((a, .inr (ci, fs.set k v)) :: r)) : rg_J κ Γ nL cells slots pc lv (v :: .ref a :: rest) ((a, .inr (ci, fs)) :: r) := by
  obtain ⟨p, e, R, s, m, args, below, meth, c, A, H0, Q⟩ := Γ
  obtain ⟨⟨hx, hb, hmx, hown, hts, hK, hA, -⟩, hin2, -⟩ := F
  intro H locs ls hP hS h
  exact va_put (T := T) hx hb hts hin ty0 hty hnm hown hK hP hD hS 0 rfl hc k hk (hts _ hlink) (fun _ h => h) hfin (hty k hk) hn hfit hl d (fun H1 locs1 hP1 hD1 hS1 => kk hD1 H1 locs1 ls hP1 hS1 h)
/-- a field of the object at the head of the world is read -/
theorem rg_JgetH (F : rg_FJ κ Γ cc own nL fr lo cm sm) {a ci idx N : Nat} {C : String} {T : u_T} {fs : List Value} (hc : vwCl[ci]? = some (C, T, N)) (hin : ∀ w ∈ u_ws C T N, w ∈ lw_gd) (k : Nat) (hk : k < N) (hlink : Cond.fieldLink own idx (T k).1 (T k).2.1 (T k).2.2.1 ∈ lw_gd) {v : Value} (hv : fs[k]? = some v) (d : decode cc pc = .ok (.getfield idx, 3)) (kk : rg_J κ Γ nL cells slots (pc + 3) lv (v :: rest) ((a, .inr (ci, fs)) :: r)) : rg_J κ Γ nL cells slots pc lv (.ref a :: rest) ((a, .inr (ci, fs)) :: r) := by
  obtain ⟨p, e, R, s, m, args, below, meth, c, A, H0, Q⟩ := Γ
  obtain ⟨hx, hb, hmx, hown, hts, hK, -⟩ := F
  intro H locs ls hP hS h
  exact va_get hx hb hts hin hown hK hP 0 rfl hc k hk (hts _ hlink) (fun _ h => h) hv d (kk H locs ls hP hS h)
theorem rg_Dapp {A : Nat → Prop} {w w1 : va_W} {q sz : Nat} {e0 : va_E} (hD : va_D A (w ++ [(q, e0)])) (hlt : ∀ x ∈ w, x.1 < sz) (hD1 : va_D (rg_fr q sz) w1) (hA : ∀ x, rg_fr q sz x → A x) : va_D A (w ++ w1) := by
  refine va_D.app ⟨fun i j x y hx hy z => ?_, fun k x hx => ?_⟩ ⟨hD1.1, fun k x hx => hA _ (hD1.2 k x hx)⟩ (fun i j x y hx hy z => ?_)
  · exact hD.1 i j x y (by rw [List.getElem?_append_left (List.getElem?_eq_some_iff.mp hx).1]; exact hx) (by rw [List.getElem?_append_left (List.getElem?_eq_some_iff.mp hy).1]; exact hy) z
  · exact hD.2 k x (by rw [List.getElem?_append_left (List.getElem?_eq_some_iff.mp hx).1]; exact hx)
  · have hxl := (List.getElem?_eq_some_iff.mp hx).1
    rcases hD1.2 j y hy with y1 | y1
    · have e1 := hD.1 i w.length x (q, e0) (by rw [List.getElem?_append_left hxl]; exact hx) (by rw [List.getElem?_append_right (Nat.le_refl _), Nat.sub_self]; rfl) (z.trans y1)
      omega
    · have h2 := hlt x (List.mem_of_getElem? hx)
      omega
theorem rg_Dlast {A : Nat → Prop} {w : va_W} {q : Nat} {e0 : va_E} (hD : va_D A (w ++ [(q, e0)])) : A q := hD.2 w.length (q, e0) (by rw [List.getElem?_append_right (Nat.le_refl _), Nat.sub_self]; rfl)
theorem rg_Dne {A : Nat → Prop} {w : va_W} {q : Nat} {e0 : va_E} (hD : va_D A (w ++ [(q, e0)])) : ∀ x ∈ w, ¬ x.1 = q := fun x hx z => by
  obtain ⟨i, hi⟩ := List.mem_iff_getElem?.mp hx
  have hxl := (List.getElem?_eq_some_iff.mp hi).1
  have e1 := hD.1 i w.length x (q, e0) (by rw [List.getElem?_append_left hxl]; exact hi) (by rw [List.getElem?_append_right (Nat.le_refl _), Nat.sub_self]; rfl) z
  omega
/-- a constructor is called on the cell that lies last -/
theorem rg_Jinit (F : rg_FJ κ Γ cc own nL fr lo cm sm) (hX9 : rg_X κ (rg_A Γ) Γ.2.2.2.1) {q : Nat} {e0 : va_E} (hD : va_D (rg_A Γ) (w ++ [(q, e0)])) {y : MethodName} {c' : ByteArray} {n' fr' lo' mc' ms' : Nat} (As : List Value) {post : Nat → va_W → Prop} (hM : rg_NC κ y c' n' fr' lo' mc' ms' As e0 post) {idx : Nat} (hv : rg_vm y c' n' none As.length) (hnm : y.name = "<init>") (him : Cond.instanceMethod y ∈ lw_gd) (hml : Cond.methodLink own idx y ∈ lw_gd)
    (hR : fr' + 1 ≤ fr ∧ 8 + (n' + 11) + lo' ≤ lo) (hcs : cells + mc' ≤ cm ∧ slots + ms' ≤ sm) (hst : st = As.reverse ++ .ref q :: rest) (hroom : (rest.map fun v => v.category).sum ≤ 8) (d : decode cc pc = .ok (.invokespecial idx, 3))
    (kk : ∀ w1, post q w1 → va_D (rg_A Γ) (w ++ w1) → rg_J κ Γ nL (cells + mc') (slots + ms') (pc + 3) lv rest (w ++ w1)) : rg_J κ Γ nL cells slots pc lv st (w ++ [(q, e0)]) := by
  obtain ⟨p, e, R, s, m, args, below, meth, c, A, H0, Q⟩ := Γ
  obtain ⟨hx, hb, hmx, hown, hts, hK, hA, ⟨hfr, hlo, hcm, hsm⟩, hlk, hnest, hexw, hH0⟩ := F
  subst hH0
  intro H locs ls hP hS h
  subst hst
  obtain ⟨hP1, hP2⟩ := rg_P_app.mp hP
  have hAq : A q := rg_Dlast hD
  have hsub : ∀ x, rg_fr q H.size x → A x := by
    rintro x (z | z)
    · rw [z]; exact hAq
    · exact hA x (Nat.le_trans hS.1 z)
  refine va_callv (va_runI (As := As) (rest := rest) ⟨hx, hb, hmx, hown, hts⟩ (hM H.size q) (cwI As.length hts (rg_wsG hv.1) rfl rfl rfl (hts _ hv.2.1) (hts _ hml) (hts _ him) hnm hv.2.2 ⟨Nat.le_trans hR.1 hfr, Nat.le_trans hR.2 hlo⟩) ⟨rg_Wn_blind, fun U hU hW => ⟨rfl, by rw [hU], by rw [hU]; exact hP2, va_K.moved hW.alike hK, rg_nest_warm hW hnest, rg_exw_warm hW hexw, rg_X_sub hX9 hW hS hU hsub⟩⟩ rfl rfl h.1 rfl (lv_room hroom) d ⟨by omega, by omega⟩) hS (fun x _ hx => hsub x hx) hsub (fun u t H1 locs1 ht hvm hw hB hz1 hk1 hS1 => ?_)
  have hlt : ∀ x ∈ w, x.1 < H.size := fun x hx => (rg_P_mem.mp hP1 x hx).lt
  refine kk u hw (rg_Dapp hD hlt hB.2 hsub) H1 locs1 ls (rg_P_app.mpr ⟨rg_P_mem.mpr (fun x hx => (rg_P_mem.mp hP1 x hx).kept (hk1 x.1 (hlt x hx) ?_)), by rw [← ht]; exact hB.1⟩) hS1 h
  rintro (z | z)
  · exact rg_Dne hD x hx z
  · exact absurd z (Nat.not_le.mpr (hlt x hx))
/-- .. that of a nest mate -/
theorem rg_JinitN (F : rg_FJ κ Γ cc own nL fr lo cm sm) (hX9 : rg_X κ (rg_A Γ) Γ.2.2.2.1) {q : Nat} {e0 : va_E} (hD : va_D (rg_A Γ) (w ++ [(q, e0)])) {y : MethodName} {c' : ByteArray} {n' fr' lo' mc' ms' : Nat} (As : List Value) {post : Nat → va_W → Prop} (hM : rg_NC κ y c' n' fr' lo' mc' ms' As e0 post) {idx : Nat} {host : String} (hv : rg_vm y c' n' none As.length) (hnm : y.name = "<init>") (him : Cond.instanceMethod y ∈ lw_gd) (hml : Cond.methodLinkNest own idx y host ∈ lw_nest)
    (hR : fr' + 1 ≤ fr ∧ 8 + (n' + 11) + lo' ≤ lo) (hcs : cells + mc' ≤ cm ∧ slots + ms' ≤ sm) (hst : st = As.reverse ++ .ref q :: rest) (hroom : (rest.map fun v => v.category).sum ≤ 8) (d : decode cc pc = .ok (.invokespecial idx, 3))
    (kk : ∀ w1, post q w1 → va_D (rg_A Γ) (w ++ w1) → rg_J κ Γ nL (cells + mc') (slots + ms') (pc + 3) lv rest (w ++ w1)) : rg_J κ Γ nL cells slots pc lv st (w ++ [(q, e0)]) := by
  obtain ⟨p, e, R, s, m, args, below, meth, c, A, H0, Q⟩ := Γ
  obtain ⟨hx, hb, hmx, hown, hts, hK, hA, ⟨hfr, hlo, hcm, hsm⟩, hlk, hnest, hexw, hH0⟩ := F
  subst hH0
  intro H locs ls hP hS h
  subst hst
  obtain ⟨hP1, hP2⟩ := rg_P_app.mp hP
  have hAq : A q := rg_Dlast hD
  have hsub : ∀ x, rg_fr q H.size x → A x := by
    rintro x (z | z)
    · rw [z]; exact hAq
    · exact hA x (Nat.le_trans hS.1 z)
  have cb := va_cnB (R := R) (s := s) (args := args) (own := own) (index := idx) (host := host) (rm := rg_rnn fr' lo' mc' ms') (mc := mc') (ms := ms') As.length hts (rg_wsG hv.1) rfl rfl rfl (hnest _ hml) (hts _ hv.2.1) hv.2.2 ⟨Nat.le_trans hR.1 hfr, Nat.le_trans hR.2 hlo⟩
  refine va_callv (va_runIN (As := As) (rest := rest) ⟨hx, hb, hmx, hown, hts⟩ (hM H.size q) ⟨cb, hnm, hts _ him⟩ ⟨rg_Wn_blind, fun U hU hW => ⟨rfl, by rw [hU], by rw [hU]; exact hP2, va_K.moved hW.alike hK, rg_nest_warm hW hnest, rg_exw_warm hW hexw, rg_X_sub hX9 hW hS hU hsub⟩⟩ rfl rfl h.1 rfl (lv_room hroom) d ⟨by omega, by omega⟩) hS (fun x _ hx => hsub x hx) hsub (fun u t H1 locs1 ht hvm hw hB hz1 hk1 hS1 => ?_)
  have hlt : ∀ x ∈ w, x.1 < H.size := fun x hx => (rg_P_mem.mp hP1 x hx).lt
  refine kk u hw (rg_Dapp hD hlt hB.2 hsub) H1 locs1 ls (rg_P_app.mpr ⟨rg_P_mem.mpr (fun x hx => (rg_P_mem.mp hP1 x hx).kept (hk1 x.1 (hlt x hx) ?_)), by rw [← ht]; exact hB.1⟩) hS1 h
  rintro (z | z)
  · exact rg_Dne hD x hx z
  · exact absurd z (Nat.not_le.mpr (hlt x hx))
/-- a static method over the whole of a world -/
theorem rg_JcallSV (F : rg_FN κ Γ cc own nL fr lo cm sm) {tb : List rg_Sh} {ad : Nat → Nat} {τ : rg_S} (had : ∀ i, 100 ≤ i → ad i = κ.2.2.2 i) (hD : va_D (rg_A Γ) (rg_wd (κ.1, κ.2.1, κ.2.2.1, ad) tb τ)) {y : MethodName} {c' : ByteArray} {n' fr' lo' : Nat} (As rest : List Value) {post : rg_S → Prop} (hM : rg_CV (κ.1, κ.2.1, κ.2.2.1, ad) tb y c' n' fr' lo' As τ post)
    {idx : Nat} (hv : rg_vm y c' n' none As.length) (hi : Cond.static y ∈ lw_gd) (hml : Cond.methodLink own idx y ∈ lw_gd) (hcs : cells ≤ cm ∧ slots ≤ sm)
    (hR : fr' + 1 ≤ fr ∧ 8 + (n' + 11) + lo' ≤ lo) (hst : st = As.reverse ++ rest) (hroom : (rest.map fun v => v.category).sum ≤ 8) (d : decode cc pc = .ok (.invokestatic idx, 3))
    (kk : ∀ (τ' : rg_S), post τ' → va_D (rg_A Γ) (rg_wd (κ.1, κ.2.1, κ.2.2.1, ad) tb τ') → rg_J κ Γ nL cells slots (pc + 3) lv rest (rg_wd (κ.1, κ.2.1, κ.2.2.1, ad) tb τ')) : rg_J κ Γ nL cells slots pc lv st (rg_wd (κ.1, κ.2.1, κ.2.2.1, ad) tb τ) := by
  obtain ⟨p, e, R, s, m, args, below, meth, c, A, H0, Q⟩ := Γ
  obtain ⟨⟨hx, hb, hmx, hown, hts, hK, hA, ⟨hfr, hlo, hcm, hsm⟩, hlk, hnest, hexw, hH0⟩, hin2, hX9⟩ := F
  subst hH0
  have hi0 : rg_inj (κ.1, κ.2.1, κ.2.2.1, ad) tb := fun i j hi hj z => by
    exact hD.1 i j _ _ (rg_wd_get τ (List.getElem?_eq_getElem hi)) (rg_wd_get τ (List.getElem?_eq_getElem hj)) z
  have hAi : ∀ i, i < tb.length → A (ad i) := fun i hi => by
    exact hD.2 i _ (rg_wd_get τ (List.getElem?_eq_getElem hi))
  have hX0 : rg_X (κ.1, κ.2.1, κ.2.2.1, ad) A s := by
    have e1 : (fun i => ad (100 + i)) = fun i => κ.2.2.2 (100 + i) := funext fun i => had _ (by omega)
    have e2 : (fun i => ad (200 + i)) = fun i => κ.2.2.2 (200 + i) := funext fun i => had _ (by omega)
    obtain ⟨x1, x2, x3, x4, x5, x6, x7⟩ := hX9
    exact ⟨x1, by show vk_S 18 lw_sl lw_sb (fun i => ad (100 + i)) (fun i => ad (200 + i)) A s s.heap; rw [e1, e2]; exact x2, x3, x4, x5, x6, fun i q hq => by show vk_R RX9 q.1 q.2 (ad (100 + i)) s; rw [had _ (by omega)]; exact x7 i q hq⟩
  intro H locs ls hP hS h
  subst hst
  have cb := callB_of (R := R) (s := s) (args := args) (own := own) (index := idx) (rm := rg_rm fr' lo') (mc := 0) (ms := 0) As.length hts (rg_wsG hv.1) rfl rfl rfl (hts _ hv.2.1) (hts _ hml) hv.2.2 ⟨Nat.le_trans hR.1 hfr, Nat.le_trans hR.2 hlo⟩
  have hsub := rg_WA_sub (κ := (κ.1, κ.2.1, κ.2.2.1, ad)) hAi hA hS.1
  refine va_callv (va_runS (As := As) (rest := rest) ⟨hx, hb, hmx, hown, hts⟩ (hM H.size) ⟨cb, hts _ hi⟩ ⟨rg_Wi_blind, fun U hU hW => ⟨rfl, by rw [hU], ⟨by rw [hU]; exact hP, va_K.moved hW.alike hK⟩, hi0, rg_nest_warm hW hnest, rg_X_sub hX0 hW hS hU hsub⟩⟩ rfl rfl h.1 rfl (lv_room hroom) d ⟨by omega, by omega⟩) hS (fun q _ hq => hsub q hq) hsub (fun u t H1 locs1 ht hvm hw hB hz1 hk1 hS1 => ?_)
  exact kk u hw (rg_wd_D (κ := (κ.1, κ.2.1, κ.2.2.1, ad)) hi0 hAi u) H1 locs1 ls (by rw [← ht]; exact hB.1) hS1 h
end RNJ
