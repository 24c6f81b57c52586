/-! The law's helpers: each calls one method of the class, and keeps its answer or tells which exception it was. -/
abbrev rg_tyo (co : ClassId × ClassId) : List (ClassId × FieldType) := [(co.1, .long), (co.2, .double)]
def lw_ncp : List (String × String) := [("java/lang/IllegalStateException", "java/lang/UnsupportedOperationException"), ("java/lang/IllegalStateException", "java/lang/IllegalArgumentException"), ("java/lang/IllegalStateException", "java/lang/IndexOutOfBoundsException"),
  ("java/lang/UnsupportedOperationException", "java/lang/IllegalStateException"), ("java/lang/UnsupportedOperationException", "java/lang/IllegalArgumentException"), ("java/lang/UnsupportedOperationException", "java/lang/IndexOutOfBoundsException"),
  ("java/lang/IllegalArgumentException", "java/lang/IllegalStateException"), ("java/lang/IllegalArgumentException", "java/lang/UnsupportedOperationException"), ("java/lang/IllegalArgumentException", "java/lang/IndexOutOfBoundsException"),
  ("java/lang/IndexOutOfBoundsException", "java/lang/IllegalStateException"), ("java/lang/IndexOutOfBoundsException", "java/lang/UnsupportedOperationException"), ("java/lang/IndexOutOfBoundsException", "java/lang/IllegalArgumentException")]
theorem rg_ncp_moved {u U : State} (h : u.vm.Alike U.vm) (hn : ∀ z ∈ lw_ncp, va_Nc z.1 z.2 u) : ∀ z ∈ lw_ncp, va_Nc z.1 z.2 U := fun z hz => va_Nc.moved h (hn z hz)
abbrev rg_eL (co : ClassId × ClassId) (o : Nat) (f : Nat → Int64) : Nat × va_E := (o, .inl (co.1, 1, .inr (.inl f)))
abbrev rg_eD (co : ClassId × ClassId) (o : Nat) (f : Nat → UInt64) : Nat × va_E := (o, .inl (co.2, 1, .inr (.inr (.inr (.inl f)))))
def rg_HA (κ : rg_K) (os : List Nat) (sz : Nat) : Nat → Prop := fun q => rg_WA κ rg_tC sz q ∨ q ∈ os
def rg_Wh (κ : rg_K) (co : ClassId × ClassId) (σ : rg_S) (os : List Nat) (ws : va_W) (sz : Nat) (U : State) : Prop :=
  U.heap.size = sz ∧ rg_Wp κ rg_tC σ U ∧ va_P κ.2.1 vwCl ws U.heap ∧ va_K κ.2.1 vwCl (rg_tyo co) U ∧ rg_inj κ rg_tC ∧ (∀ i, i < rg_tC.length → ¬ κ.2.2.2 i ∈ os) ∧ (∀ w ∈ lw_nest, va_Nw w U) ∧ (∀ w ∈ lw_exw, va_Nw w U) ∧ (∀ z ∈ lw_ncp, va_Nc z.1 z.2 U) ∧ rg_X κ (rg_HA κ os sz) U
theorem rg_Wh_blind {κ : rg_K} {co : ClassId × ClassId} {σ : rg_S} {os : List Nat} {ws : va_W} {sz : Nat} {as : List Value} : FrameBlind (va_Pc as (rg_Wh κ co σ os ws sz)) := fun a U g mk q => by
  obtain ⟨q0, q1, ⟨qP, qK⟩, q2, q3, q4, q5, q6, q7, q8, q9⟩ := q
  exact ⟨q0, q1, ⟨qP, va_K.moved (u := U) (U := U.calling g mk a) (Vm.Alike.refl U.vm) qK⟩, q2, va_K.moved (u := U) (U := U.calling g mk a) (Vm.Alike.refl U.vm) q3, q4, q5, rg_nest_same (u := U) (U := U.calling g mk a) rfl q6, rg_exw_same (u := U) (U := U.calling g mk a) rfl q7, rg_ncp_moved (u := U) (U := U.calling g mk a) (Vm.Alike.refl U.vm) q8, rg_X_same (u := U) (U := U.calling g mk a) rfl rfl q9⟩
abbrev rg_wsH (y : MethodName) (cc : ByteArray) (n : Nat) (hh : List (Nat × Nat × Nat × Nat)) : List Cond := Cond.codeWith y cc n (some .int) hh :: lw_gd
def rg_HC (κ : rg_K) (co : ClassId × ClassId) (y : MethodName) (cc : ByteArray) (n : Nat) (hh : List (Nat × Nat × Nat × Nat)) (as : List Value) (σ : rg_S) (os : List Nat) (ws : va_W) (post : Int → rg_S → va_W → Prop) : Prop :=
  ∀ sz : Nat, Met κ.1 y (rg_wsH y cc n hh) (rg_rx 11 200) (va_Pc as (rg_Wh κ co σ os ws sz)) (va_Qi (fun (r : Int32) (u : Int × rg_S × va_W) => r = rg_I u.1 ∧ post u.1 u.2.1 u.2.2) (fun u t => rg_Wp κ rg_tC u.2.1 t ∧ va_P κ.2.1 vwCl u.2.2 t.heap) (rg_HA κ os sz)) 1 6 (rg_HA κ os sz)
def rg_FH (κ : rg_K) (Γ : rg_C) (co : ClassId × ClassId) (cc : ByteArray) (own : String) (n : Nat) (os : List Nat) (hh : List (Nat × Nat × Nat × Nat)) : Prop :=
  rg_FJ κ Γ cc own n 11 200 1 6 ∧ rg_FW κ Γ rg_tC (fun q => q ∈ os) ∧ va_K κ.2.1 vwCl (rg_tyo co) Γ.2.2.2.1 ∧ (∀ q ∈ os, Γ.2.2.2.2.2.2.2.2.2.1 q) ∧ Γ.2.2.2.2.2.2.2.2.1.exceptionTable.toList = tableOf hh ∧ ∀ z ∈ lw_ncp, va_Nc z.1 z.2 Γ.2.2.2.1
def rg_RH (κ : rg_K) (Γ : rg_C) (cc : ByteArray) (n : Nat) (post : Int → rg_S → va_W → Prop) : Prop :=
  ∀ (cells slots pc : Nat) (lv : List (Nat × Value)) (r : Int) (σ' : rg_S) (ws' : va_W), cells ≤ 1 → slots ≤ 6 → decode cc pc = .ok (.ireturn, 1) → post r σ' ws' → rg_J κ Γ n cells slots pc lv [.int (rg_I r)] (rg_wd κ rg_tC σ' ++ ws')
theorem rg_metH {l : Launch} {y : MethodName} {ws ws' : List Cond} {rm : Room} {Pc : Array Value → State → Prop} {Qc : Array Value → State → Outcome → State → Prop} {mc ms : Nat} {free : Addr → Prop} {cc : ByteArray} {maxL : Nat} {ret : Option FieldType} {hh : List (Nat × Nat × Nat × Nat)}
    (hy : plainName y.cls = true) (hw : ws = Cond.codeWith y cc maxL ret hh :: ws')
    (body : ∀ p e s m args below meth c s₁, BodyLoose p l y (headSpec ws rm) cc maxL ret e s m args below meth c s₁ → c.maxLocals = maxL → Pc args s →
      W p l e (headSpec ws rm).room s m args below meth c s.heap [] 0 0 (MQ below Qc args s mc ms free) (entryFrame m args maxL)) : Met l y ws rm Pc Qc mc ms free := by
  refine MetFree.of_bodyS (code := cc) (maxLocals := maxL) (ret := ret) hy ?_ ?_
  · intro args s m h hn
    obtain ⟨m9, meth, c, hn9, h1, h2, h3, h4, -, h5, h6, -⟩ := Cond.codeWith_spec (atoms_spec (ws := ws) h _ (by rw [hw]; exact List.mem_cons_self))
    cases hn.symm.trans hn9
    exact ⟨meth, c, h1, h2, h3, h4, h5, h6⟩
  · intro p e s m args below meth c s₁ B hml hP _
    have hh0 : s₁.heap = s.heap := by rw [B.state]; rfl
    obtain ⟨t, a1, o, b1, b2, b3⟩ := body p e s m args below meth c s₁ B hml hP s₁ hh0 (Stand.of_body B)
    exact ⟨t, o, a1, b1, b2, ⟨b3.1, b3.2⟩⟩
theorem rg_entH {κ : rg_K} {co : ClassId × ClassId} {y : MethodName} {cc : ByteArray} {n : Nat} {hh : List (Nat × Nat × Nat × Nat)} {as : List Value} {σ : rg_S} {os : List Nat} {ws : va_W} {post : Int → rg_S → va_W → Prop} (lv : List (Nat × Value)) (hlv : lv_args 0 as = lv) (hy : plainName y.cls = true) (hn : (lg_sl as).length ≤ n)
    (body : ∀ Γ : rg_C, rg_FH κ Γ co cc y.cls n os hh → rg_RH κ Γ cc n post → rg_J κ Γ n 0 0 0 lv [] (rg_wd κ rg_tC σ ++ ws)) : rg_HC κ co y cc n hh as σ os ws post := by
  intro sz
  refine rg_metH (cc := cc) (maxL := n) (ret := some .int) (hh := hh) hy rfl ?_
  intro p e s m args below meth c s₁ B hml hv
  obtain ⟨rfl, hsz, ⟨hP, hK⟩, hPw, hKo, hinj, hdis, hnest, hexw, hncp, hX9⟩ := hv
  subst hsz
  have hts := atoms_spec (ws := rg_wsH y cc n hh) B.pre
  have hown : s.vm.findClass y.cls = some m.cls := findClass_of_methodNamed B.named
  have hlocks : meth.locks = false := B.notSynchronized
  have htab : c.exceptionTable.toList = tableOf hh := vx_table (x := y) B (hts _ List.mem_cons_self)
  have hl := lv_entry as (n := n) hn
  rw [lg_entry_eq]
  rw [hlv] at hl
  refine body (p, e, (headSpec (rg_wsH y cc n hh) (rg_rx 11 200)).room, s, m, as.toArray, below, meth, c, rg_HA κ os s.heap.size, s.heap, MQ below (va_Qi (fun (r : Int32) (u : Int × rg_S × va_W) => r = rg_I u.1 ∧ post u.1 u.2.1 u.2.2) (fun u t => rg_Wp κ rg_tC u.2.1 t ∧ va_P κ.2.1 vwCl u.2.2 t.heap) (rg_HA κ os s.heap.size)) as.toArray s 1 6 (rg_HA κ os s.heap.size)) ?_ ?_ s.heap [] _ (rg_P_app.mpr ⟨hP, hPw⟩) va_S.rf hl
  · exact ⟨⟨B.exec, B.bytes, hml, hown, fun w h => hts w (List.mem_cons_of_mem _ h), hK, fun q h => Or.inl (Or.inr h), ⟨Nat.le_refl _, Nat.le_refl _, Nat.le_refl _, Nat.le_refl _⟩, hlocks, hnest, hexw, rfl⟩, ⟨hinj, fun i hi => Or.inl (Or.inl ⟨i, hi, rfl⟩), hX9, hdis⟩, hKo, fun q hq => Or.inr hq, htab, hncp⟩
  · intro cells slots pc lv r σ' ws' hc1 hs6 d hp H locs ls hPx hS h
    obtain ⟨hPa, hPb⟩ := rg_P_app.mp hPx
    exact W.widen hc1 hs6 (W.iret B.exec B.bytes B.returns (fun t ht hW => ⟨⟨_, (r, σ', ws'), rfl, ⟨rfl, hp⟩, ⟨by rw [ht]; exact hPa, va_K.moved hW.alike hK⟩, by rw [ht]; exact hPb⟩, hS.F ht⟩) hS.2.2 d hlocks)
section RJO
variable {κ : rg_K} {Γ : rg_C} {cc : ByteArray} {own : String} {n cells slots pc : Nat} {lv : List (Nat × Value)} {rest : List Value} {σ : rg_S} {co : ClassId × ClassId} {o : Nat} {hh : List (Nat × Nat × Nat × Nat)}
theorem rg_HD1 {A : Nat → Prop} {e : va_E} (hi0 : rg_inj κ rg_tC) (hAi : ∀ i, i < rg_tC.length → A (κ.2.2.2 i)) (hdis : ∀ i, i < rg_tC.length → ¬ κ.2.2.2 i ∈ [o]) (hA : A o) : va_D A (rg_wd κ rg_tC σ ++ [(o, e)]) := by
  refine va_D.app (rg_wd_D hi0 hAi σ) ⟨fun i j p q hp hq _ => ?_, fun k q hq => ?_⟩ (fun i j p q hp hq z => ?_)
  · have h1 := (List.getElem?_eq_some_iff.mp hp).1
    have h2 := (List.getElem?_eq_some_iff.mp hq).1
    simp only [List.length_singleton] at h1 h2
    omega
  · have h2 := List.mem_of_getElem? hq
    rw [List.mem_singleton] at h2
    rw [h2]; exact hA
  · obtain ⟨h1, h2⟩ := rg_wd_addr hp
    have h3 := List.mem_of_getElem? hq
    rw [List.mem_singleton] at h3
    exact hdis i h1 (by rw [← h2, z, h3]; exact List.mem_singleton.mpr rfl)
theorem rg_at44 {e : Nat × va_E} : (rg_wd κ rg_tC σ ++ [e])[44]? = some e := by
  rw [List.getElem?_append_right (by rw [rg_wd_len]; exact Nat.le_of_ble_eq_true rfl), rg_wd_len]; rfl
theorem rg_setl {α : Type} (l : List α) (e e' : α) : (l ++ [e]).set l.length e' = l ++ [e'] := by
  induction l with
  | nil => rfl
  | cons a l ih => exact congrArg (List.cons a) ih
theorem rg_set44 {e e' : Nat × va_E} : (rg_wd κ rg_tC σ ++ [e]).set 44 e' = rg_wd κ rg_tC σ ++ [e'] := by
  have h := rg_setl (rg_wd κ rg_tC σ) e e'
  rw [rg_wd_len] at h
  exact h
theorem rg_I0c : (rg_I 0).toNatClampNeg = 0 := rg_I_clamp (n := 0) (by decide)
theorem rg_I0in : vp_in (rg_I 0) 1 := rg_I_in (n := 0) (by decide) (by decide)
theorem rg_Jlast (FH : rg_FH κ Γ co cc own n [o] hh) {f : Nat → Int64} {x : Int64} (d : decode cc pc = .ok (.lastore, 1)) (kk : rg_J κ Γ n cells slots (pc + 1) lv rest (rg_wd κ rg_tC σ ++ [rg_eL co o (vp_updL f 0 x)])) : rg_J κ Γ n cells slots pc lv (.long x :: .int (rg_I 0) :: .ref o :: rest) (rg_wd κ rg_tC σ ++ [rg_eL co o f]) := by
  obtain ⟨p, e, R, s, m, args, below, meth, c, A, H0, Q⟩ := Γ
  obtain ⟨⟨hx, hb, hmx, hown, hts, hK, hA, -, hlk, hnest, hexw, hH0⟩, ⟨hi0, hAi, hX9, hdis⟩, hKo, hoA, htab, hncp⟩ := FH
  intro H locs ls hP hS h
  refine va_last hx hb hKo hP (rg_HD1 hi0 hAi hdis (hoA o (List.mem_singleton.mpr rfl))) hS 44 0 rg_at44 rfl rg_I0in d (fun H1 locs1 hP1 hD1 hS1 => ?_)
  rw [rg_set44, rg_I0c] at hP1
  exact kk H1 locs1 ls hP1 hS1 h
theorem rg_Jdast (FH : rg_FH κ Γ co cc own n [o] hh) {f : Nat → UInt64} {x : UInt64} (d : decode cc pc = .ok (.dastore, 1)) (kk : rg_J κ Γ n cells slots (pc + 1) lv rest (rg_wd κ rg_tC σ ++ [rg_eD co o (vf_upd f 0 x)])) : rg_J κ Γ n cells slots pc lv (.double x :: .int (rg_I 0) :: .ref o :: rest) (rg_wd κ rg_tC σ ++ [rg_eD co o f]) := by
  obtain ⟨p, e, R, s, m, args, below, meth, c, A, H0, Q⟩ := Γ
  obtain ⟨⟨hx, hb, hmx, hown, hts, hK, hA, -, hlk, hnest, hexw, hH0⟩, ⟨hi0, hAi, hX9, hdis⟩, hKo, hoA, htab, hncp⟩ := FH
  intro H locs ls hP hS h
  refine va_dast hx hb hKo hP (rg_HD1 hi0 hAi hdis (hoA o (List.mem_singleton.mpr rfl))) hS 44 1 rg_at44 rfl rg_I0in d (fun H1 locs1 hP1 hD1 hS1 => ?_)
  rw [rg_set44, rg_I0c] at hP1
  exact kk H1 locs1 ls hP1 hS1 h
end RJO
