/-! Methods that throw: the words of a throw, the contract, the rows. -/
def lw_exw : List Cond := [.declares ⟨"java/lang/RuntimeException", "<init>", "(Ljava/lang/String;)V"⟩, .declares ⟨"java/lang/Exception", "<init>", "(Ljava/lang/String;)V"⟩, .declares ⟨"java/lang/Throwable", "<init>", "(Ljava/lang/String;)V"⟩, .castable "java/lang/IllegalStateException" "java/lang/IllegalStateException", .castable "java/lang/UnsupportedOperationException" "java/lang/UnsupportedOperationException", .castable "java/lang/IllegalArgumentException" "java/lang/IllegalArgumentException", .castable "java/lang/IndexOutOfBoundsException" "java/lang/IndexOutOfBoundsException"]
theorem k_xg_89 : (vx_atS RX9 89 "java/lang/IllegalStateException" ["java/lang/RuntimeException", "java/lang/Exception"]).filter goodWord = [71, 654, 663, 668, 671, 673, 655, 656, 90, 91, 657, 662, 669, 689, 644, 690, 646, 691, 648, 658, 660, 650, 685, 686, 688, 650, 676, 677, 678, 679, 679, 680, 681, 682, 682, 683, 684, 685, 675, 633, 641, 642, 643, 645, 647, 649, 653, 652, 651].filterMap (fun i => lw_tbl[i]?) := by decide +kernel
theorem k_xh_89 : (vx_atS RX9 89 "java/lang/IllegalStateException" ["java/lang/RuntimeException", "java/lang/Exception"]).filter (fun w => !goodWord w) = [.declares ⟨"java/lang/RuntimeException", "<init>", "(Ljava/lang/String;)V"⟩, .declares ⟨"java/lang/Exception", "<init>", "(Ljava/lang/String;)V"⟩, .declares ⟨"java/lang/Throwable", "<init>", "(Ljava/lang/String;)V"⟩, .castable "java/lang/IllegalStateException" "java/lang/IllegalStateException"] := by decide +kernel
theorem k_xo_89 : ∀ w ∈ Cond.classLink RX9 85 "java/lang/IllegalStateException" :: Cond.initialized "java/lang/IllegalStateException" :: vx_atS RX9 89 "java/lang/IllegalStateException" ["java/lang/RuntimeException", "java/lang/Exception"], vx_ot w = true := by decide +kernel
theorem k_cx_85 : Cond.classLink RX9 85 "java/lang/IllegalStateException" ∈ lw_gd := lw_in 632 (by decide +kernel) (by decide +kernel)
theorem k_ix_89 : Cond.initialized "java/lang/IllegalStateException" ∈ lw_gd := lw_in 74 (by decide +kernel) (by decide +kernel)
theorem k_xg_100 : (vx_atS RX9 100 "java/lang/UnsupportedOperationException" ["java/lang/RuntimeException", "java/lang/Exception"]).filter goodWord = [71, 654, 663, 668, 671, 673, 655, 656, 90, 91, 657, 662, 669, 689, 644, 690, 646, 691, 648, 658, 660, 650, 685, 686, 688, 650, 711, 712, 713, 679, 679, 680, 681, 682, 682, 683, 684, 685, 710, 701, 703, 667, 704, 705, 706, 707, 653, 652, 708].filterMap (fun i => lw_tbl[i]?) := by decide +kernel
theorem k_xh_100 : (vx_atS RX9 100 "java/lang/UnsupportedOperationException" ["java/lang/RuntimeException", "java/lang/Exception"]).filter (fun w => !goodWord w) = [.declares ⟨"java/lang/RuntimeException", "<init>", "(Ljava/lang/String;)V"⟩, .declares ⟨"java/lang/Exception", "<init>", "(Ljava/lang/String;)V"⟩, .declares ⟨"java/lang/Throwable", "<init>", "(Ljava/lang/String;)V"⟩, .castable "java/lang/UnsupportedOperationException" "java/lang/UnsupportedOperationException"] := by decide +kernel
theorem k_xo_100 : ∀ w ∈ Cond.classLink RX9 96 "java/lang/UnsupportedOperationException" :: Cond.initialized "java/lang/UnsupportedOperationException" :: vx_atS RX9 100 "java/lang/UnsupportedOperationException" ["java/lang/RuntimeException", "java/lang/Exception"], vx_ot w = true := by decide +kernel
theorem k_cx_96 : Cond.classLink RX9 96 "java/lang/UnsupportedOperationException" ∈ lw_gd := lw_in 700 (by decide +kernel) (by decide +kernel)
theorem k_ix_100 : Cond.initialized "java/lang/UnsupportedOperationException" ∈ lw_gd := lw_in 75 (by decide +kernel) (by decide +kernel)
theorem k_xg_109 : (vx_atS RX9 109 "java/lang/IllegalArgumentException" ["java/lang/RuntimeException", "java/lang/Exception"]).filter goodWord = [71, 654, 663, 668, 671, 673, 655, 656, 90, 91, 657, 662, 669, 689, 644, 690, 646, 691, 648, 658, 660, 650, 685, 686, 688, 650, 739, 740, 741, 679, 679, 680, 681, 682, 682, 683, 684, 685, 738, 729, 731, 665, 732, 733, 734, 735, 653, 652, 736].filterMap (fun i => lw_tbl[i]?) := by decide +kernel
theorem k_xh_109 : (vx_atS RX9 109 "java/lang/IllegalArgumentException" ["java/lang/RuntimeException", "java/lang/Exception"]).filter (fun w => !goodWord w) = [.declares ⟨"java/lang/RuntimeException", "<init>", "(Ljava/lang/String;)V"⟩, .declares ⟨"java/lang/Exception", "<init>", "(Ljava/lang/String;)V"⟩, .declares ⟨"java/lang/Throwable", "<init>", "(Ljava/lang/String;)V"⟩, .castable "java/lang/IllegalArgumentException" "java/lang/IllegalArgumentException"] := by decide +kernel
theorem k_xo_109 : ∀ w ∈ Cond.classLink RX9 105 "java/lang/IllegalArgumentException" :: Cond.initialized "java/lang/IllegalArgumentException" :: vx_atS RX9 109 "java/lang/IllegalArgumentException" ["java/lang/RuntimeException", "java/lang/Exception"], vx_ot w = true := by decide +kernel
theorem k_cx_105 : Cond.classLink RX9 105 "java/lang/IllegalArgumentException" ∈ lw_gd := lw_in 728 (by decide +kernel) (by decide +kernel)
theorem k_ix_109 : Cond.initialized "java/lang/IllegalArgumentException" ∈ lw_gd := lw_in 76 (by decide +kernel) (by decide +kernel)
theorem k_xg_177 : (vx_atS RX9 177 "java/lang/IndexOutOfBoundsException" ["java/lang/RuntimeException", "java/lang/Exception"]).filter goodWord = [71, 654, 663, 668, 671, 673, 655, 656, 90, 91, 657, 662, 669, 689, 644, 690, 646, 691, 648, 658, 660, 650, 685, 686, 688, 650, 777, 778, 779, 679, 679, 680, 681, 682, 682, 683, 684, 685, 776, 767, 769, 666, 770, 771, 772, 773, 653, 652, 774].filterMap (fun i => lw_tbl[i]?) := by decide +kernel
theorem k_xh_177 : (vx_atS RX9 177 "java/lang/IndexOutOfBoundsException" ["java/lang/RuntimeException", "java/lang/Exception"]).filter (fun w => !goodWord w) = [.declares ⟨"java/lang/RuntimeException", "<init>", "(Ljava/lang/String;)V"⟩, .declares ⟨"java/lang/Exception", "<init>", "(Ljava/lang/String;)V"⟩, .declares ⟨"java/lang/Throwable", "<init>", "(Ljava/lang/String;)V"⟩, .castable "java/lang/IndexOutOfBoundsException" "java/lang/IndexOutOfBoundsException"] := by decide +kernel
theorem k_xo_177 : ∀ w ∈ Cond.classLink RX9 173 "java/lang/IndexOutOfBoundsException" :: Cond.initialized "java/lang/IndexOutOfBoundsException" :: vx_atS RX9 177 "java/lang/IndexOutOfBoundsException" ["java/lang/RuntimeException", "java/lang/Exception"], vx_ot w = true := by decide +kernel
theorem k_cx_173 : Cond.classLink RX9 173 "java/lang/IndexOutOfBoundsException" ∈ lw_gd := lw_in 766 (by decide +kernel) (by decide +kernel)
theorem k_ix_177 : Cond.initialized "java/lang/IndexOutOfBoundsException" ∈ lw_gd := lw_in 77 (by decide +kernel) (by decide +kernel)
abbrev rg_xn : List String := ["java/lang/RuntimeException", "java/lang/Exception"]
/-- what the tables say of a throw of E in the class, by the places ik (its class) and ic (its constructor) -/
def rg_tf (ik ic : Nat) (E : String) : Prop := Bundle.fit E = true ∧ Cond.classLink RX9 ik E ∈ lw_gd ∧ Cond.initialized E ∈ lw_gd ∧ (∀ w ∈ (vx_atS RX9 ic E rg_xn).filter goodWord, w ∈ lw_gd) ∧ (∀ w ∈ (vx_atS RX9 ic E rg_xn).filter (fun w => !goodWord w), w ∈ lw_exw) ∧ ∀ w ∈ Cond.classLink RX9 ik E :: Cond.initialized E :: vx_atS RX9 ic E rg_xn, vx_ot w = true
theorem rg_tf_of {ik ic : Nat} {E : String} {ps : List Nat} {ns : List Cond} (h1 : Bundle.fit E = true) (h2 : Cond.classLink RX9 ik E ∈ lw_gd) (h3 : Cond.initialized E ∈ lw_gd) (h4 : (vx_atS RX9 ic E rg_xn).filter goodWord = ps.filterMap (fun i => lw_tbl[i]?)) (h5 : (vx_atS RX9 ic E rg_xn).filter (fun w => !goodWord w) = ns) (h6 : ∀ w ∈ ns, w ∈ lw_exw) (h7 : ∀ w ∈ Cond.classLink RX9 ik E :: Cond.initialized E :: vx_atS RX9 ic E rg_xn, vx_ot w = true) : rg_tf ik ic E := by
  refine ⟨h1, h2, h3, fun w hw => ?_, fun w hw => h6 w (h5 ▸ hw), h7⟩
  have g := (List.mem_filter.mp hw).2
  rw [h4] at hw
  obtain ⟨i, -, hi⟩ := List.mem_filterMap.mp hw
  exact List.mem_filter.mpr ⟨List.mem_of_getElem? hi, g⟩
theorem k_tf_ISE : rg_tf 85 89 "java/lang/IllegalStateException" := rg_tf_of (by decide +kernel) k_cx_85 k_ix_89 k_xg_89 k_xh_89 (by decide +kernel) k_xo_89
theorem k_tf_UOE : rg_tf 96 100 "java/lang/UnsupportedOperationException" := rg_tf_of (by decide +kernel) k_cx_96 k_ix_100 k_xg_100 k_xh_100 (by decide +kernel) k_xo_100
theorem k_tf_IAE : rg_tf 105 109 "java/lang/IllegalArgumentException" := rg_tf_of (by decide +kernel) k_cx_105 k_ix_109 k_xg_109 k_xh_109 (by decide +kernel) k_xo_109
theorem k_tf_IOB : rg_tf 173 177 "java/lang/IndexOutOfBoundsException" := rg_tf_of (by decide +kernel) k_cx_173 k_ix_177 k_xg_177 k_xh_177 (by decide +kernel) k_xo_177
theorem rg_exw_tab : ∀ w ∈ lw_exw, w.onTables = true := by decide +kernel
theorem rg_exw_same {u U : State} (h : u.vm = U.vm) (hn : ∀ w ∈ lw_exw, va_Nw w u) : ∀ w ∈ lw_exw, va_Nw w U := fun w hw => va_Nw.same (rg_exw_tab w hw) h (hn w hw)
theorem rg_exw_warm {s U : State} (hW : s.WarmedH U.vm) (hn : ∀ w ∈ lw_exw, va_Nw w s) : ∀ w ∈ lw_exw, va_Nw w U := by
  intro w hw
  have h1 := hn w hw
  simp only [lw_exw, List.mem_cons, List.not_mem_nil, or_false] at hw
  rcases hw with rfl | rfl | rfl | rfl | rfl | rfl | rfl
  · exact va_Nw.warmD hW h1
  · exact va_Nw.warmD hW h1
  · exact va_Nw.warmD hW h1
  · exact va_Nw.warmC hW h1
  · exact va_Nw.warmC hW h1
  · exact va_Nw.warmC hW h1
  · exact va_Nw.warmC hW h1
def rg_Wj (κ : rg_K) (tb : List rg_Sh) (σ : rg_S) (sz : Nat) (U : State) : Prop := rg_Wi κ tb σ sz U ∧ ∀ w ∈ lw_exw, va_Nw w U
theorem rg_Wj_blind {κ : rg_K} {tb : List rg_Sh} {σ : rg_S} {sz : Nat} {as : List Value} : FrameBlind (va_Pc as (rg_Wj κ tb σ sz)) := fun a U g mk q => by
  obtain ⟨q0, q1, q2⟩ := q
  obtain ⟨-, r⟩ := rg_Wi_blind (as := as) a U g mk ⟨q0, q1⟩
  exact ⟨q0, r, rg_exw_same (u := U) (U := U.calling g mk a) rfl q2⟩
abbrev rg_rx (fr lo : Nat) : Room := { frames := fr, cells := 1, slots := 6, locals := lo }
def rg_XC (κ : rg_K) (tb : List rg_Sh) (σ' : rg_S) (E : String) (sz : Nat) : String → State → State → Prop := vx_X (fun _ : Unit => True) (fun E' _ t => E' = E ∧ rg_Wp κ tb σ' t) (rg_WA κ tb sz)
/-- a method that throws E over the world tb, and leaves σ' -/
def rg_TX (κ : rg_K) (tb : List rg_Sh) (y : MethodName) (cc : ByteArray) (n : Nat) (ret : Option FieldType) (fr lo : Nat) (as : List Value) (σ σ' : rg_S) (E : String) : Prop :=
  ∀ sz : Nat, vx_Met κ.1 y (rg_ws y cc n ret) (rg_rx fr lo) (va_Pc as (rg_Wj κ tb σ sz)) (fun _ _ _ _ => False) (rg_XC κ tb σ' E sz) 1 6 (rg_WA κ tb sz)
def rg_RX (κ : rg_K) (Γ : rg_C) (tb : List rg_Sh) (σ' : rg_S) (E : String) : Prop :=
  match Γ with
  | (_, _, R, s, _, args, below, _, c, A, _, Q) => 1 ≤ R.cells ∧ 6 ≤ R.slots ∧ (∀ x ∈ c.exceptionTable.toList, False) ∧ (∀ w ∈ lw_exw, va_Nw w s) ∧ A = rg_WA κ tb s.heap.size ∧ Q = vx_MQ below (fun _ _ _ _ => False) (rg_XC κ tb σ' E s.heap.size) args s 1 6 (rg_WA κ tb s.heap.size)
theorem rg_entX {κ : rg_K} {tb : List rg_Sh} {y : MethodName} {cc : ByteArray} {n : Nat} {ret : Option FieldType} {fr lo : Nat} {as : List Value} {σ σ' : rg_S} {E : String} (lv : List (Nat × Value)) (hlv : lv_args 0 as = lv) (hy : plainName y.cls = true) (hn : (lg_sl as).length ≤ n)
    (body : ∀ Γ : rg_C, rg_F κ Γ tb cc y.cls n fr lo → rg_RX κ Γ tb σ' E → rg_G κ Γ tb n 0 0 0 lv [] σ) : rg_TX κ tb y cc n ret fr lo as σ σ' E := by
  intro sz
  refine vx_ofW (cc := cc) (maxL := n) (ret := ret) hy rfl ?_
  intro p e s m args below meth c s₁ B hml htab hv
  obtain ⟨rfl, ⟨hsz, ⟨hP, hK⟩, hinj, hnest, hX9⟩, hex⟩ := hv
  subst hsz
  have hts := atoms_spec (ws := rg_ws y cc n ret) B.pre
  have hown : s.vm.findClass y.cls = some m.cls := findClass_of_methodNamed B.named
  have hlocks : meth.locks = false := B.notSynchronized
  have hl := lv_entry as (n := n) hn
  rw [lg_entry_eq]
  rw [hlv] at hl
  refine body (p, e, (headSpec (rg_ws y cc n ret) (rg_rx fr lo)).room, s, m, as.toArray, below, meth, c, rg_WA κ tb s.heap.size, s.heap, vx_MQ below (fun _ _ _ _ => False) (rg_XC κ tb σ' E s.heap.size) as.toArray s 1 6 (rg_WA κ tb s.heap.size)) ?_ ?_ s.heap [] _ hP va_S.rf hl
  · exact ⟨B.exec, B.bytes, hml, hown, fun w h => hts w (List.mem_cons_of_mem _ h), hK, hinj, fun i hi => Or.inl ⟨i, hi, rfl⟩, fun q h => Or.inr h, Nat.le_refl _, Nat.le_refl _, hlocks, hnest, rfl, hX9⟩
  · exact ⟨Nat.le_refl _, Nat.le_refl _, htab, hex, rfl, rfl⟩
section RGX
variable {κ : rg_K} {Γ : rg_C} {tb : List rg_Sh} {cc : ByteArray} {own : String} {nL fr lo pc : Nat} {lv : List (Nat × Value)} {st : List Value} {σ σ' : rg_S} {E : String}
theorem rg_outX {p : Program} {l : Launch} {e : Env} {R : Room} {s : State} {m : MethodId} {args : Array Value} {below : List Frame} {meth : Method} {c : Code} {H : Heap} {locs : List Loc} {ls : Array Slot} {st0 rest : List Value}
    (hK : va_K κ.2.1 vwCl (rg_tys κ.2.2.1) s) (hlk : meth.locks = false) (r3 : ∀ x ∈ c.exceptionTable.toList, False) (hsub : ∀ q, rg_WA κ tb H.size q → rg_WA κ tb s.heap.size q) (hS : va_S (rg_WA κ tb s.heap.size) s.heap H locs)
    (hr : vx_Run p l e R s m args below meth c H locs 0 0 1 6 (F0 m pc ls st0) rest (fun _ _ _ => False) (rg_XC κ tb σ' E H.size) (rg_WA κ tb H.size)) :
    W p l e R s m args below meth c H locs 0 0 (vx_MQ below (fun _ _ _ _ => False) (rg_XC κ tb σ' E s.heap.size) args s 1 6 (rg_WA κ tb s.heap.size)) (F0 m pc ls st0) := by
  intro T hT X
  rcases hr T hT X with ⟨v, st₀, t, T', L, h0, X', hL, e1, e2, hf, st⟩ | ⟨q, st₀, t, T', L, E', ce, h0, X', hL, e1, e2, ⟨u, hp, ⟨hE, hb⟩, hF⟩, hce, hcv, hcl, st⟩
  · exact hf.elim
  · obtain ⟨k1, k2, k3⟩ := vx_keep h0 e1 hS (fun q _ h => hsub q h) hsub hL hF
    obtain ⟨t2, a1, b1⟩ := (vx_out (Qc := fun _ _ _ _ => False) (XC := rg_XC κ tb σ' E s.heap.size) (free := rg_WA κ tb s.heap.size) (mc := 1) (ms := 6) (H := T'.heap) (pc := pc) (ls := ls) (rest := rest) (E := E') (args := args) (fun x hx => (r3 x hx).elim) hlk (by rw [e1]; exact hce) hcv hcl (fun t' ht' hal => ⟨(), trivial, ⟨hE, ⟨by rw [ht', e1]; exact hb.1, va_K.moved hal hK⟩⟩, k3.F ht'⟩) k3.2.2 (Nat.le_refl _) (Nat.le_refl _)) T' rfl X'
    exact ⟨t2, st.trans a1, b1⟩
theorem rg_callVX (F : rg_F κ Γ tb cc own nL fr lo) (hR : rg_RX κ Γ tb σ' E) {y : MethodName} {c' : ByteArray} {n' fr' lo' : Nat} {ret' : Option FieldType} (As rest : List Value) (k0 : Nat) (hM : rg_TX κ tb y c' n' ret' fr' lo' (.ref (κ.2.2.2 k0) :: As) σ σ' E)
    {ci idx N : Nat} {T : u_T} {fs : List (Option Nat)} (hs : tb[k0]? = some (.inr (ci, fs))) (hc : vwCl[ci]? = some (y.cls, T, N)) (hv : rg_vm y c' n' ret' As.length) (hi : Cond.instanceMethod y ∈ lw_gd ∧ Cond.selects y.cls y y ∈ lw_gd) (hml : Cond.methodLink own idx y ∈ lw_gd)
    (hRm : fr' + 1 ≤ fr ∧ 8 + (n' + 11) + lo' ≤ lo) (hst : st = As.reverse ++ .ref (κ.2.2.2 k0) :: rest) (hroom : (rest.map fun v => v.category).sum ≤ 8) (d : decode cc pc = .ok (.invokevirtual idx, 3)) : rg_G κ Γ tb nL 0 0 pc lv st σ := by
  obtain ⟨p, e, R, s, m, args, below, meth, c, A, H0, Q⟩ := Γ
  obtain ⟨hx, hb, hmx, hown, hts, hK, hi0, hAi, hA, hfr, hlo, hlk, hnest, hH0, hX9⟩ := F
  obtain ⟨r1, r2, r3, r4, rA, rQ⟩ := hR
  subst hH0
  subst rA
  subst rQ
  intro H locs ls hP hS h
  subst hst
  have cb := callB_of (R := R) (s := s) (args := args) (own := own) (index := idx) (rm := rg_rx fr' lo') (mc := 1) (ms := 6) As.length hts (rg_wsG hv.1) rfl rfl rfl (hts _ hv.2.1) (hts _ hml) hv.2.2 ⟨Nat.le_trans hRm.1 hfr, Nat.le_trans hRm.2 hlo⟩
  have hsub := rg_WA_sub hAi hA hS.1
  exact rg_outX hK hlk r3 hsub hS (vx_runV (As := As) (rest := rest) (C := y.cls) ⟨hx, hb, hmx, hown, hts⟩ (hM H.size) ⟨cb, hts _ hi.1, hts _ hi.2⟩ ⟨rg_Wj_blind, va_recv hK hP hc (rg_wd_get σ hs), fun U hU hW => ⟨rfl, ⟨by rw [hU], ⟨by rw [hU]; exact hP, va_K.moved hW.alike hK⟩, hi0, rg_nest_warm hW hnest, rg_X_sub hX9 hW hS hU hsub⟩, rg_exw_warm hW r4⟩⟩ rfl rfl h.1 rfl (lv_room hroom) d ⟨by omega, by omega⟩)
theorem rg_callSX (F : rg_F κ Γ tb cc own nL fr lo) (hR : rg_RX κ Γ tb σ' E) {y : MethodName} {c' : ByteArray} {n' fr' lo' : Nat} {ret' : Option FieldType} (As rest : List Value) (hM : rg_TX κ tb y c' n' ret' fr' lo' As σ σ' E)
    {idx : Nat} (hv : rg_vm y c' n' ret' As.length) (hi : Cond.static y ∈ lw_gd) (hml : Cond.methodLink own idx y ∈ lw_gd)
    (hRm : fr' + 1 ≤ fr ∧ 8 + (n' + 11) + lo' ≤ lo) (hst : st = As.reverse ++ rest) (hroom : (rest.map fun v => v.category).sum ≤ 8) (d : decode cc pc = .ok (.invokestatic idx, 3)) : rg_G κ Γ tb nL 0 0 pc lv st σ := by
  obtain ⟨p, e, R, s, m, args, below, meth, c, A, H0, Q⟩ := Γ
  obtain ⟨hx, hb, hmx, hown, hts, hK, hi0, hAi, hA, hfr, hlo, hlk, hnest, hH0, hX9⟩ := F
  obtain ⟨r1, r2, r3, r4, rA, rQ⟩ := hR
  subst hH0
  subst rA
  subst rQ
  intro H locs ls hP hS h
  subst hst
  have cb := callB_of (R := R) (s := s) (args := args) (own := own) (index := idx) (rm := rg_rx fr' lo') (mc := 1) (ms := 6) As.length hts (rg_wsG hv.1) rfl rfl rfl (hts _ hv.2.1) (hts _ hml) hv.2.2 ⟨Nat.le_trans hRm.1 hfr, Nat.le_trans hRm.2 hlo⟩
  have hsub := rg_WA_sub hAi hA hS.1
  exact rg_outX hK hlk r3 hsub hS (vx_runS (As := As) (rest := rest) ⟨hx, hb, hmx, hown, hts⟩ (hM H.size) ⟨cb, hts _ hi⟩ ⟨rg_Wj_blind, fun U hU hW => ⟨rfl, ⟨by rw [hU], ⟨by rw [hU]; exact hP, va_K.moved hW.alike hK⟩, hi0, rg_nest_warm hW hnest, rg_X_sub hX9 hW hS hU hsub⟩, rg_exw_warm hW r4⟩⟩ rfl rfl h.1 rfl (lv_room hroom) d ⟨by omega, by omega⟩)
theorem rg_thrS (F : rg_F κ Γ tb cc RX9 nL fr lo) (hR : rg_RX κ Γ tb σ E) {ik ic is : Nat} {text : String} (i : Nat) (hi : lw_strs[i]? = some (is, text)) (ht : rg_tf ik ic E)
    (d0 : decode cc pc = .ok (.new ik, 3)) (d3 : decode cc (pc + 3) = .ok (.dup, 1)) (d4 : decode cc (pc + 4) = .ok (.ldc is, 2)) (d6 : decode cc (pc + 6) = .ok (.invokespecial ic, 3)) (d9 : decode cc (pc + 9) = .ok (.athrow, 1)) (hfr6 : 6 ≤ fr) (hlo82 : 82 ≤ lo) : rg_G κ Γ tb nL 0 0 pc lv [] σ := by
  obtain ⟨p, e, R, s, m, args, below, meth, c, A, H0, Q⟩ := Γ
  obtain ⟨hx, hb, hmx, hown, hts, hK, hi0, hAi, hA, hfr, hlo, hlk, hnest, hH0, hX9⟩ := F
  obtain ⟨r1, r2, r3, r4, rA, rQ⟩ := hR
  obtain ⟨t1, t2, t3, t4, t5, t6⟩ := ht
  subst hH0
  subst rA
  subst rQ
  intro H locs ls hP hS h
  obtain ⟨x1, -, -, -, x5, x6, x7⟩ := hX9
  exact vx_throwS (names := rg_xn) hx hb x1 hown t1 (by decide +kernel) (hts _ t2) (hts _ t3) (x7 i _ hi) (vx_hat (B := lw_exw) (fun w hw => hts _ (t4 w hw)) t5 (fun w hw => va_Nw.use (rg_exw_tab w hw) (r4 w hw))) t6 x5 x6 hS (h.1.trans hmx.symm) d0 d3 d4 d6 d9 (fun x hx => (r3 x hx).elim) (show 2 + 3 < R.frames by omega) (show 0 + (13 * (2 + 1) + 43) ≤ R.locals by omega) (by omega) (by omega) hlk
    (fun t hal hz hq => ⟨(), trivial, ⟨rfl, ⟨hP.kept (fun k q hk => hq q.1 (hP k q hk).lt), va_K.moved hal hK⟩⟩, ⟨Nat.le_trans hS.1 hz, fun q h1 h2 => (hq q (Nat.lt_of_lt_of_le h1 hS.1)).trans (hS.2.1 q h1 h2)⟩⟩) hS.2.2 (Nat.le_refl _) (Nat.le_refl _)
theorem rg_thrW (F : rg_F κ Γ tb cc RX9 nL fr lo) (hR : rg_RX κ Γ tb σ E) {ik ic is : Nat} {text : String} (i : Nat) (hi : lw_strs[i]? = some (is, text)) (ht : rg_tf ik ic E)
    (d0 : decode cc pc = .ok (.new ik, 3)) (d3 : decode cc (pc + 3) = .ok (.dup, 1)) (d4 : decode cc (pc + 4) = .ok (.ldc_w is, 3)) (d7 : decode cc (pc + 7) = .ok (.invokespecial ic, 3)) (d10 : decode cc (pc + 10) = .ok (.athrow, 1)) (hfr6 : 6 ≤ fr) (hlo82 : 82 ≤ lo) : rg_G κ Γ tb nL 0 0 pc lv [] σ := by
  obtain ⟨p, e, R, s, m, args, below, meth, c, A, H0, Q⟩ := Γ
  obtain ⟨hx, hb, hmx, hown, hts, hK, hi0, hAi, hA, hfr, hlo, hlk, hnest, hH0, hX9⟩ := F
  obtain ⟨r1, r2, r3, r4, rA, rQ⟩ := hR
  obtain ⟨t1, t2, t3, t4, t5, t6⟩ := ht
  subst hH0
  subst rA
  subst rQ
  intro H locs ls hP hS h
  obtain ⟨x1, -, -, -, x5, x6, x7⟩ := hX9
  exact vx_throwSW (names := rg_xn) hx hb x1 hown t1 (by decide +kernel) (hts _ t2) (hts _ t3) (x7 i _ hi) (vx_hat (B := lw_exw) (fun w hw => hts _ (t4 w hw)) t5 (fun w hw => va_Nw.use (rg_exw_tab w hw) (r4 w hw))) t6 x5 x6 hS (h.1.trans hmx.symm) d0 d3 d4 d7 d10 (fun x hx => (r3 x hx).elim) (show 2 + 3 < R.frames by omega) (show 0 + (13 * (2 + 1) + 43) ≤ R.locals by omega) (by omega) (by omega) hlk
    (fun t hal hz hq => ⟨(), trivial, ⟨rfl, ⟨hP.kept (fun k q hk => hq q.1 (hP k q hk).lt), va_K.moved hal hK⟩⟩, ⟨Nat.le_trans hS.1 hz, fun q h1 h2 => (hq q (Nat.lt_of_lt_of_le h1 hS.1)).trans (hS.2.1 q h1 h2)⟩⟩) hS.2.2 (Nat.le_refl _) (Nat.le_refl _)
end RGX
