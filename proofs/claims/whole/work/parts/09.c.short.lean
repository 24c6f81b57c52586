/-! shortName: a text by its place. -/
def rg_sn (c q : Int) : Nat := if c = 0 then (if q = 0 then 5 else 6) else if c = 1 then 7 else if c = 2 then 8 else if c = 3 then 9 else if c = 4 then 10 else if c = 5 then 11 else if c = 6 then 12 else if c = 7 then 13 else if c = 8 then 14 else 15
theorem rg_sn_lt (c q : Int) : rg_sn c q < 18 := by
  unfold rg_sn
  repeat' split
  all_goals omega
/-- a method that answers one of the class's texts -/
def rg_CR (κ : rg_K) (tb : List rg_Sh) (y : MethodName) (cc : ByteArray) (n : Nat) (rt : String) (fr lo : Nat) (as : List Value) (σ : rg_S) (post : Nat → rg_S → Prop) : Prop :=
  ∀ sz : Nat, Met κ.1 y (rg_ws y cc n (some (.object rt))) (rg_rm fr lo) (va_Pc as (rg_Wi κ tb σ sz)) (va_Qr (fun (u : Nat × rg_S) => post u.1 u.2) (fun u a t => a = κ.2.2.2 (100 + u.1) ∧ rg_Wp κ tb u.2 t) (rg_WA κ tb sz)) 0 0 (rg_WA κ tb sz)
theorem rg_entR {κ : rg_K} {tb : List rg_Sh} {y : MethodName} {cc : ByteArray} {n : Nat} {rt : String} {fr lo : Nat} {as : List Value} {σ : rg_S} {post : Nat → rg_S → Prop} (lv : List (Nat × Value)) (hlv : lv_args 0 as = lv) (hy : plainName y.cls = true) (hn : (lg_sl as).length ≤ n)
    (body : ∀ Γ : rg_C, rg_F κ Γ tb cc y.cls n fr lo → (∀ (pc : Nat) (lv : List (Nat × Value)) (k : Nat) (σ' : rg_S), decode cc pc = .ok (.areturn, 1) → post k σ' → rg_G κ Γ tb n 0 0 pc lv [.ref (κ.2.2.2 (100 + k))] σ') → rg_G κ Γ tb n 0 0 0 lv [] σ) : rg_CR κ tb y cc n rt fr lo as σ post := by
  intro sz
  refine Met.ofW (cc := cc) (maxL := n) (ret := some (.object rt)) hy rfl ?_
  intro p e s m args below meth c s₁ B hml hv
  obtain ⟨rfl, hsz, ⟨hP, hK⟩, hinj, hnest, hX9⟩ := hv
  subst hsz
  have hts := atoms_spec (ws := rg_ws y cc n (some (.object rt))) B.pre
  have hown : s.vm.findClass y.cls = some m.cls := findClass_of_methodNamed B.named
  have hlocks : meth.locks = false := B.notSynchronized
  have hl := lv_entry as (n := n) hn
  rw [lg_entry_eq]
  rw [hlv] at hl
  have F : rg_F κ (p, e, (headSpec (rg_ws y cc n (some (.object rt))) (rg_rm fr lo)).room, s, m, as.toArray, below, meth, c, rg_WA κ tb s.heap.size, s.heap, MQ below (va_Qr (fun (u : Nat × rg_S) => post u.1 u.2) (fun u a t => a = κ.2.2.2 (100 + u.1) ∧ rg_Wp κ tb u.2 t) (rg_WA κ tb s.heap.size)) as.toArray s 0 0 (rg_WA κ tb s.heap.size)) tb cc y.cls n fr lo :=
    ⟨B.exec, B.bytes, hml, hown, fun w h => hts w (List.mem_cons_of_mem _ h), hK, hinj, fun i hi => Or.inl ⟨i, hi, rfl⟩, fun q h => Or.inr h, Nat.le_refl _, Nat.le_refl _, hlocks, hnest, rfl, hX9⟩
  refine body _ F ?_ s.heap [] _ hP va_S.rf hl
  intro pc lv k σ' d hp H locs ls hP1 hS h
  exact W.aret (v := .ref (κ.2.2.2 (100 + k))) B.exec B.bytes B.returns (Or.inl ⟨rt, rfl⟩) (Or.inr ⟨_, rfl⟩) (fun t ht hW => ⟨⟨(k, σ'), _, rfl, hp, rfl, ⟨by rw [ht]; exact hP1, va_K.moved hW.alike hK⟩⟩, hS.F ht⟩) hS.2.2 d hlocks
theorem rg_callSR {κ : rg_K} {Γ : rg_C} {tb : List rg_Sh} {cc : ByteArray} {own : String} {nL fr lo pc : Nat} {lv : List (Nat × Value)} {st : List Value} {σ : rg_S} (F : rg_F κ Γ tb cc own nL fr lo) {y : MethodName} {c' : ByteArray} {n' fr' lo' : Nat} {rt : String} (As rest : List Value) (k0 : Nat) (hM : rg_CR κ tb y c' n' rt fr' lo' As σ (fun k σ9 => k = k0 ∧ σ9 = σ))
    {idx : Nat} (hv : rg_vm y c' n' (some (.object rt)) As.length) (hi : Cond.static y ∈ lw_gd) (hml : Cond.methodLink own idx y ∈ lw_gd)
    (hR : fr' + 1 ≤ fr ∧ 8 + (n' + 11) + lo' ≤ lo) (hst : st = As.reverse ++ rest) (hroom : (rest.map fun v => v.category).sum ≤ 8) (d : decode cc pc = .ok (.invokestatic idx, 3))
    (kk : rg_G κ Γ tb nL 0 0 (pc + 3) lv (.ref (κ.2.2.2 (100 + k0)) :: rest) σ) : rg_G κ Γ tb nL 0 0 pc lv st σ := by
  obtain ⟨p, e, R, s, m, args, below, meth, c, A, H0, Q⟩ := Γ
  obtain ⟨hx, hb, hmx, hown, hts, hK, hi0, hAi, hA, hfr, hlo, hlk, hnest, hH0, hX9⟩ := F
  subst hH0
  intro H locs ls hP hS h
  subst hst
  have cb := callB_of (R := R) (s := s) (args := args) (own := own) (index := idx) (rm := rg_rm fr' lo') (mc := 0) (ms := 0) As.length hts (rg_wsG hv.1) rfl rfl rfl (hts _ hv.2.1) (hts _ hml) hv.2.2 ⟨Nat.le_trans hR.1 hfr, Nat.le_trans hR.2 hlo⟩
  have hsub := rg_WA_sub hAi hA hS.1
  refine va_callr (va_runS (As := As) (rest := rest) ⟨hx, hb, hmx, hown, hts⟩ (hM H.size) ⟨cb, hts _ hi⟩ ⟨rg_Wi_blind, fun U hU hW => ⟨rfl, by rw [hU], ⟨by rw [hU]; exact hP, va_K.moved hW.alike hK⟩, hi0, rg_nest_warm hW hnest, rg_X_sub hX9 hW hS hU hsub⟩⟩ rfl rfl h.1 rfl (lv_room hroom) d ⟨Nat.zero_le _, Nat.zero_le _⟩) hS (fun q _ hq => hsub q hq) hsub (fun u ra t H1 locs1 ht hvm hw hB hz1 hk1 hS1 => ?_)
  obtain ⟨u1, u2⟩ := u
  obtain ⟨hw1, hw2⟩ := hw
  dsimp only at hw1 hw2
  subst hw1; subst hw2
  obtain ⟨rfl, hB2⟩ := hB
  exact kk H1 locs1 ls (by rw [← ht]; exact hB2.1) hS1 h
set_option maxRecDepth 100000 in
theorem k_X9_shortName (κ : rg_K) (tb : List rg_Sh) (σ : rg_S) (c q : Int) (hc : -1 ≤ c ∧ c ≤ 8) (hq : rg_Rg q) : rg_CR κ tb yX9_shortName cX9_shortName 2 "java/lang/String" 0 0 [.int (rg_I c), .int (rg_I q)] σ (fun k σ9 => k = rg_sn c q ∧ σ9 = σ) := by
  refine rg_entR [(0, .int (rg_I c)), (1, .int (rg_I q))] rfl (by decide +kernel) (Nat.le_of_ble_eq_true rfl) (fun Γ F hR => ?_)
  refine rg_iload_n F 0 0 rfl dX9_shortName_0 rfl ?_
  by_cases z0 : c = 0
  · refine rg_tableIn F (off := 51) 52 dX9_shortName_1 (by omega) (by omega) (by omega) (by rw [z0]; decide) (by decide) ?_
    refine rg_iload_n F 1 1 rfl dX9_shortName_52 rfl ?_
    refine rg_if_ne F 62 dX9_shortName_53 (by decide) hq (fun h => ?_) (fun h => ?_)
    · refine rg_ldcT F 6 k_str_336 dX9_shortName_62 ?_
      exact hR _ _ 6 _ dX9_shortName_65 ⟨by unfold rg_sn; rw [if_pos z0, if_neg h], rfl⟩
    · refine rg_ldcT F 5 k_str_334 dX9_shortName_56 ?_
      refine rg_goto F 65 dX9_shortName_59 (by decide) ?_
      exact hR _ _ 5 _ dX9_shortName_65 ⟨by unfold rg_sn; rw [if_pos z0, if_pos h], rfl⟩
  by_cases z1 : c = 1
  · refine rg_tableIn F (off := 65) 66 dX9_shortName_1 (by omega) (by omega) (by omega) (by rw [z1]; decide) (by decide) ?_
    refine rg_ldcT F 7 k_str_338 dX9_shortName_66 ?_
    exact hR _ _ 7 _ dX9_shortName_69 ⟨by unfold rg_sn; rw [if_neg z0, if_pos z1], rfl⟩
  by_cases z2 : c = 2
  · refine rg_tableIn F (off := 69) 70 dX9_shortName_1 (by omega) (by omega) (by omega) (by rw [z2]; decide) (by decide) ?_
    refine rg_ldcT F 8 k_str_340 dX9_shortName_70 ?_
    exact hR _ _ 8 _ dX9_shortName_73 ⟨by unfold rg_sn; rw [if_neg z0, if_neg z1, if_pos z2], rfl⟩
  by_cases z3 : c = 3
  · refine rg_tableIn F (off := 73) 74 dX9_shortName_1 (by omega) (by omega) (by omega) (by rw [z3]; decide) (by decide) ?_
    refine rg_ldcT F 9 k_str_342 dX9_shortName_74 ?_
    exact hR _ _ 9 _ dX9_shortName_77 ⟨by unfold rg_sn; rw [if_neg z0, if_neg z1, if_neg z2, if_pos z3], rfl⟩
  by_cases z4 : c = 4
  · refine rg_tableIn F (off := 77) 78 dX9_shortName_1 (by omega) (by omega) (by omega) (by rw [z4]; decide) (by decide) ?_
    refine rg_ldcT F 10 k_str_344 dX9_shortName_78 ?_
    exact hR _ _ 10 _ dX9_shortName_81 ⟨by unfold rg_sn; rw [if_neg z0, if_neg z1, if_neg z2, if_neg z3, if_pos z4], rfl⟩
  by_cases z5 : c = 5
  · refine rg_tableIn F (off := 81) 82 dX9_shortName_1 (by omega) (by omega) (by omega) (by rw [z5]; decide) (by decide) ?_
    refine rg_ldcT F 11 k_str_346 dX9_shortName_82 ?_
    exact hR _ _ 11 _ dX9_shortName_85 ⟨by unfold rg_sn; rw [if_neg z0, if_neg z1, if_neg z2, if_neg z3, if_neg z4, if_pos z5], rfl⟩
  by_cases z6 : c = 6
  · refine rg_tableIn F (off := 85) 86 dX9_shortName_1 (by omega) (by omega) (by omega) (by rw [z6]; decide) (by decide) ?_
    refine rg_ldcT F 12 k_str_348 dX9_shortName_86 ?_
    exact hR _ _ 12 _ dX9_shortName_89 ⟨by unfold rg_sn; rw [if_neg z0, if_neg z1, if_neg z2, if_neg z3, if_neg z4, if_neg z5, if_pos z6], rfl⟩
  by_cases z7 : c = 7
  · refine rg_tableIn F (off := 89) 90 dX9_shortName_1 (by omega) (by omega) (by omega) (by rw [z7]; decide) (by decide) ?_
    refine rg_ldcT F 13 k_str_350 dX9_shortName_90 ?_
    exact hR _ _ 13 _ dX9_shortName_93 ⟨by unfold rg_sn; rw [if_neg z0, if_neg z1, if_neg z2, if_neg z3, if_neg z4, if_neg z5, if_neg z6, if_pos z7], rfl⟩
  by_cases z8 : c = 8
  · refine rg_tableIn F (off := 93) 94 dX9_shortName_1 (by omega) (by omega) (by omega) (by rw [z8]; decide) (by decide) ?_
    refine rg_ldcT F 14 k_str_352 dX9_shortName_94 ?_
    exact hR _ _ 14 _ dX9_shortName_97 ⟨by unfold rg_sn; rw [if_neg z0, if_neg z1, if_neg z2, if_neg z3, if_neg z4, if_neg z5, if_neg z6, if_neg z7, if_pos z8], rfl⟩
  · refine rg_tableOut F 98 dX9_shortName_1 (by omega) (Or.inl (by omega)) (by decide) ?_
    refine rg_ldcT F 15 k_str_354 dX9_shortName_98 ?_
    exact hR _ _ 15 _ dX9_shortName_101 ⟨by unfold rg_sn; rw [if_neg z0, if_neg z1, if_neg z2, if_neg z3, if_neg z4, if_neg z5, if_neg z6, if_neg z7, if_neg z8], rfl⟩
theorem rg_sh9 (o : Nat → Int) (L : Nat) (xs ys : List Int) (a : Int) : rg_up (rg_up o 1 a) 1 ((L + xs.length + ys.length : Nat) : Int) = rg_up o 1 ((L + (xs ++ ys).length : Nat) : Int) := by
  rw [rg_up_up, List.length_append, Nat.add_assoc]
/-- a score's text -/
def rg_sw (dis sc en pe : Nat → Int) (j : Nat) : List Int := (if dis j = 0 then rg_text 1 else rg_text 4) ++ rg_tt (sc j) ++ rg_text (rg_sn (en j) (pe j)) ++ (if dis j = 0 then rg_text 5 else rg_text 16)
theorem rg_sw_0 {dis sc en pe : Nat → Int} {j : Nat} (h : dis j = 0) : rg_sw dis sc en pe j = rg_text 1 ++ rg_tt (sc j) ++ rg_text (rg_sn (en j) (pe j)) ++ rg_text 5 := by unfold rg_sw; rw [if_pos h, if_pos h]
theorem rg_sw_1 {dis sc en pe : Nat → Int} {j : Nat} (h : ¬ dis j = 0) : rg_sw dis sc en pe j = rg_text 4 ++ rg_tt (sc j) ++ rg_text (rg_sn (en j) (pe j)) ++ rg_text 16 := by unfold rg_sw; rw [if_neg h, if_neg h]
/-- the scores of a line -/
def rg_rt (ins dis sc en pe : Nat → Int) (b : Nat) : Nat → List Int
  | 0 => []
  | r + 1 => if ins (r * 40 + b) = 0 then rg_rt ins dis sc en pe b r else rg_rt ins dis sc en pe b r ++ rg_sw dis sc en pe (r * 40 + b)
theorem rg_rt_n {ins dis sc en pe : Nat → Int} {b r : Nat} (h : ins (r * 40 + b) = 0) : rg_rt ins dis sc en pe b (r + 1) = rg_rt ins dis sc en pe b r := if_pos h
theorem rg_rt_y {ins dis sc en pe : Nat → Int} {b r : Nat} (h : ¬ ins (r * 40 + b) = 0) : rg_rt ins dis sc en pe b (r + 1) = rg_rt ins dis sc en pe b r ++ rg_sw dis sc en pe (r * 40 + b) := if_neg h
theorem rg_rt_mono (ins dis sc en pe : Nat → Int) (b : Nat) {r s : Nat} (h : r ≤ s) : (rg_rt ins dis sc en pe b r).length ≤ (rg_rt ins dis sc en pe b s).length := by
  induction s with
  | zero => rw [show r = 0 by omega]; exact Nat.le_refl _
  | succ s ih =>
    by_cases z : r = s + 1
    · rw [z]; exact Nat.le_refl _
    · refine Nat.le_trans (ih (by omega)) ?_
      rw [rg_rt]
      split
      · exact Nat.le_refl _
      · rw [List.length_append]; omega
/-- a line's text -/
def rg_ln (ins dis sc en pe gr nt : Nat → Int) (nr k b : Nat) : List Int := rg_nx ((k : Nat) : Int) ++ rg_text 0 ++ rg_nx ((b : Nat) : Int) ++ rg_text 1 ++ rg_tt (nt b) ++ rg_text 2 ++ rg_tt (gr b) ++ rg_text 3 ++ rg_rt ins dis sc en pe b nr ++ rg_text 17
