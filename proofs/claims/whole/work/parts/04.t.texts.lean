/-! The JDK's text methods over the class's texts: the i-th one lies at the address 100 + i, its bytes at 200 + i. -/
def lw_cb (i k : Nat) : Int := ((lw_sb.getD i []).getD k 0).toInt
theorem lw_sl_ok : ∀ i, i < 18 → lw_sl.getD i 0 ≤ 3 := by decide +kernel
theorem lw_cb_ok : ∀ i, i < 18 → ∀ k, k < lw_sl.getD i 0 → 0 ≤ lw_cb i k ∧ lw_cb i k < 128 ∧ ((((lw_sb.getD i []).getD k 0 &&& rg_I 255).toUInt32 % 65536).toInt32 = rg_I (lw_cb i k)) ∧ narrow .char (.int (rg_I (lw_cb i k))) = .int (rg_I (lw_cb i k)) := by decide +kernel
def rg_RN (κ : rg_K) (Γ : rg_C) (tb : List rg_Sh) (cc : ByteArray) (n : Nat) (ret : FieldType) (post : Int → rg_S → Prop) : Prop :=
  ∀ (pc : Nat) (lv : List (Nat × Value)) (r : Int) (σ' : rg_S), decode cc pc = .ok (.ireturn, 1) → narrow ret (.int (rg_I r)) = .int (rg_I r) → post r σ' → rg_G κ Γ tb n 0 0 pc lv [.int (rg_I r)] σ'
theorem rg_entN {κ : rg_K} {tb : List rg_Sh} {y : MethodName} {cc : ByteArray} {n : Nat} {ret : FieldType} {fr lo : Nat} {as : List Value} {σ : rg_S} {post : Int → rg_S → Prop} (lv : List (Nat × Value)) (hlv : lv_args 0 as = lv) (hy : plainName y.cls = true) (hn : (lg_sl as).length ≤ n)
    (body : ∀ Γ : rg_C, rg_F κ Γ tb cc y.cls n fr lo → rg_RN κ Γ tb cc n ret post → rg_G κ Γ tb n 0 0 0 lv [] σ) : rg_CI κ tb y cc n ret fr lo as σ post := by
  intro sz
  refine Met.ofW (cc := cc) (maxL := n) (ret := some ret) hy rfl ?_
  intro p e s m args below meth c s₁ B hml hv
  obtain ⟨rfl, hsz, ⟨hP, hK⟩, hinj, hnest, hX9⟩ := hv
  subst hsz
  have hts := atoms_spec (ws := rg_ws y cc n (some ret)) B.pre
  have hown : s.vm.findClass y.cls = some m.cls := findClass_of_methodNamed B.named
  have hlocks : meth.locks = false := B.notSynchronized
  have hl := lv_entry as (n := n) hn
  rw [lg_entry_eq]
  rw [hlv] at hl
  have F : rg_F κ (p, e, (headSpec (rg_ws y cc n (some ret)) (rg_rm fr lo)).room, s, m, as.toArray, below, meth, c, rg_WA κ tb s.heap.size, s.heap, MQ below (va_Qi (fun (r : Int32) (u : Int × rg_S) => r = rg_I u.1 ∧ post u.1 u.2) (fun u t => rg_Wp κ tb u.2 t) (rg_WA κ tb s.heap.size)) as.toArray s 0 0 (rg_WA κ tb s.heap.size)) tb cc y.cls n fr lo :=
    ⟨B.exec, B.bytes, hml, hown, fun w h => hts w (List.mem_cons_of_mem _ h), hK, hinj, fun i hi => Or.inl ⟨i, hi, rfl⟩, fun q h => Or.inr h, Nat.le_refl _, Nat.le_refl _, hlocks, hnest, rfl, hX9⟩
  refine body _ F ?_ s.heap [] _ hP va_S.rf hl
  intro pc lv r σ' d hnar hp H locs ls hP1 hS h
  exact W.zret B.exec B.bytes B.returns hnar (fun t ht hW => ⟨⟨_, (r, σ'), rfl, ⟨rfl, hp⟩, ⟨by rw [ht]; exact hP1, va_K.moved hW.alike hK⟩⟩, hS.F ht⟩) hS.2.2 d hlocks
section RT
variable {κ : rg_K} {Γ : rg_C} {tb : List rg_Sh} {cc : ByteArray} {own : String} {nL fr lo pc : Nat} {lv : List (Nat × Value)} {st rest : List Value} {σ : rg_S}
/-- a text's own fields -/
theorem rg_tcoder (F : rg_F κ Γ tb cc RJ0 nL fr lo) (i : Nat) (hi : i < 18) (d : decode cc pc = .ok (.getfield 15, 3)) (kk : rg_G κ Γ tb nL 0 0 (pc + 3) lv (.int (rg_I 0) :: rest) σ) : rg_G κ Γ tb nL 0 0 pc lv (.ref (κ.2.2.2 (100 + i)) :: rest) σ := by
  obtain ⟨p, e, R, s, m, args, below, meth, c, A, H0, Q⟩ := Γ
  obtain ⟨hx, hb, hmx, hown, hts, hK, hi0, hAi, hA, hfr, hlo, hlk, hnest, hH0, hX9⟩ := F
  subst hH0
  intro H locs ls hP hS h
  exact vk_getf (own := RJ0) hx hb (hX9.2.1.1 i hi).2.1 hS hown (hts _ k_fl_J0_15) (fun _ z => z) d (by rw [← rg_I_0]; exact kk H locs ls hP hS h)
theorem rg_tvalue (F : rg_F κ Γ tb cc RJ0 nL fr lo) (i : Nat) (hi : i < 18) (d : decode cc pc = .ok (.getfield 9, 3)) (kk : rg_G κ Γ tb nL 0 0 (pc + 3) lv (.ref (κ.2.2.2 (200 + i)) :: rest) σ) : rg_G κ Γ tb nL 0 0 pc lv (.ref (κ.2.2.2 (100 + i)) :: rest) σ := by
  obtain ⟨p, e, R, s, m, args, below, meth, c, A, H0, Q⟩ := Γ
  obtain ⟨hx, hb, hmx, hown, hts, hK, hi0, hAi, hA, hfr, hlo, hlk, hnest, hH0, hX9⟩ := F
  subst hH0
  intro H locs ls hP hS h
  exact vk_getf (own := RJ0) hx hb (hX9.2.1.1 i hi).2.2.1 hS hown (hts _ k_fl_J0_9) (fun _ z => z) d (kk H locs ls hP hS h)
theorem rg_tlen (F : rg_F κ Γ tb cc own nL fr lo) (i : Nat) (hi : i < 18) (d : decode cc pc = .ok (.arraylength, 1)) (kk : rg_G κ Γ tb nL 0 0 (pc + 1) lv (.int (rg_I ((lw_sl.getD i 0 : Nat) : Int)) :: rest) σ) : rg_G κ Γ tb nL 0 0 pc lv (.ref (κ.2.2.2 (200 + i)) :: rest) σ := by
  obtain ⟨p, e, R, s, m, args, below, meth, c, A, H0, Q⟩ := Γ
  obtain ⟨hx, hb, hmx, hown, hts, hK, hi0, hAi, hA, hfr, hlo, hlk, hnest, hH0, hX9⟩ := F
  subst hH0
  intro H locs ls hP hS h
  exact va_tlen hx hb (hX9.2.1.1 i hi).2.2.2 hS (rg_I_nat _).symm d (kk H locs ls hP hS h)
theorem rg_tbyte (F : rg_F κ Γ tb cc own nL fr lo) (i k : Nat) (hi : i < 18) (hk : k < lw_sl.getD i 0) (d : decode cc pc = .ok (.baload, 1)) (kk : rg_G κ Γ tb nL 0 0 (pc + 1) lv (.int ((lw_sb.getD i []).getD k 0) :: rest) σ) : rg_G κ Γ tb nL 0 0 pc lv (.int (rg_I ((k : Nat) : Int)) :: .ref (κ.2.2.2 (200 + i)) :: rest) σ := by
  obtain ⟨p, e, R, s, m, args, below, meth, c, A, H0, Q⟩ := Γ
  obtain ⟨hx, hb, hmx, hown, hts, hK, hi0, hAi, hA, hfr, hlo, hlk, hnest, hH0, hX9⟩ := F
  subst hH0
  intro H locs ls hP hS h
  have h3 := lw_sl_ok i hi
  exact va_tb hx hb (hX9.2.1.1 i hi).2.2.2 hS (rg_I_in hk (by omega)) (by rw [rg_I_clamp (by omega)]) d (kk H locs ls hP hS h)
theorem rg_tcomp (F : rg_F κ Γ tb cc RJ0 nL fr lo) (d : decode cc pc = .ok (.getstatic 38, 3)) (kk : rg_G κ Γ tb nL 0 0 (pc + 3) lv (.int (rg_I 1) :: rest) σ) : rg_G κ Γ tb nL 0 0 pc lv rest σ := by
  obtain ⟨p, e, R, s, m, args, below, meth, c, A, H0, Q⟩ := Γ
  obtain ⟨hx, hb, hmx, hown, hts, hK, hi0, hAi, hA, hfr, hlo, hlk, hnest, hH0, hX9⟩ := F
  subst hH0
  intro H locs ls hP hS h
  have e1 : (1 : Int32) = rg_I 1 := by decide +kernel
  exact va_gets (own := RJ0) hx hb hX9.2.2.1 hS hown (hts _ k_fl_J0_38) (fun _ z => z) d (by rw [e1]; exact kk H locs ls hP hS h)
theorem rg_tsio (F : rg_F κ Γ tb cc RJ0 nL fr lo) (d : decode cc pc = .ok (.getstatic 1053, 3)) (k0 : rg_G κ Γ tb nL 0 0 (pc + 3) lv (.null :: rest) σ) (k1 : ∀ t : Nat, rg_G κ Γ tb nL 0 0 (pc + 3) lv (.ref t :: rest) σ) : rg_G κ Γ tb nL 0 0 pc lv rest σ := by
  obtain ⟨p, e, R, s, m, args, below, meth, c, A, H0, Q⟩ := Γ
  obtain ⟨hx, hb, hmx, hown, hts, hK, hi0, hAi, hA, hfr, hlo, hlk, hnest, hH0, hX9⟩ := F
  subst hH0
  intro H locs ls hP hS h
  rcases hX9.2.2.2.1 with hz | ⟨t, hz⟩
  · exact va_gets (own := RJ0) hx hb hz hS hown (hts _ k_fl_J0_1053) (fun _ z => z) d (k0 H locs ls hP hS h)
  · exact va_gets (own := RJ0) hx hb hz hS hown (hts _ k_fl_J0_1053) (fun _ z => z) d (k1 t H locs ls hP hS h)
theorem rg_ishr0 (F : rg_F κ Γ tb cc own nL fr lo) {a : Int} (d : decode cc pc = .ok (.ishr, 1)) (kk : rg_G κ Γ tb nL 0 0 (pc + 1) lv (.int (rg_I a) :: rest) σ) : rg_G κ Γ tb nL 0 0 pc lv (.int (rg_I 0) :: .int (rg_I a) :: rest) σ := by
  obtain ⟨p, e, R, s, m, args, below, meth, c, A, H0, Q⟩ := Γ
  obtain ⟨hx, hb, -⟩ := F
  intro H locs ls hP hS h
  refine lv_ishr hx hb d ?_
  have e0 : rg_I a >>> (rg_I 0 &&& 31) = rg_I a := by
    rw [show rg_I 0 &&& 31 = 0 by decide +kernel]; simp
  rw [e0]
  exact kk H locs ls hP hS h
theorem rg_iandR (F : rg_F κ Γ tb cc own nL fr lo) {x y : Int32} (d : decode cc pc = .ok (.iand, 1)) (kk : rg_G κ Γ tb nL 0 0 (pc + 1) lv (.int (x &&& y) :: rest) σ) : rg_G κ Γ tb nL 0 0 pc lv (.int y :: .int x :: rest) σ := by
  obtain ⟨p, e, R, s, m, args, below, meth, c, A, H0, Q⟩ := Γ
  obtain ⟨hx, hb, -⟩ := F
  intro H locs ls hP hS h
  exact lv_iand hx hb d (kk H locs ls hP hS h)
theorem rg_i2cR (F : rg_F κ Γ tb cc own nL fr lo) {x v : Int32} (d : decode cc pc = .ok (.i2c, 1)) (hv : (x.toUInt32 % 65536).toInt32 = v) (kk : rg_G κ Γ tb nL 0 0 (pc + 1) lv (.int v :: rest) σ) : rg_G κ Γ tb nL 0 0 pc lv (.int x :: rest) σ := by
  obtain ⟨p, e, R, s, m, args, below, meth, c, A, H0, Q⟩ := Γ
  obtain ⟨hx, hb, -⟩ := F
  intro H locs ls hP hS h
  exact lv_i2c hx hb d hv (kk H locs ls hP hS h)
/-- a text as a constant: by a short and by a wide index -/
theorem rg_ldcT (F : rg_F κ Γ tb cc RX9 nL fr lo) (i : Nat) {idx : Nat} {tx : String} (hq : lw_strs[i]? = some (idx, tx)) (d : decode cc pc = .ok (.ldc_w idx, 3)) (kk : rg_G κ Γ tb nL 0 0 (pc + 3) lv (.ref (κ.2.2.2 (100 + i)) :: rest) σ) : rg_G κ Γ tb nL 0 0 pc lv rest σ := by
  obtain ⟨p, e, R, s, m, args, below, meth, c, A, H0, Q⟩ := Γ
  obtain ⟨hx, hb, hmx, hown, hts, hK, hi0, hAi, hA, hfr, hlo, hlk, hnest, hH0, hX9⟩ := F
  subst hH0
  intro H locs ls hP hS h
  have hZ := hX9.2.2.2.2.2.2 i _ hq
  intro T hT X
  obtain ⟨t, a1, b1⟩ := kk H locs ls hP hS h T hT X
  exact ⟨t, X.ldcStringW hx hown (text := tx) (a := κ.2.2.2 (100 + i)) hZ.1 hZ.2 (g := F0 m pc ls rest) rfl (by rw [hb]; exact d) t a1, b1⟩
/-- a method of a text -/
theorem rg_callTI (F : rg_F κ Γ tb cc own nL fr lo) {y : MethodName} {c' : ByteArray} {n' fr' lo' : Nat} {ret' : FieldType} (As rest : List Value) {post : Int → rg_S → Prop} (i : Nat) (hi9 : i < 18) (hM : rg_CI κ tb y c' n' ret' fr' lo' (.ref (κ.2.2.2 (100 + i)) :: As) σ post)
    {idx : Nat} (hcl : y.cls = "java/lang/String") (hv : rg_vm y c' n' (some ret') As.length) (hi : Cond.instanceMethod y ∈ lw_gd ∧ Cond.selects y.cls y y ∈ lw_gd) (hml : Cond.methodLink own idx y ∈ lw_gd)
    (hR : fr' + 1 ≤ fr ∧ 8 + (n' + 11) + lo' ≤ lo) (hst : st = As.reverse ++ .ref (κ.2.2.2 (100 + i)) :: rest) (hroom : (rest.map fun v => v.category).sum ≤ 8) (d : decode cc pc = .ok (.invokevirtual idx, 3))
    (kk : ∀ (r : Int) (σ' : rg_S), post r σ' → rg_G κ Γ tb nL 0 0 (pc + 3) lv (.int (rg_I r) :: rest) σ') : rg_G κ Γ tb nL 0 0 pc lv st σ := by
  obtain ⟨p, e, R, s, m, args, below, meth, c, A, H0, Q⟩ := Γ
  obtain ⟨hx, hb, hmx, hown, hts, hK, hi0, hAi, hA, hfr, hlo, hlk, hnest, hH0, hX9⟩ := F
  subst hH0
  intro H locs ls hP hS h
  subst hst
  have cb := callB_of (R := R) (s := s) (args := args) (own := own) (index := idx) (rm := rg_rm fr' lo') (mc := 0) (ms := 0) As.length hts (rg_wsG hv.1) rfl rfl rfl (hts _ hv.2.1) (hts _ hml) hv.2.2 ⟨Nat.le_trans hR.1 hfr, Nat.le_trans hR.2 hlo⟩
  have hsub := rg_WA_sub hAi hA hS.1
  have hrecv := vk_recv hX9.2.1 hi9 hS
  refine va_calli (va_runV (As := As) (rest := rest) (C := y.cls) ⟨hx, hb, hmx, hown, hts⟩ (hM H.size) ⟨cb, hts _ hi.1, hts _ hi.2⟩ ⟨rg_Wi_blind, by rw [hcl]; exact hrecv, fun U hU hW => ⟨rfl, by rw [hU], ⟨by rw [hU]; exact hP, va_K.moved hW.alike hK⟩, hi0, rg_nest_warm hW hnest, rg_X_sub hX9 hW hS hU hsub⟩⟩ rfl rfl h.1 rfl (lv_room hroom) d ⟨Nat.zero_le _, Nat.zero_le _⟩) hS (fun q _ hq => hsub q hq) hsub (fun r u t H1 locs1 ht hvm hw hB hz1 hk1 hS1 => ?_)
  obtain ⟨rfl, hp⟩ := hw
  exact kk u.1 u.2 hp H1 locs1 ls (by rw [← ht]; exact hB.1) hS1 h
end RT
set_option maxRecDepth 100000 in
theorem k_J0_coder (κ : rg_K) (tb : List rg_Sh) (σ : rg_S) (i : Nat) (hi : i < 18) : rg_CI κ tb yJ0_coder_7d493 cJ0_coder_7d493 1 .byte 0 0 [.ref (κ.2.2.2 (100 + i))] σ (fun r9 σ9 => r9 = 0 ∧ σ9 = σ) := by
  refine rg_entN [(0, .ref (κ.2.2.2 (100 + i)))] rfl (by decide +kernel) (Nat.le_of_ble_eq_true rfl) (fun Γ F hR => ?_)
  refine rg_tcomp F dJ0_coder_7d493_0 ?_
  refine rg_if_eq F 13 dJ0_coder_7d493_3 (by decide) (by omega) (fun h => by omega) (fun _ => ?_)
  refine rg_aload_n F 0 0 rfl dJ0_coder_7d493_6 rfl ?_
  refine rg_tcoder F i hi dJ0_coder_7d493_7 ?_
  refine rg_goto F 14 dJ0_coder_7d493_10 (by decide) ?_
  exact hR _ _ _ _ dJ0_coder_7d493_14 (by decide +kernel) ⟨rfl, rfl⟩
set_option maxRecDepth 100000 in
theorem k_J0_isLatin1 (κ : rg_K) (tb : List rg_Sh) (σ : rg_S) (i : Nat) (hi : i < 18) : rg_CI κ tb yJ0_isLatin1_aae02 cJ0_isLatin1_aae02 1 .boolean 0 0 [.ref (κ.2.2.2 (100 + i))] σ (fun r9 σ9 => r9 = 1 ∧ σ9 = σ) := by
  refine rg_entN [(0, .ref (κ.2.2.2 (100 + i)))] rfl (by decide +kernel) (Nat.le_of_ble_eq_true rfl) (fun Γ F hR => ?_)
  refine rg_tcomp F dJ0_isLatin1_aae02_0 ?_
  refine rg_if_eq F 17 dJ0_isLatin1_aae02_3 (by decide) (by omega) (fun h => by omega) (fun _ => ?_)
  refine rg_aload_n F 0 0 rfl dJ0_isLatin1_aae02_6 rfl ?_
  refine rg_tcoder F i hi dJ0_isLatin1_aae02_7 ?_
  refine rg_if_ne F 17 dJ0_isLatin1_aae02_10 (by decide) (by omega) (fun h => absurd rfl h) (fun _ => ?_)
  refine rg_iconst F dJ0_isLatin1_aae02_13 ?_
  refine rg_goto F 18 dJ0_isLatin1_aae02_14 (by decide) ?_
  exact hR _ _ _ _ dJ0_isLatin1_aae02_18 (by decide +kernel) ⟨rfl, rfl⟩
set_option maxRecDepth 100000 in
theorem k_J0_length (κ : rg_K) (tb : List rg_Sh) (σ : rg_S) (i : Nat) (hi : i < 18) : rg_CI κ tb yJ0_length_8abf5 cJ0_length_8abf5 1 .int 1 20 [.ref (κ.2.2.2 (100 + i))] σ (fun r9 σ9 => r9 = ((lw_sl.getD i 0 : Nat) : Int) ∧ σ9 = σ) := by
  refine rg_entN [(0, .ref (κ.2.2.2 (100 + i)))] rfl (by decide +kernel) (Nat.le_of_ble_eq_true rfl) (fun Γ F hR => ?_)
  refine rg_aload_n F 0 0 rfl dJ0_length_8abf5_0 rfl ?_
  refine rg_tvalue F i hi dJ0_length_8abf5_1 ?_
  refine rg_tlen F i hi dJ0_length_8abf5_4 ?_
  refine rg_aload_n F 0 0 rfl dJ0_length_8abf5_5 rfl ?_
  refine rg_callTI F [] [.int (rg_I ((lw_sl.getD i 0 : Nat) : Int))] i hi (k_J0_coder κ tb σ i hi) rfl v_J0_coder_7d493 i_J0_coder_7d493 k_ml_J0_335 ⟨Nat.le_of_ble_eq_true rfl, Nat.le_of_ble_eq_true rfl⟩ rfl (Nat.le_of_ble_eq_true rfl) dJ0_length_8abf5_6 (rg_ex2 ?_)
  refine rg_ishr0 F dJ0_length_8abf5_9 ?_
  exact hR _ _ _ _ dJ0_length_8abf5_10 rfl ⟨rfl, rfl⟩
set_option maxRecDepth 100000 in
theorem k_J3_checkIndex (κ : rg_K) (tb : List rg_Sh) (σ : rg_S) (k n : Nat) (v : Value) (hv : v = .null ∨ ∃ t, v = .ref t) (hk : k < n) (hn : n < 1000) : rg_CI κ tb yJ3_checkIndex_8e157 cJ3_checkIndex_8e157 3 .int 0 0 [.int (rg_I ((k : Nat) : Int)), .int (rg_I ((n : Nat) : Int)), v] σ (fun r9 σ9 => r9 = ((k : Nat) : Int) ∧ σ9 = σ) := by
  refine rg_entN [(0, .int (rg_I ((k : Nat) : Int))), (1, .int (rg_I ((n : Nat) : Int))), (2, v)] rfl (by decide +kernel) (by rcases hv with rfl | ⟨t, rfl⟩ <;> exact Nat.le_of_ble_eq_true rfl) (fun Γ F hR => ?_)
  refine rg_iload_n F 0 0 rfl dJ3_checkIndex_8e157_0 rfl ?_
  refine rg_if_lt F 9 dJ3_checkIndex_8e157_1 (by decide) (by omega) (fun h => by omega) (fun _ => ?_)
  refine rg_iload_n F 0 0 rfl dJ3_checkIndex_8e157_4 rfl ?_
  refine rg_iload_n F 1 1 rfl dJ3_checkIndex_8e157_5 rfl ?_
  refine rg_icmp_lt F 16 dJ3_checkIndex_8e157_6 (by decide) (by omega) (by omega) (fun _ => ?_) (fun h => by omega)
  refine rg_iload_n F 0 0 rfl dJ3_checkIndex_8e157_16 rfl ?_
  exact hR _ _ _ _ dJ3_checkIndex_8e157_17 rfl ⟨rfl, rfl⟩
set_option maxRecDepth 100000 in
theorem k_J0_checkIndex (κ : rg_K) (tb : List rg_Sh) (σ : rg_S) (k n : Nat) (hk : k < n) (hn : n < 1000) : rg_CV κ tb yJ0_checkIndex_df160 cJ0_checkIndex_df160 2 1 22 [.int (rg_I ((k : Nat) : Int)), .int (rg_I ((n : Nat) : Int))] σ (fun σ9 => σ9 = σ) := by
  refine rg_entV [(0, .int (rg_I ((k : Nat) : Int))), (1, .int (rg_I ((n : Nat) : Int)))] rfl (by decide +kernel) (Nat.le_of_ble_eq_true rfl) (fun Γ F hR => ?_)
  refine rg_iload_n F 0 0 rfl dJ0_checkIndex_df160_0 rfl ?_
  refine rg_iload_n F 1 1 rfl dJ0_checkIndex_df160_1 rfl ?_
  have key : ∀ v : Value, (v = .null ∨ ∃ t, v = .ref t) → rg_G κ Γ tb 2 0 0 5 [(0, .int (rg_I ((k : Nat) : Int))), (1, .int (rg_I ((n : Nat) : Int)))] [v, .int (rg_I ((n : Nat) : Int)), .int (rg_I ((k : Nat) : Int))] σ := by
    intro v hv
    refine rg_callSI F [.int (rg_I ((k : Nat) : Int)), .int (rg_I ((n : Nat) : Int)), v] [] (k_J3_checkIndex κ tb σ k n v hv hk hn) v_J3_checkIndex_8e157 k_st_yJ3_checkIndex_8e157 k_ml_J0_1059 ⟨Nat.le_of_ble_eq_true rfl, Nat.le_of_ble_eq_true rfl⟩ rfl (Nat.le_of_ble_eq_true rfl) dJ0_checkIndex_df160_5 (rg_ex2 ?_)
    refine rg_pop F dJ0_checkIndex_df160_8 rfl ?_
    exact hR _ _ _ dJ0_checkIndex_df160_9 rfl
  exact rg_tsio F dJ0_checkIndex_df160_2 (key _ (Or.inl rfl)) (fun t => key _ (Or.inr ⟨t, rfl⟩))
set_option maxRecDepth 100000 in
theorem k_J1_charAt (κ : rg_K) (tb : List rg_Sh) (σ : rg_S) (i k : Nat) (hi : i < 18) (hk : k < lw_sl.getD i 0) : rg_CI κ tb yJ1_charAt_3b067 cJ1_charAt_3b067 2 .char 2 43 [.ref (κ.2.2.2 (200 + i)), .int (rg_I ((k : Nat) : Int))] σ (fun r9 σ9 => r9 = lw_cb i k ∧ σ9 = σ) := by
  have h3 := lw_sl_ok i hi
  obtain ⟨-, -, hc, hn⟩ := lw_cb_ok i hi k hk
  refine rg_entN [(0, .ref (κ.2.2.2 (200 + i))), (1, .int (rg_I ((k : Nat) : Int)))] rfl (by decide +kernel) (Nat.le_of_ble_eq_true rfl) (fun Γ F hR => ?_)
  refine rg_iload_n F 1 1 rfl dJ1_charAt_3b067_0 rfl ?_
  refine rg_aload_n F 0 0 rfl dJ1_charAt_3b067_1 rfl ?_
  refine rg_tlen F i hi dJ1_charAt_3b067_2 ?_
  refine rg_callSV F [.int (rg_I ((k : Nat) : Int)), .int (rg_I ((lw_sl.getD i 0 : Nat) : Int))] [] (k_J0_checkIndex κ tb σ k _ hk (by omega)) v_J0_checkIndex_df160 k_st_yJ0_checkIndex_df160 k_ml_J1_9 ⟨Nat.le_of_ble_eq_true rfl, Nat.le_of_ble_eq_true rfl⟩ rfl (Nat.le_of_ble_eq_true rfl) dJ1_charAt_3b067_3 (rg_ex1 ?_)
  refine rg_aload_n F 0 0 rfl dJ1_charAt_3b067_6 rfl ?_
  refine rg_iload_n F 1 1 rfl dJ1_charAt_3b067_7 rfl ?_
  refine rg_tbyte F i k hi hk dJ1_charAt_3b067_8 ?_
  refine rg_sipush F dJ1_charAt_3b067_9 (by decide +kernel) ?_
  refine rg_iandR F dJ1_charAt_3b067_12 ?_
  refine rg_i2cR F dJ1_charAt_3b067_13 hc ?_
  exact hR _ _ _ _ dJ1_charAt_3b067_14 hn ⟨rfl, rfl⟩
set_option maxRecDepth 100000 in
theorem k_J0_charAt (κ : rg_K) (tb : List rg_Sh) (σ : rg_S) (i k : Nat) (hi : i < 18) (hk : k < lw_sl.getD i 0) : rg_CI κ tb yJ0_charAt_5068e cJ0_charAt_5068e 2 .char 3 64 [.ref (κ.2.2.2 (100 + i)), .int (rg_I ((k : Nat) : Int))] σ (fun r9 σ9 => r9 = lw_cb i k ∧ σ9 = σ) := by
  obtain ⟨-, -, hc, hn⟩ := lw_cb_ok i hi k hk
  refine rg_entN [(0, .ref (κ.2.2.2 (100 + i))), (1, .int (rg_I ((k : Nat) : Int)))] rfl (by decide +kernel) (Nat.le_of_ble_eq_true rfl) (fun Γ F hR => ?_)
  refine rg_aload_n F 0 0 rfl dJ0_charAt_5068e_0 rfl ?_
  refine rg_callTI F [] [] i hi (k_J0_isLatin1 κ tb σ i hi) rfl v_J0_isLatin1_aae02 i_J0_isLatin1_aae02 k_ml_J0_492 ⟨Nat.le_of_ble_eq_true rfl, Nat.le_of_ble_eq_true rfl⟩ rfl (Nat.le_of_ble_eq_true rfl) dJ0_charAt_5068e_1 (rg_ex2 ?_)
  refine rg_if_eq F 16 dJ0_charAt_5068e_4 (by decide) (by omega) (fun h => by omega) (fun _ => ?_)
  refine rg_aload_n F 0 0 rfl dJ0_charAt_5068e_7 rfl ?_
  refine rg_tvalue F i hi dJ0_charAt_5068e_8 ?_
  refine rg_iload_n F 1 1 rfl dJ0_charAt_5068e_11 rfl ?_
  refine rg_callSI F [.ref (κ.2.2.2 (200 + i)), .int (rg_I ((k : Nat) : Int))] [] (k_J1_charAt κ tb σ i k hi hk) v_J1_charAt_3b067 k_st_yJ1_charAt_3b067 k_ml_J0_495 ⟨Nat.le_of_ble_eq_true rfl, Nat.le_of_ble_eq_true rfl⟩ rfl (Nat.le_of_ble_eq_true rfl) dJ0_charAt_5068e_12 (rg_ex2 ?_)
  exact hR _ _ _ _ dJ0_charAt_5068e_15 hn ⟨rfl, rfl⟩
