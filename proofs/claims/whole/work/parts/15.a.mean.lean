/-! Doubles: a quotient that is a number; methods that answer a double. -/
def rg_dq (g c : Int) : UInt64 := if c = 0 then FP.dconst0 else FP.ddiv (FP.i2d (rg_I g)) (FP.i2d (rg_I (10 * c)))
theorem rg_dn {x : UInt64} (h : Jvm.FP.Core.dIsNaN x = false) : vf_n64 x := by
  unfold vf_n64
  rw [UInt64.le_iff_toNat_le, UInt64.toNat_and]
  have h1 : (0x7fffffffffffffff : UInt64).toNat = 2 ^ 63 - 1 := by decide
  have h2 : (0x7ff0000000000000 : UInt64).toNat = 9218868437227405312 := by decide
  rw [h1, h2, Nat.and_two_pow_sub_one_eq_mod]
  have h3 : ¬ Jvm.FP.Core.dIsNaN x = true := by rw [h]; decide
  rw [Jvm.FP.Core.isNaN_bits] at h3
  omega
theorem rg_dd_no (g : Int) {c : Int} (hc : rg_Rg (10 * c)) (hz : ¬ 10 * c = 0) : Jvm.FP.Core.dIsNaN (Jvm.FP.Core.ddiv (Jvm.FP.Core.i2d (rg_I g)) (Jvm.FP.Core.i2d (rg_I (10 * c)))) = false := by
  refine Jvm.FP.Core.ddiv_out (Jvm.FP.Core.DFin.notNaN (Jvm.FP.Core.i2d_fin _)) (Jvm.FP.Core.i2d_fin _) (fun q => ?_)
  refine Jvm.FP.Core.i2d_ne_zero (v := rg_I (10 * c)) (fun e => ?_) ((Jvm.FP.Core.zero_bits2 _).mp q)
  exact hz ((rg_I_inj hc rg_R0).mp (e.trans rg_I_0.symm))
theorem rg_dd_n (g : Int) {c : Int} (hc : rg_Rg (10 * c)) (hz : ¬ 10 * c = 0) : vf_n64 (FP.ddiv (FP.i2d (rg_I g)) (FP.i2d (rg_I (10 * c)))) := rg_dn (rg_dd_no g hc hz)
theorem rg_dq_no (g : Int) {c : Int} (hc : rg_Rg (10 * c)) : Jvm.FP.Core.dIsNaN (rg_dq g c) = false := by
  unfold rg_dq
  split
  · decide +kernel
  · exact rg_dd_no g hc (by omega)
theorem rg_dq_eq (g : Int) {c : Int} (hc : rg_Rg (10 * c)) : FP.dcmp (rg_dq g c) (rg_dq g c) = some .eq := Jvm.FP.Core.dcmp_refl (rg_dq_no g hc)
/-- a method that answers a double, over the world tb -/
def rg_CD (κ : rg_K) (tb : List rg_Sh) (y : MethodName) (cc : ByteArray) (n : Nat) (fr lo : Nat) (as : List Value) (σ : rg_S) (post : UInt64 → rg_S → Prop) : Prop :=
  ∀ sz : Nat, Met κ.1 y (rg_ws y cc n (some .double)) (rg_rm fr lo) (va_Pc as (rg_Wi κ tb σ sz)) (va_Qd (fun (r : UInt64) (u : UInt64 × rg_S) => r = u.1 ∧ post u.1 u.2) (fun u t => rg_Wp κ tb u.2 t) (rg_WA κ tb sz)) 0 0 (rg_WA κ tb sz)
def rg_RD (κ : rg_K) (Γ : rg_C) (tb : List rg_Sh) (cc : ByteArray) (n : Nat) (post : UInt64 → rg_S → Prop) : Prop :=
  ∀ (pc : Nat) (lv : List (Nat × Value)) (r : UInt64) (σ' : rg_S), decode cc pc = .ok (.dreturn, 1) → post r σ' → rg_G κ Γ tb n 0 0 pc lv [.double r] σ'
theorem rg_entD {κ : rg_K} {tb : List rg_Sh} {y : MethodName} {cc : ByteArray} {n : Nat} {fr lo : Nat} {as : List Value} {σ : rg_S} {post : UInt64 → rg_S → Prop} (lv : List (Nat × Value)) (hlv : lv_args 0 as = lv) (hy : plainName y.cls = true) (hn : (lg_sl as).length ≤ n)
    (body : ∀ Γ : rg_C, rg_F κ Γ tb cc y.cls n fr lo → rg_RD κ Γ tb cc n post → rg_G κ Γ tb n 0 0 0 lv [] σ) : rg_CD κ tb y cc n fr lo as σ post := by
  intro sz
  refine Met.ofW (cc := cc) (maxL := n) (ret := some .double) hy rfl ?_
  intro p e s m args below meth c s₁ B hml hv
  obtain ⟨rfl, hsz, ⟨hP, hK⟩, hinj, hnest, hX9⟩ := hv
  subst hsz
  have hts := atoms_spec (ws := rg_ws y cc n (some .double)) B.pre
  have hown : s.vm.findClass y.cls = some m.cls := findClass_of_methodNamed B.named
  have hlocks : meth.locks = false := B.notSynchronized
  have hl := lv_entry as (n := n) hn
  rw [lg_entry_eq]
  rw [hlv] at hl
  have F : rg_F κ (p, e, (headSpec (rg_ws y cc n (some .double)) (rg_rm fr lo)).room, s, m, as.toArray, below, meth, c, rg_WA κ tb s.heap.size, s.heap, MQ below (va_Qd (fun (r : UInt64) (u : UInt64 × rg_S) => r = u.1 ∧ post u.1 u.2) (fun u t => rg_Wp κ tb u.2 t) (rg_WA κ tb s.heap.size)) as.toArray s 0 0 (rg_WA κ tb s.heap.size)) tb cc y.cls n fr lo :=
    ⟨B.exec, B.bytes, hml, hown, fun w h => hts w (List.mem_cons_of_mem _ h), hK, hinj, fun i hi => Or.inl ⟨i, hi, rfl⟩, fun q h => Or.inr h, Nat.le_refl _, Nat.le_refl _, hlocks, hnest, rfl, hX9⟩
  refine body _ F ?_ s.heap [] _ hP va_S.rf hl
  intro pc lv r σ' d hp H locs ls hP1 hS h
  exact W.dret B.exec B.bytes B.returns (fun t ht hW => ⟨⟨_, (r, σ'), rfl, ⟨rfl, hp⟩, ⟨by rw [ht]; exact hP1, va_K.moved hW.alike hK⟩⟩, hS.F ht⟩) hS.2.2 d hlocks
section RGD
variable {κ : rg_K} {Γ : rg_C} {tb : List rg_Sh} {cc : ByteArray} {own : String} {nL fr lo cells slots pc : Nat} {lv lv' : List (Nat × Value)} {rest st : List Value} {σ σ' : rg_S}
theorem rg_dconst0 (F : rg_F κ Γ tb cc own nL fr lo) (d : decode cc pc = .ok (.dconst 0, 1)) (kk : rg_G κ Γ tb nL cells slots (pc + 1) lv (.double FP.dconst0 :: rest) σ) : rg_G κ Γ tb nL cells slots pc lv rest σ := by
  obtain ⟨p, e, R, s, m, args, below, meth, c, A, H0, Q⟩ := Γ
  obtain ⟨hx, hb, -⟩ := F
  intro H locs ls hP hS h
  exact lv_dconst0 hx hb d (kk H locs ls hP hS h)
theorem rg_i2d (F : rg_F κ Γ tb cc own nL fr lo) {a : Int} (d : decode cc pc = .ok (.i2d, 1)) (kk : rg_G κ Γ tb nL cells slots (pc + 1) lv (.double (FP.i2d (rg_I a)) :: rest) σ) : rg_G κ Γ tb nL cells slots pc lv (.int (rg_I a) :: rest) σ := by
  obtain ⟨p, e, R, s, m, args, below, meth, c, A, H0, Q⟩ := Γ
  obtain ⟨hx, hb, -⟩ := F
  intro H locs ls hP hS h
  exact lv_i2d hx hb d (kk H locs ls hP hS h)
theorem rg_ddiv (F : rg_F κ Γ tb cc own nL fr lo) {x y : UInt64} (d : decode cc pc = .ok (.ddiv, 1)) (hn : vf_n64 (FP.ddiv x y)) (kk : rg_G κ Γ tb nL cells slots (pc + 1) lv (.double (FP.ddiv x y) :: rest) σ) : rg_G κ Γ tb nL cells slots pc lv (.double y :: .double x :: rest) σ := by
  obtain ⟨p, e, R, s, m, args, below, meth, c, A, H0, Q⟩ := Γ
  obtain ⟨hx, hb, -⟩ := F
  intro H locs ls hP hS h
  exact lv_ddiv hx hb d hn (kk H locs ls hP hS h)
end RGD
