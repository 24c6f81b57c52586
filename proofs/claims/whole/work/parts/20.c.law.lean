/-! The law: the ends of its cases, and its loop. -/
abbrev rg_lv (κ : rg_K) (adM : Nat → Nat) (o od b i : Nat) : List (Nat × Value) := [(5, .int (rg_I (i : Int))), (4, .ref od), (3, .ref o), (2, .ref (adM 0)), (1, .ref (κ.2.2.2 0)), (0, .ref b)]
def rg_kn (κ : rg_K) (adM : Nat → Nat) (co : ClassId × ClassId) (Γ : rg_C) (o od b i cells slots pc : Nat) : Prop :=
  ∀ (σ τ : rg_S) (f : Nat → Int64) (g : Nat → UInt64) (nb nr nd ns : Nat), rg_Z σ τ nb nr nd ns → rg_J κ Γ 9 cells slots pc (rg_lv κ adM o od b i) [] (rg_gw κ adM rg_tC rg_tM co σ τ o f od g)
section RLT
variable {κ : rg_K} {adM : Nat → Nat} {co : ClassId × ClassId} {Γ : rg_C} {tb : List rg_Sh} {o od b L i : Nat} {xs : Nat → Int32} {cells slots pc : Nat} {lv : List (Nat × Value)} {σ τ : rg_S} {f : Nat → Int64} {g : Nat → UInt64} {K : Int}
theorem rg_Lthr (F : rg_FG κ adM co Γ tb rg_tM o od b L xs) (hcs : cells ≤ 1122 ∧ slots ≤ 42737) (q2 q6 : Nat) (hq2 : lv[q2]? = some (2, .ref (adM 0))) (hq6 : lv[q6]? = some (6, .int (rg_I K))) (hT : τ 0 0 = K)
    (d : decode code pc = .ok (.aload_n 2, 1) ∧ decode code (pc + 1) = .ok (.invokevirtual 110, 3) ∧ decode code (pc + 4) = .ok (.iload 6, 2) ∧ decode code (pc + 6) = .ok (.if_icmp .eq 5, 3))
    (kk : rg_J κ Γ 9 cells slots (pc + 11) lv [] (rg_gw κ adM tb rg_tM co σ τ o f od g)) : rg_J κ Γ 9 cells slots pc lv [] (rg_gw κ adM tb rg_tM co σ τ o f od g) := by
  refine rg_Jaload_n F.1 q2 2 rfl d.1 hq2 ?_
  refine rg_LmI F hcs [] [] 0 (k_X10_thrown (rg_kk κ adM) τ K hT) tM0 cX10 v_X10_thrown i_X10_thrown k_ml_L_110 (by decide) rfl (Nat.le_of_ble_eq_true rfl) d.2.1 (fun r τ' hp => ?_)
  obtain ⟨rfl, rfl⟩ := hp
  refine rg_Jiload F.1 q6 6 d.2.2.1 hq6 ?_
  exact rg_Jicmp_same F.1 (pc + 11) d.2.2.2 (by omega) kk
/-- the end of a case without an answer -/
theorem rg_LtV (F : rg_FG κ adM co Γ rg_tC rg_tM o od b L xs) (hcs : cells ≤ 1122 ∧ slots ≤ 42737) (hT : τ 0 0 = K) {off : Int} (d : decode code pc = .ok (.aload_n 2, 1) ∧ decode code (pc + 1) = .ok (.invokevirtual 110, 3) ∧ decode code (pc + 4) = .ok (.iload 6, 2) ∧ decode code (pc + 6) = .ok (.if_icmp .eq 5, 3)) (d1 : decode code (pc + 11) = .ok (.goto off, 3)) (ht : ((pc + 11 : Nat) : Int) + off = ((1751 : Nat) : Int))
    {nb nr nd ns : Nat} (hZ : rg_Z σ τ nb nr nd ns) (kk : rg_kn κ adM co Γ o od b i cells slots 1751) : rg_J κ Γ 9 cells slots pc ((6, .int (rg_I K)) :: rg_lv κ adM o od b i) [] (rg_gw κ adM rg_tC rg_tM co σ τ o f od g) := by
  refine rg_Lthr F hcs 4 0 rfl rfl hT d ?_
  refine rg_Jgoto F.1 1751 d1 ht ?_
  exact rg_Jsub [1, 2, 3, 4, 5, 6] rfl (kk σ τ f g nb nr nd ns hZ)
/-- .. with an int -/
theorem rg_LtI (F : rg_FG κ adM co Γ rg_tC rg_tM o od b L xs) (hcs : cells ≤ 1122 ∧ slots ≤ 42737) (hT : τ 0 0 = K) (hK : rg_Rg K) {V r : Int} (hf : K = 0 → f 0 = (rg_I V).toInt64) (hr : K = 0 → r = V) {off : Int} (d : decode code pc = .ok (.aload_n 2, 1) ∧ decode code (pc + 1) = .ok (.invokevirtual 110, 3) ∧ decode code (pc + 4) = .ok (.iload 6, 2) ∧ decode code (pc + 6) = .ok (.if_icmp .eq 5, 3))
    (d1 : decode code (pc + 11) = .ok (.iload 6, 2) ∧ decode code (pc + 13) = .ok (.ifCond .ne 15, 3) ∧ decode code (pc + 16) = .ok (.aload_n 3, 1) ∧ decode code (pc + 17) = .ok (.iconst 0, 1) ∧ decode code (pc + 18) = .ok (.laload, 1) ∧ decode code (pc + 19) = .ok (.iload 7, 2) ∧ decode code (pc + 21) = .ok (.i2l, 1) ∧ decode code (pc + 22) = .ok (.lcmp, 1) ∧ decode code (pc + 23) = .ok (.ifCond .eq 5, 3) ∧ decode code (pc + 28) = .ok (.goto off, 3)) (ht : ((pc + 28 : Nat) : Int) + off = ((1751 : Nat) : Int))
    {nb nr nd ns : Nat} (hZ : rg_Z σ τ nb nr nd ns) (kk : rg_kn κ adM co Γ o od b i cells slots 1751) : rg_J κ Γ 9 cells slots pc ((7, .int (rg_I r)) :: (6, .int (rg_I K)) :: rg_lv κ adM o od b i) [] (rg_gw κ adM rg_tC rg_tM co σ τ o f od g) := by
  have kend : rg_J κ Γ 9 cells slots (pc + 28) ((7, .int (rg_I r)) :: (6, .int (rg_I K)) :: rg_lv κ adM o od b i) [] (rg_gw κ adM rg_tC rg_tM co σ τ o f od g) := by
    refine rg_Jgoto F.1 1751 d1.2.2.2.2.2.2.2.2.2 ht ?_
    exact rg_Jsub [2, 3, 4, 5, 6, 7] rfl (kk σ τ f g nb nr nd ns hZ)
  refine rg_Lthr F hcs 5 1 rfl rfl hT d ?_
  refine rg_Jiload F.1 1 6 d1.1 rfl ?_
  refine rg_Jif_ne F.1 (pc + 28) d1.2.1 (by omega) hK (fun _ => kend) (fun z => ?_)
  refine rg_Jaload_n F.1 4 3 rfl d1.2.2.1 rfl ?_
  refine rg_Jiconst F.1 d1.2.2.2.1 ?_
  refine rg_Jlald F.1 F.2.2.2.1 rg_gwL d1.2.2.2.2.1 ?_
  refine rg_Jiload F.1 0 7 d1.2.2.2.2.2.1 rfl ?_
  refine rg_Ji2l F.1 d1.2.2.2.2.2.2.1 ?_
  refine rg_Jlcmp_same F.1 d1.2.2.2.2.2.2.2.1 (by rw [hf z, hr z]) ?_
  exact rg_Jif_eq F.1 (pc + 28) d1.2.2.2.2.2.2.2.2.1 (by omega) rg_R0 (fun _ => kend) (fun y => absurd rfl y)
/-- .. with a truth value -/
theorem rg_LtZ (F : rg_FG κ adM co Γ rg_tC rg_tM o od b L xs) (hcs : cells ≤ 1122 ∧ slots ≤ 42737) (hT : τ 0 0 = K) (hK : rg_Rg K) {V r : Int} (hf : K = 0 → f 0 = (rg_I V).toInt64) (hr : K = 0 → r = V) (hV : K = 0 → V = 0 ∨ V = 1) {off : Int} (d : decode code pc = .ok (.aload_n 2, 1) ∧ decode code (pc + 1) = .ok (.invokevirtual 110, 3) ∧ decode code (pc + 4) = .ok (.iload 6, 2) ∧ decode code (pc + 6) = .ok (.if_icmp .eq 5, 3))
    (d1 : decode code (pc + 11) = .ok (.iload 6, 2) ∧ decode code (pc + 13) = .ok (.ifCond .ne 22, 3) ∧ decode code (pc + 16) = .ok (.aload_n 3, 1) ∧ decode code (pc + 17) = .ok (.iconst 0, 1) ∧ decode code (pc + 18) = .ok (.laload, 1) ∧ decode code (pc + 19) = .ok (.iload 7, 2) ∧ decode code (pc + 21) = .ok (.ifCond .eq 7, 3) ∧ decode code (pc + 24) = .ok (.lconst 1, 1) ∧ decode code (pc + 25) = .ok (.goto 4, 3) ∧ decode code (pc + 28) = .ok (.lconst 0, 1) ∧ decode code (pc + 29) = .ok (.lcmp, 1) ∧ decode code (pc + 30) = .ok (.ifCond .eq 5, 3) ∧ decode code (pc + 35) = .ok (.goto off, 3)) (ht : ((pc + 35 : Nat) : Int) + off = ((1751 : Nat) : Int))
    {nb nr nd ns : Nat} (hZ : rg_Z σ τ nb nr nd ns) (kk : rg_kn κ adM co Γ o od b i cells slots 1751) : rg_J κ Γ 9 cells slots pc ((7, .int (rg_I r)) :: (6, .int (rg_I K)) :: rg_lv κ adM o od b i) [] (rg_gw κ adM rg_tC rg_tM co σ τ o f od g) := by
  obtain ⟨e1, e2, e3, e4, e5, e6, e7, e8, e9, e10, e11, e12, e13⟩ := d1
  have kend : rg_J κ Γ 9 cells slots (pc + 35) ((7, .int (rg_I r)) :: (6, .int (rg_I K)) :: rg_lv κ adM o od b i) [] (rg_gw κ adM rg_tC rg_tM co σ τ o f od g) := by
    refine rg_Jgoto F.1 1751 e13 ht ?_
    exact rg_Jsub [2, 3, 4, 5, 6, 7] rfl (kk σ τ f g nb nr nd ns hZ)
  refine rg_Lthr F hcs 5 1 rfl rfl hT d ?_
  refine rg_Jiload F.1 1 6 e1 rfl ?_
  refine rg_Jif_ne F.1 (pc + 35) e2 (by omega) hK (fun _ => kend) (fun z => ?_)
  refine rg_Jaload_n F.1 4 3 rfl e3 rfl ?_
  refine rg_Jiconst F.1 e4 ?_
  refine rg_Jlald F.1 F.2.2.2.1 rg_gwL e5 ?_
  refine rg_Jiload F.1 0 7 e6 rfl ?_
  have hf1 := hf z
  have hr1 := hr z
  rcases hV z with q | q
  · refine rg_Jif_eq F.1 (pc + 28) e7 (by omega) (by rw [hr1, q]; exact rg_R0) (fun _ => ?_) (fun y => absurd (hr1.trans q) y)
    refine rg_Jlconst F.1 e10 rfl ?_
    refine rg_Jlcmp_same F.1 e11 (by rw [hf1, q]; decide +kernel) ?_
    exact rg_Jif_eq F.1 (pc + 35) e12 (by omega) rg_R0 (fun _ => kend) (fun y => absurd rfl y)
  · refine rg_Jif_eq F.1 (pc + 28) e7 (by omega) (by rw [hr1, q]; exact ⟨by omega, by omega⟩) (fun y => absurd (y.symm.trans (hr1.trans q)) (by decide)) (fun _ => ?_)
    refine rg_Jlconst F.1 e8 rfl ?_
    refine rg_Jgoto F.1 (pc + 29) e9 (by omega) ?_
    refine rg_Jlcmp_same F.1 e11 (by rw [hf1, q]; decide +kernel) ?_
    exact rg_Jif_eq F.1 (pc + 35) e12 (by omega) rg_R0 (fun _ => kend) (fun y => absurd rfl y)
/-- .. with a double -/
theorem rg_LtD (F : rg_FG κ adM co Γ rg_tC rg_tM o od b L xs) (hcs : cells ≤ 1122 ∧ slots ≤ 42737) (hT : τ 0 0 = K) (hK : rg_Rg K) {V r : UInt64} (hf : K = 0 → g 0 = V) (hr : K = 0 → r = V) (hV : K = 0 → FP.dcmp V V = some .eq) {off : Int} (d : decode code pc = .ok (.aload_n 2, 1) ∧ decode code (pc + 1) = .ok (.invokevirtual 110, 3) ∧ decode code (pc + 4) = .ok (.iload 6, 2) ∧ decode code (pc + 6) = .ok (.if_icmp .eq 5, 3))
    (d1 : decode code (pc + 11) = .ok (.iload 6, 2) ∧ decode code (pc + 13) = .ok (.ifCond .ne 35, 3) ∧ decode code (pc + 16) = .ok (.aload 4, 2) ∧ decode code (pc + 18) = .ok (.iconst 0, 1) ∧ decode code (pc + 19) = .ok (.daload, 1) ∧ decode code (pc + 20) = .ok (.dload 7, 2) ∧ decode code (pc + 22) = .ok (.dcmp .l, 1) ∧ decode code (pc + 23) = .ok (.ifCond .eq 25, 3) ∧ decode code (pc + 48) = .ok (.goto off, 3)) (ht : ((pc + 48 : Nat) : Int) + off = ((1751 : Nat) : Int))
    {nb nr nd ns : Nat} (hZ : rg_Z σ τ nb nr nd ns) (kk : rg_kn κ adM co Γ o od b i cells slots 1751) : rg_J κ Γ 9 cells slots pc ((7, .double r) :: (6, .int (rg_I K)) :: rg_lv κ adM o od b i) [] (rg_gw κ adM rg_tC rg_tM co σ τ o f od g) := by
  obtain ⟨e1, e2, e3, e4, e5, e6, e7, e8, e9⟩ := d1
  have kend : rg_J κ Γ 9 cells slots (pc + 48) ((7, .double r) :: (6, .int (rg_I K)) :: rg_lv κ adM o od b i) [] (rg_gw κ adM rg_tC rg_tM co σ τ o f od g) := by
    refine rg_Jgoto F.1 1751 e9 ht ?_
    exact rg_Jsub [2, 3, 4, 5, 6, 7] rfl (kk σ τ f g nb nr nd ns hZ)
  refine rg_Lthr F hcs 5 1 rfl rfl hT d ?_
  refine rg_Jiload F.1 1 6 e1 rfl ?_
  refine rg_Jif_ne F.1 (pc + 48) e2 (by omega) hK (fun _ => kend) (fun z => ?_)
  refine rg_Jaload F.1 3 4 e3 rfl ?_
  refine rg_Jiconst F.1 e4 ?_
  refine rg_Jdald F.1 F.2.2.2.1 rg_gwD e5 ?_
  refine rg_Jdload F.1 0 7 e6 rfl ?_
  rw [hf z, hr z]
  refine rg_Jdcmp_same F.1 e7 (hV z) (by decide) ?_
  refine rg_Jif_eq F.1 (pc + 48) e8 (by omega) rg_R0 (fun _ => ?_) (fun y => absurd rfl y)
  rw [hr z] at kend
  exact kend
end RLT
