/-! Contracts of the class's leaves (laid by program). -/
set_option maxHeartbeats 4000000 in
set_option maxRecDepth 100000 in
/-- cell: 40 to a race -/
theorem k_X9_cell (κ : rg_K) (tb : List rg_Sh) (σ : rg_S) (r b : Nat) : rg_CI κ tb yX9_cell cX9_cell 2 FieldType.int 0 0 [.int (rg_I ((r : Nat) : Int)), .int (rg_I ((b : Nat) : Int))] σ (fun r9 σ9 => r9 = ((r * 40 + b : Nat) : Int) ∧ σ9 = σ) := by
  refine rg_entI [(0, .int (rg_I ((r : Nat) : Int))), (1, .int (rg_I ((b : Nat) : Int)))] rfl (by decide +kernel) (Nat.le_of_ble_eq_true rfl) (by first | exact Or.inl rfl | exact Or.inr rfl) (fun Γ F hR => ?_)
  refine rg_iload_n F 0 0 rfl dX9_cell_0 rfl ?_
  refine rg_bipush F dX9_cell_1 (by decide +kernel) ?_
  refine rg_imul F dX9_cell_3 ?_
  refine rg_iload_n F 1 1 rfl dX9_cell_4 rfl ?_
  refine rg_iadd F dX9_cell_5 ?_
  exact hR _ _ _ _ dX9_cell_6 (fun h => nomatch h) ⟨(by omega), rfl⟩
set_option maxHeartbeats 4000000 in
set_option maxRecDepth 100000 in
/-- Arrays.fill over the cell 32 -/
theorem k_J7_fill_53178_32 (κ : rg_K) (σ : rg_S) (v : Int) : rg_CV κ rg_tC yJ7_fill_53178 cJ7_fill_53178 4 0 0 [.ref (κ.2.2.2 32), .int (rg_I v)] σ (fun σ9 => σ9 = (rg_wr σ 32 (fun _ => v))) := by
  refine rg_entV [(0, .ref (κ.2.2.2 32)), (1, .int (rg_I v))] rfl (by decide +kernel) (Nat.le_of_ble_eq_true rfl) (fun Γ F hR => ?_)
  refine rg_iconst F dJ7_fill_53178_0 ?_
  refine rg_istore_n F [(2, .int (rg_I 0)), (0, .ref (κ.2.2.2 32)), (1, .int (rg_I v))] dJ7_fill_53178_1 rfl (by decide) rfl ?_
  refine rg_aload_n F 1 0 rfl dJ7_fill_53178_2 rfl ?_
  refine rg_alen F 32 tC32 (fun cy => rfl) dJ7_fill_53178_3 ?_
  refine rg_istore_n F [(3, .int (rg_I ((100 : Nat) : Int))), (2, .int (rg_I 0)), (0, .ref (κ.2.2.2 32)), (1, .int (rg_I v))] dJ7_fill_53178_4 rfl (by decide) rfl ?_
  have L5 : ∀ (n5 : Nat) (i : Nat), n5 = 100 - i → (i ≤ 100) → rg_G κ Γ rg_tC 4 0 0 5 [(0, .ref (κ.2.2.2 32)), (1, .int (rg_I v)), (2, .int (rg_I ((i : Nat) : Int))), (3, .int (rg_I ((100 : Nat) : Int)))] [] (rg_wr σ 32 (rg_hd (σ 32) i (fun _ => v))) := by
    intro n5
    induction n5 using Nat.strongRecOn with
    | _ n5 ih5 =>
      intro i hn5 hi
      refine rg_iload_n F 2 2 rfl dJ7_fill_53178_5 rfl ?_
      refine rg_iload_n F 3 3 rfl dJ7_fill_53178_6 rfl ?_
      refine rg_icmp_ge F 20 dJ7_fill_53178_7 (by decide) (by omega) (by omega) (fun c7_1 => ?_) (fun c7_1 => ?_)
      ·
        refine rg_ext (g := (fun _ => v)) 32 tC32 (fun j hj => by rw [rg_hd_at _ _ (by omega)]) ?_
        exact hR _ _ _ dJ7_fill_53178_20 rfl
      ·
        refine rg_aload_n F 0 0 rfl dJ7_fill_53178_10 rfl ?_
        refine rg_iload_n F 2 2 rfl dJ7_fill_53178_11 rfl ?_
        refine rg_iload_n F 1 1 rfl dJ7_fill_53178_12 rfl ?_
        refine rg_iast F 32 i tC32 (by omega) (by omega) (by decide) (f9 := (rg_hd (σ 32) i (fun _ => v))) rfl (rg_wr σ 32 (rg_up (rg_hd (σ 32) i (fun _ => v)) i v)) (rg_wr_wr _ 32 _ _) dJ7_fill_53178_13 ?_
        refine rg_iinc F (v := ((i + 1 : Nat) : Int)) 2 [(2, .int (rg_I ((i + 1 : Nat) : Int))), (0, .ref (κ.2.2.2 32)), (1, .int (rg_I v)), (3, .int (rg_I ((100 : Nat) : Int)))] dJ7_fill_53178_14 rfl (by omega) (by decide) rfl ?_
        refine rg_goto F 5 dJ7_fill_53178_17 (by decide) ?_
        refine rg_eq (σ' := (rg_wr σ 32 (rg_hd (σ 32) (i + 1) (fun _ => v)))) (rg_wr_congr (f := (rg_up (rg_hd (σ 32) i (fun _ => v)) i v)) (g := (rg_hd (σ 32) (i + 1) (fun _ => v))) 32 rfl (rg_hd_s _ _ _ rfl)) ?_
        refine rg_sub (lv' := [(0, .ref (κ.2.2.2 32)), (1, .int (rg_I v)), (2, .int (rg_I ((i + 1 : Nat) : Int))), (3, .int (rg_I ((100 : Nat) : Int)))]) [1, 2, 0, 3] rfl ?_
        exact ih5 (100 - (i + 1)) (by omega) ((i + 1)) rfl (by omega)
  refine rg_eq (σ' := (rg_wr σ 32 (rg_hd (σ 32) 0 (fun _ => v)))) (((rg_wr_self (σ := σ) (k := 32) (f := (σ 32)) rfl).trans rfl).trans (rg_wr_congr (f := (σ 32)) (g := (rg_hd (σ 32) 0 (fun _ => v))) 32 rfl (rg_hd_0 _ _))) ?_
  refine rg_sub (lv' := [(0, .ref (κ.2.2.2 32)), (1, .int (rg_I v)), (2, .int (rg_I 0)), (3, .int (rg_I ((100 : Nat) : Int)))]) [2, 3, 1, 0] rfl ?_
  exact L5 _ (0) rfl (by omega)
set_option maxHeartbeats 4000000 in
set_option maxRecDepth 100000 in
/-- isIn: the race is of the boat -/
theorem k_X0_isIn (κ : rg_K) (σ : rg_S) (b : Nat) (fleet : Int) (fl : Nat → Int) (h11 : σ 11 = fl) (hb : b < 40) (hfr : rg_Rg fleet) (hfl : ∀ j, rg_Rg (fl j)) : rg_CI κ rg_tC yX0_isIn cX0_isIn 3 FieldType.boolean 0 0 [.ref (κ.2.2.2 1), .int (rg_I ((b : Nat) : Int)), .int (rg_I fleet)] σ (fun r9 σ9 => r9 = (rg_b (fleet = 0 ∨ fleet = fl b)) ∧ σ9 = σ) := by
  refine rg_entI [(0, .ref (κ.2.2.2 1)), (1, .int (rg_I ((b : Nat) : Int))), (2, .int (rg_I fleet))] rfl (by decide +kernel) (Nat.le_of_ble_eq_true rfl) (by first | exact Or.inl rfl | exact Or.inr rfl) (fun Γ F hR => ?_)
  refine rg_iload_n F 2 2 rfl dX0_isIn_0 rfl ?_
  refine rg_if_eq F 14 dX0_isIn_1 (by decide) (by omega) (fun c1_1 => ?_) (fun c1_1 => ?_)
  ·
    refine rg_iconst F dX0_isIn_14 ?_
    refine rg_goto F 19 dX0_isIn_15 (by decide) ?_
    exact hR _ _ _ _ dX0_isIn_19 (fun _ => Or.inr rfl) ⟨(rg_b_t (by omega)).symm, rfl⟩
  ·
    refine rg_iload_n F 2 2 rfl dX0_isIn_4 rfl ?_
    refine rg_aload_n F 0 0 rfl dX0_isIn_5 rfl ?_
    refine rg_get F 1 0 tC1 cX0 k_lays_X0 (by decide) k_fl_X0_9 rfl (v := .ref (κ.2.2.2 11)) rfl dX0_isIn_6 ?_
    refine rg_iload_n F 1 1 rfl dX0_isIn_9 rfl ?_
    refine rg_iald F 11 b (v := (fl b)) tC11 (by omega) (by omega) (by decide) (congrFun h11 b) dX0_isIn_10 ?_
    refine rg_icmp_ne F 18 dX0_isIn_11 (by decide) (by omega) (by have b0 := hfl (b); omega) (fun c11_2 => ?_) (fun c11_2 => ?_)
    ·
      refine rg_iconst F dX0_isIn_18 ?_
      exact hR _ _ _ _ dX0_isIn_19 (fun _ => Or.inl rfl) ⟨(rg_b_f (by omega)).symm, rfl⟩
    ·
      refine rg_iconst F dX0_isIn_14 ?_
      refine rg_goto F 19 dX0_isIn_15 (by decide) ?_
      exact hR _ _ _ _ dX0_isIn_19 (fun _ => Or.inr rfl) ⟨(rg_b_t (by omega)).symm, rfl⟩
set_option maxHeartbeats 4000000 in
set_option maxRecDepth 100000 in
/-- countIn: how many boats a fleet has -/
theorem k_X0_countIn (κ : rg_K) (σ : rg_S) (fleet : Int) (fl : Nat → Int) (nb : Nat) (h11 : σ 11 = fl) (h1_2 : σ 1 2 = ((nb : Nat) : Int)) (hnb : nb ≤ 40) (hfr : rg_Rg fleet) (hfl : ∀ j, rg_Rg (fl j)) : rg_CI κ rg_tC yX0_countIn cX0_countIn 4 FieldType.int 1 22 [.ref (κ.2.2.2 1), .int (rg_I fleet)] σ (fun r9 σ9 => r9 = ((rg_cnt (fun b => fleet = 0 ∨ fleet = fl b) nb : Nat) : Int) ∧ σ9 = σ) := by
  refine rg_entI [(0, .ref (κ.2.2.2 1)), (1, .int (rg_I fleet))] rfl (by decide +kernel) (Nat.le_of_ble_eq_true rfl) (by first | exact Or.inl rfl | exact Or.inr rfl) (fun Γ F hR => ?_)
  refine rg_iconst F dX0_countIn_0 ?_
  refine rg_istore_n F [(2, .int (rg_I 0)), (0, .ref (κ.2.2.2 1)), (1, .int (rg_I fleet))] dX0_countIn_1 rfl (by decide) rfl ?_
  refine rg_iconst F dX0_countIn_2 ?_
  refine rg_istore_n F [(3, .int (rg_I 0)), (2, .int (rg_I 0)), (0, .ref (κ.2.2.2 1)), (1, .int (rg_I fleet))] dX0_countIn_3 rfl (by decide) rfl ?_
  have L4 : ∀ (n4 : Nat) (n : Nat) (b : Nat), n4 = nb - b → (b ≤ nb) → (n = rg_cnt (fun b => fleet = 0 ∨ fleet = fl b) b) → rg_G κ Γ rg_tC 4 0 0 4 [(0, .ref (κ.2.2.2 1)), (1, .int (rg_I fleet)), (2, .int (rg_I ((n : Nat) : Int))), (3, .int (rg_I ((b : Nat) : Int)))] [] σ := by
    intro n4
    induction n4 using Nat.strongRecOn with
    | _ n4 ih4 =>
      intro n b hn4 hb hn
      refine rg_iload_n F 3 3 rfl dX0_countIn_4 rfl ?_
      refine rg_aload_n F 0 0 rfl dX0_countIn_5 rfl ?_
      refine rg_get F 1 2 tC1 cX0 k_lays_X0 (by decide) k_fl_X0_18 rfl (v := .int (rg_I ((nb : Nat) : Int))) (congrArg (fun x => Value.int (rg_I x)) h1_2) dX0_countIn_6 ?_
      refine rg_icmp_ge F 30 dX0_countIn_9 (by decide) (by omega) (by omega) (fun c9_1 => ?_) (fun c9_1 => ?_)
      ·
        refine rg_iload_n F 2 2 rfl dX0_countIn_30 rfl ?_
        exact hR _ _ _ _ dX0_countIn_31 (fun h => nomatch h) ⟨(by have e : b = nb := (by omega); subst e; rw [hn]), rfl⟩
      ·
        refine rg_aload_n F 0 0 rfl dX0_countIn_12 rfl ?_
        refine rg_iload_n F 3 3 rfl dX0_countIn_13 rfl ?_
        refine rg_iload_n F 1 1 rfl dX0_countIn_14 rfl ?_
        refine rg_callVI F [.int (rg_I ((b : Nat) : Int)), .int (rg_I fleet)] [] 1 (k_X0_isIn κ σ (b) (fleet) fl (h11) (by first | assumption | omega) (by first | assumption | omega) (by first | assumption | omega)) tC1 cX0 v_X0_isIn i_X0_isIn k_ml_X0_22 ⟨Nat.le_of_ble_eq_true rfl, Nat.le_of_ble_eq_true rfl⟩ rfl (Nat.le_of_ble_eq_true rfl) dX0_countIn_15 (rg_ex2 ?_)
        show rg_G κ Γ rg_tC 4 0 0 (15 + 3) [(0, .ref (κ.2.2.2 1)), (1, .int (rg_I fleet)), (2, .int (rg_I ((n : Nat) : Int))), (3, .int (rg_I ((b : Nat) : Int)))] [.int (rg_I (rg_b (fleet = 0 ∨ fleet = fl b)))] σ
        refine rg_if_eq F 24 dX0_countIn_18 (by decide) (by have b0 := rg_b_Rg (fleet = 0 ∨ fleet = fl b); omega) (fun c18_2 => ?_) (fun c18_2 => ?_)
        ·
          have c18_2 := (rg_b_eq0 _).mp c18_2
          refine rg_iinc F (v := ((b + 1 : Nat) : Int)) 3 [(3, .int (rg_I ((b + 1 : Nat) : Int))), (0, .ref (κ.2.2.2 1)), (1, .int (rg_I fleet)), (2, .int (rg_I ((n : Nat) : Int)))] dX0_countIn_24 rfl (by omega) (by decide) rfl ?_
          refine rg_goto F 4 dX0_countIn_27 (by decide) ?_
          refine rg_sub (lv' := [(0, .ref (κ.2.2.2 1)), (1, .int (rg_I fleet)), (2, .int (rg_I ((n : Nat) : Int))), (3, .int (rg_I ((b + 1 : Nat) : Int)))]) [1, 2, 3, 0] rfl ?_
          exact ih4 (nb - (b + 1)) (by omega) (n) ((b + 1)) rfl (by omega) (by first | (rw [rg_cnt_t (by assumption)]; omega) | (rw [rg_cnt_f (by assumption)]; omega))
        ·
          have c18_2 := (rg_b_ne0 _).mp c18_2
          refine rg_iinc F (v := ((n + 1 : Nat) : Int)) 2 [(2, .int (rg_I ((n + 1 : Nat) : Int))), (0, .ref (κ.2.2.2 1)), (1, .int (rg_I fleet)), (3, .int (rg_I ((b : Nat) : Int)))] dX0_countIn_21 rfl (by omega) (by decide) rfl ?_
          refine rg_iinc F (v := ((b + 1 : Nat) : Int)) 3 [(3, .int (rg_I ((b + 1 : Nat) : Int))), (2, .int (rg_I ((n + 1 : Nat) : Int))), (0, .ref (κ.2.2.2 1)), (1, .int (rg_I fleet))] dX0_countIn_24 rfl (by omega) (by decide) rfl ?_
          refine rg_goto F 4 dX0_countIn_27 (by decide) ?_
          refine rg_sub (lv' := [(0, .ref (κ.2.2.2 1)), (1, .int (rg_I fleet)), (2, .int (rg_I ((n + 1 : Nat) : Int))), (3, .int (rg_I ((b + 1 : Nat) : Int)))]) [2, 3, 1, 0] rfl ?_
          exact ih4 (nb - (b + 1)) (by omega) ((n + 1)) ((b + 1)) rfl (by omega) (by first | (rw [rg_cnt_t (by assumption)]; omega) | (rw [rg_cnt_f (by assumption)]; omega))
  refine rg_sub (lv' := [(0, .ref (κ.2.2.2 1)), (1, .int (rg_I fleet)), (2, .int (rg_I 0)), (3, .int (rg_I 0))]) [2, 3, 1, 0] rfl ?_
  exact L4 _ (0) (0) rfl (by omega) rfl
set_option maxHeartbeats 4000000 in
set_option maxRecDepth 100000 in
/-- put over the entries 3 -/
theorem k_X2_put_3 (κ : rg_K) (σ : rg_S) (j : Nat) (c a : Int) (f16 : Nat → Int) (f17 : Nat → Int) (f18 : Nat → Int) (h16 : σ 16 = f16) (h17 : σ 17 = f17) (h18 : σ 18 = f18) (hj : j < 640) : rg_CV κ rg_tC yX2_put cX2_put 4 0 0 [.ref (κ.2.2.2 3), .int (rg_I ((j : Nat) : Int)), .int (rg_I c), .int (rg_I a)] σ (fun σ9 => σ9 = (rg_wr (rg_wr (rg_wr σ 16 (rg_up f16 j c)) 17 (rg_up f17 j a)) 18 (rg_up f18 j 0))) := by
  refine rg_entV [(0, .ref (κ.2.2.2 3)), (1, .int (rg_I ((j : Nat) : Int))), (2, .int (rg_I c)), (3, .int (rg_I a))] rfl (by decide +kernel) (Nat.le_of_ble_eq_true rfl) (fun Γ F hR => ?_)
  refine rg_aload_n F 0 0 rfl dX2_put_0 rfl ?_
  refine rg_get F 3 0 tC3 cX2 k_lays_X2 (by decide) k_fl_X2_9 rfl (v := .ref (κ.2.2.2 16)) rfl dX2_put_1 ?_
  refine rg_iload_n F 1 1 rfl dX2_put_4 rfl ?_
  refine rg_iload_n F 2 2 rfl dX2_put_5 rfl ?_
  refine rg_iast F 16 j tC16 (by omega) (by omega) (by decide) (f9 := f16) h16 (rg_wr σ 16 (rg_up f16 j c)) rfl dX2_put_6 ?_
  refine rg_aload_n F 0 0 rfl dX2_put_7 rfl ?_
  refine rg_get F 3 1 tC3 cX2 k_lays_X2 (by decide) k_fl_X2_15 rfl (v := .ref (κ.2.2.2 17)) rfl dX2_put_8 ?_
  refine rg_iload_n F 1 1 rfl dX2_put_11 rfl ?_
  refine rg_iload_n F 3 3 rfl dX2_put_12 rfl ?_
  refine rg_iast F 17 j tC17 (by omega) (by omega) (by decide) (f9 := f17) h17 (rg_wr (rg_wr σ 16 (rg_up f16 j c)) 17 (rg_up f17 j a)) rfl dX2_put_13 ?_
  refine rg_aload_n F 0 0 rfl dX2_put_14 rfl ?_
  refine rg_get F 3 2 tC3 cX2 k_lays_X2 (by decide) k_fl_X2_18 rfl (v := .ref (κ.2.2.2 18)) rfl dX2_put_15 ?_
  refine rg_iload_n F 1 1 rfl dX2_put_18 rfl ?_
  refine rg_iconst F dX2_put_19 ?_
  refine rg_iast F 18 j tC18 (by omega) (by omega) (by decide) (f9 := f18) h18 (rg_wr (rg_wr (rg_wr σ 16 (rg_up f16 j c)) 17 (rg_up f17 j a)) 18 (rg_up f18 j 0)) rfl dX2_put_20 ?_
  exact hR _ _ _ dX2_put_21 rfl
set_option maxHeartbeats 4000000 in
set_option maxRecDepth 100000 in
/-- put over the entries 10 -/
theorem k_X2_put_10 (κ : rg_K) (σ : rg_S) (j : Nat) (c a : Int) (f25 : Nat → Int) (f26 : Nat → Int) (f27 : Nat → Int) (h25 : σ 25 = f25) (h26 : σ 26 = f26) (h27 : σ 27 = f27) (hj : j < 640) : rg_CV κ rg_tC yX2_put cX2_put 4 0 0 [.ref (κ.2.2.2 10), .int (rg_I ((j : Nat) : Int)), .int (rg_I c), .int (rg_I a)] σ (fun σ9 => σ9 = (rg_wr (rg_wr (rg_wr σ 25 (rg_up f25 j c)) 26 (rg_up f26 j a)) 27 (rg_up f27 j 0))) := by
  refine rg_entV [(0, .ref (κ.2.2.2 10)), (1, .int (rg_I ((j : Nat) : Int))), (2, .int (rg_I c)), (3, .int (rg_I a))] rfl (by decide +kernel) (Nat.le_of_ble_eq_true rfl) (fun Γ F hR => ?_)
  refine rg_aload_n F 0 0 rfl dX2_put_0 rfl ?_
  refine rg_get F 10 0 tC10 cX2 k_lays_X2 (by decide) k_fl_X2_9 rfl (v := .ref (κ.2.2.2 25)) rfl dX2_put_1 ?_
  refine rg_iload_n F 1 1 rfl dX2_put_4 rfl ?_
  refine rg_iload_n F 2 2 rfl dX2_put_5 rfl ?_
  refine rg_iast F 25 j tC25 (by omega) (by omega) (by decide) (f9 := f25) h25 (rg_wr σ 25 (rg_up f25 j c)) rfl dX2_put_6 ?_
  refine rg_aload_n F 0 0 rfl dX2_put_7 rfl ?_
  refine rg_get F 10 1 tC10 cX2 k_lays_X2 (by decide) k_fl_X2_15 rfl (v := .ref (κ.2.2.2 26)) rfl dX2_put_8 ?_
  refine rg_iload_n F 1 1 rfl dX2_put_11 rfl ?_
  refine rg_iload_n F 3 3 rfl dX2_put_12 rfl ?_
  refine rg_iast F 26 j tC26 (by omega) (by omega) (by decide) (f9 := f26) h26 (rg_wr (rg_wr σ 25 (rg_up f25 j c)) 26 (rg_up f26 j a)) rfl dX2_put_13 ?_
  refine rg_aload_n F 0 0 rfl dX2_put_14 rfl ?_
  refine rg_get F 10 2 tC10 cX2 k_lays_X2 (by decide) k_fl_X2_18 rfl (v := .ref (κ.2.2.2 27)) rfl dX2_put_15 ?_
  refine rg_iload_n F 1 1 rfl dX2_put_18 rfl ?_
  refine rg_iconst F dX2_put_19 ?_
  refine rg_iast F 27 j tC27 (by omega) (by omega) (by decide) (f9 := f27) h27 (rg_wr (rg_wr (rg_wr σ 25 (rg_up f25 j c)) 26 (rg_up f26 j a)) 27 (rg_up f27 j 0)) rfl dX2_put_20 ?_
  exact hR _ _ _ dX2_put_21 rfl
set_option maxHeartbeats 4000000 in
set_option maxRecDepth 100000 in
/-- remove -/
theorem k_X2_remove_3 (κ : rg_K) (σ : rg_S) (j : Nat) (f16 : Nat → Int) (h16 : σ 16 = f16) (hj : j < 640) : rg_CV κ rg_tC yX2_remove cX2_remove 2 0 0 [.ref (κ.2.2.2 3), .int (rg_I ((j : Nat) : Int))] σ (fun σ9 => σ9 = (rg_wr σ 16 (rg_up f16 j (-1)))) := by
  refine rg_entV [(0, .ref (κ.2.2.2 3)), (1, .int (rg_I ((j : Nat) : Int)))] rfl (by decide +kernel) (Nat.le_of_ble_eq_true rfl) (fun Γ F hR => ?_)
  refine rg_aload_n F 0 0 rfl dX2_remove_0 rfl ?_
  refine rg_get F 3 0 tC3 cX2 k_lays_X2 (by decide) k_fl_X2_9 rfl (v := .ref (κ.2.2.2 16)) rfl dX2_remove_1 ?_
  refine rg_iload_n F 1 1 rfl dX2_remove_4 rfl ?_
  refine rg_iconst F dX2_remove_5 ?_
  refine rg_iast F 16 j tC16 (by omega) (by omega) (by decide) (f9 := f16) h16 (rg_wr σ 16 (rg_up f16 j (-1))) rfl dX2_remove_6 ?_
  exact hR _ _ _ dX2_remove_7 rfl
set_option maxHeartbeats 4000000 in
set_option maxRecDepth 100000 in
/-- isAt -/
theorem k_X2_isAt_3 (κ : rg_K) (σ : rg_S) (j : Nat) (en : Nat → Int) (h16 : σ 16 = en) (hj : j < 640) (hen : ∀ j, rg_Rg (en j)) : rg_CI κ rg_tC yX2_isAt cX2_isAt 2 FieldType.boolean 0 0 [.ref (κ.2.2.2 3), .int (rg_I ((j : Nat) : Int))] σ (fun r9 σ9 => r9 = (rg_b (¬ en j = -1)) ∧ σ9 = σ) := by
  refine rg_entI [(0, .ref (κ.2.2.2 3)), (1, .int (rg_I ((j : Nat) : Int)))] rfl (by decide +kernel) (Nat.le_of_ble_eq_true rfl) (by first | exact Or.inl rfl | exact Or.inr rfl) (fun Γ F hR => ?_)
  refine rg_aload_n F 0 0 rfl dX2_isAt_0 rfl ?_
  refine rg_get F 3 0 tC3 cX2 k_lays_X2 (by decide) k_fl_X2_9 rfl (v := .ref (κ.2.2.2 16)) rfl dX2_isAt_1 ?_
  refine rg_iload_n F 1 1 rfl dX2_isAt_4 rfl ?_
  refine rg_iald F 16 j (v := (en j)) tC16 (by omega) (by omega) (by decide) (congrFun h16 j) dX2_isAt_5 ?_
  refine rg_iconst F dX2_isAt_6 ?_
  refine rg_icmp_eq F 14 dX2_isAt_7 (by decide) (by have b0 := hen (j); omega) (by omega) (fun c7_1 => ?_) (fun c7_1 => ?_)
  ·
    refine rg_iconst F dX2_isAt_14 ?_
    exact hR _ _ _ _ dX2_isAt_15 (fun _ => Or.inl rfl) ⟨(rg_b_f (by omega)).symm, rfl⟩
  ·
    refine rg_iconst F dX2_isAt_10 ?_
    refine rg_goto F 15 dX2_isAt_11 (by decide) ?_
    exact hR _ _ _ _ dX2_isAt_15 (fun _ => Or.inr rfl) ⟨(rg_b_t (by omega)).symm, rfl⟩
set_option maxHeartbeats 4000000 in
set_option maxRecDepth 100000 in
/-- isAt -/
theorem k_X2_isAt_10 (κ : rg_K) (σ : rg_S) (j : Nat) (en : Nat → Int) (h25 : σ 25 = en) (hj : j < 640) (hen : ∀ j, rg_Rg (en j)) : rg_CI κ rg_tC yX2_isAt cX2_isAt 2 FieldType.boolean 0 0 [.ref (κ.2.2.2 10), .int (rg_I ((j : Nat) : Int))] σ (fun r9 σ9 => r9 = (rg_b (¬ en j = -1)) ∧ σ9 = σ) := by
  refine rg_entI [(0, .ref (κ.2.2.2 10)), (1, .int (rg_I ((j : Nat) : Int)))] rfl (by decide +kernel) (Nat.le_of_ble_eq_true rfl) (by first | exact Or.inl rfl | exact Or.inr rfl) (fun Γ F hR => ?_)
  refine rg_aload_n F 0 0 rfl dX2_isAt_0 rfl ?_
  refine rg_get F 10 0 tC10 cX2 k_lays_X2 (by decide) k_fl_X2_9 rfl (v := .ref (κ.2.2.2 25)) rfl dX2_isAt_1 ?_
  refine rg_iload_n F 1 1 rfl dX2_isAt_4 rfl ?_
  refine rg_iald F 25 j (v := (en j)) tC25 (by omega) (by omega) (by decide) (congrFun h25 j) dX2_isAt_5 ?_
  refine rg_iconst F dX2_isAt_6 ?_
  refine rg_icmp_eq F 14 dX2_isAt_7 (by decide) (by have b0 := hen (j); omega) (by omega) (fun c7_1 => ?_) (fun c7_1 => ?_)
  ·
    refine rg_iconst F dX2_isAt_14 ?_
    exact hR _ _ _ _ dX2_isAt_15 (fun _ => Or.inl rfl) ⟨(rg_b_f (by omega)).symm, rfl⟩
  ·
    refine rg_iconst F dX2_isAt_10 ?_
    refine rg_goto F 15 dX2_isAt_11 (by decide) ?_
    exact hR _ _ _ _ dX2_isAt_15 (fun _ => Or.inr rfl) ⟨(rg_b_t (by omega)).symm, rfl⟩
set_option maxHeartbeats 4000000 in
set_option maxRecDepth 100000 in
/-- isRedressAt -/
theorem k_X2_isRedressAt_10 (κ : rg_K) (σ : rg_S) (j : Nat) (en : Nat → Int) (h25 : σ 25 = en) (hj : j < 640) (hen : ∀ j, rg_Rg (en j)) : rg_CI κ rg_tC yX2_isRedressAt cX2_isRedressAt 2 FieldType.boolean 0 0 [.ref (κ.2.2.2 10), .int (rg_I ((j : Nat) : Int))] σ (fun r9 σ9 => r9 = (rg_b (en j = 6 ∨ en j = 7 ∨ en j = 8)) ∧ σ9 = σ) := by
  refine rg_entI [(0, .ref (κ.2.2.2 10)), (1, .int (rg_I ((j : Nat) : Int)))] rfl (by decide +kernel) (Nat.le_of_ble_eq_true rfl) (by first | exact Or.inl rfl | exact Or.inr rfl) (fun Γ F hR => ?_)
  refine rg_aload_n F 0 0 rfl dX2_isRedressAt_0 rfl ?_
  refine rg_get F 10 0 tC10 cX2 k_lays_X2 (by decide) k_fl_X2_9 rfl (v := .ref (κ.2.2.2 25)) rfl dX2_isRedressAt_1 ?_
  refine rg_iload_n F 1 1 rfl dX2_isRedressAt_4 rfl ?_
  refine rg_iald F 25 j (v := (en j)) tC25 (by omega) (by omega) (by decide) (congrFun h25 j) dX2_isRedressAt_5 ?_
  refine rg_bipush F dX2_isRedressAt_6 (by decide +kernel) ?_
  refine rg_icmp_eq F 33 dX2_isRedressAt_8 (by decide) (by have b0 := hen (j); omega) (by omega) (fun c8_1 => ?_) (fun c8_1 => ?_)
  ·
    refine rg_iconst F dX2_isRedressAt_33 ?_
    refine rg_goto F 38 dX2_isRedressAt_34 (by decide) ?_
    exact hR _ _ _ _ dX2_isRedressAt_38 (fun _ => Or.inr rfl) ⟨(rg_b_t (by omega)).symm, rfl⟩
  ·
    refine rg_aload_n F 0 0 rfl dX2_isRedressAt_11 rfl ?_
    refine rg_get F 10 0 tC10 cX2 k_lays_X2 (by decide) k_fl_X2_9 rfl (v := .ref (κ.2.2.2 25)) rfl dX2_isRedressAt_12 ?_
    refine rg_iload_n F 1 1 rfl dX2_isRedressAt_15 rfl ?_
    refine rg_iald F 25 j (v := (en j)) tC25 (by omega) (by omega) (by decide) (congrFun h25 j) dX2_isRedressAt_16 ?_
    refine rg_bipush F dX2_isRedressAt_17 (by decide +kernel) ?_
    refine rg_icmp_eq F 33 dX2_isRedressAt_19 (by decide) (by have b0 := hen (j); omega) (by omega) (fun c19_2 => ?_) (fun c19_2 => ?_)
    ·
      refine rg_iconst F dX2_isRedressAt_33 ?_
      refine rg_goto F 38 dX2_isRedressAt_34 (by decide) ?_
      exact hR _ _ _ _ dX2_isRedressAt_38 (fun _ => Or.inr rfl) ⟨(rg_b_t (by omega)).symm, rfl⟩
    ·
      refine rg_aload_n F 0 0 rfl dX2_isRedressAt_22 rfl ?_
      refine rg_get F 10 0 tC10 cX2 k_lays_X2 (by decide) k_fl_X2_9 rfl (v := .ref (κ.2.2.2 25)) rfl dX2_isRedressAt_23 ?_
      refine rg_iload_n F 1 1 rfl dX2_isRedressAt_26 rfl ?_
      refine rg_iald F 25 j (v := (en j)) tC25 (by omega) (by omega) (by decide) (congrFun h25 j) dX2_isRedressAt_27 ?_
      refine rg_bipush F dX2_isRedressAt_28 (by decide +kernel) ?_
      refine rg_icmp_ne F 37 dX2_isRedressAt_30 (by decide) (by have b0 := hen (j); omega) (by omega) (fun c30_3 => ?_) (fun c30_3 => ?_)
      ·
        refine rg_iconst F dX2_isRedressAt_37 ?_
        exact hR _ _ _ _ dX2_isRedressAt_38 (fun _ => Or.inl rfl) ⟨(rg_b_f (by omega)).symm, rfl⟩
      ·
        refine rg_iconst F dX2_isRedressAt_33 ?_
        refine rg_goto F 38 dX2_isRedressAt_34 (by decide) ?_
        exact hR _ _ _ _ dX2_isRedressAt_38 (fun _ => Or.inr rfl) ⟨(rg_b_t (by omega)).symm, rfl⟩
