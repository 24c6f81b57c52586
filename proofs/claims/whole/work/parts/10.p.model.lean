/-! Contracts of the reference, 9 (laid by program). -/
set_option maxHeartbeats 400000 in
set_option maxRecDepth 100000 in
/-- say -/
theorem k_X10_say (κ : rg_K) (σ : rg_S) (v : Int) (o0 : Nat → Int) (B : Nat → Int) (L : Nat) (h0 : σ 0 = o0) (h26 : σ 26 = B) (h0_33 : σ 0 33 = ((L : Nat) : Int)) (hL : L + 1 ≤ 12000) : rg_CV κ rg_tM yX10_say cX10_say 2 0 0 [.ref (κ.2.2.2 0), .int (rg_I v)] σ (fun σ9 => σ9 = (rg_wr (rg_wr σ 0 (rg_up o0 33 ((L + (rg_t1 v).length : Nat) : Int))) 26 (rg_wx B L (rg_t1 v)))) := by
  refine rg_entV [(0, .ref (κ.2.2.2 0)), (1, .int (rg_I v))] rfl (by decide +kernel) (Nat.le_of_ble_eq_true rfl) (fun Γ F hR => ?_)
  refine rg_aload_n F 0 0 rfl dX10_say_0 rfl ?_
  refine rg_get F 0 34 tM0 cX10 k_lays_X10 (by decide) k_fl_X10_86 rfl (v := .ref (κ.2.2.2 26)) rfl dX10_say_1 ?_
  refine rg_aload_n F 0 0 rfl dX10_say_4 rfl ?_
  refine rg_get F 0 33 tM0 cX10 k_lays_X10 (by decide) k_fl_X10_205 rfl (v := .int (rg_I ((L : Nat) : Int))) (congrArg (fun x => Value.int (rg_I x)) h0_33) dX10_say_5 ?_
  refine rg_iload_n F 1 1 rfl dX10_say_8 rfl ?_
  refine rg_iast F 26 L tM26 (by omega) (by omega) (by decide) (f9 := B) h26 (rg_wr σ 26 (rg_up B L v)) rfl dX10_say_9 ?_
  refine rg_aload_n F 0 0 rfl dX10_say_10 rfl ?_
  refine rg_dup F dX10_say_11 rfl ?_
  refine rg_get F 0 33 tM0 cX10 k_lays_X10 (by decide) k_fl_X10_205 rfl (v := .int (rg_I ((L : Nat) : Int))) (congrArg (fun x => Value.int (rg_I x)) h0_33) dX10_say_12 ?_
  refine rg_iconst F dX10_say_15 ?_
  refine rg_iadd F dX10_say_16 ?_
  refine rg_put F 0 33 tM0 cX10 k_lays_X10 tyX10_ok nmX10 (by decide) k_fl_X10_205 rfl rfl rfl rfl (f9 := o0) h0 (rg_wr (rg_wr σ 0 (rg_up o0 33 (((L : Nat) : Int) + 1))) 26 (rg_up B L v)) ((rg_wr_comm _ _ _ (by decide)).trans (rg_wr_congr 26 rfl rfl)) dX10_say_17 ?_
  exact hR _ _ _ dX10_say_20 (rg_wr_congr (f := (rg_up B L v)) (g := (rg_wx B L (rg_t1 v))) 26 (rg_wr_congr (f := (rg_up o0 33 (((L : Nat) : Int) + 1))) (g := (rg_up o0 33 ((L + (rg_t1 v).length : Nat) : Int))) 0 rfl rfl) (rg_wx_1 _ _ _))
set_option maxHeartbeats 400000 in
set_option maxRecDepth 100000 in
/-- sayNumber -/
theorem k_X10_sayNumber (κ : rg_K) (σ : rg_S) (v : Int) (o0 : Nat → Int) (B : Nat → Int) (L : Nat) (h0 : σ 0 = o0) (h26 : σ 26 = B) (h0_33 : σ 0 33 = ((L : Nat) : Int)) (hL : L + (rg_nx v).length ≤ 12000) (hv : 0 ≤ v ∧ v < 100000) : rg_CV κ rg_tM yX10_sayNumber cX10_sayNumber 3 1 21 [.ref (κ.2.2.2 0), .int (rg_I v)] σ (fun σ9 => σ9 = (rg_wr (rg_wr σ 0 (rg_up o0 33 ((L + (rg_nx v).length : Nat) : Int))) 26 (rg_wx B L (rg_nx v)))) := by
  refine rg_entV [(0, .ref (κ.2.2.2 0)), (1, .int (rg_I v))] rfl (by decide +kernel) (Nat.le_of_ble_eq_true rfl) (fun Γ F hR => ?_)
  refine rg_iconst F dX10_sayNumber_0 ?_
  refine rg_istore_n F [(2, .int (rg_I 1)), (0, .ref (κ.2.2.2 0)), (1, .int (rg_I v))] dX10_sayNumber_1 rfl (by decide) rfl ?_
  have L2 : ∀ (n2 : Nat) (t : Nat), n2 = t → (t ≤ 4) → (∀ i, t ≤ i → i < 5 → rg_dv i ≤ v ∨ rg_dv i = 1) → rg_G κ Γ rg_tM 3 0 0 2 [(0, .ref (κ.2.2.2 0)), (1, .int (rg_I v)), (2, .int (rg_I (rg_dv t)))] [] σ := by
    intro n2
    induction n2 using Nat.strongRecOn with
    | _ n2 ih2 =>
      intro t hn2 ht hlo
      refine rg_iload_n F 1 1 rfl dX10_sayNumber_2 rfl ?_
      refine rg_iload_n F 2 2 rfl dX10_sayNumber_3 rfl ?_
      have hdp := rg_dv_p (t := t) (by omega)
      have hq0 : 0 ≤ v / rg_dv t ∧ v / rg_dv t ≤ v := ⟨Int.ediv_nonneg (by omega) (by omega), Int.ediv_le_self _ (by omega)⟩
      refine rg_idiv F dX10_sayNumber_4 (by omega) (by omega) ?_
      refine rg_bipush F dX10_sayNumber_5 (by decide +kernel) ?_
      refine rg_icmp_le F 18 dX10_sayNumber_7 (by decide) (by have b0 := rg_dv_bd t; omega) (by omega) (fun c7_1 => ?_) (fun c7_1 => ?_)
      ·
        have L18 : ∀ (n18 : Nat) (u : Nat), n18 = 5 - u → (u ≤ 5) → (∀ i, u ≤ i → i < 5 → rg_dv i ≤ v ∨ rg_dv i = 1) → rg_G κ Γ rg_tM 3 0 0 18 [(0, .ref (κ.2.2.2 0)), (1, .int (rg_I v)), (2, .int (rg_I (rg_dv u)))] [] (rg_wr (rg_wr σ 0 (rg_up o0 33 ((L + (rg_nt v u).length : Nat) : Int))) 26 (rg_wx B L (rg_nt v u))) := by
          intro n18
          induction n18 using Nat.strongRecOn with
          | _ n18 ih18 =>
            intro u hn18 hu hlo2
            refine rg_iload_n F 2 2 rfl dX10_sayNumber_18 rfl ?_
            refine rg_if_le F 43 dX10_sayNumber_19 (by decide) (by have b0 := rg_dv_bd u; omega) (fun c19_2 => ?_) (fun c19_2 => ?_)
            ·
              exact hR _ _ _ dX10_sayNumber_43 (rg_wr_congr (f := (rg_wx B L (rg_nt v u))) (g := (rg_wx B L (rg_nx v))) 26 (rg_wr_congr (f := (rg_up o0 33 ((L + (rg_nt v u).length : Nat) : Int))) (g := (rg_up o0 33 ((L + (rg_nx v).length : Nat) : Int))) 0 rfl (by rw [rg_dv_e (t := u) (by assumption) hu]; rfl)) (by rw [rg_dv_e (t := u) (by assumption) hu]; rfl))
            ·
              have hds := rg_dv_s (t := u) (by omega)
              have hmn := rg_nt_mono v (t := u + 1) (u := 5) (by omega)
              rw [rg_nt_y (v := v) (t := u) (hlo2 u (by omega) (by omega)), List.length_append, List.length_singleton] at hmn
              have hL2 : L + (rg_nt v 5).length ≤ 12000 := hL
              refine rg_aload_n F 0 0 rfl dX10_sayNumber_22 rfl ?_
              refine rg_bipush F dX10_sayNumber_23 (by decide +kernel) ?_
              refine rg_iload_n F 1 1 rfl dX10_sayNumber_25 rfl ?_
              refine rg_iload_n F 2 2 rfl dX10_sayNumber_26 rfl ?_
              refine rg_idiv F dX10_sayNumber_27 (by omega) (by have b0 := rg_dv_bd u; omega) ?_
              refine rg_bipush F dX10_sayNumber_28 (by decide +kernel) ?_
              refine rg_irem F dX10_sayNumber_30 ⟨Int.ediv_nonneg (by omega) (by omega), Int.lt_of_le_of_lt (Int.ediv_le_self _ (by omega)) (by omega)⟩ (by omega) ?_
              refine rg_iadd F dX10_sayNumber_31 ?_
              refine rg_callVV F [.int (rg_I (48 + ((v / (rg_dv u)) % 10)))] [] 0 (k_X10_say κ (rg_wr (rg_wr σ 0 (rg_up o0 33 ((L + (rg_nt v u).length : Nat) : Int))) 26 (rg_wx B L (rg_nt v u))) ((48 + ((v / (rg_dv u)) % 10))) (rg_up o0 33 ((L + (rg_nt v u).length : Nat) : Int)) (rg_wx B L (rg_nt v u)) ((L + (rg_nt v u).length)) (((rg_wr_ne _ _ (by decide)).trans (rg_wr_same _ _ _))) ((rg_wr_same _ _ _)) (((congrFun (show (rg_wr (rg_wr σ 0 (rg_up o0 33 ((L + (rg_nt v u).length : Nat) : Int))) 26 (rg_wx B L (rg_nt v u))) 0 = (rg_up o0 33 ((L + (rg_nt v u).length : Nat) : Int)) from ((rg_wr_ne _ _ (by decide)).trans (rg_wr_same _ _ _))) 33).trans (rg_up_same _ _ _))) (by omega)) tM0 cX10 v_X10_say i_X10_say k_ml_X10_208 ⟨Nat.le_of_ble_eq_true rfl, Nat.le_of_ble_eq_true rfl⟩ rfl (Nat.le_of_ble_eq_true rfl) dX10_sayNumber_32 (rg_ex1 ?_)
              refine rg_eq (σ' := (rg_wr (rg_wr σ 0 (rg_up (rg_up o0 33 ((L + (rg_nt v u).length : Nat) : Int)) 33 (((L + (rg_nt v u).length) + (rg_t1 (48 + ((v / (rg_dv u)) % 10))).length : Nat) : Int))) 26 (rg_wx (rg_wx B L (rg_nt v u)) (L + (rg_nt v u).length) (rg_t1 (48 + ((v / (rg_dv u)) % 10)))))) ((rg_wr_congr 26 ((rg_wr_comm _ _ _ (by decide)).trans (rg_wr_congr 26 (rg_wr_wr _ 0 _ _) rfl)) rfl).trans (rg_wr_wr _ 26 _ _)) ?_
              refine rg_iload_n F 2 2 rfl dX10_sayNumber_35 rfl ?_
              refine rg_bipush F dX10_sayNumber_36 (by decide +kernel) ?_
              refine rg_idiv F dX10_sayNumber_38 (by have b0 := rg_dv_bd u; omega) (by omega) ?_
              refine rg_istore_n F [(2, .int (rg_I ((rg_dv u) / 10))), (0, .ref (κ.2.2.2 0)), (1, .int (rg_I v))] dX10_sayNumber_39 rfl (by decide) rfl ?_
              refine rg_goto F 18 dX10_sayNumber_40 (by decide) ?_
              refine rg_lve (lv' := [(2, .int (rg_I (rg_dv (u + 1)))), (0, .ref (κ.2.2.2 0)), (1, .int (rg_I v))]) (congrArg (fun x9 : Int => ([(2, .int (rg_I x9)), (0, .ref (κ.2.2.2 0)), (1, .int (rg_I v))] : List (Nat × Value))) hds.2) ?_
              refine rg_eq (σ' := (rg_wr (rg_wr σ 0 (rg_up o0 33 ((L + (rg_nt v (u + 1)).length : Nat) : Int))) 26 (rg_wx B L (rg_nt v (u + 1))))) (rg_wr_congr (f := (rg_wx (rg_wx B L (rg_nt v u)) (L + (rg_nt v u).length) (rg_t1 (48 + ((v / (rg_dv u)) % 10))))) (g := (rg_wx B L (rg_nt v (u + 1)))) 26 (rg_wr_congr (f := (rg_up (rg_up o0 33 ((L + (rg_nt v u).length : Nat) : Int)) 33 (((L + (rg_nt v u).length) + (rg_t1 (48 + ((v / (rg_dv u)) % 10))).length : Nat) : Int))) (g := (rg_up o0 33 ((L + (rg_nt v (u + 1)).length : Nat) : Int))) 0 rfl (by rw [rg_nt_y (hlo2 u (by omega) (by omega)), List.length_append, List.length_singleton, rg_up_up]; rfl)) (by rw [rg_nt_y (hlo2 u (by omega) (by omega))]; exact rg_wx_app _ _ _ _)) ?_
              refine rg_sub (lv' := [(0, .ref (κ.2.2.2 0)), (1, .int (rg_I v)), (2, .int (rg_I (rg_dv (u + 1))))]) [1, 2, 0] rfl ?_
              exact ih18 (5 - (u + 1)) (by omega) ((u + 1)) rfl (by omega) (fun i h1 h2 => hlo2 i (by omega) h2)
        refine rg_eq (σ' := (rg_wr (rg_wr σ 0 (rg_up o0 33 ((L + (rg_nt v t).length : Nat) : Int))) 26 (rg_wx B L (rg_nt v t)))) ((((rg_wr_self (σ := σ) (k := 0) (f := o0) h0).trans rfl).trans ((rg_wr_self (σ := (rg_wr σ 0 o0)) (k := 26) (f := B) h26).trans rfl)).trans (rg_wr_congr (f := B) (g := (rg_wx B L (rg_nt v t))) 26 (rg_wr_congr (f := o0) (g := (rg_up o0 33 ((L + (rg_nt v t).length : Nat) : Int))) 0 rfl (by rw [rg_nt_0 ht hv.1 (by omega)]; exact rg_sh0m (by rw [← h0]; exact h0_33))) (by rw [rg_nt_0 ht hv.1 (by omega)]; exact rg_wx_nil _ _))) ?_
        exact L18 _ (t) rfl (by omega) hlo
      ·
        have hup := rg_dv_up (v := v) (t := t) (by omega) hv.2 (by omega)
        refine rg_bipush F dX10_sayNumber_10 (by decide +kernel) ?_
        refine rg_iload_n F 2 2 rfl dX10_sayNumber_12 rfl ?_
        refine rg_imul F dX10_sayNumber_13 ?_
        refine rg_istore_n F [(2, .int (rg_I (10 * (rg_dv t)))), (0, .ref (κ.2.2.2 0)), (1, .int (rg_I v))] dX10_sayNumber_14 rfl (by decide) rfl ?_
        refine rg_goto F 2 dX10_sayNumber_15 (by decide) ?_
        refine rg_lve (lv' := [(2, .int (rg_I (rg_dv (t - 1)))), (0, .ref (κ.2.2.2 0)), (1, .int (rg_I v))]) (congrArg (fun x9 : Int => ([(2, .int (rg_I x9)), (0, .ref (κ.2.2.2 0)), (1, .int (rg_I v))] : List (Nat × Value))) hup.2.1) ?_
        refine rg_sub (lv' := [(0, .ref (κ.2.2.2 0)), (1, .int (rg_I v)), (2, .int (rg_I (rg_dv (t - 1))))]) [1, 2, 0] rfl ?_
        exact ih2 ((t - 1)) (by omega) ((t - 1)) rfl (by omega) (fun i h1 h2 => (Nat.eq_or_lt_of_le h1).elim (fun z => Or.inl (z ▸ hup.2.2)) (fun z => hlo i (by omega) h2))
  refine rg_lve (lv' := [(2, .int (rg_I (rg_dv 4))), (0, .ref (κ.2.2.2 0)), (1, .int (rg_I v))]) (congrArg (fun x9 : Int => ([(2, .int (rg_I x9)), (0, .ref (κ.2.2.2 0)), (1, .int (rg_I v))] : List (Nat × Value))) rfl) ?_
  refine rg_sub (lv' := [(0, .ref (κ.2.2.2 0)), (1, .int (rg_I v)), (2, .int (rg_I (rg_dv 4)))]) [1, 2, 0] rfl ?_
  exact L2 _ (4) rfl (by omega) (fun i h1 h2 => Or.inr (by rw [show i = 4 by omega]; rfl))
set_option maxHeartbeats 400000 in
set_option maxRecDepth 100000 in
/-- sayTenths -/
theorem k_X10_sayTenths (κ : rg_K) (σ : rg_S) (v : Int) (o0 : Nat → Int) (B : Nat → Int) (L : Nat) (h0 : σ 0 = o0) (h26 : σ 26 = B) (h0_33 : σ 0 33 = ((L : Nat) : Int)) (hL : L + (rg_tt v).length ≤ 12000) (hv : 0 ≤ v ∧ v < 1000000) : rg_CV κ rg_tM yX10_sayTenths cX10_sayTenths 2 2 43 [.ref (κ.2.2.2 0), .int (rg_I v)] σ (fun σ9 => σ9 = (rg_wr (rg_wr σ 0 (rg_up o0 33 ((L + (rg_tt v).length : Nat) : Int))) 26 (rg_wx B L (rg_tt v)))) := by
  have hlen : (rg_tt v).length = (rg_nx (v / 10)).length + 2 := by unfold rg_tt; rw [List.length_append, List.length_append]; rfl
  rw [hlen] at hL
  clear hlen
  refine rg_entV [(0, .ref (κ.2.2.2 0)), (1, .int (rg_I v))] rfl (by decide +kernel) (Nat.le_of_ble_eq_true rfl) (fun Γ F hR => ?_)
  refine rg_aload_n F 0 0 rfl dX10_sayTenths_0 rfl ?_
  refine rg_iload_n F 1 1 rfl dX10_sayTenths_1 rfl ?_
  refine rg_bipush F dX10_sayTenths_2 (by decide +kernel) ?_
  refine rg_idiv F dX10_sayTenths_4 (by omega) (by omega) ?_
  refine rg_callVV F [.int (rg_I (v / 10))] [] 0 (k_X10_sayNumber κ σ ((v / 10)) o0 B (L) (h0) (h26) (h0_33) (by omega) (by omega)) tM0 cX10 v_X10_sayNumber i_X10_sayNumber k_ml_X10_211 ⟨Nat.le_of_ble_eq_true rfl, Nat.le_of_ble_eq_true rfl⟩ rfl (Nat.le_of_ble_eq_true rfl) dX10_sayTenths_5 (rg_ex1 ?_)
  refine rg_eq (σ' := (rg_wr (rg_wr σ 0 (rg_up o0 33 ((L + (rg_nx (v / 10)).length : Nat) : Int))) 26 (rg_wx B L (rg_nx (v / 10))))) rfl ?_
  refine rg_aload_n F 0 0 rfl dX10_sayTenths_8 rfl ?_
  refine rg_bipush F dX10_sayTenths_9 (by decide +kernel) ?_
  refine rg_callVV F [.int (rg_I 46)] [] 0 (k_X10_say κ (rg_wr (rg_wr σ 0 (rg_up o0 33 ((L + (rg_nx (v / 10)).length : Nat) : Int))) 26 (rg_wx B L (rg_nx (v / 10)))) (46) (rg_up o0 33 ((L + (rg_nx (v / 10)).length : Nat) : Int)) (rg_wx B L (rg_nx (v / 10))) ((L + (rg_nx (v / 10)).length)) (((rg_wr_ne _ _ (by decide)).trans (rg_wr_same _ _ _))) ((rg_wr_same _ _ _)) (((congrFun (show (rg_wr (rg_wr σ 0 (rg_up o0 33 ((L + (rg_nx (v / 10)).length : Nat) : Int))) 26 (rg_wx B L (rg_nx (v / 10)))) 0 = (rg_up o0 33 ((L + (rg_nx (v / 10)).length : Nat) : Int)) from ((rg_wr_ne _ _ (by decide)).trans (rg_wr_same _ _ _))) 33).trans (rg_up_same _ _ _))) (by first | (simp only [List.length_append, rg_t1_len]; omega) | (simp only [rg_t1_len]; omega) | omega)) tM0 cX10 v_X10_say i_X10_say k_ml_X10_208 ⟨Nat.le_of_ble_eq_true rfl, Nat.le_of_ble_eq_true rfl⟩ rfl (Nat.le_of_ble_eq_true rfl) dX10_sayTenths_11 (rg_ex1 ?_)
  refine rg_eq (σ' := (rg_wr (rg_wr σ 0 (rg_up (rg_up o0 33 ((L + (rg_nx (v / 10)).length : Nat) : Int)) 33 (((L + (rg_nx (v / 10)).length) + (rg_t1 46).length : Nat) : Int))) 26 (rg_wx (rg_wx B L (rg_nx (v / 10))) (L + (rg_nx (v / 10)).length) (rg_t1 46)))) ((rg_wr_congr 26 ((rg_wr_comm _ _ _ (by decide)).trans (rg_wr_congr 26 (rg_wr_wr _ 0 _ _) rfl)) rfl).trans (rg_wr_wr _ 26 _ _)) ?_
  refine rg_eq (σ' := (rg_wr (rg_wr σ 0 (rg_up o0 33 ((L + (rg_nx (v / 10) ++ rg_t1 46).length : Nat) : Int))) 26 (rg_wx B L (rg_nx (v / 10) ++ rg_t1 46)))) (rg_wr_congr (f := (rg_wx (rg_wx B L (rg_nx (v / 10))) (L + (rg_nx (v / 10)).length) (rg_t1 46))) (g := (rg_wx B L (rg_nx (v / 10) ++ rg_t1 46))) 26 (rg_wr_congr (f := (rg_up (rg_up o0 33 ((L + (rg_nx (v / 10)).length : Nat) : Int)) 33 (((L + (rg_nx (v / 10)).length) + (rg_t1 46).length : Nat) : Int))) (g := (rg_up o0 33 ((L + (rg_nx (v / 10) ++ rg_t1 46).length : Nat) : Int))) 0 rfl (rg_sh33 _ _ _ _ _)) (rg_wx_app _ _ _ _)) ?_
  refine rg_aload_n F 0 0 rfl dX10_sayTenths_14 rfl ?_
  refine rg_bipush F dX10_sayTenths_15 (by decide +kernel) ?_
  refine rg_iload_n F 1 1 rfl dX10_sayTenths_17 rfl ?_
  refine rg_bipush F dX10_sayTenths_18 (by decide +kernel) ?_
  refine rg_irem F dX10_sayTenths_20 (by omega) (by omega) ?_
  refine rg_iadd F dX10_sayTenths_21 ?_
  refine rg_callVV F [.int (rg_I (48 + (v % 10)))] [] 0 (k_X10_say κ (rg_wr (rg_wr σ 0 (rg_up o0 33 ((L + (rg_nx (v / 10) ++ rg_t1 46).length : Nat) : Int))) 26 (rg_wx B L (rg_nx (v / 10) ++ rg_t1 46))) ((48 + (v % 10))) (rg_up o0 33 ((L + (rg_nx (v / 10) ++ rg_t1 46).length : Nat) : Int)) (rg_wx B L (rg_nx (v / 10) ++ rg_t1 46)) ((L + (rg_nx (v / 10) ++ rg_t1 46).length)) (((rg_wr_ne _ _ (by decide)).trans (rg_wr_same _ _ _))) ((rg_wr_same _ _ _)) (((congrFun (show (rg_wr (rg_wr σ 0 (rg_up o0 33 ((L + (rg_nx (v / 10) ++ rg_t1 46).length : Nat) : Int))) 26 (rg_wx B L (rg_nx (v / 10) ++ rg_t1 46))) 0 = (rg_up o0 33 ((L + (rg_nx (v / 10) ++ rg_t1 46).length : Nat) : Int)) from ((rg_wr_ne _ _ (by decide)).trans (rg_wr_same _ _ _))) 33).trans (rg_up_same _ _ _))) (by first | (simp only [List.length_append, rg_t1_len]; omega) | (simp only [rg_t1_len]; omega) | omega)) tM0 cX10 v_X10_say i_X10_say k_ml_X10_208 ⟨Nat.le_of_ble_eq_true rfl, Nat.le_of_ble_eq_true rfl⟩ rfl (Nat.le_of_ble_eq_true rfl) dX10_sayTenths_22 (rg_ex1 ?_)
  refine rg_eq (σ' := (rg_wr (rg_wr σ 0 (rg_up (rg_up o0 33 ((L + (rg_nx (v / 10) ++ rg_t1 46).length : Nat) : Int)) 33 (((L + (rg_nx (v / 10) ++ rg_t1 46).length) + (rg_t1 (48 + (v % 10))).length : Nat) : Int))) 26 (rg_wx (rg_wx B L (rg_nx (v / 10) ++ rg_t1 46)) (L + (rg_nx (v / 10) ++ rg_t1 46).length) (rg_t1 (48 + (v % 10)))))) ((rg_wr_congr 26 ((rg_wr_comm _ _ _ (by decide)).trans (rg_wr_congr 26 (rg_wr_wr _ 0 _ _) rfl)) rfl).trans (rg_wr_wr _ 26 _ _)) ?_
  refine rg_eq (σ' := (rg_wr (rg_wr σ 0 (rg_up o0 33 ((L + (rg_nx (v / 10) ++ rg_t1 46 ++ rg_t1 (48 + (v % 10))).length : Nat) : Int))) 26 (rg_wx B L (rg_nx (v / 10) ++ rg_t1 46 ++ rg_t1 (48 + (v % 10)))))) (rg_wr_congr (f := (rg_wx (rg_wx B L (rg_nx (v / 10) ++ rg_t1 46)) (L + (rg_nx (v / 10) ++ rg_t1 46).length) (rg_t1 (48 + (v % 10))))) (g := (rg_wx B L (rg_nx (v / 10) ++ rg_t1 46 ++ rg_t1 (48 + (v % 10))))) 26 (rg_wr_congr (f := (rg_up (rg_up o0 33 ((L + (rg_nx (v / 10) ++ rg_t1 46).length : Nat) : Int)) 33 (((L + (rg_nx (v / 10) ++ rg_t1 46).length) + (rg_t1 (48 + (v % 10))).length : Nat) : Int))) (g := (rg_up o0 33 ((L + (rg_nx (v / 10) ++ rg_t1 46 ++ rg_t1 (48 + (v % 10))).length : Nat) : Int))) 0 rfl (rg_sh33 _ _ _ _ _)) (rg_wx_app _ _ _ _)) ?_
  exact hR _ _ _ dX10_sayTenths_25 (rg_wr_congr (f := (rg_wx B L (rg_nx (v / 10) ++ rg_t1 46 ++ rg_t1 (48 + (v % 10))))) (g := (rg_wx B L (rg_tt v))) 26 (rg_wr_congr (f := (rg_up o0 33 ((L + (rg_nx (v / 10) ++ rg_t1 46 ++ rg_t1 (48 + (v % 10))).length : Nat) : Int))) (g := (rg_up o0 33 ((L + (rg_tt v).length : Nat) : Int))) 0 rfl (by rw [rg_tt_1])) (by rw [rg_tt_1]))
set_option maxHeartbeats 400000 in
set_option maxRecDepth 100000 in
/-- sayThree -/
theorem k_X10_sayThree (κ : rg_K) (σ : rg_S) (a b c : Int) (o0 : Nat → Int) (B : Nat → Int) (L : Nat) (h0 : σ 0 = o0) (h26 : σ 26 = B) (h0_33 : σ 0 33 = ((L : Nat) : Int)) (hL : L + 3 ≤ 12000) : rg_CV κ rg_tM yX10_sayThree cX10_sayThree 4 1 21 [.ref (κ.2.2.2 0), .int (rg_I a), .int (rg_I b), .int (rg_I c)] σ (fun σ9 => σ9 = (rg_wr (rg_wr σ 0 (rg_up o0 33 ((L + (rg_t3 a b c).length : Nat) : Int))) 26 (rg_wx B L (rg_t3 a b c)))) := by
  refine rg_entV [(0, .ref (κ.2.2.2 0)), (1, .int (rg_I a)), (2, .int (rg_I b)), (3, .int (rg_I c))] rfl (by decide +kernel) (Nat.le_of_ble_eq_true rfl) (fun Γ F hR => ?_)
  refine rg_aload_n F 0 0 rfl dX10_sayThree_0 rfl ?_
  refine rg_iload_n F 1 1 rfl dX10_sayThree_1 rfl ?_
  refine rg_callVV F [.int (rg_I a)] [] 0 (k_X10_say κ σ (a) o0 B (L) (h0) (h26) (h0_33) (by first | (simp only [List.length_append, rg_t1_len]; omega) | (simp only [rg_t1_len]; omega) | omega)) tM0 cX10 v_X10_say i_X10_say k_ml_X10_208 ⟨Nat.le_of_ble_eq_true rfl, Nat.le_of_ble_eq_true rfl⟩ rfl (Nat.le_of_ble_eq_true rfl) dX10_sayThree_2 (rg_ex1 ?_)
  refine rg_eq (σ' := (rg_wr (rg_wr σ 0 (rg_up o0 33 ((L + (rg_t1 a).length : Nat) : Int))) 26 (rg_wx B L (rg_t1 a)))) rfl ?_
  refine rg_aload_n F 0 0 rfl dX10_sayThree_5 rfl ?_
  refine rg_iload_n F 2 2 rfl dX10_sayThree_6 rfl ?_
  refine rg_callVV F [.int (rg_I b)] [] 0 (k_X10_say κ (rg_wr (rg_wr σ 0 (rg_up o0 33 ((L + (rg_t1 a).length : Nat) : Int))) 26 (rg_wx B L (rg_t1 a))) (b) (rg_up o0 33 ((L + (rg_t1 a).length : Nat) : Int)) (rg_wx B L (rg_t1 a)) ((L + (rg_t1 a).length)) (((rg_wr_ne _ _ (by decide)).trans (rg_wr_same _ _ _))) ((rg_wr_same _ _ _)) (((congrFun (show (rg_wr (rg_wr σ 0 (rg_up o0 33 ((L + (rg_t1 a).length : Nat) : Int))) 26 (rg_wx B L (rg_t1 a))) 0 = (rg_up o0 33 ((L + (rg_t1 a).length : Nat) : Int)) from ((rg_wr_ne _ _ (by decide)).trans (rg_wr_same _ _ _))) 33).trans (rg_up_same _ _ _))) (by first | (simp only [List.length_append, rg_t1_len]; omega) | (simp only [rg_t1_len]; omega) | omega)) tM0 cX10 v_X10_say i_X10_say k_ml_X10_208 ⟨Nat.le_of_ble_eq_true rfl, Nat.le_of_ble_eq_true rfl⟩ rfl (Nat.le_of_ble_eq_true rfl) dX10_sayThree_7 (rg_ex1 ?_)
  refine rg_eq (σ' := (rg_wr (rg_wr σ 0 (rg_up (rg_up o0 33 ((L + (rg_t1 a).length : Nat) : Int)) 33 (((L + (rg_t1 a).length) + (rg_t1 b).length : Nat) : Int))) 26 (rg_wx (rg_wx B L (rg_t1 a)) (L + (rg_t1 a).length) (rg_t1 b)))) ((rg_wr_congr 26 ((rg_wr_comm _ _ _ (by decide)).trans (rg_wr_congr 26 (rg_wr_wr _ 0 _ _) rfl)) rfl).trans (rg_wr_wr _ 26 _ _)) ?_
  refine rg_eq (σ' := (rg_wr (rg_wr σ 0 (rg_up o0 33 ((L + (rg_t1 a ++ rg_t1 b).length : Nat) : Int))) 26 (rg_wx B L (rg_t1 a ++ rg_t1 b)))) (rg_wr_congr (f := (rg_wx (rg_wx B L (rg_t1 a)) (L + (rg_t1 a).length) (rg_t1 b))) (g := (rg_wx B L (rg_t1 a ++ rg_t1 b))) 26 (rg_wr_congr (f := (rg_up (rg_up o0 33 ((L + (rg_t1 a).length : Nat) : Int)) 33 (((L + (rg_t1 a).length) + (rg_t1 b).length : Nat) : Int))) (g := (rg_up o0 33 ((L + (rg_t1 a ++ rg_t1 b).length : Nat) : Int))) 0 rfl (rg_sh33 _ _ _ _ _)) (rg_wx_app _ _ _ _)) ?_
  refine rg_aload_n F 0 0 rfl dX10_sayThree_10 rfl ?_
  refine rg_iload_n F 3 3 rfl dX10_sayThree_11 rfl ?_
  refine rg_callVV F [.int (rg_I c)] [] 0 (k_X10_say κ (rg_wr (rg_wr σ 0 (rg_up o0 33 ((L + (rg_t1 a ++ rg_t1 b).length : Nat) : Int))) 26 (rg_wx B L (rg_t1 a ++ rg_t1 b))) (c) (rg_up o0 33 ((L + (rg_t1 a ++ rg_t1 b).length : Nat) : Int)) (rg_wx B L (rg_t1 a ++ rg_t1 b)) ((L + (rg_t1 a ++ rg_t1 b).length)) (((rg_wr_ne _ _ (by decide)).trans (rg_wr_same _ _ _))) ((rg_wr_same _ _ _)) (((congrFun (show (rg_wr (rg_wr σ 0 (rg_up o0 33 ((L + (rg_t1 a ++ rg_t1 b).length : Nat) : Int))) 26 (rg_wx B L (rg_t1 a ++ rg_t1 b))) 0 = (rg_up o0 33 ((L + (rg_t1 a ++ rg_t1 b).length : Nat) : Int)) from ((rg_wr_ne _ _ (by decide)).trans (rg_wr_same _ _ _))) 33).trans (rg_up_same _ _ _))) (by first | (simp only [List.length_append, rg_t1_len]; omega) | (simp only [rg_t1_len]; omega) | omega)) tM0 cX10 v_X10_say i_X10_say k_ml_X10_208 ⟨Nat.le_of_ble_eq_true rfl, Nat.le_of_ble_eq_true rfl⟩ rfl (Nat.le_of_ble_eq_true rfl) dX10_sayThree_12 (rg_ex1 ?_)
  refine rg_eq (σ' := (rg_wr (rg_wr σ 0 (rg_up (rg_up o0 33 ((L + (rg_t1 a ++ rg_t1 b).length : Nat) : Int)) 33 (((L + (rg_t1 a ++ rg_t1 b).length) + (rg_t1 c).length : Nat) : Int))) 26 (rg_wx (rg_wx B L (rg_t1 a ++ rg_t1 b)) (L + (rg_t1 a ++ rg_t1 b).length) (rg_t1 c)))) ((rg_wr_congr 26 ((rg_wr_comm _ _ _ (by decide)).trans (rg_wr_congr 26 (rg_wr_wr _ 0 _ _) rfl)) rfl).trans (rg_wr_wr _ 26 _ _)) ?_
  refine rg_eq (σ' := (rg_wr (rg_wr σ 0 (rg_up o0 33 ((L + (rg_t1 a ++ rg_t1 b ++ rg_t1 c).length : Nat) : Int))) 26 (rg_wx B L (rg_t1 a ++ rg_t1 b ++ rg_t1 c)))) (rg_wr_congr (f := (rg_wx (rg_wx B L (rg_t1 a ++ rg_t1 b)) (L + (rg_t1 a ++ rg_t1 b).length) (rg_t1 c))) (g := (rg_wx B L (rg_t1 a ++ rg_t1 b ++ rg_t1 c))) 26 (rg_wr_congr (f := (rg_up (rg_up o0 33 ((L + (rg_t1 a ++ rg_t1 b).length : Nat) : Int)) 33 (((L + (rg_t1 a ++ rg_t1 b).length) + (rg_t1 c).length : Nat) : Int))) (g := (rg_up o0 33 ((L + (rg_t1 a ++ rg_t1 b ++ rg_t1 c).length : Nat) : Int))) 0 rfl (rg_sh33 _ _ _ _ _)) (rg_wx_app _ _ _ _)) ?_
  exact hR _ _ _ dX10_sayThree_15 (rg_wr_congr (f := (rg_wx B L (rg_t1 a ++ rg_t1 b ++ rg_t1 c))) (g := (rg_wx B L (rg_t3 a b c))) 26 (rg_wr_congr (f := (rg_up o0 33 ((L + (rg_t1 a ++ rg_t1 b ++ rg_t1 c).length : Nat) : Int))) (g := (rg_up o0 33 ((L + (rg_t3 a b c).length : Nat) : Int))) 0 rfl (by rw [rg_t3])) (by rw [rg_t3]))
set_option maxHeartbeats 400000 in
set_option maxRecDepth 100000 in
/-- sayEntry -/
theorem k_X10_sayEntry (κ : rg_K) (σ : rg_S) (e q : Int) (o0 : Nat → Int) (B : Nat → Int) (L : Nat) (h0 : σ 0 = o0) (h26 : σ 26 = B) (h0_33 : σ 0 33 = ((L : Nat) : Int)) (hL : L + 3 ≤ 12000) (he : rg_Rg e) (hq : q = 0 ∨ q = 1) : rg_CV κ rg_tM yX10_sayEntry cX10_sayEntry 3 2 44 [.ref (κ.2.2.2 0), .int (rg_I e), .int (rg_I q)] σ (fun σ9 => σ9 = (rg_wr (rg_wr σ 0 (rg_up o0 33 ((L + (rg_se e q).length : Nat) : Int))) 26 (rg_wx B L (rg_se e q)))) := by
  refine rg_entV [(0, .ref (κ.2.2.2 0)), (1, .int (rg_I e)), (2, .int (rg_I q))] rfl (by decide +kernel) (Nat.le_of_ble_eq_true rfl) (fun Γ F hR => ?_)
  refine rg_iload_n F 1 1 rfl dX10_sayEntry_0 rfl ?_
  by_cases z0 : e = 0
  · refine rg_tableIn F (off := 51) 52 dX10_sayEntry_1 (by omega) (by omega) (by omega) (by rw [z0]; decide) (by decide) ?_
    refine rg_aload_n F 0 0 rfl dX10_sayEntry_52 rfl ?_
    refine rg_bipush F dX10_sayEntry_53 (by decide +kernel) ?_
    refine rg_bipush F dX10_sayEntry_55 (by decide +kernel) ?_
    refine rg_bipush F dX10_sayEntry_57 (by decide +kernel) ?_
    refine rg_callVV F [.int (rg_I 68), .int (rg_I 78), .int (rg_I 67)] [] 0 (k_X10_sayThree κ σ (68) (78) (67) o0 B (L) (h0) (h26) (h0_33) (by first | assumption | omega)) tM0 cX10 v_X10_sayThree i_X10_sayThree k_ml_X10_214 ⟨Nat.le_of_ble_eq_true rfl, Nat.le_of_ble_eq_true rfl⟩ rfl (Nat.le_of_ble_eq_true rfl) dX10_sayEntry_59 (rg_ex1 ?_)
    refine rg_eq (σ' := (rg_wr (rg_wr σ 0 (rg_up o0 33 ((L + (rg_t3 68 78 67).length : Nat) : Int))) 26 (rg_wx B L (rg_t3 68 78 67)))) rfl ?_
    refine rg_goto F 183 dX10_sayEntry_62 (by decide) ?_
    exact hR _ _ _ dX10_sayEntry_183 (rg_wr_congr (f := (rg_wx B L (rg_t3 68 78 67))) (g := (rg_wx B L (rg_se e q))) 26 (rg_wr_congr (f := (rg_up o0 33 ((L + (rg_t3 68 78 67).length : Nat) : Int))) (g := (rg_up o0 33 ((L + (rg_se e q).length : Nat) : Int))) 0 rfl (by first | (rw [rg_se_o (by omega), if_pos (by assumption)]; exact rg_sh0m (by rw [← h0]; exact h0_33)) | (rw [rg_se_o (by omega), if_pos (by assumption)]; done) | (rw [rg_se_o (by omega), if_neg (by assumption)]; done) | (rw [rg_se_i 0 q (by assumption)]; rfl) | (rw [rg_se_i 1 q (by assumption)]; rfl) | (rw [rg_se_i 2 q (by assumption)]; rfl) | (rw [rg_se_i 3 q (by assumption)]; rfl) | (rw [rg_se_i 4 q (by assumption)]; rfl) | (rw [rg_se_i 5 q (by assumption)]; rfl) | (rw [rg_se_i 6 q (by assumption)]; rfl) | (rw [rg_se_i 7 q (by assumption)]; rfl) | (rw [rg_se_i 8 q (by assumption)]; rfl))) (by first | (rw [rg_se_o (by omega), if_pos (by assumption)]; exact rg_wx_nil _ _) | (rw [rg_se_o (by omega), if_pos (by assumption)]; done) | (rw [rg_se_o (by omega), if_neg (by assumption)]; done) | (rw [rg_se_i 0 q (by assumption)]; rfl) | (rw [rg_se_i 1 q (by assumption)]; rfl) | (rw [rg_se_i 2 q (by assumption)]; rfl) | (rw [rg_se_i 3 q (by assumption)]; rfl) | (rw [rg_se_i 4 q (by assumption)]; rfl) | (rw [rg_se_i 5 q (by assumption)]; rfl) | (rw [rg_se_i 6 q (by assumption)]; rfl) | (rw [rg_se_i 7 q (by assumption)]; rfl) | (rw [rg_se_i 8 q (by assumption)]; rfl)))
  by_cases z1 : e = 1
  · refine rg_tableIn F (off := 64) 65 dX10_sayEntry_1 (by omega) (by omega) (by omega) (by rw [z1]; decide) (by decide) ?_
    refine rg_aload_n F 0 0 rfl dX10_sayEntry_65 rfl ?_
    refine rg_bipush F dX10_sayEntry_66 (by decide +kernel) ?_
    refine rg_bipush F dX10_sayEntry_68 (by decide +kernel) ?_
    refine rg_bipush F dX10_sayEntry_70 (by decide +kernel) ?_
    refine rg_callVV F [.int (rg_I 68), .int (rg_I 78), .int (rg_I 83)] [] 0 (k_X10_sayThree κ σ (68) (78) (83) o0 B (L) (h0) (h26) (h0_33) (by first | assumption | omega)) tM0 cX10 v_X10_sayThree i_X10_sayThree k_ml_X10_214 ⟨Nat.le_of_ble_eq_true rfl, Nat.le_of_ble_eq_true rfl⟩ rfl (Nat.le_of_ble_eq_true rfl) dX10_sayEntry_72 (rg_ex1 ?_)
    refine rg_eq (σ' := (rg_wr (rg_wr σ 0 (rg_up o0 33 ((L + (rg_t3 68 78 83).length : Nat) : Int))) 26 (rg_wx B L (rg_t3 68 78 83)))) rfl ?_
    refine rg_goto F 183 dX10_sayEntry_75 (by decide) ?_
    exact hR _ _ _ dX10_sayEntry_183 (rg_wr_congr (f := (rg_wx B L (rg_t3 68 78 83))) (g := (rg_wx B L (rg_se e q))) 26 (rg_wr_congr (f := (rg_up o0 33 ((L + (rg_t3 68 78 83).length : Nat) : Int))) (g := (rg_up o0 33 ((L + (rg_se e q).length : Nat) : Int))) 0 rfl (by first | (rw [rg_se_o (by omega), if_pos (by assumption)]; exact rg_sh0m (by rw [← h0]; exact h0_33)) | (rw [rg_se_o (by omega), if_pos (by assumption)]; done) | (rw [rg_se_o (by omega), if_neg (by assumption)]; done) | (rw [rg_se_i 0 q (by assumption)]; rfl) | (rw [rg_se_i 1 q (by assumption)]; rfl) | (rw [rg_se_i 2 q (by assumption)]; rfl) | (rw [rg_se_i 3 q (by assumption)]; rfl) | (rw [rg_se_i 4 q (by assumption)]; rfl) | (rw [rg_se_i 5 q (by assumption)]; rfl) | (rw [rg_se_i 6 q (by assumption)]; rfl) | (rw [rg_se_i 7 q (by assumption)]; rfl) | (rw [rg_se_i 8 q (by assumption)]; rfl))) (by first | (rw [rg_se_o (by omega), if_pos (by assumption)]; exact rg_wx_nil _ _) | (rw [rg_se_o (by omega), if_pos (by assumption)]; done) | (rw [rg_se_o (by omega), if_neg (by assumption)]; done) | (rw [rg_se_i 0 q (by assumption)]; rfl) | (rw [rg_se_i 1 q (by assumption)]; rfl) | (rw [rg_se_i 2 q (by assumption)]; rfl) | (rw [rg_se_i 3 q (by assumption)]; rfl) | (rw [rg_se_i 4 q (by assumption)]; rfl) | (rw [rg_se_i 5 q (by assumption)]; rfl) | (rw [rg_se_i 6 q (by assumption)]; rfl) | (rw [rg_se_i 7 q (by assumption)]; rfl) | (rw [rg_se_i 8 q (by assumption)]; rfl)))
  by_cases z2 : e = 2
  · refine rg_tableIn F (off := 77) 78 dX10_sayEntry_1 (by omega) (by omega) (by omega) (by rw [z2]; decide) (by decide) ?_
    refine rg_aload_n F 0 0 rfl dX10_sayEntry_78 rfl ?_
    refine rg_bipush F dX10_sayEntry_79 (by decide +kernel) ?_
    refine rg_bipush F dX10_sayEntry_81 (by decide +kernel) ?_
    refine rg_bipush F dX10_sayEntry_83 (by decide +kernel) ?_
    refine rg_callVV F [.int (rg_I 79), .int (rg_I 67), .int (rg_I 83)] [] 0 (k_X10_sayThree κ σ (79) (67) (83) o0 B (L) (h0) (h26) (h0_33) (by first | assumption | omega)) tM0 cX10 v_X10_sayThree i_X10_sayThree k_ml_X10_214 ⟨Nat.le_of_ble_eq_true rfl, Nat.le_of_ble_eq_true rfl⟩ rfl (Nat.le_of_ble_eq_true rfl) dX10_sayEntry_85 (rg_ex1 ?_)
    refine rg_eq (σ' := (rg_wr (rg_wr σ 0 (rg_up o0 33 ((L + (rg_t3 79 67 83).length : Nat) : Int))) 26 (rg_wx B L (rg_t3 79 67 83)))) rfl ?_
    refine rg_goto F 183 dX10_sayEntry_88 (by decide) ?_
    exact hR _ _ _ dX10_sayEntry_183 (rg_wr_congr (f := (rg_wx B L (rg_t3 79 67 83))) (g := (rg_wx B L (rg_se e q))) 26 (rg_wr_congr (f := (rg_up o0 33 ((L + (rg_t3 79 67 83).length : Nat) : Int))) (g := (rg_up o0 33 ((L + (rg_se e q).length : Nat) : Int))) 0 rfl (by first | (rw [rg_se_o (by omega), if_pos (by assumption)]; exact rg_sh0m (by rw [← h0]; exact h0_33)) | (rw [rg_se_o (by omega), if_pos (by assumption)]; done) | (rw [rg_se_o (by omega), if_neg (by assumption)]; done) | (rw [rg_se_i 0 q (by assumption)]; rfl) | (rw [rg_se_i 1 q (by assumption)]; rfl) | (rw [rg_se_i 2 q (by assumption)]; rfl) | (rw [rg_se_i 3 q (by assumption)]; rfl) | (rw [rg_se_i 4 q (by assumption)]; rfl) | (rw [rg_se_i 5 q (by assumption)]; rfl) | (rw [rg_se_i 6 q (by assumption)]; rfl) | (rw [rg_se_i 7 q (by assumption)]; rfl) | (rw [rg_se_i 8 q (by assumption)]; rfl))) (by first | (rw [rg_se_o (by omega), if_pos (by assumption)]; exact rg_wx_nil _ _) | (rw [rg_se_o (by omega), if_pos (by assumption)]; done) | (rw [rg_se_o (by omega), if_neg (by assumption)]; done) | (rw [rg_se_i 0 q (by assumption)]; rfl) | (rw [rg_se_i 1 q (by assumption)]; rfl) | (rw [rg_se_i 2 q (by assumption)]; rfl) | (rw [rg_se_i 3 q (by assumption)]; rfl) | (rw [rg_se_i 4 q (by assumption)]; rfl) | (rw [rg_se_i 5 q (by assumption)]; rfl) | (rw [rg_se_i 6 q (by assumption)]; rfl) | (rw [rg_se_i 7 q (by assumption)]; rfl) | (rw [rg_se_i 8 q (by assumption)]; rfl)))
  by_cases z3 : e = 3
  · refine rg_tableIn F (off := 90) 91 dX10_sayEntry_1 (by omega) (by omega) (by omega) (by rw [z3]; decide) (by decide) ?_
    refine rg_aload_n F 0 0 rfl dX10_sayEntry_91 rfl ?_
    refine rg_bipush F dX10_sayEntry_92 (by decide +kernel) ?_
    refine rg_bipush F dX10_sayEntry_94 (by decide +kernel) ?_
    refine rg_bipush F dX10_sayEntry_96 (by decide +kernel) ?_
    refine rg_callVV F [.int (rg_I 82), .int (rg_I 69), .int (rg_I 84)] [] 0 (k_X10_sayThree κ σ (82) (69) (84) o0 B (L) (h0) (h26) (h0_33) (by first | assumption | omega)) tM0 cX10 v_X10_sayThree i_X10_sayThree k_ml_X10_214 ⟨Nat.le_of_ble_eq_true rfl, Nat.le_of_ble_eq_true rfl⟩ rfl (Nat.le_of_ble_eq_true rfl) dX10_sayEntry_98 (rg_ex1 ?_)
    refine rg_eq (σ' := (rg_wr (rg_wr σ 0 (rg_up o0 33 ((L + (rg_t3 82 69 84).length : Nat) : Int))) 26 (rg_wx B L (rg_t3 82 69 84)))) rfl ?_
    refine rg_goto F 183 dX10_sayEntry_101 (by decide) ?_
    exact hR _ _ _ dX10_sayEntry_183 (rg_wr_congr (f := (rg_wx B L (rg_t3 82 69 84))) (g := (rg_wx B L (rg_se e q))) 26 (rg_wr_congr (f := (rg_up o0 33 ((L + (rg_t3 82 69 84).length : Nat) : Int))) (g := (rg_up o0 33 ((L + (rg_se e q).length : Nat) : Int))) 0 rfl (by first | (rw [rg_se_o (by omega), if_pos (by assumption)]; exact rg_sh0m (by rw [← h0]; exact h0_33)) | (rw [rg_se_o (by omega), if_pos (by assumption)]; done) | (rw [rg_se_o (by omega), if_neg (by assumption)]; done) | (rw [rg_se_i 0 q (by assumption)]; rfl) | (rw [rg_se_i 1 q (by assumption)]; rfl) | (rw [rg_se_i 2 q (by assumption)]; rfl) | (rw [rg_se_i 3 q (by assumption)]; rfl) | (rw [rg_se_i 4 q (by assumption)]; rfl) | (rw [rg_se_i 5 q (by assumption)]; rfl) | (rw [rg_se_i 6 q (by assumption)]; rfl) | (rw [rg_se_i 7 q (by assumption)]; rfl) | (rw [rg_se_i 8 q (by assumption)]; rfl))) (by first | (rw [rg_se_o (by omega), if_pos (by assumption)]; exact rg_wx_nil _ _) | (rw [rg_se_o (by omega), if_pos (by assumption)]; done) | (rw [rg_se_o (by omega), if_neg (by assumption)]; done) | (rw [rg_se_i 0 q (by assumption)]; rfl) | (rw [rg_se_i 1 q (by assumption)]; rfl) | (rw [rg_se_i 2 q (by assumption)]; rfl) | (rw [rg_se_i 3 q (by assumption)]; rfl) | (rw [rg_se_i 4 q (by assumption)]; rfl) | (rw [rg_se_i 5 q (by assumption)]; rfl) | (rw [rg_se_i 6 q (by assumption)]; rfl) | (rw [rg_se_i 7 q (by assumption)]; rfl) | (rw [rg_se_i 8 q (by assumption)]; rfl)))
  by_cases z4 : e = 4
  · refine rg_tableIn F (off := 103) 104 dX10_sayEntry_1 (by omega) (by omega) (by omega) (by rw [z4]; decide) (by decide) ?_
    refine rg_aload_n F 0 0 rfl dX10_sayEntry_104 rfl ?_
    refine rg_bipush F dX10_sayEntry_105 (by decide +kernel) ?_
    refine rg_bipush F dX10_sayEntry_107 (by decide +kernel) ?_
    refine rg_bipush F dX10_sayEntry_109 (by decide +kernel) ?_
    refine rg_callVV F [.int (rg_I 68), .int (rg_I 83), .int (rg_I 81)] [] 0 (k_X10_sayThree κ σ (68) (83) (81) o0 B (L) (h0) (h26) (h0_33) (by first | assumption | omega)) tM0 cX10 v_X10_sayThree i_X10_sayThree k_ml_X10_214 ⟨Nat.le_of_ble_eq_true rfl, Nat.le_of_ble_eq_true rfl⟩ rfl (Nat.le_of_ble_eq_true rfl) dX10_sayEntry_111 (rg_ex1 ?_)
    refine rg_eq (σ' := (rg_wr (rg_wr σ 0 (rg_up o0 33 ((L + (rg_t3 68 83 81).length : Nat) : Int))) 26 (rg_wx B L (rg_t3 68 83 81)))) rfl ?_
    refine rg_goto F 183 dX10_sayEntry_114 (by decide) ?_
    exact hR _ _ _ dX10_sayEntry_183 (rg_wr_congr (f := (rg_wx B L (rg_t3 68 83 81))) (g := (rg_wx B L (rg_se e q))) 26 (rg_wr_congr (f := (rg_up o0 33 ((L + (rg_t3 68 83 81).length : Nat) : Int))) (g := (rg_up o0 33 ((L + (rg_se e q).length : Nat) : Int))) 0 rfl (by first | (rw [rg_se_o (by omega), if_pos (by assumption)]; exact rg_sh0m (by rw [← h0]; exact h0_33)) | (rw [rg_se_o (by omega), if_pos (by assumption)]; done) | (rw [rg_se_o (by omega), if_neg (by assumption)]; done) | (rw [rg_se_i 0 q (by assumption)]; rfl) | (rw [rg_se_i 1 q (by assumption)]; rfl) | (rw [rg_se_i 2 q (by assumption)]; rfl) | (rw [rg_se_i 3 q (by assumption)]; rfl) | (rw [rg_se_i 4 q (by assumption)]; rfl) | (rw [rg_se_i 5 q (by assumption)]; rfl) | (rw [rg_se_i 6 q (by assumption)]; rfl) | (rw [rg_se_i 7 q (by assumption)]; rfl) | (rw [rg_se_i 8 q (by assumption)]; rfl))) (by first | (rw [rg_se_o (by omega), if_pos (by assumption)]; exact rg_wx_nil _ _) | (rw [rg_se_o (by omega), if_pos (by assumption)]; done) | (rw [rg_se_o (by omega), if_neg (by assumption)]; done) | (rw [rg_se_i 0 q (by assumption)]; rfl) | (rw [rg_se_i 1 q (by assumption)]; rfl) | (rw [rg_se_i 2 q (by assumption)]; rfl) | (rw [rg_se_i 3 q (by assumption)]; rfl) | (rw [rg_se_i 4 q (by assumption)]; rfl) | (rw [rg_se_i 5 q (by assumption)]; rfl) | (rw [rg_se_i 6 q (by assumption)]; rfl) | (rw [rg_se_i 7 q (by assumption)]; rfl) | (rw [rg_se_i 8 q (by assumption)]; rfl)))
  by_cases z5 : e = 5
  · refine rg_tableIn F (off := 116) 117 dX10_sayEntry_1 (by omega) (by omega) (by omega) (by rw [z5]; decide) (by decide) ?_
    refine rg_aload_n F 0 0 rfl dX10_sayEntry_117 rfl ?_
    refine rg_bipush F dX10_sayEntry_118 (by decide +kernel) ?_
    refine rg_bipush F dX10_sayEntry_120 (by decide +kernel) ?_
    refine rg_bipush F dX10_sayEntry_122 (by decide +kernel) ?_
    refine rg_callVV F [.int (rg_I 68), .int (rg_I 78), .int (rg_I 69)] [] 0 (k_X10_sayThree κ σ (68) (78) (69) o0 B (L) (h0) (h26) (h0_33) (by first | assumption | omega)) tM0 cX10 v_X10_sayThree i_X10_sayThree k_ml_X10_214 ⟨Nat.le_of_ble_eq_true rfl, Nat.le_of_ble_eq_true rfl⟩ rfl (Nat.le_of_ble_eq_true rfl) dX10_sayEntry_124 (rg_ex1 ?_)
    refine rg_eq (σ' := (rg_wr (rg_wr σ 0 (rg_up o0 33 ((L + (rg_t3 68 78 69).length : Nat) : Int))) 26 (rg_wx B L (rg_t3 68 78 69)))) rfl ?_
    refine rg_goto F 183 dX10_sayEntry_127 (by decide) ?_
    exact hR _ _ _ dX10_sayEntry_183 (rg_wr_congr (f := (rg_wx B L (rg_t3 68 78 69))) (g := (rg_wx B L (rg_se e q))) 26 (rg_wr_congr (f := (rg_up o0 33 ((L + (rg_t3 68 78 69).length : Nat) : Int))) (g := (rg_up o0 33 ((L + (rg_se e q).length : Nat) : Int))) 0 rfl (by first | (rw [rg_se_o (by omega), if_pos (by assumption)]; exact rg_sh0m (by rw [← h0]; exact h0_33)) | (rw [rg_se_o (by omega), if_pos (by assumption)]; done) | (rw [rg_se_o (by omega), if_neg (by assumption)]; done) | (rw [rg_se_i 0 q (by assumption)]; rfl) | (rw [rg_se_i 1 q (by assumption)]; rfl) | (rw [rg_se_i 2 q (by assumption)]; rfl) | (rw [rg_se_i 3 q (by assumption)]; rfl) | (rw [rg_se_i 4 q (by assumption)]; rfl) | (rw [rg_se_i 5 q (by assumption)]; rfl) | (rw [rg_se_i 6 q (by assumption)]; rfl) | (rw [rg_se_i 7 q (by assumption)]; rfl) | (rw [rg_se_i 8 q (by assumption)]; rfl))) (by first | (rw [rg_se_o (by omega), if_pos (by assumption)]; exact rg_wx_nil _ _) | (rw [rg_se_o (by omega), if_pos (by assumption)]; done) | (rw [rg_se_o (by omega), if_neg (by assumption)]; done) | (rw [rg_se_i 0 q (by assumption)]; rfl) | (rw [rg_se_i 1 q (by assumption)]; rfl) | (rw [rg_se_i 2 q (by assumption)]; rfl) | (rw [rg_se_i 3 q (by assumption)]; rfl) | (rw [rg_se_i 4 q (by assumption)]; rfl) | (rw [rg_se_i 5 q (by assumption)]; rfl) | (rw [rg_se_i 6 q (by assumption)]; rfl) | (rw [rg_se_i 7 q (by assumption)]; rfl) | (rw [rg_se_i 8 q (by assumption)]; rfl)))
  by_cases z6 : e = 6
  · refine rg_tableIn F (off := 129) 130 dX10_sayEntry_1 (by omega) (by omega) (by omega) (by rw [z6]; decide) (by decide) ?_
    refine rg_aload_n F 0 0 rfl dX10_sayEntry_130 rfl ?_
    refine rg_bipush F dX10_sayEntry_131 (by decide +kernel) ?_
    refine rg_bipush F dX10_sayEntry_133 (by decide +kernel) ?_
    refine rg_bipush F dX10_sayEntry_135 (by decide +kernel) ?_
    refine rg_callVV F [.int (rg_I 82), .int (rg_I 68), .int (rg_I 65)] [] 0 (k_X10_sayThree κ σ (82) (68) (65) o0 B (L) (h0) (h26) (h0_33) (by first | assumption | omega)) tM0 cX10 v_X10_sayThree i_X10_sayThree k_ml_X10_214 ⟨Nat.le_of_ble_eq_true rfl, Nat.le_of_ble_eq_true rfl⟩ rfl (Nat.le_of_ble_eq_true rfl) dX10_sayEntry_137 (rg_ex1 ?_)
    refine rg_eq (σ' := (rg_wr (rg_wr σ 0 (rg_up o0 33 ((L + (rg_t3 82 68 65).length : Nat) : Int))) 26 (rg_wx B L (rg_t3 82 68 65)))) rfl ?_
    refine rg_goto F 183 dX10_sayEntry_140 (by decide) ?_
    exact hR _ _ _ dX10_sayEntry_183 (rg_wr_congr (f := (rg_wx B L (rg_t3 82 68 65))) (g := (rg_wx B L (rg_se e q))) 26 (rg_wr_congr (f := (rg_up o0 33 ((L + (rg_t3 82 68 65).length : Nat) : Int))) (g := (rg_up o0 33 ((L + (rg_se e q).length : Nat) : Int))) 0 rfl (by first | (rw [rg_se_o (by omega), if_pos (by assumption)]; exact rg_sh0m (by rw [← h0]; exact h0_33)) | (rw [rg_se_o (by omega), if_pos (by assumption)]; done) | (rw [rg_se_o (by omega), if_neg (by assumption)]; done) | (rw [rg_se_i 0 q (by assumption)]; rfl) | (rw [rg_se_i 1 q (by assumption)]; rfl) | (rw [rg_se_i 2 q (by assumption)]; rfl) | (rw [rg_se_i 3 q (by assumption)]; rfl) | (rw [rg_se_i 4 q (by assumption)]; rfl) | (rw [rg_se_i 5 q (by assumption)]; rfl) | (rw [rg_se_i 6 q (by assumption)]; rfl) | (rw [rg_se_i 7 q (by assumption)]; rfl) | (rw [rg_se_i 8 q (by assumption)]; rfl))) (by first | (rw [rg_se_o (by omega), if_pos (by assumption)]; exact rg_wx_nil _ _) | (rw [rg_se_o (by omega), if_pos (by assumption)]; done) | (rw [rg_se_o (by omega), if_neg (by assumption)]; done) | (rw [rg_se_i 0 q (by assumption)]; rfl) | (rw [rg_se_i 1 q (by assumption)]; rfl) | (rw [rg_se_i 2 q (by assumption)]; rfl) | (rw [rg_se_i 3 q (by assumption)]; rfl) | (rw [rg_se_i 4 q (by assumption)]; rfl) | (rw [rg_se_i 5 q (by assumption)]; rfl) | (rw [rg_se_i 6 q (by assumption)]; rfl) | (rw [rg_se_i 7 q (by assumption)]; rfl) | (rw [rg_se_i 8 q (by assumption)]; rfl)))
  by_cases z7 : e = 7
  · refine rg_tableIn F (off := 142) 143 dX10_sayEntry_1 (by omega) (by omega) (by omega) (by rw [z7]; decide) (by decide) ?_
    refine rg_aload_n F 0 0 rfl dX10_sayEntry_143 rfl ?_
    refine rg_bipush F dX10_sayEntry_144 (by decide +kernel) ?_
    refine rg_bipush F dX10_sayEntry_146 (by decide +kernel) ?_
    refine rg_bipush F dX10_sayEntry_148 (by decide +kernel) ?_
    refine rg_callVV F [.int (rg_I 82), .int (rg_I 68), .int (rg_I 66)] [] 0 (k_X10_sayThree κ σ (82) (68) (66) o0 B (L) (h0) (h26) (h0_33) (by first | assumption | omega)) tM0 cX10 v_X10_sayThree i_X10_sayThree k_ml_X10_214 ⟨Nat.le_of_ble_eq_true rfl, Nat.le_of_ble_eq_true rfl⟩ rfl (Nat.le_of_ble_eq_true rfl) dX10_sayEntry_150 (rg_ex1 ?_)
    refine rg_eq (σ' := (rg_wr (rg_wr σ 0 (rg_up o0 33 ((L + (rg_t3 82 68 66).length : Nat) : Int))) 26 (rg_wx B L (rg_t3 82 68 66)))) rfl ?_
    refine rg_goto F 183 dX10_sayEntry_153 (by decide) ?_
    exact hR _ _ _ dX10_sayEntry_183 (rg_wr_congr (f := (rg_wx B L (rg_t3 82 68 66))) (g := (rg_wx B L (rg_se e q))) 26 (rg_wr_congr (f := (rg_up o0 33 ((L + (rg_t3 82 68 66).length : Nat) : Int))) (g := (rg_up o0 33 ((L + (rg_se e q).length : Nat) : Int))) 0 rfl (by first | (rw [rg_se_o (by omega), if_pos (by assumption)]; exact rg_sh0m (by rw [← h0]; exact h0_33)) | (rw [rg_se_o (by omega), if_pos (by assumption)]; done) | (rw [rg_se_o (by omega), if_neg (by assumption)]; done) | (rw [rg_se_i 0 q (by assumption)]; rfl) | (rw [rg_se_i 1 q (by assumption)]; rfl) | (rw [rg_se_i 2 q (by assumption)]; rfl) | (rw [rg_se_i 3 q (by assumption)]; rfl) | (rw [rg_se_i 4 q (by assumption)]; rfl) | (rw [rg_se_i 5 q (by assumption)]; rfl) | (rw [rg_se_i 6 q (by assumption)]; rfl) | (rw [rg_se_i 7 q (by assumption)]; rfl) | (rw [rg_se_i 8 q (by assumption)]; rfl))) (by first | (rw [rg_se_o (by omega), if_pos (by assumption)]; exact rg_wx_nil _ _) | (rw [rg_se_o (by omega), if_pos (by assumption)]; done) | (rw [rg_se_o (by omega), if_neg (by assumption)]; done) | (rw [rg_se_i 0 q (by assumption)]; rfl) | (rw [rg_se_i 1 q (by assumption)]; rfl) | (rw [rg_se_i 2 q (by assumption)]; rfl) | (rw [rg_se_i 3 q (by assumption)]; rfl) | (rw [rg_se_i 4 q (by assumption)]; rfl) | (rw [rg_se_i 5 q (by assumption)]; rfl) | (rw [rg_se_i 6 q (by assumption)]; rfl) | (rw [rg_se_i 7 q (by assumption)]; rfl) | (rw [rg_se_i 8 q (by assumption)]; rfl)))
  by_cases z8 : e = 8
  · refine rg_tableIn F (off := 155) 156 dX10_sayEntry_1 (by omega) (by omega) (by omega) (by rw [z8]; decide) (by decide) ?_
    refine rg_aload_n F 0 0 rfl dX10_sayEntry_156 rfl ?_
    refine rg_bipush F dX10_sayEntry_157 (by decide +kernel) ?_
    refine rg_bipush F dX10_sayEntry_159 (by decide +kernel) ?_
    refine rg_bipush F dX10_sayEntry_161 (by decide +kernel) ?_
    refine rg_callVV F [.int (rg_I 82), .int (rg_I 68), .int (rg_I 71)] [] 0 (k_X10_sayThree κ σ (82) (68) (71) o0 B (L) (h0) (h26) (h0_33) (by first | assumption | omega)) tM0 cX10 v_X10_sayThree i_X10_sayThree k_ml_X10_214 ⟨Nat.le_of_ble_eq_true rfl, Nat.le_of_ble_eq_true rfl⟩ rfl (Nat.le_of_ble_eq_true rfl) dX10_sayEntry_163 (rg_ex1 ?_)
    refine rg_eq (σ' := (rg_wr (rg_wr σ 0 (rg_up o0 33 ((L + (rg_t3 82 68 71).length : Nat) : Int))) 26 (rg_wx B L (rg_t3 82 68 71)))) rfl ?_
    refine rg_goto F 183 dX10_sayEntry_166 (by decide) ?_
    exact hR _ _ _ dX10_sayEntry_183 (rg_wr_congr (f := (rg_wx B L (rg_t3 82 68 71))) (g := (rg_wx B L (rg_se e q))) 26 (rg_wr_congr (f := (rg_up o0 33 ((L + (rg_t3 82 68 71).length : Nat) : Int))) (g := (rg_up o0 33 ((L + (rg_se e q).length : Nat) : Int))) 0 rfl (by first | (rw [rg_se_o (by omega), if_pos (by assumption)]; exact rg_sh0m (by rw [← h0]; exact h0_33)) | (rw [rg_se_o (by omega), if_pos (by assumption)]; done) | (rw [rg_se_o (by omega), if_neg (by assumption)]; done) | (rw [rg_se_i 0 q (by assumption)]; rfl) | (rw [rg_se_i 1 q (by assumption)]; rfl) | (rw [rg_se_i 2 q (by assumption)]; rfl) | (rw [rg_se_i 3 q (by assumption)]; rfl) | (rw [rg_se_i 4 q (by assumption)]; rfl) | (rw [rg_se_i 5 q (by assumption)]; rfl) | (rw [rg_se_i 6 q (by assumption)]; rfl) | (rw [rg_se_i 7 q (by assumption)]; rfl) | (rw [rg_se_i 8 q (by assumption)]; rfl))) (by first | (rw [rg_se_o (by omega), if_pos (by assumption)]; exact rg_wx_nil _ _) | (rw [rg_se_o (by omega), if_pos (by assumption)]; done) | (rw [rg_se_o (by omega), if_neg (by assumption)]; done) | (rw [rg_se_i 0 q (by assumption)]; rfl) | (rw [rg_se_i 1 q (by assumption)]; rfl) | (rw [rg_se_i 2 q (by assumption)]; rfl) | (rw [rg_se_i 3 q (by assumption)]; rfl) | (rw [rg_se_i 4 q (by assumption)]; rfl) | (rw [rg_se_i 5 q (by assumption)]; rfl) | (rw [rg_se_i 6 q (by assumption)]; rfl) | (rw [rg_se_i 7 q (by assumption)]; rfl) | (rw [rg_se_i 8 q (by assumption)]; rfl)))
  · refine rg_tableOut F 169 dX10_sayEntry_1 (by omega) (by omega) (by decide) ?_
    refine rg_iload_n F 2 2 rfl dX10_sayEntry_169 rfl ?_
    refine rg_if_eq F 183 dX10_sayEntry_170 (by decide) (by omega) (fun c170_1 => ?_) (fun c170_1 => ?_)
    ·
      exact hR _ _ _ dX10_sayEntry_183 ((((rg_wr_self (σ := σ) (k := 0) (f := o0) h0).trans rfl).trans ((rg_wr_self (σ := (rg_wr σ 0 o0)) (k := 26) (f := B) h26).trans rfl)).trans (rg_wr_congr (f := B) (g := (rg_wx B L (rg_se e q))) 26 (rg_wr_congr (f := o0) (g := (rg_up o0 33 ((L + (rg_se e q).length : Nat) : Int))) 0 rfl (by first | (rw [rg_se_o (by omega), if_pos (by assumption)]; exact rg_sh0m (by rw [← h0]; exact h0_33)) | (rw [rg_se_o (by omega), if_pos (by assumption)]; done) | (rw [rg_se_o (by omega), if_neg (by assumption)]; done) | (rw [rg_se_i 0 q (by assumption)]; rfl) | (rw [rg_se_i 1 q (by assumption)]; rfl) | (rw [rg_se_i 2 q (by assumption)]; rfl) | (rw [rg_se_i 3 q (by assumption)]; rfl) | (rw [rg_se_i 4 q (by assumption)]; rfl) | (rw [rg_se_i 5 q (by assumption)]; rfl) | (rw [rg_se_i 6 q (by assumption)]; rfl) | (rw [rg_se_i 7 q (by assumption)]; rfl) | (rw [rg_se_i 8 q (by assumption)]; rfl))) (by first | (rw [rg_se_o (by omega), if_pos (by assumption)]; exact rg_wx_nil _ _) | (rw [rg_se_o (by omega), if_pos (by assumption)]; done) | (rw [rg_se_o (by omega), if_neg (by assumption)]; done) | (rw [rg_se_i 0 q (by assumption)]; rfl) | (rw [rg_se_i 1 q (by assumption)]; rfl) | (rw [rg_se_i 2 q (by assumption)]; rfl) | (rw [rg_se_i 3 q (by assumption)]; rfl) | (rw [rg_se_i 4 q (by assumption)]; rfl) | (rw [rg_se_i 5 q (by assumption)]; rfl) | (rw [rg_se_i 6 q (by assumption)]; rfl) | (rw [rg_se_i 7 q (by assumption)]; rfl) | (rw [rg_se_i 8 q (by assumption)]; rfl))))
    ·
      refine rg_aload_n F 0 0 rfl dX10_sayEntry_173 rfl ?_
      refine rg_bipush F dX10_sayEntry_174 (by decide +kernel) ?_
      refine rg_bipush F dX10_sayEntry_176 (by decide +kernel) ?_
      refine rg_bipush F dX10_sayEntry_178 (by decide +kernel) ?_
      refine rg_callVV F [.int (rg_I 83), .int (rg_I 67), .int (rg_I 80)] [] 0 (k_X10_sayThree κ σ (83) (67) (80) o0 B (L) (h0) (h26) (h0_33) (by first | assumption | omega)) tM0 cX10 v_X10_sayThree i_X10_sayThree k_ml_X10_214 ⟨Nat.le_of_ble_eq_true rfl, Nat.le_of_ble_eq_true rfl⟩ rfl (Nat.le_of_ble_eq_true rfl) dX10_sayEntry_180 (rg_ex1 ?_)
      refine rg_eq (σ' := (rg_wr (rg_wr σ 0 (rg_up o0 33 ((L + (rg_t3 83 67 80).length : Nat) : Int))) 26 (rg_wx B L (rg_t3 83 67 80)))) rfl ?_
      exact hR _ _ _ dX10_sayEntry_183 (rg_wr_congr (f := (rg_wx B L (rg_t3 83 67 80))) (g := (rg_wx B L (rg_se e q))) 26 (rg_wr_congr (f := (rg_up o0 33 ((L + (rg_t3 83 67 80).length : Nat) : Int))) (g := (rg_up o0 33 ((L + (rg_se e q).length : Nat) : Int))) 0 rfl (by first | (rw [rg_se_o (by omega), if_pos (by assumption)]; exact rg_sh0m (by rw [← h0]; exact h0_33)) | (rw [rg_se_o (by omega), if_pos (by assumption)]; done) | (rw [rg_se_o (by omega), if_neg (by assumption)]; done) | (rw [rg_se_i 0 q (by assumption)]; rfl) | (rw [rg_se_i 1 q (by assumption)]; rfl) | (rw [rg_se_i 2 q (by assumption)]; rfl) | (rw [rg_se_i 3 q (by assumption)]; rfl) | (rw [rg_se_i 4 q (by assumption)]; rfl) | (rw [rg_se_i 5 q (by assumption)]; rfl) | (rw [rg_se_i 6 q (by assumption)]; rfl) | (rw [rg_se_i 7 q (by assumption)]; rfl) | (rw [rg_se_i 8 q (by assumption)]; rfl))) (by first | (rw [rg_se_o (by omega), if_pos (by assumption)]; exact rg_wx_nil _ _) | (rw [rg_se_o (by omega), if_pos (by assumption)]; done) | (rw [rg_se_o (by omega), if_neg (by assumption)]; done) | (rw [rg_se_i 0 q (by assumption)]; rfl) | (rw [rg_se_i 1 q (by assumption)]; rfl) | (rw [rg_se_i 2 q (by assumption)]; rfl) | (rw [rg_se_i 3 q (by assumption)]; rfl) | (rw [rg_se_i 4 q (by assumption)]; rfl) | (rw [rg_se_i 5 q (by assumption)]; rfl) | (rw [rg_se_i 6 q (by assumption)]; rfl) | (rw [rg_se_i 7 q (by assumption)]; rfl) | (rw [rg_se_i 8 q (by assumption)]; rfl)))
