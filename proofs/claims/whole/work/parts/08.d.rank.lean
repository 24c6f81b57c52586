/-! The ranking's calculate (laid by program). -/
set_option maxHeartbeats 400000 in
set_option maxRecDepth 100000 in
/-- Arrays.fill over the cell 40 -/
theorem k_J7_fill_53178_40 (κ : rg_K) (σ : rg_S) (v : Int) : rg_CV κ rg_tC yJ7_fill_53178 cJ7_fill_53178 4 0 0 [.ref (κ.2.2.2 40), .int (rg_I v)] σ (fun σ9 => σ9 = (rg_wr σ 40 (fun _ => v))) := by
  refine rg_entV [(0, .ref (κ.2.2.2 40)), (1, .int (rg_I v))] rfl (by decide +kernel) (Nat.le_of_ble_eq_true rfl) (fun Γ F hR => ?_)
  refine rg_iconst F dJ7_fill_53178_0 ?_
  refine rg_istore_n F [(2, .int (rg_I 0)), (0, .ref (κ.2.2.2 40)), (1, .int (rg_I v))] dJ7_fill_53178_1 rfl (by decide) rfl ?_
  refine rg_aload_n F 1 0 rfl dJ7_fill_53178_2 rfl ?_
  refine rg_alen F 40 tC40 (fun cy => rfl) dJ7_fill_53178_3 ?_
  refine rg_istore_n F [(3, .int (rg_I ((1440 : Nat) : Int))), (2, .int (rg_I 0)), (0, .ref (κ.2.2.2 40)), (1, .int (rg_I v))] dJ7_fill_53178_4 rfl (by decide) rfl ?_
  have L5 : ∀ (n5 : Nat) (i : Nat), n5 = 1440 - i → (i ≤ 1440) → rg_G κ Γ rg_tC 4 0 0 5 [(0, .ref (κ.2.2.2 40)), (1, .int (rg_I v)), (2, .int (rg_I ((i : Nat) : Int))), (3, .int (rg_I ((1440 : Nat) : Int)))] [] (rg_wr σ 40 (rg_hd (σ 40) i (fun _ => v))) := by
    intro n5
    induction n5 using Nat.strongRecOn with
    | _ n5 ih5 =>
      intro i hn5 hi
      refine rg_iload_n F 2 2 rfl dJ7_fill_53178_5 rfl ?_
      refine rg_iload_n F 3 3 rfl dJ7_fill_53178_6 rfl ?_
      refine rg_icmp_ge F 20 dJ7_fill_53178_7 (by decide) (by omega) (by omega) (fun c7_1 => ?_) (fun c7_1 => ?_)
      ·
        refine rg_ext (g := (fun _ => v)) 40 tC40 (fun j hj => by rw [rg_hd_at _ _ (by omega)]) ?_
        exact hR _ _ _ dJ7_fill_53178_20 rfl
      ·
        refine rg_aload_n F 0 0 rfl dJ7_fill_53178_10 rfl ?_
        refine rg_iload_n F 2 2 rfl dJ7_fill_53178_11 rfl ?_
        refine rg_iload_n F 1 1 rfl dJ7_fill_53178_12 rfl ?_
        refine rg_iast F 40 i tC40 (by omega) (by omega) (by decide) (f9 := (rg_hd (σ 40) i (fun _ => v))) rfl (rg_wr σ 40 (rg_up (rg_hd (σ 40) i (fun _ => v)) i v)) (rg_wr_wr _ 40 _ _) dJ7_fill_53178_13 ?_
        refine rg_iinc F (v := ((i + 1 : Nat) : Int)) 2 [(2, .int (rg_I ((i + 1 : Nat) : Int))), (0, .ref (κ.2.2.2 40)), (1, .int (rg_I v)), (3, .int (rg_I ((1440 : Nat) : Int)))] dJ7_fill_53178_14 rfl (by omega) (by decide) rfl ?_
        refine rg_goto F 5 dJ7_fill_53178_17 (by decide) ?_
        refine rg_eq (σ' := (rg_wr σ 40 (rg_hd (σ 40) (i + 1) (fun _ => v)))) (rg_wr_congr (f := (rg_up (rg_hd (σ 40) i (fun _ => v)) i v)) (g := (rg_hd (σ 40) (i + 1) (fun _ => v))) 40 rfl (rg_hd_s _ _ _ rfl)) ?_
        refine rg_sub (lv' := [(0, .ref (κ.2.2.2 40)), (1, .int (rg_I v)), (2, .int (rg_I ((i + 1 : Nat) : Int))), (3, .int (rg_I ((1440 : Nat) : Int)))]) [1, 2, 0, 3] rfl ?_
        exact ih5 (1440 - (i + 1)) (by omega) ((i + 1)) rfl (by omega)
  refine rg_eq (σ' := (rg_wr σ 40 (rg_hd (σ 40) 0 (fun _ => v)))) (((rg_wr_self (σ := σ) (k := 40) (f := (σ 40)) rfl).trans rfl).trans (rg_wr_congr (f := (σ 40)) (g := (rg_hd (σ 40) 0 (fun _ => v))) 40 rfl (rg_hd_0 _ _))) ?_
  refine rg_sub (lv' := [(0, .ref (κ.2.2.2 40)), (1, .int (rg_I v)), (2, .int (rg_I 0)), (3, .int (rg_I ((1440 : Nat) : Int)))]) [2, 3, 1, 0] rfl ?_
  exact L5 _ (0) rfl (by omega)
set_option maxHeartbeats 400000 in
set_option maxRecDepth 100000 in
/-- Ranking.calculate -/
theorem k_X5_calculate (κ : rg_K) (σ : rg_S) (fl : Nat → Int) (lt : Nat → Int) (ins : Nat → Int) (sc : Nat → Int) (dis : Nat → Int) (nt : Nat → Int) (od : Nat → Int) (rk : Nat → Int) (nb : Nat) (nr : Nat) (h11 : σ 11 = fl) (h12 : σ 12 = lt) (h28 : σ 28 = ins) (h34 : σ 34 = sc) (h35 : σ 35 = dis) (h39 : σ 39 = nt) (h41 : σ 41 = od) (h42 : σ 42 = rk) (h1_2 : σ 1 2 = ((nb : Nat) : Int)) (h2_3 : σ 2 3 = ((nr : Nat) : Int)) (hnb : nb ≤ 40) (hnr : nr ≤ 16) (hlt : ∀ j, rg_Rg (lt j)) (hfl : ∀ j, rg_Rg (fl j)) (hnt : ∀ j, rg_Rg (nt j)) (hins : ∀ j, rg_Rg (ins j)) (hdis : ∀ j, rg_Rg (dis j)) (hsc : ∀ j, rg_Rg (sc j)) (hod : ∀ j, 0 ≤ od j ∧ od j < 40) : rg_CV κ rg_tC yX5_calculate cX5_calculate 2 3 68 [.ref (κ.2.2.2 8)] σ (fun σ9 => σ9 = (rg_wr (rg_wr (rg_wr σ 40 (rg_rws nb (rg_RW fl nt lt ins dis sc nr))) 41 (rg_OD (rg_RW fl nt lt ins dis sc nr) od nb)) 42 (rg_RK (rg_OD (rg_RW fl nt lt ins dis sc nr) od nb) rk nb))) := by
  refine rg_entV [(0, .ref (κ.2.2.2 8))] rfl (by decide +kernel) (Nat.le_of_ble_eq_true rfl) (fun Γ F hR => ?_)
  refine rg_aload_n F 0 0 rfl dX5_calculate_0 rfl ?_
  refine rg_get F 8 4 tC8 cX5 k_lays_X5 (by decide) k_fl_X5_11 rfl (v := .ref (κ.2.2.2 40)) rfl dX5_calculate_1 ?_
  refine rg_ldc F (v := 1000000) k_cn_X5_37 dX5_calculate_4 ?_
  refine rg_callSV F [.ref (κ.2.2.2 40), .int (rg_I 1000000)] [] (k_J7_fill_53178_40 κ σ (1000000)) v_J7_fill_53178 k_st_yJ7_fill_53178 k_ml_X5_38 ⟨Nat.le_of_ble_eq_true rfl, Nat.le_of_ble_eq_true rfl⟩ rfl (Nat.le_of_ble_eq_true rfl) dX5_calculate_6 (rg_ex1 ?_)
  refine rg_eq (σ' := (rg_wr σ 40 (fun _ => 1000000))) rfl ?_
  refine rg_iconst F dX5_calculate_9 ?_
  refine rg_istore_n F [(1, .int (rg_I 0)), (0, .ref (κ.2.2.2 8))] dX5_calculate_10 rfl (by decide) rfl ?_
  have L11 : ∀ (n11 : Nat) (b : Nat), n11 = nb - b → (b ≤ nb) → rg_G κ Γ rg_tC 2 0 0 11 [(0, .ref (κ.2.2.2 8)), (1, .int (rg_I ((b : Nat) : Int)))] [] (rg_wr (rg_wr σ 40 (rg_rws b (rg_RW fl nt lt ins dis sc nr))) 41 (rg_OD (rg_RW fl nt lt ins dis sc nr) od b)) := by
    intro n11
    induction n11 using Nat.strongRecOn with
    | _ n11 ih11 =>
      intro b hn11 hb
      refine rg_iload_n F 1 1 rfl dX5_calculate_11 rfl ?_
      refine rg_aload_n F 0 0 rfl dX5_calculate_12 rfl ?_
      refine rg_get F 8 0 tC8 cX5 k_lays_X5 (by decide) k_fl_X5_21 rfl (v := .ref (κ.2.2.2 1)) rfl dX5_calculate_13 ?_
      refine rg_get F 1 2 tC1 cX0 k_lays_X0 (by decide) k_fl_X5_44 rfl (v := .int (rg_I ((nb : Nat) : Int))) (congrArg (fun x => Value.int (rg_I x)) h1_2) dX5_calculate_16 ?_
      refine rg_icmp_ge F 38 dX5_calculate_19 (by decide) (by omega) (by omega) (fun c19_1 => ?_) (fun c19_1 => ?_)
      ·
        refine rg_iconst F dX5_calculate_38 ?_
        refine rg_istore_n F [(1, .int (rg_I 0)), (0, .ref (κ.2.2.2 8))] dX5_calculate_39 rfl (by decide) rfl ?_
        have L40 : ∀ (n40 : Nat) (i : Nat), n40 = nb - i → (i ≤ nb) → rg_G κ Γ rg_tC 2 0 0 40 [(0, .ref (κ.2.2.2 8)), (1, .int (rg_I ((i : Nat) : Int)))] [] (rg_wr (rg_wr (rg_wr σ 40 (rg_rws nb (rg_RW fl nt lt ins dis sc nr))) 41 (rg_OD (rg_RW fl nt lt ins dis sc nr) od nb)) 42 (rg_RK (rg_OD (rg_RW fl nt lt ins dis sc nr) od nb) rk i)) := by
          intro n40
          induction n40 using Nat.strongRecOn with
          | _ n40 ih40 =>
            intro i hn40 hi
            refine rg_iload_n F 1 1 rfl dX5_calculate_40 rfl ?_
            refine rg_aload_n F 0 0 rfl dX5_calculate_41 rfl ?_
            refine rg_get F 8 0 tC8 cX5 k_lays_X5 (by decide) k_fl_X5_21 rfl (v := .ref (κ.2.2.2 1)) rfl dX5_calculate_42 ?_
            refine rg_get F 1 2 tC1 cX0 k_lays_X0 (by decide) k_fl_X5_44 rfl (v := .int (rg_I ((nb : Nat) : Int))) (congrArg (fun x => Value.int (rg_I x)) h1_2) dX5_calculate_45 ?_
            refine rg_icmp_ge F 71 dX5_calculate_48 (by decide) (by omega) (by omega) (fun c48_2 => ?_) (fun c48_2 => ?_)
            ·
              exact hR _ _ _ dX5_calculate_71 (rg_wr_congr (f := (rg_RK (rg_OD (rg_RW fl nt lt ins dis sc nr) od nb) rk i)) (g := (rg_RK (rg_OD (rg_RW fl nt lt ins dis sc nr) od nb) rk nb)) 42 (rg_wr_congr (f := (rg_OD (rg_RW fl nt lt ins dis sc nr) od nb)) (g := (rg_OD (rg_RW fl nt lt ins dis sc nr) od nb)) 41 (rg_wr_congr (f := (rg_rws nb (rg_RW fl nt lt ins dis sc nr))) (g := (rg_rws nb (rg_RW fl nt lt ins dis sc nr))) 40 rfl rfl) rfl) (by rw [show i = nb by omega]))
            ·
              refine rg_aload_n F 0 0 rfl dX5_calculate_51 rfl ?_
              refine rg_get F 8 6 tC8 cX5 k_lays_X5 (by decide) k_fl_X5_18 rfl (v := .ref (κ.2.2.2 42)) rfl dX5_calculate_52 ?_
              refine rg_aload_n F 0 0 rfl dX5_calculate_55 rfl ?_
              refine rg_get F 8 5 tC8 cX5 k_lays_X5 (by decide) k_fl_X5_15 rfl (v := .ref (κ.2.2.2 41)) rfl dX5_calculate_56 ?_
              refine rg_iload_n F 1 1 rfl dX5_calculate_59 rfl ?_
              have hodi := rg_OD_lt (rg_RW fl nt lt ins dis sc nr) od nb i (by omega)
              refine rg_iald F 41 i (v := ((Int.toNat ((rg_OD (rg_RW fl nt lt ins dis sc nr) od nb) i) : Nat) : Int)) tC41 (by omega) (by omega) (by decide) (Eq.trans (b := ((rg_OD (rg_RW fl nt lt ins dis sc nr) od nb) i)) (rfl) (Int.toNat_of_nonneg (a := ((rg_OD (rg_RW fl nt lt ins dis sc nr) od nb) i)) (by omega)).symm) dX5_calculate_60 ?_
              refine rg_iload_n F 1 1 rfl dX5_calculate_61 rfl ?_
              refine rg_iconst F dX5_calculate_62 ?_
              refine rg_iadd F dX5_calculate_63 ?_
              refine rg_iast F 42 (Int.toNat ((rg_OD (rg_RW fl nt lt ins dis sc nr) od nb) i)) tC42 (by omega) (by omega) (by decide) (f9 := (rg_RK (rg_OD (rg_RW fl nt lt ins dis sc nr) od nb) rk i)) rfl (rg_wr (rg_wr (rg_wr σ 40 (rg_rws nb (rg_RW fl nt lt ins dis sc nr))) 41 (rg_OD (rg_RW fl nt lt ins dis sc nr) od nb)) 42 (rg_up (rg_RK (rg_OD (rg_RW fl nt lt ins dis sc nr) od nb) rk i) (Int.toNat ((rg_OD (rg_RW fl nt lt ins dis sc nr) od nb) i)) (((i : Nat) : Int) + 1))) (rg_wr_wr _ 42 _ _) dX5_calculate_64 ?_
              refine rg_iinc F (v := ((i + 1 : Nat) : Int)) 1 [(1, .int (rg_I ((i + 1 : Nat) : Int))), (0, .ref (κ.2.2.2 8))] dX5_calculate_65 rfl (by omega) (by decide) rfl ?_
              refine rg_goto F 40 dX5_calculate_68 (by decide) ?_
              refine rg_eq (σ' := (rg_wr (rg_wr (rg_wr σ 40 (rg_rws nb (rg_RW fl nt lt ins dis sc nr))) 41 (rg_OD (rg_RW fl nt lt ins dis sc nr) od nb)) 42 (rg_RK (rg_OD (rg_RW fl nt lt ins dis sc nr) od nb) rk (i + 1)))) (rg_wr_congr (f := (rg_up (rg_RK (rg_OD (rg_RW fl nt lt ins dis sc nr) od nb) rk i) (Int.toNat ((rg_OD (rg_RW fl nt lt ins dis sc nr) od nb) i)) (((i : Nat) : Int) + 1))) (g := (rg_RK (rg_OD (rg_RW fl nt lt ins dis sc nr) od nb) rk (i + 1))) 42 (rg_wr_congr (f := (rg_OD (rg_RW fl nt lt ins dis sc nr) od nb)) (g := (rg_OD (rg_RW fl nt lt ins dis sc nr) od nb)) 41 (rg_wr_congr (f := (rg_rws nb (rg_RW fl nt lt ins dis sc nr))) (g := (rg_rws nb (rg_RW fl nt lt ins dis sc nr))) 40 rfl rfl) rfl) rfl) ?_
              refine rg_sub (lv' := [(0, .ref (κ.2.2.2 8)), (1, .int (rg_I ((i + 1 : Nat) : Int)))]) [1, 0] rfl ?_
              exact ih40 (nb - (i + 1)) (by omega) ((i + 1)) rfl (by omega)
        refine rg_eq (σ' := (rg_wr (rg_wr (rg_wr σ 40 (rg_rws nb (rg_RW fl nt lt ins dis sc nr))) 41 (rg_OD (rg_RW fl nt lt ins dis sc nr) od nb)) 42 (rg_RK (rg_OD (rg_RW fl nt lt ins dis sc nr) od nb) rk 0))) (((rg_wr_self (σ := (rg_wr (rg_wr σ 40 (rg_rws b (rg_RW fl nt lt ins dis sc nr))) 41 (rg_OD (rg_RW fl nt lt ins dis sc nr) od b))) (k := 42) (f := rk) h42).trans rfl).trans (rg_wr_congr (f := rk) (g := (rg_RK (rg_OD (rg_RW fl nt lt ins dis sc nr) od nb) rk 0)) 42 (rg_wr_congr (f := (rg_OD (rg_RW fl nt lt ins dis sc nr) od b)) (g := (rg_OD (rg_RW fl nt lt ins dis sc nr) od nb)) 41 (rg_wr_congr (f := (rg_rws b (rg_RW fl nt lt ins dis sc nr))) (g := (rg_rws nb (rg_RW fl nt lt ins dis sc nr))) 40 rfl (by rw [show b = nb by omega])) (by rw [show b = nb by omega])) rfl)) ?_
        refine rg_sub (lv' := [(0, .ref (κ.2.2.2 8)), (1, .int (rg_I 0))]) [1, 0] rfl ?_
        exact L40 _ (0) rfl (by omega)
      ·
        have hG : ∀ a c, a < b + 1 → rg_Rg ((rg_RW fl nt lt ins dis sc nr) a c) := fun a c ha => rg_fw_Rg (rg_g0_Rg (hfl _) (hnt _) (hlt _) ⟨by omega, by omega⟩) (fun _ => hsc _) _ _ _
        refine rg_aload_n F 0 0 rfl dX5_calculate_22 rfl ?_
        refine rg_iload_n F 1 1 rfl dX5_calculate_23 rfl ?_
        refine rg_callVV F [.int (rg_I ((b : Nat) : Int))] [] 8 (k_X5_fillRow κ (rg_wr (rg_wr σ 40 (rg_rws b (rg_RW fl nt lt ins dis sc nr))) 41 (rg_OD (rg_RW fl nt lt ins dis sc nr) od b)) (b) fl lt ins sc dis nt (rg_rws b (rg_RW fl nt lt ins dis sc nr)) (nr) (h11) (h12) (h28) (h34) (h35) (h39) rfl (h2_3) (by first | assumption | omega) (by first | assumption | omega) (fun c hc => rg_rws_out _ hc) (rg_rws_Rg (fun a c ha => hG a c (by omega))) (by first | assumption | omega) (by first | assumption | omega) (by first | assumption | omega) (by first | assumption | omega) (by first | assumption | omega) (by first | assumption | omega)) tC8 cX5 v_X5_fillRow i_X5_fillRow k_ml_X5_50 ⟨Nat.le_of_ble_eq_true rfl, Nat.le_of_ble_eq_true rfl⟩ rfl (Nat.le_of_ble_eq_true rfl) dX5_calculate_24 (rg_ex1 ?_)
        refine rg_eq (σ' := (rg_wr (rg_wr σ 40 (rg_rw (rg_rws b (rg_RW fl nt lt ins dis sc nr)) b (rg_fw (fun o => ¬ ins (o * 40 + b) = 0) (fun o => dis (o * 40 + b)) (fun o => sc (o * 40 + b)) (rg_g0 (fl b) (nt b) (lt b) ((b : Nat) : Int)) nr nr))) 41 (rg_OD (rg_RW fl nt lt ins dis sc nr) od b))) ((rg_wr_comm _ _ _ (by decide)).trans (rg_wr_congr 41 (rg_wr_wr _ 40 _ _) rfl)) ?_
        refine rg_eq (σ' := (rg_wr (rg_wr σ 40 (rg_rws (b + 1) (rg_RW fl nt lt ins dis sc nr))) 41 (rg_OD (rg_RW fl nt lt ins dis sc nr) od b))) (rg_wr_congr (f := (rg_OD (rg_RW fl nt lt ins dis sc nr) od b)) (g := (rg_OD (rg_RW fl nt lt ins dis sc nr) od b)) 41 (rg_wr_congr (f := (rg_rw (rg_rws b (rg_RW fl nt lt ins dis sc nr)) b (rg_fw (fun o => ¬ ins (o * 40 + b) = 0) (fun o => dis (o * 40 + b)) (fun o => sc (o * 40 + b)) (rg_g0 (fl b) (nt b) (lt b) ((b : Nat) : Int)) nr nr))) (g := (rg_rws (b + 1) (rg_RW fl nt lt ins dis sc nr))) 40 rfl (rg_rws_s b (rg_RW fl nt lt ins dis sc nr))) rfl) ?_
        refine rg_aload_n F 0 0 rfl dX5_calculate_27 rfl ?_
        refine rg_iload_n F 1 1 rfl dX5_calculate_28 rfl ?_
        refine rg_callVV F [.int (rg_I ((b : Nat) : Int))] [] 8 (k_X5_insertInOrder κ (rg_wr (rg_wr σ 40 (rg_rws (b + 1) (rg_RW fl nt lt ins dis sc nr))) 41 (rg_OD (rg_RW fl nt lt ins dis sc nr) od b)) (b) (rg_rws (b + 1) (rg_RW fl nt lt ins dis sc nr)) (rg_OD (rg_RW fl nt lt ins dis sc nr) od b) rfl rfl (by first | assumption | omega) (rg_rws_Rg hG) (rg_OD_all hod _ (by omega))) tC8 cX5 v_X5_insertInOrder i_X5_insertInOrder k_ml_X5_54 ⟨Nat.le_of_ble_eq_true rfl, Nat.le_of_ble_eq_true rfl⟩ rfl (Nat.le_of_ble_eq_true rfl) dX5_calculate_29 (rg_ex1 ?_)
        refine rg_eq (σ' := (rg_wr (rg_wr σ 40 (rg_rws (b + 1) (rg_RW fl nt lt ins dis sc nr))) 41 (rg_ino (fun y => rg_lt (fun i => (rg_rws (b + 1) (rg_RW fl nt lt ins dis sc nr)) (b * 36 + i)) (fun i => (rg_rws (b + 1) (rg_RW fl nt lt ins dis sc nr)) (Int.toNat y * 36 + i))) ((b : Nat) : Int) b (rg_OD (rg_RW fl nt lt ins dis sc nr) od b)))) (rg_wr_wr _ 41 _ _) ?_
        refine rg_iinc F (v := ((b + 1 : Nat) : Int)) 1 [(1, .int (rg_I ((b + 1 : Nat) : Int))), (0, .ref (κ.2.2.2 8))] dX5_calculate_32 rfl (by omega) (by decide) rfl ?_
        refine rg_goto F 11 dX5_calculate_35 (by decide) ?_
        refine rg_eq (σ' := (rg_wr (rg_wr σ 40 (rg_rws (b + 1) (rg_RW fl nt lt ins dis sc nr))) 41 (rg_OD (rg_RW fl nt lt ins dis sc nr) od (b + 1)))) (rg_wr_congr (f := (rg_ino (fun y => rg_lt (fun i => (rg_rws (b + 1) (rg_RW fl nt lt ins dis sc nr)) (b * 36 + i)) (fun i => (rg_rws (b + 1) (rg_RW fl nt lt ins dis sc nr)) (Int.toNat y * 36 + i))) ((b : Nat) : Int) b (rg_OD (rg_RW fl nt lt ins dis sc nr) od b))) (g := (rg_OD (rg_RW fl nt lt ins dis sc nr) od (b + 1))) 41 (rg_wr_congr (f := (rg_rws (b + 1) (rg_RW fl nt lt ins dis sc nr))) (g := (rg_rws (b + 1) (rg_RW fl nt lt ins dis sc nr))) 40 rfl rfl) rg_OD_s) ?_
        refine rg_sub (lv' := [(0, .ref (κ.2.2.2 8)), (1, .int (rg_I ((b + 1 : Nat) : Int)))]) [1, 0] rfl ?_
        exact ih11 (nb - (b + 1)) (by omega) ((b + 1)) rfl (by omega)
  refine rg_eq (σ' := (rg_wr (rg_wr σ 40 (rg_rws 0 (rg_RW fl nt lt ins dis sc nr))) 41 (rg_OD (rg_RW fl nt lt ins dis sc nr) od 0))) (((rg_wr_self (σ := (rg_wr σ 40 (fun _ => 1000000))) (k := 41) (f := od) h41).trans rfl).trans (rg_wr_congr (f := od) (g := (rg_OD (rg_RW fl nt lt ins dis sc nr) od 0)) 41 (rg_wr_congr (f := (fun _ => 1000000)) (g := (rg_rws 0 (rg_RW fl nt lt ins dis sc nr))) 40 rfl (rg_rws_0 _)) rfl)) ?_
  refine rg_sub (lv' := [(0, .ref (κ.2.2.2 8)), (1, .int (rg_I 0))]) [1, 0] rfl ?_
  exact L11 _ (0) rfl (by omega)
