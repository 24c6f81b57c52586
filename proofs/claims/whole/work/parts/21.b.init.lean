/-! Constructors of the class's leaves. -/
set_option maxHeartbeats 4000000 in
set_option maxRecDepth 100000 in
theorem k_J7_fill_53178_g (κ : rg_K) (tb : List rg_Sh) (k0 n0 : Nat) (hs0 : tb[k0]? = some (.inl (1, n0))) (hn0 : n0 < 65536) (σ : rg_S) (v : Int) : rg_CV κ tb yJ7_fill_53178 cJ7_fill_53178 4 0 0 [.ref (κ.2.2.2 k0), .int (rg_I v)] σ (fun σ9 => σ9 = (rg_wr σ k0 (fun _ => v))) := by
  refine rg_entV [(0, .ref (κ.2.2.2 k0)), (1, .int (rg_I v))] rfl (by decide +kernel) (Nat.le_of_ble_eq_true rfl) (fun Γ F hR => ?_)
  refine rg_iconst F dJ7_fill_53178_0 ?_
  refine rg_istore_n F [(2, .int (rg_I 0)), (0, .ref (κ.2.2.2 k0)), (1, .int (rg_I v))] dJ7_fill_53178_1 rfl (by decide) rfl ?_
  refine rg_aload_n F 1 0 rfl dJ7_fill_53178_2 rfl ?_
  refine rg_alen F k0 hs0 (fun cy => rfl) dJ7_fill_53178_3 ?_
  refine rg_istore_n F [(3, .int (rg_I ((n0 : Nat) : Int))), (2, .int (rg_I 0)), (0, .ref (κ.2.2.2 k0)), (1, .int (rg_I v))] dJ7_fill_53178_4 rfl (by decide) rfl ?_
  have L5 : ∀ (n5 : Nat) (i : Nat), n5 = n0 - i → (i ≤ n0) → rg_G κ Γ tb 4 0 0 5 [(0, .ref (κ.2.2.2 k0)), (1, .int (rg_I v)), (2, .int (rg_I ((i : Nat) : Int))), (3, .int (rg_I ((n0 : Nat) : Int)))] [] (rg_wr σ k0 (rg_hd (σ k0) i (fun _ => v))) := by
    intro n5
    induction n5 using Nat.strongRecOn with
    | _ n5 ih5 =>
      intro i hn5 hi
      refine rg_iload_n F 2 2 rfl dJ7_fill_53178_5 rfl ?_
      refine rg_iload_n F 3 3 rfl dJ7_fill_53178_6 rfl ?_
      refine rg_icmp_ge F 20 dJ7_fill_53178_7 (by decide) (by omega) (by omega) (fun c7_1 => ?_) (fun c7_1 => ?_)
      ·
        refine rg_ext (g := (fun _ => v)) k0 hs0 (fun j hj => by rw [rg_hd_at _ _ (by omega)]) ?_
        exact hR _ _ _ dJ7_fill_53178_20 rfl
      ·
        refine rg_aload_n F 0 0 rfl dJ7_fill_53178_10 rfl ?_
        refine rg_iload_n F 2 2 rfl dJ7_fill_53178_11 rfl ?_
        refine rg_iload_n F 1 1 rfl dJ7_fill_53178_12 rfl ?_
        refine rg_iast F k0 i hs0 (by omega) (by omega) (by omega) (f9 := (rg_hd (σ k0) i (fun _ => v))) (rg_wr_same _ _ _) (rg_wr σ k0 (rg_up (rg_hd (σ k0) i (fun _ => v)) i v)) (rg_wr_wr _ k0 _ _) dJ7_fill_53178_13 ?_
        refine rg_iinc F (v := ((i + 1 : Nat) : Int)) 2 [(2, .int (rg_I ((i + 1 : Nat) : Int))), (0, .ref (κ.2.2.2 k0)), (1, .int (rg_I v)), (3, .int (rg_I ((n0 : Nat) : Int)))] dJ7_fill_53178_14 rfl (by omega) (by decide) rfl ?_
        refine rg_goto F 5 dJ7_fill_53178_17 (by decide) ?_
        refine rg_eq (σ' := (rg_wr σ k0 (rg_hd (σ k0) (i + 1) (fun _ => v)))) (rg_wr_congr (f := (rg_up (rg_hd (σ k0) i (fun _ => v)) i v)) (g := (rg_hd (σ k0) (i + 1) (fun _ => v))) k0 rfl (rg_hd_s _ _ _ rfl)) ?_
        refine rg_sub (lv' := [(0, .ref (κ.2.2.2 k0)), (1, .int (rg_I v)), (2, .int (rg_I ((i + 1 : Nat) : Int))), (3, .int (rg_I ((n0 : Nat) : Int)))]) [1, 2, 0, 3] rfl ?_
        exact ih5 (n0 - (i + 1)) (by omega) ((i + 1)) rfl (by omega)
  refine rg_eq (σ' := (rg_wr σ k0 (rg_hd (σ k0) 0 (fun _ => v)))) (((rg_wr_self (σ := σ) (k := k0) (f := (σ k0)) rfl).trans rfl).trans (rg_wr_congr (f := (σ k0)) (g := (rg_hd (σ k0) 0 (fun _ => v))) k0 rfl (rg_hd_0 _ _))) ?_
  refine rg_sub (lv' := [(0, .ref (κ.2.2.2 k0)), (1, .int (rg_I v)), (2, .int (rg_I 0)), (3, .int (rg_I ((n0 : Nat) : Int)))]) [2, 3, 1, 0] rfl ?_
  exact L5 _ (0) rfl (by omega)
def rg_adv (l : List Nat) (t : Nat → Nat) : Nat → Nat := fun i => if i < l.length then l.getD i 0 else t i
theorem rg_adv_up (l : List Nat) (t : Nat → Nat) (h : l.length ≤ 100) : ∀ i, 100 ≤ i → rg_adv l t i = t i := fun i hi => if_neg (by omega)
def rg_tE : List rg_Sh := [.inr (2, [some 1, some 2, some 3]), .inl (1, 640), .inl (1, 640), .inl (1, 640)]
theorem rg_hfs {N : Nat} {ty0 : Nat → FieldType} {fs : List Value} (h : (List.range N).map (fun j => defaultValue (ty0 j)) = fs) : ∀ j, j < N → defaultValue (ty0 j) = vp_V fs j := fun j hj => by
  subst h
  unfold vp_V
  rw [List.getD_eq_getElem?_getD, List.getElem?_map, List.getElem?_range hj]
  rfl
/-- what the constructor of X0 leaves -/
def rg_pX0 (κ : rg_K) (a : Nat) (w : va_W) : Prop := ∃ q1 q2 : Nat, w = [(a, .inr (0, [.ref q1, .ref q2, .int (rg_I 0), .int (rg_I 0)])), (q1, rg_el κ (fun _ => 0) (.inl (1, 40))), (q2, rg_el κ (fun _ => 0) (.inl (1, 40)))]
set_option maxHeartbeats 4000000 in
set_option maxRecDepth 100000 in
theorem c_X0_init (κ : rg_K) : rg_NC κ yX0_init cX0_init 1 1 24 2 80 [] (.inr (0, [.null, .null, .int (rg_I 0), .int (rg_I 0)])) (rg_pX0 κ) := by
  refine rg_entNN (by decide +kernel) rfl (Nat.le_of_ble_eq_true rfl) (fun Γ a F hD0 hR => ?_)
  refine rg_Jlv (lv' := [(0, .ref a)]) rfl ?_
  refine rg_Jaload_n F.1 0 0 rfl dX0_init_0 rfl ?_
  refine rg_Jsuper F k_ml_X0_3 (by decide) (Nat.le_of_ble_eq_true rfl) dX0_init_1 ?_
  refine rg_Jaload_n F.1 0 0 rfl dX0_init_4 rfl ?_
  refine rg_Jbipush F.1 dX0_init_5 (by decide +kernel) ?_
  refine rg_Jnewa F.1 hD0 1 40 (fun cy => rfl) rfl k_ar_int (fun cA => rfl) (by decide) ⟨by omega, by omega⟩ dX0_init_7 (fun q1 hD1 => ?_)
  refine rg_JputF F (fs := [.null, .null, .int (rg_I 0), .int (rg_I 0)]) (r := [(q1, rg_el κ (fun _ => 0) (.inl (1, 40)))]) hD1 cX0 k_lays_X0 tyX0_ok nmX0 0 (by decide) k_fl_X0_9 rfl rfl rfl rfl (Nat.le_of_ble_eq_true rfl) dX0_init_9 (fun hD2 => ?_)
  have hD3 : va_D (rg_A Γ) [(a, .inr (0, [.ref q1, .null, .int (rg_I 0), .int (rg_I 0)])), (q1, rg_el κ (fun _ => 0) (.inl (1, 40)))] := hD2
  refine rg_Jw (w9 := [(a, .inr (0, [.ref q1, .null, .int (rg_I 0), .int (rg_I 0)])), (q1, rg_el κ (fun _ => 0) (.inl (1, 40)))]) rfl ?_
  refine rg_Jaload_n F.1 0 0 rfl dX0_init_12 rfl ?_
  refine rg_Jbipush F.1 dX0_init_13 (by decide +kernel) ?_
  refine rg_Jnewa F.1 hD3 1 40 (fun cy => rfl) rfl k_ar_int (fun cA => rfl) (by decide) ⟨by omega, by omega⟩ dX0_init_15 (fun q2 hD4 => ?_)
  refine rg_JputF F (fs := [.ref q1, .null, .int (rg_I 0), .int (rg_I 0)]) (r := [(q1, rg_el κ (fun _ => 0) (.inl (1, 40))), (q2, rg_el κ (fun _ => 0) (.inl (1, 40)))]) hD4 cX0 k_lays_X0 tyX0_ok nmX0 1 (by decide) k_fl_X0_15 rfl rfl rfl rfl (Nat.le_of_ble_eq_true rfl) dX0_init_17 (fun hD5 => ?_)
  have hD6 : va_D (rg_A Γ) [(a, .inr (0, [.ref q1, .ref q2, .int (rg_I 0), .int (rg_I 0)])), (q1, rg_el κ (fun _ => 0) (.inl (1, 40))), (q2, rg_el κ (fun _ => 0) (.inl (1, 40)))] := hD5
  refine rg_Jw (w9 := [(a, .inr (0, [.ref q1, .ref q2, .int (rg_I 0), .int (rg_I 0)])), (q1, rg_el κ (fun _ => 0) (.inl (1, 40))), (q2, rg_el κ (fun _ => 0) (.inl (1, 40)))]) rfl ?_
  exact hR _ _ _ _ _ (by omega) (by omega) dX0_init_20 hD6 ⟨q1, q2, rfl⟩
/-- what the constructor of X4 leaves -/
def rg_pX4 (κ : rg_K) (a : Nat) (w : va_W) : Prop := ∃ q1 q2 q3 : Nat, w = [(a, .inr (4, [.ref q1, .ref q2, .ref q3, .int (rg_I 0)])), (q1, rg_el κ (fun _ => 0) (.inl (1, 16))), (q2, rg_el κ (fun _ => 0) (.inl (1, 16))), (q3, rg_el κ (fun _ => 0) (.inl (2, 16)))]
set_option maxHeartbeats 4000000 in
set_option maxRecDepth 100000 in
theorem c_X4_init (κ : rg_K) : rg_NC κ yX4_init cX4_init 1 1 24 3 48 [] (.inr (4, [.null, .null, .null, .int (rg_I 0)])) (rg_pX4 κ) := by
  refine rg_entNN (by decide +kernel) rfl (Nat.le_of_ble_eq_true rfl) (fun Γ a F hD0 hR => ?_)
  refine rg_Jlv (lv' := [(0, .ref a)]) rfl ?_
  refine rg_Jaload_n F.1 0 0 rfl dX4_init_0 rfl ?_
  refine rg_Jsuper F k_ml_X4_3 (by decide) (Nat.le_of_ble_eq_true rfl) dX4_init_1 ?_
  refine rg_Jaload_n F.1 0 0 rfl dX4_init_4 rfl ?_
  refine rg_Jbipush F.1 dX4_init_5 (by decide +kernel) ?_
  refine rg_Jnewa F.1 hD0 1 16 (fun cy => rfl) rfl k_ar_int (fun cA => rfl) (by decide) ⟨by omega, by omega⟩ dX4_init_7 (fun q1 hD1 => ?_)
  refine rg_JputF F (fs := [.null, .null, .null, .int (rg_I 0)]) (r := [(q1, rg_el κ (fun _ => 0) (.inl (1, 16)))]) hD1 cX4 k_lays_X4 tyX4_ok nmX4 0 (by decide) k_fl_X4_9 rfl rfl rfl rfl (Nat.le_of_ble_eq_true rfl) dX4_init_9 (fun hD2 => ?_)
  have hD3 : va_D (rg_A Γ) [(a, .inr (4, [.ref q1, .null, .null, .int (rg_I 0)])), (q1, rg_el κ (fun _ => 0) (.inl (1, 16)))] := hD2
  refine rg_Jw (w9 := [(a, .inr (4, [.ref q1, .null, .null, .int (rg_I 0)])), (q1, rg_el κ (fun _ => 0) (.inl (1, 16)))]) rfl ?_
  refine rg_Jaload_n F.1 0 0 rfl dX4_init_12 rfl ?_
  refine rg_Jbipush F.1 dX4_init_13 (by decide +kernel) ?_
  refine rg_Jnewa F.1 hD3 1 16 (fun cy => rfl) rfl k_ar_int (fun cA => rfl) (by decide) ⟨by omega, by omega⟩ dX4_init_15 (fun q2 hD4 => ?_)
  refine rg_JputF F (fs := [.ref q1, .null, .null, .int (rg_I 0)]) (r := [(q1, rg_el κ (fun _ => 0) (.inl (1, 16))), (q2, rg_el κ (fun _ => 0) (.inl (1, 16)))]) hD4 cX4 k_lays_X4 tyX4_ok nmX4 1 (by decide) k_fl_X4_15 rfl rfl rfl rfl (Nat.le_of_ble_eq_true rfl) dX4_init_17 (fun hD5 => ?_)
  have hD6 : va_D (rg_A Γ) [(a, .inr (4, [.ref q1, .ref q2, .null, .int (rg_I 0)])), (q1, rg_el κ (fun _ => 0) (.inl (1, 16))), (q2, rg_el κ (fun _ => 0) (.inl (1, 16)))] := hD5
  refine rg_Jw (w9 := [(a, .inr (4, [.ref q1, .ref q2, .null, .int (rg_I 0)])), (q1, rg_el κ (fun _ => 0) (.inl (1, 16))), (q2, rg_el κ (fun _ => 0) (.inl (1, 16)))]) rfl ?_
  refine rg_Jaload_n F.1 0 0 rfl dX4_init_20 rfl ?_
  refine rg_Jbipush F.1 dX4_init_21 (by decide +kernel) ?_
  refine rg_Jnewa F.1 hD6 2 16 (fun cy => rfl) rfl k_ar_boolean (fun cA => rfl) (by decide) ⟨by omega, by omega⟩ dX4_init_23 (fun q3 hD7 => ?_)
  refine rg_JputF F (fs := [.ref q1, .ref q2, .null, .int (rg_I 0)]) (r := [(q1, rg_el κ (fun _ => 0) (.inl (1, 16))), (q2, rg_el κ (fun _ => 0) (.inl (1, 16))), (q3, rg_el κ (fun _ => 0) (.inl (2, 16)))]) hD7 cX4 k_lays_X4 tyX4_ok nmX4 2 (by decide) k_fl_X4_18 rfl rfl rfl rfl (Nat.le_of_ble_eq_true rfl) dX4_init_25 (fun hD8 => ?_)
  have hD9 : va_D (rg_A Γ) [(a, .inr (4, [.ref q1, .ref q2, .ref q3, .int (rg_I 0)])), (q1, rg_el κ (fun _ => 0) (.inl (1, 16))), (q2, rg_el κ (fun _ => 0) (.inl (1, 16))), (q3, rg_el κ (fun _ => 0) (.inl (2, 16)))] := hD8
  refine rg_Jw (w9 := [(a, .inr (4, [.ref q1, .ref q2, .ref q3, .int (rg_I 0)])), (q1, rg_el κ (fun _ => 0) (.inl (1, 16))), (q2, rg_el κ (fun _ => 0) (.inl (1, 16))), (q3, rg_el κ (fun _ => 0) (.inl (2, 16)))]) rfl ?_
  exact hR _ _ _ _ _ (by omega) (by omega) dX4_init_28 hD9 ⟨q1, q2, q3, rfl⟩
/-- what the constructor of X1 leaves -/
def rg_pX1 (κ : rg_K) (a : Nat) (w : va_W) : Prop := ∃ q1 q2 q3 q4 : Nat, w = [(a, .inr (1, [.ref q1, .ref q2, .ref q3, .ref q4, .int (rg_I 0)])), (q1, rg_el κ (fun _ => 0) (.inl (1, 41))), (q2, rg_el κ (fun _ => 0) (.inl (1, 41))), (q3, rg_el κ (fun _ => 0) (.inl (1, 41))), (q4, rg_el κ (fun _ => 0) (.inl (2, 41)))]
set_option maxHeartbeats 4000000 in
set_option maxRecDepth 100000 in
theorem c_X1_init (κ : rg_K) : rg_NC κ yX1_init cX1_init 1 1 24 4 164 [] (.inr (1, [.null, .null, .null, .null, .int (rg_I 0)])) (rg_pX1 κ) := by
  refine rg_entNN (by decide +kernel) rfl (Nat.le_of_ble_eq_true rfl) (fun Γ a F hD0 hR => ?_)
  refine rg_Jlv (lv' := [(0, .ref a)]) rfl ?_
  refine rg_Jaload_n F.1 0 0 rfl dX1_init_0 rfl ?_
  refine rg_Jsuper F k_ml_X1_3 (by decide) (Nat.le_of_ble_eq_true rfl) dX1_init_1 ?_
  refine rg_Jaload_n F.1 0 0 rfl dX1_init_4 rfl ?_
  refine rg_Jbipush F.1 dX1_init_5 (by decide +kernel) ?_
  refine rg_Jnewa F.1 hD0 1 41 (fun cy => rfl) rfl k_ar_int (fun cA => rfl) (by decide) ⟨by omega, by omega⟩ dX1_init_7 (fun q1 hD1 => ?_)
  refine rg_JputF F (fs := [.null, .null, .null, .null, .int (rg_I 0)]) (r := [(q1, rg_el κ (fun _ => 0) (.inl (1, 41)))]) hD1 cX1 k_lays_X1 tyX1_ok nmX1 0 (by decide) k_fl_X1_9 rfl rfl rfl rfl (Nat.le_of_ble_eq_true rfl) dX1_init_9 (fun hD2 => ?_)
  have hD3 : va_D (rg_A Γ) [(a, .inr (1, [.ref q1, .null, .null, .null, .int (rg_I 0)])), (q1, rg_el κ (fun _ => 0) (.inl (1, 41)))] := hD2
  refine rg_Jw (w9 := [(a, .inr (1, [.ref q1, .null, .null, .null, .int (rg_I 0)])), (q1, rg_el κ (fun _ => 0) (.inl (1, 41)))]) rfl ?_
  refine rg_Jaload_n F.1 0 0 rfl dX1_init_12 rfl ?_
  refine rg_Jbipush F.1 dX1_init_13 (by decide +kernel) ?_
  refine rg_Jnewa F.1 hD3 1 41 (fun cy => rfl) rfl k_ar_int (fun cA => rfl) (by decide) ⟨by omega, by omega⟩ dX1_init_15 (fun q2 hD4 => ?_)
  refine rg_JputF F (fs := [.ref q1, .null, .null, .null, .int (rg_I 0)]) (r := [(q1, rg_el κ (fun _ => 0) (.inl (1, 41))), (q2, rg_el κ (fun _ => 0) (.inl (1, 41)))]) hD4 cX1 k_lays_X1 tyX1_ok nmX1 1 (by decide) k_fl_X1_15 rfl rfl rfl rfl (Nat.le_of_ble_eq_true rfl) dX1_init_17 (fun hD5 => ?_)
  have hD6 : va_D (rg_A Γ) [(a, .inr (1, [.ref q1, .ref q2, .null, .null, .int (rg_I 0)])), (q1, rg_el κ (fun _ => 0) (.inl (1, 41))), (q2, rg_el κ (fun _ => 0) (.inl (1, 41)))] := hD5
  refine rg_Jw (w9 := [(a, .inr (1, [.ref q1, .ref q2, .null, .null, .int (rg_I 0)])), (q1, rg_el κ (fun _ => 0) (.inl (1, 41))), (q2, rg_el κ (fun _ => 0) (.inl (1, 41)))]) rfl ?_
  refine rg_Jaload_n F.1 0 0 rfl dX1_init_20 rfl ?_
  refine rg_Jbipush F.1 dX1_init_21 (by decide +kernel) ?_
  refine rg_Jnewa F.1 hD6 1 41 (fun cy => rfl) rfl k_ar_int (fun cA => rfl) (by decide) ⟨by omega, by omega⟩ dX1_init_23 (fun q3 hD7 => ?_)
  refine rg_JputF F (fs := [.ref q1, .ref q2, .null, .null, .int (rg_I 0)]) (r := [(q1, rg_el κ (fun _ => 0) (.inl (1, 41))), (q2, rg_el κ (fun _ => 0) (.inl (1, 41))), (q3, rg_el κ (fun _ => 0) (.inl (1, 41)))]) hD7 cX1 k_lays_X1 tyX1_ok nmX1 2 (by decide) k_fl_X1_18 rfl rfl rfl rfl (Nat.le_of_ble_eq_true rfl) dX1_init_25 (fun hD8 => ?_)
  have hD9 : va_D (rg_A Γ) [(a, .inr (1, [.ref q1, .ref q2, .ref q3, .null, .int (rg_I 0)])), (q1, rg_el κ (fun _ => 0) (.inl (1, 41))), (q2, rg_el κ (fun _ => 0) (.inl (1, 41))), (q3, rg_el κ (fun _ => 0) (.inl (1, 41)))] := hD8
  refine rg_Jw (w9 := [(a, .inr (1, [.ref q1, .ref q2, .ref q3, .null, .int (rg_I 0)])), (q1, rg_el κ (fun _ => 0) (.inl (1, 41))), (q2, rg_el κ (fun _ => 0) (.inl (1, 41))), (q3, rg_el κ (fun _ => 0) (.inl (1, 41)))]) rfl ?_
  refine rg_Jaload_n F.1 0 0 rfl dX1_init_28 rfl ?_
  refine rg_Jbipush F.1 dX1_init_29 (by decide +kernel) ?_
  refine rg_Jnewa F.1 hD9 2 41 (fun cy => rfl) rfl k_ar_boolean (fun cA => rfl) (by decide) ⟨by omega, by omega⟩ dX1_init_31 (fun q4 hD10 => ?_)
  refine rg_JputF F (fs := [.ref q1, .ref q2, .ref q3, .null, .int (rg_I 0)]) (r := [(q1, rg_el κ (fun _ => 0) (.inl (1, 41))), (q2, rg_el κ (fun _ => 0) (.inl (1, 41))), (q3, rg_el κ (fun _ => 0) (.inl (1, 41))), (q4, rg_el κ (fun _ => 0) (.inl (2, 41)))]) hD10 cX1 k_lays_X1 tyX1_ok nmX1 3 (by decide) k_fl_X1_21 rfl rfl rfl rfl (Nat.le_of_ble_eq_true rfl) dX1_init_33 (fun hD11 => ?_)
  have hD12 : va_D (rg_A Γ) [(a, .inr (1, [.ref q1, .ref q2, .ref q3, .ref q4, .int (rg_I 0)])), (q1, rg_el κ (fun _ => 0) (.inl (1, 41))), (q2, rg_el κ (fun _ => 0) (.inl (1, 41))), (q3, rg_el κ (fun _ => 0) (.inl (1, 41))), (q4, rg_el κ (fun _ => 0) (.inl (2, 41)))] := hD11
  refine rg_Jw (w9 := [(a, .inr (1, [.ref q1, .ref q2, .ref q3, .ref q4, .int (rg_I 0)])), (q1, rg_el κ (fun _ => 0) (.inl (1, 41))), (q2, rg_el κ (fun _ => 0) (.inl (1, 41))), (q3, rg_el κ (fun _ => 0) (.inl (1, 41))), (q4, rg_el κ (fun _ => 0) (.inl (2, 41)))]) rfl ?_
  exact hR _ _ _ _ _ (by omega) (by omega) dX1_init_36 hD12 ⟨q1, q2, q3, q4, rfl⟩
/-- what the constructor of X8 leaves -/
def rg_pX8 (κ : rg_K) (a : Nat) (w : va_W) : Prop := ∃ q1 q2 : Nat, w = [(a, .inr (8, [.ref q1, .ref q2, .int (rg_I 0)])), (q1, rg_el κ (fun _ => 0) (.inl (1, 6))), (q2, rg_el κ (fun _ => 0) (.inl (1, 6)))]
set_option maxHeartbeats 4000000 in
set_option maxRecDepth 100000 in
theorem c_X8_init (κ : rg_K) : rg_NC κ yX8_init cX8_init 1 1 24 2 12 [] (.inr (8, [.null, .null, .int (rg_I 0)])) (rg_pX8 κ) := by
  refine rg_entNN (by decide +kernel) rfl (Nat.le_of_ble_eq_true rfl) (fun Γ a F hD0 hR => ?_)
  refine rg_Jlv (lv' := [(0, .ref a)]) rfl ?_
  refine rg_Jaload_n F.1 0 0 rfl dX8_init_0 rfl ?_
  refine rg_Jsuper F k_ml_X8_3 (by decide) (Nat.le_of_ble_eq_true rfl) dX8_init_1 ?_
  refine rg_Jaload_n F.1 0 0 rfl dX8_init_4 rfl ?_
  refine rg_Jbipush F.1 dX8_init_5 (by decide +kernel) ?_
  refine rg_Jnewa F.1 hD0 1 6 (fun cy => rfl) rfl k_ar_int (fun cA => rfl) (by decide) ⟨by omega, by omega⟩ dX8_init_7 (fun q1 hD1 => ?_)
  refine rg_JputF F (fs := [.null, .null, .int (rg_I 0)]) (r := [(q1, rg_el κ (fun _ => 0) (.inl (1, 6)))]) hD1 cX8 k_lays_X8 tyX8_ok nmX8 0 (by decide) k_fl_X8_9 rfl rfl rfl rfl (Nat.le_of_ble_eq_true rfl) dX8_init_9 (fun hD2 => ?_)
  have hD3 : va_D (rg_A Γ) [(a, .inr (8, [.ref q1, .null, .int (rg_I 0)])), (q1, rg_el κ (fun _ => 0) (.inl (1, 6)))] := hD2
  refine rg_Jw (w9 := [(a, .inr (8, [.ref q1, .null, .int (rg_I 0)])), (q1, rg_el κ (fun _ => 0) (.inl (1, 6)))]) rfl ?_
  refine rg_Jaload_n F.1 0 0 rfl dX8_init_12 rfl ?_
  refine rg_Jbipush F.1 dX8_init_13 (by decide +kernel) ?_
  refine rg_Jnewa F.1 hD3 1 6 (fun cy => rfl) rfl k_ar_int (fun cA => rfl) (by decide) ⟨by omega, by omega⟩ dX8_init_15 (fun q2 hD4 => ?_)
  refine rg_JputF F (fs := [.ref q1, .null, .int (rg_I 0)]) (r := [(q1, rg_el κ (fun _ => 0) (.inl (1, 6))), (q2, rg_el κ (fun _ => 0) (.inl (1, 6)))]) hD4 cX8 k_lays_X8 tyX8_ok nmX8 1 (by decide) k_fl_X8_15 rfl rfl rfl rfl (Nat.le_of_ble_eq_true rfl) dX8_init_17 (fun hD5 => ?_)
  have hD6 : va_D (rg_A Γ) [(a, .inr (8, [.ref q1, .ref q2, .int (rg_I 0)])), (q1, rg_el κ (fun _ => 0) (.inl (1, 6))), (q2, rg_el κ (fun _ => 0) (.inl (1, 6)))] := hD5
  refine rg_Jw (w9 := [(a, .inr (8, [.ref q1, .ref q2, .int (rg_I 0)])), (q1, rg_el κ (fun _ => 0) (.inl (1, 6))), (q2, rg_el κ (fun _ => 0) (.inl (1, 6)))]) rfl ?_
  exact hR _ _ _ _ _ (by omega) (by omega) dX8_init_20 hD6 ⟨q1, q2, rfl⟩
/-- what the constructor of X7 leaves -/
def rg_pX7 (κ : rg_K) (a : Nat) (w : va_W) : Prop := ∃ q1 : Nat, w = [(a, .inr (7, [.ref q1, .int (rg_I 0)])), (q1, rg_el κ (fun _ => 0) (.inl (0, 8040)))]
set_option maxHeartbeats 4000000 in
set_option maxRecDepth 100000 in
theorem c_X7_init (κ : rg_K) : rg_NC κ yX7_init cX7_init 1 1 24 1 8040 [] (.inr (7, [.null, .int (rg_I 0)])) (rg_pX7 κ) := by
  refine rg_entNN (by decide +kernel) rfl (Nat.le_of_ble_eq_true rfl) (fun Γ a F hD0 hR => ?_)
  refine rg_Jlv (lv' := [(0, .ref a)]) rfl ?_
  refine rg_Jaload_n F.1 0 0 rfl dX7_init_0 rfl ?_
  refine rg_Jsuper F k_ml_X7_3 (by decide) (Nat.le_of_ble_eq_true rfl) dX7_init_1 ?_
  refine rg_Jaload_n F.1 0 0 rfl dX7_init_4 rfl ?_
  refine rg_Jsipush F.1 dX7_init_5 (by decide +kernel) ?_
  refine rg_Jnewa F.1 hD0 0 8040 (fun cy => rfl) rfl k_ar_byte (fun cA => rfl) (by decide) ⟨by omega, by omega⟩ dX7_init_8 (fun q1 hD1 => ?_)
  refine rg_JputF F (fs := [.null, .int (rg_I 0)]) (r := [(q1, rg_el κ (fun _ => 0) (.inl (0, 8040)))]) hD1 cX7 k_lays_X7 tyX7_ok nmX7 0 (by decide) k_fl_X7_11 rfl rfl rfl rfl (Nat.le_of_ble_eq_true rfl) dX7_init_10 (fun hD2 => ?_)
  have hD3 : va_D (rg_A Γ) [(a, .inr (7, [.ref q1, .int (rg_I 0)])), (q1, rg_el κ (fun _ => 0) (.inl (0, 8040)))] := hD2
  refine rg_Jw (w9 := [(a, .inr (7, [.ref q1, .int (rg_I 0)])), (q1, rg_el κ (fun _ => 0) (.inl (0, 8040)))]) rfl ?_
  exact hR _ _ _ _ _ (by omega) (by omega) dX7_init_13 hD3 ⟨q1, rfl⟩
/-- what the constructor of X2 leaves -/
def rg_pX2 (κ : rg_K) (a : Nat) (w : va_W) : Prop := ∃ q1 q2 q3 : Nat, w = [(a, .inr (2, [.ref q1, .ref q2, .ref q3])), (q1, rg_el κ (fun _ => -1) (.inl (1, 640))), (q2, rg_el κ (fun _ => 0) (.inl (1, 640))), (q3, rg_el κ (fun _ => 0) (.inl (1, 640)))]
set_option maxHeartbeats 4000000 in
set_option maxRecDepth 100000 in
theorem c_X2_init (κ : rg_K) : rg_NC κ yX2_init cX2_init 1 1 24 3 1920 [] (.inr (2, [.null, .null, .null])) (rg_pX2 κ) := by
  refine rg_entNN (by decide +kernel) rfl (Nat.le_of_ble_eq_true rfl) (fun Γ a F hD0 hR => ?_)
  refine rg_Jlv (lv' := [(0, .ref a)]) rfl ?_
  refine rg_Jaload_n F.1 0 0 rfl dX2_init_0 rfl ?_
  refine rg_Jsuper F k_ml_X2_3 (by decide) (Nat.le_of_ble_eq_true rfl) dX2_init_1 ?_
  refine rg_Jaload_n F.1 0 0 rfl dX2_init_4 rfl ?_
  refine rg_Jsipush F.1 dX2_init_5 (by decide +kernel) ?_
  refine rg_Jnewa F.1 hD0 1 640 (fun cy => rfl) rfl k_ar_int (fun cA => rfl) (by decide) ⟨by omega, by omega⟩ dX2_init_8 (fun q1 hD1 => ?_)
  refine rg_JputF F (fs := [.null, .null, .null]) (r := [(q1, rg_el κ (fun _ => 0) (.inl (1, 640)))]) hD1 cX2 k_lays_X2 tyX2_ok nmX2 0 (by decide) k_fl_X2_9 rfl rfl rfl rfl (Nat.le_of_ble_eq_true rfl) dX2_init_10 (fun hD2 => ?_)
  have hD3 : va_D (rg_A Γ) [(a, .inr (2, [.ref q1, .null, .null])), (q1, rg_el κ (fun _ => 0) (.inl (1, 640)))] := hD2
  refine rg_Jw (w9 := [(a, .inr (2, [.ref q1, .null, .null])), (q1, rg_el κ (fun _ => 0) (.inl (1, 640)))]) rfl ?_
  refine rg_Jaload_n F.1 0 0 rfl dX2_init_13 rfl ?_
  refine rg_Jsipush F.1 dX2_init_14 (by decide +kernel) ?_
  refine rg_Jnewa F.1 hD3 1 640 (fun cy => rfl) rfl k_ar_int (fun cA => rfl) (by decide) ⟨by omega, by omega⟩ dX2_init_17 (fun q2 hD4 => ?_)
  refine rg_JputF F (fs := [.ref q1, .null, .null]) (r := [(q1, rg_el κ (fun _ => 0) (.inl (1, 640))), (q2, rg_el κ (fun _ => 0) (.inl (1, 640)))]) hD4 cX2 k_lays_X2 tyX2_ok nmX2 1 (by decide) k_fl_X2_15 rfl rfl rfl rfl (Nat.le_of_ble_eq_true rfl) dX2_init_19 (fun hD5 => ?_)
  have hD6 : va_D (rg_A Γ) [(a, .inr (2, [.ref q1, .ref q2, .null])), (q1, rg_el κ (fun _ => 0) (.inl (1, 640))), (q2, rg_el κ (fun _ => 0) (.inl (1, 640)))] := hD5
  refine rg_Jw (w9 := [(a, .inr (2, [.ref q1, .ref q2, .null])), (q1, rg_el κ (fun _ => 0) (.inl (1, 640))), (q2, rg_el κ (fun _ => 0) (.inl (1, 640)))]) rfl ?_
  refine rg_Jaload_n F.1 0 0 rfl dX2_init_22 rfl ?_
  refine rg_Jsipush F.1 dX2_init_23 (by decide +kernel) ?_
  refine rg_Jnewa F.1 hD6 1 640 (fun cy => rfl) rfl k_ar_int (fun cA => rfl) (by decide) ⟨by omega, by omega⟩ dX2_init_26 (fun q3 hD7 => ?_)
  refine rg_JputF F (fs := [.ref q1, .ref q2, .null]) (r := [(q1, rg_el κ (fun _ => 0) (.inl (1, 640))), (q2, rg_el κ (fun _ => 0) (.inl (1, 640))), (q3, rg_el κ (fun _ => 0) (.inl (1, 640)))]) hD7 cX2 k_lays_X2 tyX2_ok nmX2 2 (by decide) k_fl_X2_18 rfl rfl rfl rfl (Nat.le_of_ble_eq_true rfl) dX2_init_28 (fun hD8 => ?_)
  have hD9 : va_D (rg_A Γ) [(a, .inr (2, [.ref q1, .ref q2, .ref q3])), (q1, rg_el κ (fun _ => 0) (.inl (1, 640))), (q2, rg_el κ (fun _ => 0) (.inl (1, 640))), (q3, rg_el κ (fun _ => 0) (.inl (1, 640)))] := hD8
  refine rg_Jw (w9 := [(a, .inr (2, [.ref q1, .ref q2, .ref q3])), (q1, rg_el κ (fun _ => 0) (.inl (1, 640))), (q2, rg_el κ (fun _ => 0) (.inl (1, 640))), (q3, rg_el κ (fun _ => 0) (.inl (1, 640)))]) rfl ?_
  refine rg_Jaload_n F.1 0 0 rfl dX2_init_31 rfl ?_
  refine rg_JgetH F.1 (fs := [.ref q1, .ref q2, .ref q3]) (r := [(q1, rg_el κ (fun _ => 0) (.inl (1, 640))), (q2, rg_el κ (fun _ => 0) (.inl (1, 640))), (q3, rg_el κ (fun _ => 0) (.inl (1, 640)))]) cX2 k_lays_X2 0 (by decide) k_fl_X2_9 rfl dX2_init_32 ?_
  refine rg_Jiconst F.1 dX2_init_35 ?_
  refine rg_Jw (w9 := rg_wd (κ.1, κ.2.1, κ.2.2.1, (rg_adv [a, q1, q2, q3] κ.2.2.2)) rg_tE (fun _ _ => 0)) rfl ?_
  refine rg_JcallSV F (τ := fun _ _ => 0) (rg_adv_up _ _ (Nat.le_of_ble_eq_true rfl)) (show va_D (rg_A Γ) (rg_wd (κ.1, κ.2.1, κ.2.2.1, (rg_adv [a, q1, q2, q3] κ.2.2.2)) rg_tE (fun _ _ => 0)) from hD9) [.ref q1, .int (rg_I (-1))] [] (k_J7_fill_53178_g (κ.1, κ.2.1, κ.2.2.1, (rg_adv [a, q1, q2, q3] κ.2.2.2)) rg_tE 1 640 rfl (by decide) (fun _ _ => 0) (-1)) v_J7_fill_53178 k_st_yJ7_fill_53178 k_ml_X2_21 ⟨by omega, by omega⟩ (by decide) rfl (Nat.le_of_ble_eq_true rfl) dX2_init_36 (fun τ9 hp hD10 => ?_)
  subst hp
  have hD11 : va_D (rg_A Γ) [(a, .inr (2, [.ref q1, .ref q2, .ref q3])), (q1, rg_el κ (fun _ => -1) (.inl (1, 640))), (q2, rg_el κ (fun _ => 0) (.inl (1, 640))), (q3, rg_el κ (fun _ => 0) (.inl (1, 640)))] := hD10
  refine rg_Jw (w9 := [(a, .inr (2, [.ref q1, .ref q2, .ref q3])), (q1, rg_el κ (fun _ => -1) (.inl (1, 640))), (q2, rg_el κ (fun _ => 0) (.inl (1, 640))), (q3, rg_el κ (fun _ => 0) (.inl (1, 640)))]) rfl ?_
  exact hR _ _ _ _ _ (by omega) (by omega) dX2_init_39 hD11 ⟨q1, q2, q3, rfl⟩
