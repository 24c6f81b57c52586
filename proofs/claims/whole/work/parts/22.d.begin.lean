/-! The law from its entry. -/
set_option maxHeartbeats 4000000 in
theorem rg_opens {κ : rg_K} {Γ : rg_C} {co : ClassId × ClassId} {b L : Nat} {xs : Nat → Int32} (F : rg_FJ κ Γ code RL 9 13 480 1122 42737) (hX9 : rg_X κ (rg_A Γ) Γ.2.2.2.1) (hKo : va_K κ.2.1 vwCl (rg_tyo co) Γ.2.2.2.1) (hncp : ∀ z ∈ lw_ncp, va_Nc z.1 z.2 Γ.2.2.2.1) (hscr : rg_scr Γ b L xs)
    (kE : ∀ (cells slots : Nat) (lv : List (Nat × Value)) (w : va_W), cells ≤ 1122 → slots ≤ 42737 → rg_J κ Γ 9 cells slots 1757 lv [] w) : rg_J κ Γ 9 0 0 0 [(0, .ref b)] [] ([] : va_W) := by
  have hD0 : va_D (rg_A Γ) ([] : va_W) := ⟨fun i j p q hp _ _ => absurd hp (by rw [List.getElem?_nil]; exact nofun), fun k q hq => absurd hq (by rw [List.getElem?_nil]; exact nofun)⟩
  refine rg_Jnew F hD0 cX9 k_lays_X9 tyX9_ok k_cl_L_8 k_it_X9 k_in_X9 [.null, .null, .null, .null, .null, .null, .null, .null, .null, .int (rg_I 0)] (rg_hfs (by first | rfl | (simp only [rg_I_0]; rfl))) ⟨by omega, by omega⟩ dC_0 (fun q hD1 => ?_)
  refine rg_Jdup F rfl dC_3 ?_
  refine rg_Jinit F hX9 (w := []) hD1 [] (c_X9_init κ) v_X9_init rfl k_im_yX9_init k_ml_L_100 (by decide) ⟨by omega, by omega⟩ rfl (Nat.le_of_ble_eq_true rfl) dC_4 (fun w1 hp1 hD2 => ?_)
  refine rg_Jastore_n F [(1, .ref q), (0, .ref b)] dC_7 rfl (by decide) rfl ?_
  refine rg_Jnew F hD2 cX10 k_lays_X10 tyX10_ok k_cl_L_101 k_it_X10 k_in_X10 (.int (rg_I 0) :: .int (rg_I 0) :: .null :: .null :: .int (rg_I 0) :: .null :: .null :: .null :: .null :: .null :: .null :: .int (rg_I 0) :: .null :: .null :: .null :: .null :: .int (rg_I 0) :: .int (rg_I 0) :: .null :: .null :: .int (rg_I 0) :: .null :: .null :: .null :: .null :: .null :: .null :: .null :: .null :: .null :: .null :: .null :: .int (rg_I 0) :: .int (rg_I 0) :: .null :: []) (rg_hfs (by first | rfl | (simp only [rg_I_0]; rfl))) ⟨by omega, by omega⟩ dC_8 (fun q2 hD3 => ?_)
  refine rg_Jdup F rfl dC_11 ?_
  refine rg_Jinit F hX9 (w := [] ++ w1) hD3 [] (c_X10_init κ) v_X10_init rfl k_im_yX10_init k_ml_L_103 (by decide) ⟨by omega, by omega⟩ rfl (Nat.le_of_ble_eq_true rfl) dC_12 (fun w2 hp2 hD4 => ?_)
  refine rg_Jastore_n F [(2, .ref q2), (1, .ref q), (0, .ref b)] dC_15 rfl (by decide) rfl ?_
  refine rg_Jiconst F dC_16 ?_
  refine rg_Jnewg F hD4 hKo (j := 0) rfl (atype := .long) rfl k_ar_long (N := 1) (a0 := (1, .inr (.inl (fun _ => 0)))) (fun cA => rfl) (by decide) ⟨by omega, by omega⟩ dC_17 (fun o hD5 => ?_)
  refine rg_Jastore_n F [(3, .ref o), (2, .ref q2), (1, .ref q), (0, .ref b)] dC_19 rfl (by decide) rfl ?_
  refine rg_Jiconst F dC_20 ?_
  refine rg_Jnewg F hD5 hKo (j := 1) rfl (atype := .double) rfl k_ar_double (N := 1) (a0 := (1, .inr (.inr (.inr (.inl (fun _ => 0)))))) (fun cA => rfl) (by decide) ⟨by omega, by omega⟩ dC_21 (fun od hD6 => ?_)
  refine rg_Jastore F [(4, .ref od), (3, .ref o), (2, .ref q2), (1, .ref q), (0, .ref b)] dC_23 (by decide) rfl ?_
  refine rg_Jiconst F dC_25 ?_
  refine rg_Jistore F [(5, .int (rg_I 0)), (4, .ref od), (3, .ref o), (2, .ref q2), (1, .ref q), (0, .ref b)] dC_26 (by decide) rfl ?_
  obtain ⟨ad, rfl, had, rfl⟩ := f_X9 κ hp1
  obtain ⟨adM, rfl, hadM, rfl⟩ := f_X10 κ hp2
  refine rg_Jmem (rg_gw_mem (κ := κ) (co := co) (ad := ad) (adM := adM)) ?_
  refine rg_Jad (ad := ad) ?_
  exact rg_loop (rg_FG_of F hX9 hKo hncp hscr had hadM hD6) (fun i cells slots σ τ f g h1 h2 => rg_Jda (kE cells slots _ _ h1 h2)) 512 0 _ _ (by have q := hscr.2.2.2; omega) (Nat.zero_le _) (by omega) (by omega) rg_s0 rg_t0 _ _ 0 0 0 0 z_start
