/-! The law's helpers (laid by program). -/
theorem k_L_boat_o (κ : rg_K) (co : ClassId × ClassId) {σ : rg_S}  {o : Nat} {f : Nat → Int64} {fr1 lo1 : Nat} {post : Int → rg_S → Prop} (hM : rg_CI κ rg_tC yX9_boat cX9_boat 1 FieldType.int fr1 lo1 [.ref (κ.2.2.2 0)] σ post) (hR : fr1 + 1 ≤ 11 ∧ 8 + (1 + 11) + lo1 ≤ 200) : rg_HC κ co yL_boat cL_boat 3 [(0, 8, 11, 13), (0, 8, 14, 15)] [.ref (κ.2.2.2 0), .ref o] σ [o] [rg_eL co o f] (fun k σ9 ws9 => k = 0 ∧ ∃ r, post r σ9 ∧ ws9 = [rg_eL co o (vp_updL f 0 (rg_I r).toInt64)]) := by
  refine rg_entH [(0, .ref (κ.2.2.2 0)), (1, .ref o)] rfl (by decide +kernel) (Nat.le_of_ble_eq_true rfl) (fun Γ FH hR9 => ?_)
  have hos : ∀ q ∈ ([rg_eL co o f] : va_W), q.1 ∈ [o] := by
    intro q hq
    rw [List.mem_singleton] at hq
    rw [hq]; exact List.mem_singleton.mpr rfl
  refine rg_Jaload_n FH.1 1 1 rfl dL_boat_0 rfl ?_
  refine rg_Jiconst FH.1 dL_boat_1 ?_
  refine rg_Jaload_n FH.1 0 0 rfl dL_boat_2 rfl ?_
  refine rg_HcallI FH.1 FH.2.1 hos ⟨Nat.zero_le _, Nat.zero_le _⟩ [] [.int (rg_I 0), .ref o] 0 hM tC0 cX9 v_X9_boat i_X9_boat k_ml_L_7 hR rfl (Nat.le_of_ble_eq_true rfl) dL_boat_3 (fun r σ1 hp => ?_)
  refine rg_Ji2l FH.1 dL_boat_6 ?_
  refine rg_Jlast FH dL_boat_7 ?_
  refine rg_Jgoto FH.1 17 dL_boat_8 (by decide) ?_
  refine rg_Jiconst FH.1 dL_boat_17 ?_
  exact hR9 _ _ _ _ _ _ _ (Nat.zero_le _) (Nat.zero_le _) dL_boat_18 ⟨rfl, _, hp, rfl⟩
theorem k_L_boat_1 (κ : rg_K) (co : ClassId × ClassId) {σ : rg_S}  {o : Nat} {f : Nat → Int64} {fr1 lo1 : Nat} {σ1 : rg_S} (hM : rg_TX κ rg_tC yX9_boat cX9_boat 1 (some FieldType.int) fr1 lo1 [.ref (κ.2.2.2 0)] σ σ1 "java/lang/IllegalStateException") (hR : fr1 + 1 ≤ 11 ∧ 8 + (1 + 11) + lo1 ≤ 200) : rg_HC κ co yL_boat cL_boat 3 [(0, 8, 11, 13), (0, 8, 14, 15)] [.ref (κ.2.2.2 0), .ref o] σ [o] [rg_eL co o f] (fun k σ9 ws9 => k = 1 ∧ σ9 = σ1 ∧ ws9 = [rg_eL co o f]) := by
  refine rg_entH [(0, .ref (κ.2.2.2 0)), (1, .ref o)] rfl (by decide +kernel) (Nat.le_of_ble_eq_true rfl) (fun Γ FH hR9 => ?_)
  have hos : ∀ q ∈ ([rg_eL co o f] : va_W), q.1 ∈ [o] := by
    intro q hq
    rw [List.mem_singleton] at hq
    rw [hq]; exact List.mem_singleton.mpr rfl
  refine rg_Jaload_n FH.1 1 1 rfl dL_boat_0 rfl ?_
  refine rg_Jiconst FH.1 dL_boat_1 ?_
  refine rg_Jaload_n FH.1 0 0 rfl dL_boat_2 rfl ?_
  refine rg_HcallX FH.1 FH.2.1 hos ⟨Nat.le_refl 1, Nat.le_refl 6⟩ [] [.int (rg_I 0), .ref o] 0 hM tC0 cX9 v_X9_boat i_X9_boat k_ml_L_7 hR rfl (Nat.le_of_ble_eq_true rfl) dL_boat_3 [] ⟨0, 8, 11, 13⟩ [⟨0, 8, 14, 15⟩] (FH.2.2.2.2.1.trans rfl) (fun z hz => absurd hz List.not_mem_nil) rfl (by decide) k_cl_L_13 (List.mem_of_getElem? (i := 3) rfl) (fun q9 => ?_)
  refine rg_Jastore_n FH.1 [(2, .ref q9), (0, .ref (κ.2.2.2 0)), (1, .ref o)] dL_boat_11 rfl (by decide) rfl ?_
  refine rg_Jiconst FH.1 dL_boat_12 ?_
  exact hR9 _ _ _ _ _ _ _ (Nat.le_refl 1) (Nat.le_refl 6) dL_boat_13 ⟨rfl, rfl, rfl⟩
theorem k_L_boat_2 (κ : rg_K) (co : ClassId × ClassId) {σ : rg_S}  {o : Nat} {f : Nat → Int64} {fr1 lo1 : Nat} {σ1 : rg_S} (hM : rg_TX κ rg_tC yX9_boat cX9_boat 1 (some FieldType.int) fr1 lo1 [.ref (κ.2.2.2 0)] σ σ1 "java/lang/UnsupportedOperationException") (hR : fr1 + 1 ≤ 11 ∧ 8 + (1 + 11) + lo1 ≤ 200) : rg_HC κ co yL_boat cL_boat 3 [(0, 8, 11, 13), (0, 8, 14, 15)] [.ref (κ.2.2.2 0), .ref o] σ [o] [rg_eL co o f] (fun k σ9 ws9 => k = 2 ∧ σ9 = σ1 ∧ ws9 = [rg_eL co o f]) := by
  refine rg_entH [(0, .ref (κ.2.2.2 0)), (1, .ref o)] rfl (by decide +kernel) (Nat.le_of_ble_eq_true rfl) (fun Γ FH hR9 => ?_)
  have hos : ∀ q ∈ ([rg_eL co o f] : va_W), q.1 ∈ [o] := by
    intro q hq
    rw [List.mem_singleton] at hq
    rw [hq]; exact List.mem_singleton.mpr rfl
  refine rg_Jaload_n FH.1 1 1 rfl dL_boat_0 rfl ?_
  refine rg_Jiconst FH.1 dL_boat_1 ?_
  refine rg_Jaload_n FH.1 0 0 rfl dL_boat_2 rfl ?_
  refine rg_HcallX FH.1 FH.2.1 hos ⟨Nat.le_refl 1, Nat.le_refl 6⟩ [] [.int (rg_I 0), .ref o] 0 hM tC0 cX9 v_X9_boat i_X9_boat k_ml_L_7 hR rfl (Nat.le_of_ble_eq_true rfl) dL_boat_3 [⟨0, 8, 11, 13⟩] ⟨0, 8, 14, 15⟩ [] (FH.2.2.2.2.1.trans rfl) (by
    intro z hz
    simp only [List.mem_cons, List.not_mem_nil, or_false] at hz
    rcases hz with rfl
    · exact Or.inr ⟨by decide, "java/lang/IllegalStateException", k_cl_L_13, FH.2.2.2.2.2 ("java/lang/UnsupportedOperationException", "java/lang/IllegalStateException") (by decide +kernel)⟩) rfl (by decide) k_cl_L_15 (List.mem_of_getElem? (i := 4) rfl) (fun q9 => ?_)
  refine rg_Jastore_n FH.1 [(2, .ref q9), (0, .ref (κ.2.2.2 0)), (1, .ref o)] dL_boat_14 rfl (by decide) rfl ?_
  refine rg_Jiconst FH.1 dL_boat_15 ?_
  exact hR9 _ _ _ _ _ _ _ (Nat.le_refl 1) (Nat.le_refl 6) dL_boat_16 ⟨rfl, rfl, rfl⟩
