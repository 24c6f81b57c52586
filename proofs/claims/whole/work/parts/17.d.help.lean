/-! The law's helpers (laid by program). -/
theorem k_L_boat_o (κ : rg_K) (co : ClassId × ClassId) {σ : rg_S}  {o : Nat} {f : Nat → Int64} {fr1 lo1 : Nat} {post : Int → rg_S → Prop} (hM : rg_CI κ rg_tC yX9_boat cX9_boat 1 FieldType.int fr1 lo1 [.ref (κ.2.2.2 0)] σ post) (hR : fr1 + 1 ≤ 11 ∧ 8 + (1 + 11) + lo1 ≤ 200) : rg_HC κ co yL_boat cL_boat 3 [(0, 8, 11, 13), (0, 8, 14, 15)] [.ref (κ.2.2.2 0), .ref o] σ [o] [rg_eL co o f] (fun k σ9 ws9 => k = 0 ∧ ∃ r, post r σ9 ∧ ws9 = [rg_eL co o (vp_updL f 0 (rg_I r).toInt64)]) := by
  refine rg_entH [(0, .ref (κ.2.2.2 0)), (1, .ref o)] rfl (by decide +kernel) (Nat.le_of_ble_eq_true rfl) (fun Γ FH hR9 => ?_)
  have hos : ∀ q ∈ ([rg_eL co o f] : va_W), q.1 ∈ [o] := by
    intro q hq
    rw [List.mem_singleton] at hq
    rw [hq]; exact List.mem_singleton.mpr rfl
  refine rg_Jaload_n FH.1 1 1 rfl dL_boat_0 rfl ?_
  refine rg_Jiconst FH.1 dL_boat_1 ?_
  refine rg_Jaload_n FH.1 0 0 rfl dL_boat_2 rfl ?_
  refine rg_HcallI FH.1 FH.2.1 hos ⟨Nat.zero_le _, Nat.zero_le _⟩ [] [.int (rg_I 0), .ref o] 0 hM tC0 cX9 v_X9_boat i_X9_boat k_ml_L_7 hR rfl (Nat.le_of_ble_eq_true rfl) dL_boat_3 (fun r σ1 hp => ?_)
  refine rg_Ji2l FH.1 dL_boat_6 ?_
  refine rg_Jlast FH dL_boat_7 ?_
  refine rg_Jgoto FH.1 17 dL_boat_8 (by decide) ?_
  refine rg_Jiconst FH.1 dL_boat_17 ?_
  exact hR9 _ _ _ _ _ _ _ (Nat.zero_le _) (Nat.zero_le _) dL_boat_18 ⟨rfl, _, hp, rfl⟩
theorem k_L_boat_1 (κ : rg_K) (co : ClassId × ClassId) {σ : rg_S}  {o : Nat} {f : Nat → Int64} {fr1 lo1 : Nat} {σ1 : rg_S} (hM : rg_TX κ rg_tC yX9_boat cX9_boat 1 (some FieldType.int) fr1 lo1 [.ref (κ.2.2.2 0)] σ σ1 "java/lang/IllegalStateException") (hR : fr1 + 1 ≤ 11 ∧ 8 + (1 + 11) + lo1 ≤ 200) : rg_HC κ co yL_boat cL_boat 3 [(0, 8, 11, 13), (0, 8, 14, 15)] [.ref (κ.2.2.2 0), .ref o] σ [o] [rg_eL co o f] (fun k σ9 ws9 => k = 1 ∧ σ9 = σ1 ∧ ws9 = [rg_eL co o f]) := by
  refine rg_entH [(0, .ref (κ.2.2.2 0)), (1, .ref o)] rfl (by decide +kernel) (Nat.le_of_ble_eq_true rfl) (fun Γ FH hR9 => ?_)
  have hos : ∀ q ∈ ([rg_eL co o f] : va_W), q.1 ∈ [o] := by
    intro q hq
    rw [List.mem_singleton] at hq
    rw [hq]; exact List.mem_singleton.mpr rfl
  refine rg_Jaload_n FH.1 1 1 rfl dL_boat_0 rfl ?_
  refine rg_Jiconst FH.1 dL_boat_1 ?_
  refine rg_Jaload_n FH.1 0 0 rfl dL_boat_2 rfl ?_
  refine rg_HcallX FH.1 FH.2.1 hos ⟨Nat.le_refl 1, Nat.le_refl 6⟩ [] [.int (rg_I 0), .ref o] 0 hM tC0 cX9 v_X9_boat i_X9_boat k_ml_L_7 hR rfl (Nat.le_of_ble_eq_true rfl) dL_boat_3 [] ⟨0, 8, 11, 13⟩ [⟨0, 8, 14, 15⟩] (FH.2.2.2.2.1.trans rfl) (fun z hz => absurd hz List.not_mem_nil) rfl (by decide) k_cl_L_13 (List.mem_of_getElem? (i := 3) rfl) (fun q9 => ?_)
  refine rg_Jastore_n FH.1 [(2, .ref q9), (0, .ref (κ.2.2.2 0)), (1, .ref o)] dL_boat_11 rfl (by decide) rfl ?_
  refine rg_Jiconst FH.1 dL_boat_12 ?_
  exact hR9 _ _ _ _ _ _ _ (Nat.le_refl 1) (Nat.le_refl 6) dL_boat_13 ⟨rfl, rfl, rfl⟩
theorem k_L_boat_2 (κ : rg_K) (co : ClassId × ClassId) {σ : rg_S}  {o : Nat} {f : Nat → Int64} {fr1 lo1 : Nat} {σ1 : rg_S} (hM : rg_TX κ rg_tC yX9_boat cX9_boat 1 (some FieldType.int) fr1 lo1 [.ref (κ.2.2.2 0)] σ σ1 "java/lang/UnsupportedOperationException") (hR : fr1 + 1 ≤ 11 ∧ 8 + (1 + 11) + lo1 ≤ 200) : rg_HC κ co yL_boat cL_boat 3 [(0, 8, 11, 13), (0, 8, 14, 15)] [.ref (κ.2.2.2 0), .ref o] σ [o] [rg_eL co o f] (fun k σ9 ws9 => k = 2 ∧ σ9 = σ1 ∧ ws9 = [rg_eL co o f]) := by
  refine rg_entH [(0, .ref (κ.2.2.2 0)), (1, .ref o)] rfl (by decide +kernel) (Nat.le_of_ble_eq_true rfl) (fun Γ FH hR9 => ?_)
  have hos : ∀ q ∈ ([rg_eL co o f] : va_W), q.1 ∈ [o] := by
    intro q hq
    rw [List.mem_singleton] at hq
    rw [hq]; exact List.mem_singleton.mpr rfl
  refine rg_Jaload_n FH.1 1 1 rfl dL_boat_0 rfl ?_
  refine rg_Jiconst FH.1 dL_boat_1 ?_
  refine rg_Jaload_n FH.1 0 0 rfl dL_boat_2 rfl ?_
  refine rg_HcallX FH.1 FH.2.1 hos ⟨Nat.le_refl 1, Nat.le_refl 6⟩ [] [.int (rg_I 0), .ref o] 0 hM tC0 cX9 v_X9_boat i_X9_boat k_ml_L_7 hR rfl (Nat.le_of_ble_eq_true rfl) dL_boat_3 [⟨0, 8, 11, 13⟩] ⟨0, 8, 14, 15⟩ [] (FH.2.2.2.2.1.trans rfl) (by
    intro z hz
    simp only [List.mem_cons, List.not_mem_nil, or_false] at hz
    rcases hz with rfl
    · exact Or.inr ⟨by decide, "java/lang/IllegalStateException", k_cl_L_13, FH.2.2.2.2.2 ("java/lang/UnsupportedOperationException", "java/lang/IllegalStateException") (by decide +kernel)⟩) rfl (by decide) k_cl_L_15 (List.mem_of_getElem? (i := 4) rfl) (fun q9 => ?_)
  refine rg_Jastore_n FH.1 [(2, .ref q9), (0, .ref (κ.2.2.2 0)), (1, .ref o)] dL_boat_14 rfl (by decide) rfl ?_
  refine rg_Jiconst FH.1 dL_boat_15 ?_
  exact hR9 _ _ _ _ _ _ _ (Nat.le_refl 1) (Nat.le_refl 6) dL_boat_16 ⟨rfl, rfl, rfl⟩
theorem k_L_race_o (κ : rg_K) (co : ClassId × ClassId) {σ : rg_S} {p1 : Int} {p2 : Int} {o : Nat} {f : Nat → Int64} {fr1 lo1 : Nat} {post : Int → rg_S → Prop} (hM : rg_CI κ rg_tC yX9_race cX9_race 3 FieldType.int fr1 lo1 [.ref (κ.2.2.2 0), .int (rg_I p1), .int (rg_I p2)] σ post) (hR : fr1 + 1 ≤ 11 ∧ 8 + (3 + 11) + lo1 ≤ 200) : rg_HC κ co yL_race cL_race 5 [(0, 10, 13, 21), (0, 10, 17, 13), (0, 10, 21, 15)] [.ref (κ.2.2.2 0), .int (rg_I p1), .int (rg_I p2), .ref o] σ [o] [rg_eL co o f] (fun k σ9 ws9 => k = 0 ∧ ∃ r, post r σ9 ∧ ws9 = [rg_eL co o (vp_updL f 0 (rg_I r).toInt64)]) := by
  refine rg_entH [(0, .ref (κ.2.2.2 0)), (1, .int (rg_I p1)), (2, .int (rg_I p2)), (3, .ref o)] rfl (by decide +kernel) (Nat.le_of_ble_eq_true rfl) (fun Γ FH hR9 => ?_)
  have hos : ∀ q ∈ ([rg_eL co o f] : va_W), q.1 ∈ [o] := by
    intro q hq
    rw [List.mem_singleton] at hq
    rw [hq]; exact List.mem_singleton.mpr rfl
  refine rg_Jaload_n FH.1 3 3 rfl dL_race_0 rfl ?_
  refine rg_Jiconst FH.1 dL_race_1 ?_
  refine rg_Jaload_n FH.1 0 0 rfl dL_race_2 rfl ?_
  refine rg_Jiload_n FH.1 1 1 rfl dL_race_3 rfl ?_
  refine rg_Jiload_n FH.1 2 2 rfl dL_race_4 rfl ?_
  refine rg_HcallI FH.1 FH.2.1 hos ⟨Nat.zero_le _, Nat.zero_le _⟩ [.int (rg_I p1), .int (rg_I p2)] [.int (rg_I 0), .ref o] 0 hM tC0 cX9 v_X9_race i_X9_race k_ml_L_17 hR rfl (Nat.le_of_ble_eq_true rfl) dL_race_5 (fun r σ1 hp => ?_)
  refine rg_Ji2l FH.1 dL_race_8 ?_
  refine rg_Jlast FH dL_race_9 ?_
  refine rg_Jgoto FH.1 25 dL_race_10 (by decide) ?_
  refine rg_Jiconst FH.1 dL_race_25 ?_
  exact hR9 _ _ _ _ _ _ _ (Nat.zero_le _) (Nat.zero_le _) dL_race_26 ⟨rfl, _, hp, rfl⟩
theorem k_L_race_1 (κ : rg_K) (co : ClassId × ClassId) {σ : rg_S} {p1 : Int} {p2 : Int} {o : Nat} {f : Nat → Int64} {fr1 lo1 : Nat} {σ1 : rg_S} (hM : rg_TX κ rg_tC yX9_race cX9_race 3 (some FieldType.int) fr1 lo1 [.ref (κ.2.2.2 0), .int (rg_I p1), .int (rg_I p2)] σ σ1 "java/lang/IllegalArgumentException") (hR : fr1 + 1 ≤ 11 ∧ 8 + (3 + 11) + lo1 ≤ 200) : rg_HC κ co yL_race cL_race 5 [(0, 10, 13, 21), (0, 10, 17, 13), (0, 10, 21, 15)] [.ref (κ.2.2.2 0), .int (rg_I p1), .int (rg_I p2), .ref o] σ [o] [rg_eL co o f] (fun k σ9 ws9 => k = 1 ∧ σ9 = σ1 ∧ ws9 = [rg_eL co o f]) := by
  refine rg_entH [(0, .ref (κ.2.2.2 0)), (1, .int (rg_I p1)), (2, .int (rg_I p2)), (3, .ref o)] rfl (by decide +kernel) (Nat.le_of_ble_eq_true rfl) (fun Γ FH hR9 => ?_)
  have hos : ∀ q ∈ ([rg_eL co o f] : va_W), q.1 ∈ [o] := by
    intro q hq
    rw [List.mem_singleton] at hq
    rw [hq]; exact List.mem_singleton.mpr rfl
  refine rg_Jaload_n FH.1 3 3 rfl dL_race_0 rfl ?_
  refine rg_Jiconst FH.1 dL_race_1 ?_
  refine rg_Jaload_n FH.1 0 0 rfl dL_race_2 rfl ?_
  refine rg_Jiload_n FH.1 1 1 rfl dL_race_3 rfl ?_
  refine rg_Jiload_n FH.1 2 2 rfl dL_race_4 rfl ?_
  refine rg_HcallX FH.1 FH.2.1 hos ⟨Nat.le_refl 1, Nat.le_refl 6⟩ [.int (rg_I p1), .int (rg_I p2)] [.int (rg_I 0), .ref o] 0 hM tC0 cX9 v_X9_race i_X9_race k_ml_L_17 hR rfl (Nat.le_of_ble_eq_true rfl) dL_race_5 [] ⟨0, 10, 13, 21⟩ [⟨0, 10, 17, 13⟩, ⟨0, 10, 21, 15⟩] (FH.2.2.2.2.1.trans rfl) (fun z hz => absurd hz List.not_mem_nil) rfl (by decide) k_cl_L_21 (List.mem_of_getElem? (i := 5) rfl) (fun q9 => ?_)
  refine rg_Jastore FH.1 [(4, .ref q9), (0, .ref (κ.2.2.2 0)), (1, .int (rg_I p1)), (2, .int (rg_I p2)), (3, .ref o)] dL_race_13 (by decide) rfl ?_
  refine rg_Jiconst FH.1 dL_race_15 ?_
  exact hR9 _ _ _ _ _ _ _ (Nat.le_refl 1) (Nat.le_refl 6) dL_race_16 ⟨rfl, rfl, rfl⟩
theorem k_L_race_2 (κ : rg_K) (co : ClassId × ClassId) {σ : rg_S} {p1 : Int} {p2 : Int} {o : Nat} {f : Nat → Int64} {fr1 lo1 : Nat} {σ1 : rg_S} (hM : rg_TX κ rg_tC yX9_race cX9_race 3 (some FieldType.int) fr1 lo1 [.ref (κ.2.2.2 0), .int (rg_I p1), .int (rg_I p2)] σ σ1 "java/lang/IllegalStateException") (hR : fr1 + 1 ≤ 11 ∧ 8 + (3 + 11) + lo1 ≤ 200) : rg_HC κ co yL_race cL_race 5 [(0, 10, 13, 21), (0, 10, 17, 13), (0, 10, 21, 15)] [.ref (κ.2.2.2 0), .int (rg_I p1), .int (rg_I p2), .ref o] σ [o] [rg_eL co o f] (fun k σ9 ws9 => k = 2 ∧ σ9 = σ1 ∧ ws9 = [rg_eL co o f]) := by
  refine rg_entH [(0, .ref (κ.2.2.2 0)), (1, .int (rg_I p1)), (2, .int (rg_I p2)), (3, .ref o)] rfl (by decide +kernel) (Nat.le_of_ble_eq_true rfl) (fun Γ FH hR9 => ?_)
  have hos : ∀ q ∈ ([rg_eL co o f] : va_W), q.1 ∈ [o] := by
    intro q hq
    rw [List.mem_singleton] at hq
    rw [hq]; exact List.mem_singleton.mpr rfl
  refine rg_Jaload_n FH.1 3 3 rfl dL_race_0 rfl ?_
  refine rg_Jiconst FH.1 dL_race_1 ?_
  refine rg_Jaload_n FH.1 0 0 rfl dL_race_2 rfl ?_
  refine rg_Jiload_n FH.1 1 1 rfl dL_race_3 rfl ?_
  refine rg_Jiload_n FH.1 2 2 rfl dL_race_4 rfl ?_
  refine rg_HcallX FH.1 FH.2.1 hos ⟨Nat.le_refl 1, Nat.le_refl 6⟩ [.int (rg_I p1), .int (rg_I p2)] [.int (rg_I 0), .ref o] 0 hM tC0 cX9 v_X9_race i_X9_race k_ml_L_17 hR rfl (Nat.le_of_ble_eq_true rfl) dL_race_5 [⟨0, 10, 13, 21⟩] ⟨0, 10, 17, 13⟩ [⟨0, 10, 21, 15⟩] (FH.2.2.2.2.1.trans rfl) (by
    intro z hz
    simp only [List.mem_cons, List.not_mem_nil, or_false] at hz
    rcases hz with rfl
    · exact Or.inr ⟨by decide, "java/lang/IllegalArgumentException", k_cl_L_21, FH.2.2.2.2.2 ("java/lang/IllegalStateException", "java/lang/IllegalArgumentException") (by decide +kernel)⟩) rfl (by decide) k_cl_L_13 (List.mem_of_getElem? (i := 3) rfl) (fun q9 => ?_)
  refine rg_Jastore FH.1 [(4, .ref q9), (0, .ref (κ.2.2.2 0)), (1, .int (rg_I p1)), (2, .int (rg_I p2)), (3, .ref o)] dL_race_17 (by decide) rfl ?_
  refine rg_Jiconst FH.1 dL_race_19 ?_
  exact hR9 _ _ _ _ _ _ _ (Nat.le_refl 1) (Nat.le_refl 6) dL_race_20 ⟨rfl, rfl, rfl⟩
theorem k_L_race_3 (κ : rg_K) (co : ClassId × ClassId) {σ : rg_S} {p1 : Int} {p2 : Int} {o : Nat} {f : Nat → Int64} {fr1 lo1 : Nat} {σ1 : rg_S} (hM : rg_TX κ rg_tC yX9_race cX9_race 3 (some FieldType.int) fr1 lo1 [.ref (κ.2.2.2 0), .int (rg_I p1), .int (rg_I p2)] σ σ1 "java/lang/UnsupportedOperationException") (hR : fr1 + 1 ≤ 11 ∧ 8 + (3 + 11) + lo1 ≤ 200) : rg_HC κ co yL_race cL_race 5 [(0, 10, 13, 21), (0, 10, 17, 13), (0, 10, 21, 15)] [.ref (κ.2.2.2 0), .int (rg_I p1), .int (rg_I p2), .ref o] σ [o] [rg_eL co o f] (fun k σ9 ws9 => k = 3 ∧ σ9 = σ1 ∧ ws9 = [rg_eL co o f]) := by
  refine rg_entH [(0, .ref (κ.2.2.2 0)), (1, .int (rg_I p1)), (2, .int (rg_I p2)), (3, .ref o)] rfl (by decide +kernel) (Nat.le_of_ble_eq_true rfl) (fun Γ FH hR9 => ?_)
  have hos : ∀ q ∈ ([rg_eL co o f] : va_W), q.1 ∈ [o] := by
    intro q hq
    rw [List.mem_singleton] at hq
    rw [hq]; exact List.mem_singleton.mpr rfl
  refine rg_Jaload_n FH.1 3 3 rfl dL_race_0 rfl ?_
  refine rg_Jiconst FH.1 dL_race_1 ?_
  refine rg_Jaload_n FH.1 0 0 rfl dL_race_2 rfl ?_
  refine rg_Jiload_n FH.1 1 1 rfl dL_race_3 rfl ?_
  refine rg_Jiload_n FH.1 2 2 rfl dL_race_4 rfl ?_
  refine rg_HcallX FH.1 FH.2.1 hos ⟨Nat.le_refl 1, Nat.le_refl 6⟩ [.int (rg_I p1), .int (rg_I p2)] [.int (rg_I 0), .ref o] 0 hM tC0 cX9 v_X9_race i_X9_race k_ml_L_17 hR rfl (Nat.le_of_ble_eq_true rfl) dL_race_5 [⟨0, 10, 13, 21⟩, ⟨0, 10, 17, 13⟩] ⟨0, 10, 21, 15⟩ [] (FH.2.2.2.2.1.trans rfl) (by
    intro z hz
    simp only [List.mem_cons, List.not_mem_nil, or_false] at hz
    rcases hz with rfl | rfl
    · exact Or.inr ⟨by decide, "java/lang/IllegalArgumentException", k_cl_L_21, FH.2.2.2.2.2 ("java/lang/UnsupportedOperationException", "java/lang/IllegalArgumentException") (by decide +kernel)⟩
    · exact Or.inr ⟨by decide, "java/lang/IllegalStateException", k_cl_L_13, FH.2.2.2.2.2 ("java/lang/UnsupportedOperationException", "java/lang/IllegalStateException") (by decide +kernel)⟩) rfl (by decide) k_cl_L_15 (List.mem_of_getElem? (i := 4) rfl) (fun q9 => ?_)
  refine rg_Jastore FH.1 [(4, .ref q9), (0, .ref (κ.2.2.2 0)), (1, .int (rg_I p1)), (2, .int (rg_I p2)), (3, .ref o)] dL_race_21 (by decide) rfl ?_
  refine rg_Jiconst FH.1 dL_race_23 ?_
  exact hR9 _ _ _ _ _ _ _ (Nat.le_refl 1) (Nat.le_refl 6) dL_race_24 ⟨rfl, rfl, rfl⟩
theorem k_L_abandon_o (κ : rg_K) (co : ClassId × ClassId) {σ : rg_S} {p1 : Int} {p2 : Int} {o : Nat} {f : Nat → Int64} {fr1 lo1 : Nat} {post : Int → rg_S → Prop} (hM : rg_CI κ rg_tC yX9_abandon cX9_abandon 4 FieldType.boolean fr1 lo1 [.ref (κ.2.2.2 0), .int (rg_I p1), .int (rg_I p2)] σ post) (h01 : ∀ r σ9, post r σ9 → r = 0 ∨ r = 1) (hR : fr1 + 1 ≤ 11 ∧ 8 + (4 + 11) + lo1 ≤ 200) : rg_HC κ co yL_abandon cL_abandon 5 [(0, 17, 20, 27)] [.ref (κ.2.2.2 0), .int (rg_I p1), .int (rg_I p2), .ref o] σ [o] [rg_eL co o f] (fun k σ9 ws9 => k = 0 ∧ ∃ r, post r σ9 ∧ ws9 = [rg_eL co o (vp_updL f 0 (rg_I r).toInt64)]) := by
  refine rg_entH [(0, .ref (κ.2.2.2 0)), (1, .int (rg_I p1)), (2, .int (rg_I p2)), (3, .ref o)] rfl (by decide +kernel) (Nat.le_of_ble_eq_true rfl) (fun Γ FH hR9 => ?_)
  have hos : ∀ q ∈ ([rg_eL co o f] : va_W), q.1 ∈ [o] := by
    intro q hq
    rw [List.mem_singleton] at hq
    rw [hq]; exact List.mem_singleton.mpr rfl
  refine rg_Jaload_n FH.1 3 3 rfl dL_abandon_0 rfl ?_
  refine rg_Jiconst FH.1 dL_abandon_1 ?_
  refine rg_Jaload_n FH.1 0 0 rfl dL_abandon_2 rfl ?_
  refine rg_Jiload_n FH.1 1 1 rfl dL_abandon_3 rfl ?_
  refine rg_Jiload_n FH.1 2 2 rfl dL_abandon_4 rfl ?_
  refine rg_HcallI FH.1 FH.2.1 hos ⟨Nat.zero_le _, Nat.zero_le _⟩ [.int (rg_I p1), .int (rg_I p2)] [.int (rg_I 0), .ref o] 0 hM tC0 cX9 v_X9_abandon i_X9_abandon k_ml_L_23 hR rfl (Nat.le_of_ble_eq_true rfl) dL_abandon_5 (fun r σ1 hp => ?_)
  rcases h01 r σ1 hp with rfl | rfl
  · refine rg_Jif_eq FH.1 15 dL_abandon_8 (by decide) ⟨by omega, by omega⟩ (fun _ => ?_) (fun z => absurd rfl z)
    refine rg_Jlconst FH.1 dL_abandon_15 (v := (rg_I 0).toInt64) (by decide +kernel) ?_
    refine rg_Jlast FH dL_abandon_16 ?_
    refine rg_Jgoto FH.1 24 dL_abandon_17 (by decide) ?_
    refine rg_Jiconst FH.1 dL_abandon_24 ?_
    exact hR9 _ _ _ _ _ _ _ (Nat.zero_le _) (Nat.zero_le _) dL_abandon_25 ⟨rfl, _, hp, rfl⟩
  · refine rg_Jif_eq FH.1 15 dL_abandon_8 (by decide) ⟨by omega, by omega⟩ (fun z => absurd z (by decide)) (fun _ => ?_)
    refine rg_Jlconst FH.1 dL_abandon_11 (v := (rg_I 1).toInt64) (by decide +kernel) ?_
    refine rg_Jgoto FH.1 16 dL_abandon_12 (by decide) ?_
    refine rg_Jlast FH dL_abandon_16 ?_
    refine rg_Jgoto FH.1 24 dL_abandon_17 (by decide) ?_
    refine rg_Jiconst FH.1 dL_abandon_24 ?_
    exact hR9 _ _ _ _ _ _ _ (Nat.zero_le _) (Nat.zero_le _) dL_abandon_25 ⟨rfl, _, hp, rfl⟩
theorem k_L_abandon_1 (κ : rg_K) (co : ClassId × ClassId) {σ : rg_S} {p1 : Int} {p2 : Int} {o : Nat} {f : Nat → Int64} {fr1 lo1 : Nat} {σ1 : rg_S} (hM : rg_TX κ rg_tC yX9_abandon cX9_abandon 4 (some FieldType.boolean) fr1 lo1 [.ref (κ.2.2.2 0), .int (rg_I p1), .int (rg_I p2)] σ σ1 "java/lang/IndexOutOfBoundsException") (hR : fr1 + 1 ≤ 11 ∧ 8 + (4 + 11) + lo1 ≤ 200) : rg_HC κ co yL_abandon cL_abandon 5 [(0, 17, 20, 27)] [.ref (κ.2.2.2 0), .int (rg_I p1), .int (rg_I p2), .ref o] σ [o] [rg_eL co o f] (fun k σ9 ws9 => k = 1 ∧ σ9 = σ1 ∧ ws9 = [rg_eL co o f]) := by
  refine rg_entH [(0, .ref (κ.2.2.2 0)), (1, .int (rg_I p1)), (2, .int (rg_I p2)), (3, .ref o)] rfl (by decide +kernel) (Nat.le_of_ble_eq_true rfl) (fun Γ FH hR9 => ?_)
  have hos : ∀ q ∈ ([rg_eL co o f] : va_W), q.1 ∈ [o] := by
    intro q hq
    rw [List.mem_singleton] at hq
    rw [hq]; exact List.mem_singleton.mpr rfl
  refine rg_Jaload_n FH.1 3 3 rfl dL_abandon_0 rfl ?_
  refine rg_Jiconst FH.1 dL_abandon_1 ?_
  refine rg_Jaload_n FH.1 0 0 rfl dL_abandon_2 rfl ?_
  refine rg_Jiload_n FH.1 1 1 rfl dL_abandon_3 rfl ?_
  refine rg_Jiload_n FH.1 2 2 rfl dL_abandon_4 rfl ?_
  refine rg_HcallX FH.1 FH.2.1 hos ⟨Nat.le_refl 1, Nat.le_refl 6⟩ [.int (rg_I p1), .int (rg_I p2)] [.int (rg_I 0), .ref o] 0 hM tC0 cX9 v_X9_abandon i_X9_abandon k_ml_L_23 hR rfl (Nat.le_of_ble_eq_true rfl) dL_abandon_5 [] ⟨0, 17, 20, 27⟩ [] (FH.2.2.2.2.1.trans rfl) (fun z hz => absurd hz List.not_mem_nil) rfl (by decide) k_cl_L_27 (List.mem_of_getElem? (i := 6) rfl) (fun q9 => ?_)
  refine rg_Jastore FH.1 [(4, .ref q9), (0, .ref (κ.2.2.2 0)), (1, .int (rg_I p1)), (2, .int (rg_I p2)), (3, .ref o)] dL_abandon_20 (by decide) rfl ?_
  refine rg_Jiconst FH.1 dL_abandon_22 ?_
  exact hR9 _ _ _ _ _ _ _ (Nat.le_refl 1) (Nat.le_refl 6) dL_abandon_23 ⟨rfl, rfl, rfl⟩
theorem k_L_finish_o (κ : rg_K) (co : ClassId × ClassId) {σ : rg_S} {p1 : Int} {p2 : Int} {p3 : Int} {fr1 lo1 : Nat} {post : rg_S → Prop} (hM : rg_CV κ rg_tC yX9_finish cX9_finish 4 fr1 lo1 [.ref (κ.2.2.2 0), .int (rg_I p1), .int (rg_I p2), .int (rg_I p3)] σ post) (hR : fr1 + 1 ≤ 11 ∧ 8 + (4 + 11) + lo1 ≤ 200) : rg_HC κ co yL_finish cL_finish 5 [(0, 7, 10, 27), (0, 7, 14, 13), (0, 7, 18, 21)] [.ref (κ.2.2.2 0), .int (rg_I p1), .int (rg_I p2), .int (rg_I p3)] σ [] [] (fun k σ9 ws9 => k = 0 ∧ post σ9 ∧ ws9 = []) := by
  refine rg_entH [(0, .ref (κ.2.2.2 0)), (1, .int (rg_I p1)), (2, .int (rg_I p2)), (3, .int (rg_I p3))] rfl (by decide +kernel) (Nat.le_of_ble_eq_true rfl) (fun Γ FH hR9 => ?_)
  have hos : ∀ q ∈ ([] : va_W), q.1 ∈ ([] : List Nat) := fun q hq => absurd hq List.not_mem_nil
  refine rg_Jaload_n FH.1 0 0 rfl dL_finish_0 rfl ?_
  refine rg_Jiload_n FH.1 1 1 rfl dL_finish_1 rfl ?_
  refine rg_Jiload_n FH.1 2 2 rfl dL_finish_2 rfl ?_
  refine rg_Jiload_n FH.1 3 3 rfl dL_finish_3 rfl ?_
  refine rg_HcallV FH.1 FH.2.1 hos ⟨Nat.zero_le _, Nat.zero_le _⟩ [.int (rg_I p1), .int (rg_I p2), .int (rg_I p3)] [] 0 hM tC0 cX9 v_X9_finish i_X9_finish k_ml_L_29 hR rfl (Nat.le_of_ble_eq_true rfl) dL_finish_4 (fun σ1 hp => ?_)
  refine rg_Jgoto FH.1 22 dL_finish_7 (by decide) ?_
  refine rg_Jiconst FH.1 dL_finish_22 ?_
  exact hR9 _ _ _ _ _ _ _ (Nat.zero_le _) (Nat.zero_le _) dL_finish_23 ⟨rfl, hp, rfl⟩
theorem k_L_finish_1 (κ : rg_K) (co : ClassId × ClassId) {σ : rg_S} {p1 : Int} {p2 : Int} {p3 : Int} {fr1 lo1 : Nat} {σ1 : rg_S} (hM : rg_TX κ rg_tC yX9_finish cX9_finish 4 none fr1 lo1 [.ref (κ.2.2.2 0), .int (rg_I p1), .int (rg_I p2), .int (rg_I p3)] σ σ1 "java/lang/IndexOutOfBoundsException") (hR : fr1 + 1 ≤ 11 ∧ 8 + (4 + 11) + lo1 ≤ 200) : rg_HC κ co yL_finish cL_finish 5 [(0, 7, 10, 27), (0, 7, 14, 13), (0, 7, 18, 21)] [.ref (κ.2.2.2 0), .int (rg_I p1), .int (rg_I p2), .int (rg_I p3)] σ [] [] (fun k σ9 ws9 => k = 1 ∧ σ9 = σ1 ∧ ws9 = []) := by
  refine rg_entH [(0, .ref (κ.2.2.2 0)), (1, .int (rg_I p1)), (2, .int (rg_I p2)), (3, .int (rg_I p3))] rfl (by decide +kernel) (Nat.le_of_ble_eq_true rfl) (fun Γ FH hR9 => ?_)
  have hos : ∀ q ∈ ([] : va_W), q.1 ∈ ([] : List Nat) := fun q hq => absurd hq List.not_mem_nil
  refine rg_Jaload_n FH.1 0 0 rfl dL_finish_0 rfl ?_
  refine rg_Jiload_n FH.1 1 1 rfl dL_finish_1 rfl ?_
  refine rg_Jiload_n FH.1 2 2 rfl dL_finish_2 rfl ?_
  refine rg_Jiload_n FH.1 3 3 rfl dL_finish_3 rfl ?_
  refine rg_HcallX FH.1 FH.2.1 hos ⟨Nat.le_refl 1, Nat.le_refl 6⟩ [.int (rg_I p1), .int (rg_I p2), .int (rg_I p3)] [] 0 hM tC0 cX9 v_X9_finish i_X9_finish k_ml_L_29 hR rfl (Nat.le_of_ble_eq_true rfl) dL_finish_4 [] ⟨0, 7, 10, 27⟩ [⟨0, 7, 14, 13⟩, ⟨0, 7, 18, 21⟩] (FH.2.2.2.2.1.trans rfl) (fun z hz => absurd hz List.not_mem_nil) rfl (by decide) k_cl_L_27 (List.mem_of_getElem? (i := 6) rfl) (fun q9 => ?_)
  refine rg_Jastore FH.1 [(4, .ref q9), (0, .ref (κ.2.2.2 0)), (1, .int (rg_I p1)), (2, .int (rg_I p2)), (3, .int (rg_I p3))] dL_finish_10 (by decide) rfl ?_
  refine rg_Jiconst FH.1 dL_finish_12 ?_
  exact hR9 _ _ _ _ _ _ _ (Nat.le_refl 1) (Nat.le_refl 6) dL_finish_13 ⟨rfl, rfl, rfl⟩
theorem k_L_finish_2 (κ : rg_K) (co : ClassId × ClassId) {σ : rg_S} {p1 : Int} {p2 : Int} {p3 : Int} {fr1 lo1 : Nat} {σ1 : rg_S} (hM : rg_TX κ rg_tC yX9_finish cX9_finish 4 none fr1 lo1 [.ref (κ.2.2.2 0), .int (rg_I p1), .int (rg_I p2), .int (rg_I p3)] σ σ1 "java/lang/IllegalStateException") (hR : fr1 + 1 ≤ 11 ∧ 8 + (4 + 11) + lo1 ≤ 200) : rg_HC κ co yL_finish cL_finish 5 [(0, 7, 10, 27), (0, 7, 14, 13), (0, 7, 18, 21)] [.ref (κ.2.2.2 0), .int (rg_I p1), .int (rg_I p2), .int (rg_I p3)] σ [] [] (fun k σ9 ws9 => k = 2 ∧ σ9 = σ1 ∧ ws9 = []) := by
  refine rg_entH [(0, .ref (κ.2.2.2 0)), (1, .int (rg_I p1)), (2, .int (rg_I p2)), (3, .int (rg_I p3))] rfl (by decide +kernel) (Nat.le_of_ble_eq_true rfl) (fun Γ FH hR9 => ?_)
  have hos : ∀ q ∈ ([] : va_W), q.1 ∈ ([] : List Nat) := fun q hq => absurd hq List.not_mem_nil
  refine rg_Jaload_n FH.1 0 0 rfl dL_finish_0 rfl ?_
  refine rg_Jiload_n FH.1 1 1 rfl dL_finish_1 rfl ?_
  refine rg_Jiload_n FH.1 2 2 rfl dL_finish_2 rfl ?_
  refine rg_Jiload_n FH.1 3 3 rfl dL_finish_3 rfl ?_
  refine rg_HcallX FH.1 FH.2.1 hos ⟨Nat.le_refl 1, Nat.le_refl 6⟩ [.int (rg_I p1), .int (rg_I p2), .int (rg_I p3)] [] 0 hM tC0 cX9 v_X9_finish i_X9_finish k_ml_L_29 hR rfl (Nat.le_of_ble_eq_true rfl) dL_finish_4 [⟨0, 7, 10, 27⟩] ⟨0, 7, 14, 13⟩ [⟨0, 7, 18, 21⟩] (FH.2.2.2.2.1.trans rfl) (by
    intro z hz
    simp only [List.mem_cons, List.not_mem_nil, or_false] at hz
    rcases hz with rfl
    · exact Or.inr ⟨by decide, "java/lang/IndexOutOfBoundsException", k_cl_L_27, FH.2.2.2.2.2 ("java/lang/IllegalStateException", "java/lang/IndexOutOfBoundsException") (by decide +kernel)⟩) rfl (by decide) k_cl_L_13 (List.mem_of_getElem? (i := 3) rfl) (fun q9 => ?_)
  refine rg_Jastore FH.1 [(4, .ref q9), (0, .ref (κ.2.2.2 0)), (1, .int (rg_I p1)), (2, .int (rg_I p2)), (3, .int (rg_I p3))] dL_finish_14 (by decide) rfl ?_
  refine rg_Jiconst FH.1 dL_finish_16 ?_
  exact hR9 _ _ _ _ _ _ _ (Nat.le_refl 1) (Nat.le_refl 6) dL_finish_17 ⟨rfl, rfl, rfl⟩
theorem k_L_finish_3 (κ : rg_K) (co : ClassId × ClassId) {σ : rg_S} {p1 : Int} {p2 : Int} {p3 : Int} {fr1 lo1 : Nat} {σ1 : rg_S} (hM : rg_TX κ rg_tC yX9_finish cX9_finish 4 none fr1 lo1 [.ref (κ.2.2.2 0), .int (rg_I p1), .int (rg_I p2), .int (rg_I p3)] σ σ1 "java/lang/IllegalArgumentException") (hR : fr1 + 1 ≤ 11 ∧ 8 + (4 + 11) + lo1 ≤ 200) : rg_HC κ co yL_finish cL_finish 5 [(0, 7, 10, 27), (0, 7, 14, 13), (0, 7, 18, 21)] [.ref (κ.2.2.2 0), .int (rg_I p1), .int (rg_I p2), .int (rg_I p3)] σ [] [] (fun k σ9 ws9 => k = 3 ∧ σ9 = σ1 ∧ ws9 = []) := by
  refine rg_entH [(0, .ref (κ.2.2.2 0)), (1, .int (rg_I p1)), (2, .int (rg_I p2)), (3, .int (rg_I p3))] rfl (by decide +kernel) (Nat.le_of_ble_eq_true rfl) (fun Γ FH hR9 => ?_)
  have hos : ∀ q ∈ ([] : va_W), q.1 ∈ ([] : List Nat) := fun q hq => absurd hq List.not_mem_nil
  refine rg_Jaload_n FH.1 0 0 rfl dL_finish_0 rfl ?_
  refine rg_Jiload_n FH.1 1 1 rfl dL_finish_1 rfl ?_
  refine rg_Jiload_n FH.1 2 2 rfl dL_finish_2 rfl ?_
  refine rg_Jiload_n FH.1 3 3 rfl dL_finish_3 rfl ?_
  refine rg_HcallX FH.1 FH.2.1 hos ⟨Nat.le_refl 1, Nat.le_refl 6⟩ [.int (rg_I p1), .int (rg_I p2), .int (rg_I p3)] [] 0 hM tC0 cX9 v_X9_finish i_X9_finish k_ml_L_29 hR rfl (Nat.le_of_ble_eq_true rfl) dL_finish_4 [⟨0, 7, 10, 27⟩, ⟨0, 7, 14, 13⟩] ⟨0, 7, 18, 21⟩ [] (FH.2.2.2.2.1.trans rfl) (by
    intro z hz
    simp only [List.mem_cons, List.not_mem_nil, or_false] at hz
    rcases hz with rfl | rfl
    · exact Or.inr ⟨by decide, "java/lang/IndexOutOfBoundsException", k_cl_L_27, FH.2.2.2.2.2 ("java/lang/IllegalArgumentException", "java/lang/IndexOutOfBoundsException") (by decide +kernel)⟩
    · exact Or.inr ⟨by decide, "java/lang/IllegalStateException", k_cl_L_13, FH.2.2.2.2.2 ("java/lang/IllegalArgumentException", "java/lang/IllegalStateException") (by decide +kernel)⟩) rfl (by decide) k_cl_L_21 (List.mem_of_getElem? (i := 5) rfl) (fun q9 => ?_)
  refine rg_Jastore FH.1 [(4, .ref q9), (0, .ref (κ.2.2.2 0)), (1, .int (rg_I p1)), (2, .int (rg_I p2)), (3, .int (rg_I p3))] dL_finish_18 (by decide) rfl ?_
  refine rg_Jiconst FH.1 dL_finish_20 ?_
  exact hR9 _ _ _ _ _ _ _ (Nat.le_refl 1) (Nat.le_refl 6) dL_finish_21 ⟨rfl, rfl, rfl⟩
theorem k_L_code_o (κ : rg_K) (co : ClassId × ClassId) {σ : rg_S} {p1 : Int} {p2 : Int} {p3 : Int} {p4 : Int} {fr1 lo1 : Nat} {post : rg_S → Prop} (hM : rg_CV κ rg_tC yX9_code cX9_code 5 fr1 lo1 [.ref (κ.2.2.2 0), .int (rg_I p1), .int (rg_I p2), .int (rg_I p3), .int (rg_I p4)] σ post) (hR : fr1 + 1 ≤ 11 ∧ 8 + (5 + 11) + lo1 ≤ 200) : rg_HC κ co yL_code cL_code 6 [(0, 9, 12, 27), (0, 9, 16, 13), (0, 9, 20, 21)] [.ref (κ.2.2.2 0), .int (rg_I p1), .int (rg_I p2), .int (rg_I p3), .int (rg_I p4)] σ [] [] (fun k σ9 ws9 => k = 0 ∧ post σ9 ∧ ws9 = []) := by
  refine rg_entH [(0, .ref (κ.2.2.2 0)), (1, .int (rg_I p1)), (2, .int (rg_I p2)), (3, .int (rg_I p3)), (4, .int (rg_I p4))] rfl (by decide +kernel) (Nat.le_of_ble_eq_true rfl) (fun Γ FH hR9 => ?_)
  have hos : ∀ q ∈ ([] : va_W), q.1 ∈ ([] : List Nat) := fun q hq => absurd hq List.not_mem_nil
  refine rg_Jaload_n FH.1 0 0 rfl dL_code_0 rfl ?_
  refine rg_Jiload_n FH.1 1 1 rfl dL_code_1 rfl ?_
  refine rg_Jiload_n FH.1 2 2 rfl dL_code_2 rfl ?_
  refine rg_Jiload_n FH.1 3 3 rfl dL_code_3 rfl ?_
  refine rg_Jiload FH.1 4 4 dL_code_4 rfl ?_
  refine rg_HcallV FH.1 FH.2.1 hos ⟨Nat.zero_le _, Nat.zero_le _⟩ [.int (rg_I p1), .int (rg_I p2), .int (rg_I p3), .int (rg_I p4)] [] 0 hM tC0 cX9 v_X9_code i_X9_code k_ml_L_33 hR rfl (Nat.le_of_ble_eq_true rfl) dL_code_6 (fun σ1 hp => ?_)
  refine rg_Jgoto FH.1 24 dL_code_9 (by decide) ?_
  refine rg_Jiconst FH.1 dL_code_24 ?_
  exact hR9 _ _ _ _ _ _ _ (Nat.zero_le _) (Nat.zero_le _) dL_code_25 ⟨rfl, hp, rfl⟩
theorem k_L_code_1 (κ : rg_K) (co : ClassId × ClassId) {σ : rg_S} {p1 : Int} {p2 : Int} {p3 : Int} {p4 : Int} {fr1 lo1 : Nat} {σ1 : rg_S} (hM : rg_TX κ rg_tC yX9_code cX9_code 5 none fr1 lo1 [.ref (κ.2.2.2 0), .int (rg_I p1), .int (rg_I p2), .int (rg_I p3), .int (rg_I p4)] σ σ1 "java/lang/IndexOutOfBoundsException") (hR : fr1 + 1 ≤ 11 ∧ 8 + (5 + 11) + lo1 ≤ 200) : rg_HC κ co yL_code cL_code 6 [(0, 9, 12, 27), (0, 9, 16, 13), (0, 9, 20, 21)] [.ref (κ.2.2.2 0), .int (rg_I p1), .int (rg_I p2), .int (rg_I p3), .int (rg_I p4)] σ [] [] (fun k σ9 ws9 => k = 1 ∧ σ9 = σ1 ∧ ws9 = []) := by
  refine rg_entH [(0, .ref (κ.2.2.2 0)), (1, .int (rg_I p1)), (2, .int (rg_I p2)), (3, .int (rg_I p3)), (4, .int (rg_I p4))] rfl (by decide +kernel) (Nat.le_of_ble_eq_true rfl) (fun Γ FH hR9 => ?_)
  have hos : ∀ q ∈ ([] : va_W), q.1 ∈ ([] : List Nat) := fun q hq => absurd hq List.not_mem_nil
  refine rg_Jaload_n FH.1 0 0 rfl dL_code_0 rfl ?_
  refine rg_Jiload_n FH.1 1 1 rfl dL_code_1 rfl ?_
  refine rg_Jiload_n FH.1 2 2 rfl dL_code_2 rfl ?_
  refine rg_Jiload_n FH.1 3 3 rfl dL_code_3 rfl ?_
  refine rg_Jiload FH.1 4 4 dL_code_4 rfl ?_
  refine rg_HcallX FH.1 FH.2.1 hos ⟨Nat.le_refl 1, Nat.le_refl 6⟩ [.int (rg_I p1), .int (rg_I p2), .int (rg_I p3), .int (rg_I p4)] [] 0 hM tC0 cX9 v_X9_code i_X9_code k_ml_L_33 hR rfl (Nat.le_of_ble_eq_true rfl) dL_code_6 [] ⟨0, 9, 12, 27⟩ [⟨0, 9, 16, 13⟩, ⟨0, 9, 20, 21⟩] (FH.2.2.2.2.1.trans rfl) (fun z hz => absurd hz List.not_mem_nil) rfl (by decide) k_cl_L_27 (List.mem_of_getElem? (i := 6) rfl) (fun q9 => ?_)
  refine rg_Jastore FH.1 [(5, .ref q9), (0, .ref (κ.2.2.2 0)), (1, .int (rg_I p1)), (2, .int (rg_I p2)), (3, .int (rg_I p3)), (4, .int (rg_I p4))] dL_code_12 (by decide) rfl ?_
  refine rg_Jiconst FH.1 dL_code_14 ?_
  exact hR9 _ _ _ _ _ _ _ (Nat.le_refl 1) (Nat.le_refl 6) dL_code_15 ⟨rfl, rfl, rfl⟩
theorem k_L_code_2 (κ : rg_K) (co : ClassId × ClassId) {σ : rg_S} {p1 : Int} {p2 : Int} {p3 : Int} {p4 : Int} {fr1 lo1 : Nat} {σ1 : rg_S} (hM : rg_TX κ rg_tC yX9_code cX9_code 5 none fr1 lo1 [.ref (κ.2.2.2 0), .int (rg_I p1), .int (rg_I p2), .int (rg_I p3), .int (rg_I p4)] σ σ1 "java/lang/IllegalStateException") (hR : fr1 + 1 ≤ 11 ∧ 8 + (5 + 11) + lo1 ≤ 200) : rg_HC κ co yL_code cL_code 6 [(0, 9, 12, 27), (0, 9, 16, 13), (0, 9, 20, 21)] [.ref (κ.2.2.2 0), .int (rg_I p1), .int (rg_I p2), .int (rg_I p3), .int (rg_I p4)] σ [] [] (fun k σ9 ws9 => k = 2 ∧ σ9 = σ1 ∧ ws9 = []) := by
  refine rg_entH [(0, .ref (κ.2.2.2 0)), (1, .int (rg_I p1)), (2, .int (rg_I p2)), (3, .int (rg_I p3)), (4, .int (rg_I p4))] rfl (by decide +kernel) (Nat.le_of_ble_eq_true rfl) (fun Γ FH hR9 => ?_)
  have hos : ∀ q ∈ ([] : va_W), q.1 ∈ ([] : List Nat) := fun q hq => absurd hq List.not_mem_nil
  refine rg_Jaload_n FH.1 0 0 rfl dL_code_0 rfl ?_
  refine rg_Jiload_n FH.1 1 1 rfl dL_code_1 rfl ?_
  refine rg_Jiload_n FH.1 2 2 rfl dL_code_2 rfl ?_
  refine rg_Jiload_n FH.1 3 3 rfl dL_code_3 rfl ?_
  refine rg_Jiload FH.1 4 4 dL_code_4 rfl ?_
  refine rg_HcallX FH.1 FH.2.1 hos ⟨Nat.le_refl 1, Nat.le_refl 6⟩ [.int (rg_I p1), .int (rg_I p2), .int (rg_I p3), .int (rg_I p4)] [] 0 hM tC0 cX9 v_X9_code i_X9_code k_ml_L_33 hR rfl (Nat.le_of_ble_eq_true rfl) dL_code_6 [⟨0, 9, 12, 27⟩] ⟨0, 9, 16, 13⟩ [⟨0, 9, 20, 21⟩] (FH.2.2.2.2.1.trans rfl) (by
    intro z hz
    simp only [List.mem_cons, List.not_mem_nil, or_false] at hz
    rcases hz with rfl
    · exact Or.inr ⟨by decide, "java/lang/IndexOutOfBoundsException", k_cl_L_27, FH.2.2.2.2.2 ("java/lang/IllegalStateException", "java/lang/IndexOutOfBoundsException") (by decide +kernel)⟩) rfl (by decide) k_cl_L_13 (List.mem_of_getElem? (i := 3) rfl) (fun q9 => ?_)
  refine rg_Jastore FH.1 [(5, .ref q9), (0, .ref (κ.2.2.2 0)), (1, .int (rg_I p1)), (2, .int (rg_I p2)), (3, .int (rg_I p3)), (4, .int (rg_I p4))] dL_code_16 (by decide) rfl ?_
  refine rg_Jiconst FH.1 dL_code_18 ?_
  exact hR9 _ _ _ _ _ _ _ (Nat.le_refl 1) (Nat.le_refl 6) dL_code_19 ⟨rfl, rfl, rfl⟩
theorem k_L_code_3 (κ : rg_K) (co : ClassId × ClassId) {σ : rg_S} {p1 : Int} {p2 : Int} {p3 : Int} {p4 : Int} {fr1 lo1 : Nat} {σ1 : rg_S} (hM : rg_TX κ rg_tC yX9_code cX9_code 5 none fr1 lo1 [.ref (κ.2.2.2 0), .int (rg_I p1), .int (rg_I p2), .int (rg_I p3), .int (rg_I p4)] σ σ1 "java/lang/IllegalArgumentException") (hR : fr1 + 1 ≤ 11 ∧ 8 + (5 + 11) + lo1 ≤ 200) : rg_HC κ co yL_code cL_code 6 [(0, 9, 12, 27), (0, 9, 16, 13), (0, 9, 20, 21)] [.ref (κ.2.2.2 0), .int (rg_I p1), .int (rg_I p2), .int (rg_I p3), .int (rg_I p4)] σ [] [] (fun k σ9 ws9 => k = 3 ∧ σ9 = σ1 ∧ ws9 = []) := by
  refine rg_entH [(0, .ref (κ.2.2.2 0)), (1, .int (rg_I p1)), (2, .int (rg_I p2)), (3, .int (rg_I p3)), (4, .int (rg_I p4))] rfl (by decide +kernel) (Nat.le_of_ble_eq_true rfl) (fun Γ FH hR9 => ?_)
  have hos : ∀ q ∈ ([] : va_W), q.1 ∈ ([] : List Nat) := fun q hq => absurd hq List.not_mem_nil
  refine rg_Jaload_n FH.1 0 0 rfl dL_code_0 rfl ?_
  refine rg_Jiload_n FH.1 1 1 rfl dL_code_1 rfl ?_
  refine rg_Jiload_n FH.1 2 2 rfl dL_code_2 rfl ?_
  refine rg_Jiload_n FH.1 3 3 rfl dL_code_3 rfl ?_
  refine rg_Jiload FH.1 4 4 dL_code_4 rfl ?_
  refine rg_HcallX FH.1 FH.2.1 hos ⟨Nat.le_refl 1, Nat.le_refl 6⟩ [.int (rg_I p1), .int (rg_I p2), .int (rg_I p3), .int (rg_I p4)] [] 0 hM tC0 cX9 v_X9_code i_X9_code k_ml_L_33 hR rfl (Nat.le_of_ble_eq_true rfl) dL_code_6 [⟨0, 9, 12, 27⟩, ⟨0, 9, 16, 13⟩] ⟨0, 9, 20, 21⟩ [] (FH.2.2.2.2.1.trans rfl) (by
    intro z hz
    simp only [List.mem_cons, List.not_mem_nil, or_false] at hz
    rcases hz with rfl | rfl
    · exact Or.inr ⟨by decide, "java/lang/IndexOutOfBoundsException", k_cl_L_27, FH.2.2.2.2.2 ("java/lang/IllegalArgumentException", "java/lang/IndexOutOfBoundsException") (by decide +kernel)⟩
    · exact Or.inr ⟨by decide, "java/lang/IllegalStateException", k_cl_L_13, FH.2.2.2.2.2 ("java/lang/IllegalArgumentException", "java/lang/IllegalStateException") (by decide +kernel)⟩) rfl (by decide) k_cl_L_21 (List.mem_of_getElem? (i := 5) rfl) (fun q9 => ?_)
  refine rg_Jastore FH.1 [(5, .ref q9), (0, .ref (κ.2.2.2 0)), (1, .int (rg_I p1)), (2, .int (rg_I p2)), (3, .int (rg_I p3)), (4, .int (rg_I p4))] dL_code_20 (by decide) rfl ?_
  refine rg_Jiconst FH.1 dL_code_22 ?_
  exact hR9 _ _ _ _ _ _ _ (Nat.le_refl 1) (Nat.le_refl 6) dL_code_23 ⟨rfl, rfl, rfl⟩
theorem k_L_penalty_o (κ : rg_K) (co : ClassId × ClassId) {σ : rg_S} {p1 : Int} {p2 : Int} {p3 : Int} {fr1 lo1 : Nat} {post : rg_S → Prop} (hM : rg_CV κ rg_tC yX9_penalty cX9_penalty 4 fr1 lo1 [.ref (κ.2.2.2 0), .int (rg_I p1), .int (rg_I p2), .int (rg_I p3)] σ post) (hR : fr1 + 1 ≤ 11 ∧ 8 + (4 + 11) + lo1 ≤ 200) : rg_HC κ co yL_penalty cL_penalty 5 [(0, 7, 10, 27), (0, 7, 14, 13), (0, 7, 18, 21)] [.ref (κ.2.2.2 0), .int (rg_I p1), .int (rg_I p2), .int (rg_I p3)] σ [] [] (fun k σ9 ws9 => k = 0 ∧ post σ9 ∧ ws9 = []) := by
  refine rg_entH [(0, .ref (κ.2.2.2 0)), (1, .int (rg_I p1)), (2, .int (rg_I p2)), (3, .int (rg_I p3))] rfl (by decide +kernel) (Nat.le_of_ble_eq_true rfl) (fun Γ FH hR9 => ?_)
  have hos : ∀ q ∈ ([] : va_W), q.1 ∈ ([] : List Nat) := fun q hq => absurd hq List.not_mem_nil
  refine rg_Jaload_n FH.1 0 0 rfl dL_penalty_0 rfl ?_
  refine rg_Jiload_n FH.1 1 1 rfl dL_penalty_1 rfl ?_
  refine rg_Jiload_n FH.1 2 2 rfl dL_penalty_2 rfl ?_
  refine rg_Jiload_n FH.1 3 3 rfl dL_penalty_3 rfl ?_
  refine rg_HcallV FH.1 FH.2.1 hos ⟨Nat.zero_le _, Nat.zero_le _⟩ [.int (rg_I p1), .int (rg_I p2), .int (rg_I p3)] [] 0 hM tC0 cX9 v_X9_penalty i_X9_penalty k_ml_L_37 hR rfl (Nat.le_of_ble_eq_true rfl) dL_penalty_4 (fun σ1 hp => ?_)
  refine rg_Jgoto FH.1 22 dL_penalty_7 (by decide) ?_
  refine rg_Jiconst FH.1 dL_penalty_22 ?_
  exact hR9 _ _ _ _ _ _ _ (Nat.zero_le _) (Nat.zero_le _) dL_penalty_23 ⟨rfl, hp, rfl⟩
theorem k_L_penalty_1 (κ : rg_K) (co : ClassId × ClassId) {σ : rg_S} {p1 : Int} {p2 : Int} {p3 : Int} {fr1 lo1 : Nat} {σ1 : rg_S} (hM : rg_TX κ rg_tC yX9_penalty cX9_penalty 4 none fr1 lo1 [.ref (κ.2.2.2 0), .int (rg_I p1), .int (rg_I p2), .int (rg_I p3)] σ σ1 "java/lang/IndexOutOfBoundsException") (hR : fr1 + 1 ≤ 11 ∧ 8 + (4 + 11) + lo1 ≤ 200) : rg_HC κ co yL_penalty cL_penalty 5 [(0, 7, 10, 27), (0, 7, 14, 13), (0, 7, 18, 21)] [.ref (κ.2.2.2 0), .int (rg_I p1), .int (rg_I p2), .int (rg_I p3)] σ [] [] (fun k σ9 ws9 => k = 1 ∧ σ9 = σ1 ∧ ws9 = []) := by
  refine rg_entH [(0, .ref (κ.2.2.2 0)), (1, .int (rg_I p1)), (2, .int (rg_I p2)), (3, .int (rg_I p3))] rfl (by decide +kernel) (Nat.le_of_ble_eq_true rfl) (fun Γ FH hR9 => ?_)
  have hos : ∀ q ∈ ([] : va_W), q.1 ∈ ([] : List Nat) := fun q hq => absurd hq List.not_mem_nil
  refine rg_Jaload_n FH.1 0 0 rfl dL_penalty_0 rfl ?_
  refine rg_Jiload_n FH.1 1 1 rfl dL_penalty_1 rfl ?_
  refine rg_Jiload_n FH.1 2 2 rfl dL_penalty_2 rfl ?_
  refine rg_Jiload_n FH.1 3 3 rfl dL_penalty_3 rfl ?_
  refine rg_HcallX FH.1 FH.2.1 hos ⟨Nat.le_refl 1, Nat.le_refl 6⟩ [.int (rg_I p1), .int (rg_I p2), .int (rg_I p3)] [] 0 hM tC0 cX9 v_X9_penalty i_X9_penalty k_ml_L_37 hR rfl (Nat.le_of_ble_eq_true rfl) dL_penalty_4 [] ⟨0, 7, 10, 27⟩ [⟨0, 7, 14, 13⟩, ⟨0, 7, 18, 21⟩] (FH.2.2.2.2.1.trans rfl) (fun z hz => absurd hz List.not_mem_nil) rfl (by decide) k_cl_L_27 (List.mem_of_getElem? (i := 6) rfl) (fun q9 => ?_)
  refine rg_Jastore FH.1 [(4, .ref q9), (0, .ref (κ.2.2.2 0)), (1, .int (rg_I p1)), (2, .int (rg_I p2)), (3, .int (rg_I p3))] dL_penalty_10 (by decide) rfl ?_
  refine rg_Jiconst FH.1 dL_penalty_12 ?_
  exact hR9 _ _ _ _ _ _ _ (Nat.le_refl 1) (Nat.le_refl 6) dL_penalty_13 ⟨rfl, rfl, rfl⟩
theorem k_L_penalty_2 (κ : rg_K) (co : ClassId × ClassId) {σ : rg_S} {p1 : Int} {p2 : Int} {p3 : Int} {fr1 lo1 : Nat} {σ1 : rg_S} (hM : rg_TX κ rg_tC yX9_penalty cX9_penalty 4 none fr1 lo1 [.ref (κ.2.2.2 0), .int (rg_I p1), .int (rg_I p2), .int (rg_I p3)] σ σ1 "java/lang/IllegalStateException") (hR : fr1 + 1 ≤ 11 ∧ 8 + (4 + 11) + lo1 ≤ 200) : rg_HC κ co yL_penalty cL_penalty 5 [(0, 7, 10, 27), (0, 7, 14, 13), (0, 7, 18, 21)] [.ref (κ.2.2.2 0), .int (rg_I p1), .int (rg_I p2), .int (rg_I p3)] σ [] [] (fun k σ9 ws9 => k = 2 ∧ σ9 = σ1 ∧ ws9 = []) := by
  refine rg_entH [(0, .ref (κ.2.2.2 0)), (1, .int (rg_I p1)), (2, .int (rg_I p2)), (3, .int (rg_I p3))] rfl (by decide +kernel) (Nat.le_of_ble_eq_true rfl) (fun Γ FH hR9 => ?_)
  have hos : ∀ q ∈ ([] : va_W), q.1 ∈ ([] : List Nat) := fun q hq => absurd hq List.not_mem_nil
  refine rg_Jaload_n FH.1 0 0 rfl dL_penalty_0 rfl ?_
  refine rg_Jiload_n FH.1 1 1 rfl dL_penalty_1 rfl ?_
  refine rg_Jiload_n FH.1 2 2 rfl dL_penalty_2 rfl ?_
  refine rg_Jiload_n FH.1 3 3 rfl dL_penalty_3 rfl ?_
  refine rg_HcallX FH.1 FH.2.1 hos ⟨Nat.le_refl 1, Nat.le_refl 6⟩ [.int (rg_I p1), .int (rg_I p2), .int (rg_I p3)] [] 0 hM tC0 cX9 v_X9_penalty i_X9_penalty k_ml_L_37 hR rfl (Nat.le_of_ble_eq_true rfl) dL_penalty_4 [⟨0, 7, 10, 27⟩] ⟨0, 7, 14, 13⟩ [⟨0, 7, 18, 21⟩] (FH.2.2.2.2.1.trans rfl) (by
    intro z hz
    simp only [List.mem_cons, List.not_mem_nil, or_false] at hz
    rcases hz with rfl
    · exact Or.inr ⟨by decide, "java/lang/IndexOutOfBoundsException", k_cl_L_27, FH.2.2.2.2.2 ("java/lang/IllegalStateException", "java/lang/IndexOutOfBoundsException") (by decide +kernel)⟩) rfl (by decide) k_cl_L_13 (List.mem_of_getElem? (i := 3) rfl) (fun q9 => ?_)
  refine rg_Jastore FH.1 [(4, .ref q9), (0, .ref (κ.2.2.2 0)), (1, .int (rg_I p1)), (2, .int (rg_I p2)), (3, .int (rg_I p3))] dL_penalty_14 (by decide) rfl ?_
  refine rg_Jiconst FH.1 dL_penalty_16 ?_
  exact hR9 _ _ _ _ _ _ _ (Nat.le_refl 1) (Nat.le_refl 6) dL_penalty_17 ⟨rfl, rfl, rfl⟩
theorem k_L_penalty_3 (κ : rg_K) (co : ClassId × ClassId) {σ : rg_S} {p1 : Int} {p2 : Int} {p3 : Int} {fr1 lo1 : Nat} {σ1 : rg_S} (hM : rg_TX κ rg_tC yX9_penalty cX9_penalty 4 none fr1 lo1 [.ref (κ.2.2.2 0), .int (rg_I p1), .int (rg_I p2), .int (rg_I p3)] σ σ1 "java/lang/IllegalArgumentException") (hR : fr1 + 1 ≤ 11 ∧ 8 + (4 + 11) + lo1 ≤ 200) : rg_HC κ co yL_penalty cL_penalty 5 [(0, 7, 10, 27), (0, 7, 14, 13), (0, 7, 18, 21)] [.ref (κ.2.2.2 0), .int (rg_I p1), .int (rg_I p2), .int (rg_I p3)] σ [] [] (fun k σ9 ws9 => k = 3 ∧ σ9 = σ1 ∧ ws9 = []) := by
  refine rg_entH [(0, .ref (κ.2.2.2 0)), (1, .int (rg_I p1)), (2, .int (rg_I p2)), (3, .int (rg_I p3))] rfl (by decide +kernel) (Nat.le_of_ble_eq_true rfl) (fun Γ FH hR9 => ?_)
  have hos : ∀ q ∈ ([] : va_W), q.1 ∈ ([] : List Nat) := fun q hq => absurd hq List.not_mem_nil
  refine rg_Jaload_n FH.1 0 0 rfl dL_penalty_0 rfl ?_
  refine rg_Jiload_n FH.1 1 1 rfl dL_penalty_1 rfl ?_
  refine rg_Jiload_n FH.1 2 2 rfl dL_penalty_2 rfl ?_
  refine rg_Jiload_n FH.1 3 3 rfl dL_penalty_3 rfl ?_
  refine rg_HcallX FH.1 FH.2.1 hos ⟨Nat.le_refl 1, Nat.le_refl 6⟩ [.int (rg_I p1), .int (rg_I p2), .int (rg_I p3)] [] 0 hM tC0 cX9 v_X9_penalty i_X9_penalty k_ml_L_37 hR rfl (Nat.le_of_ble_eq_true rfl) dL_penalty_4 [⟨0, 7, 10, 27⟩, ⟨0, 7, 14, 13⟩] ⟨0, 7, 18, 21⟩ [] (FH.2.2.2.2.1.trans rfl) (by
    intro z hz
    simp only [List.mem_cons, List.not_mem_nil, or_false] at hz
    rcases hz with rfl | rfl
    · exact Or.inr ⟨by decide, "java/lang/IndexOutOfBoundsException", k_cl_L_27, FH.2.2.2.2.2 ("java/lang/IllegalArgumentException", "java/lang/IndexOutOfBoundsException") (by decide +kernel)⟩
    · exact Or.inr ⟨by decide, "java/lang/IllegalStateException", k_cl_L_13, FH.2.2.2.2.2 ("java/lang/IllegalArgumentException", "java/lang/IllegalStateException") (by decide +kernel)⟩) rfl (by decide) k_cl_L_21 (List.mem_of_getElem? (i := 5) rfl) (fun q9 => ?_)
  refine rg_Jastore FH.1 [(4, .ref q9), (0, .ref (κ.2.2.2 0)), (1, .int (rg_I p1)), (2, .int (rg_I p2)), (3, .int (rg_I p3))] dL_penalty_18 (by decide) rfl ?_
  refine rg_Jiconst FH.1 dL_penalty_20 ?_
  exact hR9 _ _ _ _ _ _ _ (Nat.le_refl 1) (Nat.le_refl 6) dL_penalty_21 ⟨rfl, rfl, rfl⟩
theorem k_L_clear_o (κ : rg_K) (co : ClassId × ClassId) {σ : rg_S} {p1 : Int} {p2 : Int} {o : Nat} {f : Nat → Int64} {fr1 lo1 : Nat} {post : Int → rg_S → Prop} (hM : rg_CI κ rg_tC yX9_clear cX9_clear 4 FieldType.boolean fr1 lo1 [.ref (κ.2.2.2 0), .int (rg_I p1), .int (rg_I p2)] σ post) (h01 : ∀ r σ9, post r σ9 → r = 0 ∨ r = 1) (hR : fr1 + 1 ≤ 11 ∧ 8 + (4 + 11) + lo1 ≤ 200) : rg_HC κ co yL_clear cL_clear 5 [(0, 17, 20, 27)] [.ref (κ.2.2.2 0), .int (rg_I p1), .int (rg_I p2), .ref o] σ [o] [rg_eL co o f] (fun k σ9 ws9 => k = 0 ∧ ∃ r, post r σ9 ∧ ws9 = [rg_eL co o (vp_updL f 0 (rg_I r).toInt64)]) := by
  refine rg_entH [(0, .ref (κ.2.2.2 0)), (1, .int (rg_I p1)), (2, .int (rg_I p2)), (3, .ref o)] rfl (by decide +kernel) (Nat.le_of_ble_eq_true rfl) (fun Γ FH hR9 => ?_)
  have hos : ∀ q ∈ ([rg_eL co o f] : va_W), q.1 ∈ [o] := by
    intro q hq
    rw [List.mem_singleton] at hq
    rw [hq]; exact List.mem_singleton.mpr rfl
  refine rg_Jaload_n FH.1 3 3 rfl dL_clear_0 rfl ?_
  refine rg_Jiconst FH.1 dL_clear_1 ?_
  refine rg_Jaload_n FH.1 0 0 rfl dL_clear_2 rfl ?_
  refine rg_Jiload_n FH.1 1 1 rfl dL_clear_3 rfl ?_
  refine rg_Jiload_n FH.1 2 2 rfl dL_clear_4 rfl ?_
  refine rg_HcallI FH.1 FH.2.1 hos ⟨Nat.zero_le _, Nat.zero_le _⟩ [.int (rg_I p1), .int (rg_I p2)] [.int (rg_I 0), .ref o] 0 hM tC0 cX9 v_X9_clear i_X9_clear k_ml_L_40 hR rfl (Nat.le_of_ble_eq_true rfl) dL_clear_5 (fun r σ1 hp => ?_)
  rcases h01 r σ1 hp with rfl | rfl
  · refine rg_Jif_eq FH.1 15 dL_clear_8 (by decide) ⟨by omega, by omega⟩ (fun _ => ?_) (fun z => absurd rfl z)
    refine rg_Jlconst FH.1 dL_clear_15 (v := (rg_I 0).toInt64) (by decide +kernel) ?_
    refine rg_Jlast FH dL_clear_16 ?_
    refine rg_Jgoto FH.1 24 dL_clear_17 (by decide) ?_
    refine rg_Jiconst FH.1 dL_clear_24 ?_
    exact hR9 _ _ _ _ _ _ _ (Nat.zero_le _) (Nat.zero_le _) dL_clear_25 ⟨rfl, _, hp, rfl⟩
  · refine rg_Jif_eq FH.1 15 dL_clear_8 (by decide) ⟨by omega, by omega⟩ (fun z => absurd z (by decide)) (fun _ => ?_)
    refine rg_Jlconst FH.1 dL_clear_11 (v := (rg_I 1).toInt64) (by decide +kernel) ?_
    refine rg_Jgoto FH.1 16 dL_clear_12 (by decide) ?_
    refine rg_Jlast FH dL_clear_16 ?_
    refine rg_Jgoto FH.1 24 dL_clear_17 (by decide) ?_
    refine rg_Jiconst FH.1 dL_clear_24 ?_
    exact hR9 _ _ _ _ _ _ _ (Nat.zero_le _) (Nat.zero_le _) dL_clear_25 ⟨rfl, _, hp, rfl⟩
theorem k_L_clear_1 (κ : rg_K) (co : ClassId × ClassId) {σ : rg_S} {p1 : Int} {p2 : Int} {o : Nat} {f : Nat → Int64} {fr1 lo1 : Nat} {σ1 : rg_S} (hM : rg_TX κ rg_tC yX9_clear cX9_clear 4 (some FieldType.boolean) fr1 lo1 [.ref (κ.2.2.2 0), .int (rg_I p1), .int (rg_I p2)] σ σ1 "java/lang/IndexOutOfBoundsException") (hR : fr1 + 1 ≤ 11 ∧ 8 + (4 + 11) + lo1 ≤ 200) : rg_HC κ co yL_clear cL_clear 5 [(0, 17, 20, 27)] [.ref (κ.2.2.2 0), .int (rg_I p1), .int (rg_I p2), .ref o] σ [o] [rg_eL co o f] (fun k σ9 ws9 => k = 1 ∧ σ9 = σ1 ∧ ws9 = [rg_eL co o f]) := by
  refine rg_entH [(0, .ref (κ.2.2.2 0)), (1, .int (rg_I p1)), (2, .int (rg_I p2)), (3, .ref o)] rfl (by decide +kernel) (Nat.le_of_ble_eq_true rfl) (fun Γ FH hR9 => ?_)
  have hos : ∀ q ∈ ([rg_eL co o f] : va_W), q.1 ∈ [o] := by
    intro q hq
    rw [List.mem_singleton] at hq
    rw [hq]; exact List.mem_singleton.mpr rfl
  refine rg_Jaload_n FH.1 3 3 rfl dL_clear_0 rfl ?_
  refine rg_Jiconst FH.1 dL_clear_1 ?_
  refine rg_Jaload_n FH.1 0 0 rfl dL_clear_2 rfl ?_
  refine rg_Jiload_n FH.1 1 1 rfl dL_clear_3 rfl ?_
  refine rg_Jiload_n FH.1 2 2 rfl dL_clear_4 rfl ?_
  refine rg_HcallX FH.1 FH.2.1 hos ⟨Nat.le_refl 1, Nat.le_refl 6⟩ [.int (rg_I p1), .int (rg_I p2)] [.int (rg_I 0), .ref o] 0 hM tC0 cX9 v_X9_clear i_X9_clear k_ml_L_40 hR rfl (Nat.le_of_ble_eq_true rfl) dL_clear_5 [] ⟨0, 17, 20, 27⟩ [] (FH.2.2.2.2.1.trans rfl) (fun z hz => absurd hz List.not_mem_nil) rfl (by decide) k_cl_L_27 (List.mem_of_getElem? (i := 6) rfl) (fun q9 => ?_)
  refine rg_Jastore FH.1 [(4, .ref q9), (0, .ref (κ.2.2.2 0)), (1, .int (rg_I p1)), (2, .int (rg_I p2)), (3, .ref o)] dL_clear_20 (by decide) rfl ?_
  refine rg_Jiconst FH.1 dL_clear_22 ?_
  exact hR9 _ _ _ _ _ _ _ (Nat.le_refl 1) (Nat.le_refl 6) dL_clear_23 ⟨rfl, rfl, rfl⟩
theorem k_L_protest_o (κ : rg_K) (co : ClassId × ClassId) {σ : rg_S} {p1 : Int} {p2 : Int} {p3 : Int} {p4 : Int} {o : Nat} {f : Nat → Int64} {fr1 lo1 : Nat} {post : Int → rg_S → Prop} (hM : rg_CI κ rg_tC yX9_protest cX9_protest 5 FieldType.int fr1 lo1 [.ref (κ.2.2.2 0), .int (rg_I p1), .int (rg_I p2), .int (rg_I p3), .int (rg_I p4)] σ post) (hR : fr1 + 1 ≤ 11 ∧ 8 + (5 + 11) + lo1 ≤ 200) : rg_HC κ co yL_protest cL_protest 7 [(0, 14, 17, 27), (0, 14, 21, 13), (0, 14, 25, 21), (0, 14, 29, 15)] [.ref (κ.2.2.2 0), .int (rg_I p1), .int (rg_I p2), .int (rg_I p3), .int (rg_I p4), .ref o] σ [o] [rg_eL co o f] (fun k σ9 ws9 => k = 0 ∧ ∃ r, post r σ9 ∧ ws9 = [rg_eL co o (vp_updL f 0 (rg_I r).toInt64)]) := by
  refine rg_entH [(0, .ref (κ.2.2.2 0)), (1, .int (rg_I p1)), (2, .int (rg_I p2)), (3, .int (rg_I p3)), (4, .int (rg_I p4)), (5, .ref o)] rfl (by decide +kernel) (Nat.le_of_ble_eq_true rfl) (fun Γ FH hR9 => ?_)
  have hos : ∀ q ∈ ([rg_eL co o f] : va_W), q.1 ∈ [o] := by
    intro q hq
    rw [List.mem_singleton] at hq
    rw [hq]; exact List.mem_singleton.mpr rfl
  refine rg_Jaload FH.1 5 5 dL_protest_0 rfl ?_
  refine rg_Jiconst FH.1 dL_protest_2 ?_
  refine rg_Jaload_n FH.1 0 0 rfl dL_protest_3 rfl ?_
  refine rg_Jiload_n FH.1 1 1 rfl dL_protest_4 rfl ?_
  refine rg_Jiload_n FH.1 2 2 rfl dL_protest_5 rfl ?_
  refine rg_Jiload_n FH.1 3 3 rfl dL_protest_6 rfl ?_
  refine rg_Jiload FH.1 4 4 dL_protest_7 rfl ?_
  refine rg_HcallI FH.1 FH.2.1 hos ⟨Nat.zero_le _, Nat.zero_le _⟩ [.int (rg_I p1), .int (rg_I p2), .int (rg_I p3), .int (rg_I p4)] [.int (rg_I 0), .ref o] 0 hM tC0 cX9 v_X9_protest i_X9_protest k_ml_L_44 hR rfl (Nat.le_of_ble_eq_true rfl) dL_protest_9 (fun r σ1 hp => ?_)
  refine rg_Ji2l FH.1 dL_protest_12 ?_
  refine rg_Jlast FH dL_protest_13 ?_
  refine rg_Jgoto FH.1 33 dL_protest_14 (by decide) ?_
  refine rg_Jiconst FH.1 dL_protest_33 ?_
  exact hR9 _ _ _ _ _ _ _ (Nat.zero_le _) (Nat.zero_le _) dL_protest_34 ⟨rfl, _, hp, rfl⟩
theorem k_L_protest_1 (κ : rg_K) (co : ClassId × ClassId) {σ : rg_S} {p1 : Int} {p2 : Int} {p3 : Int} {p4 : Int} {o : Nat} {f : Nat → Int64} {fr1 lo1 : Nat} {σ1 : rg_S} (hM : rg_TX κ rg_tC yX9_protest cX9_protest 5 (some FieldType.int) fr1 lo1 [.ref (κ.2.2.2 0), .int (rg_I p1), .int (rg_I p2), .int (rg_I p3), .int (rg_I p4)] σ σ1 "java/lang/IndexOutOfBoundsException") (hR : fr1 + 1 ≤ 11 ∧ 8 + (5 + 11) + lo1 ≤ 200) : rg_HC κ co yL_protest cL_protest 7 [(0, 14, 17, 27), (0, 14, 21, 13), (0, 14, 25, 21), (0, 14, 29, 15)] [.ref (κ.2.2.2 0), .int (rg_I p1), .int (rg_I p2), .int (rg_I p3), .int (rg_I p4), .ref o] σ [o] [rg_eL co o f] (fun k σ9 ws9 => k = 1 ∧ σ9 = σ1 ∧ ws9 = [rg_eL co o f]) := by
  refine rg_entH [(0, .ref (κ.2.2.2 0)), (1, .int (rg_I p1)), (2, .int (rg_I p2)), (3, .int (rg_I p3)), (4, .int (rg_I p4)), (5, .ref o)] rfl (by decide +kernel) (Nat.le_of_ble_eq_true rfl) (fun Γ FH hR9 => ?_)
  have hos : ∀ q ∈ ([rg_eL co o f] : va_W), q.1 ∈ [o] := by
    intro q hq
    rw [List.mem_singleton] at hq
    rw [hq]; exact List.mem_singleton.mpr rfl
  refine rg_Jaload FH.1 5 5 dL_protest_0 rfl ?_
  refine rg_Jiconst FH.1 dL_protest_2 ?_
  refine rg_Jaload_n FH.1 0 0 rfl dL_protest_3 rfl ?_
  refine rg_Jiload_n FH.1 1 1 rfl dL_protest_4 rfl ?_
  refine rg_Jiload_n FH.1 2 2 rfl dL_protest_5 rfl ?_
  refine rg_Jiload_n FH.1 3 3 rfl dL_protest_6 rfl ?_
  refine rg_Jiload FH.1 4 4 dL_protest_7 rfl ?_
  refine rg_HcallX FH.1 FH.2.1 hos ⟨Nat.le_refl 1, Nat.le_refl 6⟩ [.int (rg_I p1), .int (rg_I p2), .int (rg_I p3), .int (rg_I p4)] [.int (rg_I 0), .ref o] 0 hM tC0 cX9 v_X9_protest i_X9_protest k_ml_L_44 hR rfl (Nat.le_of_ble_eq_true rfl) dL_protest_9 [] ⟨0, 14, 17, 27⟩ [⟨0, 14, 21, 13⟩, ⟨0, 14, 25, 21⟩, ⟨0, 14, 29, 15⟩] (FH.2.2.2.2.1.trans rfl) (fun z hz => absurd hz List.not_mem_nil) rfl (by decide) k_cl_L_27 (List.mem_of_getElem? (i := 6) rfl) (fun q9 => ?_)
  refine rg_Jastore FH.1 [(6, .ref q9), (0, .ref (κ.2.2.2 0)), (1, .int (rg_I p1)), (2, .int (rg_I p2)), (3, .int (rg_I p3)), (4, .int (rg_I p4)), (5, .ref o)] dL_protest_17 (by decide) rfl ?_
  refine rg_Jiconst FH.1 dL_protest_19 ?_
  exact hR9 _ _ _ _ _ _ _ (Nat.le_refl 1) (Nat.le_refl 6) dL_protest_20 ⟨rfl, rfl, rfl⟩
theorem k_L_protest_2 (κ : rg_K) (co : ClassId × ClassId) {σ : rg_S} {p1 : Int} {p2 : Int} {p3 : Int} {p4 : Int} {o : Nat} {f : Nat → Int64} {fr1 lo1 : Nat} {σ1 : rg_S} (hM : rg_TX κ rg_tC yX9_protest cX9_protest 5 (some FieldType.int) fr1 lo1 [.ref (κ.2.2.2 0), .int (rg_I p1), .int (rg_I p2), .int (rg_I p3), .int (rg_I p4)] σ σ1 "java/lang/IllegalStateException") (hR : fr1 + 1 ≤ 11 ∧ 8 + (5 + 11) + lo1 ≤ 200) : rg_HC κ co yL_protest cL_protest 7 [(0, 14, 17, 27), (0, 14, 21, 13), (0, 14, 25, 21), (0, 14, 29, 15)] [.ref (κ.2.2.2 0), .int (rg_I p1), .int (rg_I p2), .int (rg_I p3), .int (rg_I p4), .ref o] σ [o] [rg_eL co o f] (fun k σ9 ws9 => k = 2 ∧ σ9 = σ1 ∧ ws9 = [rg_eL co o f]) := by
  refine rg_entH [(0, .ref (κ.2.2.2 0)), (1, .int (rg_I p1)), (2, .int (rg_I p2)), (3, .int (rg_I p3)), (4, .int (rg_I p4)), (5, .ref o)] rfl (by decide +kernel) (Nat.le_of_ble_eq_true rfl) (fun Γ FH hR9 => ?_)
  have hos : ∀ q ∈ ([rg_eL co o f] : va_W), q.1 ∈ [o] := by
    intro q hq
    rw [List.mem_singleton] at hq
    rw [hq]; exact List.mem_singleton.mpr rfl
  refine rg_Jaload FH.1 5 5 dL_protest_0 rfl ?_
  refine rg_Jiconst FH.1 dL_protest_2 ?_
  refine rg_Jaload_n FH.1 0 0 rfl dL_protest_3 rfl ?_
  refine rg_Jiload_n FH.1 1 1 rfl dL_protest_4 rfl ?_
  refine rg_Jiload_n FH.1 2 2 rfl dL_protest_5 rfl ?_
  refine rg_Jiload_n FH.1 3 3 rfl dL_protest_6 rfl ?_
  refine rg_Jiload FH.1 4 4 dL_protest_7 rfl ?_
  refine rg_HcallX FH.1 FH.2.1 hos ⟨Nat.le_refl 1, Nat.le_refl 6⟩ [.int (rg_I p1), .int (rg_I p2), .int (rg_I p3), .int (rg_I p4)] [.int (rg_I 0), .ref o] 0 hM tC0 cX9 v_X9_protest i_X9_protest k_ml_L_44 hR rfl (Nat.le_of_ble_eq_true rfl) dL_protest_9 [⟨0, 14, 17, 27⟩] ⟨0, 14, 21, 13⟩ [⟨0, 14, 25, 21⟩, ⟨0, 14, 29, 15⟩] (FH.2.2.2.2.1.trans rfl) (by
    intro z hz
    simp only [List.mem_cons, List.not_mem_nil, or_false] at hz
    rcases hz with rfl
    · exact Or.inr ⟨by decide, "java/lang/IndexOutOfBoundsException", k_cl_L_27, FH.2.2.2.2.2 ("java/lang/IllegalStateException", "java/lang/IndexOutOfBoundsException") (by decide +kernel)⟩) rfl (by decide) k_cl_L_13 (List.mem_of_getElem? (i := 3) rfl) (fun q9 => ?_)
  refine rg_Jastore FH.1 [(6, .ref q9), (0, .ref (κ.2.2.2 0)), (1, .int (rg_I p1)), (2, .int (rg_I p2)), (3, .int (rg_I p3)), (4, .int (rg_I p4)), (5, .ref o)] dL_protest_21 (by decide) rfl ?_
  refine rg_Jiconst FH.1 dL_protest_23 ?_
  exact hR9 _ _ _ _ _ _ _ (Nat.le_refl 1) (Nat.le_refl 6) dL_protest_24 ⟨rfl, rfl, rfl⟩
theorem k_L_protest_3 (κ : rg_K) (co : ClassId × ClassId) {σ : rg_S} {p1 : Int} {p2 : Int} {p3 : Int} {p4 : Int} {o : Nat} {f : Nat → Int64} {fr1 lo1 : Nat} {σ1 : rg_S} (hM : rg_TX κ rg_tC yX9_protest cX9_protest 5 (some FieldType.int) fr1 lo1 [.ref (κ.2.2.2 0), .int (rg_I p1), .int (rg_I p2), .int (rg_I p3), .int (rg_I p4)] σ σ1 "java/lang/IllegalArgumentException") (hR : fr1 + 1 ≤ 11 ∧ 8 + (5 + 11) + lo1 ≤ 200) : rg_HC κ co yL_protest cL_protest 7 [(0, 14, 17, 27), (0, 14, 21, 13), (0, 14, 25, 21), (0, 14, 29, 15)] [.ref (κ.2.2.2 0), .int (rg_I p1), .int (rg_I p2), .int (rg_I p3), .int (rg_I p4), .ref o] σ [o] [rg_eL co o f] (fun k σ9 ws9 => k = 3 ∧ σ9 = σ1 ∧ ws9 = [rg_eL co o f]) := by
  refine rg_entH [(0, .ref (κ.2.2.2 0)), (1, .int (rg_I p1)), (2, .int (rg_I p2)), (3, .int (rg_I p3)), (4, .int (rg_I p4)), (5, .ref o)] rfl (by decide +kernel) (Nat.le_of_ble_eq_true rfl) (fun Γ FH hR9 => ?_)
  have hos : ∀ q ∈ ([rg_eL co o f] : va_W), q.1 ∈ [o] := by
    intro q hq
    rw [List.mem_singleton] at hq
    rw [hq]; exact List.mem_singleton.mpr rfl
  refine rg_Jaload FH.1 5 5 dL_protest_0 rfl ?_
  refine rg_Jiconst FH.1 dL_protest_2 ?_
  refine rg_Jaload_n FH.1 0 0 rfl dL_protest_3 rfl ?_
  refine rg_Jiload_n FH.1 1 1 rfl dL_protest_4 rfl ?_
  refine rg_Jiload_n FH.1 2 2 rfl dL_protest_5 rfl ?_
  refine rg_Jiload_n FH.1 3 3 rfl dL_protest_6 rfl ?_
  refine rg_Jiload FH.1 4 4 dL_protest_7 rfl ?_
  refine rg_HcallX FH.1 FH.2.1 hos ⟨Nat.le_refl 1, Nat.le_refl 6⟩ [.int (rg_I p1), .int (rg_I p2), .int (rg_I p3), .int (rg_I p4)] [.int (rg_I 0), .ref o] 0 hM tC0 cX9 v_X9_protest i_X9_protest k_ml_L_44 hR rfl (Nat.le_of_ble_eq_true rfl) dL_protest_9 [⟨0, 14, 17, 27⟩, ⟨0, 14, 21, 13⟩] ⟨0, 14, 25, 21⟩ [⟨0, 14, 29, 15⟩] (FH.2.2.2.2.1.trans rfl) (by
    intro z hz
    simp only [List.mem_cons, List.not_mem_nil, or_false] at hz
    rcases hz with rfl | rfl
    · exact Or.inr ⟨by decide, "java/lang/IndexOutOfBoundsException", k_cl_L_27, FH.2.2.2.2.2 ("java/lang/IllegalArgumentException", "java/lang/IndexOutOfBoundsException") (by decide +kernel)⟩
    · exact Or.inr ⟨by decide, "java/lang/IllegalStateException", k_cl_L_13, FH.2.2.2.2.2 ("java/lang/IllegalArgumentException", "java/lang/IllegalStateException") (by decide +kernel)⟩) rfl (by decide) k_cl_L_21 (List.mem_of_getElem? (i := 5) rfl) (fun q9 => ?_)
  refine rg_Jastore FH.1 [(6, .ref q9), (0, .ref (κ.2.2.2 0)), (1, .int (rg_I p1)), (2, .int (rg_I p2)), (3, .int (rg_I p3)), (4, .int (rg_I p4)), (5, .ref o)] dL_protest_25 (by decide) rfl ?_
  refine rg_Jiconst FH.1 dL_protest_27 ?_
  exact hR9 _ _ _ _ _ _ _ (Nat.le_refl 1) (Nat.le_refl 6) dL_protest_28 ⟨rfl, rfl, rfl⟩
theorem k_L_protest_4 (κ : rg_K) (co : ClassId × ClassId) {σ : rg_S} {p1 : Int} {p2 : Int} {p3 : Int} {p4 : Int} {o : Nat} {f : Nat → Int64} {fr1 lo1 : Nat} {σ1 : rg_S} (hM : rg_TX κ rg_tC yX9_protest cX9_protest 5 (some FieldType.int) fr1 lo1 [.ref (κ.2.2.2 0), .int (rg_I p1), .int (rg_I p2), .int (rg_I p3), .int (rg_I p4)] σ σ1 "java/lang/UnsupportedOperationException") (hR : fr1 + 1 ≤ 11 ∧ 8 + (5 + 11) + lo1 ≤ 200) : rg_HC κ co yL_protest cL_protest 7 [(0, 14, 17, 27), (0, 14, 21, 13), (0, 14, 25, 21), (0, 14, 29, 15)] [.ref (κ.2.2.2 0), .int (rg_I p1), .int (rg_I p2), .int (rg_I p3), .int (rg_I p4), .ref o] σ [o] [rg_eL co o f] (fun k σ9 ws9 => k = 4 ∧ σ9 = σ1 ∧ ws9 = [rg_eL co o f]) := by
  refine rg_entH [(0, .ref (κ.2.2.2 0)), (1, .int (rg_I p1)), (2, .int (rg_I p2)), (3, .int (rg_I p3)), (4, .int (rg_I p4)), (5, .ref o)] rfl (by decide +kernel) (Nat.le_of_ble_eq_true rfl) (fun Γ FH hR9 => ?_)
  have hos : ∀ q ∈ ([rg_eL co o f] : va_W), q.1 ∈ [o] := by
    intro q hq
    rw [List.mem_singleton] at hq
    rw [hq]; exact List.mem_singleton.mpr rfl
  refine rg_Jaload FH.1 5 5 dL_protest_0 rfl ?_
  refine rg_Jiconst FH.1 dL_protest_2 ?_
  refine rg_Jaload_n FH.1 0 0 rfl dL_protest_3 rfl ?_
  refine rg_Jiload_n FH.1 1 1 rfl dL_protest_4 rfl ?_
  refine rg_Jiload_n FH.1 2 2 rfl dL_protest_5 rfl ?_
  refine rg_Jiload_n FH.1 3 3 rfl dL_protest_6 rfl ?_
  refine rg_Jiload FH.1 4 4 dL_protest_7 rfl ?_
  refine rg_HcallX FH.1 FH.2.1 hos ⟨Nat.le_refl 1, Nat.le_refl 6⟩ [.int (rg_I p1), .int (rg_I p2), .int (rg_I p3), .int (rg_I p4)] [.int (rg_I 0), .ref o] 0 hM tC0 cX9 v_X9_protest i_X9_protest k_ml_L_44 hR rfl (Nat.le_of_ble_eq_true rfl) dL_protest_9 [⟨0, 14, 17, 27⟩, ⟨0, 14, 21, 13⟩, ⟨0, 14, 25, 21⟩] ⟨0, 14, 29, 15⟩ [] (FH.2.2.2.2.1.trans rfl) (by
    intro z hz
    simp only [List.mem_cons, List.not_mem_nil, or_false] at hz
    rcases hz with rfl | rfl | rfl
    · exact Or.inr ⟨by decide, "java/lang/IndexOutOfBoundsException", k_cl_L_27, FH.2.2.2.2.2 ("java/lang/UnsupportedOperationException", "java/lang/IndexOutOfBoundsException") (by decide +kernel)⟩
    · exact Or.inr ⟨by decide, "java/lang/IllegalStateException", k_cl_L_13, FH.2.2.2.2.2 ("java/lang/UnsupportedOperationException", "java/lang/IllegalStateException") (by decide +kernel)⟩
    · exact Or.inr ⟨by decide, "java/lang/IllegalArgumentException", k_cl_L_21, FH.2.2.2.2.2 ("java/lang/UnsupportedOperationException", "java/lang/IllegalArgumentException") (by decide +kernel)⟩) rfl (by decide) k_cl_L_15 (List.mem_of_getElem? (i := 4) rfl) (fun q9 => ?_)
  refine rg_Jastore FH.1 [(6, .ref q9), (0, .ref (κ.2.2.2 0)), (1, .int (rg_I p1)), (2, .int (rg_I p2)), (3, .int (rg_I p3)), (4, .int (rg_I p4)), (5, .ref o)] dL_protest_29 (by decide) rfl ?_
  refine rg_Jiconst FH.1 dL_protest_31 ?_
  exact hR9 _ _ _ _ _ _ _ (Nat.le_refl 1) (Nat.le_refl 6) dL_protest_32 ⟨rfl, rfl, rfl⟩
theorem k_L_reopen_o (κ : rg_K) (co : ClassId × ClassId) {σ : rg_S} {p1 : Int} {fr1 lo1 : Nat} {post : rg_S → Prop} (hM : rg_CV κ rg_tC yX9_reopen cX9_reopen 2 fr1 lo1 [.ref (κ.2.2.2 0), .int (rg_I p1)] σ post) (hR : fr1 + 1 ≤ 11 ∧ 8 + (2 + 11) + lo1 ≤ 200) : rg_HC κ co yL_reopen cL_reopen 3 [(0, 5, 8, 27), (0, 5, 11, 13)] [.ref (κ.2.2.2 0), .int (rg_I p1)] σ [] [] (fun k σ9 ws9 => k = 0 ∧ post σ9 ∧ ws9 = []) := by
  refine rg_entH [(0, .ref (κ.2.2.2 0)), (1, .int (rg_I p1))] rfl (by decide +kernel) (Nat.le_of_ble_eq_true rfl) (fun Γ FH hR9 => ?_)
  have hos : ∀ q ∈ ([] : va_W), q.1 ∈ ([] : List Nat) := fun q hq => absurd hq List.not_mem_nil
  refine rg_Jaload_n FH.1 0 0 rfl dL_reopen_0 rfl ?_
  refine rg_Jiload_n FH.1 1 1 rfl dL_reopen_1 rfl ?_
  refine rg_HcallV FH.1 FH.2.1 hos ⟨Nat.zero_le _, Nat.zero_le _⟩ [.int (rg_I p1)] [] 0 hM tC0 cX9 v_X9_reopen i_X9_reopen k_ml_L_48 hR rfl (Nat.le_of_ble_eq_true rfl) dL_reopen_2 (fun σ1 hp => ?_)
  refine rg_Jgoto FH.1 14 dL_reopen_5 (by decide) ?_
  refine rg_Jiconst FH.1 dL_reopen_14 ?_
  exact hR9 _ _ _ _ _ _ _ (Nat.zero_le _) (Nat.zero_le _) dL_reopen_15 ⟨rfl, hp, rfl⟩
theorem k_L_reopen_1 (κ : rg_K) (co : ClassId × ClassId) {σ : rg_S} {p1 : Int} {fr1 lo1 : Nat} {σ1 : rg_S} (hM : rg_TX κ rg_tC yX9_reopen cX9_reopen 2 none fr1 lo1 [.ref (κ.2.2.2 0), .int (rg_I p1)] σ σ1 "java/lang/IndexOutOfBoundsException") (hR : fr1 + 1 ≤ 11 ∧ 8 + (2 + 11) + lo1 ≤ 200) : rg_HC κ co yL_reopen cL_reopen 3 [(0, 5, 8, 27), (0, 5, 11, 13)] [.ref (κ.2.2.2 0), .int (rg_I p1)] σ [] [] (fun k σ9 ws9 => k = 1 ∧ σ9 = σ1 ∧ ws9 = []) := by
  refine rg_entH [(0, .ref (κ.2.2.2 0)), (1, .int (rg_I p1))] rfl (by decide +kernel) (Nat.le_of_ble_eq_true rfl) (fun Γ FH hR9 => ?_)
  have hos : ∀ q ∈ ([] : va_W), q.1 ∈ ([] : List Nat) := fun q hq => absurd hq List.not_mem_nil
  refine rg_Jaload_n FH.1 0 0 rfl dL_reopen_0 rfl ?_
  refine rg_Jiload_n FH.1 1 1 rfl dL_reopen_1 rfl ?_
  refine rg_HcallX FH.1 FH.2.1 hos ⟨Nat.le_refl 1, Nat.le_refl 6⟩ [.int (rg_I p1)] [] 0 hM tC0 cX9 v_X9_reopen i_X9_reopen k_ml_L_48 hR rfl (Nat.le_of_ble_eq_true rfl) dL_reopen_2 [] ⟨0, 5, 8, 27⟩ [⟨0, 5, 11, 13⟩] (FH.2.2.2.2.1.trans rfl) (fun z hz => absurd hz List.not_mem_nil) rfl (by decide) k_cl_L_27 (List.mem_of_getElem? (i := 6) rfl) (fun q9 => ?_)
  refine rg_Jastore_n FH.1 [(2, .ref q9), (0, .ref (κ.2.2.2 0)), (1, .int (rg_I p1))] dL_reopen_8 rfl (by decide) rfl ?_
  refine rg_Jiconst FH.1 dL_reopen_9 ?_
  exact hR9 _ _ _ _ _ _ _ (Nat.le_refl 1) (Nat.le_refl 6) dL_reopen_10 ⟨rfl, rfl, rfl⟩
theorem k_L_reopen_2 (κ : rg_K) (co : ClassId × ClassId) {σ : rg_S} {p1 : Int} {fr1 lo1 : Nat} {σ1 : rg_S} (hM : rg_TX κ rg_tC yX9_reopen cX9_reopen 2 none fr1 lo1 [.ref (κ.2.2.2 0), .int (rg_I p1)] σ σ1 "java/lang/IllegalStateException") (hR : fr1 + 1 ≤ 11 ∧ 8 + (2 + 11) + lo1 ≤ 200) : rg_HC κ co yL_reopen cL_reopen 3 [(0, 5, 8, 27), (0, 5, 11, 13)] [.ref (κ.2.2.2 0), .int (rg_I p1)] σ [] [] (fun k σ9 ws9 => k = 2 ∧ σ9 = σ1 ∧ ws9 = []) := by
  refine rg_entH [(0, .ref (κ.2.2.2 0)), (1, .int (rg_I p1))] rfl (by decide +kernel) (Nat.le_of_ble_eq_true rfl) (fun Γ FH hR9 => ?_)
  have hos : ∀ q ∈ ([] : va_W), q.1 ∈ ([] : List Nat) := fun q hq => absurd hq List.not_mem_nil
  refine rg_Jaload_n FH.1 0 0 rfl dL_reopen_0 rfl ?_
  refine rg_Jiload_n FH.1 1 1 rfl dL_reopen_1 rfl ?_
  refine rg_HcallX FH.1 FH.2.1 hos ⟨Nat.le_refl 1, Nat.le_refl 6⟩ [.int (rg_I p1)] [] 0 hM tC0 cX9 v_X9_reopen i_X9_reopen k_ml_L_48 hR rfl (Nat.le_of_ble_eq_true rfl) dL_reopen_2 [⟨0, 5, 8, 27⟩] ⟨0, 5, 11, 13⟩ [] (FH.2.2.2.2.1.trans rfl) (by
    intro z hz
    simp only [List.mem_cons, List.not_mem_nil, or_false] at hz
    rcases hz with rfl
    · exact Or.inr ⟨by decide, "java/lang/IndexOutOfBoundsException", k_cl_L_27, FH.2.2.2.2.2 ("java/lang/IllegalStateException", "java/lang/IndexOutOfBoundsException") (by decide +kernel)⟩) rfl (by decide) k_cl_L_13 (List.mem_of_getElem? (i := 3) rfl) (fun q9 => ?_)
  refine rg_Jastore_n FH.1 [(2, .ref q9), (0, .ref (κ.2.2.2 0)), (1, .int (rg_I p1))] dL_reopen_11 rfl (by decide) rfl ?_
  refine rg_Jiconst FH.1 dL_reopen_12 ?_
  exact hR9 _ _ _ _ _ _ _ (Nat.le_refl 1) (Nat.le_refl 6) dL_reopen_13 ⟨rfl, rfl, rfl⟩
theorem k_L_discards_o (κ : rg_K) (co : ClassId × ClassId) {σ : rg_S} {p1 : Int} {p2 : Int} {fr1 lo1 : Nat} {post : rg_S → Prop} (hM : rg_CV κ rg_tC yX9_discards cX9_discards 3 fr1 lo1 [.ref (κ.2.2.2 0), .int (rg_I p1), .int (rg_I p2)] σ post) (hR : fr1 + 1 ≤ 11 ∧ 8 + (3 + 11) + lo1 ≤ 200) : rg_HC κ co yL_discards cL_discards 4 [(0, 6, 9, 21), (0, 6, 12, 15)] [.ref (κ.2.2.2 0), .int (rg_I p1), .int (rg_I p2)] σ [] [] (fun k σ9 ws9 => k = 0 ∧ post σ9 ∧ ws9 = []) := by
  refine rg_entH [(0, .ref (κ.2.2.2 0)), (1, .int (rg_I p1)), (2, .int (rg_I p2))] rfl (by decide +kernel) (Nat.le_of_ble_eq_true rfl) (fun Γ FH hR9 => ?_)
  have hos : ∀ q ∈ ([] : va_W), q.1 ∈ ([] : List Nat) := fun q hq => absurd hq List.not_mem_nil
  refine rg_Jaload_n FH.1 0 0 rfl dL_discards_0 rfl ?_
  refine rg_Jiload_n FH.1 1 1 rfl dL_discards_1 rfl ?_
  refine rg_Jiload_n FH.1 2 2 rfl dL_discards_2 rfl ?_
  refine rg_HcallV FH.1 FH.2.1 hos ⟨Nat.zero_le _, Nat.zero_le _⟩ [.int (rg_I p1), .int (rg_I p2)] [] 0 hM tC0 cX9 v_X9_discards i_X9_discards k_ml_L_52 hR rfl (Nat.le_of_ble_eq_true rfl) dL_discards_3 (fun σ1 hp => ?_)
  refine rg_Jgoto FH.1 15 dL_discards_6 (by decide) ?_
  refine rg_Jiconst FH.1 dL_discards_15 ?_
  exact hR9 _ _ _ _ _ _ _ (Nat.zero_le _) (Nat.zero_le _) dL_discards_16 ⟨rfl, hp, rfl⟩
theorem k_L_discards_1 (κ : rg_K) (co : ClassId × ClassId) {σ : rg_S} {p1 : Int} {p2 : Int} {fr1 lo1 : Nat} {σ1 : rg_S} (hM : rg_TX κ rg_tC yX9_discards cX9_discards 3 none fr1 lo1 [.ref (κ.2.2.2 0), .int (rg_I p1), .int (rg_I p2)] σ σ1 "java/lang/IllegalArgumentException") (hR : fr1 + 1 ≤ 11 ∧ 8 + (3 + 11) + lo1 ≤ 200) : rg_HC κ co yL_discards cL_discards 4 [(0, 6, 9, 21), (0, 6, 12, 15)] [.ref (κ.2.2.2 0), .int (rg_I p1), .int (rg_I p2)] σ [] [] (fun k σ9 ws9 => k = 1 ∧ σ9 = σ1 ∧ ws9 = []) := by
  refine rg_entH [(0, .ref (κ.2.2.2 0)), (1, .int (rg_I p1)), (2, .int (rg_I p2))] rfl (by decide +kernel) (Nat.le_of_ble_eq_true rfl) (fun Γ FH hR9 => ?_)
  have hos : ∀ q ∈ ([] : va_W), q.1 ∈ ([] : List Nat) := fun q hq => absurd hq List.not_mem_nil
  refine rg_Jaload_n FH.1 0 0 rfl dL_discards_0 rfl ?_
  refine rg_Jiload_n FH.1 1 1 rfl dL_discards_1 rfl ?_
  refine rg_Jiload_n FH.1 2 2 rfl dL_discards_2 rfl ?_
  refine rg_HcallX FH.1 FH.2.1 hos ⟨Nat.le_refl 1, Nat.le_refl 6⟩ [.int (rg_I p1), .int (rg_I p2)] [] 0 hM tC0 cX9 v_X9_discards i_X9_discards k_ml_L_52 hR rfl (Nat.le_of_ble_eq_true rfl) dL_discards_3 [] ⟨0, 6, 9, 21⟩ [⟨0, 6, 12, 15⟩] (FH.2.2.2.2.1.trans rfl) (fun z hz => absurd hz List.not_mem_nil) rfl (by decide) k_cl_L_21 (List.mem_of_getElem? (i := 5) rfl) (fun q9 => ?_)
  refine rg_Jastore_n FH.1 [(3, .ref q9), (0, .ref (κ.2.2.2 0)), (1, .int (rg_I p1)), (2, .int (rg_I p2))] dL_discards_9 rfl (by decide) rfl ?_
  refine rg_Jiconst FH.1 dL_discards_10 ?_
  exact hR9 _ _ _ _ _ _ _ (Nat.le_refl 1) (Nat.le_refl 6) dL_discards_11 ⟨rfl, rfl, rfl⟩
theorem k_L_discards_2 (κ : rg_K) (co : ClassId × ClassId) {σ : rg_S} {p1 : Int} {p2 : Int} {fr1 lo1 : Nat} {σ1 : rg_S} (hM : rg_TX κ rg_tC yX9_discards cX9_discards 3 none fr1 lo1 [.ref (κ.2.2.2 0), .int (rg_I p1), .int (rg_I p2)] σ σ1 "java/lang/UnsupportedOperationException") (hR : fr1 + 1 ≤ 11 ∧ 8 + (3 + 11) + lo1 ≤ 200) : rg_HC κ co yL_discards cL_discards 4 [(0, 6, 9, 21), (0, 6, 12, 15)] [.ref (κ.2.2.2 0), .int (rg_I p1), .int (rg_I p2)] σ [] [] (fun k σ9 ws9 => k = 2 ∧ σ9 = σ1 ∧ ws9 = []) := by
  refine rg_entH [(0, .ref (κ.2.2.2 0)), (1, .int (rg_I p1)), (2, .int (rg_I p2))] rfl (by decide +kernel) (Nat.le_of_ble_eq_true rfl) (fun Γ FH hR9 => ?_)
  have hos : ∀ q ∈ ([] : va_W), q.1 ∈ ([] : List Nat) := fun q hq => absurd hq List.not_mem_nil
  refine rg_Jaload_n FH.1 0 0 rfl dL_discards_0 rfl ?_
  refine rg_Jiload_n FH.1 1 1 rfl dL_discards_1 rfl ?_
  refine rg_Jiload_n FH.1 2 2 rfl dL_discards_2 rfl ?_
  refine rg_HcallX FH.1 FH.2.1 hos ⟨Nat.le_refl 1, Nat.le_refl 6⟩ [.int (rg_I p1), .int (rg_I p2)] [] 0 hM tC0 cX9 v_X9_discards i_X9_discards k_ml_L_52 hR rfl (Nat.le_of_ble_eq_true rfl) dL_discards_3 [⟨0, 6, 9, 21⟩] ⟨0, 6, 12, 15⟩ [] (FH.2.2.2.2.1.trans rfl) (by
    intro z hz
    simp only [List.mem_cons, List.not_mem_nil, or_false] at hz
    rcases hz with rfl
    · exact Or.inr ⟨by decide, "java/lang/IllegalArgumentException", k_cl_L_21, FH.2.2.2.2.2 ("java/lang/UnsupportedOperationException", "java/lang/IllegalArgumentException") (by decide +kernel)⟩) rfl (by decide) k_cl_L_15 (List.mem_of_getElem? (i := 4) rfl) (fun q9 => ?_)
  refine rg_Jastore_n FH.1 [(3, .ref q9), (0, .ref (κ.2.2.2 0)), (1, .int (rg_I p1)), (2, .int (rg_I p2))] dL_discards_12 rfl (by decide) rfl ?_
  refine rg_Jiconst FH.1 dL_discards_13 ?_
  exact hR9 _ _ _ _ _ _ _ (Nat.le_refl 1) (Nat.le_refl 6) dL_discards_14 ⟨rfl, rfl, rfl⟩
theorem k_L_lot_o (κ : rg_K) (co : ClassId × ClassId) {σ : rg_S} {p1 : Int} {p2 : Int} {o : Nat} {f : Nat → Int64} {fr1 lo1 : Nat} {post : Int → rg_S → Prop} (hM : rg_CI κ rg_tC yX9_lot cX9_lot 4 FieldType.int fr1 lo1 [.ref (κ.2.2.2 0), .int (rg_I p1), .int (rg_I p2)] σ post) (hR : fr1 + 1 ≤ 11 ∧ 8 + (4 + 11) + lo1 ≤ 200) : rg_HC κ co yL_lot cL_lot 5 [(0, 10, 13, 27), (0, 10, 17, 21)] [.ref (κ.2.2.2 0), .int (rg_I p1), .int (rg_I p2), .ref o] σ [o] [rg_eL co o f] (fun k σ9 ws9 => k = 0 ∧ ∃ r, post r σ9 ∧ ws9 = [rg_eL co o (vp_updL f 0 (rg_I r).toInt64)]) := by
  refine rg_entH [(0, .ref (κ.2.2.2 0)), (1, .int (rg_I p1)), (2, .int (rg_I p2)), (3, .ref o)] rfl (by decide +kernel) (Nat.le_of_ble_eq_true rfl) (fun Γ FH hR9 => ?_)
  have hos : ∀ q ∈ ([rg_eL co o f] : va_W), q.1 ∈ [o] := by
    intro q hq
    rw [List.mem_singleton] at hq
    rw [hq]; exact List.mem_singleton.mpr rfl
  refine rg_Jaload_n FH.1 3 3 rfl dL_lot_0 rfl ?_
  refine rg_Jiconst FH.1 dL_lot_1 ?_
  refine rg_Jaload_n FH.1 0 0 rfl dL_lot_2 rfl ?_
  refine rg_Jiload_n FH.1 1 1 rfl dL_lot_3 rfl ?_
  refine rg_Jiload_n FH.1 2 2 rfl dL_lot_4 rfl ?_
  refine rg_HcallI FH.1 FH.2.1 hos ⟨Nat.zero_le _, Nat.zero_le _⟩ [.int (rg_I p1), .int (rg_I p2)] [.int (rg_I 0), .ref o] 0 hM tC0 cX9 v_X9_lot i_X9_lot k_ml_L_56 hR rfl (Nat.le_of_ble_eq_true rfl) dL_lot_5 (fun r σ1 hp => ?_)
  refine rg_Ji2l FH.1 dL_lot_8 ?_
  refine rg_Jlast FH dL_lot_9 ?_
  refine rg_Jgoto FH.1 21 dL_lot_10 (by decide) ?_
  refine rg_Jiconst FH.1 dL_lot_21 ?_
  exact hR9 _ _ _ _ _ _ _ (Nat.zero_le _) (Nat.zero_le _) dL_lot_22 ⟨rfl, _, hp, rfl⟩
theorem k_L_lot_1 (κ : rg_K) (co : ClassId × ClassId) {σ : rg_S} {p1 : Int} {p2 : Int} {o : Nat} {f : Nat → Int64} {fr1 lo1 : Nat} {σ1 : rg_S} (hM : rg_TX κ rg_tC yX9_lot cX9_lot 4 (some FieldType.int) fr1 lo1 [.ref (κ.2.2.2 0), .int (rg_I p1), .int (rg_I p2)] σ σ1 "java/lang/IndexOutOfBoundsException") (hR : fr1 + 1 ≤ 11 ∧ 8 + (4 + 11) + lo1 ≤ 200) : rg_HC κ co yL_lot cL_lot 5 [(0, 10, 13, 27), (0, 10, 17, 21)] [.ref (κ.2.2.2 0), .int (rg_I p1), .int (rg_I p2), .ref o] σ [o] [rg_eL co o f] (fun k σ9 ws9 => k = 1 ∧ σ9 = σ1 ∧ ws9 = [rg_eL co o f]) := by
  refine rg_entH [(0, .ref (κ.2.2.2 0)), (1, .int (rg_I p1)), (2, .int (rg_I p2)), (3, .ref o)] rfl (by decide +kernel) (Nat.le_of_ble_eq_true rfl) (fun Γ FH hR9 => ?_)
  have hos : ∀ q ∈ ([rg_eL co o f] : va_W), q.1 ∈ [o] := by
    intro q hq
    rw [List.mem_singleton] at hq
    rw [hq]; exact List.mem_singleton.mpr rfl
  refine rg_Jaload_n FH.1 3 3 rfl dL_lot_0 rfl ?_
  refine rg_Jiconst FH.1 dL_lot_1 ?_
  refine rg_Jaload_n FH.1 0 0 rfl dL_lot_2 rfl ?_
  refine rg_Jiload_n FH.1 1 1 rfl dL_lot_3 rfl ?_
  refine rg_Jiload_n FH.1 2 2 rfl dL_lot_4 rfl ?_
  refine rg_HcallX FH.1 FH.2.1 hos ⟨Nat.le_refl 1, Nat.le_refl 6⟩ [.int (rg_I p1), .int (rg_I p2)] [.int (rg_I 0), .ref o] 0 hM tC0 cX9 v_X9_lot i_X9_lot k_ml_L_56 hR rfl (Nat.le_of_ble_eq_true rfl) dL_lot_5 [] ⟨0, 10, 13, 27⟩ [⟨0, 10, 17, 21⟩] (FH.2.2.2.2.1.trans rfl) (fun z hz => absurd hz List.not_mem_nil) rfl (by decide) k_cl_L_27 (List.mem_of_getElem? (i := 6) rfl) (fun q9 => ?_)
  refine rg_Jastore FH.1 [(4, .ref q9), (0, .ref (κ.2.2.2 0)), (1, .int (rg_I p1)), (2, .int (rg_I p2)), (3, .ref o)] dL_lot_13 (by decide) rfl ?_
  refine rg_Jiconst FH.1 dL_lot_15 ?_
  exact hR9 _ _ _ _ _ _ _ (Nat.le_refl 1) (Nat.le_refl 6) dL_lot_16 ⟨rfl, rfl, rfl⟩
theorem k_L_lot_2 (κ : rg_K) (co : ClassId × ClassId) {σ : rg_S} {p1 : Int} {p2 : Int} {o : Nat} {f : Nat → Int64} {fr1 lo1 : Nat} {σ1 : rg_S} (hM : rg_TX κ rg_tC yX9_lot cX9_lot 4 (some FieldType.int) fr1 lo1 [.ref (κ.2.2.2 0), .int (rg_I p1), .int (rg_I p2)] σ σ1 "java/lang/IllegalArgumentException") (hR : fr1 + 1 ≤ 11 ∧ 8 + (4 + 11) + lo1 ≤ 200) : rg_HC κ co yL_lot cL_lot 5 [(0, 10, 13, 27), (0, 10, 17, 21)] [.ref (κ.2.2.2 0), .int (rg_I p1), .int (rg_I p2), .ref o] σ [o] [rg_eL co o f] (fun k σ9 ws9 => k = 2 ∧ σ9 = σ1 ∧ ws9 = [rg_eL co o f]) := by
  refine rg_entH [(0, .ref (κ.2.2.2 0)), (1, .int (rg_I p1)), (2, .int (rg_I p2)), (3, .ref o)] rfl (by decide +kernel) (Nat.le_of_ble_eq_true rfl) (fun Γ FH hR9 => ?_)
  have hos : ∀ q ∈ ([rg_eL co o f] : va_W), q.1 ∈ [o] := by
    intro q hq
    rw [List.mem_singleton] at hq
    rw [hq]; exact List.mem_singleton.mpr rfl
  refine rg_Jaload_n FH.1 3 3 rfl dL_lot_0 rfl ?_
  refine rg_Jiconst FH.1 dL_lot_1 ?_
  refine rg_Jaload_n FH.1 0 0 rfl dL_lot_2 rfl ?_
  refine rg_Jiload_n FH.1 1 1 rfl dL_lot_3 rfl ?_
  refine rg_Jiload_n FH.1 2 2 rfl dL_lot_4 rfl ?_
  refine rg_HcallX FH.1 FH.2.1 hos ⟨Nat.le_refl 1, Nat.le_refl 6⟩ [.int (rg_I p1), .int (rg_I p2)] [.int (rg_I 0), .ref o] 0 hM tC0 cX9 v_X9_lot i_X9_lot k_ml_L_56 hR rfl (Nat.le_of_ble_eq_true rfl) dL_lot_5 [⟨0, 10, 13, 27⟩] ⟨0, 10, 17, 21⟩ [] (FH.2.2.2.2.1.trans rfl) (by
    intro z hz
    simp only [List.mem_cons, List.not_mem_nil, or_false] at hz
    rcases hz with rfl
    · exact Or.inr ⟨by decide, "java/lang/IndexOutOfBoundsException", k_cl_L_27, FH.2.2.2.2.2 ("java/lang/IllegalArgumentException", "java/lang/IndexOutOfBoundsException") (by decide +kernel)⟩) rfl (by decide) k_cl_L_21 (List.mem_of_getElem? (i := 5) rfl) (fun q9 => ?_)
  refine rg_Jastore FH.1 [(4, .ref q9), (0, .ref (κ.2.2.2 0)), (1, .int (rg_I p1)), (2, .int (rg_I p2)), (3, .ref o)] dL_lot_17 (by decide) rfl ?_
  refine rg_Jiconst FH.1 dL_lot_19 ?_
  exact hR9 _ _ _ _ _ _ _ (Nat.le_refl 1) (Nat.le_refl 6) dL_lot_20 ⟨rfl, rfl, rfl⟩
theorem k_L_split_o (κ : rg_K) (co : ClassId × ClassId) {σ : rg_S} {p1 : Int} {p2 : Int} {o : Nat} {f : Nat → Int64} {fr1 lo1 : Nat} {post : Int → rg_S → Prop} (hM : rg_CI κ rg_tC yX9_split cX9_split 4 FieldType.int fr1 lo1 [.ref (κ.2.2.2 0), .int (rg_I p1), .int (rg_I p2)] σ post) (hR : fr1 + 1 ≤ 11 ∧ 8 + (4 + 11) + lo1 ≤ 200) : rg_HC κ co yL_split cL_split 5 [(0, 10, 13, 13), (0, 10, 17, 21)] [.ref (κ.2.2.2 0), .int (rg_I p1), .int (rg_I p2), .ref o] σ [o] [rg_eL co o f] (fun k σ9 ws9 => k = 0 ∧ ∃ r, post r σ9 ∧ ws9 = [rg_eL co o (vp_updL f 0 (rg_I r).toInt64)]) := by
  refine rg_entH [(0, .ref (κ.2.2.2 0)), (1, .int (rg_I p1)), (2, .int (rg_I p2)), (3, .ref o)] rfl (by decide +kernel) (Nat.le_of_ble_eq_true rfl) (fun Γ FH hR9 => ?_)
  have hos : ∀ q ∈ ([rg_eL co o f] : va_W), q.1 ∈ [o] := by
    intro q hq
    rw [List.mem_singleton] at hq
    rw [hq]; exact List.mem_singleton.mpr rfl
  refine rg_Jaload_n FH.1 3 3 rfl dL_split_0 rfl ?_
  refine rg_Jiconst FH.1 dL_split_1 ?_
  refine rg_Jaload_n FH.1 0 0 rfl dL_split_2 rfl ?_
  refine rg_Jiload_n FH.1 1 1 rfl dL_split_3 rfl ?_
  refine rg_Jiload_n FH.1 2 2 rfl dL_split_4 rfl ?_
  refine rg_HcallI FH.1 FH.2.1 hos ⟨Nat.zero_le _, Nat.zero_le _⟩ [.int (rg_I p1), .int (rg_I p2)] [.int (rg_I 0), .ref o] 0 hM tC0 cX9 v_X9_split i_X9_split k_ml_L_59 hR rfl (Nat.le_of_ble_eq_true rfl) dL_split_5 (fun r σ1 hp => ?_)
  refine rg_Ji2l FH.1 dL_split_8 ?_
  refine rg_Jlast FH dL_split_9 ?_
  refine rg_Jgoto FH.1 21 dL_split_10 (by decide) ?_
  refine rg_Jiconst FH.1 dL_split_21 ?_
  exact hR9 _ _ _ _ _ _ _ (Nat.zero_le _) (Nat.zero_le _) dL_split_22 ⟨rfl, _, hp, rfl⟩
theorem k_L_split_1 (κ : rg_K) (co : ClassId × ClassId) {σ : rg_S} {p1 : Int} {p2 : Int} {o : Nat} {f : Nat → Int64} {fr1 lo1 : Nat} {σ1 : rg_S} (hM : rg_TX κ rg_tC yX9_split cX9_split 4 (some FieldType.int) fr1 lo1 [.ref (κ.2.2.2 0), .int (rg_I p1), .int (rg_I p2)] σ σ1 "java/lang/IllegalStateException") (hR : fr1 + 1 ≤ 11 ∧ 8 + (4 + 11) + lo1 ≤ 200) : rg_HC κ co yL_split cL_split 5 [(0, 10, 13, 13), (0, 10, 17, 21)] [.ref (κ.2.2.2 0), .int (rg_I p1), .int (rg_I p2), .ref o] σ [o] [rg_eL co o f] (fun k σ9 ws9 => k = 1 ∧ σ9 = σ1 ∧ ws9 = [rg_eL co o f]) := by
  refine rg_entH [(0, .ref (κ.2.2.2 0)), (1, .int (rg_I p1)), (2, .int (rg_I p2)), (3, .ref o)] rfl (by decide +kernel) (Nat.le_of_ble_eq_true rfl) (fun Γ FH hR9 => ?_)
  have hos : ∀ q ∈ ([rg_eL co o f] : va_W), q.1 ∈ [o] := by
    intro q hq
    rw [List.mem_singleton] at hq
    rw [hq]; exact List.mem_singleton.mpr rfl
  refine rg_Jaload_n FH.1 3 3 rfl dL_split_0 rfl ?_
  refine rg_Jiconst FH.1 dL_split_1 ?_
  refine rg_Jaload_n FH.1 0 0 rfl dL_split_2 rfl ?_
  refine rg_Jiload_n FH.1 1 1 rfl dL_split_3 rfl ?_
  refine rg_Jiload_n FH.1 2 2 rfl dL_split_4 rfl ?_
  refine rg_HcallX FH.1 FH.2.1 hos ⟨Nat.le_refl 1, Nat.le_refl 6⟩ [.int (rg_I p1), .int (rg_I p2)] [.int (rg_I 0), .ref o] 0 hM tC0 cX9 v_X9_split i_X9_split k_ml_L_59 hR rfl (Nat.le_of_ble_eq_true rfl) dL_split_5 [] ⟨0, 10, 13, 13⟩ [⟨0, 10, 17, 21⟩] (FH.2.2.2.2.1.trans rfl) (fun z hz => absurd hz List.not_mem_nil) rfl (by decide) k_cl_L_13 (List.mem_of_getElem? (i := 3) rfl) (fun q9 => ?_)
  refine rg_Jastore FH.1 [(4, .ref q9), (0, .ref (κ.2.2.2 0)), (1, .int (rg_I p1)), (2, .int (rg_I p2)), (3, .ref o)] dL_split_13 (by decide) rfl ?_
  refine rg_Jiconst FH.1 dL_split_15 ?_
  exact hR9 _ _ _ _ _ _ _ (Nat.le_refl 1) (Nat.le_refl 6) dL_split_16 ⟨rfl, rfl, rfl⟩
theorem k_L_split_2 (κ : rg_K) (co : ClassId × ClassId) {σ : rg_S} {p1 : Int} {p2 : Int} {o : Nat} {f : Nat → Int64} {fr1 lo1 : Nat} {σ1 : rg_S} (hM : rg_TX κ rg_tC yX9_split cX9_split 4 (some FieldType.int) fr1 lo1 [.ref (κ.2.2.2 0), .int (rg_I p1), .int (rg_I p2)] σ σ1 "java/lang/IllegalArgumentException") (hR : fr1 + 1 ≤ 11 ∧ 8 + (4 + 11) + lo1 ≤ 200) : rg_HC κ co yL_split cL_split 5 [(0, 10, 13, 13), (0, 10, 17, 21)] [.ref (κ.2.2.2 0), .int (rg_I p1), .int (rg_I p2), .ref o] σ [o] [rg_eL co o f] (fun k σ9 ws9 => k = 2 ∧ σ9 = σ1 ∧ ws9 = [rg_eL co o f]) := by
  refine rg_entH [(0, .ref (κ.2.2.2 0)), (1, .int (rg_I p1)), (2, .int (rg_I p2)), (3, .ref o)] rfl (by decide +kernel) (Nat.le_of_ble_eq_true rfl) (fun Γ FH hR9 => ?_)
  have hos : ∀ q ∈ ([rg_eL co o f] : va_W), q.1 ∈ [o] := by
    intro q hq
    rw [List.mem_singleton] at hq
    rw [hq]; exact List.mem_singleton.mpr rfl
  refine rg_Jaload_n FH.1 3 3 rfl dL_split_0 rfl ?_
  refine rg_Jiconst FH.1 dL_split_1 ?_
  refine rg_Jaload_n FH.1 0 0 rfl dL_split_2 rfl ?_
  refine rg_Jiload_n FH.1 1 1 rfl dL_split_3 rfl ?_
  refine rg_Jiload_n FH.1 2 2 rfl dL_split_4 rfl ?_
  refine rg_HcallX FH.1 FH.2.1 hos ⟨Nat.le_refl 1, Nat.le_refl 6⟩ [.int (rg_I p1), .int (rg_I p2)] [.int (rg_I 0), .ref o] 0 hM tC0 cX9 v_X9_split i_X9_split k_ml_L_59 hR rfl (Nat.le_of_ble_eq_true rfl) dL_split_5 [⟨0, 10, 13, 13⟩] ⟨0, 10, 17, 21⟩ [] (FH.2.2.2.2.1.trans rfl) (by
    intro z hz
    simp only [List.mem_cons, List.not_mem_nil, or_false] at hz
    rcases hz with rfl
    · exact Or.inr ⟨by decide, "java/lang/IllegalStateException", k_cl_L_13, FH.2.2.2.2.2 ("java/lang/IllegalArgumentException", "java/lang/IllegalStateException") (by decide +kernel)⟩) rfl (by decide) k_cl_L_21 (List.mem_of_getElem? (i := 5) rfl) (fun q9 => ?_)
  refine rg_Jastore FH.1 [(4, .ref q9), (0, .ref (κ.2.2.2 0)), (1, .int (rg_I p1)), (2, .int (rg_I p2)), (3, .ref o)] dL_split_17 (by decide) rfl ?_
  refine rg_Jiconst FH.1 dL_split_19 ?_
  exact hR9 _ _ _ _ _ _ _ (Nat.le_refl 1) (Nat.le_refl 6) dL_split_20 ⟨rfl, rfl, rfl⟩
theorem k_L_points_o (κ : rg_K) (co : ClassId × ClassId) {σ : rg_S} {p1 : Int} {p2 : Int} {o : Nat} {f : Nat → Int64} {fr1 lo1 : Nat} {post : Int → rg_S → Prop} (hM : rg_CI κ rg_tC yX9_points cX9_points 3 FieldType.int fr1 lo1 [.ref (κ.2.2.2 0), .int (rg_I p1), .int (rg_I p2)] σ post) (hR : fr1 + 1 ≤ 11 ∧ 8 + (3 + 11) + lo1 ≤ 200) : rg_HC κ co yL_points cL_points 5 [(0, 10, 13, 27)] [.ref (κ.2.2.2 0), .int (rg_I p1), .int (rg_I p2), .ref o] σ [o] [rg_eL co o f] (fun k σ9 ws9 => k = 0 ∧ ∃ r, post r σ9 ∧ ws9 = [rg_eL co o (vp_updL f 0 (rg_I r).toInt64)]) := by
  refine rg_entH [(0, .ref (κ.2.2.2 0)), (1, .int (rg_I p1)), (2, .int (rg_I p2)), (3, .ref o)] rfl (by decide +kernel) (Nat.le_of_ble_eq_true rfl) (fun Γ FH hR9 => ?_)
  have hos : ∀ q ∈ ([rg_eL co o f] : va_W), q.1 ∈ [o] := by
    intro q hq
    rw [List.mem_singleton] at hq
    rw [hq]; exact List.mem_singleton.mpr rfl
  refine rg_Jaload_n FH.1 3 3 rfl dL_points_0 rfl ?_
  refine rg_Jiconst FH.1 dL_points_1 ?_
  refine rg_Jaload_n FH.1 0 0 rfl dL_points_2 rfl ?_
  refine rg_Jiload_n FH.1 1 1 rfl dL_points_3 rfl ?_
  refine rg_Jiload_n FH.1 2 2 rfl dL_points_4 rfl ?_
  refine rg_HcallI FH.1 FH.2.1 hos ⟨Nat.zero_le _, Nat.zero_le _⟩ [.int (rg_I p1), .int (rg_I p2)] [.int (rg_I 0), .ref o] 0 hM tC0 cX9 v_X9_points i_X9_points k_ml_L_62 hR rfl (Nat.le_of_ble_eq_true rfl) dL_points_5 (fun r σ1 hp => ?_)
  refine rg_Ji2l FH.1 dL_points_8 ?_
  refine rg_Jlast FH dL_points_9 ?_
  refine rg_Jgoto FH.1 17 dL_points_10 (by decide) ?_
  refine rg_Jiconst FH.1 dL_points_17 ?_
  exact hR9 _ _ _ _ _ _ _ (Nat.zero_le _) (Nat.zero_le _) dL_points_18 ⟨rfl, _, hp, rfl⟩
theorem k_L_points_1 (κ : rg_K) (co : ClassId × ClassId) {σ : rg_S} {p1 : Int} {p2 : Int} {o : Nat} {f : Nat → Int64} {fr1 lo1 : Nat} {σ1 : rg_S} (hM : rg_TX κ rg_tC yX9_points cX9_points 3 (some FieldType.int) fr1 lo1 [.ref (κ.2.2.2 0), .int (rg_I p1), .int (rg_I p2)] σ σ1 "java/lang/IndexOutOfBoundsException") (hR : fr1 + 1 ≤ 11 ∧ 8 + (3 + 11) + lo1 ≤ 200) : rg_HC κ co yL_points cL_points 5 [(0, 10, 13, 27)] [.ref (κ.2.2.2 0), .int (rg_I p1), .int (rg_I p2), .ref o] σ [o] [rg_eL co o f] (fun k σ9 ws9 => k = 1 ∧ σ9 = σ1 ∧ ws9 = [rg_eL co o f]) := by
  refine rg_entH [(0, .ref (κ.2.2.2 0)), (1, .int (rg_I p1)), (2, .int (rg_I p2)), (3, .ref o)] rfl (by decide +kernel) (Nat.le_of_ble_eq_true rfl) (fun Γ FH hR9 => ?_)
  have hos : ∀ q ∈ ([rg_eL co o f] : va_W), q.1 ∈ [o] := by
    intro q hq
    rw [List.mem_singleton] at hq
    rw [hq]; exact List.mem_singleton.mpr rfl
  refine rg_Jaload_n FH.1 3 3 rfl dL_points_0 rfl ?_
  refine rg_Jiconst FH.1 dL_points_1 ?_
  refine rg_Jaload_n FH.1 0 0 rfl dL_points_2 rfl ?_
  refine rg_Jiload_n FH.1 1 1 rfl dL_points_3 rfl ?_
  refine rg_Jiload_n FH.1 2 2 rfl dL_points_4 rfl ?_
  refine rg_HcallX FH.1 FH.2.1 hos ⟨Nat.le_refl 1, Nat.le_refl 6⟩ [.int (rg_I p1), .int (rg_I p2)] [.int (rg_I 0), .ref o] 0 hM tC0 cX9 v_X9_points i_X9_points k_ml_L_62 hR rfl (Nat.le_of_ble_eq_true rfl) dL_points_5 [] ⟨0, 10, 13, 27⟩ [] (FH.2.2.2.2.1.trans rfl) (fun z hz => absurd hz List.not_mem_nil) rfl (by decide) k_cl_L_27 (List.mem_of_getElem? (i := 6) rfl) (fun q9 => ?_)
  refine rg_Jastore FH.1 [(4, .ref q9), (0, .ref (κ.2.2.2 0)), (1, .int (rg_I p1)), (2, .int (rg_I p2)), (3, .ref o)] dL_points_13 (by decide) rfl ?_
  refine rg_Jiconst FH.1 dL_points_15 ?_
  exact hR9 _ _ _ _ _ _ _ (Nat.le_refl 1) (Nat.le_refl 6) dL_points_16 ⟨rfl, rfl, rfl⟩
theorem k_L_isDiscard_o (κ : rg_K) (co : ClassId × ClassId) {σ : rg_S} {p1 : Int} {p2 : Int} {o : Nat} {f : Nat → Int64} {fr1 lo1 : Nat} {post : Int → rg_S → Prop} (hM : rg_CI κ rg_tC yX9_isDiscard cX9_isDiscard 3 FieldType.boolean fr1 lo1 [.ref (κ.2.2.2 0), .int (rg_I p1), .int (rg_I p2)] σ post) (h01 : ∀ r σ9, post r σ9 → r = 0 ∨ r = 1) (hR : fr1 + 1 ≤ 11 ∧ 8 + (3 + 11) + lo1 ≤ 200) : rg_HC κ co yL_isDiscard cL_isDiscard 5 [(0, 17, 20, 27)] [.ref (κ.2.2.2 0), .int (rg_I p1), .int (rg_I p2), .ref o] σ [o] [rg_eL co o f] (fun k σ9 ws9 => k = 0 ∧ ∃ r, post r σ9 ∧ ws9 = [rg_eL co o (vp_updL f 0 (rg_I r).toInt64)]) := by
  refine rg_entH [(0, .ref (κ.2.2.2 0)), (1, .int (rg_I p1)), (2, .int (rg_I p2)), (3, .ref o)] rfl (by decide +kernel) (Nat.le_of_ble_eq_true rfl) (fun Γ FH hR9 => ?_)
  have hos : ∀ q ∈ ([rg_eL co o f] : va_W), q.1 ∈ [o] := by
    intro q hq
    rw [List.mem_singleton] at hq
    rw [hq]; exact List.mem_singleton.mpr rfl
  refine rg_Jaload_n FH.1 3 3 rfl dL_isDiscard_0 rfl ?_
  refine rg_Jiconst FH.1 dL_isDiscard_1 ?_
  refine rg_Jaload_n FH.1 0 0 rfl dL_isDiscard_2 rfl ?_
  refine rg_Jiload_n FH.1 1 1 rfl dL_isDiscard_3 rfl ?_
  refine rg_Jiload_n FH.1 2 2 rfl dL_isDiscard_4 rfl ?_
  refine rg_HcallI FH.1 FH.2.1 hos ⟨Nat.zero_le _, Nat.zero_le _⟩ [.int (rg_I p1), .int (rg_I p2)] [.int (rg_I 0), .ref o] 0 hM tC0 cX9 v_X9_isDiscard i_X9_isDiscard k_ml_L_65 hR rfl (Nat.le_of_ble_eq_true rfl) dL_isDiscard_5 (fun r σ1 hp => ?_)
  rcases h01 r σ1 hp with rfl | rfl
  · refine rg_Jif_eq FH.1 15 dL_isDiscard_8 (by decide) ⟨by omega, by omega⟩ (fun _ => ?_) (fun z => absurd rfl z)
    refine rg_Jlconst FH.1 dL_isDiscard_15 (v := (rg_I 0).toInt64) (by decide +kernel) ?_
    refine rg_Jlast FH dL_isDiscard_16 ?_
    refine rg_Jgoto FH.1 24 dL_isDiscard_17 (by decide) ?_
    refine rg_Jiconst FH.1 dL_isDiscard_24 ?_
    exact hR9 _ _ _ _ _ _ _ (Nat.zero_le _) (Nat.zero_le _) dL_isDiscard_25 ⟨rfl, _, hp, rfl⟩
  · refine rg_Jif_eq FH.1 15 dL_isDiscard_8 (by decide) ⟨by omega, by omega⟩ (fun z => absurd z (by decide)) (fun _ => ?_)
    refine rg_Jlconst FH.1 dL_isDiscard_11 (v := (rg_I 1).toInt64) (by decide +kernel) ?_
    refine rg_Jgoto FH.1 16 dL_isDiscard_12 (by decide) ?_
    refine rg_Jlast FH dL_isDiscard_16 ?_
    refine rg_Jgoto FH.1 24 dL_isDiscard_17 (by decide) ?_
    refine rg_Jiconst FH.1 dL_isDiscard_24 ?_
    exact hR9 _ _ _ _ _ _ _ (Nat.zero_le _) (Nat.zero_le _) dL_isDiscard_25 ⟨rfl, _, hp, rfl⟩
theorem k_L_isDiscard_1 (κ : rg_K) (co : ClassId × ClassId) {σ : rg_S} {p1 : Int} {p2 : Int} {o : Nat} {f : Nat → Int64} {fr1 lo1 : Nat} {σ1 : rg_S} (hM : rg_TX κ rg_tC yX9_isDiscard cX9_isDiscard 3 (some FieldType.boolean) fr1 lo1 [.ref (κ.2.2.2 0), .int (rg_I p1), .int (rg_I p2)] σ σ1 "java/lang/IndexOutOfBoundsException") (hR : fr1 + 1 ≤ 11 ∧ 8 + (3 + 11) + lo1 ≤ 200) : rg_HC κ co yL_isDiscard cL_isDiscard 5 [(0, 17, 20, 27)] [.ref (κ.2.2.2 0), .int (rg_I p1), .int (rg_I p2), .ref o] σ [o] [rg_eL co o f] (fun k σ9 ws9 => k = 1 ∧ σ9 = σ1 ∧ ws9 = [rg_eL co o f]) := by
  refine rg_entH [(0, .ref (κ.2.2.2 0)), (1, .int (rg_I p1)), (2, .int (rg_I p2)), (3, .ref o)] rfl (by decide +kernel) (Nat.le_of_ble_eq_true rfl) (fun Γ FH hR9 => ?_)
  have hos : ∀ q ∈ ([rg_eL co o f] : va_W), q.1 ∈ [o] := by
    intro q hq
    rw [List.mem_singleton] at hq
    rw [hq]; exact List.mem_singleton.mpr rfl
  refine rg_Jaload_n FH.1 3 3 rfl dL_isDiscard_0 rfl ?_
  refine rg_Jiconst FH.1 dL_isDiscard_1 ?_
  refine rg_Jaload_n FH.1 0 0 rfl dL_isDiscard_2 rfl ?_
  refine rg_Jiload_n FH.1 1 1 rfl dL_isDiscard_3 rfl ?_
  refine rg_Jiload_n FH.1 2 2 rfl dL_isDiscard_4 rfl ?_
  refine rg_HcallX FH.1 FH.2.1 hos ⟨Nat.le_refl 1, Nat.le_refl 6⟩ [.int (rg_I p1), .int (rg_I p2)] [.int (rg_I 0), .ref o] 0 hM tC0 cX9 v_X9_isDiscard i_X9_isDiscard k_ml_L_65 hR rfl (Nat.le_of_ble_eq_true rfl) dL_isDiscard_5 [] ⟨0, 17, 20, 27⟩ [] (FH.2.2.2.2.1.trans rfl) (fun z hz => absurd hz List.not_mem_nil) rfl (by decide) k_cl_L_27 (List.mem_of_getElem? (i := 6) rfl) (fun q9 => ?_)
  refine rg_Jastore FH.1 [(4, .ref q9), (0, .ref (κ.2.2.2 0)), (1, .int (rg_I p1)), (2, .int (rg_I p2)), (3, .ref o)] dL_isDiscard_20 (by decide) rfl ?_
  refine rg_Jiconst FH.1 dL_isDiscard_22 ?_
  exact hR9 _ _ _ _ _ _ _ (Nat.le_refl 1) (Nat.le_refl 6) dL_isDiscard_23 ⟨rfl, rfl, rfl⟩
theorem k_L_net_o (κ : rg_K) (co : ClassId × ClassId) {σ : rg_S} {p1 : Int} {o : Nat} {f : Nat → Int64} {fr1 lo1 : Nat} {post : Int → rg_S → Prop} (hM : rg_CI κ rg_tC yX9_net cX9_net 2 FieldType.int fr1 lo1 [.ref (κ.2.2.2 0), .int (rg_I p1)] σ post) (hR : fr1 + 1 ≤ 11 ∧ 8 + (2 + 11) + lo1 ≤ 200) : rg_HC κ co yL_net cL_net 4 [(0, 9, 12, 27)] [.ref (κ.2.2.2 0), .int (rg_I p1), .ref o] σ [o] [rg_eL co o f] (fun k σ9 ws9 => k = 0 ∧ ∃ r, post r σ9 ∧ ws9 = [rg_eL co o (vp_updL f 0 (rg_I r).toInt64)]) := by
  refine rg_entH [(0, .ref (κ.2.2.2 0)), (1, .int (rg_I p1)), (2, .ref o)] rfl (by decide +kernel) (Nat.le_of_ble_eq_true rfl) (fun Γ FH hR9 => ?_)
  have hos : ∀ q ∈ ([rg_eL co o f] : va_W), q.1 ∈ [o] := by
    intro q hq
    rw [List.mem_singleton] at hq
    rw [hq]; exact List.mem_singleton.mpr rfl
  refine rg_Jaload_n FH.1 2 2 rfl dL_net_0 rfl ?_
  refine rg_Jiconst FH.1 dL_net_1 ?_
  refine rg_Jaload_n FH.1 0 0 rfl dL_net_2 rfl ?_
  refine rg_Jiload_n FH.1 1 1 rfl dL_net_3 rfl ?_
  refine rg_HcallI FH.1 FH.2.1 hos ⟨Nat.zero_le _, Nat.zero_le _⟩ [.int (rg_I p1)] [.int (rg_I 0), .ref o] 0 hM tC0 cX9 v_X9_net i_X9_net k_ml_L_68 hR rfl (Nat.le_of_ble_eq_true rfl) dL_net_4 (fun r σ1 hp => ?_)
  refine rg_Ji2l FH.1 dL_net_7 ?_
  refine rg_Jlast FH dL_net_8 ?_
  refine rg_Jgoto FH.1 15 dL_net_9 (by decide) ?_
  refine rg_Jiconst FH.1 dL_net_15 ?_
  exact hR9 _ _ _ _ _ _ _ (Nat.zero_le _) (Nat.zero_le _) dL_net_16 ⟨rfl, _, hp, rfl⟩
theorem k_L_net_1 (κ : rg_K) (co : ClassId × ClassId) {σ : rg_S} {p1 : Int} {o : Nat} {f : Nat → Int64} {fr1 lo1 : Nat} {σ1 : rg_S} (hM : rg_TX κ rg_tC yX9_net cX9_net 2 (some FieldType.int) fr1 lo1 [.ref (κ.2.2.2 0), .int (rg_I p1)] σ σ1 "java/lang/IndexOutOfBoundsException") (hR : fr1 + 1 ≤ 11 ∧ 8 + (2 + 11) + lo1 ≤ 200) : rg_HC κ co yL_net cL_net 4 [(0, 9, 12, 27)] [.ref (κ.2.2.2 0), .int (rg_I p1), .ref o] σ [o] [rg_eL co o f] (fun k σ9 ws9 => k = 1 ∧ σ9 = σ1 ∧ ws9 = [rg_eL co o f]) := by
  refine rg_entH [(0, .ref (κ.2.2.2 0)), (1, .int (rg_I p1)), (2, .ref o)] rfl (by decide +kernel) (Nat.le_of_ble_eq_true rfl) (fun Γ FH hR9 => ?_)
  have hos : ∀ q ∈ ([rg_eL co o f] : va_W), q.1 ∈ [o] := by
    intro q hq
    rw [List.mem_singleton] at hq
    rw [hq]; exact List.mem_singleton.mpr rfl
  refine rg_Jaload_n FH.1 2 2 rfl dL_net_0 rfl ?_
  refine rg_Jiconst FH.1 dL_net_1 ?_
  refine rg_Jaload_n FH.1 0 0 rfl dL_net_2 rfl ?_
  refine rg_Jiload_n FH.1 1 1 rfl dL_net_3 rfl ?_
  refine rg_HcallX FH.1 FH.2.1 hos ⟨Nat.le_refl 1, Nat.le_refl 6⟩ [.int (rg_I p1)] [.int (rg_I 0), .ref o] 0 hM tC0 cX9 v_X9_net i_X9_net k_ml_L_68 hR rfl (Nat.le_of_ble_eq_true rfl) dL_net_4 [] ⟨0, 9, 12, 27⟩ [] (FH.2.2.2.2.1.trans rfl) (fun z hz => absurd hz List.not_mem_nil) rfl (by decide) k_cl_L_27 (List.mem_of_getElem? (i := 6) rfl) (fun q9 => ?_)
  refine rg_Jastore_n FH.1 [(3, .ref q9), (0, .ref (κ.2.2.2 0)), (1, .int (rg_I p1)), (2, .ref o)] dL_net_12 rfl (by decide) rfl ?_
  refine rg_Jiconst FH.1 dL_net_13 ?_
  exact hR9 _ _ _ _ _ _ _ (Nat.le_refl 1) (Nat.le_refl 6) dL_net_14 ⟨rfl, rfl, rfl⟩
theorem k_L_gross_o (κ : rg_K) (co : ClassId × ClassId) {σ : rg_S} {p1 : Int} {o : Nat} {f : Nat → Int64} {fr1 lo1 : Nat} {post : Int → rg_S → Prop} (hM : rg_CI κ rg_tC yX9_gross cX9_gross 2 FieldType.int fr1 lo1 [.ref (κ.2.2.2 0), .int (rg_I p1)] σ post) (hR : fr1 + 1 ≤ 11 ∧ 8 + (2 + 11) + lo1 ≤ 200) : rg_HC κ co yL_gross cL_gross 4 [(0, 9, 12, 27)] [.ref (κ.2.2.2 0), .int (rg_I p1), .ref o] σ [o] [rg_eL co o f] (fun k σ9 ws9 => k = 0 ∧ ∃ r, post r σ9 ∧ ws9 = [rg_eL co o (vp_updL f 0 (rg_I r).toInt64)]) := by
  refine rg_entH [(0, .ref (κ.2.2.2 0)), (1, .int (rg_I p1)), (2, .ref o)] rfl (by decide +kernel) (Nat.le_of_ble_eq_true rfl) (fun Γ FH hR9 => ?_)
  have hos : ∀ q ∈ ([rg_eL co o f] : va_W), q.1 ∈ [o] := by
    intro q hq
    rw [List.mem_singleton] at hq
    rw [hq]; exact List.mem_singleton.mpr rfl
  refine rg_Jaload_n FH.1 2 2 rfl dL_gross_0 rfl ?_
  refine rg_Jiconst FH.1 dL_gross_1 ?_
  refine rg_Jaload_n FH.1 0 0 rfl dL_gross_2 rfl ?_
  refine rg_Jiload_n FH.1 1 1 rfl dL_gross_3 rfl ?_
  refine rg_HcallI FH.1 FH.2.1 hos ⟨Nat.zero_le _, Nat.zero_le _⟩ [.int (rg_I p1)] [.int (rg_I 0), .ref o] 0 hM tC0 cX9 v_X9_gross i_X9_gross k_ml_L_72 hR rfl (Nat.le_of_ble_eq_true rfl) dL_gross_4 (fun r σ1 hp => ?_)
  refine rg_Ji2l FH.1 dL_gross_7 ?_
  refine rg_Jlast FH dL_gross_8 ?_
  refine rg_Jgoto FH.1 15 dL_gross_9 (by decide) ?_
  refine rg_Jiconst FH.1 dL_gross_15 ?_
  exact hR9 _ _ _ _ _ _ _ (Nat.zero_le _) (Nat.zero_le _) dL_gross_16 ⟨rfl, _, hp, rfl⟩
theorem k_L_gross_1 (κ : rg_K) (co : ClassId × ClassId) {σ : rg_S} {p1 : Int} {o : Nat} {f : Nat → Int64} {fr1 lo1 : Nat} {σ1 : rg_S} (hM : rg_TX κ rg_tC yX9_gross cX9_gross 2 (some FieldType.int) fr1 lo1 [.ref (κ.2.2.2 0), .int (rg_I p1)] σ σ1 "java/lang/IndexOutOfBoundsException") (hR : fr1 + 1 ≤ 11 ∧ 8 + (2 + 11) + lo1 ≤ 200) : rg_HC κ co yL_gross cL_gross 4 [(0, 9, 12, 27)] [.ref (κ.2.2.2 0), .int (rg_I p1), .ref o] σ [o] [rg_eL co o f] (fun k σ9 ws9 => k = 1 ∧ σ9 = σ1 ∧ ws9 = [rg_eL co o f]) := by
  refine rg_entH [(0, .ref (κ.2.2.2 0)), (1, .int (rg_I p1)), (2, .ref o)] rfl (by decide +kernel) (Nat.le_of_ble_eq_true rfl) (fun Γ FH hR9 => ?_)
  have hos : ∀ q ∈ ([rg_eL co o f] : va_W), q.1 ∈ [o] := by
    intro q hq
    rw [List.mem_singleton] at hq
    rw [hq]; exact List.mem_singleton.mpr rfl
  refine rg_Jaload_n FH.1 2 2 rfl dL_gross_0 rfl ?_
  refine rg_Jiconst FH.1 dL_gross_1 ?_
  refine rg_Jaload_n FH.1 0 0 rfl dL_gross_2 rfl ?_
  refine rg_Jiload_n FH.1 1 1 rfl dL_gross_3 rfl ?_
  refine rg_HcallX FH.1 FH.2.1 hos ⟨Nat.le_refl 1, Nat.le_refl 6⟩ [.int (rg_I p1)] [.int (rg_I 0), .ref o] 0 hM tC0 cX9 v_X9_gross i_X9_gross k_ml_L_72 hR rfl (Nat.le_of_ble_eq_true rfl) dL_gross_4 [] ⟨0, 9, 12, 27⟩ [] (FH.2.2.2.2.1.trans rfl) (fun z hz => absurd hz List.not_mem_nil) rfl (by decide) k_cl_L_27 (List.mem_of_getElem? (i := 6) rfl) (fun q9 => ?_)
  refine rg_Jastore_n FH.1 [(3, .ref q9), (0, .ref (κ.2.2.2 0)), (1, .int (rg_I p1)), (2, .ref o)] dL_gross_12 rfl (by decide) rfl ?_
  refine rg_Jiconst FH.1 dL_gross_13 ?_
  exact hR9 _ _ _ _ _ _ _ (Nat.le_refl 1) (Nat.le_refl 6) dL_gross_14 ⟨rfl, rfl, rfl⟩
theorem k_L_mean_o (κ : rg_K) (co : ClassId × ClassId) {σ : rg_S} {p1 : Int} {o : Nat} {f : Nat → UInt64} {fr1 lo1 : Nat} {post : UInt64 → rg_S → Prop} (hM : rg_CD κ rg_tC yX9_mean cX9_mean 3 fr1 lo1 [.ref (κ.2.2.2 0), .int (rg_I p1)] σ post) (hR : fr1 + 1 ≤ 11 ∧ 8 + (3 + 11) + lo1 ≤ 200) : rg_HC κ co yL_mean cL_mean 4 [(0, 8, 11, 27)] [.ref (κ.2.2.2 0), .int (rg_I p1), .ref o] σ [o] [rg_eD co o f] (fun k σ9 ws9 => k = 0 ∧ ∃ r, post r σ9 ∧ ws9 = [rg_eD co o (vf_upd f 0 r)]) := by
  refine rg_entH [(0, .ref (κ.2.2.2 0)), (1, .int (rg_I p1)), (2, .ref o)] rfl (by decide +kernel) (Nat.le_of_ble_eq_true rfl) (fun Γ FH hR9 => ?_)
  have hos : ∀ q ∈ ([rg_eD co o f] : va_W), q.1 ∈ [o] := by
    intro q hq
    rw [List.mem_singleton] at hq
    rw [hq]; exact List.mem_singleton.mpr rfl
  refine rg_Jaload_n FH.1 2 2 rfl dL_mean_0 rfl ?_
  refine rg_Jiconst FH.1 dL_mean_1 ?_
  refine rg_Jaload_n FH.1 0 0 rfl dL_mean_2 rfl ?_
  refine rg_Jiload_n FH.1 1 1 rfl dL_mean_3 rfl ?_
  refine rg_HcallD FH.1 FH.2.1 hos ⟨Nat.zero_le _, Nat.zero_le _⟩ [.int (rg_I p1)] [.int (rg_I 0), .ref o] 0 hM tC0 cX9 v_X9_mean i_X9_mean k_ml_L_75 hR rfl (Nat.le_of_ble_eq_true rfl) dL_mean_4 (fun r σ1 hp => ?_)
  refine rg_Jdast FH dL_mean_7 ?_
  refine rg_Jgoto FH.1 14 dL_mean_8 (by decide) ?_
  refine rg_Jiconst FH.1 dL_mean_14 ?_
  exact hR9 _ _ _ _ _ _ _ (Nat.zero_le _) (Nat.zero_le _) dL_mean_15 ⟨rfl, r, hp, rfl⟩
theorem k_L_mean_1 (κ : rg_K) (co : ClassId × ClassId) {σ : rg_S} {p1 : Int} {o : Nat} {f : Nat → UInt64} {fr1 lo1 : Nat} {σ1 : rg_S} (hM : rg_TX κ rg_tC yX9_mean cX9_mean 3 (some FieldType.double) fr1 lo1 [.ref (κ.2.2.2 0), .int (rg_I p1)] σ σ1 "java/lang/IndexOutOfBoundsException") (hR : fr1 + 1 ≤ 11 ∧ 8 + (3 + 11) + lo1 ≤ 200) : rg_HC κ co yL_mean cL_mean 4 [(0, 8, 11, 27)] [.ref (κ.2.2.2 0), .int (rg_I p1), .ref o] σ [o] [rg_eD co o f] (fun k σ9 ws9 => k = 1 ∧ σ9 = σ1 ∧ ws9 = [rg_eD co o f]) := by
  refine rg_entH [(0, .ref (κ.2.2.2 0)), (1, .int (rg_I p1)), (2, .ref o)] rfl (by decide +kernel) (Nat.le_of_ble_eq_true rfl) (fun Γ FH hR9 => ?_)
  have hos : ∀ q ∈ ([rg_eD co o f] : va_W), q.1 ∈ [o] := by
    intro q hq
    rw [List.mem_singleton] at hq
    rw [hq]; exact List.mem_singleton.mpr rfl
  refine rg_Jaload_n FH.1 2 2 rfl dL_mean_0 rfl ?_
  refine rg_Jiconst FH.1 dL_mean_1 ?_
  refine rg_Jaload_n FH.1 0 0 rfl dL_mean_2 rfl ?_
  refine rg_Jiload_n FH.1 1 1 rfl dL_mean_3 rfl ?_
  refine rg_HcallX FH.1 FH.2.1 hos ⟨Nat.le_refl 1, Nat.le_refl 6⟩ [.int (rg_I p1)] [.int (rg_I 0), .ref o] 0 hM tC0 cX9 v_X9_mean i_X9_mean k_ml_L_75 hR rfl (Nat.le_of_ble_eq_true rfl) dL_mean_4 [] ⟨0, 8, 11, 27⟩ [] (FH.2.2.2.2.1.trans rfl) (fun z hz => absurd hz List.not_mem_nil) rfl (by decide) k_cl_L_27 (List.mem_of_getElem? (i := 6) rfl) (fun q9 => ?_)
  refine rg_Jastore_n FH.1 [(3, .ref q9), (0, .ref (κ.2.2.2 0)), (1, .int (rg_I p1)), (2, .ref o)] dL_mean_11 rfl (by decide) rfl ?_
  refine rg_Jiconst FH.1 dL_mean_12 ?_
  exact hR9 _ _ _ _ _ _ _ (Nat.le_refl 1) (Nat.le_refl 6) dL_mean_13 ⟨rfl, rfl, rfl⟩
theorem k_L_rank_o (κ : rg_K) (co : ClassId × ClassId) {σ : rg_S} {p1 : Int} {o : Nat} {f : Nat → Int64} {fr1 lo1 : Nat} {post : Int → rg_S → Prop} (hM : rg_CI κ rg_tC yX9_rank cX9_rank 2 FieldType.int fr1 lo1 [.ref (κ.2.2.2 0), .int (rg_I p1)] σ post) (hR : fr1 + 1 ≤ 11 ∧ 8 + (2 + 11) + lo1 ≤ 200) : rg_HC κ co yL_rank cL_rank 4 [(0, 9, 12, 27)] [.ref (κ.2.2.2 0), .int (rg_I p1), .ref o] σ [o] [rg_eL co o f] (fun k σ9 ws9 => k = 0 ∧ ∃ r, post r σ9 ∧ ws9 = [rg_eL co o (vp_updL f 0 (rg_I r).toInt64)]) := by
  refine rg_entH [(0, .ref (κ.2.2.2 0)), (1, .int (rg_I p1)), (2, .ref o)] rfl (by decide +kernel) (Nat.le_of_ble_eq_true rfl) (fun Γ FH hR9 => ?_)
  have hos : ∀ q ∈ ([rg_eL co o f] : va_W), q.1 ∈ [o] := by
    intro q hq
    rw [List.mem_singleton] at hq
    rw [hq]; exact List.mem_singleton.mpr rfl
  refine rg_Jaload_n FH.1 2 2 rfl dL_rank_0 rfl ?_
  refine rg_Jiconst FH.1 dL_rank_1 ?_
  refine rg_Jaload_n FH.1 0 0 rfl dL_rank_2 rfl ?_
  refine rg_Jiload_n FH.1 1 1 rfl dL_rank_3 rfl ?_
  refine rg_HcallI FH.1 FH.2.1 hos ⟨Nat.zero_le _, Nat.zero_le _⟩ [.int (rg_I p1)] [.int (rg_I 0), .ref o] 0 hM tC0 cX9 v_X9_rank i_X9_rank k_ml_L_79 hR rfl (Nat.le_of_ble_eq_true rfl) dL_rank_4 (fun r σ1 hp => ?_)
  refine rg_Ji2l FH.1 dL_rank_7 ?_
  refine rg_Jlast FH dL_rank_8 ?_
  refine rg_Jgoto FH.1 15 dL_rank_9 (by decide) ?_
  refine rg_Jiconst FH.1 dL_rank_15 ?_
  exact hR9 _ _ _ _ _ _ _ (Nat.zero_le _) (Nat.zero_le _) dL_rank_16 ⟨rfl, _, hp, rfl⟩
theorem k_L_rank_1 (κ : rg_K) (co : ClassId × ClassId) {σ : rg_S} {p1 : Int} {o : Nat} {f : Nat → Int64} {fr1 lo1 : Nat} {σ1 : rg_S} (hM : rg_TX κ rg_tC yX9_rank cX9_rank 2 (some FieldType.int) fr1 lo1 [.ref (κ.2.2.2 0), .int (rg_I p1)] σ σ1 "java/lang/IndexOutOfBoundsException") (hR : fr1 + 1 ≤ 11 ∧ 8 + (2 + 11) + lo1 ≤ 200) : rg_HC κ co yL_rank cL_rank 4 [(0, 9, 12, 27)] [.ref (κ.2.2.2 0), .int (rg_I p1), .ref o] σ [o] [rg_eL co o f] (fun k σ9 ws9 => k = 1 ∧ σ9 = σ1 ∧ ws9 = [rg_eL co o f]) := by
  refine rg_entH [(0, .ref (κ.2.2.2 0)), (1, .int (rg_I p1)), (2, .ref o)] rfl (by decide +kernel) (Nat.le_of_ble_eq_true rfl) (fun Γ FH hR9 => ?_)
  have hos : ∀ q ∈ ([rg_eL co o f] : va_W), q.1 ∈ [o] := by
    intro q hq
    rw [List.mem_singleton] at hq
    rw [hq]; exact List.mem_singleton.mpr rfl
  refine rg_Jaload_n FH.1 2 2 rfl dL_rank_0 rfl ?_
  refine rg_Jiconst FH.1 dL_rank_1 ?_
  refine rg_Jaload_n FH.1 0 0 rfl dL_rank_2 rfl ?_
  refine rg_Jiload_n FH.1 1 1 rfl dL_rank_3 rfl ?_
  refine rg_HcallX FH.1 FH.2.1 hos ⟨Nat.le_refl 1, Nat.le_refl 6⟩ [.int (rg_I p1)] [.int (rg_I 0), .ref o] 0 hM tC0 cX9 v_X9_rank i_X9_rank k_ml_L_79 hR rfl (Nat.le_of_ble_eq_true rfl) dL_rank_4 [] ⟨0, 9, 12, 27⟩ [] (FH.2.2.2.2.1.trans rfl) (fun z hz => absurd hz List.not_mem_nil) rfl (by decide) k_cl_L_27 (List.mem_of_getElem? (i := 6) rfl) (fun q9 => ?_)
  refine rg_Jastore_n FH.1 [(3, .ref q9), (0, .ref (κ.2.2.2 0)), (1, .int (rg_I p1)), (2, .ref o)] dL_rank_12 rfl (by decide) rfl ?_
  refine rg_Jiconst FH.1 dL_rank_13 ?_
  exact hR9 _ _ _ _ _ _ _ (Nat.le_refl 1) (Nat.le_refl 6) dL_rank_14 ⟨rfl, rfl, rfl⟩
theorem k_L_at_o (κ : rg_K) (co : ClassId × ClassId) {σ : rg_S} {p1 : Int} {o : Nat} {f : Nat → Int64} {fr1 lo1 : Nat} {post : Int → rg_S → Prop} (hM : rg_CI κ rg_tC yX9_at cX9_at 2 FieldType.int fr1 lo1 [.ref (κ.2.2.2 0), .int (rg_I p1)] σ post) (hR : fr1 + 1 ≤ 11 ∧ 8 + (2 + 11) + lo1 ≤ 200) : rg_HC κ co yL_at cL_at 4 [(0, 9, 12, 27)] [.ref (κ.2.2.2 0), .int (rg_I p1), .ref o] σ [o] [rg_eL co o f] (fun k σ9 ws9 => k = 0 ∧ ∃ r, post r σ9 ∧ ws9 = [rg_eL co o (vp_updL f 0 (rg_I r).toInt64)]) := by
  refine rg_entH [(0, .ref (κ.2.2.2 0)), (1, .int (rg_I p1)), (2, .ref o)] rfl (by decide +kernel) (Nat.le_of_ble_eq_true rfl) (fun Γ FH hR9 => ?_)
  have hos : ∀ q ∈ ([rg_eL co o f] : va_W), q.1 ∈ [o] := by
    intro q hq
    rw [List.mem_singleton] at hq
    rw [hq]; exact List.mem_singleton.mpr rfl
  refine rg_Jaload_n FH.1 2 2 rfl dL_at_0 rfl ?_
  refine rg_Jiconst FH.1 dL_at_1 ?_
  refine rg_Jaload_n FH.1 0 0 rfl dL_at_2 rfl ?_
  refine rg_Jiload_n FH.1 1 1 rfl dL_at_3 rfl ?_
  refine rg_HcallI FH.1 FH.2.1 hos ⟨Nat.zero_le _, Nat.zero_le _⟩ [.int (rg_I p1)] [.int (rg_I 0), .ref o] 0 hM tC0 cX9 v_X9_at i_X9_at k_ml_L_82 hR rfl (Nat.le_of_ble_eq_true rfl) dL_at_4 (fun r σ1 hp => ?_)
  refine rg_Ji2l FH.1 dL_at_7 ?_
  refine rg_Jlast FH dL_at_8 ?_
  refine rg_Jgoto FH.1 15 dL_at_9 (by decide) ?_
  refine rg_Jiconst FH.1 dL_at_15 ?_
  exact hR9 _ _ _ _ _ _ _ (Nat.zero_le _) (Nat.zero_le _) dL_at_16 ⟨rfl, _, hp, rfl⟩
theorem k_L_at_1 (κ : rg_K) (co : ClassId × ClassId) {σ : rg_S} {p1 : Int} {o : Nat} {f : Nat → Int64} {fr1 lo1 : Nat} {σ1 : rg_S} (hM : rg_TX κ rg_tC yX9_at cX9_at 2 (some FieldType.int) fr1 lo1 [.ref (κ.2.2.2 0), .int (rg_I p1)] σ σ1 "java/lang/IndexOutOfBoundsException") (hR : fr1 + 1 ≤ 11 ∧ 8 + (2 + 11) + lo1 ≤ 200) : rg_HC κ co yL_at cL_at 4 [(0, 9, 12, 27)] [.ref (κ.2.2.2 0), .int (rg_I p1), .ref o] σ [o] [rg_eL co o f] (fun k σ9 ws9 => k = 1 ∧ σ9 = σ1 ∧ ws9 = [rg_eL co o f]) := by
  refine rg_entH [(0, .ref (κ.2.2.2 0)), (1, .int (rg_I p1)), (2, .ref o)] rfl (by decide +kernel) (Nat.le_of_ble_eq_true rfl) (fun Γ FH hR9 => ?_)
  have hos : ∀ q ∈ ([rg_eL co o f] : va_W), q.1 ∈ [o] := by
    intro q hq
    rw [List.mem_singleton] at hq
    rw [hq]; exact List.mem_singleton.mpr rfl
  refine rg_Jaload_n FH.1 2 2 rfl dL_at_0 rfl ?_
  refine rg_Jiconst FH.1 dL_at_1 ?_
  refine rg_Jaload_n FH.1 0 0 rfl dL_at_2 rfl ?_
  refine rg_Jiload_n FH.1 1 1 rfl dL_at_3 rfl ?_
  refine rg_HcallX FH.1 FH.2.1 hos ⟨Nat.le_refl 1, Nat.le_refl 6⟩ [.int (rg_I p1)] [.int (rg_I 0), .ref o] 0 hM tC0 cX9 v_X9_at i_X9_at k_ml_L_82 hR rfl (Nat.le_of_ble_eq_true rfl) dL_at_4 [] ⟨0, 9, 12, 27⟩ [] (FH.2.2.2.2.1.trans rfl) (fun z hz => absurd hz List.not_mem_nil) rfl (by decide) k_cl_L_27 (List.mem_of_getElem? (i := 6) rfl) (fun q9 => ?_)
  refine rg_Jastore_n FH.1 [(3, .ref q9), (0, .ref (κ.2.2.2 0)), (1, .int (rg_I p1)), (2, .ref o)] dL_at_12 rfl (by decide) rfl ?_
  refine rg_Jiconst FH.1 dL_at_13 ?_
  exact hR9 _ _ _ _ _ _ _ (Nat.le_refl 1) (Nat.le_refl 6) dL_at_14 ⟨rfl, rfl, rfl⟩
theorem k_L_tie_o (κ : rg_K) (co : ClassId × ClassId) {σ : rg_S} {p1 : Int} {p2 : Int} {o : Nat} {f : Nat → Int64} {fr1 lo1 : Nat} {post : Int → rg_S → Prop} (hM : rg_CI κ rg_tC yX9_tie cX9_tie 3 FieldType.int fr1 lo1 [.ref (κ.2.2.2 0), .int (rg_I p1), .int (rg_I p2)] σ post) (hR : fr1 + 1 ≤ 11 ∧ 8 + (3 + 11) + lo1 ≤ 200) : rg_HC κ co yL_tie cL_tie 5 [(0, 10, 13, 27), (0, 10, 17, 21)] [.ref (κ.2.2.2 0), .int (rg_I p1), .int (rg_I p2), .ref o] σ [o] [rg_eL co o f] (fun k σ9 ws9 => k = 0 ∧ ∃ r, post r σ9 ∧ ws9 = [rg_eL co o (vp_updL f 0 (rg_I r).toInt64)]) := by
  refine rg_entH [(0, .ref (κ.2.2.2 0)), (1, .int (rg_I p1)), (2, .int (rg_I p2)), (3, .ref o)] rfl (by decide +kernel) (Nat.le_of_ble_eq_true rfl) (fun Γ FH hR9 => ?_)
  have hos : ∀ q ∈ ([rg_eL co o f] : va_W), q.1 ∈ [o] := by
    intro q hq
    rw [List.mem_singleton] at hq
    rw [hq]; exact List.mem_singleton.mpr rfl
  refine rg_Jaload_n FH.1 3 3 rfl dL_tie_0 rfl ?_
  refine rg_Jiconst FH.1 dL_tie_1 ?_
  refine rg_Jaload_n FH.1 0 0 rfl dL_tie_2 rfl ?_
  refine rg_Jiload_n FH.1 1 1 rfl dL_tie_3 rfl ?_
  refine rg_Jiload_n FH.1 2 2 rfl dL_tie_4 rfl ?_
  refine rg_HcallI FH.1 FH.2.1 hos ⟨Nat.zero_le _, Nat.zero_le _⟩ [.int (rg_I p1), .int (rg_I p2)] [.int (rg_I 0), .ref o] 0 hM tC0 cX9 v_X9_tie i_X9_tie k_ml_L_85 hR rfl (Nat.le_of_ble_eq_true rfl) dL_tie_5 (fun r σ1 hp => ?_)
  refine rg_Ji2l FH.1 dL_tie_8 ?_
  refine rg_Jlast FH dL_tie_9 ?_
  refine rg_Jgoto FH.1 21 dL_tie_10 (by decide) ?_
  refine rg_Jiconst FH.1 dL_tie_21 ?_
  exact hR9 _ _ _ _ _ _ _ (Nat.zero_le _) (Nat.zero_le _) dL_tie_22 ⟨rfl, _, hp, rfl⟩
theorem k_L_tie_1 (κ : rg_K) (co : ClassId × ClassId) {σ : rg_S} {p1 : Int} {p2 : Int} {o : Nat} {f : Nat → Int64} {fr1 lo1 : Nat} {σ1 : rg_S} (hM : rg_TX κ rg_tC yX9_tie cX9_tie 3 (some FieldType.int) fr1 lo1 [.ref (κ.2.2.2 0), .int (rg_I p1), .int (rg_I p2)] σ σ1 "java/lang/IndexOutOfBoundsException") (hR : fr1 + 1 ≤ 11 ∧ 8 + (3 + 11) + lo1 ≤ 200) : rg_HC κ co yL_tie cL_tie 5 [(0, 10, 13, 27), (0, 10, 17, 21)] [.ref (κ.2.2.2 0), .int (rg_I p1), .int (rg_I p2), .ref o] σ [o] [rg_eL co o f] (fun k σ9 ws9 => k = 1 ∧ σ9 = σ1 ∧ ws9 = [rg_eL co o f]) := by
  refine rg_entH [(0, .ref (κ.2.2.2 0)), (1, .int (rg_I p1)), (2, .int (rg_I p2)), (3, .ref o)] rfl (by decide +kernel) (Nat.le_of_ble_eq_true rfl) (fun Γ FH hR9 => ?_)
  have hos : ∀ q ∈ ([rg_eL co o f] : va_W), q.1 ∈ [o] := by
    intro q hq
    rw [List.mem_singleton] at hq
    rw [hq]; exact List.mem_singleton.mpr rfl
  refine rg_Jaload_n FH.1 3 3 rfl dL_tie_0 rfl ?_
  refine rg_Jiconst FH.1 dL_tie_1 ?_
  refine rg_Jaload_n FH.1 0 0 rfl dL_tie_2 rfl ?_
  refine rg_Jiload_n FH.1 1 1 rfl dL_tie_3 rfl ?_
  refine rg_Jiload_n FH.1 2 2 rfl dL_tie_4 rfl ?_
  refine rg_HcallX FH.1 FH.2.1 hos ⟨Nat.le_refl 1, Nat.le_refl 6⟩ [.int (rg_I p1), .int (rg_I p2)] [.int (rg_I 0), .ref o] 0 hM tC0 cX9 v_X9_tie i_X9_tie k_ml_L_85 hR rfl (Nat.le_of_ble_eq_true rfl) dL_tie_5 [] ⟨0, 10, 13, 27⟩ [⟨0, 10, 17, 21⟩] (FH.2.2.2.2.1.trans rfl) (fun z hz => absurd hz List.not_mem_nil) rfl (by decide) k_cl_L_27 (List.mem_of_getElem? (i := 6) rfl) (fun q9 => ?_)
  refine rg_Jastore FH.1 [(4, .ref q9), (0, .ref (κ.2.2.2 0)), (1, .int (rg_I p1)), (2, .int (rg_I p2)), (3, .ref o)] dL_tie_13 (by decide) rfl ?_
  refine rg_Jiconst FH.1 dL_tie_15 ?_
  exact hR9 _ _ _ _ _ _ _ (Nat.le_refl 1) (Nat.le_refl 6) dL_tie_16 ⟨rfl, rfl, rfl⟩
theorem k_L_tie_2 (κ : rg_K) (co : ClassId × ClassId) {σ : rg_S} {p1 : Int} {p2 : Int} {o : Nat} {f : Nat → Int64} {fr1 lo1 : Nat} {σ1 : rg_S} (hM : rg_TX κ rg_tC yX9_tie cX9_tie 3 (some FieldType.int) fr1 lo1 [.ref (κ.2.2.2 0), .int (rg_I p1), .int (rg_I p2)] σ σ1 "java/lang/IllegalArgumentException") (hR : fr1 + 1 ≤ 11 ∧ 8 + (3 + 11) + lo1 ≤ 200) : rg_HC κ co yL_tie cL_tie 5 [(0, 10, 13, 27), (0, 10, 17, 21)] [.ref (κ.2.2.2 0), .int (rg_I p1), .int (rg_I p2), .ref o] σ [o] [rg_eL co o f] (fun k σ9 ws9 => k = 2 ∧ σ9 = σ1 ∧ ws9 = [rg_eL co o f]) := by
  refine rg_entH [(0, .ref (κ.2.2.2 0)), (1, .int (rg_I p1)), (2, .int (rg_I p2)), (3, .ref o)] rfl (by decide +kernel) (Nat.le_of_ble_eq_true rfl) (fun Γ FH hR9 => ?_)
  have hos : ∀ q ∈ ([rg_eL co o f] : va_W), q.1 ∈ [o] := by
    intro q hq
    rw [List.mem_singleton] at hq
    rw [hq]; exact List.mem_singleton.mpr rfl
  refine rg_Jaload_n FH.1 3 3 rfl dL_tie_0 rfl ?_
  refine rg_Jiconst FH.1 dL_tie_1 ?_
  refine rg_Jaload_n FH.1 0 0 rfl dL_tie_2 rfl ?_
  refine rg_Jiload_n FH.1 1 1 rfl dL_tie_3 rfl ?_
  refine rg_Jiload_n FH.1 2 2 rfl dL_tie_4 rfl ?_
  refine rg_HcallX FH.1 FH.2.1 hos ⟨Nat.le_refl 1, Nat.le_refl 6⟩ [.int (rg_I p1), .int (rg_I p2)] [.int (rg_I 0), .ref o] 0 hM tC0 cX9 v_X9_tie i_X9_tie k_ml_L_85 hR rfl (Nat.le_of_ble_eq_true rfl) dL_tie_5 [⟨0, 10, 13, 27⟩] ⟨0, 10, 17, 21⟩ [] (FH.2.2.2.2.1.trans rfl) (by
    intro z hz
    simp only [List.mem_cons, List.not_mem_nil, or_false] at hz
    rcases hz with rfl
    · exact Or.inr ⟨by decide, "java/lang/IndexOutOfBoundsException", k_cl_L_27, FH.2.2.2.2.2 ("java/lang/IllegalArgumentException", "java/lang/IndexOutOfBoundsException") (by decide +kernel)⟩) rfl (by decide) k_cl_L_21 (List.mem_of_getElem? (i := 5) rfl) (fun q9 => ?_)
  refine rg_Jastore FH.1 [(4, .ref q9), (0, .ref (κ.2.2.2 0)), (1, .int (rg_I p1)), (2, .int (rg_I p2)), (3, .ref o)] dL_tie_17 (by decide) rfl ?_
  refine rg_Jiconst FH.1 dL_tie_19 ?_
  exact hR9 _ _ _ _ _ _ _ (Nat.le_refl 1) (Nat.le_refl 6) dL_tie_20 ⟨rfl, rfl, rfl⟩
theorem k_L_what_o (κ : rg_K) (co : ClassId × ClassId) {σ : rg_S} {p1 : Int} {p2 : Int} {p3 : Int} {p4 : Int} {o : Nat} {f : Nat → Int64} {fr1 lo1 : Nat} {post : Int → rg_S → Prop} (hM : rg_CI κ rg_tC yX9_what cX9_what 5 FieldType.int fr1 lo1 [.ref (κ.2.2.2 0), .int (rg_I p1), .int (rg_I p2), .int (rg_I p3), .int (rg_I p4)] σ post) (hR : fr1 + 1 ≤ 11 ∧ 8 + (5 + 11) + lo1 ≤ 200) : rg_HC κ co yL_what cL_what 7 [(0, 14, 17, 27), (0, 14, 21, 13), (0, 14, 25, 21)] [.ref (κ.2.2.2 0), .int (rg_I p1), .int (rg_I p2), .int (rg_I p3), .int (rg_I p4), .ref o] σ [o] [rg_eL co o f] (fun k σ9 ws9 => k = 0 ∧ ∃ r, post r σ9 ∧ ws9 = [rg_eL co o (vp_updL f 0 (rg_I r).toInt64)]) := by
  refine rg_entH [(0, .ref (κ.2.2.2 0)), (1, .int (rg_I p1)), (2, .int (rg_I p2)), (3, .int (rg_I p3)), (4, .int (rg_I p4)), (5, .ref o)] rfl (by decide +kernel) (Nat.le_of_ble_eq_true rfl) (fun Γ FH hR9 => ?_)
  have hos : ∀ q ∈ ([rg_eL co o f] : va_W), q.1 ∈ [o] := by
    intro q hq
    rw [List.mem_singleton] at hq
    rw [hq]; exact List.mem_singleton.mpr rfl
  refine rg_Jaload FH.1 5 5 dL_what_0 rfl ?_
  refine rg_Jiconst FH.1 dL_what_2 ?_
  refine rg_Jaload_n FH.1 0 0 rfl dL_what_3 rfl ?_
  refine rg_Jiload_n FH.1 1 1 rfl dL_what_4 rfl ?_
  refine rg_Jiload_n FH.1 2 2 rfl dL_what_5 rfl ?_
  refine rg_Jiload_n FH.1 3 3 rfl dL_what_6 rfl ?_
  refine rg_Jiload FH.1 4 4 dL_what_7 rfl ?_
  refine rg_HcallI FH.1 FH.2.1 hos ⟨Nat.zero_le _, Nat.zero_le _⟩ [.int (rg_I p1), .int (rg_I p2), .int (rg_I p3), .int (rg_I p4)] [.int (rg_I 0), .ref o] 0 hM tC0 cX9 v_X9_what i_X9_what k_ml_L_88 hR rfl (Nat.le_of_ble_eq_true rfl) dL_what_9 (fun r σ1 hp => ?_)
  refine rg_Ji2l FH.1 dL_what_12 ?_
  refine rg_Jlast FH dL_what_13 ?_
  refine rg_Jgoto FH.1 29 dL_what_14 (by decide) ?_
  refine rg_Jiconst FH.1 dL_what_29 ?_
  exact hR9 _ _ _ _ _ _ _ (Nat.zero_le _) (Nat.zero_le _) dL_what_30 ⟨rfl, _, hp, rfl⟩
theorem k_L_what_1 (κ : rg_K) (co : ClassId × ClassId) {σ : rg_S} {p1 : Int} {p2 : Int} {p3 : Int} {p4 : Int} {o : Nat} {f : Nat → Int64} {fr1 lo1 : Nat} {σ1 : rg_S} (hM : rg_TX κ rg_tC yX9_what cX9_what 5 (some FieldType.int) fr1 lo1 [.ref (κ.2.2.2 0), .int (rg_I p1), .int (rg_I p2), .int (rg_I p3), .int (rg_I p4)] σ σ1 "java/lang/IndexOutOfBoundsException") (hR : fr1 + 1 ≤ 11 ∧ 8 + (5 + 11) + lo1 ≤ 200) : rg_HC κ co yL_what cL_what 7 [(0, 14, 17, 27), (0, 14, 21, 13), (0, 14, 25, 21)] [.ref (κ.2.2.2 0), .int (rg_I p1), .int (rg_I p2), .int (rg_I p3), .int (rg_I p4), .ref o] σ [o] [rg_eL co o f] (fun k σ9 ws9 => k = 1 ∧ σ9 = σ1 ∧ ws9 = [rg_eL co o f]) := by
  refine rg_entH [(0, .ref (κ.2.2.2 0)), (1, .int (rg_I p1)), (2, .int (rg_I p2)), (3, .int (rg_I p3)), (4, .int (rg_I p4)), (5, .ref o)] rfl (by decide +kernel) (Nat.le_of_ble_eq_true rfl) (fun Γ FH hR9 => ?_)
  have hos : ∀ q ∈ ([rg_eL co o f] : va_W), q.1 ∈ [o] := by
    intro q hq
    rw [List.mem_singleton] at hq
    rw [hq]; exact List.mem_singleton.mpr rfl
  refine rg_Jaload FH.1 5 5 dL_what_0 rfl ?_
  refine rg_Jiconst FH.1 dL_what_2 ?_
  refine rg_Jaload_n FH.1 0 0 rfl dL_what_3 rfl ?_
  refine rg_Jiload_n FH.1 1 1 rfl dL_what_4 rfl ?_
  refine rg_Jiload_n FH.1 2 2 rfl dL_what_5 rfl ?_
  refine rg_Jiload_n FH.1 3 3 rfl dL_what_6 rfl ?_
  refine rg_Jiload FH.1 4 4 dL_what_7 rfl ?_
  refine rg_HcallX FH.1 FH.2.1 hos ⟨Nat.le_refl 1, Nat.le_refl 6⟩ [.int (rg_I p1), .int (rg_I p2), .int (rg_I p3), .int (rg_I p4)] [.int (rg_I 0), .ref o] 0 hM tC0 cX9 v_X9_what i_X9_what k_ml_L_88 hR rfl (Nat.le_of_ble_eq_true rfl) dL_what_9 [] ⟨0, 14, 17, 27⟩ [⟨0, 14, 21, 13⟩, ⟨0, 14, 25, 21⟩] (FH.2.2.2.2.1.trans rfl) (fun z hz => absurd hz List.not_mem_nil) rfl (by decide) k_cl_L_27 (List.mem_of_getElem? (i := 6) rfl) (fun q9 => ?_)
  refine rg_Jastore FH.1 [(6, .ref q9), (0, .ref (κ.2.2.2 0)), (1, .int (rg_I p1)), (2, .int (rg_I p2)), (3, .int (rg_I p3)), (4, .int (rg_I p4)), (5, .ref o)] dL_what_17 (by decide) rfl ?_
  refine rg_Jiconst FH.1 dL_what_19 ?_
  exact hR9 _ _ _ _ _ _ _ (Nat.le_refl 1) (Nat.le_refl 6) dL_what_20 ⟨rfl, rfl, rfl⟩
theorem k_L_what_2 (κ : rg_K) (co : ClassId × ClassId) {σ : rg_S} {p1 : Int} {p2 : Int} {p3 : Int} {p4 : Int} {o : Nat} {f : Nat → Int64} {fr1 lo1 : Nat} {σ1 : rg_S} (hM : rg_TX κ rg_tC yX9_what cX9_what 5 (some FieldType.int) fr1 lo1 [.ref (κ.2.2.2 0), .int (rg_I p1), .int (rg_I p2), .int (rg_I p3), .int (rg_I p4)] σ σ1 "java/lang/IllegalStateException") (hR : fr1 + 1 ≤ 11 ∧ 8 + (5 + 11) + lo1 ≤ 200) : rg_HC κ co yL_what cL_what 7 [(0, 14, 17, 27), (0, 14, 21, 13), (0, 14, 25, 21)] [.ref (κ.2.2.2 0), .int (rg_I p1), .int (rg_I p2), .int (rg_I p3), .int (rg_I p4), .ref o] σ [o] [rg_eL co o f] (fun k σ9 ws9 => k = 2 ∧ σ9 = σ1 ∧ ws9 = [rg_eL co o f]) := by
  refine rg_entH [(0, .ref (κ.2.2.2 0)), (1, .int (rg_I p1)), (2, .int (rg_I p2)), (3, .int (rg_I p3)), (4, .int (rg_I p4)), (5, .ref o)] rfl (by decide +kernel) (Nat.le_of_ble_eq_true rfl) (fun Γ FH hR9 => ?_)
  have hos : ∀ q ∈ ([rg_eL co o f] : va_W), q.1 ∈ [o] := by
    intro q hq
    rw [List.mem_singleton] at hq
    rw [hq]; exact List.mem_singleton.mpr rfl
  refine rg_Jaload FH.1 5 5 dL_what_0 rfl ?_
  refine rg_Jiconst FH.1 dL_what_2 ?_
  refine rg_Jaload_n FH.1 0 0 rfl dL_what_3 rfl ?_
  refine rg_Jiload_n FH.1 1 1 rfl dL_what_4 rfl ?_
  refine rg_Jiload_n FH.1 2 2 rfl dL_what_5 rfl ?_
  refine rg_Jiload_n FH.1 3 3 rfl dL_what_6 rfl ?_
  refine rg_Jiload FH.1 4 4 dL_what_7 rfl ?_
  refine rg_HcallX FH.1 FH.2.1 hos ⟨Nat.le_refl 1, Nat.le_refl 6⟩ [.int (rg_I p1), .int (rg_I p2), .int (rg_I p3), .int (rg_I p4)] [.int (rg_I 0), .ref o] 0 hM tC0 cX9 v_X9_what i_X9_what k_ml_L_88 hR rfl (Nat.le_of_ble_eq_true rfl) dL_what_9 [⟨0, 14, 17, 27⟩] ⟨0, 14, 21, 13⟩ [⟨0, 14, 25, 21⟩] (FH.2.2.2.2.1.trans rfl) (by
    intro z hz
    simp only [List.mem_cons, List.not_mem_nil, or_false] at hz
    rcases hz with rfl
    · exact Or.inr ⟨by decide, "java/lang/IndexOutOfBoundsException", k_cl_L_27, FH.2.2.2.2.2 ("java/lang/IllegalStateException", "java/lang/IndexOutOfBoundsException") (by decide +kernel)⟩) rfl (by decide) k_cl_L_13 (List.mem_of_getElem? (i := 3) rfl) (fun q9 => ?_)
  refine rg_Jastore FH.1 [(6, .ref q9), (0, .ref (κ.2.2.2 0)), (1, .int (rg_I p1)), (2, .int (rg_I p2)), (3, .int (rg_I p3)), (4, .int (rg_I p4)), (5, .ref o)] dL_what_21 (by decide) rfl ?_
  refine rg_Jiconst FH.1 dL_what_23 ?_
  exact hR9 _ _ _ _ _ _ _ (Nat.le_refl 1) (Nat.le_refl 6) dL_what_24 ⟨rfl, rfl, rfl⟩
theorem k_L_what_3 (κ : rg_K) (co : ClassId × ClassId) {σ : rg_S} {p1 : Int} {p2 : Int} {p3 : Int} {p4 : Int} {o : Nat} {f : Nat → Int64} {fr1 lo1 : Nat} {σ1 : rg_S} (hM : rg_TX κ rg_tC yX9_what cX9_what 5 (some FieldType.int) fr1 lo1 [.ref (κ.2.2.2 0), .int (rg_I p1), .int (rg_I p2), .int (rg_I p3), .int (rg_I p4)] σ σ1 "java/lang/IllegalArgumentException") (hR : fr1 + 1 ≤ 11 ∧ 8 + (5 + 11) + lo1 ≤ 200) : rg_HC κ co yL_what cL_what 7 [(0, 14, 17, 27), (0, 14, 21, 13), (0, 14, 25, 21)] [.ref (κ.2.2.2 0), .int (rg_I p1), .int (rg_I p2), .int (rg_I p3), .int (rg_I p4), .ref o] σ [o] [rg_eL co o f] (fun k σ9 ws9 => k = 3 ∧ σ9 = σ1 ∧ ws9 = [rg_eL co o f]) := by
  refine rg_entH [(0, .ref (κ.2.2.2 0)), (1, .int (rg_I p1)), (2, .int (rg_I p2)), (3, .int (rg_I p3)), (4, .int (rg_I p4)), (5, .ref o)] rfl (by decide +kernel) (Nat.le_of_ble_eq_true rfl) (fun Γ FH hR9 => ?_)
  have hos : ∀ q ∈ ([rg_eL co o f] : va_W), q.1 ∈ [o] := by
    intro q hq
    rw [List.mem_singleton] at hq
    rw [hq]; exact List.mem_singleton.mpr rfl
  refine rg_Jaload FH.1 5 5 dL_what_0 rfl ?_
  refine rg_Jiconst FH.1 dL_what_2 ?_
  refine rg_Jaload_n FH.1 0 0 rfl dL_what_3 rfl ?_
  refine rg_Jiload_n FH.1 1 1 rfl dL_what_4 rfl ?_
  refine rg_Jiload_n FH.1 2 2 rfl dL_what_5 rfl ?_
  refine rg_Jiload_n FH.1 3 3 rfl dL_what_6 rfl ?_
  refine rg_Jiload FH.1 4 4 dL_what_7 rfl ?_
  refine rg_HcallX FH.1 FH.2.1 hos ⟨Nat.le_refl 1, Nat.le_refl 6⟩ [.int (rg_I p1), .int (rg_I p2), .int (rg_I p3), .int (rg_I p4)] [.int (rg_I 0), .ref o] 0 hM tC0 cX9 v_X9_what i_X9_what k_ml_L_88 hR rfl (Nat.le_of_ble_eq_true rfl) dL_what_9 [⟨0, 14, 17, 27⟩, ⟨0, 14, 21, 13⟩] ⟨0, 14, 25, 21⟩ [] (FH.2.2.2.2.1.trans rfl) (by
    intro z hz
    simp only [List.mem_cons, List.not_mem_nil, or_false] at hz
    rcases hz with rfl | rfl
    · exact Or.inr ⟨by decide, "java/lang/IndexOutOfBoundsException", k_cl_L_27, FH.2.2.2.2.2 ("java/lang/IllegalArgumentException", "java/lang/IndexOutOfBoundsException") (by decide +kernel)⟩
    · exact Or.inr ⟨by decide, "java/lang/IllegalStateException", k_cl_L_13, FH.2.2.2.2.2 ("java/lang/IllegalArgumentException", "java/lang/IllegalStateException") (by decide +kernel)⟩) rfl (by decide) k_cl_L_21 (List.mem_of_getElem? (i := 5) rfl) (fun q9 => ?_)
  refine rg_Jastore FH.1 [(6, .ref q9), (0, .ref (κ.2.2.2 0)), (1, .int (rg_I p1)), (2, .int (rg_I p2)), (3, .int (rg_I p3)), (4, .int (rg_I p4)), (5, .ref o)] dL_what_25 (by decide) rfl ?_
  refine rg_Jiconst FH.1 dL_what_27 ?_
  exact hR9 _ _ _ _ _ _ _ (Nat.le_refl 1) (Nat.le_refl 6) dL_what_28 ⟨rfl, rfl, rfl⟩
theorem k_L_missing_o (κ : rg_K) (co : ClassId × ClassId) {σ : rg_S} {p1 : Int} {p2 : Int} {o : Nat} {f : Nat → Int64} {fr1 lo1 : Nat} {post : Int → rg_S → Prop} (hM : rg_CI κ rg_tC yX9_missing cX9_missing 5 FieldType.int fr1 lo1 [.ref (κ.2.2.2 0), .int (rg_I p1), .int (rg_I p2)] σ post) (hR : fr1 + 1 ≤ 11 ∧ 8 + (5 + 11) + lo1 ≤ 200) : rg_HC κ co yL_missing cL_missing 5 [(0, 10, 13, 27)] [.ref (κ.2.2.2 0), .int (rg_I p1), .int (rg_I p2), .ref o] σ [o] [rg_eL co o f] (fun k σ9 ws9 => k = 0 ∧ ∃ r, post r σ9 ∧ ws9 = [rg_eL co o (vp_updL f 0 (rg_I r).toInt64)]) := by
  refine rg_entH [(0, .ref (κ.2.2.2 0)), (1, .int (rg_I p1)), (2, .int (rg_I p2)), (3, .ref o)] rfl (by decide +kernel) (Nat.le_of_ble_eq_true rfl) (fun Γ FH hR9 => ?_)
  have hos : ∀ q ∈ ([rg_eL co o f] : va_W), q.1 ∈ [o] := by
    intro q hq
    rw [List.mem_singleton] at hq
    rw [hq]; exact List.mem_singleton.mpr rfl
  refine rg_Jaload_n FH.1 3 3 rfl dL_missing_0 rfl ?_
  refine rg_Jiconst FH.1 dL_missing_1 ?_
  refine rg_Jaload_n FH.1 0 0 rfl dL_missing_2 rfl ?_
  refine rg_Jiload_n FH.1 1 1 rfl dL_missing_3 rfl ?_
  refine rg_Jiload_n FH.1 2 2 rfl dL_missing_4 rfl ?_
  refine rg_HcallI FH.1 FH.2.1 hos ⟨Nat.zero_le _, Nat.zero_le _⟩ [.int (rg_I p1), .int (rg_I p2)] [.int (rg_I 0), .ref o] 0 hM tC0 cX9 v_X9_missing i_X9_missing k_ml_L_91 hR rfl (Nat.le_of_ble_eq_true rfl) dL_missing_5 (fun r σ1 hp => ?_)
  refine rg_Ji2l FH.1 dL_missing_8 ?_
  refine rg_Jlast FH dL_missing_9 ?_
  refine rg_Jgoto FH.1 17 dL_missing_10 (by decide) ?_
  refine rg_Jiconst FH.1 dL_missing_17 ?_
  exact hR9 _ _ _ _ _ _ _ (Nat.zero_le _) (Nat.zero_le _) dL_missing_18 ⟨rfl, _, hp, rfl⟩
theorem k_L_missing_1 (κ : rg_K) (co : ClassId × ClassId) {σ : rg_S} {p1 : Int} {p2 : Int} {o : Nat} {f : Nat → Int64} {fr1 lo1 : Nat} {σ1 : rg_S} (hM : rg_TX κ rg_tC yX9_missing cX9_missing 5 (some FieldType.int) fr1 lo1 [.ref (κ.2.2.2 0), .int (rg_I p1), .int (rg_I p2)] σ σ1 "java/lang/IndexOutOfBoundsException") (hR : fr1 + 1 ≤ 11 ∧ 8 + (5 + 11) + lo1 ≤ 200) : rg_HC κ co yL_missing cL_missing 5 [(0, 10, 13, 27)] [.ref (κ.2.2.2 0), .int (rg_I p1), .int (rg_I p2), .ref o] σ [o] [rg_eL co o f] (fun k σ9 ws9 => k = 1 ∧ σ9 = σ1 ∧ ws9 = [rg_eL co o f]) := by
  refine rg_entH [(0, .ref (κ.2.2.2 0)), (1, .int (rg_I p1)), (2, .int (rg_I p2)), (3, .ref o)] rfl (by decide +kernel) (Nat.le_of_ble_eq_true rfl) (fun Γ FH hR9 => ?_)
  have hos : ∀ q ∈ ([rg_eL co o f] : va_W), q.1 ∈ [o] := by
    intro q hq
    rw [List.mem_singleton] at hq
    rw [hq]; exact List.mem_singleton.mpr rfl
  refine rg_Jaload_n FH.1 3 3 rfl dL_missing_0 rfl ?_
  refine rg_Jiconst FH.1 dL_missing_1 ?_
  refine rg_Jaload_n FH.1 0 0 rfl dL_missing_2 rfl ?_
  refine rg_Jiload_n FH.1 1 1 rfl dL_missing_3 rfl ?_
  refine rg_Jiload_n FH.1 2 2 rfl dL_missing_4 rfl ?_
  refine rg_HcallX FH.1 FH.2.1 hos ⟨Nat.le_refl 1, Nat.le_refl 6⟩ [.int (rg_I p1), .int (rg_I p2)] [.int (rg_I 0), .ref o] 0 hM tC0 cX9 v_X9_missing i_X9_missing k_ml_L_91 hR rfl (Nat.le_of_ble_eq_true rfl) dL_missing_5 [] ⟨0, 10, 13, 27⟩ [] (FH.2.2.2.2.1.trans rfl) (fun z hz => absurd hz List.not_mem_nil) rfl (by decide) k_cl_L_27 (List.mem_of_getElem? (i := 6) rfl) (fun q9 => ?_)
  refine rg_Jastore FH.1 [(4, .ref q9), (0, .ref (κ.2.2.2 0)), (1, .int (rg_I p1)), (2, .int (rg_I p2)), (3, .ref o)] dL_missing_13 (by decide) rfl ?_
  refine rg_Jiconst FH.1 dL_missing_15 ?_
  exact hR9 _ _ _ _ _ _ _ (Nat.le_refl 1) (Nat.le_refl 6) dL_missing_16 ⟨rfl, rfl, rfl⟩
theorem k_L_told_o (κ : rg_K) (co : ClassId × ClassId) {σ : rg_S} {p1 : Int} {p2 : Int} {o : Nat} {f : Nat → Int64} {fr1 lo1 : Nat} {post : Int → rg_S → Prop} (hM : rg_CI κ rg_tC yX9_told cX9_told 3 FieldType.int fr1 lo1 [.ref (κ.2.2.2 0), .int (rg_I p1), .int (rg_I p2)] σ post) (hR : fr1 + 1 ≤ 11 ∧ 8 + (3 + 11) + lo1 ≤ 200) : rg_HC κ co yL_told cL_told 5 [(0, 10, 13, 27), (0, 10, 17, 21)] [.ref (κ.2.2.2 0), .int (rg_I p1), .int (rg_I p2), .ref o] σ [o] [rg_eL co o f] (fun k σ9 ws9 => k = 0 ∧ ∃ r, post r σ9 ∧ ws9 = [rg_eL co o (vp_updL f 0 (rg_I r).toInt64)]) := by
  refine rg_entH [(0, .ref (κ.2.2.2 0)), (1, .int (rg_I p1)), (2, .int (rg_I p2)), (3, .ref o)] rfl (by decide +kernel) (Nat.le_of_ble_eq_true rfl) (fun Γ FH hR9 => ?_)
  have hos : ∀ q ∈ ([rg_eL co o f] : va_W), q.1 ∈ [o] := by
    intro q hq
    rw [List.mem_singleton] at hq
    rw [hq]; exact List.mem_singleton.mpr rfl
  refine rg_Jaload_n FH.1 3 3 rfl dL_told_0 rfl ?_
  refine rg_Jiconst FH.1 dL_told_1 ?_
  refine rg_Jaload_n FH.1 0 0 rfl dL_told_2 rfl ?_
  refine rg_Jiload_n FH.1 1 1 rfl dL_told_3 rfl ?_
  refine rg_Jiload_n FH.1 2 2 rfl dL_told_4 rfl ?_
  refine rg_HcallI FH.1 FH.2.1 hos ⟨Nat.zero_le _, Nat.zero_le _⟩ [.int (rg_I p1), .int (rg_I p2)] [.int (rg_I 0), .ref o] 0 hM tC0 cX9 v_X9_told i_X9_told k_ml_L_94 hR rfl (Nat.le_of_ble_eq_true rfl) dL_told_5 (fun r σ1 hp => ?_)
  refine rg_Ji2l FH.1 dL_told_8 ?_
  refine rg_Jlast FH dL_told_9 ?_
  refine rg_Jgoto FH.1 21 dL_told_10 (by decide) ?_
  refine rg_Jiconst FH.1 dL_told_21 ?_
  exact hR9 _ _ _ _ _ _ _ (Nat.zero_le _) (Nat.zero_le _) dL_told_22 ⟨rfl, _, hp, rfl⟩
theorem k_L_told_1 (κ : rg_K) (co : ClassId × ClassId) {σ : rg_S} {p1 : Int} {p2 : Int} {o : Nat} {f : Nat → Int64} {fr1 lo1 : Nat} {σ1 : rg_S} (hM : rg_TX κ rg_tC yX9_told cX9_told 3 (some FieldType.int) fr1 lo1 [.ref (κ.2.2.2 0), .int (rg_I p1), .int (rg_I p2)] σ σ1 "java/lang/IndexOutOfBoundsException") (hR : fr1 + 1 ≤ 11 ∧ 8 + (3 + 11) + lo1 ≤ 200) : rg_HC κ co yL_told cL_told 5 [(0, 10, 13, 27), (0, 10, 17, 21)] [.ref (κ.2.2.2 0), .int (rg_I p1), .int (rg_I p2), .ref o] σ [o] [rg_eL co o f] (fun k σ9 ws9 => k = 1 ∧ σ9 = σ1 ∧ ws9 = [rg_eL co o f]) := by
  refine rg_entH [(0, .ref (κ.2.2.2 0)), (1, .int (rg_I p1)), (2, .int (rg_I p2)), (3, .ref o)] rfl (by decide +kernel) (Nat.le_of_ble_eq_true rfl) (fun Γ FH hR9 => ?_)
  have hos : ∀ q ∈ ([rg_eL co o f] : va_W), q.1 ∈ [o] := by
    intro q hq
    rw [List.mem_singleton] at hq
    rw [hq]; exact List.mem_singleton.mpr rfl
  refine rg_Jaload_n FH.1 3 3 rfl dL_told_0 rfl ?_
  refine rg_Jiconst FH.1 dL_told_1 ?_
  refine rg_Jaload_n FH.1 0 0 rfl dL_told_2 rfl ?_
  refine rg_Jiload_n FH.1 1 1 rfl dL_told_3 rfl ?_
  refine rg_Jiload_n FH.1 2 2 rfl dL_told_4 rfl ?_
  refine rg_HcallX FH.1 FH.2.1 hos ⟨Nat.le_refl 1, Nat.le_refl 6⟩ [.int (rg_I p1), .int (rg_I p2)] [.int (rg_I 0), .ref o] 0 hM tC0 cX9 v_X9_told i_X9_told k_ml_L_94 hR rfl (Nat.le_of_ble_eq_true rfl) dL_told_5 [] ⟨0, 10, 13, 27⟩ [⟨0, 10, 17, 21⟩] (FH.2.2.2.2.1.trans rfl) (fun z hz => absurd hz List.not_mem_nil) rfl (by decide) k_cl_L_27 (List.mem_of_getElem? (i := 6) rfl) (fun q9 => ?_)
  refine rg_Jastore FH.1 [(4, .ref q9), (0, .ref (κ.2.2.2 0)), (1, .int (rg_I p1)), (2, .int (rg_I p2)), (3, .ref o)] dL_told_13 (by decide) rfl ?_
  refine rg_Jiconst FH.1 dL_told_15 ?_
  exact hR9 _ _ _ _ _ _ _ (Nat.le_refl 1) (Nat.le_refl 6) dL_told_16 ⟨rfl, rfl, rfl⟩
theorem k_L_told_2 (κ : rg_K) (co : ClassId × ClassId) {σ : rg_S} {p1 : Int} {p2 : Int} {o : Nat} {f : Nat → Int64} {fr1 lo1 : Nat} {σ1 : rg_S} (hM : rg_TX κ rg_tC yX9_told cX9_told 3 (some FieldType.int) fr1 lo1 [.ref (κ.2.2.2 0), .int (rg_I p1), .int (rg_I p2)] σ σ1 "java/lang/IllegalArgumentException") (hR : fr1 + 1 ≤ 11 ∧ 8 + (3 + 11) + lo1 ≤ 200) : rg_HC κ co yL_told cL_told 5 [(0, 10, 13, 27), (0, 10, 17, 21)] [.ref (κ.2.2.2 0), .int (rg_I p1), .int (rg_I p2), .ref o] σ [o] [rg_eL co o f] (fun k σ9 ws9 => k = 2 ∧ σ9 = σ1 ∧ ws9 = [rg_eL co o f]) := by
  refine rg_entH [(0, .ref (κ.2.2.2 0)), (1, .int (rg_I p1)), (2, .int (rg_I p2)), (3, .ref o)] rfl (by decide +kernel) (Nat.le_of_ble_eq_true rfl) (fun Γ FH hR9 => ?_)
  have hos : ∀ q ∈ ([rg_eL co o f] : va_W), q.1 ∈ [o] := by
    intro q hq
    rw [List.mem_singleton] at hq
    rw [hq]; exact List.mem_singleton.mpr rfl
  refine rg_Jaload_n FH.1 3 3 rfl dL_told_0 rfl ?_
  refine rg_Jiconst FH.1 dL_told_1 ?_
  refine rg_Jaload_n FH.1 0 0 rfl dL_told_2 rfl ?_
  refine rg_Jiload_n FH.1 1 1 rfl dL_told_3 rfl ?_
  refine rg_Jiload_n FH.1 2 2 rfl dL_told_4 rfl ?_
  refine rg_HcallX FH.1 FH.2.1 hos ⟨Nat.le_refl 1, Nat.le_refl 6⟩ [.int (rg_I p1), .int (rg_I p2)] [.int (rg_I 0), .ref o] 0 hM tC0 cX9 v_X9_told i_X9_told k_ml_L_94 hR rfl (Nat.le_of_ble_eq_true rfl) dL_told_5 [⟨0, 10, 13, 27⟩] ⟨0, 10, 17, 21⟩ [] (FH.2.2.2.2.1.trans rfl) (by
    intro z hz
    simp only [List.mem_cons, List.not_mem_nil, or_false] at hz
    rcases hz with rfl
    · exact Or.inr ⟨by decide, "java/lang/IndexOutOfBoundsException", k_cl_L_27, FH.2.2.2.2.2 ("java/lang/IllegalArgumentException", "java/lang/IndexOutOfBoundsException") (by decide +kernel)⟩) rfl (by decide) k_cl_L_21 (List.mem_of_getElem? (i := 5) rfl) (fun q9 => ?_)
  refine rg_Jastore FH.1 [(4, .ref q9), (0, .ref (κ.2.2.2 0)), (1, .int (rg_I p1)), (2, .int (rg_I p2)), (3, .ref o)] dL_told_17 (by decide) rfl ?_
  refine rg_Jiconst FH.1 dL_told_19 ?_
  exact hR9 _ _ _ _ _ _ _ (Nat.le_refl 1) (Nat.le_refl 6) dL_told_20 ⟨rfl, rfl, rfl⟩
theorem k_L_sheetByte_o (κ : rg_K) (co : ClassId × ClassId) {σ : rg_S} {p1 : Int} {o : Nat} {f : Nat → Int64} {fr1 lo1 : Nat} {post : Int → rg_S → Prop} (hM : rg_CI κ rg_tC yX9_sheetByte cX9_sheetByte 2 FieldType.int fr1 lo1 [.ref (κ.2.2.2 0), .int (rg_I p1)] σ post) (hR : fr1 + 1 ≤ 11 ∧ 8 + (2 + 11) + lo1 ≤ 200) : rg_HC κ co yL_sheetByte cL_sheetByte 4 [(0, 9, 12, 27)] [.ref (κ.2.2.2 0), .int (rg_I p1), .ref o] σ [o] [rg_eL co o f] (fun k σ9 ws9 => k = 0 ∧ ∃ r, post r σ9 ∧ ws9 = [rg_eL co o (vp_updL f 0 (rg_I r).toInt64)]) := by
  refine rg_entH [(0, .ref (κ.2.2.2 0)), (1, .int (rg_I p1)), (2, .ref o)] rfl (by decide +kernel) (Nat.le_of_ble_eq_true rfl) (fun Γ FH hR9 => ?_)
  have hos : ∀ q ∈ ([rg_eL co o f] : va_W), q.1 ∈ [o] := by
    intro q hq
    rw [List.mem_singleton] at hq
    rw [hq]; exact List.mem_singleton.mpr rfl
  refine rg_Jaload_n FH.1 2 2 rfl dL_sheetByte_0 rfl ?_
  refine rg_Jiconst FH.1 dL_sheetByte_1 ?_
  refine rg_Jaload_n FH.1 0 0 rfl dL_sheetByte_2 rfl ?_
  refine rg_Jiload_n FH.1 1 1 rfl dL_sheetByte_3 rfl ?_
  refine rg_HcallI FH.1 FH.2.1 hos ⟨Nat.zero_le _, Nat.zero_le _⟩ [.int (rg_I p1)] [.int (rg_I 0), .ref o] 0 hM tC0 cX9 v_X9_sheetByte i_X9_sheetByte k_ml_L_97 hR rfl (Nat.le_of_ble_eq_true rfl) dL_sheetByte_4 (fun r σ1 hp => ?_)
  refine rg_Ji2l FH.1 dL_sheetByte_7 ?_
  refine rg_Jlast FH dL_sheetByte_8 ?_
  refine rg_Jgoto FH.1 15 dL_sheetByte_9 (by decide) ?_
  refine rg_Jiconst FH.1 dL_sheetByte_15 ?_
  exact hR9 _ _ _ _ _ _ _ (Nat.zero_le _) (Nat.zero_le _) dL_sheetByte_16 ⟨rfl, _, hp, rfl⟩
theorem k_L_sheetByte_1 (κ : rg_K) (co : ClassId × ClassId) {σ : rg_S} {p1 : Int} {o : Nat} {f : Nat → Int64} {fr1 lo1 : Nat} {σ1 : rg_S} (hM : rg_TX κ rg_tC yX9_sheetByte cX9_sheetByte 2 (some FieldType.int) fr1 lo1 [.ref (κ.2.2.2 0), .int (rg_I p1)] σ σ1 "java/lang/IndexOutOfBoundsException") (hR : fr1 + 1 ≤ 11 ∧ 8 + (2 + 11) + lo1 ≤ 200) : rg_HC κ co yL_sheetByte cL_sheetByte 4 [(0, 9, 12, 27)] [.ref (κ.2.2.2 0), .int (rg_I p1), .ref o] σ [o] [rg_eL co o f] (fun k σ9 ws9 => k = 1 ∧ σ9 = σ1 ∧ ws9 = [rg_eL co o f]) := by
  refine rg_entH [(0, .ref (κ.2.2.2 0)), (1, .int (rg_I p1)), (2, .ref o)] rfl (by decide +kernel) (Nat.le_of_ble_eq_true rfl) (fun Γ FH hR9 => ?_)
  have hos : ∀ q ∈ ([rg_eL co o f] : va_W), q.1 ∈ [o] := by
    intro q hq
    rw [List.mem_singleton] at hq
    rw [hq]; exact List.mem_singleton.mpr rfl
  refine rg_Jaload_n FH.1 2 2 rfl dL_sheetByte_0 rfl ?_
  refine rg_Jiconst FH.1 dL_sheetByte_1 ?_
  refine rg_Jaload_n FH.1 0 0 rfl dL_sheetByte_2 rfl ?_
  refine rg_Jiload_n FH.1 1 1 rfl dL_sheetByte_3 rfl ?_
  refine rg_HcallX FH.1 FH.2.1 hos ⟨Nat.le_refl 1, Nat.le_refl 6⟩ [.int (rg_I p1)] [.int (rg_I 0), .ref o] 0 hM tC0 cX9 v_X9_sheetByte i_X9_sheetByte k_ml_L_97 hR rfl (Nat.le_of_ble_eq_true rfl) dL_sheetByte_4 [] ⟨0, 9, 12, 27⟩ [] (FH.2.2.2.2.1.trans rfl) (fun z hz => absurd hz List.not_mem_nil) rfl (by decide) k_cl_L_27 (List.mem_of_getElem? (i := 6) rfl) (fun q9 => ?_)
  refine rg_Jastore_n FH.1 [(3, .ref q9), (0, .ref (κ.2.2.2 0)), (1, .int (rg_I p1)), (2, .ref o)] dL_sheetByte_12 rfl (by decide) rfl ?_
  refine rg_Jiconst FH.1 dL_sheetByte_13 ?_
  exact hR9 _ _ _ _ _ _ _ (Nat.le_refl 1) (Nat.le_refl 6) dL_sheetByte_14 ⟨rfl, rfl, rfl⟩
