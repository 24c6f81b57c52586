/-! One step of the law: the sheet. -/
theorem e_sheet {σ0 τ : rg_S} {nb nr nd ns : Nat} (hC : rg_IC σ0 nb nr nd ns) (hM : rg_IM τ nb nr nd ns 0) (hR : rg_R σ0 τ nb nr nd) :
    (∀ b, b < nb → ∀ r, r < nr → ¬ rg_zI σ0 nd nb nr (r * 40 + b) = 0 → 0 ≤ rg_zC σ0 nd nb nr (r * 40 + b) ∧ rg_zC σ0 nd nb nr (r * 40 + b) < 1000000) ∧ (∀ b, b < nb → 0 ≤ rg_zN σ0 nd nb nr ns b ∧ rg_zN σ0 nd nb nr ns b < 1000000) ∧ (∀ b, b < nb → 0 ≤ rg_zG σ0 nd nb nr b ∧ rg_zG σ0 nd nb nr b < 1000000) := by
  obtain ⟨q1, q2, q3, q4, q5, q6⟩ := rg_Zq hC hR
  refine ⟨fun b hb r hr hz => ?_, fun b hb => ?_, fun b hb => ?_⟩
  · rw [q4 r b hr hb ((q2 r b hr hb).mp hz)]
    have := rg_ms2_bd hM hr hb
    omega
  · rw [(q6 b hb).2.2.1]
    have h1 := rg_kN_0 hM hb
    have h2 := rg_kN_bd hM hb
    omega
  · rw [(q6 b hb).2.1]
    have h2 := rg_kG_bd hM hb
    omega
abbrev rg_qS (κ κM : rg_K) (σ τ : rg_S) : Prop := ∃ (V : Int) (σ9 τ9 : rg_S) (nb nr nd ns : Nat), rg_CI κ rg_tC yX9_sheet cX9_sheet 2 .int 7 152 [.ref (κ.2.2.2 0)] σ (fun r s => r = V ∧ s = σ9) ∧ rg_CI κM rg_tM yX10_sheet cX10_sheet 2 .int 7 164 [.ref (κM.2.2.2 0)] τ (fun r s => r = V ∧ s = τ9) ∧ rg_Z σ9 τ9 nb nr nd ns
theorem s_sheet (κ κM : rg_K) {σ τ : rg_S} {nb nr nd ns : Nat} (h : rg_Z σ τ nb nr nd ns) : rg_qS κ κM σ τ := by
  by_cases hs : σ 0 9 = 0
  · obtain ⟨σ0, hC0, hR0, hrest⟩ := h.r hs
    have hl := rg_sheet_len hC0 h.M hR0
    have eF := e_sheet hC0 h.M hR0
    have hE : rg_sh (rg_ln (σ 28) (σ 35) (σ 34) (σ 25) (σ 27) (σ 38) (σ 39) nr) (fun k => Int.toNat ((σ 41) k)) nb = rg_sh (rg_sL (rg_kS τ 0 nd nb nr) (τ 4) (τ 2) (τ 3) (rg_kT τ 0 nd nb nr) (rg_ctb (τ 20) nr nb (fun _ _ => True) (rg_kD τ 0 nd nb nr ns)) (rg_kE τ 0 nd nb nr) (rg_kP τ 0 nd nb nr) (rg_hd (τ 22) nb (rg_kN τ 0 nd nb nr ns)) (rg_hd (τ 21) nb (rg_kG τ 0 nd nb nr)) nr) (fun k => Int.toNat (rg_bo (rg_hd (τ 25) nb (fun c => ((rg_rO (rg_kO τ 0 nd nb nr ns) nb c : Nat) : Int))) ((k + 1 : Nat) : Int) nb)) nb := by rw [hrest.c28, hrest.c35, hrest.c34, hrest.c25, hrest.c27, hrest.c38, hrest.c39, hrest.c41]; exact rg_sheet_eq hC0 h.M hR0
    have hok : rg_okE (σ 25) (σ 26) (σ 27) := by rw [hrest.c25, hrest.c26, hrest.c27]; exact rg_zE_ok hC0
    have hdis : ∀ i, rg_Rg (σ 35 i) := by rw [hrest.c35]; exact rg_zD_Rg hC0
    have hins : ∀ i, rg_Rg (σ 28 i) := by rw [hrest.c28]; exact rg_zI_Rg hC0
    have hsc : ∀ b, b < nb → ∀ r, r < nr → ¬ σ 28 (r * 40 + b) = 0 → 0 ≤ σ 34 (r * 40 + b) ∧ σ 34 (r * 40 + b) < 1000000 := by rw [hrest.c28, hrest.c34]; exact eF.1
    have hnt : ∀ b, b < nb → 0 ≤ σ 39 b ∧ σ 39 b < 1000000 := by rw [hrest.c39]; exact eF.2.1
    have hgr : ∀ b, b < nb → 0 ≤ σ 38 b ∧ σ 38 b < 1000000 := by rw [hrest.c38]; exact eF.2.2
    have hod : ∀ k, k < nb → 0 ≤ σ 41 k ∧ σ 41 k < nb := by rw [hrest.c41]; exact fun k hk => rg_zO_lt hk
    exact ⟨((rg_sh (rg_sL (rg_kS τ 0 nd nb nr) (τ 4) (τ 2) (τ 3) (rg_kT τ 0 nd nb nr) (rg_ctb (τ 20) nr nb (fun _ _ => True) (rg_kD τ 0 nd nb nr ns)) (rg_kE τ 0 nd nb nr) (rg_kP τ 0 nd nb nr) (rg_hd (τ 22) nb (rg_kN τ 0 nd nb nr ns)) (rg_hd (τ 21) nb (rg_kG τ 0 nd nb nr)) nr) (fun k => Int.toNat (rg_bo (rg_hd (τ 25) nb (fun c => ((rg_rO (rg_kO τ 0 nd nb nr ns) nb c : Nat) : Int))) ((k + 1 : Nat) : Int) nb)) nb).length : Nat), _, _, nb, nr, nd, ns, rg_CI_mono (k_X9_sheet_n κ σ (σ 0 9) nb nr nd ns rfl h.c12 h.c23 h.c44 h.c52 h.C h.st hs hok hdis hins hsc hnt hgr hod (by rw [hE]; exact hl)) (by rintro r9 s9 ⟨rfl, rfl⟩; exact ⟨by rw [hE], by rw [hE]⟩), rg_CI_mono (k_X10_sheet κM τ nb nr nd 0 ns h.m1 h.m4 h.m11 h.m16 h.m17 h.M (rg_kP_Rg h.M h.x17) (fun k hk => by rw [rg_bo_zO h.C h.M h.R hk]; exact rg_zO_lt hk) (by have q := rg_sheet_len h.C h.M h.R; omega)) (by rintro r9 s9 ⟨rfl, rfl⟩; exact ⟨rfl, rfl⟩), z_sheet h hl⟩
  · have hl := rg_sheet_len h.C h.M h.R
    have eF := e_sheet h.C h.M h.R
    have hE : rg_sh (rg_ln (rg_zI σ nd nb nr) (rg_zD σ nd nb nr ns) (rg_zC σ nd nb nr) (rg_zE σ nd) (rg_zP σ nd) (rg_zG σ nd nb nr) (rg_zN σ nd nb nr ns) nr) (fun k => Int.toNat ((rg_zO σ nd nb nr ns) k)) nb = rg_sh (rg_sL (rg_kS τ 0 nd nb nr) (τ 4) (τ 2) (τ 3) (rg_kT τ 0 nd nb nr) (rg_ctb (τ 20) nr nb (fun _ _ => True) (rg_kD τ 0 nd nb nr ns)) (rg_kE τ 0 nd nb nr) (rg_kP τ 0 nd nb nr) (rg_hd (τ 22) nb (rg_kN τ 0 nd nb nr ns)) (rg_hd (τ 21) nb (rg_kG τ 0 nd nb nr)) nr) (fun k => Int.toNat (rg_bo (rg_hd (τ 25) nb (fun c => ((rg_rO (rg_kO τ 0 nd nb nr ns) nb c : Nat) : Int))) ((k + 1 : Nat) : Int) nb)) nb := rg_sheet_eq h.C h.M h.R
    have hok := rg_zE_ok h.C
    have hdis := rg_zD_Rg h.C
    have hins := rg_zI_Rg h.C
    have hsc := eF.1
    have hnt := eF.2.1
    have hgr := eF.2.2
    have hod : ∀ k, k < nb → 0 ≤ rg_zO σ nd nb nr ns k ∧ rg_zO σ nd nb nr ns k < nb := fun k hk => rg_zO_lt hk
    exact ⟨((rg_sh (rg_sL (rg_kS τ 0 nd nb nr) (τ 4) (τ 2) (τ 3) (rg_kT τ 0 nd nb nr) (rg_ctb (τ 20) nr nb (fun _ _ => True) (rg_kD τ 0 nd nb nr ns)) (rg_kE τ 0 nd nb nr) (rg_kP τ 0 nd nb nr) (rg_hd (τ 22) nb (rg_kN τ 0 nd nb nr ns)) (rg_hd (τ 21) nb (rg_kG τ 0 nd nb nr)) nr) (fun k => Int.toNat (rg_bo (rg_hd (τ 25) nb (fun c => ((rg_rO (rg_kO τ 0 nd nb nr ns) nb c : Nat) : Int))) ((k + 1 : Nat) : Int) nb)) nb).length : Nat), _, _, nb, nr, nd, ns, rg_CI_mono (k_X9_sheet_y κ σ (σ 0 9) nb nr nd ns rfl h.c12 h.c23 h.c44 h.c52 h.C h.st hs hok hdis hins hsc hnt hgr hod (by rw [hE]; exact hl)) (by rintro r9 s9 ⟨rfl, rfl⟩; exact ⟨by rw [hE], by rw [z_sheetY, hE]; rfl⟩), rg_CI_mono (k_X10_sheet κM τ nb nr nd 0 ns h.m1 h.m4 h.m11 h.m16 h.m17 h.M (rg_kP_Rg h.M h.x17) (fun k hk => by rw [rg_bo_zO h.C h.M h.R hk]; exact rg_zO_lt hk) (by have q := rg_sheet_len h.C h.M h.R; omega)) (by rintro r9 s9 ⟨rfl, rfl⟩; exact ⟨rfl, rfl⟩), z_sheet (rg_Z_zW h) hl⟩
