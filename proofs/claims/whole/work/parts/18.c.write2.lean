/-! Split, what and the sheet keep the relation. -/
theorem rg_pf_bd (g v k : Int) : 0 ≤ rg_pf g v k ∧ rg_pf g v k ≤ 3 := by
  unfold rg_pf; (repeat' split) <;> omega
theorem rg_sF_al {od : Nat → Int} {g v : Int} {f : Nat → Int} (h : ∀ j, 0 ≤ f j ∧ f j ≤ 3) (k : Nat) : ∀ j, 0 ≤ rg_sF od g v f k j ∧ rg_sF od g v f k j ≤ 3 := by
  induction k with
  | zero => exact h
  | succ k ih => exact rg_up_al2 (P := fun z => 0 ≤ z ∧ z ≤ 3) ih (rg_pf_bd _ _ _)
theorem rg_sF_at {od f : Nat → Int} {g v : Int} {nb : Nat} (h1 : ∀ i, i < nb → 0 ≤ od i ∧ od i < nb) (h2 : ∀ i j, i < j → j < nb → ¬ od i = od j) : ∀ k, k ≤ nb → ∀ i, i < k → rg_sF od g v f k (Int.toNat (od i)) = rg_pf g v ((i : Int) + 1) := by
  intro k
  induction k with
  | zero => intro _ i hi; omega
  | succ k ih =>
    intro hk i hi
    rw [rg_sF]
    by_cases z : i = k
    · rw [z, rg_up_same]
    · have a := h1 i (by omega)
      have b := h1 k (by omega)
      have c := h2 i k (by omega) (by omega)
      rw [rg_up_ne _ _ (by omega)]
      exact ih (by omega) i (by omega)
theorem rg_sF_out {od f : Nat → Int} {g v : Int} {nb : Nat} (h1 : ∀ i, i < nb → 0 ≤ od i ∧ od i < nb) : ∀ k, k ≤ nb → ∀ j, nb ≤ j → rg_sF od g v f k j = f j := by
  intro k
  induction k with
  | zero => intro _ j _; rfl
  | succ k ih =>
    intro hk j hj
    have b := h1 k (by omega)
    rw [rg_sF, rg_up_ne _ _ (by omega)]
    exact ih (by omega) j hj
theorem rg_sF_pf {σ τ : rg_S} {nd nb nr ns : Nat} (hF : rg_RF σ τ) (hC : rg_IC σ nb nr nd ns) (hM : rg_IM τ nb nr nd ns 0) (hQ : rg_DQ σ τ nd nd nb nr ns 0) {f f' : Nat → Int} (hf : ∀ j, f j = f' j) (g v : Int) (j : Nat) :
    rg_sF (rg_zO σ nd nb nr ns) g v f nb j = rg_hd f' nb (fun c => rg_pf g v ((rg_rO (rg_kO τ 0 nd nb nr ns) nb c : Nat) : Int)) j := by
  have hG : ∀ a, rg_zR σ nd nb nr ns a 35 = (a : Int) := fun a => rg_zR_35 hC.hnr a
  have h1 := rg_OD_lt (rg_zR σ nd nb nr ns) (σ 41) nb
  have h2 := rg_OD_ne (od := σ 41) hG nb
  by_cases z : j < nb
  · rw [rg_hd_at _ _ z]
    obtain ⟨i, i1, i2⟩ := (rg_OD_so (od := σ 41) hG nb).2 j z
    have e := rg_sF_at (f := f) (g := g) (v := v) h1 h2 nb (Nat.le_refl _) i i1
    have e2 := rg_RK_at (rk := σ 42) h1 h2 nb (Nat.le_refl _) i i1
    have e3 := rg_zRK hF hC hM hQ z (σ 42)
    rw [i2, Int.toNat_natCast] at e e2
    have e4 : rg_RK (rg_zO σ nd nb nr ns) (σ 42) nb j = (i : Int) + 1 := e2
    rw [e4] at e3
    show rg_sF (rg_OD (rg_zR σ nd nb nr ns) (σ 41) nb) g v f nb j = rg_pf g v ((rg_rO (rg_kO τ 0 nd nb nr ns) nb j : Nat) : Int)
    rw [e, e3]
  · rw [rg_hd_out _ _ (by omega), ← hf j]
    exact rg_sF_out h1 nb (Nat.le_refl _) j (by omega)
theorem rg_kV_b (τ : rg_S) (nd nb nr : Nat) (c : Nat) (h1 : 1 ≤ c) (h2 : c ≤ 14) : rg_kV τ 0 nd nb nr c = τ c := by
  unfold rg_kV
  rw [rg_wr_ne _ _ (by omega), rg_wr_ne _ _ (by omega), rg_wr_ne _ _ (by omega), rg_wr_ne _ _ (by omega)]
theorem z_split {σ τ σ0 : rg_S} {nb nr nd ns : Nat} {g v : Int} {f0 : Nat → Int} (h : rg_Z σ τ nb nr nd ns) (hC0 : rg_IC σ0 nb nr nd ns) (hR0 : rg_R σ0 τ nb nr nd) (hrest : rg_rest σ σ0 nd nb nr ns) (hf0 : f0 9 = 1) (hsp : σ 1 3 = 0) : rg_Z (rg_wr (rg_wr (rg_wr σ 0 f0) 1 (rg_up (σ 1) 3 1)) 11 (rg_sF (σ 41) g v (σ 11) nb)) (rg_wr (rg_wr (rg_wr (rg_wr (rg_wr (rg_wr (rg_wr (rg_wr (rg_wr (rg_wr (rg_wr (rg_wr (rg_wr τ 0 (rg_up (rg_rA (rg_kK (rg_kV τ 0 nd nb nr) 0 nd nb nr ns) nb (rg_up (τ 0) 0 0) nb) 20 1)) 2 (rg_hd (τ 2) nb (fun c => rg_pf g v ((rg_rO (rg_kO (rg_kV τ 0 nd nb nr) 0 nd nb nr ns) nb c : Nat) : Int)))) 15 (rg_kE (rg_kV τ 0 nd nb nr) 0 nd nb nr)) 16 (rg_kA (rg_kV τ 0 nd nb nr) 0 nd nb nr)) 17 (rg_kP (rg_kV τ 0 nd nb nr) 0 nd nb nr)) 18 (rg_kS (rg_kV τ 0 nd nb nr) 0 nd nb nr)) 19 (rg_kT (rg_kV τ 0 nd nb nr) 0 nd nb nr)) 20 (rg_ctb (τ 20) nr nb (fun _ _ => True) (rg_kD (rg_kV τ 0 nd nb nr) 0 nd nb nr ns))) 21 (rg_hd (τ 21) nb (rg_kG (rg_kV τ 0 nd nb nr) 0 nd nb nr))) 22 (rg_hd (τ 22) nb (rg_kN (rg_kV τ 0 nd nb nr) 0 nd nb nr ns))) 23 (rg_hd (τ 23) nb (rg_kM (rg_kV τ 0 nd nb nr) 0 nd nb nr))) 24 (rg_hd (τ 24) nb (rg_kC (rg_kV τ 0 nd nb nr) 0 nd nb nr ns))) 25 (rg_hd (τ 25) nb (fun c => ((rg_rO (rg_kO (rg_kV τ 0 nd nb nr) 0 nd nb nr ns) nb c : Nat) : Int)))) nb nr nd ns := by
  have hMV : rg_IM (rg_kV τ 0 nd nb nr) nb nr nd ns 0 := rg_IM_kV h.M
  have hRV : rg_R σ0 (rg_kV τ 0 nd nb nr) nb nr nd := rg_R_m hR0 (rg_kV_b τ nd nb nr)
  exact ⟨h.c12, h.c23, h.c44, h.c52, (rg_rA_ne _ _ _ _ (by decide)).trans h.m1, (rg_rA_ne _ _ _ _ (by decide)).trans h.m4, (rg_rA_ne _ _ _ _ (by decide)).trans h.m11, (rg_rA_ne _ _ _ _ (by decide)).trans h.m17, (rg_rA_ne _ _ _ _ (by decide)).trans h.m16, rfl, Or.inr rfl, Or.inr hf0, ⟨h.C.hnb, h.C.hnr, h.C.hnd, h.C.hns, h.C.hok, h.C.hD, h.C.hro, (rg_sF_al h.C.hfl nb), h.C.hlt, h.C.hkd, h.C.hrf, h.C.hab, h.C.hsr, h.C.hsl, h.C.h28, h.C.h330, h.C.h34, h.C.h35, h.C.h39, h.C.h41⟩, ⟨h.M.hnb, h.M.hnr, h.M.hnd, h.M.hns, h.M.htr, h.M.hlo, (rg_hd_bd h.M.hfl (fun j _ => rg_pf_bd _ _ _)), h.M.hkd, h.M.hrf, h.M.hab, h.M.hpu, h.M.hpa, h.M.hpp, h.M.hwh, h.M.hwt, h.M.hwa, h.M.hro, h.M.hsr, h.M.hsm, (rg_kE_Rg hMV), (rg_kA_Rg hMV), (rg_kS_Rg hMV), (rg_w20_Rg hMV), (rg_hd_R2 h.M.h21 (fun b hb => by have := rg_kG_bd hMV hb; exact ⟨by omega, by omega⟩)), (rg_w22_bd hMV), (rg_hd_Rg h.M.h23 (fun b => by have := rg_kM_bd (σ := (rg_kV τ 0 nd nb nr)) (tr := 0) (nd := nd) (nb := nb) (nr := nr) (b := b); have := h.M.hnr; exact ⟨by omega, by omega⟩)), (rg_hd_Rg h.M.h24 (fun b => rg_kC_R h.M.hnr b)), (rg_hd_Rg h.M.h25 (fun c => rg_rO_Rg h.M.hnb c))⟩, ⟨(fun j => (congrFun (congrArg (fun od => rg_sF od g v (σ 11) nb) hrest.c41) j).trans (rg_sF_pf hRV.rf hC0 hMV (rg_Zq hC0 hRV) h.R.hfl g v j)), h.R.hlt, h.R.hkd, h.R.hrf, h.R.hab, h.R.hsr, h.R.hsl, h.R.hpu, h.R.hpa, h.R.hpp, h.R.hde, h.R.hrz, (fun r b hr _ _ => Or.inl (h.R.hsp hsp r hr)), (fun d hd => (h.R.hid d hd).imp (fun r q => q.imp (fun b q => ⟨q.1, q.2.1, Or.inl (h.R.hsp hsp r q.1.1)⟩))), (fun z => absurd (show (1 : Int) = 0 from z) (by decide))⟩, h.z, fun z => absurd (hf0.symm.trans z) (by decide), h.x25, h.x30, h.x35, h.x40, rg_kP_Rg hMV (rg_kP_Rg h.M h.x17), (by
    obtain ⟨L, a, b, c, d⟩ := h.s
    exact ⟨L, a, b, (rg_rA_ne _ _ _ _ (by decide)).trans c, d⟩)⟩
theorem z_splitY (σ : rg_S) (nd nb nr ns : Nat) (f0 X Y : Nat → Int) : (rg_wr (rg_wr (rg_wr (rg_wr (rg_wr (rg_wr (rg_wr (rg_wr (rg_wr (rg_wr (rg_wr (rg_wr (rg_wr (rg_wr (rg_wr (rg_wr (rg_wr (rg_wr (rg_wr (rg_wr (rg_wr σ 0 f0) 1 X) 11 Y) 25 (rg_zE σ nd)) 26 (rg_zA σ nd)) 27 (rg_zP σ nd)) 28 (rg_zI σ nd nb nr)) 29 (rg_zT σ nd nb nr)) 30 (rg_zS σ nd nb nr)) 31 (rg_hd (σ 31) nr (rg_SZ (σ 14) (σ 11) nb))) 32 (rg_s32 (σ 32) (rg_zE σ nd) (rg_zA σ nd) nb nr)) 33 (rg_s33 (σ 33) (rg_zE σ nd) (rg_zA σ nd) nb nr)) 34 (rg_zC σ nd nb nr)) 35 (rg_zD σ nd nb nr ns)) 36 (rg_zM σ nd nb nr)) 37 (rg_zK σ nd nb nr ns)) 38 (rg_zG σ nd nb nr)) 39 (rg_zN σ nd nb nr ns)) 40 (rg_rws nb (rg_zR σ nd nb nr ns))) 41 (rg_zO σ nd nb nr ns)) 42 (rg_RK (rg_zO σ nd nb nr ns) (σ 42) nb)) = rg_wr (rg_wr (rg_wr (rg_zW σ nd nb nr ns) 0 f0) 1 X) 11 Y := by
  funext c
  unfold rg_zW
  by_cases h0 : c = 0
  · subst h0; rfl
  by_cases h1 : c = 1
  · subst h1; rfl
  by_cases h11 : c = 11
  · subst h11; rfl
  simp only [rg_wr, if_neg h0, if_neg h1, if_neg h11]
theorem z_what_C {σ τ : rg_S} {nb nr nd ns : Nat} {r b c x : Int} (h : rg_Z σ τ nb nr nd ns) (hc : rg_wg (σ 14) (σ 11) ((nb : Nat) : Int) ((nr : Nat) : Int) r b c x = 0) : rg_IC (rg_wr (rg_wr (rg_wr (rg_wr (rg_wr (rg_wr (rg_wr (rg_wr (rg_wr (rg_wr (rg_wr (rg_wr (rg_wr (rg_wr (rg_wr (rg_wr (rg_wr (rg_wr (rg_wr (rg_wr σ 0 (rg_up (σ 0) 9 1)) 4 (rg_up (σ 4) 4 (((nd + 1 : Nat) : Int) - 1))) 19 (rg_up (σ 19) nd (((Int.toNat r * 40 + Int.toNat b) : Nat) : Int))) 20 (rg_up (σ 20) nd c)) 21 (rg_up (σ 21) nd x)) 25 (rg_zE (rg_yW σ nd (((Int.toNat r * 40 + Int.toNat b) : Nat) : Int) c x) (nd + 1))) 26 (rg_zA (rg_yW σ nd (((Int.toNat r * 40 + Int.toNat b) : Nat) : Int) c x) (nd + 1))) 27 (rg_zP (rg_yW σ nd (((Int.toNat r * 40 + Int.toNat b) : Nat) : Int) c x) (nd + 1))) 28 (rg_zI (rg_yW σ nd (((Int.toNat r * 40 + Int.toNat b) : Nat) : Int) c x) (nd + 1) nb nr)) 29 (rg_zT (rg_yW σ nd (((Int.toNat r * 40 + Int.toNat b) : Nat) : Int) c x) (nd + 1) nb nr)) 30 (rg_zS (rg_yW σ nd (((Int.toNat r * 40 + Int.toNat b) : Nat) : Int) c x) (nd + 1) nb nr)) 31 (rg_hd (σ 31) nr (rg_SZ ((rg_yW σ nd (((Int.toNat r * 40 + Int.toNat b) : Nat) : Int) c x) 14) ((rg_yW σ nd (((Int.toNat r * 40 + Int.toNat b) : Nat) : Int) c x) 11) nb))) 32 (rg_s32 (σ 32) (rg_zE (rg_yW σ nd (((Int.toNat r * 40 + Int.toNat b) : Nat) : Int) c x) (nd + 1)) (rg_zA (rg_yW σ nd (((Int.toNat r * 40 + Int.toNat b) : Nat) : Int) c x) (nd + 1)) nb nr)) 33 (rg_s33 (σ 33) (rg_zE (rg_yW σ nd (((Int.toNat r * 40 + Int.toNat b) : Nat) : Int) c x) (nd + 1)) (rg_zA (rg_yW σ nd (((Int.toNat r * 40 + Int.toNat b) : Nat) : Int) c x) (nd + 1)) nb nr)) 34 (rg_zC (rg_yW σ nd (((Int.toNat r * 40 + Int.toNat b) : Nat) : Int) c x) (nd + 1) nb nr)) 35 (rg_zD (rg_yW σ nd (((Int.toNat r * 40 + Int.toNat b) : Nat) : Int) c x) (nd + 1) nb nr ns)) 36 (rg_zM (rg_yW σ nd (((Int.toNat r * 40 + Int.toNat b) : Nat) : Int) c x) (nd + 1) nb nr)) 37 (rg_zK (rg_yW σ nd (((Int.toNat r * 40 + Int.toNat b) : Nat) : Int) c x) (nd + 1) nb nr ns)) 38 (rg_zG (rg_yW σ nd (((Int.toNat r * 40 + Int.toNat b) : Nat) : Int) c x) (nd + 1) nb nr)) 39 (rg_zN (rg_yW σ nd (((Int.toNat r * 40 + Int.toNat b) : Nat) : Int) c x) (nd + 1) nb nr ns)) nb nr nd ns := by
  have hq := rg_wg_0 hc
  have hnb := h.C.hnb
  have hnr := h.C.hnr
  have hnd := h.M.hnd
  have hY : rg_IC (rg_yW σ nd (((Int.toNat r * 40 + Int.toNat b) : Nat) : Int) c x) nb nr (nd + 1) ns := rg_IC_yW h.C hnd ⟨by omega, by omega⟩ hq.2
  have hK : rg_IM (rg_kW τ (((Int.toNat r * 40 + Int.toNat b) : Nat) : Int) c x) nb nr nd ns 1 := rg_IM_kW h.M ⟨by omega, by omega⟩ ⟨by omega, by omega⟩ ⟨by omega, by omega⟩
  exact ⟨h.C.hnb, h.C.hnr, h.C.hnd, h.C.hns, h.C.hok, (fun d hd => by
    have q := h.C.hD d hd
    have e1 : rg_up (σ 19) nd (((Int.toNat r * 40 + Int.toNat b) : Nat) : Int) d = σ 19 d := rg_up_ne _ _ (by omega)
    have e2 : rg_up (σ 20) nd c d = σ 20 d := rg_up_ne _ _ (by omega)
    have e3 : rg_up (σ 21) nd x d = σ 21 d := rg_up_ne _ _ (by omega)
    show 0 ≤ rg_up (σ 19) nd (((Int.toNat r * 40 + Int.toNat b) : Nat) : Int) d ∧ rg_up (σ 19) nd (((Int.toNat r * 40 + Int.toNat b) : Nat) : Int) d < 640 ∧ 0 ≤ rg_up (σ 20) nd c d ∧ rg_up (σ 20) nd c d ≤ 8 ∧ 0 ≤ rg_up (σ 21) nd x d ∧ rg_up (σ 21) nd x d ≤ 9999 ∧ (rg_up (σ 20) nd c d = 0 → 1 ≤ rg_up (σ 21) nd x d ∧ rg_up (σ 21) nd x d ≤ 99)
    rw [e1, e2, e3]; exact q), h.C.hro, h.C.hfl, h.C.hlt, h.C.hkd, h.C.hrf, h.C.hab, h.C.hsr, h.C.hsl, (rg_zI_Rg hY), (rg_s33_0 h.C.h330), (rg_zC_Rg hY), (rg_zD_Rg hY), (rg_zN_bd hY), h.C.h41⟩
theorem rg_IM_gen {τ : rg_S} {nb nr nd ns : Nat} {f0 f9 f10 f11 f12 f15 f16 f17 f18 f19 f20 f21 f22 f23 f24 : Nat → Int} (h : rg_IM τ nb nr nd ns 0) (hwh : ∀ j, 0 ≤ f9 j ∧ f9 j ≤ 639) (hwt : ∀ j, 0 ≤ f10 j ∧ f10 j ≤ 9) (hwa : ∀ j, 0 ≤ f11 j ∧ f11 j ≤ 9999) (hro : ∀ j, f12 j = 0 ∨ f12 j = 1) (hen : ∀ j, rg_Rg (f15 j)) (har : ∀ j, rg_Rg (f16 j)) (hsl : ∀ j, rg_Rg (f18 j)) (hlf : ∀ j, rg_Rg (f20 j)) (h21 : ∀ j, rg_Rg (f21 j)) (h22 : ∀ j, -1000000 ≤ f22 j ∧ f22 j ≤ 1000000) (h23 : ∀ j, rg_Rg (f23 j)) (h24 : ∀ j, rg_Rg (f24 j)) : rg_IM (rg_wr (rg_wr (rg_wr (rg_wr (rg_wr (rg_wr (rg_wr (rg_wr (rg_wr (rg_wr (rg_wr (rg_wr (rg_wr (rg_wr (rg_wr τ 0 f0) 9 f9) 10 f10) 11 f11) 12 f12) 15 f15) 16 f16) 17 f17) 18 f18) 19 f19) 20 f20) 21 f21) 22 f22) 23 f23) 24 f24) nb nr nd ns 0 := ⟨h.hnb, h.hnr, h.hnd, h.hns, h.htr, h.hlo, h.hfl, h.hkd, h.hrf, h.hab, h.hpu, h.hpa, h.hpp, hwh, hwt, hwa, hro, h.hsr, h.hsm, hen, har, hsl, hlf, h21, h22, h23, h24, h.h25⟩
theorem z_what_Mhwh {σ τ : rg_S} {nb nr nd ns : Nat} {r b c x : Int} (h : rg_Z σ τ nb nr nd ns) (hc : rg_wg (σ 14) (σ 11) ((nb : Nat) : Int) ((nr : Nat) : Int) r b c x = 0) : ∀ j, 0 ≤ (rg_up (τ 9) 40 (((Int.toNat r * 40 + Int.toNat b) : Nat) : Int)) j ∧ (rg_up (τ 9) 40 (((Int.toNat r * 40 + Int.toNat b) : Nat) : Int)) j ≤ 639 := by
  have hq := rg_wg_0 hc
  have hnb := h.C.hnb
  have hnr := h.C.hnr
  have hnd := h.M.hnd
  have hY : rg_IC (rg_yW σ nd (((Int.toNat r * 40 + Int.toNat b) : Nat) : Int) c x) nb nr (nd + 1) ns := rg_IC_yW h.C hnd ⟨by omega, by omega⟩ hq.2
  have hK : rg_IM (rg_kW τ (((Int.toNat r * 40 + Int.toNat b) : Nat) : Int) c x) nb nr nd ns 1 := rg_IM_kW h.M ⟨by omega, by omega⟩ ⟨by omega, by omega⟩ ⟨by omega, by omega⟩
  exact (rg_up_al2 (P := fun z => 0 ≤ z ∧ z ≤ 639) h.M.hwh ⟨by omega, by omega⟩)
theorem z_what_Mhwt {σ τ : rg_S} {nb nr nd ns : Nat} {r b c x : Int} (h : rg_Z σ τ nb nr nd ns) (hc : rg_wg (σ 14) (σ 11) ((nb : Nat) : Int) ((nr : Nat) : Int) r b c x = 0) : ∀ j, 0 ≤ (rg_up (τ 10) 40 c) j ∧ (rg_up (τ 10) 40 c) j ≤ 9 := by
  have hq := rg_wg_0 hc
  have hnb := h.C.hnb
  have hnr := h.C.hnr
  have hnd := h.M.hnd
  have hY : rg_IC (rg_yW σ nd (((Int.toNat r * 40 + Int.toNat b) : Nat) : Int) c x) nb nr (nd + 1) ns := rg_IC_yW h.C hnd ⟨by omega, by omega⟩ hq.2
  have hK : rg_IM (rg_kW τ (((Int.toNat r * 40 + Int.toNat b) : Nat) : Int) c x) nb nr nd ns 1 := rg_IM_kW h.M ⟨by omega, by omega⟩ ⟨by omega, by omega⟩ ⟨by omega, by omega⟩
  exact (rg_up_al2 (P := fun z => 0 ≤ z ∧ z ≤ 9) h.M.hwt ⟨by omega, by omega⟩)
theorem z_what_Mhwa {σ τ : rg_S} {nb nr nd ns : Nat} {r b c x : Int} (h : rg_Z σ τ nb nr nd ns) (hc : rg_wg (σ 14) (σ 11) ((nb : Nat) : Int) ((nr : Nat) : Int) r b c x = 0) : ∀ j, 0 ≤ (rg_up (τ 11) 40 x) j ∧ (rg_up (τ 11) 40 x) j ≤ 9999 := by
  have hq := rg_wg_0 hc
  have hnb := h.C.hnb
  have hnr := h.C.hnr
  have hnd := h.M.hnd
  have hY : rg_IC (rg_yW σ nd (((Int.toNat r * 40 + Int.toNat b) : Nat) : Int) c x) nb nr (nd + 1) ns := rg_IC_yW h.C hnd ⟨by omega, by omega⟩ hq.2
  have hK : rg_IM (rg_kW τ (((Int.toNat r * 40 + Int.toNat b) : Nat) : Int) c x) nb nr nd ns 1 := rg_IM_kW h.M ⟨by omega, by omega⟩ ⟨by omega, by omega⟩ ⟨by omega, by omega⟩
  exact (rg_up_al2 (P := fun z => 0 ≤ z ∧ z ≤ 9999) h.M.hwa ⟨by omega, by omega⟩)
theorem z_what_Mhro {σ τ : rg_S} {nb nr nd ns : Nat} {r b c x : Int} (h : rg_Z σ τ nb nr nd ns) (hc : rg_wg (σ 14) (σ 11) ((nb : Nat) : Int) ((nr : Nat) : Int) r b c x = 0) : ∀ j, (rg_up (τ 12) 40 0) j = 0 ∨ (rg_up (τ 12) 40 0) j = 1 := by
  have hq := rg_wg_0 hc
  have hnb := h.C.hnb
  have hnr := h.C.hnr
  have hnd := h.M.hnd
  have hY : rg_IC (rg_yW σ nd (((Int.toNat r * 40 + Int.toNat b) : Nat) : Int) c x) nb nr (nd + 1) ns := rg_IC_yW h.C hnd ⟨by omega, by omega⟩ hq.2
  have hK : rg_IM (rg_kW τ (((Int.toNat r * 40 + Int.toNat b) : Nat) : Int) c x) nb nr nd ns 1 := rg_IM_kW h.M ⟨by omega, by omega⟩ ⟨by omega, by omega⟩ ⟨by omega, by omega⟩
  exact (rg_up_al2 (P := fun z => z = 0 ∨ z = 1) h.M.hro (Or.inl rfl))
theorem z_what_Mhen {σ τ : rg_S} {nb nr nd ns : Nat} {r b c x : Int} (h : rg_Z σ τ nb nr nd ns) (hc : rg_wg (σ 14) (σ 11) ((nb : Nat) : Int) ((nr : Nat) : Int) r b c x = 0) : ∀ j, rg_Rg ((rg_kE (rg_kW τ (((Int.toNat r * 40 + Int.toNat b) : Nat) : Int) c x) 1 nd nb nr) j) := by
  have hq := rg_wg_0 hc
  have hnb := h.C.hnb
  have hnr := h.C.hnr
  have hnd := h.M.hnd
  have hY : rg_IC (rg_yW σ nd (((Int.toNat r * 40 + Int.toNat b) : Nat) : Int) c x) nb nr (nd + 1) ns := rg_IC_yW h.C hnd ⟨by omega, by omega⟩ hq.2
  have hK : rg_IM (rg_kW τ (((Int.toNat r * 40 + Int.toNat b) : Nat) : Int) c x) nb nr nd ns 1 := rg_IM_kW h.M ⟨by omega, by omega⟩ ⟨by omega, by omega⟩ ⟨by omega, by omega⟩
  exact (rg_kE_Rg hK)
theorem z_what_Mhar {σ τ : rg_S} {nb nr nd ns : Nat} {r b c x : Int} (h : rg_Z σ τ nb nr nd ns) (hc : rg_wg (σ 14) (σ 11) ((nb : Nat) : Int) ((nr : Nat) : Int) r b c x = 0) : ∀ j, rg_Rg ((rg_kA (rg_kW τ (((Int.toNat r * 40 + Int.toNat b) : Nat) : Int) c x) 1 nd nb nr) j) := by
  have hq := rg_wg_0 hc
  have hnb := h.C.hnb
  have hnr := h.C.hnr
  have hnd := h.M.hnd
  have hY : rg_IC (rg_yW σ nd (((Int.toNat r * 40 + Int.toNat b) : Nat) : Int) c x) nb nr (nd + 1) ns := rg_IC_yW h.C hnd ⟨by omega, by omega⟩ hq.2
  have hK : rg_IM (rg_kW τ (((Int.toNat r * 40 + Int.toNat b) : Nat) : Int) c x) nb nr nd ns 1 := rg_IM_kW h.M ⟨by omega, by omega⟩ ⟨by omega, by omega⟩ ⟨by omega, by omega⟩
  exact (rg_kA_Rg hK)
theorem z_what_Mhsl {σ τ : rg_S} {nb nr nd ns : Nat} {r b c x : Int} (h : rg_Z σ τ nb nr nd ns) (hc : rg_wg (σ 14) (σ 11) ((nb : Nat) : Int) ((nr : Nat) : Int) r b c x = 0) : ∀ j, rg_Rg ((rg_kS (rg_kW τ (((Int.toNat r * 40 + Int.toNat b) : Nat) : Int) c x) 1 nd nb nr) j) := by
  have hq := rg_wg_0 hc
  have hnb := h.C.hnb
  have hnr := h.C.hnr
  have hnd := h.M.hnd
  have hY : rg_IC (rg_yW σ nd (((Int.toNat r * 40 + Int.toNat b) : Nat) : Int) c x) nb nr (nd + 1) ns := rg_IC_yW h.C hnd ⟨by omega, by omega⟩ hq.2
  have hK : rg_IM (rg_kW τ (((Int.toNat r * 40 + Int.toNat b) : Nat) : Int) c x) nb nr nd ns 1 := rg_IM_kW h.M ⟨by omega, by omega⟩ ⟨by omega, by omega⟩ ⟨by omega, by omega⟩
  exact (rg_kS_Rg hK)
theorem z_what_Mhlf {σ τ : rg_S} {nb nr nd ns : Nat} {r b c x : Int} (h : rg_Z σ τ nb nr nd ns) (hc : rg_wg (σ 14) (σ 11) ((nb : Nat) : Int) ((nr : Nat) : Int) r b c x = 0) : ∀ j, rg_Rg ((rg_ctb (τ 20) nr nb (fun _ _ => True) (rg_kD (rg_kW τ (((Int.toNat r * 40 + Int.toNat b) : Nat) : Int) c x) 1 nd nb nr ns)) j) := by
  have hq := rg_wg_0 hc
  have hnb := h.C.hnb
  have hnr := h.C.hnr
  have hnd := h.M.hnd
  have hY : rg_IC (rg_yW σ nd (((Int.toNat r * 40 + Int.toNat b) : Nat) : Int) c x) nb nr (nd + 1) ns := rg_IC_yW h.C hnd ⟨by omega, by omega⟩ hq.2
  have hK : rg_IM (rg_kW τ (((Int.toNat r * 40 + Int.toNat b) : Nat) : Int) c x) nb nr nd ns 1 := rg_IM_kW h.M ⟨by omega, by omega⟩ ⟨by omega, by omega⟩ ⟨by omega, by omega⟩
  exact (rg_w20_Rg hK)
theorem z_what_Mh21 {σ τ : rg_S} {nb nr nd ns : Nat} {r b c x : Int} (h : rg_Z σ τ nb nr nd ns) (hc : rg_wg (σ 14) (σ 11) ((nb : Nat) : Int) ((nr : Nat) : Int) r b c x = 0) : ∀ j, rg_Rg ((rg_hd (τ 21) nb (rg_kG (rg_kW τ (((Int.toNat r * 40 + Int.toNat b) : Nat) : Int) c x) 1 nd nb nr)) j) := by
  have hq := rg_wg_0 hc
  have hnb := h.C.hnb
  have hnr := h.C.hnr
  have hnd := h.M.hnd
  have hY : rg_IC (rg_yW σ nd (((Int.toNat r * 40 + Int.toNat b) : Nat) : Int) c x) nb nr (nd + 1) ns := rg_IC_yW h.C hnd ⟨by omega, by omega⟩ hq.2
  have hK : rg_IM (rg_kW τ (((Int.toNat r * 40 + Int.toNat b) : Nat) : Int) c x) nb nr nd ns 1 := rg_IM_kW h.M ⟨by omega, by omega⟩ ⟨by omega, by omega⟩ ⟨by omega, by omega⟩
  exact (rg_hd_R2 h.M.h21 (fun b hb => by have := rg_kG_bd hK hb; exact ⟨by omega, by omega⟩))
theorem z_what_Mh22 {σ τ : rg_S} {nb nr nd ns : Nat} {r b c x : Int} (h : rg_Z σ τ nb nr nd ns) (hc : rg_wg (σ 14) (σ 11) ((nb : Nat) : Int) ((nr : Nat) : Int) r b c x = 0) : ∀ j, -1000000 ≤ (rg_hd (τ 22) nb (rg_kN (rg_kW τ (((Int.toNat r * 40 + Int.toNat b) : Nat) : Int) c x) 1 nd nb nr ns)) j ∧ (rg_hd (τ 22) nb (rg_kN (rg_kW τ (((Int.toNat r * 40 + Int.toNat b) : Nat) : Int) c x) 1 nd nb nr ns)) j ≤ 1000000 := by
  have hq := rg_wg_0 hc
  have hnb := h.C.hnb
  have hnr := h.C.hnr
  have hnd := h.M.hnd
  have hY : rg_IC (rg_yW σ nd (((Int.toNat r * 40 + Int.toNat b) : Nat) : Int) c x) nb nr (nd + 1) ns := rg_IC_yW h.C hnd ⟨by omega, by omega⟩ hq.2
  have hK : rg_IM (rg_kW τ (((Int.toNat r * 40 + Int.toNat b) : Nat) : Int) c x) nb nr nd ns 1 := rg_IM_kW h.M ⟨by omega, by omega⟩ ⟨by omega, by omega⟩ ⟨by omega, by omega⟩
  exact (rg_hd_bd h.M.h22 (fun j hj => by have := rg_kN_bd hK hj; exact ⟨by omega, by omega⟩))
theorem z_what_Mh23 {σ τ : rg_S} {nb nr nd ns : Nat} {r b c x : Int} (h : rg_Z σ τ nb nr nd ns) (hc : rg_wg (σ 14) (σ 11) ((nb : Nat) : Int) ((nr : Nat) : Int) r b c x = 0) : ∀ j, rg_Rg ((rg_hd (τ 23) nb (rg_kM (rg_kW τ (((Int.toNat r * 40 + Int.toNat b) : Nat) : Int) c x) 1 nd nb nr)) j) := by
  have hq := rg_wg_0 hc
  have hnb := h.C.hnb
  have hnr := h.C.hnr
  have hnd := h.M.hnd
  have hY : rg_IC (rg_yW σ nd (((Int.toNat r * 40 + Int.toNat b) : Nat) : Int) c x) nb nr (nd + 1) ns := rg_IC_yW h.C hnd ⟨by omega, by omega⟩ hq.2
  have hK : rg_IM (rg_kW τ (((Int.toNat r * 40 + Int.toNat b) : Nat) : Int) c x) nb nr nd ns 1 := rg_IM_kW h.M ⟨by omega, by omega⟩ ⟨by omega, by omega⟩ ⟨by omega, by omega⟩
  exact (rg_hd_Rg h.M.h23 (fun b9 => by have := rg_kM_bd (σ := (rg_kW τ (((Int.toNat r * 40 + Int.toNat b) : Nat) : Int) c x)) (tr := 1) (nd := nd) (nb := nb) (nr := nr) (b := b9); have := h.M.hnr; exact ⟨by omega, by omega⟩))
theorem z_what_Mh24 {σ τ : rg_S} {nb nr nd ns : Nat} {r b c x : Int} (h : rg_Z σ τ nb nr nd ns) (hc : rg_wg (σ 14) (σ 11) ((nb : Nat) : Int) ((nr : Nat) : Int) r b c x = 0) : ∀ j, rg_Rg ((rg_hd (τ 24) nb (rg_kC (rg_kW τ (((Int.toNat r * 40 + Int.toNat b) : Nat) : Int) c x) 1 nd nb nr ns)) j) := by
  have hq := rg_wg_0 hc
  have hnb := h.C.hnb
  have hnr := h.C.hnr
  have hnd := h.M.hnd
  have hY : rg_IC (rg_yW σ nd (((Int.toNat r * 40 + Int.toNat b) : Nat) : Int) c x) nb nr (nd + 1) ns := rg_IC_yW h.C hnd ⟨by omega, by omega⟩ hq.2
  have hK : rg_IM (rg_kW τ (((Int.toNat r * 40 + Int.toNat b) : Nat) : Int) c x) nb nr nd ns 1 := rg_IM_kW h.M ⟨by omega, by omega⟩ ⟨by omega, by omega⟩ ⟨by omega, by omega⟩
  exact (rg_hd_Rg h.M.h24 (fun b => rg_kC_R h.M.hnr b))
theorem z_what_M {σ τ : rg_S} {nb nr nd ns : Nat} {r b c x : Int} (h : rg_Z σ τ nb nr nd ns) (hc : rg_wg (σ 14) (σ 11) ((nb : Nat) : Int) ((nr : Nat) : Int) r b c x = 0) : rg_IM (rg_wr (rg_wr (rg_wr (rg_wr (rg_wr (rg_wr (rg_wr (rg_wr (rg_wr (rg_wr (rg_wr (rg_wr (rg_wr (rg_wr (rg_wr τ 0 (rg_up (rg_up (τ 0) 0 0) 16 0)) 9 (rg_up (τ 9) 40 (((Int.toNat r * 40 + Int.toNat b) : Nat) : Int))) 10 (rg_up (τ 10) 40 c)) 11 (rg_up (τ 11) 40 x)) 12 (rg_up (τ 12) 40 0)) 15 (rg_kE (rg_kW τ (((Int.toNat r * 40 + Int.toNat b) : Nat) : Int) c x) 1 nd nb nr)) 16 (rg_kA (rg_kW τ (((Int.toNat r * 40 + Int.toNat b) : Nat) : Int) c x) 1 nd nb nr)) 17 (rg_kP (rg_kW τ (((Int.toNat r * 40 + Int.toNat b) : Nat) : Int) c x) 1 nd nb nr)) 18 (rg_kS (rg_kW τ (((Int.toNat r * 40 + Int.toNat b) : Nat) : Int) c x) 1 nd nb nr)) 19 (rg_kT (rg_kW τ (((Int.toNat r * 40 + Int.toNat b) : Nat) : Int) c x) 1 nd nb nr)) 20 (rg_ctb (τ 20) nr nb (fun _ _ => True) (rg_kD (rg_kW τ (((Int.toNat r * 40 + Int.toNat b) : Nat) : Int) c x) 1 nd nb nr ns))) 21 (rg_hd (τ 21) nb (rg_kG (rg_kW τ (((Int.toNat r * 40 + Int.toNat b) : Nat) : Int) c x) 1 nd nb nr))) 22 (rg_hd (τ 22) nb (rg_kN (rg_kW τ (((Int.toNat r * 40 + Int.toNat b) : Nat) : Int) c x) 1 nd nb nr ns))) 23 (rg_hd (τ 23) nb (rg_kM (rg_kW τ (((Int.toNat r * 40 + Int.toNat b) : Nat) : Int) c x) 1 nd nb nr))) 24 (rg_hd (τ 24) nb (rg_kC (rg_kW τ (((Int.toNat r * 40 + Int.toNat b) : Nat) : Int) c x) 1 nd nb nr ns))) nb nr nd ns 0 := by
  have hq := rg_wg_0 hc
  have hnb := h.C.hnb
  have hnr := h.C.hnr
  have hnd := h.M.hnd
  have hY : rg_IC (rg_yW σ nd (((Int.toNat r * 40 + Int.toNat b) : Nat) : Int) c x) nb nr (nd + 1) ns := rg_IC_yW h.C hnd ⟨by omega, by omega⟩ hq.2
  have hK : rg_IM (rg_kW τ (((Int.toNat r * 40 + Int.toNat b) : Nat) : Int) c x) nb nr nd ns 1 := rg_IM_kW h.M ⟨by omega, by omega⟩ ⟨by omega, by omega⟩ ⟨by omega, by omega⟩
  exact rg_IM_gen h.M (z_what_Mhwh h hc) (z_what_Mhwt h hc) (z_what_Mhwa h hc) (z_what_Mhro h hc) (z_what_Mhen h hc) (z_what_Mhar h hc) (z_what_Mhsl h hc) (z_what_Mhlf h hc) (z_what_Mh21 h hc) (z_what_Mh22 h hc) (z_what_Mh23 h hc) (z_what_Mh24 h hc)
theorem z_what_R {σ τ : rg_S} {nb nr nd ns : Nat} {r b c x : Int} (h : rg_Z σ τ nb nr nd ns) (hc : rg_wg (σ 14) (σ 11) ((nb : Nat) : Int) ((nr : Nat) : Int) r b c x = 0) : rg_R (rg_wr (rg_wr (rg_wr (rg_wr (rg_wr (rg_wr (rg_wr (rg_wr (rg_wr (rg_wr (rg_wr (rg_wr (rg_wr (rg_wr (rg_wr (rg_wr (rg_wr (rg_wr (rg_wr (rg_wr σ 0 (rg_up (σ 0) 9 1)) 4 (rg_up (σ 4) 4 (((nd + 1 : Nat) : Int) - 1))) 19 (rg_up (σ 19) nd (((Int.toNat r * 40 + Int.toNat b) : Nat) : Int))) 20 (rg_up (σ 20) nd c)) 21 (rg_up (σ 21) nd x)) 25 (rg_zE (rg_yW σ nd (((Int.toNat r * 40 + Int.toNat b) : Nat) : Int) c x) (nd + 1))) 26 (rg_zA (rg_yW σ nd (((Int.toNat r * 40 + Int.toNat b) : Nat) : Int) c x) (nd + 1))) 27 (rg_zP (rg_yW σ nd (((Int.toNat r * 40 + Int.toNat b) : Nat) : Int) c x) (nd + 1))) 28 (rg_zI (rg_yW σ nd (((Int.toNat r * 40 + Int.toNat b) : Nat) : Int) c x) (nd + 1) nb nr)) 29 (rg_zT (rg_yW σ nd (((Int.toNat r * 40 + Int.toNat b) : Nat) : Int) c x) (nd + 1) nb nr)) 30 (rg_zS (rg_yW σ nd (((Int.toNat r * 40 + Int.toNat b) : Nat) : Int) c x) (nd + 1) nb nr)) 31 (rg_hd (σ 31) nr (rg_SZ ((rg_yW σ nd (((Int.toNat r * 40 + Int.toNat b) : Nat) : Int) c x) 14) ((rg_yW σ nd (((Int.toNat r * 40 + Int.toNat b) : Nat) : Int) c x) 11) nb))) 32 (rg_s32 (σ 32) (rg_zE (rg_yW σ nd (((Int.toNat r * 40 + Int.toNat b) : Nat) : Int) c x) (nd + 1)) (rg_zA (rg_yW σ nd (((Int.toNat r * 40 + Int.toNat b) : Nat) : Int) c x) (nd + 1)) nb nr)) 33 (rg_s33 (σ 33) (rg_zE (rg_yW σ nd (((Int.toNat r * 40 + Int.toNat b) : Nat) : Int) c x) (nd + 1)) (rg_zA (rg_yW σ nd (((Int.toNat r * 40 + Int.toNat b) : Nat) : Int) c x) (nd + 1)) nb nr)) 34 (rg_zC (rg_yW σ nd (((Int.toNat r * 40 + Int.toNat b) : Nat) : Int) c x) (nd + 1) nb nr)) 35 (rg_zD (rg_yW σ nd (((Int.toNat r * 40 + Int.toNat b) : Nat) : Int) c x) (nd + 1) nb nr ns)) 36 (rg_zM (rg_yW σ nd (((Int.toNat r * 40 + Int.toNat b) : Nat) : Int) c x) (nd + 1) nb nr)) 37 (rg_zK (rg_yW σ nd (((Int.toNat r * 40 + Int.toNat b) : Nat) : Int) c x) (nd + 1) nb nr ns)) 38 (rg_zG (rg_yW σ nd (((Int.toNat r * 40 + Int.toNat b) : Nat) : Int) c x) (nd + 1) nb nr)) 39 (rg_zN (rg_yW σ nd (((Int.toNat r * 40 + Int.toNat b) : Nat) : Int) c x) (nd + 1) nb nr ns)) (rg_wr (rg_wr (rg_wr (rg_wr (rg_wr (rg_wr (rg_wr (rg_wr (rg_wr (rg_wr (rg_wr (rg_wr (rg_wr (rg_wr (rg_wr τ 0 (rg_up (rg_up (τ 0) 0 0) 16 0)) 9 (rg_up (τ 9) 40 (((Int.toNat r * 40 + Int.toNat b) : Nat) : Int))) 10 (rg_up (τ 10) 40 c)) 11 (rg_up (τ 11) 40 x)) 12 (rg_up (τ 12) 40 0)) 15 (rg_kE (rg_kW τ (((Int.toNat r * 40 + Int.toNat b) : Nat) : Int) c x) 1 nd nb nr)) 16 (rg_kA (rg_kW τ (((Int.toNat r * 40 + Int.toNat b) : Nat) : Int) c x) 1 nd nb nr)) 17 (rg_kP (rg_kW τ (((Int.toNat r * 40 + Int.toNat b) : Nat) : Int) c x) 1 nd nb nr)) 18 (rg_kS (rg_kW τ (((Int.toNat r * 40 + Int.toNat b) : Nat) : Int) c x) 1 nd nb nr)) 19 (rg_kT (rg_kW τ (((Int.toNat r * 40 + Int.toNat b) : Nat) : Int) c x) 1 nd nb nr)) 20 (rg_ctb (τ 20) nr nb (fun _ _ => True) (rg_kD (rg_kW τ (((Int.toNat r * 40 + Int.toNat b) : Nat) : Int) c x) 1 nd nb nr ns))) 21 (rg_hd (τ 21) nb (rg_kG (rg_kW τ (((Int.toNat r * 40 + Int.toNat b) : Nat) : Int) c x) 1 nd nb nr))) 22 (rg_hd (τ 22) nb (rg_kN (rg_kW τ (((Int.toNat r * 40 + Int.toNat b) : Nat) : Int) c x) 1 nd nb nr ns))) 23 (rg_hd (τ 23) nb (rg_kM (rg_kW τ (((Int.toNat r * 40 + Int.toNat b) : Nat) : Int) c x) 1 nd nb nr))) 24 (rg_hd (τ 24) nb (rg_kC (rg_kW τ (((Int.toNat r * 40 + Int.toNat b) : Nat) : Int) c x) 1 nd nb nr ns))) nb nr nd := by
  have hq := rg_wg_0 hc
  have hnb := h.C.hnb
  have hnr := h.C.hnr
  have hnd := h.M.hnd
  have hY : rg_IC (rg_yW σ nd (((Int.toNat r * 40 + Int.toNat b) : Nat) : Int) c x) nb nr (nd + 1) ns := rg_IC_yW h.C hnd ⟨by omega, by omega⟩ hq.2
  have hK : rg_IM (rg_kW τ (((Int.toNat r * 40 + Int.toNat b) : Nat) : Int) c x) nb nr nd ns 1 := rg_IM_kW h.M ⟨by omega, by omega⟩ ⟨by omega, by omega⟩ ⟨by omega, by omega⟩
  exact ⟨h.R.hfl, h.R.hlt, h.R.hkd, h.R.hrf, h.R.hab, h.R.hsr, h.R.hsl, h.R.hpu, h.R.hpa, h.R.hpp, (fun d hd => by
    have q := h.R.hde d hd
    exact ⟨(rg_up_ne _ _ (by omega)).trans (q.1.trans (rg_up_ne _ _ (by omega)).symm), (rg_up_ne _ _ (by omega)).trans (q.2.1.trans (rg_up_ne _ _ (by omega)).symm), (rg_up_ne _ _ (by omega)).trans (q.2.2.1.trans (rg_up_ne _ _ (by omega)).symm), (rg_up_ne _ _ (by omega)).trans q.2.2.2⟩), h.R.hrz, h.R.his, (fun d hd => (h.R.hid d hd).imp (fun r q => q.imp (fun b q => ⟨q.1, (rg_up_ne _ _ (by omega)).trans q.2.1, q.2.2⟩))), h.R.hsp⟩
theorem z_what_x25 {σ τ : rg_S} {nb nr nd ns : Nat} {r b c x : Int} (h : rg_Z σ τ nb nr nd ns) (hc : rg_wg (σ 14) (σ 11) ((nb : Nat) : Int) ((nr : Nat) : Int) r b c x = 0) : ∀ j, rg_Rg ((rg_wr (rg_wr (rg_wr (rg_wr (rg_wr (rg_wr (rg_wr (rg_wr (rg_wr (rg_wr (rg_wr (rg_wr (rg_wr (rg_wr (rg_wr (rg_wr (rg_wr (rg_wr (rg_wr (rg_wr σ 0 (rg_up (σ 0) 9 1)) 4 (rg_up (σ 4) 4 (((nd + 1 : Nat) : Int) - 1))) 19 (rg_up (σ 19) nd (((Int.toNat r * 40 + Int.toNat b) : Nat) : Int))) 20 (rg_up (σ 20) nd c)) 21 (rg_up (σ 21) nd x)) 25 (rg_zE (rg_yW σ nd (((Int.toNat r * 40 + Int.toNat b) : Nat) : Int) c x) (nd + 1))) 26 (rg_zA (rg_yW σ nd (((Int.toNat r * 40 + Int.toNat b) : Nat) : Int) c x) (nd + 1))) 27 (rg_zP (rg_yW σ nd (((Int.toNat r * 40 + Int.toNat b) : Nat) : Int) c x) (nd + 1))) 28 (rg_zI (rg_yW σ nd (((Int.toNat r * 40 + Int.toNat b) : Nat) : Int) c x) (nd + 1) nb nr)) 29 (rg_zT (rg_yW σ nd (((Int.toNat r * 40 + Int.toNat b) : Nat) : Int) c x) (nd + 1) nb nr)) 30 (rg_zS (rg_yW σ nd (((Int.toNat r * 40 + Int.toNat b) : Nat) : Int) c x) (nd + 1) nb nr)) 31 (rg_hd (σ 31) nr (rg_SZ ((rg_yW σ nd (((Int.toNat r * 40 + Int.toNat b) : Nat) : Int) c x) 14) ((rg_yW σ nd (((Int.toNat r * 40 + Int.toNat b) : Nat) : Int) c x) 11) nb))) 32 (rg_s32 (σ 32) (rg_zE (rg_yW σ nd (((Int.toNat r * 40 + Int.toNat b) : Nat) : Int) c x) (nd + 1)) (rg_zA (rg_yW σ nd (((Int.toNat r * 40 + Int.toNat b) : Nat) : Int) c x) (nd + 1)) nb nr)) 33 (rg_s33 (σ 33) (rg_zE (rg_yW σ nd (((Int.toNat r * 40 + Int.toNat b) : Nat) : Int) c x) (nd + 1)) (rg_zA (rg_yW σ nd (((Int.toNat r * 40 + Int.toNat b) : Nat) : Int) c x) (nd + 1)) nb nr)) 34 (rg_zC (rg_yW σ nd (((Int.toNat r * 40 + Int.toNat b) : Nat) : Int) c x) (nd + 1) nb nr)) 35 (rg_zD (rg_yW σ nd (((Int.toNat r * 40 + Int.toNat b) : Nat) : Int) c x) (nd + 1) nb nr ns)) 36 (rg_zM (rg_yW σ nd (((Int.toNat r * 40 + Int.toNat b) : Nat) : Int) c x) (nd + 1) nb nr)) 37 (rg_zK (rg_yW σ nd (((Int.toNat r * 40 + Int.toNat b) : Nat) : Int) c x) (nd + 1) nb nr ns)) 38 (rg_zG (rg_yW σ nd (((Int.toNat r * 40 + Int.toNat b) : Nat) : Int) c x) (nd + 1) nb nr)) 39 (rg_zN (rg_yW σ nd (((Int.toNat r * 40 + Int.toNat b) : Nat) : Int) c x) (nd + 1) nb nr ns)) 25 j) := by
  have hq := rg_wg_0 hc
  have hnb := h.C.hnb
  have hnr := h.C.hnr
  have hnd := h.M.hnd
  have hY : rg_IC (rg_yW σ nd (((Int.toNat r * 40 + Int.toNat b) : Nat) : Int) c x) nb nr (nd + 1) ns := rg_IC_yW h.C hnd ⟨by omega, by omega⟩ hq.2
  have hK : rg_IM (rg_kW τ (((Int.toNat r * 40 + Int.toNat b) : Nat) : Int) c x) nb nr nd ns 1 := rg_IM_kW h.M ⟨by omega, by omega⟩ ⟨by omega, by omega⟩ ⟨by omega, by omega⟩
  exact rg_okE_en (rg_zE_ok hY)
theorem z_what_x30 {σ τ : rg_S} {nb nr nd ns : Nat} {r b c x : Int} (h : rg_Z σ τ nb nr nd ns) (hc : rg_wg (σ 14) (σ 11) ((nb : Nat) : Int) ((nr : Nat) : Int) r b c x = 0) : ∀ j, rg_Rg ((rg_wr (rg_wr (rg_wr (rg_wr (rg_wr (rg_wr (rg_wr (rg_wr (rg_wr (rg_wr (rg_wr (rg_wr (rg_wr (rg_wr (rg_wr (rg_wr (rg_wr (rg_wr (rg_wr (rg_wr σ 0 (rg_up (σ 0) 9 1)) 4 (rg_up (σ 4) 4 (((nd + 1 : Nat) : Int) - 1))) 19 (rg_up (σ 19) nd (((Int.toNat r * 40 + Int.toNat b) : Nat) : Int))) 20 (rg_up (σ 20) nd c)) 21 (rg_up (σ 21) nd x)) 25 (rg_zE (rg_yW σ nd (((Int.toNat r * 40 + Int.toNat b) : Nat) : Int) c x) (nd + 1))) 26 (rg_zA (rg_yW σ nd (((Int.toNat r * 40 + Int.toNat b) : Nat) : Int) c x) (nd + 1))) 27 (rg_zP (rg_yW σ nd (((Int.toNat r * 40 + Int.toNat b) : Nat) : Int) c x) (nd + 1))) 28 (rg_zI (rg_yW σ nd (((Int.toNat r * 40 + Int.toNat b) : Nat) : Int) c x) (nd + 1) nb nr)) 29 (rg_zT (rg_yW σ nd (((Int.toNat r * 40 + Int.toNat b) : Nat) : Int) c x) (nd + 1) nb nr)) 30 (rg_zS (rg_yW σ nd (((Int.toNat r * 40 + Int.toNat b) : Nat) : Int) c x) (nd + 1) nb nr)) 31 (rg_hd (σ 31) nr (rg_SZ ((rg_yW σ nd (((Int.toNat r * 40 + Int.toNat b) : Nat) : Int) c x) 14) ((rg_yW σ nd (((Int.toNat r * 40 + Int.toNat b) : Nat) : Int) c x) 11) nb))) 32 (rg_s32 (σ 32) (rg_zE (rg_yW σ nd (((Int.toNat r * 40 + Int.toNat b) : Nat) : Int) c x) (nd + 1)) (rg_zA (rg_yW σ nd (((Int.toNat r * 40 + Int.toNat b) : Nat) : Int) c x) (nd + 1)) nb nr)) 33 (rg_s33 (σ 33) (rg_zE (rg_yW σ nd (((Int.toNat r * 40 + Int.toNat b) : Nat) : Int) c x) (nd + 1)) (rg_zA (rg_yW σ nd (((Int.toNat r * 40 + Int.toNat b) : Nat) : Int) c x) (nd + 1)) nb nr)) 34 (rg_zC (rg_yW σ nd (((Int.toNat r * 40 + Int.toNat b) : Nat) : Int) c x) (nd + 1) nb nr)) 35 (rg_zD (rg_yW σ nd (((Int.toNat r * 40 + Int.toNat b) : Nat) : Int) c x) (nd + 1) nb nr ns)) 36 (rg_zM (rg_yW σ nd (((Int.toNat r * 40 + Int.toNat b) : Nat) : Int) c x) (nd + 1) nb nr)) 37 (rg_zK (rg_yW σ nd (((Int.toNat r * 40 + Int.toNat b) : Nat) : Int) c x) (nd + 1) nb nr ns)) 38 (rg_zG (rg_yW σ nd (((Int.toNat r * 40 + Int.toNat b) : Nat) : Int) c x) (nd + 1) nb nr)) 39 (rg_zN (rg_yW σ nd (((Int.toNat r * 40 + Int.toNat b) : Nat) : Int) c x) (nd + 1) nb nr ns)) 30 j) := by
  have hq := rg_wg_0 hc
  have hnb := h.C.hnb
  have hnr := h.C.hnr
  have hnd := h.M.hnd
  have hY : rg_IC (rg_yW σ nd (((Int.toNat r * 40 + Int.toNat b) : Nat) : Int) c x) nb nr (nd + 1) ns := rg_IC_yW h.C hnd ⟨by omega, by omega⟩ hq.2
  have hK : rg_IM (rg_kW τ (((Int.toNat r * 40 + Int.toNat b) : Nat) : Int) c x) nb nr nd ns 1 := rg_IM_kW h.M ⟨by omega, by omega⟩ ⟨by omega, by omega⟩ ⟨by omega, by omega⟩
  exact rg_zS_Rg h.x30
theorem z_what_x35 {σ τ : rg_S} {nb nr nd ns : Nat} {r b c x : Int} (h : rg_Z σ τ nb nr nd ns) (hc : rg_wg (σ 14) (σ 11) ((nb : Nat) : Int) ((nr : Nat) : Int) r b c x = 0) : ∀ j, (rg_wr (rg_wr (rg_wr (rg_wr (rg_wr (rg_wr (rg_wr (rg_wr (rg_wr (rg_wr (rg_wr (rg_wr (rg_wr (rg_wr (rg_wr (rg_wr (rg_wr (rg_wr (rg_wr (rg_wr σ 0 (rg_up (σ 0) 9 1)) 4 (rg_up (σ 4) 4 (((nd + 1 : Nat) : Int) - 1))) 19 (rg_up (σ 19) nd (((Int.toNat r * 40 + Int.toNat b) : Nat) : Int))) 20 (rg_up (σ 20) nd c)) 21 (rg_up (σ 21) nd x)) 25 (rg_zE (rg_yW σ nd (((Int.toNat r * 40 + Int.toNat b) : Nat) : Int) c x) (nd + 1))) 26 (rg_zA (rg_yW σ nd (((Int.toNat r * 40 + Int.toNat b) : Nat) : Int) c x) (nd + 1))) 27 (rg_zP (rg_yW σ nd (((Int.toNat r * 40 + Int.toNat b) : Nat) : Int) c x) (nd + 1))) 28 (rg_zI (rg_yW σ nd (((Int.toNat r * 40 + Int.toNat b) : Nat) : Int) c x) (nd + 1) nb nr)) 29 (rg_zT (rg_yW σ nd (((Int.toNat r * 40 + Int.toNat b) : Nat) : Int) c x) (nd + 1) nb nr)) 30 (rg_zS (rg_yW σ nd (((Int.toNat r * 40 + Int.toNat b) : Nat) : Int) c x) (nd + 1) nb nr)) 31 (rg_hd (σ 31) nr (rg_SZ ((rg_yW σ nd (((Int.toNat r * 40 + Int.toNat b) : Nat) : Int) c x) 14) ((rg_yW σ nd (((Int.toNat r * 40 + Int.toNat b) : Nat) : Int) c x) 11) nb))) 32 (rg_s32 (σ 32) (rg_zE (rg_yW σ nd (((Int.toNat r * 40 + Int.toNat b) : Nat) : Int) c x) (nd + 1)) (rg_zA (rg_yW σ nd (((Int.toNat r * 40 + Int.toNat b) : Nat) : Int) c x) (nd + 1)) nb nr)) 33 (rg_s33 (σ 33) (rg_zE (rg_yW σ nd (((Int.toNat r * 40 + Int.toNat b) : Nat) : Int) c x) (nd + 1)) (rg_zA (rg_yW σ nd (((Int.toNat r * 40 + Int.toNat b) : Nat) : Int) c x) (nd + 1)) nb nr)) 34 (rg_zC (rg_yW σ nd (((Int.toNat r * 40 + Int.toNat b) : Nat) : Int) c x) (nd + 1) nb nr)) 35 (rg_zD (rg_yW σ nd (((Int.toNat r * 40 + Int.toNat b) : Nat) : Int) c x) (nd + 1) nb nr ns)) 36 (rg_zM (rg_yW σ nd (((Int.toNat r * 40 + Int.toNat b) : Nat) : Int) c x) (nd + 1) nb nr)) 37 (rg_zK (rg_yW σ nd (((Int.toNat r * 40 + Int.toNat b) : Nat) : Int) c x) (nd + 1) nb nr ns)) 38 (rg_zG (rg_yW σ nd (((Int.toNat r * 40 + Int.toNat b) : Nat) : Int) c x) (nd + 1) nb nr)) 39 (rg_zN (rg_yW σ nd (((Int.toNat r * 40 + Int.toNat b) : Nat) : Int) c x) (nd + 1) nb nr ns)) 35 j = 0 ∨ (rg_wr (rg_wr (rg_wr (rg_wr (rg_wr (rg_wr (rg_wr (rg_wr (rg_wr (rg_wr (rg_wr (rg_wr (rg_wr (rg_wr (rg_wr (rg_wr (rg_wr (rg_wr (rg_wr (rg_wr σ 0 (rg_up (σ 0) 9 1)) 4 (rg_up (σ 4) 4 (((nd + 1 : Nat) : Int) - 1))) 19 (rg_up (σ 19) nd (((Int.toNat r * 40 + Int.toNat b) : Nat) : Int))) 20 (rg_up (σ 20) nd c)) 21 (rg_up (σ 21) nd x)) 25 (rg_zE (rg_yW σ nd (((Int.toNat r * 40 + Int.toNat b) : Nat) : Int) c x) (nd + 1))) 26 (rg_zA (rg_yW σ nd (((Int.toNat r * 40 + Int.toNat b) : Nat) : Int) c x) (nd + 1))) 27 (rg_zP (rg_yW σ nd (((Int.toNat r * 40 + Int.toNat b) : Nat) : Int) c x) (nd + 1))) 28 (rg_zI (rg_yW σ nd (((Int.toNat r * 40 + Int.toNat b) : Nat) : Int) c x) (nd + 1) nb nr)) 29 (rg_zT (rg_yW σ nd (((Int.toNat r * 40 + Int.toNat b) : Nat) : Int) c x) (nd + 1) nb nr)) 30 (rg_zS (rg_yW σ nd (((Int.toNat r * 40 + Int.toNat b) : Nat) : Int) c x) (nd + 1) nb nr)) 31 (rg_hd (σ 31) nr (rg_SZ ((rg_yW σ nd (((Int.toNat r * 40 + Int.toNat b) : Nat) : Int) c x) 14) ((rg_yW σ nd (((Int.toNat r * 40 + Int.toNat b) : Nat) : Int) c x) 11) nb))) 32 (rg_s32 (σ 32) (rg_zE (rg_yW σ nd (((Int.toNat r * 40 + Int.toNat b) : Nat) : Int) c x) (nd + 1)) (rg_zA (rg_yW σ nd (((Int.toNat r * 40 + Int.toNat b) : Nat) : Int) c x) (nd + 1)) nb nr)) 33 (rg_s33 (σ 33) (rg_zE (rg_yW σ nd (((Int.toNat r * 40 + Int.toNat b) : Nat) : Int) c x) (nd + 1)) (rg_zA (rg_yW σ nd (((Int.toNat r * 40 + Int.toNat b) : Nat) : Int) c x) (nd + 1)) nb nr)) 34 (rg_zC (rg_yW σ nd (((Int.toNat r * 40 + Int.toNat b) : Nat) : Int) c x) (nd + 1) nb nr)) 35 (rg_zD (rg_yW σ nd (((Int.toNat r * 40 + Int.toNat b) : Nat) : Int) c x) (nd + 1) nb nr ns)) 36 (rg_zM (rg_yW σ nd (((Int.toNat r * 40 + Int.toNat b) : Nat) : Int) c x) (nd + 1) nb nr)) 37 (rg_zK (rg_yW σ nd (((Int.toNat r * 40 + Int.toNat b) : Nat) : Int) c x) (nd + 1) nb nr ns)) 38 (rg_zG (rg_yW σ nd (((Int.toNat r * 40 + Int.toNat b) : Nat) : Int) c x) (nd + 1) nb nr)) 39 (rg_zN (rg_yW σ nd (((Int.toNat r * 40 + Int.toNat b) : Nat) : Int) c x) (nd + 1) nb nr ns)) 35 j = 1 := by
  have hq := rg_wg_0 hc
  have hnb := h.C.hnb
  have hnr := h.C.hnr
  have hnd := h.M.hnd
  have hY : rg_IC (rg_yW σ nd (((Int.toNat r * 40 + Int.toNat b) : Nat) : Int) c x) nb nr (nd + 1) ns := rg_IC_yW h.C hnd ⟨by omega, by omega⟩ hq.2
  have hK : rg_IM (rg_kW τ (((Int.toNat r * 40 + Int.toNat b) : Nat) : Int) c x) nb nr nd ns 1 := rg_IM_kW h.M ⟨by omega, by omega⟩ ⟨by omega, by omega⟩ ⟨by omega, by omega⟩
  exact rg_zD_al h.x35
theorem z_what_x17 {σ τ : rg_S} {nb nr nd ns : Nat} {r b c x : Int} (h : rg_Z σ τ nb nr nd ns) (hc : rg_wg (σ 14) (σ 11) ((nb : Nat) : Int) ((nr : Nat) : Int) r b c x = 0) : ∀ j, rg_Rg ((rg_wr (rg_wr (rg_wr (rg_wr (rg_wr (rg_wr (rg_wr (rg_wr (rg_wr (rg_wr (rg_wr (rg_wr (rg_wr (rg_wr (rg_wr τ 0 (rg_up (rg_up (τ 0) 0 0) 16 0)) 9 (rg_up (τ 9) 40 (((Int.toNat r * 40 + Int.toNat b) : Nat) : Int))) 10 (rg_up (τ 10) 40 c)) 11 (rg_up (τ 11) 40 x)) 12 (rg_up (τ 12) 40 0)) 15 (rg_kE (rg_kW τ (((Int.toNat r * 40 + Int.toNat b) : Nat) : Int) c x) 1 nd nb nr)) 16 (rg_kA (rg_kW τ (((Int.toNat r * 40 + Int.toNat b) : Nat) : Int) c x) 1 nd nb nr)) 17 (rg_kP (rg_kW τ (((Int.toNat r * 40 + Int.toNat b) : Nat) : Int) c x) 1 nd nb nr)) 18 (rg_kS (rg_kW τ (((Int.toNat r * 40 + Int.toNat b) : Nat) : Int) c x) 1 nd nb nr)) 19 (rg_kT (rg_kW τ (((Int.toNat r * 40 + Int.toNat b) : Nat) : Int) c x) 1 nd nb nr)) 20 (rg_ctb (τ 20) nr nb (fun _ _ => True) (rg_kD (rg_kW τ (((Int.toNat r * 40 + Int.toNat b) : Nat) : Int) c x) 1 nd nb nr ns))) 21 (rg_hd (τ 21) nb (rg_kG (rg_kW τ (((Int.toNat r * 40 + Int.toNat b) : Nat) : Int) c x) 1 nd nb nr))) 22 (rg_hd (τ 22) nb (rg_kN (rg_kW τ (((Int.toNat r * 40 + Int.toNat b) : Nat) : Int) c x) 1 nd nb nr ns))) 23 (rg_hd (τ 23) nb (rg_kM (rg_kW τ (((Int.toNat r * 40 + Int.toNat b) : Nat) : Int) c x) 1 nd nb nr))) 24 (rg_hd (τ 24) nb (rg_kC (rg_kW τ (((Int.toNat r * 40 + Int.toNat b) : Nat) : Int) c x) 1 nd nb nr ns))) 17 j) := by
  have hq := rg_wg_0 hc
  have hnb := h.C.hnb
  have hnr := h.C.hnr
  have hnd := h.M.hnd
  have hY : rg_IC (rg_yW σ nd (((Int.toNat r * 40 + Int.toNat b) : Nat) : Int) c x) nb nr (nd + 1) ns := rg_IC_yW h.C hnd ⟨by omega, by omega⟩ hq.2
  have hK : rg_IM (rg_kW τ (((Int.toNat r * 40 + Int.toNat b) : Nat) : Int) c x) nb nr nd ns 1 := rg_IM_kW h.M ⟨by omega, by omega⟩ ⟨by omega, by omega⟩ ⟨by omega, by omega⟩
  exact (fun j => rg_tab_Rg h.x17 (fun _ _ => rg_Rg_of (rg_mp_bd h.M.hpp)) j)
theorem z_what_Z {σ τ : rg_S} {nb nr nd ns : Nat} {r b c x : Int} (h : rg_Z σ τ nb nr nd ns) (hc : rg_wg (σ 14) (σ 11) ((nb : Nat) : Int) ((nr : Nat) : Int) r b c x = 0) : rg_Z (rg_wr (rg_wr (rg_wr (rg_wr (rg_wr (rg_wr (rg_wr (rg_wr (rg_wr (rg_wr (rg_wr (rg_wr (rg_wr (rg_wr (rg_wr (rg_wr (rg_wr (rg_wr (rg_wr (rg_wr σ 0 (rg_up (σ 0) 9 1)) 4 (rg_up (σ 4) 4 (((nd + 1 : Nat) : Int) - 1))) 19 (rg_up (σ 19) nd (((Int.toNat r * 40 + Int.toNat b) : Nat) : Int))) 20 (rg_up (σ 20) nd c)) 21 (rg_up (σ 21) nd x)) 25 (rg_zE (rg_yW σ nd (((Int.toNat r * 40 + Int.toNat b) : Nat) : Int) c x) (nd + 1))) 26 (rg_zA (rg_yW σ nd (((Int.toNat r * 40 + Int.toNat b) : Nat) : Int) c x) (nd + 1))) 27 (rg_zP (rg_yW σ nd (((Int.toNat r * 40 + Int.toNat b) : Nat) : Int) c x) (nd + 1))) 28 (rg_zI (rg_yW σ nd (((Int.toNat r * 40 + Int.toNat b) : Nat) : Int) c x) (nd + 1) nb nr)) 29 (rg_zT (rg_yW σ nd (((Int.toNat r * 40 + Int.toNat b) : Nat) : Int) c x) (nd + 1) nb nr)) 30 (rg_zS (rg_yW σ nd (((Int.toNat r * 40 + Int.toNat b) : Nat) : Int) c x) (nd + 1) nb nr)) 31 (rg_hd (σ 31) nr (rg_SZ ((rg_yW σ nd (((Int.toNat r * 40 + Int.toNat b) : Nat) : Int) c x) 14) ((rg_yW σ nd (((Int.toNat r * 40 + Int.toNat b) : Nat) : Int) c x) 11) nb))) 32 (rg_s32 (σ 32) (rg_zE (rg_yW σ nd (((Int.toNat r * 40 + Int.toNat b) : Nat) : Int) c x) (nd + 1)) (rg_zA (rg_yW σ nd (((Int.toNat r * 40 + Int.toNat b) : Nat) : Int) c x) (nd + 1)) nb nr)) 33 (rg_s33 (σ 33) (rg_zE (rg_yW σ nd (((Int.toNat r * 40 + Int.toNat b) : Nat) : Int) c x) (nd + 1)) (rg_zA (rg_yW σ nd (((Int.toNat r * 40 + Int.toNat b) : Nat) : Int) c x) (nd + 1)) nb nr)) 34 (rg_zC (rg_yW σ nd (((Int.toNat r * 40 + Int.toNat b) : Nat) : Int) c x) (nd + 1) nb nr)) 35 (rg_zD (rg_yW σ nd (((Int.toNat r * 40 + Int.toNat b) : Nat) : Int) c x) (nd + 1) nb nr ns)) 36 (rg_zM (rg_yW σ nd (((Int.toNat r * 40 + Int.toNat b) : Nat) : Int) c x) (nd + 1) nb nr)) 37 (rg_zK (rg_yW σ nd (((Int.toNat r * 40 + Int.toNat b) : Nat) : Int) c x) (nd + 1) nb nr ns)) 38 (rg_zG (rg_yW σ nd (((Int.toNat r * 40 + Int.toNat b) : Nat) : Int) c x) (nd + 1) nb nr)) 39 (rg_zN (rg_yW σ nd (((Int.toNat r * 40 + Int.toNat b) : Nat) : Int) c x) (nd + 1) nb nr ns)) (rg_wr (rg_wr (rg_wr (rg_wr (rg_wr (rg_wr (rg_wr (rg_wr (rg_wr (rg_wr (rg_wr (rg_wr (rg_wr (rg_wr (rg_wr τ 0 (rg_up (rg_up (τ 0) 0 0) 16 0)) 9 (rg_up (τ 9) 40 (((Int.toNat r * 40 + Int.toNat b) : Nat) : Int))) 10 (rg_up (τ 10) 40 c)) 11 (rg_up (τ 11) 40 x)) 12 (rg_up (τ 12) 40 0)) 15 (rg_kE (rg_kW τ (((Int.toNat r * 40 + Int.toNat b) : Nat) : Int) c x) 1 nd nb nr)) 16 (rg_kA (rg_kW τ (((Int.toNat r * 40 + Int.toNat b) : Nat) : Int) c x) 1 nd nb nr)) 17 (rg_kP (rg_kW τ (((Int.toNat r * 40 + Int.toNat b) : Nat) : Int) c x) 1 nd nb nr)) 18 (rg_kS (rg_kW τ (((Int.toNat r * 40 + Int.toNat b) : Nat) : Int) c x) 1 nd nb nr)) 19 (rg_kT (rg_kW τ (((Int.toNat r * 40 + Int.toNat b) : Nat) : Int) c x) 1 nd nb nr)) 20 (rg_ctb (τ 20) nr nb (fun _ _ => True) (rg_kD (rg_kW τ (((Int.toNat r * 40 + Int.toNat b) : Nat) : Int) c x) 1 nd nb nr ns))) 21 (rg_hd (τ 21) nb (rg_kG (rg_kW τ (((Int.toNat r * 40 + Int.toNat b) : Nat) : Int) c x) 1 nd nb nr))) 22 (rg_hd (τ 22) nb (rg_kN (rg_kW τ (((Int.toNat r * 40 + Int.toNat b) : Nat) : Int) c x) 1 nd nb nr ns))) 23 (rg_hd (τ 23) nb (rg_kM (rg_kW τ (((Int.toNat r * 40 + Int.toNat b) : Nat) : Int) c x) 1 nd nb nr))) 24 (rg_hd (τ 24) nb (rg_kC (rg_kW τ (((Int.toNat r * 40 + Int.toNat b) : Nat) : Int) c x) 1 nd nb nr ns))) nb nr nd ns := by
  have hq := rg_wg_0 hc
  have hnb := h.C.hnb
  have hnr := h.C.hnr
  have hnd := h.M.hnd
  have hY : rg_IC (rg_yW σ nd (((Int.toNat r * 40 + Int.toNat b) : Nat) : Int) c x) nb nr (nd + 1) ns := rg_IC_yW h.C hnd ⟨by omega, by omega⟩ hq.2
  have hK : rg_IM (rg_kW τ (((Int.toNat r * 40 + Int.toNat b) : Nat) : Int) c x) nb nr nd ns 1 := rg_IM_kW h.M ⟨by omega, by omega⟩ ⟨by omega, by omega⟩ ⟨by omega, by omega⟩
  exact ⟨h.c12, h.c23, (by show (((nd + 1 : Nat) : Int) - 1) = ((nd : Nat) : Int); omega), h.c52, h.m1, h.m4, h.m11, h.m17, rfl, h.m20, h.sp, Or.inr rfl, z_what_C h hc, z_what_M h hc, z_what_R h hc, h.z, fun z => absurd (show (1 : Int) = 0 from z) (by decide), z_what_x25 h hc, z_what_x30 h hc, z_what_x35 h hc, h.x40, z_what_x17 h hc, h.s⟩
