/-! The class's derived tables, as functions of the world before the calculation. -/
/-- what the class's world keeps -/
def rg_IC (σ : rg_S) (nb nr nd ns : Nat) : Prop :=
  (nb ≤ 40) ∧ (nr ≤ 16) ∧ (nd ≤ 41) ∧ (ns ≤ 6) ∧ (rg_okE (σ 16) (σ 17) (σ 18)) ∧ (rg_okD nd (σ 19) (σ 20) (σ 21)) ∧ (∀ j, σ 22 j = 0 ∨ σ 22 j = 1) ∧ (∀ j, 0 ≤ σ 11 j ∧ σ 11 j ≤ 3) ∧ (∀ j, 0 ≤ σ 12 j ∧ σ 12 j ≤ 999) ∧ (∀ j, 0 ≤ σ 13 j ∧ σ 13 j ≤ 2) ∧ (∀ j, 0 ≤ σ 14 j ∧ σ 14 j ≤ 3) ∧ (∀ j, σ 15 j = 0 ∨ σ 15 j = 1) ∧ (∀ j, 0 ≤ σ 23 j ∧ σ 23 j ≤ 16) ∧ (∀ j, 0 ≤ σ 24 j ∧ σ 24 j ≤ 15) ∧ (∀ j, rg_Rg (σ 28 j)) ∧ (σ 33 0 = 0) ∧ (∀ j, rg_Rg (σ 34 j)) ∧ (∀ j, rg_Rg (σ 35 j)) ∧ (∀ j, -1000000 ≤ σ 39 j ∧ σ 39 j ≤ 1000000) ∧ (∀ j, 0 ≤ σ 41 j ∧ σ 41 j < 40)
theorem rg_IC.hnb {σ : rg_S} {nb nr nd ns : Nat} (h : rg_IC σ nb nr nd ns) : nb ≤ 40 := h.1
theorem rg_IC.hnr {σ : rg_S} {nb nr nd ns : Nat} (h : rg_IC σ nb nr nd ns) : nr ≤ 16 := h.2.1
theorem rg_IC.hnd {σ : rg_S} {nb nr nd ns : Nat} (h : rg_IC σ nb nr nd ns) : nd ≤ 41 := h.2.2.1
theorem rg_IC.hns {σ : rg_S} {nb nr nd ns : Nat} (h : rg_IC σ nb nr nd ns) : ns ≤ 6 := h.2.2.2.1
theorem rg_IC.hok {σ : rg_S} {nb nr nd ns : Nat} (h : rg_IC σ nb nr nd ns) : rg_okE (σ 16) (σ 17) (σ 18) := h.2.2.2.2.1
theorem rg_IC.hD {σ : rg_S} {nb nr nd ns : Nat} (h : rg_IC σ nb nr nd ns) : rg_okD nd (σ 19) (σ 20) (σ 21) := h.2.2.2.2.2.1
theorem rg_IC.hro {σ : rg_S} {nb nr nd ns : Nat} (h : rg_IC σ nb nr nd ns) : ∀ j, σ 22 j = 0 ∨ σ 22 j = 1 := h.2.2.2.2.2.2.1
theorem rg_IC.hfl {σ : rg_S} {nb nr nd ns : Nat} (h : rg_IC σ nb nr nd ns) : ∀ j, 0 ≤ σ 11 j ∧ σ 11 j ≤ 3 := h.2.2.2.2.2.2.2.1
theorem rg_IC.hlt {σ : rg_S} {nb nr nd ns : Nat} (h : rg_IC σ nb nr nd ns) : ∀ j, 0 ≤ σ 12 j ∧ σ 12 j ≤ 999 := h.2.2.2.2.2.2.2.2.1
theorem rg_IC.hkd {σ : rg_S} {nb nr nd ns : Nat} (h : rg_IC σ nb nr nd ns) : ∀ j, 0 ≤ σ 13 j ∧ σ 13 j ≤ 2 := h.2.2.2.2.2.2.2.2.2.1
theorem rg_IC.hrf {σ : rg_S} {nb nr nd ns : Nat} (h : rg_IC σ nb nr nd ns) : ∀ j, 0 ≤ σ 14 j ∧ σ 14 j ≤ 3 := h.2.2.2.2.2.2.2.2.2.2.1
theorem rg_IC.hab {σ : rg_S} {nb nr nd ns : Nat} (h : rg_IC σ nb nr nd ns) : ∀ j, σ 15 j = 0 ∨ σ 15 j = 1 := h.2.2.2.2.2.2.2.2.2.2.2.1
theorem rg_IC.hsr {σ : rg_S} {nb nr nd ns : Nat} (h : rg_IC σ nb nr nd ns) : ∀ j, 0 ≤ σ 23 j ∧ σ 23 j ≤ 16 := h.2.2.2.2.2.2.2.2.2.2.2.2.1
theorem rg_IC.hsl {σ : rg_S} {nb nr nd ns : Nat} (h : rg_IC σ nb nr nd ns) : ∀ j, 0 ≤ σ 24 j ∧ σ 24 j ≤ 15 := h.2.2.2.2.2.2.2.2.2.2.2.2.2.1
theorem rg_IC.h28 {σ : rg_S} {nb nr nd ns : Nat} (h : rg_IC σ nb nr nd ns) : ∀ j, rg_Rg (σ 28 j) := h.2.2.2.2.2.2.2.2.2.2.2.2.2.2.1
theorem rg_IC.h330 {σ : rg_S} {nb nr nd ns : Nat} (h : rg_IC σ nb nr nd ns) : σ 33 0 = 0 := h.2.2.2.2.2.2.2.2.2.2.2.2.2.2.2.1
theorem rg_IC.h34 {σ : rg_S} {nb nr nd ns : Nat} (h : rg_IC σ nb nr nd ns) : ∀ j, rg_Rg (σ 34 j) := h.2.2.2.2.2.2.2.2.2.2.2.2.2.2.2.2.1
theorem rg_IC.h35 {σ : rg_S} {nb nr nd ns : Nat} (h : rg_IC σ nb nr nd ns) : ∀ j, rg_Rg (σ 35 j) := h.2.2.2.2.2.2.2.2.2.2.2.2.2.2.2.2.2.1
theorem rg_IC.h39 {σ : rg_S} {nb nr nd ns : Nat} (h : rg_IC σ nb nr nd ns) : ∀ j, -1000000 ≤ σ 39 j ∧ σ 39 j ≤ 1000000 := h.2.2.2.2.2.2.2.2.2.2.2.2.2.2.2.2.2.2.1
theorem rg_IC.h41 {σ : rg_S} {nb nr nd ns : Nat} (h : rg_IC σ nb nr nd ns) : ∀ j, 0 ≤ σ 41 j ∧ σ 41 j < 40 := h.2.2.2.2.2.2.2.2.2.2.2.2.2.2.2.2.2.2.2
noncomputable def rg_zE (σ : rg_S) (nd : Nat) : Nat → Int := rg_app (σ 19) (σ 22) (σ 20) (σ 16) nd
noncomputable def rg_zA (σ : rg_S) (nd : Nat) : Nat → Int := rg_app (σ 19) (σ 22) (σ 21) (σ 17) nd
noncomputable def rg_zP (σ : rg_S) (nd : Nat) : Nat → Int := rg_app (σ 19) (σ 22) (fun _ => 0) (σ 18) nd
noncomputable def rg_zI (σ : rg_S) (nd nb nr : Nat) : Nat → Int := rg_tab (σ 28) nr nb (rg_IN (σ 14) (σ 11) (σ 15) (rg_zE σ nd) nb)
noncomputable def rg_zT (σ : rg_S) (nd nb nr : Nat) : Nat → Int := rg_tab (σ 29) nr nb (rg_P2 (σ 14) (σ 11) (σ 15) (rg_zE σ nd) (rg_zA σ nd) (rg_zP σ nd) nb nr)
noncomputable def rg_zS (σ : rg_S) (nd nb nr : Nat) : Nat → Int := rg_hd (σ 30) nr (rg_SL (σ 15) (rg_zE σ nd) nb)
noncomputable def rg_zC (σ : rg_S) (nd nb nr : Nat) : Nat → Int := rg_ctb (σ 34) nr nb (rg_px (rg_zI σ nd nb nr)) (rg_Sx (rg_zT σ nd nb nr) (σ 13))
noncomputable def rg_zD (σ : rg_S) (nd nb nr ns : Nat) : Nat → Int := rg_ctb (σ 35) nr nb (fun _ _ => True) (rg_Dx (rg_zI σ nd nb nr) (rg_zT σ nd nb nr) (σ 13) (rg_zE σ nd) (σ 23) (σ 24) ns nr)
noncomputable def rg_zM (σ : rg_S) (nd nb nr : Nat) : Nat → Int := rg_hd (σ 36) nb (rg_Mx (rg_zI σ nd nb nr) nr)
noncomputable def rg_zK (σ : rg_S) (nd nb nr ns : Nat) : Nat → Int := rg_hd (σ 37) nb (rg_Cx (rg_zI σ nd nb nr) (rg_zT σ nd nb nr) (σ 13) (rg_zE σ nd) (σ 23) (σ 24) ns nr)
noncomputable def rg_zG (σ : rg_S) (nd nb nr : Nat) : Nat → Int := rg_hd (σ 38) nb (rg_Gx (rg_zI σ nd nb nr) (rg_zT σ nd nb nr) (σ 13) nr)
noncomputable def rg_zN (σ : rg_S) (nd nb nr ns : Nat) : Nat → Int := rg_hd (σ 39) nb (rg_Nx (rg_zI σ nd nb nr) (rg_zT σ nd nb nr) (σ 13) (rg_zE σ nd) (σ 23) (σ 24) ns nr)
noncomputable def rg_zR (σ : rg_S) (nd nb nr ns : Nat) : Nat → Nat → Int := rg_RW (σ 11) (rg_zN σ nd nb nr ns) (σ 12) (rg_zI σ nd nb nr) (rg_zD σ nd nb nr ns) (rg_zC σ nd nb nr) nr
noncomputable def rg_zO (σ : rg_S) (nd nb nr ns : Nat) : Nat → Int := rg_OD (rg_zR σ nd nb nr ns) (σ 41) nb
theorem rg_zE_ok {σ : rg_S} {nb nr nd ns : Nat} (h : rg_IC σ nb nr nd ns) : rg_okE (rg_zE σ nd) (rg_zA σ nd) (rg_zP σ nd) := rg_okE_app h.hok nd h.hD
theorem rg_zI_Rg {σ : rg_S} {nb nr nd ns : Nat} (h : rg_IC σ nb nr nd ns) (j : Nat) : rg_Rg (rg_zI σ nd nb nr j) := rg_tab_Rg h.h28 (fun _ _ => rg_IN_Rg _ _ _ _ _ _ _) j
theorem rg_zT_bd {σ : rg_S} {nb nr nd ns : Nat} (h : rg_IC σ nb nr nd ns) {o c : Nat} (ho : o < nr) (hc : c < nb) (hz : ¬ rg_zI σ nd nb nr (o * 40 + c) = 0) : 0 ≤ rg_zT σ nd nb nr (o * 40 + c) ∧ rg_zT σ nd nb nr (o * 40 + c) ≤ 9999 := by
  unfold rg_zI at hz
  rw [rg_tab_at _ _ ho hc h.hnb] at hz
  unfold rg_zT
  rw [rg_tab_at _ _ ho hc h.hnb]
  exact rg_P2_bd (rg_zE_ok h) h.hnb hc hz
theorem rg_zC_Rg {σ : rg_S} {nb nr nd ns : Nat} (h : rg_IC σ nb nr nd ns) (j : Nat) : rg_Rg (rg_zC σ nd nb nr j) := rg_ctb_Rg h.h34 (fun _ _ ho hc hp => rg_Rg_of (rg_Sx_bd (rg_zT_bd h ho hc hp))) j
theorem rg_zD_Rg {σ : rg_S} {nb nr nd ns : Nat} (h : rg_IC σ nb nr nd ns) (j : Nat) : rg_Rg (rg_zD σ nd nb nr ns j) := rg_ctb_Rg h.h35 (fun _ _ _ _ _ => rg_Dt_Rg _ _ _ _ _) j
theorem rg_Nt_bd {can : Nat → Prop} {S : Nat → Int} {nr : Nat} {g : Int} (h : ∀ o, o < nr → can o → 0 ≤ S o ∧ S o ≤ 19998) (n : Nat) : g - 19998 * (n : Int) ≤ rg_Nt can S nr g n ∧ rg_Nt can S nr g n ≤ g := by
  induction n with
  | zero => exact ⟨by show g - 19998 * 0 ≤ g; omega, Int.le_refl _⟩
  | succ n ih =>
    rw [rg_Nt]
    split
    · omega
    · next q =>
      have w := (rg_wst_congr (can := can) (can' := can) (S := S) (S' := S) (d := rg_Dt can S nr n) (d' := rg_Dt can S nr n) (n := nr) (fun _ _ => Iff.rfl) (fun _ _ _ => rfl) (fun _ _ => rfl)).2
      have bd := rg_wst_bd can S (rg_Dt can S nr n) nr
      rcases w with w | w
      · exact absurd w q
      · have hs := h _ (by omega) w
        omega
theorem rg_Gx_bd {σ : rg_S} {nb nr nd ns : Nat} (h : rg_IC σ nb nr nd ns) {c : Nat} (hc : c < nb) : 0 ≤ rg_Gx (rg_zI σ nd nb nr) (rg_zT σ nd nb nr) (σ 13) nr c ∧ rg_Gx (rg_zI σ nd nb nr) (rg_zT σ nd nb nr) (σ 13) nr c ≤ 319968 := by
  have q := rg_sum_bd (p := fun o => rg_px (rg_zI σ nd nb nr) o c) (pt := fun o => rg_Sx (rg_zT σ nd nb nr) (σ 13) o c) (M := 19998) (n := nr) (by omega) (fun o ho hp => rg_Sx_bd (rg_zT_bd h ho hc hp))
  have q2 := rg_cnt_le (fun o => rg_px (rg_zI σ nd nb nr) o c) nr
  have q3 := h.hnr
  have q4 : rg_Gx (rg_zI σ nd nb nr) (rg_zT σ nd nb nr) (σ 13) nr c = rg_sum (fun o => rg_ite (rg_px (rg_zI σ nd nb nr) o c) (rg_Sx (rg_zT σ nd nb nr) (σ 13) o c) 0) nr := rfl
  rw [q4]
  omega
theorem rg_Nx_bd {σ : rg_S} {nb nr nd ns : Nat} (h : rg_IC σ nb nr nd ns) {c : Nat} (hc : c < nb) : -1000000 ≤ rg_Nx (rg_zI σ nd nb nr) (rg_zT σ nd nb nr) (σ 13) (rg_zE σ nd) (σ 23) (σ 24) ns nr c ∧ rg_Nx (rg_zI σ nd nb nr) (rg_zT σ nd nb nr) (σ 13) (rg_zE σ nd) (σ 23) (σ 24) ns nr c ≤ 1000000 := by
  have q1 := rg_Gx_bd h hc
  have q2 := rg_al_bd (sr := σ 23) (sl := σ 24) (m := rg_Mx (rg_zI σ nd nb nr) nr c) (n := ns) (fun k _ => h.hsl k)
  have q3 := rg_Nt_bd (can := fun o => rg_cn (rg_zI σ nd nb nr) (σ 13) (rg_zE σ nd) o c) (S := fun o => rg_Sx (rg_zT σ nd nb nr) (σ 13) o c) (nr := nr) (g := rg_Gx (rg_zI σ nd nb nr) (rg_zT σ nd nb nr) (σ 13) nr c) (fun o ho hp => rg_Sx_bd (rg_zT_bd h ho hc hp.1)) (rg_Ax (rg_zI σ nd nb nr) (σ 23) (σ 24) ns nr c)
  have q4 : rg_Ax (rg_zI σ nd nb nr) (σ 23) (σ 24) ns nr c ≤ 15 := by unfold rg_Ax; omega
  unfold rg_Nx
  omega
theorem rg_zN_bd {σ : rg_S} {nb nr nd ns : Nat} (h : rg_IC σ nb nr nd ns) (j : Nat) : -1000000 ≤ rg_zN σ nd nb nr ns j ∧ rg_zN σ nd nb nr ns j ≤ 1000000 := rg_hd_bd h.h39 (fun _ hj => rg_Nx_bd h hj) j
theorem rg_IC_0 {σ : rg_S} {nb nr nd ns : Nat} (h : rg_IC σ nb nr nd ns) (f : Nat → Int) : rg_IC (rg_wr σ 0 f) nb nr nd ns :=
  ⟨h.hnb, h.hnr, h.hnd, h.hns, h.hok, h.hD, h.hro, h.hfl, h.hlt, h.hkd, h.hrf, h.hab, h.hsr, h.hsl, h.h28, h.h330, h.h34, h.h35, h.h39, h.h41⟩
