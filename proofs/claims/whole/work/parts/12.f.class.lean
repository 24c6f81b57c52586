/-! Words for a trial decision, and the rows' range. -/
def rg_yW (σ : rg_S) (nd : Nat) (j c x : Int) : rg_S := rg_wr (rg_wr (rg_wr (rg_wr σ 4 (rg_up (σ 4) 4 (((nd : Nat) : Int) + 1))) 19 (rg_up (σ 19) nd j)) 20 (rg_up (σ 20) nd c)) 21 (rg_up (σ 21) nd x)
theorem rg_okD_s {nd : Nat} {dc dk da : Nat → Int} {j c x : Int} (h : rg_okD nd dc dk da) (hj : 0 ≤ j ∧ j < 640) (hg : rg_gd c x) : rg_okD (nd + 1) (rg_up dc nd j) (rg_up dk nd c) (rg_up da nd x) := by
  intro d hd
  unfold rg_up
  by_cases z : d = nd
  · rw [if_pos z, if_pos z, if_pos z]; omega
  · rw [if_neg z, if_neg z, if_neg z]; exact h d (by omega)
theorem rg_IC_yW {σ : rg_S} {nb nr nd ns : Nat} (h : rg_IC σ nb nr nd ns) (hn : nd ≤ 40) {j c x : Int} (hj : 0 ≤ j ∧ j < 640) (hg : rg_gd c x) : rg_IC (rg_yW σ nd j c x) nb nr (nd + 1) ns :=
  ⟨h.hnb, h.hnr, by omega, h.hns, h.hok, rg_okD_s h.hD hj hg, h.hro, h.hfl, h.hlt, h.hkd, h.hrf, h.hab, h.hsr, h.hsl, h.h28, h.h330, h.h34, h.h35, h.h39, h.h41⟩
theorem rg_z40_Rg {σ : rg_S} {nb nr nd ns : Nat} (h : rg_IC σ nb nr nd ns) (j : Nat) : rg_Rg (rg_rws nb (rg_zR σ nd nb nr ns) j) :=
  rg_rws_Rg (fun a c ha => rg_fw_Rg (rg_g0_Rg (rg_Rg_of (h.hfl _)) (by have := rg_zN_bd h a; exact ⟨by omega, by omega⟩) (rg_Rg_of (h.hlt _)) (by have := h.hnb; exact ⟨by omega, by omega⟩)) (fun _ => rg_zC_Rg h _) _ _ _) j
