/-! Words for the reference's split. -/
def rg_cS (pa s g v nb : Int) : Int := if ¬ pa = 0 ∨ s = 0 then 1 else if g < 1 ∨ v < 1 ∨ nb < g ∨ nb - g < v then 2 else 0
theorem rg_cS_0 {pa s g v nb : Int} (h : rg_cS pa s g v nb = 0) : (pa = 0 ∧ ¬ s = 0) ∧ (1 ≤ g ∧ 1 ≤ v) ∧ g ≤ nb ∧ v ≤ nb - g := by
  unfold rg_cS at h
  (repeat' split at h) <;> first | (exact absurd h (by decide)) | omega
def rg_pf (g v k : Int) : Int := if k ≤ g then 1 else if k ≤ g + v then 2 else 3
/-- the world when the decisions have been looked up -/
noncomputable def rg_kV (σ : rg_S) (tr : Int) (nd nb nr : Nat) : rg_S := rg_wr (rg_wr (rg_wr (rg_wr σ 15 (rg_kE σ tr nd nb nr)) 16 (rg_kA σ tr nd nb nr)) 17 (rg_kP σ tr nd nb nr)) 18 (rg_kS σ tr nd nb nr)
theorem rg_IM_kV {σ : rg_S} {nb nr nd ns : Nat} {tr : Int} (h : rg_IM σ nb nr nd ns tr) : rg_IM (rg_kV σ tr nd nb nr) nb nr nd ns tr :=
  ⟨h.hnb, h.hnr, h.hnd, h.hns, h.htr, h.hlo, h.hfl, h.hkd, h.hrf, h.hab, h.hpu, h.hpa, h.hpp, h.hwh, h.hwt, h.hwa, h.hro, h.hsr, h.hsm, rg_kE_Rg h, rg_kA_Rg h, rg_kS_Rg h, h.hlf, h.h21, h.h22, h.h23, h.h24, h.h25⟩
