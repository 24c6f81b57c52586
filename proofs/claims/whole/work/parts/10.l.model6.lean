/-! Words for the reference's answers. -/
theorem rg_cI_0 {n x : Int} (h : rg_cI n x = 0) : 0 ≤ x ∧ x ≤ n - 1 := by
  unfold rg_cI at h
  split at h
  · next q => exact q
  · exact absurd h (by decide)
theorem rg_cT_0 {nb nr r b : Int} (h : rg_cT nb nr r b = 0) : rg_th nb nr r b := by
  unfold rg_cT at h
  split at h
  · next q => exact q
  · exact absurd h (by decide)
def rg_cJ (n x : Int) : Int := if 1 ≤ x ∧ x ≤ n then 0 else 1
theorem rg_cJ_0 {n x : Int} (h : rg_cJ n x = 0) : 1 ≤ x ∧ x ≤ n := by
  unfold rg_cJ at h
  split at h
  · next q => exact q
  · exact absurd h (by decide)
def rg_cE (nb a b : Int) : Int := if ¬ ((0 ≤ a ∧ a ≤ nb - 1) ∧ 0 ≤ b ∧ b ≤ nb - 1) then 1 else if a = b then 2 else 0
theorem rg_cE_0 {nb a b : Int} (h : rg_cE nb a b = 0) : ((0 ≤ a ∧ a ≤ nb - 1) ∧ 0 ≤ b ∧ b ≤ nb - 1) ∧ ¬ a = b := by
  unfold rg_cE at h
  (repeat' split at h) <;> first | (exact absurd h (by decide)) | omega
def rg_cW (nb b w : Int) : Int := if ¬ (0 ≤ b ∧ b ≤ nb - 1) then 1 else if 0 ≤ w ∧ w ≤ 3 then 0 else 2
theorem rg_cW_0 {nb b w : Int} (h : rg_cW nb b w = 0) : (0 ≤ b ∧ b ≤ nb - 1) ∧ 0 ≤ w ∧ w ≤ 3 := by
  unfold rg_cW at h
  (repeat' split at h) <;> first | (exact absurd h (by decide)) | omega
noncomputable def rg_kO (σ : rg_S) (tr : Int) (nd nb nr ns : Nat) (a b : Nat) : Int := rg_od (σ 1) (σ 2) (rg_hd (σ 22) nb (rg_kN σ tr nd nb nr ns)) (rg_kS σ tr nd nb nr) (σ 4) (σ 3) (rg_kT σ tr nd nb nr) (rg_ctb (σ 20) nr nb (fun _ _ => True) (rg_kD σ tr nd nb nr ns)) nr a b
noncomputable def rg_kK (σ : rg_S) (tr : Int) (nd nb nr ns : Nat) (a b : Nat) : Int := rg_ok (σ 1) (σ 2) (rg_hd (σ 22) nb (rg_kN σ tr nd nb nr ns)) (rg_kS σ tr nd nb nr) (σ 4) (σ 3) (rg_kT σ tr nd nb nr) (rg_ctb (σ 20) nr nb (fun _ _ => True) (rg_kD σ tr nd nb nr ns)) nr a b
theorem rg_kO_bd {σ : rg_S} {nb nr nd ns : Nat} {tr : Int} (h : rg_IM σ nb nr nd ns tr) {a b : Nat} (ha : a < nb) (hb : b < nb) : -2000000 ≤ rg_kO σ tr nd nb nr ns a b ∧ rg_kO σ tr nd nb nr ns a b ≤ 2000000 := by
  have h1 := h.hnb
  exact rg_oD_bd (by omega) (by omega) h.hlo h.hfl (rg_w22_bd h) (rg_bS_bd _ _ _ _ _ _ _ _ h.hnr _) (rg_ff_bd (nr := nr) (fun o ho => rg_ms2_bd h ho ha) (fun o ho => rg_ms2_bd h ho hb) nr (Nat.le_refl _))
theorem rg_rO_Rg {d : Nat → Nat → Int} {nb : Nat} (h : nb ≤ 40) (b : Nat) : rg_Rg ((rg_rO d nb b : Nat) : Int) := by
  have := rg_rO_bd d nb b
  exact ⟨by omega, by omega⟩
theorem rg_kD_01 {σ : rg_S} {tr : Int} {nd nb nr ns r b : Nat} : rg_kD σ tr nd nb nr ns r b = 0 ∨ rg_kD σ tr nd nb nr ns r b = 1 := rg_b_01 _
noncomputable def rg_mF (P : Nat → Prop) (k : Int) : Nat → Int
  | 0 => -1
  | b + 1 => @ite Int (P b ∧ ((rg_cnt P (b + 1) : Nat) : Int) - 1 = k) (Classical.propDecidable _) (b : Int) (rg_mF P k b)
theorem rg_mF_t {P : Nat → Prop} {k : Int} {b : Nat} {n : Int} (h : P b) (hn : n = ((rg_cnt P b : Nat) : Int) - 1) (hk : n + 1 = k) : (b : Int) = rg_mF P k (b + 1) ∧ n + 1 = ((rg_cnt P (b + 1) : Nat) : Int) - 1 := by
  have q := rg_cnt_t h
  exact ⟨(@if_pos _ (Classical.propDecidable _) ⟨h, by omega⟩ _ _ _).symm, by omega⟩
theorem rg_mF_m {P : Nat → Prop} {k : Int} {b : Nat} {n f : Int} (h : P b) (hn : n = ((rg_cnt P b : Nat) : Int) - 1) (hf : f = rg_mF P k b) (hk : ¬ n + 1 = k) : f = rg_mF P k (b + 1) ∧ n + 1 = ((rg_cnt P (b + 1) : Nat) : Int) - 1 := by
  have q := rg_cnt_t h
  exact ⟨hf.trans (@if_neg _ (Classical.propDecidable _) (fun z => hk (by have := z.2; omega)) _ _ _).symm, by omega⟩
theorem rg_mF_f {P : Nat → Prop} {k : Int} {b : Nat} {n f : Int} (h : ¬ P b) (hn : n = ((rg_cnt P b : Nat) : Int) - 1) (hf : f = rg_mF P k b) : f = rg_mF P k (b + 1) ∧ n + 0 = ((rg_cnt P (b + 1) : Nat) : Int) - 1 := by
  have q := rg_cnt_f h
  exact ⟨hf.trans (@if_neg _ (Classical.propDecidable _) (fun z => h z.1) _ _ _).symm, by omega⟩
/-- the world in which a trial decision stands -/
def rg_kW (σ : rg_S) (j c x : Int) : rg_S := rg_wr (rg_wr (rg_wr (rg_wr σ 9 (rg_up (σ 9) 40 j)) 10 (rg_up (σ 10) 40 c)) 11 (rg_up (σ 11) 40 x)) 12 (rg_up (σ 12) 40 0)
theorem rg_up_al2 {f : Nat → Int} {P : Int → Prop} {j : Nat} {v : Int} (h : ∀ i, P (f i)) (hv : P v) (i : Nat) : P (rg_up f j v i) := by
  unfold rg_up; split
  · exact hv
  · exact h i
theorem rg_IM_kW {σ : rg_S} {nb nr nd ns : Nat} {tr : Int} (h : rg_IM σ nb nr nd ns tr) {j c x : Int} (hj : 0 ≤ j ∧ j ≤ 639) (hc : 0 ≤ c ∧ c ≤ 9) (hx : 0 ≤ x ∧ x ≤ 9999) : rg_IM (rg_kW σ j c x) nb nr nd ns 1 :=
  ⟨h.hnb, h.hnr, h.hnd, h.hns, Or.inr rfl, h.hlo, h.hfl, h.hkd, h.hrf, h.hab, h.hpu, h.hpa, h.hpp, rg_up_al2 (P := fun z => 0 ≤ z ∧ z ≤ 639) h.hwh hj, rg_up_al2 (P := fun z => 0 ≤ z ∧ z ≤ 9) h.hwt hc, rg_up_al2 (P := fun z => 0 ≤ z ∧ z ≤ 9999) h.hwa hx, rg_up_al2 (P := fun z => z = 0 ∨ z = 1) h.hro (Or.inl rfl), h.hsr, h.hsm, h.hen, h.har, h.hsl, h.hlf, h.h21, h.h22, h.h23, h.h24, h.h25⟩
