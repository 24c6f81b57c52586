/-! The reference's derived tables, as functions of the world before the reckoning. -/
noncomputable def rg_kE (σ : rg_S) (tr : Int) (nd nb nr : Nat) : Nat → Int := rg_tab (σ 15) nr nb (fun i c => rg_me (σ 9) (σ 12) (σ 10) (σ 6) tr nd (i * 40 + c))
noncomputable def rg_kA (σ : rg_S) (tr : Int) (nd nb nr : Nat) : Nat → Int := rg_tab (σ 16) nr nb (fun i c => rg_ma (σ 9) (σ 12) (σ 11) (σ 7) tr nd (i * 40 + c))
noncomputable def rg_kP (σ : rg_S) (tr : Int) (nd nb nr : Nat) : Nat → Int := rg_tab (σ 17) nr nb (fun i c => rg_mp (σ 9) (σ 12) (σ 8) tr nd (i * 40 + c))
noncomputable def rg_kS (σ : rg_S) (tr : Int) (nd nb nr : Nat) : Nat → Int := rg_hd (σ 18) nr (rg_ms (σ 4) (σ 2) (σ 5) (fun i c => rg_me (σ 9) (σ 12) (σ 10) (σ 6) tr nd (i * 40 + c)) nb)
noncomputable def rg_kQ (σ : rg_S) (tr : Int) (nd nb nr : Nat) : Nat → Int := rg_tab (σ 19) nr nb (rg_q0 (σ 4) (σ 2) (rg_kE σ tr nd nb nr) (rg_kA σ tr nd nb nr) (rg_kP σ tr nd nb nr) nb)
noncomputable def rg_kT (σ : rg_S) (tr : Int) (nd nb nr : Nat) : Nat → Int := rg_tab (rg_kQ σ tr nd nb nr) nr nb (rg_mv (rg_kS σ tr nd nb nr) (σ 4) (σ 2) (rg_kE σ tr nd nb nr) (rg_kQ σ tr nd nb nr) nb nr)
noncomputable def rg_kD (σ : rg_S) (tr : Int) (nd nb nr ns : Nat) (r b : Nat) : Int := rg_mD (rg_kS σ tr nd nb nr) (σ 4) (σ 2) (σ 3) (rg_kE σ tr nd nb nr) (rg_kT σ tr nd nb nr) (σ 13) (σ 14) ns nr r b
noncomputable def rg_kG (σ : rg_S) (tr : Int) (nd nb nr : Nat) (b : Nat) : Int := rg_mG (rg_kS σ tr nd nb nr) (σ 4) (σ 2) (σ 3) (rg_kT σ tr nd nb nr) nr b
noncomputable def rg_kM (σ : rg_S) (tr : Int) (nd nb nr : Nat) (b : Nat) : Int := rg_mM (rg_kS σ tr nd nb nr) (σ 4) (σ 2) nr b
noncomputable def rg_kN (σ : rg_S) (tr : Int) (nd nb nr ns : Nat) (b : Nat) : Int := rg_mN (rg_kS σ tr nd nb nr) (σ 4) (σ 2) (σ 3) (rg_kE σ tr nd nb nr) (rg_kT σ tr nd nb nr) (σ 13) (σ 14) ns nr b
noncomputable def rg_kC (σ : rg_S) (tr : Int) (nd nb nr ns : Nat) (b : Nat) : Int := rg_mC (rg_kS σ tr nd nb nr) (σ 4) (σ 2) (σ 3) (rg_kE σ tr nd nb nr) (rg_kT σ tr nd nb nr) (σ 13) (σ 14) ns nr b
/-- what the reference's world keeps -/
def rg_IM (σ : rg_S) (nb nr nd ns : Nat) (tr : Int) : Prop :=
  (nb ≤ 40) ∧ (nr ≤ 16) ∧ (nd ≤ 40) ∧ (ns ≤ 6) ∧ (tr = 0 ∨ tr = 1) ∧ (∀ j, 0 ≤ σ 1 j ∧ σ 1 j ≤ 999) ∧ (∀ j, 0 ≤ σ 2 j ∧ σ 2 j ≤ 3) ∧ (∀ j, 0 ≤ σ 3 j ∧ σ 3 j ≤ 2) ∧ (∀ j, 0 ≤ σ 4 j ∧ σ 4 j ≤ 3) ∧ (∀ j, σ 5 j = 0 ∨ σ 5 j = 1) ∧ (∀ j, 0 ≤ σ 6 j ∧ σ 6 j ≤ 9) ∧ (∀ j, 0 ≤ σ 7 j ∧ σ 7 j ≤ 9999) ∧ (∀ j, 0 ≤ σ 8 j ∧ σ 8 j ≤ 100) ∧ (∀ j, 0 ≤ σ 9 j ∧ σ 9 j ≤ 639) ∧ (∀ j, 0 ≤ σ 10 j ∧ σ 10 j ≤ 9) ∧ (∀ j, 0 ≤ σ 11 j ∧ σ 11 j ≤ 9999) ∧ (∀ j, σ 12 j = 0 ∨ σ 12 j = 1) ∧ (∀ j, 0 ≤ σ 13 j ∧ σ 13 j ≤ 16) ∧ (∀ j, 0 ≤ σ 14 j ∧ σ 14 j ≤ 15) ∧ (∀ j, rg_Rg (σ 15 j)) ∧ (∀ j, rg_Rg (σ 16 j)) ∧ (∀ j, rg_Rg (σ 18 j)) ∧ (∀ j, rg_Rg (σ 20 j)) ∧ (∀ j, rg_Rg (σ 21 j)) ∧ (∀ j, -1000000 ≤ σ 22 j ∧ σ 22 j ≤ 1000000) ∧ (∀ j, rg_Rg (σ 23 j)) ∧ (∀ j, rg_Rg (σ 24 j)) ∧ (∀ j, rg_Rg (σ 25 j))
theorem rg_IM.hnb {σ : rg_S} {nb nr nd ns : Nat} {tr : Int} (h : rg_IM σ nb nr nd ns tr) : nb ≤ 40 := h.1
theorem rg_IM.hnr {σ : rg_S} {nb nr nd ns : Nat} {tr : Int} (h : rg_IM σ nb nr nd ns tr) : nr ≤ 16 := h.2.1
theorem rg_IM.hnd {σ : rg_S} {nb nr nd ns : Nat} {tr : Int} (h : rg_IM σ nb nr nd ns tr) : nd ≤ 40 := h.2.2.1
theorem rg_IM.hns {σ : rg_S} {nb nr nd ns : Nat} {tr : Int} (h : rg_IM σ nb nr nd ns tr) : ns ≤ 6 := h.2.2.2.1
theorem rg_IM.htr {σ : rg_S} {nb nr nd ns : Nat} {tr : Int} (h : rg_IM σ nb nr nd ns tr) : tr = 0 ∨ tr = 1 := h.2.2.2.2.1
theorem rg_IM.hlo {σ : rg_S} {nb nr nd ns : Nat} {tr : Int} (h : rg_IM σ nb nr nd ns tr) : ∀ j, 0 ≤ σ 1 j ∧ σ 1 j ≤ 999 := h.2.2.2.2.2.1
theorem rg_IM.hfl {σ : rg_S} {nb nr nd ns : Nat} {tr : Int} (h : rg_IM σ nb nr nd ns tr) : ∀ j, 0 ≤ σ 2 j ∧ σ 2 j ≤ 3 := h.2.2.2.2.2.2.1
theorem rg_IM.hkd {σ : rg_S} {nb nr nd ns : Nat} {tr : Int} (h : rg_IM σ nb nr nd ns tr) : ∀ j, 0 ≤ σ 3 j ∧ σ 3 j ≤ 2 := h.2.2.2.2.2.2.2.1
theorem rg_IM.hrf {σ : rg_S} {nb nr nd ns : Nat} {tr : Int} (h : rg_IM σ nb nr nd ns tr) : ∀ j, 0 ≤ σ 4 j ∧ σ 4 j ≤ 3 := h.2.2.2.2.2.2.2.2.1
theorem rg_IM.hab {σ : rg_S} {nb nr nd ns : Nat} {tr : Int} (h : rg_IM σ nb nr nd ns tr) : ∀ j, σ 5 j = 0 ∨ σ 5 j = 1 := h.2.2.2.2.2.2.2.2.2.1
theorem rg_IM.hpu {σ : rg_S} {nb nr nd ns : Nat} {tr : Int} (h : rg_IM σ nb nr nd ns tr) : ∀ j, 0 ≤ σ 6 j ∧ σ 6 j ≤ 9 := h.2.2.2.2.2.2.2.2.2.2.1
theorem rg_IM.hpa {σ : rg_S} {nb nr nd ns : Nat} {tr : Int} (h : rg_IM σ nb nr nd ns tr) : ∀ j, 0 ≤ σ 7 j ∧ σ 7 j ≤ 9999 := h.2.2.2.2.2.2.2.2.2.2.2.1
theorem rg_IM.hpp {σ : rg_S} {nb nr nd ns : Nat} {tr : Int} (h : rg_IM σ nb nr nd ns tr) : ∀ j, 0 ≤ σ 8 j ∧ σ 8 j ≤ 100 := h.2.2.2.2.2.2.2.2.2.2.2.2.1
theorem rg_IM.hwh {σ : rg_S} {nb nr nd ns : Nat} {tr : Int} (h : rg_IM σ nb nr nd ns tr) : ∀ j, 0 ≤ σ 9 j ∧ σ 9 j ≤ 639 := h.2.2.2.2.2.2.2.2.2.2.2.2.2.1
theorem rg_IM.hwt {σ : rg_S} {nb nr nd ns : Nat} {tr : Int} (h : rg_IM σ nb nr nd ns tr) : ∀ j, 0 ≤ σ 10 j ∧ σ 10 j ≤ 9 := h.2.2.2.2.2.2.2.2.2.2.2.2.2.2.1
theorem rg_IM.hwa {σ : rg_S} {nb nr nd ns : Nat} {tr : Int} (h : rg_IM σ nb nr nd ns tr) : ∀ j, 0 ≤ σ 11 j ∧ σ 11 j ≤ 9999 := h.2.2.2.2.2.2.2.2.2.2.2.2.2.2.2.1
theorem rg_IM.hro {σ : rg_S} {nb nr nd ns : Nat} {tr : Int} (h : rg_IM σ nb nr nd ns tr) : ∀ j, σ 12 j = 0 ∨ σ 12 j = 1 := h.2.2.2.2.2.2.2.2.2.2.2.2.2.2.2.2.1
theorem rg_IM.hsr {σ : rg_S} {nb nr nd ns : Nat} {tr : Int} (h : rg_IM σ nb nr nd ns tr) : ∀ j, 0 ≤ σ 13 j ∧ σ 13 j ≤ 16 := h.2.2.2.2.2.2.2.2.2.2.2.2.2.2.2.2.2.1
theorem rg_IM.hsm {σ : rg_S} {nb nr nd ns : Nat} {tr : Int} (h : rg_IM σ nb nr nd ns tr) : ∀ j, 0 ≤ σ 14 j ∧ σ 14 j ≤ 15 := h.2.2.2.2.2.2.2.2.2.2.2.2.2.2.2.2.2.2.1
theorem rg_IM.hen {σ : rg_S} {nb nr nd ns : Nat} {tr : Int} (h : rg_IM σ nb nr nd ns tr) : ∀ j, rg_Rg (σ 15 j) := h.2.2.2.2.2.2.2.2.2.2.2.2.2.2.2.2.2.2.2.1
theorem rg_IM.har {σ : rg_S} {nb nr nd ns : Nat} {tr : Int} (h : rg_IM σ nb nr nd ns tr) : ∀ j, rg_Rg (σ 16 j) := h.2.2.2.2.2.2.2.2.2.2.2.2.2.2.2.2.2.2.2.2.1
theorem rg_IM.hsl {σ : rg_S} {nb nr nd ns : Nat} {tr : Int} (h : rg_IM σ nb nr nd ns tr) : ∀ j, rg_Rg (σ 18 j) := h.2.2.2.2.2.2.2.2.2.2.2.2.2.2.2.2.2.2.2.2.2.1
theorem rg_IM.hlf {σ : rg_S} {nb nr nd ns : Nat} {tr : Int} (h : rg_IM σ nb nr nd ns tr) : ∀ j, rg_Rg (σ 20 j) := h.2.2.2.2.2.2.2.2.2.2.2.2.2.2.2.2.2.2.2.2.2.2.1
theorem rg_IM.h21 {σ : rg_S} {nb nr nd ns : Nat} {tr : Int} (h : rg_IM σ nb nr nd ns tr) : ∀ j, rg_Rg (σ 21 j) := h.2.2.2.2.2.2.2.2.2.2.2.2.2.2.2.2.2.2.2.2.2.2.2.1
theorem rg_IM.h22 {σ : rg_S} {nb nr nd ns : Nat} {tr : Int} (h : rg_IM σ nb nr nd ns tr) : ∀ j, -1000000 ≤ σ 22 j ∧ σ 22 j ≤ 1000000 := h.2.2.2.2.2.2.2.2.2.2.2.2.2.2.2.2.2.2.2.2.2.2.2.2.1
theorem rg_IM.h23 {σ : rg_S} {nb nr nd ns : Nat} {tr : Int} (h : rg_IM σ nb nr nd ns tr) : ∀ j, rg_Rg (σ 23 j) := h.2.2.2.2.2.2.2.2.2.2.2.2.2.2.2.2.2.2.2.2.2.2.2.2.2.1
theorem rg_IM.h24 {σ : rg_S} {nb nr nd ns : Nat} {tr : Int} (h : rg_IM σ nb nr nd ns tr) : ∀ j, rg_Rg (σ 24 j) := h.2.2.2.2.2.2.2.2.2.2.2.2.2.2.2.2.2.2.2.2.2.2.2.2.2.2.1
theorem rg_IM.h25 {σ : rg_S} {nb nr nd ns : Nat} {tr : Int} (h : rg_IM σ nb nr nd ns tr) : ∀ j, rg_Rg (σ 25 j) := h.2.2.2.2.2.2.2.2.2.2.2.2.2.2.2.2.2.2.2.2.2.2.2.2.2.2.2
theorem rg_IM_0 {σ : rg_S} {nb nr nd ns : Nat} {tr : Int} (h : rg_IM σ nb nr nd ns tr) (f : Nat → Int) : rg_IM (rg_wr σ 0 f) nb nr nd ns tr :=
  ⟨h.hnb, h.hnr, h.hnd, h.hns, h.htr, h.hlo, h.hfl, h.hkd, h.hrf, h.hab, h.hpu, h.hpa, h.hpp, h.hwh, h.hwt, h.hwa, h.hro, h.hsr, h.hsm, h.hen, h.har, h.hsl, h.hlf, h.h21, h.h22, h.h23, h.h24, h.h25⟩
theorem rg_Rg_of {x n : Int} (h : 0 ≤ x ∧ x ≤ n) (hn : n ≤ 99999 := by decide) : rg_Rg x := ⟨by omega, by omega⟩
theorem rg_Rg_01 {x : Int} (h : x = 0 ∨ x = 1) : rg_Rg x := ⟨by omega, by omega⟩
theorem rg_hd_Rg {f : Nat → Int} {n : Nat} {g : Nat → Int} (h1 : ∀ j, rg_Rg (f j)) (h2 : ∀ j, rg_Rg (g j)) (j : Nat) : rg_Rg (rg_hd f n g j) := by
  unfold rg_hd; split
  · exact h2 _
  · exact h1 _
theorem rg_kE_Rg {σ : rg_S} {nb nr nd ns : Nat} {tr : Int} (h : rg_IM σ nb nr nd ns tr) (j : Nat) : rg_Rg (rg_kE σ tr nd nb nr j) :=
  rg_tab_Rg h.hen (fun _ _ => rg_me_Rg (fun j => rg_Rg_of (h.hwt j)) (fun j => rg_Rg_of (h.hpu j)) _ _ _) j
theorem rg_ma_bd {wh ro wa pa : Nat → Int} {tr : Int} {nd j : Nat} (h1 : ∀ j, 0 ≤ wa j ∧ wa j ≤ 9999) (h2 : ∀ j, 0 ≤ pa j ∧ pa j ≤ 9999) : 0 ≤ rg_ma wh ro wa pa tr nd j ∧ rg_ma wh ro wa pa tr nd j ≤ 9999 := by
  unfold rg_ma; split
  · exact h2 _
  · exact h1 _
theorem rg_mp_bd {wh ro pp : Nat → Int} {tr : Int} {nd j : Nat} (h2 : ∀ j, 0 ≤ pp j ∧ pp j ≤ 100) : 0 ≤ rg_mp wh ro pp tr nd j ∧ rg_mp wh ro pp tr nd j ≤ 100 := by
  unfold rg_mp; split
  · exact h2 _
  · exact ⟨by omega, by omega⟩
theorem rg_kA_Rg {σ : rg_S} {nb nr nd ns : Nat} {tr : Int} (h : rg_IM σ nb nr nd ns tr) (j : Nat) : rg_Rg (rg_kA σ tr nd nb nr j) :=
  rg_tab_Rg h.har (fun _ _ => rg_Rg_of (rg_ma_bd h.hwa h.hpa)) j
theorem rg_kS_Rg {σ : rg_S} {nb nr nd ns : Nat} {tr : Int} (h : rg_IM σ nb nr nd ns tr) (j : Nat) : rg_Rg (rg_kS σ tr nd nb nr j) :=
  rg_hd_Rg h.hsl (fun _ => rg_b_Rg _) j
theorem rg_kP_bd {σ : rg_S} {nb nr nd ns : Nat} {tr : Int} (h : rg_IM σ nb nr nd ns tr) {r b : Nat} (hr : r < nr) (hb : b < nb) : 0 ≤ rg_kP σ tr nd nb nr (r * 40 + b) ∧ rg_kP σ tr nd nb nr (r * 40 + b) ≤ 100 := by
  unfold rg_kP
  rw [rg_tab_at _ _ hr hb h.hnb]
  exact rg_mp_bd h.hpp
theorem rg_kA_bd {σ : rg_S} {nb nr nd ns : Nat} {tr : Int} (h : rg_IM σ nb nr nd ns tr) {r b : Nat} (hr : r < nr) (hb : b < nb) : 0 ≤ rg_kA σ tr nd nb nr (r * 40 + b) ∧ rg_kA σ tr nd nb nr (r * 40 + b) ≤ 9999 := by
  unfold rg_kA
  rw [rg_tab_at _ _ hr hb h.hnb]
  exact rg_ma_bd h.hwa h.hpa
theorem rg_pp_bd2 {sz wp wl q : Int} (h1 : 0 ≤ sz ∧ sz ≤ 40) (h2 : 0 ≤ wp) (h3 : 0 ≤ wl) (h4 : 0 ≤ q) : 0 ≤ rg_pp sz wp wl q ∧ rg_pp sz wp wl q ≤ 410 := by
  have h5 : 0 ≤ sz * q := Int.mul_nonneg h1.1 h4
  unfold rg_pp
  split <;> omega
theorem rg_kQ_bd {σ : rg_S} {nb nr nd ns : Nat} {tr : Int} (h : rg_IM σ nb nr nd ns tr) {r b : Nat} (hr : r < nr) (hb : b < nb) : 0 ≤ rg_kQ σ tr nd nb nr (r * 40 + b) ∧ rg_kQ σ tr nd nb nr (r * 40 + b) ≤ 9999 := by
  unfold rg_kQ
  rw [rg_tab_at _ _ hr hb h.hnb]
  have hs := rg_SZ_bd (σ 4) (σ 2) nb r
  have h1 := h.hnb
  unfold rg_q0
  split
  ·
    have z := rg_pp_bd2 (sz := rg_SZ (σ 4) (σ 2) nb r) (wp := ((rg_cnt (fun i => (rg_isr (σ 4) (σ 2) r i ∧ rg_kE σ tr nd nb nr (r * 40 + i) = 9) ∧ rg_kA σ tr nd nb nr (r * 40 + i) = rg_kA σ tr nd nb nr (r * 40 + b)) nb : Nat) : Int)) (wl := ((rg_cnt (fun i => (rg_isr (σ 4) (σ 2) r i ∧ rg_kE σ tr nd nb nr (r * 40 + i) = 9) ∧ rg_kA σ tr nd nb nr (r * 40 + i) < rg_kA σ tr nd nb nr (r * 40 + b)) nb : Nat) : Int)) (q := rg_kP σ tr nd nb nr (r * 40 + b)) ⟨hs.1, by omega⟩ (by omega) (by omega) (rg_kP_bd h hr hb).1
    exact ⟨z.1, by omega⟩
  · split
    · exact rg_kA_bd h hr hb
    · omega
theorem rg_kT_bd {σ : rg_S} {nb nr nd ns : Nat} {tr : Int} (h : rg_IM σ nb nr nd ns tr) {r b : Nat} (hr : r < nr) (hb : b < nb) : 0 ≤ rg_kT σ tr nd nb nr (r * 40 + b) ∧ rg_kT σ tr nd nb nr (r * 40 + b) ≤ 9999 := by
  have hs := rg_SZ_bd (σ 4) (σ 2) nb r
  have h1 := h.hnb
  unfold rg_kT
  rw [rg_tab_at _ _ hr hb h.hnb]
  by_cases h6 : rg_kE σ tr nd nb nr (r * 40 + b) = 6
  · rw [rg_mv_6 h6]
    exact rg_avg_bd ⟨hs.1, by omega⟩ (fun o ho z => rg_kQ_bd h ho hb)
  · by_cases h7 : rg_kE σ tr nd nb nr (r * 40 + b) = 7
    · rw [rg_mv_7 h7]
      exact rg_avg_bd ⟨hs.1, by omega⟩ (fun o ho z => rg_kQ_bd h (by omega) hb)
    · rw [← rg_mv_x h6 h7]
      exact rg_kQ_bd h hr hb
theorem rg_row_k {f : Nat → Int} {r n : Nat} {g : Nat → Int} (h : f (r * 40 + n) = g n) : rg_row f r n g = rg_row f r (n + 1) g := by
  rw [← rg_row_s f r n g rfl]
  funext j
  unfold rg_up
  by_cases z : j = r * 40 + n
  · rw [if_pos z, z, rg_row_out _ _ _ (Nat.le_refl _), h]
  · rw [if_neg z]
theorem rg_kV_bd {σ : rg_S} {nb nr nd ns : Nat} {tr : Int} (h : rg_IM σ nb nr nd ns tr) {r b o : Nat} (hr : r < nr) (ho : o < nr) (hb : b < nb) (hne : ¬ o = r) (g : Nat → Int) : 0 ≤ rg_row (rg_tab (rg_kQ σ tr nd nb nr) r nb (rg_mv (rg_kS σ tr nd nb nr) (σ 4) (σ 2) (rg_kE σ tr nd nb nr) (rg_kQ σ tr nd nb nr) nb nr)) r b g (o * 40 + b) ∧ rg_row (rg_tab (rg_kQ σ tr nd nb nr) r nb (rg_mv (rg_kS σ tr nd nb nr) (σ 4) (σ 2) (rg_kE σ tr nd nb nr) (rg_kQ σ tr nd nb nr) nb nr)) r b g (o * 40 + b) ≤ 9999 := by
  have h1 := h.hnb
  rw [rg_row_col _ _ _ _ (by omega)]
  by_cases z : o < r
  · rw [rg_tab_at _ _ z hb h.hnb]
    have y := rg_kT_bd h ho hb
    unfold rg_kT at y
    rw [rg_tab_at _ _ ho hb h.hnb] at y
    exact y
  · rw [rg_tab_out _ _ (by omega) (by omega)]
    exact rg_kQ_bd h ho hb
theorem rg_ms2_bd {σ : rg_S} {nb nr nd ns : Nat} {tr : Int} (h : rg_IM σ nb nr nd ns tr) {r b : Nat} (hr : r < nr) (hb : b < nb) : 0 ≤ rg_ms2 (σ 3) (rg_kT σ tr nd nb nr) r b ∧ rg_ms2 (σ 3) (rg_kT σ tr nd nb nr) r b ≤ 19998 := by
  have y := rg_kT_bd h hr hb
  unfold rg_ms2
  split <;> omega
theorem rg_sum_b2 {f : Nat → Int} {M : Int} {n : Nat} (h : ∀ i, i < n → 0 ≤ f i ∧ f i ≤ M) : 0 ≤ rg_sum f n ∧ rg_sum f n ≤ M * (n : Int) := by
  induction n with
  | zero => exact ⟨Int.le_refl _, by show (0 : Int) ≤ M * 0; omega⟩
  | succ n ih =>
    have q1 := ih (fun i hi => h i (by omega))
    have q2 := h n (by omega)
    have q3 : M * ((n + 1 : Nat) : Int) = M * (n : Int) + M := by rw [Int.natCast_add, Int.mul_add]; omega
    rw [q3]
    show 0 ≤ rg_sum f n + f n ∧ rg_sum f n + f n ≤ _
    omega
theorem rg_ite_b {p : Prop} {x M : Int} (h : 0 ≤ x ∧ x ≤ M) : 0 ≤ rg_ite p x 0 ∧ rg_ite p x 0 ≤ M := by
  by_cases z : p
  · rw [rg_ite_t z]; exact h
  · rw [rg_ite_f z]; omega
theorem rg_kG_bd {σ : rg_S} {nb nr nd ns : Nat} {tr : Int} (h : rg_IM σ nb nr nd ns tr) {b : Nat} (hb : b < nb) : 0 ≤ rg_kG σ tr nd nb nr b ∧ rg_kG σ tr nd nb nr b ≤ 319968 := by
  have q := rg_sum_b2 (f := fun o => rg_ite (rg_in (rg_kS σ tr nd nb nr) (σ 4) (σ 2) o b) (rg_ms2 (σ 3) (rg_kT σ tr nd nb nr) o b) 0) (M := 19998) (n := nr) (fun i hi => rg_ite_b (rg_ms2_bd h hi hb))
  have h1 := h.hnr
  unfold rg_kG rg_mG
  omega
theorem rg_kN_bd {σ : rg_S} {nb nr nd ns : Nat} {tr : Int} (h : rg_IM σ nb nr nd ns tr) {b : Nat} (hb : b < nb) : -319968 ≤ rg_kN σ tr nd nb nr ns b ∧ rg_kN σ tr nd nb nr ns b ≤ 319968 := by
  have q := rg_sum_b2 (f := fun o => rg_ite (¬ rg_mD (rg_kS σ tr nd nb nr) (σ 4) (σ 2) (σ 3) (rg_kE σ tr nd nb nr) (rg_kT σ tr nd nb nr) (σ 13) (σ 14) ns nr o b = 0) (rg_ms2 (σ 3) (rg_kT σ tr nd nb nr) o b) 0) (M := 19998) (n := nr) (fun i hi => rg_ite_b (rg_ms2_bd h hi hb))
  have h1 := h.hnr
  have h2 := rg_kG_bd h hb
  unfold rg_kG at h2
  unfold rg_kN rg_mN
  omega
theorem rg_kM_bd {σ : rg_S} {tr : Int} {nd nb nr b : Nat} : 0 ≤ rg_kM σ tr nd nb nr b ∧ rg_kM σ tr nd nb nr b ≤ nr := by
  have : rg_cnt (fun o => rg_in (rg_kS σ tr nd nb nr) (σ 4) (σ 2) o b) nr ≤ nr := rg_cnt_le _ _
  unfold rg_kM rg_mM
  omega
theorem rg_kC_bd {σ : rg_S} {tr : Int} {nd nb nr ns b : Nat} : 0 ≤ rg_kC σ tr nd nb nr ns b ∧ rg_kC σ tr nd nb nr ns b ≤ nr := by
  have : rg_cnt (fun o => ¬ rg_mD (rg_kS σ tr nd nb nr) (σ 4) (σ 2) (σ 3) (rg_kE σ tr nd nb nr) (rg_kT σ tr nd nb nr) (σ 13) (σ 14) ns nr o b = 0) nr ≤ nr := rg_cnt_le _ _
  unfold rg_kC rg_mC
  omega
theorem rg_hd_bd {f : Nat → Int} {n : Nat} {g : Nat → Int} {x y : Int} (h1 : ∀ j, x ≤ f j ∧ f j ≤ y) (h2 : ∀ j, j < n → x ≤ g j ∧ g j ≤ y) (j : Nat) : x ≤ rg_hd f n g j ∧ rg_hd f n g j ≤ y := by
  unfold rg_hd; split
  · next h => exact h2 _ h
  · exact h1 _
theorem rg_w22_bd {σ : rg_S} {nb nr nd ns : Nat} {tr : Int} (h : rg_IM σ nb nr nd ns tr) (j : Nat) : -1000000 ≤ rg_hd (σ 22) nb (rg_kN σ tr nd nb nr ns) j ∧ rg_hd (σ 22) nb (rg_kN σ tr nd nb nr ns) j ≤ 1000000 :=
  rg_hd_bd h.h22 (fun j hj => by have := rg_kN_bd h hj; omega) j
theorem rg_w20_Rg {σ : rg_S} {nb nr nd ns : Nat} {tr : Int} (h : rg_IM σ nb nr nd ns tr) (j : Nat) : rg_Rg (rg_ctb (σ 20) nr nb (fun _ _ => True) (rg_kD σ tr nd nb nr ns) j) :=
  rg_ctb_Rg h.hlf (fun _ _ _ _ _ => rg_b_Rg _) j
