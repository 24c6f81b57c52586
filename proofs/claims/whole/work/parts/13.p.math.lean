/-! The tables of both sides, under the entries that count. -/
theorem rg_cd_k {e k : Int} (h1 : 1 ≤ k) (h2 : k ≤ 8) : rg_cd e = k ↔ e = k := by
  unfold rg_cd
  by_cases z : e = -1
  · rw [if_pos z]; omega
  · rw [if_neg z]
    by_cases y : e = 0
    · rw [if_pos y]; omega
    · rw [if_neg y]
theorem rg_cd_9 {e : Int} (h : e ≤ 8) : rg_cd e = 9 ↔ e = 0 := by
  unfold rg_cd
  by_cases z : e = -1
  · rw [if_pos z]; omega
  · rw [if_neg z]
    by_cases y : e = 0
    · rw [if_pos y]; omega
    · rw [if_neg y]; omega
/-- what no decision changes -/
def rg_RF (σ τ : rg_S) : Prop := (∀ j, σ 11 j = τ 2 j) ∧ (∀ j, σ 12 j = τ 1 j) ∧ (∀ j, σ 13 j = τ 3 j) ∧ (∀ j, σ 14 j = τ 4 j) ∧ (∀ j, σ 15 j = τ 5 j) ∧ (∀ j, σ 23 j = τ 13 j) ∧ (∀ j, σ 24 j = τ 14 j)
theorem rg_R.rf {σ τ : rg_S} {nb nr nd : Nat} (h : rg_R σ τ nb nr nd) : rg_RF σ τ := ⟨h.hfl, h.hlt, h.hkd, h.hrf, h.hab, h.hsr, h.hsl⟩
theorem rg_RF_try {σ τ : rg_S} (h : rg_RF σ τ) (nd : Nat) (j c x : Int) : rg_RF (rg_yW σ nd j c x) (rg_kW τ j c x) := h
def rg_DQ (σ τ : rg_S) (nd nd' nb nr ns : Nat) (tr : Int) : Prop :=
  (∀ r, r < nr → rg_zS σ nd nb nr r = rg_kS τ tr nd' nb nr r) ∧
  (∀ r b, r < nr → b < nb → (¬ rg_zI σ nd nb nr (r * 40 + b) = 0 ↔ rg_in (rg_kS τ tr nd' nb nr) (τ 4) (τ 2) r b)) ∧
  (∀ r b, r < nr → b < nb → rg_in (rg_kS τ tr nd' nb nr) (τ 4) (τ 2) r b → rg_zT σ nd nb nr (r * 40 + b) = rg_kT τ tr nd' nb nr (r * 40 + b)) ∧
  (∀ r b, r < nr → b < nb → rg_in (rg_kS τ tr nd' nb nr) (τ 4) (τ 2) r b → rg_zC σ nd nb nr (r * 40 + b) = rg_ms2 (τ 3) (rg_kT τ tr nd' nb nr) r b) ∧
  (∀ r b, r < nr → b < nb → rg_zD σ nd nb nr ns (r * 40 + b) = rg_kD τ tr nd' nb nr ns r b) ∧
  (∀ b, b < nb → rg_zM σ nd nb nr b = rg_kM τ tr nd' nb nr b ∧ rg_zG σ nd nb nr b = rg_kG τ tr nd' nb nr b ∧ rg_zN σ nd nb nr ns b = rg_kN τ tr nd' nb nr ns b ∧ rg_zK σ nd nb nr ns b = rg_kC τ tr nd' nb nr ns b)
theorem rg_DQ_of {σ τ : rg_S} {nd nd' nb nr ns : Nat} {tr : Int} (hF : rg_RF σ τ) (hC : rg_IC σ nb nr nd ns) (hE : rg_RE (σ 14) (σ 11) nb nr (rg_zE σ nd) (rg_zA σ nd) (rg_zP σ nd) (rg_kE τ tr nd' nb nr) (rg_kA τ tr nd' nb nr) (rg_kP τ tr nd' nb nr)) : rg_DQ σ τ nd nd' nb nr ns tr := by
  have hnb := hC.hnb
  have hok := rg_zE_ok hC
  have e11 : σ 11 = τ 2 := funext hF.1
  have e13 : σ 13 = τ 3 := funext hF.2.2.1
  have e14 : σ 14 = τ 4 := funext hF.2.2.2.1
  have e15 : σ 15 = τ 5 := funext hF.2.2.2.2.1
  have e23 : σ 23 = τ 13 := funext hF.2.2.2.2.2.1
  have e24 : σ 24 = τ 14 := funext hF.2.2.2.2.2.2
  rw [e14, e11] at hE
  have hS : ∀ r, r < nr → rg_SL (τ 5) (rg_zE σ nd) nb r = rg_kS τ tr nd' nb nr r := fun r hr => rg_SL_kS hE hnb rfl hr
  have hi : ∀ r b, r < nr → b < nb → (¬ rg_IN (τ 4) (τ 2) (τ 5) (rg_zE σ nd) nb r b = 0 ↔ rg_in (rg_kS τ tr nd' nb nr) (τ 4) (τ 2) r b) := fun r b hr _ => rg_IN_in (hS r hr)
  have hk : ∀ r b, r < nr → b < nb → ∀ k : Int, 1 ≤ k → k ≤ 8 → (rg_zE σ nd (r * 40 + b) = k ↔ rg_kE τ tr nd' nb nr (r * 40 + b) = k) := fun r b hr hb k h1 h2 => by
    rw [(hE r b hr hb).1]; exact (rg_cd_k h1 h2).symm
  have h9 : ∀ r b, r < nr → b < nb → (rg_zE σ nd (r * 40 + b) = 0 ↔ (rg_isr (τ 4) (τ 2) r b ∧ rg_kE τ tr nd' nb nr (r * 40 + b) = 9)) := fun r b hr hb => by
    obtain ⟨k1, k2⟩ := hE r b hr hb
    rw [k1, rg_cd_9 (hok _).2.1]
    exact ⟨fun q => ⟨(k2 (by omega)).2, q⟩, fun q => q.2⟩
  have hQ : ∀ r b, r < nr → b < nb → rg_in (rg_kS τ tr nd' nb nr) (τ 4) (τ 2) r b → rg_P1 (τ 4) (τ 2) (τ 5) (rg_zE σ nd) (rg_zA σ nd) (rg_zP σ nd) nb r b = rg_kQ τ tr nd' nb nr (r * 40 + b) := fun r b hr hb q => by
    unfold rg_P1 rg_kQ
    rw [rg_tab_at _ _ hr hb hnb, rg_ite_t ((rg_b_ne0 _).mp ((hi r b hr hb).mpr q))]
    refine rg_p0_q0 hb (fun c hc => h9 r c hr hc) q.2 (hk r b hr hb 8 (by omega) (by omega)) (fun c hc z => ?_) (fun z => ?_) (fun c hc _ => by have := hok (r * 40 + c); omega)
    · exact ((hE r c hr hc).2 (by omega)).1.1.symm
    · exact ((hE r b hr hb).2 (by omega)).1.2.symm
  have hT : ∀ r b, r < nr → b < nb → rg_in (rg_kS τ tr nd' nb nr) (τ 4) (τ 2) r b → rg_P2 (τ 4) (τ 2) (τ 5) (rg_zE σ nd) (rg_zA σ nd) (rg_zP σ nd) nb nr r b = rg_kT τ tr nd' nb nr (r * 40 + b) := fun r b hr hb q => by
    unfold rg_kT
    rw [rg_tab_at _ _ hr hb hnb]
    exact rg_P2_mv hr (fun o ho => hi o b ho hb) (fun o ho _ => ⟨hk o b ho hb 6 (by omega) (by omega), hk o b ho hb 7 (by omega) (by omega), hk o b ho hb 8 (by omega) (by omega)⟩) (fun o ho z => hQ o b ho hb z) q
  have hI2 : ∀ r b, r < nr → b < nb → (¬ rg_zI σ nd nb nr (r * 40 + b) = 0 ↔ rg_in (rg_kS τ tr nd' nb nr) (τ 4) (τ 2) r b) := fun r b hr hb => by
    unfold rg_zI
    rw [rg_tab_at _ _ hr hb hnb, e14, e11, e15]
    exact hi r b hr hb
  have hT2 : ∀ r b, r < nr → b < nb → rg_in (rg_kS τ tr nd' nb nr) (τ 4) (τ 2) r b → rg_zT σ nd nb nr (r * 40 + b) = rg_kT τ tr nd' nb nr (r * 40 + b) := fun r b hr hb q => by
    unfold rg_zT
    rw [rg_tab_at _ _ hr hb hnb, e14, e11, e15]
    exact hT r b hr hb q
  have hc1 : ∀ c, c < nb → _ := fun c hc => rg_col_eq (sl := rg_kS τ tr nd' nb nr) (rf := τ 4) (fl := τ 2) (kd := τ 3) (en := rg_kE τ tr nd' nb nr) (pt := rg_kT τ tr nd' nb nr) (ins := rg_zI σ nd nb nr) (kd' := σ 13) (en' := rg_zE σ nd) (pt' := rg_zT σ nd nb nr) (sr := τ 13) (sl' := τ 14) (sr' := σ 23) (sm' := σ 24) (nr := nr) (ns := ns) (c := c)
    (fun o ho => hI2 o c ho hc) (fun o _ => by rw [e13]) (fun o ho _ => hk o c ho hc 5 (by omega) (by omega)) (fun o ho q => hT2 o c ho hc q) (fun k _ => by rw [e23, e24]; exact ⟨rfl, rfl⟩) (fun k _ => by rw [← e24]; exact hC.hsl k)
  have hc2 : ∀ c, c < nb → _ := fun c hc => rg_col_eq2 (sl := rg_kS τ tr nd' nb nr) (rf := τ 4) (fl := τ 2) (kd := τ 3) (en := rg_kE τ tr nd' nb nr) (pt := rg_kT τ tr nd' nb nr) (ins := rg_zI σ nd nb nr) (kd' := σ 13) (en' := rg_zE σ nd) (pt' := rg_zT σ nd nb nr) (sr := τ 13) (sl' := τ 14) (sr' := σ 23) (sm' := σ 24) (nr := nr) (ns := ns) (c := c)
    (fun o ho => hI2 o c ho hc) (fun o _ => by rw [e13]) (fun o ho _ => hk o c ho hc 5 (by omega) (by omega)) (fun o ho q => hT2 o c ho hc q) (fun k _ => by rw [e23, e24]; exact ⟨rfl, rfl⟩) (fun k _ => by rw [← e24]; exact hC.hsl k)
  refine ⟨fun r hr => ?_, hI2, hT2, fun r b hr hb q => ?_, fun r b hr hb => ?_, fun b hb => ⟨?_, ?_, ?_, ?_⟩⟩
  · unfold rg_zS
    rw [rg_hd_at _ _ hr, e15]; exact hS r hr
  · unfold rg_zC
    rw [rg_ctb_at _ _ _ hb (by omega) hr ((hI2 r b hr hb).mpr q), rg_ms2_k2, ← hT2 r b hr hb q, ← e13]
    rfl
  · unfold rg_zD
    rw [rg_ctb_at _ _ _ hb (by omega) hr trivial]
    exact (hc1 b hb).2.2 r hr
  · unfold rg_zM
    rw [rg_hd_at _ _ hb]; exact (hc1 b hb).1
  · unfold rg_zG
    rw [rg_hd_at _ _ hb]; exact (hc1 b hb).2.1
  · unfold rg_zN
    rw [rg_hd_at _ _ hb]; exact (hc2 b hb).1
  · unfold rg_zK
    rw [rg_hd_at _ _ hb]; exact (hc2 b hb).2
