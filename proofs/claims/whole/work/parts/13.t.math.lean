/-! The class's order is the reference's. -/
theorem rg_g0_at (fl nt lt b : Int) : rg_g0 fl nt lt b 0 = fl ∧ rg_g0 fl nt lt b 1 = nt ∧ rg_g0 fl nt lt b 34 = rg_LT lt ∧ rg_g0 fl nt lt b 35 = b ∧ ∀ j, 2 ≤ j → j < 34 → rg_g0 fl nt lt b j = 1000000 := by
  unfold rg_g0
  refine ⟨?_, ?_, ?_, ?_, fun j h1 h2 => ?_⟩
  · rw [rg_up_ne _ _ (by omega), rg_up_ne _ _ (by omega), rg_up_ne _ _ (by omega), rg_up_same]
  · rw [rg_up_ne _ _ (by omega), rg_up_ne _ _ (by omega), rg_up_same]
  · rw [rg_up_ne _ _ (by omega), rg_up_same]
  · rw [rg_up_same]
  · rw [rg_up_ne _ _ (by omega), rg_up_ne _ _ (by omega), rg_up_ne _ _ (by omega), rg_up_ne _ _ (by omega)]
theorem rg_fw_35 (p : Nat → Prop) (d S g0 : Nat → Int) (nr : Nat) (m : Nat) (hm : m ≤ 16) : rg_fw p d S g0 nr m 35 = g0 35 := by
  induction m with
  | zero => rfl
  | succ m ih =>
    have i := ih (by omega)
    have c1 := rg_cnt_le (fun i => p (nr - 1 - i)) m
    have c2 := rg_cnt_le (fun i => p (nr - 1 - i) ∧ d (nr - 1 - i) = 0) m
    rw [rg_fw]
    by_cases z : p (nr - 1 - m)
    · rw [rg_itf_t z]
      by_cases y : d (nr - 1 - m) = 0
      · rw [rg_itf_t y, rg_ins_out _ _ _ (by omega), rg_up_ne _ _ (by omega)]; exact i
      · rw [rg_itf_f y, rg_up_ne _ _ (by omega)]; exact i
    · rw [rg_itf_f z]; exact i
theorem rg_zR_35 {σ : rg_S} {nd nb nr ns : Nat} (h : nr ≤ 16) (a : Nat) : rg_zR σ nd nb nr ns a 35 = (a : Int) :=
  (rg_fw_35 _ _ _ _ _ _ h).trans (rg_g0_at _ _ _ _).2.2.2.1
theorem rg_zkO {σ τ : rg_S} {nd nd' nb nr ns : Nat} {tr : Int} (hF : rg_RF σ τ) (hC : rg_IC σ nb nr nd ns) (hM : rg_IM τ nb nr nd' ns tr) (hQ : rg_DQ σ τ nd nd' nb nr ns tr) {a b : Nat} (ha : a < nb) (hb : b < nb) (hab : ¬ a = b) :
    (rg_lt (rg_zR σ nd nb nr ns a) (rg_zR σ nd nb nr ns b) ↔ rg_kO τ tr nd' nb nr ns a b < 0) ∧ rg_ps (rg_fd (rg_zR σ nd nb nr ns a) (rg_zR σ nd nb nr ns b) 35) = rg_kK τ tr nd' nb nr ns a b ∧ ¬ rg_kO τ tr nd' nb nr ns a b = 0 := by
  have hnb := hC.hnb
  have hnr := hC.hnr
  obtain ⟨-, q2, -, q4, q5, q6⟩ := hQ
  have hfi : ∀ c, c < nb → rg_fi (fun o => ¬ rg_zI σ nd nb nr (o * 40 + c) = 0) (fun o => rg_zD σ nd nb nr ns (o * 40 + c)) (fun o => rg_zC σ nd nb nr (o * 40 + c)) (rg_g0 (σ 11 c) (rg_zN σ nd nb nr ns c) (σ 12 c) ((c : Nat) : Int)) nr nr (rg_zR σ nd nb nr ns c) := fun c hc =>
    rg_fi_all (rg_g0_at _ _ _ _).2.2.2.2 hnr (fun o ho z => by
      have z2 := (q2 o c ho hc).mp z
      show rg_zC σ nd nb nr (o * 40 + c) ≤ 1000000
      rw [q4 o c ho hc z2]
      have := rg_ms2_bd hM ho hc
      omega) nr (Nat.le_refl _)
  have hrs : ∀ c, c < nb → rg_rs (rg_kS τ tr nd' nb nr) (τ 4) (τ 2) (τ 3) (rg_kT τ tr nd' nb nr) (rg_ctb (τ 20) nr nb (fun _ _ => True) (rg_kD τ tr nd' nb nr ns)) nr c (rg_zR σ nd nb nr ns c) := fun c hc =>
    rg_rs_of hnr (hfi c hc) (fun o ho => q2 o c ho hc) (fun o ho => by
      rw [rg_ctb_at _ _ _ hc (by omega) ho trivial]
      exact q5 o c ho hc) (fun o ho z => q4 o c ho hc z)
  have hms : ∀ c, c < nb → ∀ o, o < nr → rg_in (rg_kS τ tr nd' nb nr) (τ 4) (τ 2) o c → 0 ≤ rg_ms2 (τ 3) (rg_kT τ tr nd' nb nr) o c ∧ rg_ms2 (τ 3) (rg_kT τ tr nd' nb nr) o c < 1000000 := fun c hc o ho _ => by
    have := rg_ms2_bd hM ho hc
    omega
  have r0 : ∀ c, c < nb → rg_zR σ nd nb nr ns c 0 = τ 2 c ∧ rg_zR σ nd nb nr ns c 1 = rg_hd (τ 22) nb (rg_kN τ tr nd' nb nr ns) c ∧ rg_zR σ nd nb nr ns c 34 = rg_LT (τ 1 c) ∧ rg_zR σ nd nb nr ns c 35 = (c : Int) := fun c hc => by
    obtain ⟨⟨f0, f1, f34, f35⟩, -⟩ := hfi c hc
    obtain ⟨g0, g1, g34, g35, -⟩ := rg_g0_at (σ 11 c) (rg_zN σ nd nb nr ns c) (σ 12 c) ((c : Nat) : Int)
    refine ⟨f0.trans (g0.trans (hF.1 c)), f1.trans (g1.trans ?_), f34.trans (g34.trans (by rw [hF.2.1 c])), f35.trans g35⟩
    rw [rg_hd_at _ _ hc]
    exact (q6 c hc).2.2.1
  exact rg_ord hnr hab hM.hlo (fun _ => hrs a ha) (fun _ => hrs b hb) (hms a ha) (hms b hb) (r0 a ha).1 (r0 b hb).1 (r0 a ha).2.1 (r0 b hb).2.1 (r0 a ha).2.2.1 (r0 b hb).2.2.1 (r0 a ha).2.2.2 (r0 b hb).2.2.2
/-- the ranks agree, and the boat of a rank -/
theorem rg_zRK {σ τ : rg_S} {nd nd' nb nr ns : Nat} {tr : Int} (hF : rg_RF σ τ) (hC : rg_IC σ nb nr nd ns) (hM : rg_IM τ nb nr nd' ns tr) (hQ : rg_DQ σ τ nd nd' nb nr ns tr) {b : Nat} (hb : b < nb) (rk : Nat → Int) :
    rg_RK (rg_zO σ nd nb nr ns) rk nb b = ((rg_rO (rg_kO τ tr nd' nb nr ns) nb b : Nat) : Int) :=
  rg_RK_rO (fun a => rg_zR_35 hC.hnr a) (fun a c ha hc hne => (rg_zkO hF hC hM hQ ha hc hne).1) hb
theorem rg_zbo {σ τ : rg_S} {nd nd' nb nr ns : Nat} {tr : Int} (hF : rg_RF σ τ) (hC : rg_IC σ nb nr nd ns) (hM : rg_IM τ nb nr nd' ns tr) (hQ : rg_DQ σ τ nd nd' nb nr ns tr) {rk : Nat → Int} (hrk : ∀ b, b < nb → rk b = ((rg_rO (rg_kO τ tr nd' nb nr ns) nb b : Nat) : Int)) {k : Nat} (hk : k < nb) :
    rg_bo rk ((k : Int) + 1) nb = rg_zO σ nd nb nr ns k :=
  rg_bo_od (fun a => rg_zR_35 hC.hnr a) (fun b hb => (hrk b hb).trans (rg_zRK hF hC hM hQ hb rk).symm) hk
