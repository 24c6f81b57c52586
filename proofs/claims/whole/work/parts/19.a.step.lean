/-! What both sides answer, and contracts with weaker ends. -/
theorem rg_CI_mono {κ : rg_K} {tb : List rg_Sh} {y : MethodName} {cc : ByteArray} {n : Nat} {ret : FieldType} {fr lo : Nat} {as : List Value} {σ : rg_S} {post post' : Int → rg_S → Prop} (h : rg_CI κ tb y cc n ret fr lo as σ post) (hp : ∀ r s, post r s → post' r s) : rg_CI κ tb y cc n ret fr lo as σ post' :=
  fun sz => MetFree.mono (h sz) (fun _ _ q => q) (fun _ _ _ _ _ q => q) (fun _ _ _ _ _ q => ⟨⟨by
    obtain ⟨r, u, q1, ⟨q2, q3⟩, q4⟩ := q.1.1
    exact ⟨r, u, q1, ⟨q2, hp _ _ q3⟩, q4⟩, q.1.2⟩, q.2⟩)
theorem rg_CV_mono {κ : rg_K} {tb : List rg_Sh} {y : MethodName} {cc : ByteArray} {n : Nat} {fr lo : Nat} {as : List Value} {σ : rg_S} {post post' : rg_S → Prop} (h : rg_CV κ tb y cc n fr lo as σ post) (hp : ∀ s, post s → post' s) : rg_CV κ tb y cc n fr lo as σ post' :=
  fun sz => MetFree.mono (h sz) (fun _ _ q => q) (fun _ _ _ _ _ q => q) (fun _ _ _ _ _ q => ⟨⟨by
    obtain ⟨u, q1, q2, q4⟩ := q.1.1
    exact ⟨u, q1, hp _ q2, q4⟩, q.1.2⟩, q.2⟩)
theorem rg_CD_mono {κ : rg_K} {tb : List rg_Sh} {y : MethodName} {cc : ByteArray} {n : Nat} {fr lo : Nat} {as : List Value} {σ : rg_S} {post post' : UInt64 → rg_S → Prop} (h : rg_CD κ tb y cc n fr lo as σ post) (hp : ∀ r s, post r s → post' r s) : rg_CD κ tb y cc n fr lo as σ post' :=
  fun sz => MetFree.mono (h sz) (fun _ _ q => q) (fun _ _ _ _ _ q => q) (fun _ _ _ _ _ q => ⟨⟨by
    obtain ⟨r, u, q1, ⟨q2, q3⟩, q4⟩ := q.1.1
    exact ⟨r, u, q1, ⟨q2, hp _ _ q3⟩, q4⟩, q.1.2⟩, q.2⟩)
theorem rg_HC_mono {κ : rg_K} {co : ClassId × ClassId} {y : MethodName} {cc : ByteArray} {n : Nat} {hh : List (Nat × Nat × Nat × Nat)} {as : List Value} {σ : rg_S} {os : List Nat} {ws : va_W} {post post' : Int → rg_S → va_W → Prop} (h : rg_HC κ co y cc n hh as σ os ws post) (hp : ∀ r s w, post r s w → post' r s w) : rg_HC κ co y cc n hh as σ os ws post' :=
  fun sz => MetFree.mono (h sz) (fun _ _ q => q) (fun _ _ _ _ _ q => q) (fun _ _ _ _ _ q => ⟨⟨by
    obtain ⟨r, u, q1, ⟨q2, q3⟩, q4⟩ := q.1.1
    exact ⟨r, u, q1, ⟨q2, hp _ _ _ q3⟩, q4⟩, q.1.2⟩, q.2⟩)
section REQ
variable {σ0 τ : rg_S} {nb nr nd ns : Nat}
theorem e_points (hC : rg_IC σ0 nb nr nd ns) (hR : rg_R σ0 τ nb nr nd) {r b : Nat} (hr : r < nr) (hb : b < nb) : rg_zT σ0 nd nb nr (r * 40 + b) = rg_ite (rg_in (rg_kS τ 0 nd nb nr) (τ 4) (τ 2) r b) (rg_kT τ 0 nd nb nr (r * 40 + b)) (-1) := by
  have hnb := hC.hnb
  obtain ⟨q1, q2, q3, q4, q5, q6⟩ := rg_Zq hC hR
  by_cases z : rg_in (rg_kS τ 0 nd nb nr) (τ 4) (τ 2) r b
  · rw [rg_ite_t z]; exact q3 r b hr hb z
  · rw [rg_ite_f z]
    have hz : ¬ ¬ rg_zI σ0 nd nb nr (r * 40 + b) = 0 := fun q => z ((q2 r b hr hb).mp q)
    have hz2 := Classical.not_not.mp hz
    unfold rg_zI at hz2
    rw [rg_tab_at _ _ hr hb hnb] at hz2
    unfold rg_zT
    rw [rg_tab_at _ _ hr hb hnb]
    unfold rg_P2
    rw [rg_ite_f (fun q => q.1 hz2), rg_ite_f (fun q => q.1 hz2)]
    unfold rg_P1
    unfold rg_IN at hz2
    rw [rg_ite_f ((rg_b_eq0 _).mp hz2)]
theorem e_disc (hC : rg_IC σ0 nb nr nd ns) (hR : rg_R σ0 τ nb nr nd) {r b : Nat} (hr : r < nr) (hb : b < nb) : rg_zD σ0 nd nb nr ns (r * 40 + b) = rg_kD τ 0 nd nb nr ns r b := (rg_Zq hC hR).2.2.2.2.1 r b hr hb
theorem e_M (hC : rg_IC σ0 nb nr nd ns) (hR : rg_R σ0 τ nb nr nd) {b : Nat} (hb : b < nb) : rg_zM σ0 nd nb nr b = rg_kM τ 0 nd nb nr b := ((rg_Zq hC hR).2.2.2.2.2 b hb).1
theorem e_G (hC : rg_IC σ0 nb nr nd ns) (hR : rg_R σ0 τ nb nr nd) {b : Nat} (hb : b < nb) : rg_zG σ0 nd nb nr b = rg_kG τ 0 nd nb nr b := ((rg_Zq hC hR).2.2.2.2.2 b hb).2.1
theorem e_N (hC : rg_IC σ0 nb nr nd ns) (hR : rg_R σ0 τ nb nr nd) {b : Nat} (hb : b < nb) : rg_zN σ0 nd nb nr ns b = rg_kN τ 0 nd nb nr ns b := ((rg_Zq hC hR).2.2.2.2.2 b hb).2.2.1
theorem e_K (hC : rg_IC σ0 nb nr nd ns) (hR : rg_R σ0 τ nb nr nd) {b : Nat} (hb : b < nb) : rg_zK σ0 nd nb nr ns b = rg_kC τ 0 nd nb nr ns b := ((rg_Zq hC hR).2.2.2.2.2 b hb).2.2.2
theorem e_rank (hC : rg_IC σ0 nb nr nd ns) (hM : rg_IM τ nb nr nd ns 0) (hR : rg_R σ0 τ nb nr nd) {σ9 : rg_S} (hr : rg_rest σ9 σ0 nd nb nr ns) {b : Nat} (hb : b < nb) : σ9 42 b = ((rg_rO (rg_kO τ 0 nd nb nr ns) nb b : Nat) : Int) := by
  obtain ⟨rk, e⟩ := hr.c42
  rw [e]
  exact rg_zRK hR.rf hC hM (rg_Zq hC hR) hb rk
theorem e_at (hC : rg_IC σ0 nb nr nd ns) (hM : rg_IM τ nb nr nd ns 0) (hR : rg_R σ0 τ nb nr nd) {x : Int} (hx : 1 ≤ x ∧ x ≤ ((nb : Nat) : Int)) : rg_zO σ0 nd nb nr ns (Int.toNat x - 1) = rg_bo (rg_hd (τ 25) nb (fun c => ((rg_rO (rg_kO τ 0 nd nb nr ns) nb c : Nat) : Int))) x nb := by
  have h := rg_bo_zO hC hM hR (k := Int.toNat x - 1) (by omega)
  rw [← h]
  congr 1
  omega
theorem e_tie (hC : rg_IC σ0 nb nr nd ns) (hM : rg_IM τ nb nr nd ns 0) (hR : rg_R σ0 τ nb nr nd) {a b : Nat} (ha : a < nb) (hb : b < nb) (hab : ¬ a = b) : rg_ps (rg_fd (fun i => rg_rws nb (rg_zR σ0 nd nb nr ns) (a * 36 + i)) (fun i => rg_rws nb (rg_zR σ0 nd nb nr ns) (b * 36 + i)) 35) = (if rg_kO τ 0 nd nb nr ns a b = 0 then 0 else rg_kK τ 0 nd nb nr ns a b) := by
  obtain ⟨-, q2, q3⟩ := rg_zkO hR.rf hC hM (rg_Zq hC hR) ha hb hab
  rw [if_neg q3, ← q2]
  exact congrArg rg_ps (rg_fd_congr (fun i hi => rg_rws_at _ ha (by omega)) (fun i hi => rg_rws_at _ hb (by omega)))
theorem rg_mF_congr {P P' : Nat → Prop} {k : Int} {n : Nat} (h : ∀ c, c < n → (P c ↔ P' c)) : rg_mF P k n = rg_mF P' k n := by
  induction n with
  | zero => rfl
  | succ n ih =>
    have e1 : rg_cnt P (n + 1) = rg_cnt P' (n + 1) := rg_cnt_congr h
    have e2 := h n (by omega)
    have e3 := ih (fun c hc => h c (by omega))
    by_cases z : P n ∧ ((rg_cnt P (n + 1) : Nat) : Int) - 1 = k
    · have z' : P' n ∧ ((rg_cnt P' (n + 1) : Nat) : Int) - 1 = k := ⟨e2.mp z.1, by rw [← e1]; exact z.2⟩
      exact (@if_pos _ (Classical.propDecidable _) z _ _ _).trans (@if_pos _ (Classical.propDecidable _) z' _ _ _).symm
    · have z' : ¬ (P' n ∧ ((rg_cnt P' (n + 1) : Nat) : Int) - 1 = k) := fun q => z ⟨e2.mpr q.1, by rw [e1]; exact q.2⟩
      exact (@if_neg _ (Classical.propDecidable _) z _ _ _).trans (e3.trans (@if_neg _ (Classical.propDecidable _) z' _ _ _).symm)
theorem e_miss (hC : rg_IC σ0 nb nr nd ns) (hR : rg_R σ0 τ nb nr nd) {r : Nat} (hr : r < nr) (k : Int) : rg_mF (fun c => rg_isr (σ0 14) (σ0 11) r c ∧ rg_zE σ0 nd (r * 40 + c) = -1) k nb = rg_mF (fun c => rg_isr (τ 4) (τ 2) r c ∧ rg_kE τ 0 nd nb nr (r * 40 + c) = 0) k nb := by
  refine rg_mF_congr (fun c hc => ?_)
  have hE := (rg_RE_now (ns' := 0) hR hC hC.hnb) r c hr hc
  rw [hE.1, rg_cd_0, funext hR.hfl, funext hR.hrf]
theorem e_what (hC : rg_IC σ0 nb nr nd ns) (hR : rg_R σ0 τ nb nr nd) (hnd : nd ≤ 40) {r b : Nat} {c x : Int} (hr : r < nr) (hb : b < nb) (hs : rg_isr (σ0 14) (σ0 11) r b) (hg : rg_gd c x) : rg_zN (rg_yW σ0 nd ((r * 40 + b : Nat) : Int) c x) (nd + 1) nb nr ns b = rg_kN (rg_kW τ ((r * 40 + b : Nat) : Int) c x) 1 nd nb nr ns b := by
  have hnb := hC.hnb
  have hnr := hC.hnr
  have hY : rg_IC (rg_yW σ0 nd ((r * 40 + b : Nat) : Int) c x) nb nr (nd + 1) ns := rg_IC_yW hC hnd ⟨by omega, by omega⟩ hg
  exact ((rg_DQ_of (tr := 1) (rg_RF_try hR.rf nd _ c x) hY (rg_RE_try hR hC hnd hr hb hs hg)).2.2.2.2.2 b hb).2.2.1
theorem e_any (hC : rg_IC σ0 nb nr nd ns) (hR : rg_R σ0 τ nb nr nd) : (∃ r, r < nr ∧ ¬ rg_zS σ0 nd nb nr r = 0) ↔ (∃ c, c < nr ∧ ¬ rg_kS τ 0 nd nb nr c = 0) := by
  have q := (rg_Zq hC hR).1
  constructor
  · rintro ⟨r, h1, h2⟩; exact ⟨r, h1, by rw [← q r h1]; exact h2⟩
  · rintro ⟨r, h1, h2⟩; exact ⟨r, h1, by rw [q r h1]; exact h2⟩
end REQ
theorem rg_wg_1 {rf fl : Nat → Int} {nb nr r b c x : Int} (h : rg_wg rf fl nb nr r b c x = 1) : ¬ rg_th nb nr r b := by
  unfold rg_wg at h; (repeat' split at h) <;> first | omega | assumption
theorem rg_wg_2 {rf fl : Nat → Int} {nb nr r b c x : Int} (h : rg_wg rf fl nb nr r b c x = 2) : rg_th nb nr r b ∧ ¬ (rf (Int.toNat r) = 0 ∨ rf (Int.toNat r) = fl (Int.toNat b)) := by
  unfold rg_wg at h; (repeat' split at h) <;> first | omega | exact ⟨Classical.not_not.mp (by assumption), by assumption⟩
theorem rg_wg_3 {rf fl : Nat → Int} {nb nr r b c x : Int} (h : rg_wg rf fl nb nr r b c x = 3) : (rg_th nb nr r b ∧ (rf (Int.toNat r) = 0 ∨ rf (Int.toNat r) = fl (Int.toNat b))) ∧ ¬ rg_gd c x := by
  unfold rg_wg at h; (repeat' split at h) <;> first | (exfalso; omega) | exact ⟨⟨Classical.not_not.mp (by assumption), Classical.not_not.mp (by assumption)⟩, by assumption⟩
theorem rg_Z_kV {σ τ : rg_S} {nb nr nd ns : Nat} (h : rg_Z σ τ nb nr nd ns) {f : Nat → Int} (hs : ∀ j, (j = 1 ∨ j = 4 ∨ j = 11 ∨ j = 16 ∨ j = 17 ∨ j = 20 ∨ j = 33) → f j = τ 0 j) : rg_Z σ (rg_wr (rg_wr (rg_wr (rg_wr (rg_wr τ 0 f) 15 (rg_kE τ 0 nd nb nr)) 16 (rg_kA τ 0 nd nb nr)) 17 (rg_kP τ 0 nd nb nr)) 18 (rg_kS τ 0 nd nb nr)) nb nr nd ns := by
  refine rg_Z_m h (fun c h1 h2 => ?_) hs (rg_IM_0 (σ := rg_kV τ 0 nd nb nr) (rg_IM_kV h.M) f |> fun q => q) (rg_kP_Rg h.M h.x17) rfl
  simp only [rg_wr_ne _ _ (show c ≠ 18 by omega), rg_wr_ne _ _ (show c ≠ 17 by omega), rg_wr_ne _ _ (show c ≠ 16 by omega), rg_wr_ne _ _ (show c ≠ 15 by omega), rg_wr_ne _ _ (show c ≠ 0 by omega)]
theorem rg_Z_25 {σ τ : rg_S} {nb nr nd ns : Nat} (h : rg_Z σ τ nb nr nd ns) {f : Nat → Int} (hf : ∀ j, rg_Rg (f j)) : rg_Z σ (rg_wr τ 25 f) nb nr nd ns :=
  rg_Z_m h (fun c h1 h2 => rg_wr_ne _ _ (by omega)) (fun j hj => rfl) ⟨h.M.hnb, h.M.hnr, h.M.hnd, h.M.hns, h.M.htr, h.M.hlo, h.M.hfl, h.M.hkd, h.M.hrf, h.M.hab, h.M.hpu, h.M.hpa, h.M.hpp, h.M.hwh, h.M.hwt, h.M.hwa, h.M.hro, h.M.hsr, h.M.hsm, h.M.hen, h.M.har, h.M.hsl, h.M.hlf, h.M.h21, h.M.h22, h.M.h23, h.M.h24, hf⟩ h.x17 rfl
