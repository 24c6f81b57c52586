/-! The relation between the class's world and the reference's. -/
def rg_R (σ τ : rg_S) (nb nr nd : Nat) : Prop :=
  (∀ j, σ 11 j = τ 2 j) ∧ (∀ j, σ 12 j = τ 1 j) ∧ (∀ j, σ 13 j = τ 3 j) ∧ (∀ j, σ 14 j = τ 4 j) ∧ (∀ j, σ 15 j = τ 5 j) ∧ (∀ j, σ 23 j = τ 13 j) ∧ (∀ j, σ 24 j = τ 14 j) ∧ (∀ j, τ 6 j = rg_cd (σ 16 j)) ∧ (∀ j, ¬ σ 16 j = -1 → τ 7 j = σ 17 j) ∧ (∀ j, ¬ σ 16 j = -1 → τ 8 j = σ 18 j) ∧ (∀ d, d < nd → τ 9 d = σ 19 d ∧ τ 10 d = σ 20 d ∧ τ 11 d = σ 21 d ∧ τ 12 d = σ 22 d) ∧ (∀ d, nd ≤ d → σ 22 d = 0) ∧ (∀ r b, r < nr → b < nb → ¬ σ 16 (r * 40 + b) = -1 → rg_isr (σ 14) (σ 11) r b) ∧ (∀ d, d < nd → ∃ r b : Nat, (r < nr ∧ b < nb) ∧ σ 19 d = ((r * 40 + b : Nat) : Int) ∧ rg_isr (σ 14) (σ 11) r b) ∧ (σ 1 3 = 0 → ∀ r, r < nr → σ 14 r = 0)
theorem rg_R.hfl {σ τ : rg_S} {nb nr nd : Nat} (h : rg_R σ τ nb nr nd) : ∀ j, σ 11 j = τ 2 j := h.1
theorem rg_R.hlt {σ τ : rg_S} {nb nr nd : Nat} (h : rg_R σ τ nb nr nd) : ∀ j, σ 12 j = τ 1 j := h.2.1
theorem rg_R.hkd {σ τ : rg_S} {nb nr nd : Nat} (h : rg_R σ τ nb nr nd) : ∀ j, σ 13 j = τ 3 j := h.2.2.1
theorem rg_R.hrf {σ τ : rg_S} {nb nr nd : Nat} (h : rg_R σ τ nb nr nd) : ∀ j, σ 14 j = τ 4 j := h.2.2.2.1
theorem rg_R.hab {σ τ : rg_S} {nb nr nd : Nat} (h : rg_R σ τ nb nr nd) : ∀ j, σ 15 j = τ 5 j := h.2.2.2.2.1
theorem rg_R.hsr {σ τ : rg_S} {nb nr nd : Nat} (h : rg_R σ τ nb nr nd) : ∀ j, σ 23 j = τ 13 j := h.2.2.2.2.2.1
theorem rg_R.hsl {σ τ : rg_S} {nb nr nd : Nat} (h : rg_R σ τ nb nr nd) : ∀ j, σ 24 j = τ 14 j := h.2.2.2.2.2.2.1
theorem rg_R.hpu {σ τ : rg_S} {nb nr nd : Nat} (h : rg_R σ τ nb nr nd) : ∀ j, τ 6 j = rg_cd (σ 16 j) := h.2.2.2.2.2.2.2.1
theorem rg_R.hpa {σ τ : rg_S} {nb nr nd : Nat} (h : rg_R σ τ nb nr nd) : ∀ j, ¬ σ 16 j = -1 → τ 7 j = σ 17 j := h.2.2.2.2.2.2.2.2.1
theorem rg_R.hpp {σ τ : rg_S} {nb nr nd : Nat} (h : rg_R σ τ nb nr nd) : ∀ j, ¬ σ 16 j = -1 → τ 8 j = σ 18 j := h.2.2.2.2.2.2.2.2.2.1
theorem rg_R.hde {σ τ : rg_S} {nb nr nd : Nat} (h : rg_R σ τ nb nr nd) : ∀ d, d < nd → τ 9 d = σ 19 d ∧ τ 10 d = σ 20 d ∧ τ 11 d = σ 21 d ∧ τ 12 d = σ 22 d := h.2.2.2.2.2.2.2.2.2.2.1
theorem rg_R.hrz {σ τ : rg_S} {nb nr nd : Nat} (h : rg_R σ τ nb nr nd) : ∀ d, nd ≤ d → σ 22 d = 0 := h.2.2.2.2.2.2.2.2.2.2.2.1
theorem rg_R.his {σ τ : rg_S} {nb nr nd : Nat} (h : rg_R σ τ nb nr nd) : ∀ r b, r < nr → b < nb → ¬ σ 16 (r * 40 + b) = -1 → rg_isr (σ 14) (σ 11) r b := h.2.2.2.2.2.2.2.2.2.2.2.2.1
theorem rg_R.hid {σ τ : rg_S} {nb nr nd : Nat} (h : rg_R σ τ nb nr nd) : ∀ d, d < nd → ∃ r b : Nat, (r < nr ∧ b < nb) ∧ σ 19 d = ((r * 40 + b : Nat) : Int) ∧ rg_isr (σ 14) (σ 11) r b := h.2.2.2.2.2.2.2.2.2.2.2.2.2.1
theorem rg_R.hsp {σ τ : rg_S} {nb nr nd : Nat} (h : rg_R σ τ nb nr nd) : σ 1 3 = 0 → ∀ r, r < nr → σ 14 r = 0 := h.2.2.2.2.2.2.2.2.2.2.2.2.2.2
theorem rg_la0_at (wh ro : Nat → Int) (x : Int) (nd : Nat) : ¬ rg_la0 wh ro x nd < 0 → wh (Int.toNat (rg_la0 wh ro x nd)) = x := by
  induction nd with
  | zero => intro h; exact absurd (show rg_la0 wh ro x 0 < 0 from (by decide : (-1 : Int) < 0)) h
  | succ n ih =>
    intro h
    by_cases z : wh n = x ∧ ro n = 0
    · have e : rg_la0 wh ro x (n + 1) = (n : Int) := if_pos z
      rw [e, Int.toNat_natCast]; exact z.1
    · have e : rg_la0 wh ro x (n + 1) = rg_la0 wh ro x n := if_neg z
      rw [e] at h ⊢
      exact ih h
/-- entries that count, on both sides -/
def rg_RE (rf fl : Nat → Int) (nb nr : Nat) (E A P E' A' P' : Nat → Int) : Prop := ∀ r b, r < nr → b < nb → E' (r * 40 + b) = rg_cd (E (r * 40 + b)) ∧ (¬ E (r * 40 + b) = -1 → (A' (r * 40 + b) = A (r * 40 + b) ∧ P' (r * 40 + b) = P (r * 40 + b)) ∧ rg_isr rf fl r b)
theorem rg_R.la {σ τ : rg_S} {nb nr nd : Nat} (h : rg_R σ τ nb nr nd) (hD : rg_okD nd (σ 19) (σ 20) (σ 21)) : ∀ d, d < nd → τ 9 d = σ 19 d ∧ 0 ≤ σ 19 d ∧ (τ 12 d = 0 ↔ σ 22 d = 0) := fun d hd => by
  obtain ⟨h1, -, -, h4⟩ := h.hde d hd
  exact ⟨h1, (hD d hd).1, by rw [h4]⟩
theorem rg_RE_now {ns ns' : Nat} {σ τ : rg_S} {nb nr nd : Nat} (h : rg_R σ τ nb nr nd) (hC : rg_IC σ nb nr nd ns) (hnb : nb ≤ 40) : rg_RE (σ 14) (σ 11) nb nr (rg_zE σ nd) (rg_zA σ nd) (rg_zP σ nd) (rg_kE τ 0 nd nb nr) (rg_kA τ 0 nd nb nr) (rg_kP τ 0 nd nb nr) := by
  intro r b hr hb
  have hl := h.la hC.hD
  refine ⟨?_, fun he => ⟨⟨?_, ?_⟩, ?_⟩⟩
  · unfold rg_kE
    rw [rg_tab_at _ _ hr hb hnb]
    exact rg_me_cd hl (fun d hd => ⟨(h.hde d hd).2.1, (hC.hD d hd).2.2.1⟩) (h.hpu _)
  · unfold rg_kA
    rw [rg_tab_at _ _ hr hb hnb]
    exact rg_ma_eq hl (fun d hd => (h.hde d hd).2.2.1) (h.hpa _) he
  · unfold rg_kP
    rw [rg_tab_at _ _ hr hb hnb]
    exact rg_mp_eq hl (h.hpp _) he
  · unfold rg_zE at he
    rw [rg_app_la nd hl] at he
    have bd := rg_la0_bd (τ 9) (τ 12) ((r * 40 + b : Nat) : Int) nd
    by_cases z : rg_la0 (τ 9) (τ 12) ((r * 40 + b : Nat) : Int) nd < 0
    · rw [if_pos z] at he
      exact h.his r b hr hb he
    · have q := rg_la0_at (τ 9) (τ 12) ((r * 40 + b : Nat) : Int) nd z
      obtain ⟨r', b', ⟨k1, k2⟩, k3, k4⟩ := h.hid (Int.toNat (rg_la0 (τ 9) (τ 12) ((r * 40 + b : Nat) : Int) nd)) (by omega)
      rw [← (hl _ (by omega)).1, q] at k3
      have e1 : r' = r := by omega
      have e2 : b' = b := by omega
      rw [e1, e2] at k4; exact k4
