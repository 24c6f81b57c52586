/-! Entries that count with a trial decision, both sides. -/
theorem rg_app_congr {dc dc' ro ro' g g' f : Nat → Int} (nd : Nat) (h : ∀ d, d < nd → dc d = dc' d ∧ ro d = ro' d ∧ g d = g' d) : rg_app dc ro g f nd = rg_app dc' ro' g' f nd := by
  induction nd with
  | zero => rfl
  | succ n ih =>
    have i := ih (fun d hd => h d (by omega))
    obtain ⟨h1, h2, h3⟩ := h n (by omega)
    rw [rg_app, rg_app, h1, h2, h3, i]
theorem rg_app_try {dc ro g f : Nat → Int} {nd : Nat} {c : Int} {j : Nat} (hr : ro nd = 0) (J : Nat) : rg_app (rg_up dc nd ((j : Nat) : Int)) ro (rg_up g nd c) f (nd + 1) J = if J = j then c else rg_app dc ro g f nd J := by
  rw [← rg_app_s _ ro _ f hr, rg_up_same, rg_up_same, rg_app_congr (dc' := dc) (ro' := ro) (g' := g) nd (fun d hd => ⟨rg_up_ne _ _ (by omega), rfl, rg_up_ne _ _ (by omega)⟩), Int.toNat_natCast]
  rfl
theorem rg_RE_try {ns : Nat} {σ τ : rg_S} {nb nr nd : Nat} (h : rg_R σ τ nb nr nd) (hC : rg_IC σ nb nr nd ns) (hnd : nd ≤ 40) {r0 b0 : Nat} {c x : Int} (hr0 : r0 < nr) (hb0 : b0 < nb) (hs : rg_isr (σ 14) (σ 11) r0 b0) (hc : rg_gd c x) :
    rg_RE (σ 14) (σ 11) nb nr (rg_zE (rg_yW σ nd ((r0 * 40 + b0 : Nat) : Int) c x) (nd + 1)) (rg_zA (rg_yW σ nd ((r0 * 40 + b0 : Nat) : Int) c x) (nd + 1)) (rg_zP (rg_yW σ nd ((r0 * 40 + b0 : Nat) : Int) c x) (nd + 1))
      (rg_kE (rg_kW τ ((r0 * 40 + b0 : Nat) : Int) c x) 1 nd nb nr) (rg_kA (rg_kW τ ((r0 * 40 + b0 : Nat) : Int) c x) 1 nd nb nr) (rg_kP (rg_kW τ ((r0 * 40 + b0 : Nat) : Int) c x) 1 nd nb nr) := by
  have hnb := hC.hnb
  intro r b hr hb
  obtain ⟨n1, n2⟩ := rg_RE_now (ns' := 0) h hC hnb r b hr hb
  unfold rg_kE rg_kA rg_kP
  rw [rg_tab_at _ _ hr hb hnb, rg_tab_at _ _ hr hb hnb, rg_tab_at _ _ hr hb hnb]
  have h0 : σ 22 nd = 0 := h.hrz nd (Nat.le_refl _)
  have eE : rg_zE (rg_yW σ nd ((r0 * 40 + b0 : Nat) : Int) c x) (nd + 1) (r * 40 + b) = if r * 40 + b = r0 * 40 + b0 then c else rg_zE σ nd (r * 40 + b) := rg_app_try (dc := σ 19) (ro := σ 22) (g := σ 20) (f := σ 16) h0 _
  have eA : rg_zA (rg_yW σ nd ((r0 * 40 + b0 : Nat) : Int) c x) (nd + 1) (r * 40 + b) = if r * 40 + b = r0 * 40 + b0 then x else rg_zA σ nd (r * 40 + b) := rg_app_try (dc := σ 19) (ro := σ 22) (g := σ 21) (f := σ 17) h0 _
  have eP : rg_zP (rg_yW σ nd ((r0 * 40 + b0 : Nat) : Int) c x) (nd + 1) (r * 40 + b) = if r * 40 + b = r0 * 40 + b0 then 0 else rg_zP σ nd (r * 40 + b) := by
    have q := rg_app_try (dc := σ 19) (ro := σ 22) (g := fun _ => 0) (f := σ 18) (nd := nd) (c := 0) (j := r0 * 40 + b0) h0 (r * 40 + b)
    have e : rg_up (fun _ => (0 : Int)) nd 0 = fun _ => 0 := by funext i; unfold rg_up; split <;> rfl
    rw [e] at q
    exact q
  have hl : ∀ d, d < nd → rg_up (τ 9) 40 ((r0 * 40 + b0 : Nat) : Int) d = σ 19 d ∧ 0 ≤ σ 19 d ∧ (rg_up (τ 12) 40 0 d = 0 ↔ σ 22 d = 0) := fun d hd => by
    rw [rg_up_ne _ _ (by omega), rg_up_ne _ _ (by omega)]
    exact h.la hC.hD d hd
  rw [eE, eA, eP]
  show (rg_me (rg_up (τ 9) 40 _) (rg_up (τ 12) 40 0) (rg_up (τ 10) 40 c) (τ 6) 1 nd (r * 40 + b) = _) ∧ (_ → (rg_ma (rg_up (τ 9) 40 _) (rg_up (τ 12) 40 0) (rg_up (τ 11) 40 x) (τ 7) 1 nd (r * 40 + b) = _ ∧ rg_mp (rg_up (τ 9) 40 _) (rg_up (τ 12) 40 0) (τ 8) 1 nd (r * 40 + b) = _) ∧ _)
  by_cases z : r * 40 + b = r0 * 40 + b0
  · have e1 : r = r0 := by omega
    have e2 : b = b0 := by omega
    have w40 : rg_up (τ 9) 40 ((r0 * 40 + b0 : Nat) : Int) 40 = ((r * 40 + b : Nat) : Int) := by rw [rg_up_same, z]
    rw [if_pos z, if_pos z, if_pos z, rg_me_1y w40, rg_ma_1y w40, rg_mp_1y w40, rg_up_same, rg_up_same]
    refine ⟨rg_cd_1 (by omega), fun _ => ⟨⟨rfl, rfl⟩, ?_⟩⟩
    rw [e1, e2]; exact hs
  · have w40 : ¬ rg_up (τ 9) 40 ((r0 * 40 + b0 : Nat) : Int) 40 = ((r * 40 + b : Nat) : Int) := by rw [rg_up_same]; omega
    rw [if_neg z, if_neg z, if_neg z, rg_me_1n w40, rg_ma_1n w40, rg_mp_1n w40]
    refine ⟨?_, fun he => ⟨⟨?_, ?_⟩, (n2 he).2⟩⟩
    · exact rg_me_cd hl (fun d hd => ⟨(rg_up_ne _ _ (by omega)).trans (h.hde d hd).2.1, (hC.hD d hd).2.2.1⟩) (h.hpu _)
    · exact rg_ma_eq hl (fun d hd => (rg_up_ne _ _ (by omega)).trans (h.hde d hd).2.2.1) (h.hpa _) he
    · exact rg_mp_eq hl (h.hpp _) he
