/-! The tables under the entries that count. -/
theorem rg_cd_0 (e : Int) : rg_cd e = 0 ↔ e = -1 := by
  unfold rg_cd
  by_cases z : e = -1
  · rw [if_pos z]; exact ⟨fun _ => z, fun _ => rfl⟩
  · rw [if_neg z]
    by_cases y : e = 0
    · rw [if_pos y]; exact ⟨fun h => absurd h (by decide), fun h => absurd h z⟩
    · rw [if_neg y]; exact ⟨fun h => absurd h y, fun h => absurd h z⟩
theorem rg_SL_kS {ab E A P A' P' : Nat → Int} {τ : rg_S} {tr : Int} {nd nb nr r : Nat} (hE : rg_RE (τ 4) (τ 2) nb nr E A P (rg_kE τ tr nd nb nr) A' P') (hnb : nb ≤ 40) (ha : ab r = τ 5 r) (hr : r < nr) : rg_SL ab E nb r = rg_kS τ tr nd nb nr r := by
  unfold rg_kS
  rw [rg_hd_at _ _ hr]
  refine rg_SL_ms (by rw [ha]) (fun b hb => ?_)
  obtain ⟨h1, h2⟩ := hE r b hr hb
  unfold rg_kE at h1
  rw [rg_tab_at _ _ hr hb hnb] at h1
  show _ ↔ _ ∧ ¬ rg_me _ _ _ _ _ _ _ = 0
  constructor
  · intro k
    exact ⟨(h2 k).2, fun q => k ((rg_cd_0 _).mp (h1.symm.trans q))⟩
  · rintro ⟨-, k⟩ q
    exact k (h1.trans ((rg_cd_0 _).mpr q))
