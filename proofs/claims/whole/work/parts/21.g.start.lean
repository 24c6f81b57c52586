/-! The relation holds at the beginning. -/
set_option maxHeartbeats 4000000 in
theorem z_start : rg_Z rg_s0 rg_t0 0 0 0 0 := by
  have e1 : rg_s0 1 = fun _ => 0 := rg_s0_at (by decide) (by decide) (by decide)
  have e2 : rg_s0 2 = fun _ => 0 := rg_s0_at (by decide) (by decide) (by decide)
  have e3 : rg_s0 3 = fun _ => 0 := rg_s0_at (by decide) (by decide) (by decide)
  have e4 : rg_s0 4 = fun _ => 0 := rg_s0_at (by decide) (by decide) (by decide)
  have e5 : rg_s0 5 = fun _ => 0 := rg_s0_at (by decide) (by decide) (by decide)
  have e6 : rg_s0 6 = fun _ => 0 := rg_s0_at (by decide) (by decide) (by decide)
  have e7 : rg_s0 7 = fun _ => 0 := rg_s0_at (by decide) (by decide) (by decide)
  have e8 : rg_s0 8 = fun _ => 0 := rg_s0_at (by decide) (by decide) (by decide)
  have e9 : rg_s0 9 = fun _ => 0 := rg_s0_at (by decide) (by decide) (by decide)
  have e10 : rg_s0 10 = fun _ => 0 := rg_s0_at (by decide) (by decide) (by decide)
  have e11 : rg_s0 11 = fun _ => 0 := rg_s0_at (by decide) (by decide) (by decide)
  have e12 : rg_s0 12 = fun _ => 0 := rg_s0_at (by decide) (by decide) (by decide)
  have e13 : rg_s0 13 = fun _ => 0 := rg_s0_at (by decide) (by decide) (by decide)
  have e14 : rg_s0 14 = fun _ => 0 := rg_s0_at (by decide) (by decide) (by decide)
  have e15 : rg_s0 15 = fun _ => 0 := rg_s0_at (by decide) (by decide) (by decide)
  have e17 : rg_s0 17 = fun _ => 0 := rg_s0_at (by decide) (by decide) (by decide)
  have e18 : rg_s0 18 = fun _ => 0 := rg_s0_at (by decide) (by decide) (by decide)
  have e19 : rg_s0 19 = fun _ => 0 := rg_s0_at (by decide) (by decide) (by decide)
  have e20 : rg_s0 20 = fun _ => 0 := rg_s0_at (by decide) (by decide) (by decide)
  have e21 : rg_s0 21 = fun _ => 0 := rg_s0_at (by decide) (by decide) (by decide)
  have e22 : rg_s0 22 = fun _ => 0 := rg_s0_at (by decide) (by decide) (by decide)
  have e23 : rg_s0 23 = fun _ => 0 := rg_s0_at (by decide) (by decide) (by decide)
  have e24 : rg_s0 24 = fun _ => 0 := rg_s0_at (by decide) (by decide) (by decide)
  have e26 : rg_s0 26 = fun _ => 0 := rg_s0_at (by decide) (by decide) (by decide)
  have e27 : rg_s0 27 = fun _ => 0 := rg_s0_at (by decide) (by decide) (by decide)
  have e28 : rg_s0 28 = fun _ => 0 := rg_s0_at (by decide) (by decide) (by decide)
  have e29 : rg_s0 29 = fun _ => 0 := rg_s0_at (by decide) (by decide) (by decide)
  have e30 : rg_s0 30 = fun _ => 0 := rg_s0_at (by decide) (by decide) (by decide)
  have e31 : rg_s0 31 = fun _ => 0 := rg_s0_at (by decide) (by decide) (by decide)
  have e32 : rg_s0 32 = fun _ => 0 := rg_s0_at (by decide) (by decide) (by decide)
  have e33 : rg_s0 33 = fun _ => 0 := rg_s0_at (by decide) (by decide) (by decide)
  have e34 : rg_s0 34 = fun _ => 0 := rg_s0_at (by decide) (by decide) (by decide)
  have e35 : rg_s0 35 = fun _ => 0 := rg_s0_at (by decide) (by decide) (by decide)
  have e36 : rg_s0 36 = fun _ => 0 := rg_s0_at (by decide) (by decide) (by decide)
  have e37 : rg_s0 37 = fun _ => 0 := rg_s0_at (by decide) (by decide) (by decide)
  have e38 : rg_s0 38 = fun _ => 0 := rg_s0_at (by decide) (by decide) (by decide)
  have e39 : rg_s0 39 = fun _ => 0 := rg_s0_at (by decide) (by decide) (by decide)
  have e40 : rg_s0 40 = fun _ => 0 := rg_s0_at (by decide) (by decide) (by decide)
  have e41 : rg_s0 41 = fun _ => 0 := rg_s0_at (by decide) (by decide) (by decide)
  have e42 : rg_s0 42 = fun _ => 0 := rg_s0_at (by decide) (by decide) (by decide)
  have e43 : rg_s0 43 = fun _ => 0 := rg_s0_at (by decide) (by decide) (by decide)
  have q9 : rg_s0 0 9 = 1 := by rw [rg_s0_0]; rfl
  have hRg : rg_Rg 0 := rg_R0
  have hRm : rg_Rg (-1) := ⟨by omega, by omega⟩
  unfold rg_Z rg_IC rg_IM rg_R rg_okE rg_okD rg_t0
  simp only [e1, e2, e3, e4, e5, e6, e7, e8, e9, e10, e11, e12, e13, e14, e15, e17, e18, e19, e20, e21, e22, e23, e24, e26, e27, e28, e29, e30, e31, e32, e33, e34, e35, e36, e37, e38, e39, e40, e41, e42, e43, rg_s0_16, rg_s0_25, q9]
  simp [rg_cd]
  exact ⟨hRg, hRm, hRg, 0, Nat.zero_le _, rfl⟩
