/-! The relation between both worlds, at the law's loop. -/
/-- the class's world when it has been brought up to date -/
noncomputable def rg_zW (σ : rg_S) (nd nb nr ns : Nat) : rg_S := (rg_wr (rg_wr (rg_wr (rg_wr (rg_wr (rg_wr (rg_wr (rg_wr (rg_wr (rg_wr (rg_wr (rg_wr (rg_wr (rg_wr (rg_wr (rg_wr (rg_wr (rg_wr (rg_wr σ 0 (rg_up (σ 0) 9 0)) 25 (rg_zE σ nd)) 26 (rg_zA σ nd)) 27 (rg_zP σ nd)) 28 (rg_zI σ nd nb nr)) 29 (rg_zT σ nd nb nr)) 30 (rg_zS σ nd nb nr)) 31 (rg_hd (σ 31) nr (rg_SZ (σ 14) (σ 11) nb))) 32 (rg_s32 (σ 32) (rg_zE σ nd) (rg_zA σ nd) nb nr)) 33 (rg_s33 (σ 33) (rg_zE σ nd) (rg_zA σ nd) nb nr)) 34 (rg_zC σ nd nb nr)) 35 (rg_zD σ nd nb nr ns)) 36 (rg_zM σ nd nb nr)) 37 (rg_zK σ nd nb nr ns)) 38 (rg_zG σ nd nb nr)) 39 (rg_zN σ nd nb nr ns)) 40 (rg_rws nb (rg_zR σ nd nb nr ns))) 41 (rg_zO σ nd nb nr ns)) 42 (rg_RK (rg_zO σ nd nb nr ns) (σ 42) nb))
/-- the reference's world when it has reckoned; f: the object's own fields -/
noncomputable def rg_mW (τ : rg_S) (f : Nat → Int) (nd nb nr ns : Nat) : rg_S := (rg_wr (rg_wr (rg_wr (rg_wr (rg_wr (rg_wr (rg_wr (rg_wr (rg_wr (rg_wr (rg_wr τ 0 f) 15 (rg_kE τ 0 nd nb nr)) 16 (rg_kA τ 0 nd nb nr)) 17 (rg_kP τ 0 nd nb nr)) 18 (rg_kS τ 0 nd nb nr)) 19 (rg_kT τ 0 nd nb nr)) 20 (rg_ctb (τ 20) nr nb (fun _ _ => True) (rg_kD τ 0 nd nb nr ns))) 21 (rg_hd (τ 21) nb (rg_kG τ 0 nd nb nr))) 22 (rg_hd (τ 22) nb (rg_kN τ 0 nd nb nr ns))) 23 (rg_hd (τ 23) nb (rg_kM τ 0 nd nb nr))) 24 (rg_hd (τ 24) nb (rg_kC τ 0 nd nb nr ns)))
def rg_rest (σ σ0 : rg_S) (nd nb nr ns : Nat) : Prop :=
  σ 25 = (rg_zE σ0 nd) ∧ σ 26 = (rg_zA σ0 nd) ∧ σ 27 = (rg_zP σ0 nd) ∧ σ 28 = (rg_zI σ0 nd nb nr) ∧ σ 29 = (rg_zT σ0 nd nb nr) ∧ σ 30 = (rg_zS σ0 nd nb nr) ∧ σ 34 = (rg_zC σ0 nd nb nr) ∧ σ 35 = (rg_zD σ0 nd nb nr ns) ∧ σ 36 = (rg_zM σ0 nd nb nr) ∧ σ 37 = (rg_zK σ0 nd nb nr ns) ∧ σ 38 = (rg_zG σ0 nd nb nr) ∧ σ 39 = (rg_zN σ0 nd nb nr ns) ∧ σ 40 = (rg_rws nb (rg_zR σ0 nd nb nr ns)) ∧ σ 41 = (rg_zO σ0 nd nb nr ns) ∧ ∃ rk, σ 42 = rg_RK (rg_zO σ0 nd nb nr ns) rk nb
theorem rg_rest.c25 {σ σ0 : rg_S} {nd nb nr ns : Nat} (h : rg_rest σ σ0 nd nb nr ns) : σ 25 = (rg_zE σ0 nd) := h.1
theorem rg_rest.c26 {σ σ0 : rg_S} {nd nb nr ns : Nat} (h : rg_rest σ σ0 nd nb nr ns) : σ 26 = (rg_zA σ0 nd) := h.2.1
theorem rg_rest.c27 {σ σ0 : rg_S} {nd nb nr ns : Nat} (h : rg_rest σ σ0 nd nb nr ns) : σ 27 = (rg_zP σ0 nd) := h.2.2.1
theorem rg_rest.c28 {σ σ0 : rg_S} {nd nb nr ns : Nat} (h : rg_rest σ σ0 nd nb nr ns) : σ 28 = (rg_zI σ0 nd nb nr) := h.2.2.2.1
theorem rg_rest.c29 {σ σ0 : rg_S} {nd nb nr ns : Nat} (h : rg_rest σ σ0 nd nb nr ns) : σ 29 = (rg_zT σ0 nd nb nr) := h.2.2.2.2.1
theorem rg_rest.c30 {σ σ0 : rg_S} {nd nb nr ns : Nat} (h : rg_rest σ σ0 nd nb nr ns) : σ 30 = (rg_zS σ0 nd nb nr) := h.2.2.2.2.2.1
theorem rg_rest.c34 {σ σ0 : rg_S} {nd nb nr ns : Nat} (h : rg_rest σ σ0 nd nb nr ns) : σ 34 = (rg_zC σ0 nd nb nr) := h.2.2.2.2.2.2.1
theorem rg_rest.c35 {σ σ0 : rg_S} {nd nb nr ns : Nat} (h : rg_rest σ σ0 nd nb nr ns) : σ 35 = (rg_zD σ0 nd nb nr ns) := h.2.2.2.2.2.2.2.1
theorem rg_rest.c36 {σ σ0 : rg_S} {nd nb nr ns : Nat} (h : rg_rest σ σ0 nd nb nr ns) : σ 36 = (rg_zM σ0 nd nb nr) := h.2.2.2.2.2.2.2.2.1
theorem rg_rest.c37 {σ σ0 : rg_S} {nd nb nr ns : Nat} (h : rg_rest σ σ0 nd nb nr ns) : σ 37 = (rg_zK σ0 nd nb nr ns) := h.2.2.2.2.2.2.2.2.2.1
theorem rg_rest.c38 {σ σ0 : rg_S} {nd nb nr ns : Nat} (h : rg_rest σ σ0 nd nb nr ns) : σ 38 = (rg_zG σ0 nd nb nr) := h.2.2.2.2.2.2.2.2.2.2.1
theorem rg_rest.c39 {σ σ0 : rg_S} {nd nb nr ns : Nat} (h : rg_rest σ σ0 nd nb nr ns) : σ 39 = (rg_zN σ0 nd nb nr ns) := h.2.2.2.2.2.2.2.2.2.2.2.1
theorem rg_rest.c40 {σ σ0 : rg_S} {nd nb nr ns : Nat} (h : rg_rest σ σ0 nd nb nr ns) : σ 40 = (rg_rws nb (rg_zR σ0 nd nb nr ns)) := h.2.2.2.2.2.2.2.2.2.2.2.2.1
theorem rg_rest.c41 {σ σ0 : rg_S} {nd nb nr ns : Nat} (h : rg_rest σ σ0 nd nb nr ns) : σ 41 = (rg_zO σ0 nd nb nr ns) := h.2.2.2.2.2.2.2.2.2.2.2.2.2.1
theorem rg_rest.c42 {σ σ0 : rg_S} {nd nb nr ns : Nat} (h : rg_rest σ σ0 nd nb nr ns) : ∃ rk, σ 42 = rg_RK (rg_zO σ0 nd nb nr ns) rk nb := h.2.2.2.2.2.2.2.2.2.2.2.2.2.2
def rg_Z (σ τ : rg_S) (nb nr nd ns : Nat) : Prop :=
  (σ 1 2 = ((nb : Nat) : Int)) ∧ (σ 2 3 = ((nr : Nat) : Int)) ∧ (σ 4 4 = ((nd : Nat) : Int)) ∧ (σ 5 2 = ((ns : Nat) : Int)) ∧ (τ 0 1 = ((nb : Nat) : Int)) ∧ (τ 0 4 = ((nr : Nat) : Int)) ∧ (τ 0 11 = ((nd : Nat) : Int)) ∧ (τ 0 17 = ((ns : Nat) : Int)) ∧ (τ 0 16 = 0) ∧ (τ 0 20 = σ 1 3) ∧ (σ 1 3 = 0 ∨ σ 1 3 = 1) ∧ (σ 0 9 = 0 ∨ σ 0 9 = 1) ∧ (rg_IC σ nb nr nd ns) ∧ (rg_IM τ nb nr nd ns 0) ∧ (rg_R σ τ nb nr nd) ∧ (∀ j, nr * 40 ≤ j → σ 16 j = -1) ∧ (σ 0 9 = 0 → ∃ σ0, rg_IC σ0 nb nr nd ns ∧ rg_R σ0 τ nb nr nd ∧ rg_rest σ σ0 nd nb nr ns) ∧ (∀ j, rg_Rg (σ 25 j)) ∧ (∀ j, rg_Rg (σ 30 j)) ∧ (∀ j, σ 35 j = 0 ∨ σ 35 j = 1) ∧ (∀ j, rg_Rg (σ 40 j)) ∧ (∀ j, rg_Rg (τ 17 j)) ∧ (∃ L : Nat, L ≤ 8040 ∧ σ 9 1 = ((L : Nat) : Int) ∧ τ 0 33 = ((L : Nat) : Int) ∧ ∀ i, i < L → σ 43 i = τ 26 i)
theorem rg_Z.c12 {σ τ : rg_S} {nb nr nd ns : Nat} (h : rg_Z σ τ nb nr nd ns) : σ 1 2 = ((nb : Nat) : Int) := h.1
theorem rg_Z.c23 {σ τ : rg_S} {nb nr nd ns : Nat} (h : rg_Z σ τ nb nr nd ns) : σ 2 3 = ((nr : Nat) : Int) := h.2.1
theorem rg_Z.c44 {σ τ : rg_S} {nb nr nd ns : Nat} (h : rg_Z σ τ nb nr nd ns) : σ 4 4 = ((nd : Nat) : Int) := h.2.2.1
theorem rg_Z.c52 {σ τ : rg_S} {nb nr nd ns : Nat} (h : rg_Z σ τ nb nr nd ns) : σ 5 2 = ((ns : Nat) : Int) := h.2.2.2.1
theorem rg_Z.m1 {σ τ : rg_S} {nb nr nd ns : Nat} (h : rg_Z σ τ nb nr nd ns) : τ 0 1 = ((nb : Nat) : Int) := h.2.2.2.2.1
theorem rg_Z.m4 {σ τ : rg_S} {nb nr nd ns : Nat} (h : rg_Z σ τ nb nr nd ns) : τ 0 4 = ((nr : Nat) : Int) := h.2.2.2.2.2.1
theorem rg_Z.m11 {σ τ : rg_S} {nb nr nd ns : Nat} (h : rg_Z σ τ nb nr nd ns) : τ 0 11 = ((nd : Nat) : Int) := h.2.2.2.2.2.2.1
theorem rg_Z.m17 {σ τ : rg_S} {nb nr nd ns : Nat} (h : rg_Z σ τ nb nr nd ns) : τ 0 17 = ((ns : Nat) : Int) := h.2.2.2.2.2.2.2.1
theorem rg_Z.m16 {σ τ : rg_S} {nb nr nd ns : Nat} (h : rg_Z σ τ nb nr nd ns) : τ 0 16 = 0 := h.2.2.2.2.2.2.2.2.1
theorem rg_Z.m20 {σ τ : rg_S} {nb nr nd ns : Nat} (h : rg_Z σ τ nb nr nd ns) : τ 0 20 = σ 1 3 := h.2.2.2.2.2.2.2.2.2.1
theorem rg_Z.sp {σ τ : rg_S} {nb nr nd ns : Nat} (h : rg_Z σ τ nb nr nd ns) : σ 1 3 = 0 ∨ σ 1 3 = 1 := h.2.2.2.2.2.2.2.2.2.2.1
theorem rg_Z.st {σ τ : rg_S} {nb nr nd ns : Nat} (h : rg_Z σ τ nb nr nd ns) : σ 0 9 = 0 ∨ σ 0 9 = 1 := h.2.2.2.2.2.2.2.2.2.2.2.1
theorem rg_Z.C {σ τ : rg_S} {nb nr nd ns : Nat} (h : rg_Z σ τ nb nr nd ns) : rg_IC σ nb nr nd ns := h.2.2.2.2.2.2.2.2.2.2.2.2.1
theorem rg_Z.M {σ τ : rg_S} {nb nr nd ns : Nat} (h : rg_Z σ τ nb nr nd ns) : rg_IM τ nb nr nd ns 0 := h.2.2.2.2.2.2.2.2.2.2.2.2.2.1
theorem rg_Z.R {σ τ : rg_S} {nb nr nd ns : Nat} (h : rg_Z σ τ nb nr nd ns) : rg_R σ τ nb nr nd := h.2.2.2.2.2.2.2.2.2.2.2.2.2.2.1
theorem rg_Z.z {σ τ : rg_S} {nb nr nd ns : Nat} (h : rg_Z σ τ nb nr nd ns) : ∀ j, nr * 40 ≤ j → σ 16 j = -1 := h.2.2.2.2.2.2.2.2.2.2.2.2.2.2.2.1
theorem rg_Z.r {σ τ : rg_S} {nb nr nd ns : Nat} (h : rg_Z σ τ nb nr nd ns) : σ 0 9 = 0 → ∃ σ0, rg_IC σ0 nb nr nd ns ∧ rg_R σ0 τ nb nr nd ∧ rg_rest σ σ0 nd nb nr ns := h.2.2.2.2.2.2.2.2.2.2.2.2.2.2.2.2.1
theorem rg_Z.x25 {σ τ : rg_S} {nb nr nd ns : Nat} (h : rg_Z σ τ nb nr nd ns) : ∀ j, rg_Rg (σ 25 j) := h.2.2.2.2.2.2.2.2.2.2.2.2.2.2.2.2.2.1
theorem rg_Z.x30 {σ τ : rg_S} {nb nr nd ns : Nat} (h : rg_Z σ τ nb nr nd ns) : ∀ j, rg_Rg (σ 30 j) := h.2.2.2.2.2.2.2.2.2.2.2.2.2.2.2.2.2.2.1
theorem rg_Z.x35 {σ τ : rg_S} {nb nr nd ns : Nat} (h : rg_Z σ τ nb nr nd ns) : ∀ j, σ 35 j = 0 ∨ σ 35 j = 1 := h.2.2.2.2.2.2.2.2.2.2.2.2.2.2.2.2.2.2.2.1
theorem rg_Z.x40 {σ τ : rg_S} {nb nr nd ns : Nat} (h : rg_Z σ τ nb nr nd ns) : ∀ j, rg_Rg (σ 40 j) := h.2.2.2.2.2.2.2.2.2.2.2.2.2.2.2.2.2.2.2.2.1
theorem rg_Z.x17 {σ τ : rg_S} {nb nr nd ns : Nat} (h : rg_Z σ τ nb nr nd ns) : ∀ j, rg_Rg (τ 17 j) := h.2.2.2.2.2.2.2.2.2.2.2.2.2.2.2.2.2.2.2.2.2.1
theorem rg_Z.s {σ τ : rg_S} {nb nr nd ns : Nat} (h : rg_Z σ τ nb nr nd ns) : ∃ L : Nat, L ≤ 8040 ∧ σ 9 1 = ((L : Nat) : Int) ∧ τ 0 33 = ((L : Nat) : Int) ∧ ∀ i, i < L → σ 43 i = τ 26 i := h.2.2.2.2.2.2.2.2.2.2.2.2.2.2.2.2.2.2.2.2.2.2
theorem rg_ctb_al {P : Int → Prop} {f : Nat → Int} {n b : Nat} {p : Nat → Nat → Prop} {g : Nat → Nat → Int} (h1 : ∀ j, P (f j)) (h2 : ∀ o c, P (g o c)) (j : Nat) : P (rg_ctb f n b p g j) := by
  unfold rg_ctb
  rcases Classical.em (j % 40 < b ∧ j / 40 < n ∧ p (j / 40) (j % 40)) with z | z
  · rw [rg_ite_t z]; exact h2 _ _
  · rw [rg_ite_f z]; exact h1 _
theorem rg_hd_R2 {f : Nat → Int} {n : Nat} {g : Nat → Int} (h1 : ∀ j, rg_Rg (f j)) (h2 : ∀ j, j < n → rg_Rg (g j)) (j : Nat) : rg_Rg (rg_hd f n g j) := by
  unfold rg_hd; split
  · next h => exact h2 _ h
  · exact h1 _
theorem rg_kC_R {τ : rg_S} {tr : Int} {nd nb nr ns : Nat} (hnr : nr ≤ 16) (b : Nat) : rg_Rg (rg_kC τ tr nd nb nr ns b) := by
  unfold rg_kC rg_mC
  have := rg_cnt_le (fun o => ¬ rg_mD (rg_kS τ tr nd nb nr) (τ 4) (τ 2) (τ 3) (rg_kE τ tr nd nb nr) (rg_kT τ tr nd nb nr) (τ 13) (τ 14) ns nr o b = 0) nr
  exact ⟨by omega, by omega⟩
theorem rg_zD_al {σ : rg_S} {nd nb nr ns : Nat} (h : ∀ j, σ 35 j = 0 ∨ σ 35 j = 1) (j : Nat) : rg_zD σ nd nb nr ns j = 0 ∨ rg_zD σ nd nb nr ns j = 1 := by
  unfold rg_zD
  exact rg_ctb_al (P := fun z => z = 0 ∨ z = 1) h (fun o c => by unfold rg_Dx; exact rg_Dt_01 _ _ _ _ _) j
theorem rg_zW_rest (σ : rg_S) (nd nb nr ns : Nat) : rg_rest (rg_zW σ nd nb nr ns) σ nd nb nr ns := ⟨rfl, rfl, rfl, rfl, rfl, rfl, rfl, rfl, rfl, rfl, rfl, rfl, rfl, rfl, _, rfl⟩
theorem rg_zW_b (σ : rg_S) (nd nb nr ns : Nat) : (rg_zW σ nd nb nr ns 1 = σ 1 ∧ rg_zW σ nd nb nr ns 2 = σ 2 ∧ rg_zW σ nd nb nr ns 3 = σ 3 ∧ rg_zW σ nd nb nr ns 4 = σ 4 ∧ rg_zW σ nd nb nr ns 5 = σ 5 ∧ rg_zW σ nd nb nr ns 6 = σ 6 ∧ rg_zW σ nd nb nr ns 7 = σ 7 ∧ rg_zW σ nd nb nr ns 8 = σ 8 ∧ rg_zW σ nd nb nr ns 9 = σ 9 ∧ rg_zW σ nd nb nr ns 10 = σ 10 ∧ rg_zW σ nd nb nr ns 11 = σ 11 ∧ rg_zW σ nd nb nr ns 12 = σ 12 ∧ rg_zW σ nd nb nr ns 13 = σ 13 ∧ rg_zW σ nd nb nr ns 14 = σ 14 ∧ rg_zW σ nd nb nr ns 15 = σ 15 ∧ rg_zW σ nd nb nr ns 16 = σ 16 ∧ rg_zW σ nd nb nr ns 17 = σ 17 ∧ rg_zW σ nd nb nr ns 18 = σ 18 ∧ rg_zW σ nd nb nr ns 19 = σ 19 ∧ rg_zW σ nd nb nr ns 20 = σ 20 ∧ rg_zW σ nd nb nr ns 21 = σ 21 ∧ rg_zW σ nd nb nr ns 22 = σ 22 ∧ rg_zW σ nd nb nr ns 23 = σ 23 ∧ rg_zW σ nd nb nr ns 24 = σ 24 ∧ rg_zW σ nd nb nr ns 9 = σ 9 ∧ rg_zW σ nd nb nr ns 43 = σ 43) := ⟨rfl, rfl, rfl, rfl, rfl, rfl, rfl, rfl, rfl, rfl, rfl, rfl, rfl, rfl, rfl, rfl, rfl, rfl, rfl, rfl, rfl, rfl, rfl, rfl, rfl, rfl⟩
theorem rg_IC_zW {σ : rg_S} {nd nb nr ns : Nat} (h : rg_IC σ nb nr nd ns) : rg_IC (rg_zW σ nd nb nr ns) nb nr nd ns :=
  ⟨h.hnb, h.hnr, h.hnd, h.hns, h.hok, h.hD, h.hro, h.hfl, h.hlt, h.hkd, h.hrf, h.hab, h.hsr, h.hsl, rg_zI_Rg h, rg_s33_0 h.h330, rg_zC_Rg h, rg_zD_Rg h, rg_zN_bd h, rg_zO_bd h⟩
theorem rg_R_m {σ τ τ' : rg_S} {nb nr nd : Nat} (h : rg_R σ τ nb nr nd) (e : ∀ c, 1 ≤ c → c ≤ 14 → τ' c = τ c) : rg_R σ τ' nb nr nd := by
  have e1 := e 1 (by decide) (by decide)
  have e2 := e 2 (by decide) (by decide)
  have e3 := e 3 (by decide) (by decide)
  have e4 := e 4 (by decide) (by decide)
  have e5 := e 5 (by decide) (by decide)
  have e6 := e 6 (by decide) (by decide)
  have e7 := e 7 (by decide) (by decide)
  have e8 := e 8 (by decide) (by decide)
  have e9 := e 9 (by decide) (by decide)
  have e10 := e 10 (by decide) (by decide)
  have e11 := e 11 (by decide) (by decide)
  have e12 := e 12 (by decide) (by decide)
  have e13 := e 13 (by decide) (by decide)
  have e14 := e 14 (by decide) (by decide)
  unfold rg_R
  rw [e1, e2, e3, e4, e5, e6, e7, e8, e9, e10, e11, e12, e13, e14]
  exact h
theorem rg_Z_m {σ τ τ' : rg_S} {nb nr nd ns : Nat} (h : rg_Z σ τ nb nr nd ns) (e : ∀ c, 1 ≤ c → c ≤ 14 → τ' c = τ c) (hs : ∀ j, (j = 1 ∨ j = 4 ∨ j = 11 ∨ j = 16 ∨ j = 17 ∨ j = 20 ∨ j = 33) → τ' 0 j = τ 0 j) (hM : rg_IM τ' nb nr nd ns 0) (h17 : ∀ j, rg_Rg (τ' 17 j)) (h26 : τ' 26 = τ 26) : rg_Z σ τ' nb nr nd ns := by
  refine ⟨h.c12, h.c23, h.c44, h.c52, (hs 1 (by omega)).trans h.m1, (hs 4 (by omega)).trans h.m4, (hs 11 (by omega)).trans h.m11, (hs 17 (by omega)).trans h.m17, (hs 16 (by omega)).trans h.m16, (hs 20 (by omega)).trans h.m20, h.sp, h.st, h.C, hM, rg_R_m h.R e, h.z, fun z => ?_, h.x25, h.x30, h.x35, h.x40, h17, ?_⟩
  · obtain ⟨σ0, a, b, c⟩ := h.r z
    exact ⟨σ0, a, rg_R_m b e, c⟩
  · obtain ⟨L, a, b, c, d⟩ := h.s
    exact ⟨L, a, b, (hs 33 (by omega)).trans c, fun i hi => by rw [h26]; exact d i hi⟩
theorem rg_Z_0 {σ τ : rg_S} {nb nr nd ns : Nat} (h : rg_Z σ τ nb nr nd ns) (v : Int) : rg_Z σ (rg_wr τ 0 (rg_up (τ 0) 0 v)) nb nr nd ns :=
  rg_Z_m h (fun c h1 _ => rg_wr_ne _ _ (by omega)) (fun j hj => by rw [rg_wr_same, rg_up_ne _ _ (by omega)]) (rg_IM_0 h.M _) h.x17 rfl
theorem rg_Z_zW {σ τ : rg_S} {nb nr nd ns : Nat} (h : rg_Z σ τ nb nr nd ns) : rg_Z (rg_zW σ nd nb nr ns) τ nb nr nd ns :=
  ⟨h.c12, h.c23, h.c44, h.c52, h.m1, h.m4, h.m11, h.m17, h.m16, h.m20, h.sp, Or.inl rfl, rg_IC_zW h.C, h.M, h.R, h.z, fun _ => ⟨σ, h.C, h.R, rg_zW_rest σ nd nb nr ns⟩, rg_okE_en (rg_zE_ok h.C), rg_zS_Rg h.x30, rg_zD_al h.x35, rg_z40_Rg h.C, h.x17, h.s⟩
/-- brought up to date: the tables are those of σ0 -/
theorem rg_Z_up {σ τ : rg_S} {nb nr nd ns : Nat} (h : rg_Z σ τ nb nr nd ns) : ∃ σ0 σ9, (rg_IC σ0 nb nr nd ns ∧ rg_R σ0 τ nb nr nd) ∧ rg_rest σ9 σ0 nd nb nr ns ∧ rg_Z σ9 τ nb nr nd ns ∧ ((¬ σ 0 9 = 0 ∧ σ9 = rg_zW σ nd nb nr ns) ∨ (σ 0 9 = 0 ∧ σ9 = σ)) := by
  by_cases z : σ 0 9 = 0
  · obtain ⟨σ0, a, b, c⟩ := h.r z
    exact ⟨σ0, σ, ⟨a, b⟩, c, h, Or.inr ⟨z, rfl⟩⟩
  · exact ⟨σ, rg_zW σ nd nb nr ns, ⟨h.C, h.R⟩, rg_zW_rest _ _ _ _ _, rg_Z_zW h, Or.inl ⟨z, rfl⟩⟩
theorem rg_Zq {σ0 τ : rg_S} {nb nr nd ns : Nat} (hC : rg_IC σ0 nb nr nd ns) (hR : rg_R σ0 τ nb nr nd) : rg_DQ σ0 τ nd nd nb nr ns 0 := rg_DQ_of hR.rf hC (rg_RE_now (ns' := 0) hR hC hC.hnb)
theorem rg_IM_mW {τ : rg_S} {nb nr nd ns : Nat} (h : rg_IM τ nb nr nd ns 0) (f : Nat → Int) : rg_IM (rg_mW τ f nd nb nr ns) nb nr nd ns 0 :=
  ⟨h.hnb, h.hnr, h.hnd, h.hns, h.htr, h.hlo, h.hfl, h.hkd, h.hrf, h.hab, h.hpu, h.hpa, h.hpp, h.hwh, h.hwt, h.hwa, h.hro, h.hsr, h.hsm, rg_kE_Rg h, rg_kA_Rg h, rg_kS_Rg h, rg_w20_Rg h, rg_hd_R2 h.h21 (fun b hb => by have := rg_kG_bd h hb; exact ⟨by omega, by omega⟩), rg_w22_bd h, rg_hd_Rg h.h23 (fun b => by have := rg_kM_bd (σ := τ) (tr := 0) (nd := nd) (nb := nb) (nr := nr) (b := b); have := h.hnr; exact ⟨by omega, by omega⟩), rg_hd_Rg h.h24 (fun b => rg_kC_R h.hnr b), h.h25⟩
theorem rg_kP_Rg {τ : rg_S} {nb nr nd ns : Nat} (h : rg_IM τ nb nr nd ns 0) (h17 : ∀ j, rg_Rg (τ 17 j)) (j : Nat) : rg_Rg (rg_kP τ 0 nd nb nr j) := rg_tab_Rg h17 (fun _ _ => rg_Rg_of (rg_mp_bd h.hpp)) j
theorem rg_Z_mW {σ τ : rg_S} {nb nr nd ns : Nat} (h : rg_Z σ τ nb nr nd ns) {f : Nat → Int} (hs : ∀ j, (j = 1 ∨ j = 4 ∨ j = 11 ∨ j = 16 ∨ j = 17 ∨ j = 20 ∨ j = 33) → f j = τ 0 j) : rg_Z σ (rg_mW τ f nd nb nr ns) nb nr nd ns := by
  refine rg_Z_m h (fun c h1 h2 => ?_) hs (rg_IM_mW h.M f) (rg_kP_Rg h.M h.x17) rfl
  unfold rg_mW
  simp only [rg_wr_ne _ _ (show c ≠ 24 by omega), rg_wr_ne _ _ (show c ≠ 23 by omega), rg_wr_ne _ _ (show c ≠ 22 by omega), rg_wr_ne _ _ (show c ≠ 21 by omega), rg_wr_ne _ _ (show c ≠ 20 by omega), rg_wr_ne _ _ (show c ≠ 19 by omega), rg_wr_ne _ _ (show c ≠ 18 by omega), rg_wr_ne _ _ (show c ≠ 17 by omega), rg_wr_ne _ _ (show c ≠ 16 by omega), rg_wr_ne _ _ (show c ≠ 15 by omega), rg_wr_ne _ _ (show c ≠ 0 by omega)]
