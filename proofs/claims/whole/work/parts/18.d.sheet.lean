/-! The sheets agree. -/
theorem rg_bo_zO {σ0 τ : rg_S} {nb nr nd ns : Nat} (hC : rg_IC σ0 nb nr nd ns) (hM : rg_IM τ nb nr nd ns 0) (hR : rg_R σ0 τ nb nr nd) {k : Nat} (hk : k < nb) : rg_bo (rg_hd (τ 25) nb (fun c => ((rg_rO (rg_kO τ 0 nd nb nr ns) nb c : Nat) : Int))) ((k + 1 : Nat) : Int) nb = rg_zO σ0 nd nb nr ns k := rg_zbo (rk := (rg_hd (τ 25) nb (fun c => ((rg_rO (rg_kO τ 0 nd nb nr ns) nb c : Nat) : Int)))) hR.rf hC hM (rg_Zq hC hR) (fun b hb => rg_hd_at (τ 25) (fun c => ((rg_rO (rg_kO τ 0 nd nb nr ns) nb c : Nat) : Int)) hb) hk
theorem rg_zO_lt {σ0 : rg_S} {nb nr nd ns : Nat} {k : Nat} (hk : k < nb) : 0 ≤ rg_zO σ0 nd nb nr ns k ∧ rg_zO σ0 nd nb nr ns k < nb := rg_OD_lt (rg_zR σ0 nd nb nr ns) (σ0 41) nb k hk
theorem rg_sheet_eq {σ0 τ : rg_S} {nb nr nd ns : Nat} (hC : rg_IC σ0 nb nr nd ns) (hM : rg_IM τ nb nr nd ns 0) (hR : rg_R σ0 τ nb nr nd) : rg_sh (rg_ln (rg_zI σ0 nd nb nr) (rg_zD σ0 nd nb nr ns) (rg_zC σ0 nd nb nr) (rg_zE σ0 nd) (rg_zP σ0 nd) (rg_zG σ0 nd nb nr) (rg_zN σ0 nd nb nr ns) nr) (fun k => Int.toNat ((rg_zO σ0 nd nb nr ns) k)) nb = rg_sh (rg_sL (rg_kS τ 0 nd nb nr) (τ 4) (τ 2) (τ 3) (rg_kT τ 0 nd nb nr) (rg_ctb (τ 20) nr nb (fun _ _ => True) (rg_kD τ 0 nd nb nr ns)) (rg_kE τ 0 nd nb nr) (rg_kP τ 0 nd nb nr) (rg_hd (τ 22) nb (rg_kN τ 0 nd nb nr ns)) (rg_hd (τ 21) nb (rg_kG τ 0 nd nb nr)) nr) (fun k => Int.toNat (rg_bo (rg_hd (τ 25) nb (fun c => ((rg_rO (rg_kO τ 0 nd nb nr ns) nb c : Nat) : Int))) ((k + 1 : Nat) : Int) nb)) nb := by
  have hQ := rg_Zq hC hR
  have hE := rg_RE_now (ns' := 0) hR hC hC.hnb
  have hnb := hC.hnb
  have hok := rg_zE_ok hC
  obtain ⟨q1, q2, q3, q4, q5, q6⟩ := hQ
  refine rg_sh_congr (fun k hk => ⟨?_, ?_⟩)
  · exact congrArg Int.toNat (rg_bo_zO hC hM hR hk).symm
  · have ho := rg_zO_lt (σ0 := σ0) (nr := nr) (nd := nd) (ns := ns) hk
    have hb : Int.toNat (rg_zO σ0 nd nb nr ns k) < nb := by omega
    have q := q6 _ hb
    refine rg_ln_sL (rg_rt_sr (fun r hr => q2 r _ hr hb) (fun r hr hi => ?_) (fun r hr hi => q4 r _ hr hb hi) (fun r hr => ⟨(hok _).1, (hok _).2.1⟩) (fun r hr => (hE r _ hr hb).1) (fun r hr he => ((hE r _ hr hb).2 he).1.2) (fun r hr => (hok _).2.2.2.2.1)) ?_ ?_
    · rw [rg_ctb_at _ _ _ hb (by omega) hr trivial]
      exact q5 r _ hr hb
    · rw [rg_hd_at _ _ hb]; exact q.2.2.1
    · rw [rg_hd_at _ _ hb]; exact q.2.1
theorem rg_sheet_len {σ0 τ : rg_S} {nb nr nd ns : Nat} (hC : rg_IC σ0 nb nr nd ns) (hM : rg_IM τ nb nr nd ns 0) (hR : rg_R σ0 τ nb nr nd) : (rg_sh (rg_sL (rg_kS τ 0 nd nb nr) (τ 4) (τ 2) (τ 3) (rg_kT τ 0 nd nb nr) (rg_ctb (τ 20) nr nb (fun _ _ => True) (rg_kD τ 0 nd nb nr ns)) (rg_kE τ 0 nd nb nr) (rg_kP τ 0 nd nb nr) (rg_hd (τ 22) nb (rg_kN τ 0 nd nb nr ns)) (rg_hd (τ 21) nb (rg_kG τ 0 nd nb nr)) nr) (fun k => Int.toNat (rg_bo (rg_hd (τ 25) nb (fun c => ((rg_rO (rg_kO τ 0 nd nb nr ns) nb c : Nat) : Int))) ((k + 1 : Nat) : Int) nb)) nb).length ≤ 8040 := by
  have hnb := hM.hnb
  refine Nat.le_trans (rg_sh_len (m := 201) (fun k hk => ?_)) (by omega)
  have ho := rg_zO_lt (σ0 := σ0) (nr := nr) (nd := nd) (ns := ns) hk
  have hbo := rg_bo_zO hC hM hR hk
  have hb : Int.toNat (rg_bo (rg_hd (τ 25) nb (fun c => ((rg_rO (rg_kO τ 0 nd nb nr ns) nb c : Nat) : Int))) ((k + 1 : Nat) : Int) nb) < nb := by rw [hbo]; omega
  refine rg_sL_len hM.hnr (by omega) (by omega) (fun r hr => by have := rg_ms2_bd hM hr hb; omega) (fun r hr hl => ?_)
  rw [rg_ctb_at _ _ _ hb (by omega) hr trivial] at hl
  have hg := ((rg_b_ne0 _).mp hl).1.2.1
  have hT := rg_kT_bd hM hr hb
  unfold rg_ms2
  rw [if_neg hg]; omega
theorem rg_wx_i {B B' : Nat → Int} {xs : List Int} {i : Nat} (h : i < xs.length) : rg_wx B 0 xs i = rg_wx B' 0 xs i := by
  unfold rg_wx; rw [if_pos (by omega), if_pos (by omega)]
theorem rg_IM_gen2 {τ : rg_S} {nb nr nd ns : Nat} {f0 f15 f16 f17 f18 f19 f20 f21 f22 f23 f24 f25 f26 : Nat → Int} (h : rg_IM τ nb nr nd ns 0) (hen : ∀ j, rg_Rg (f15 j)) (har : ∀ j, rg_Rg (f16 j)) (hsl : ∀ j, rg_Rg (f18 j)) (hlf : ∀ j, rg_Rg (f20 j)) (h21 : ∀ j, rg_Rg (f21 j)) (h22 : ∀ j, -1000000 ≤ f22 j ∧ f22 j ≤ 1000000) (h23 : ∀ j, rg_Rg (f23 j)) (h24 : ∀ j, rg_Rg (f24 j)) (h25 : ∀ j, rg_Rg (f25 j)) : rg_IM (rg_wr (rg_wr (rg_wr (rg_wr (rg_wr (rg_wr (rg_wr (rg_wr (rg_wr (rg_wr (rg_wr (rg_wr (rg_wr τ 0 f0) 15 f15) 16 f16) 17 f17) 18 f18) 19 f19) 20 f20) 21 f21) 22 f22) 23 f23) 24 f24) 25 f25) 26 f26) nb nr nd ns 0 := ⟨h.hnb, h.hnr, h.hnd, h.hns, h.htr, h.hlo, h.hfl, h.hkd, h.hrf, h.hab, h.hpu, h.hpa, h.hpp, h.hwh, h.hwt, h.hwa, h.hro, h.hsr, h.hsm, hen, har, hsl, hlf, h21, h22, h23, h24, h25⟩
theorem z_sheet {σ τ : rg_S} {nb nr nd ns : Nat} {xs : List Int} (h : rg_Z σ τ nb nr nd ns) (hl : xs.length ≤ 8040) : rg_Z (rg_wr (rg_wr σ 9 (rg_up (σ 9) 1 ((0 + xs.length : Nat) : Int))) 43 (rg_wx (σ 43) 0 xs)) (rg_wr (rg_wr (rg_wr (rg_wr (rg_wr (rg_wr (rg_wr (rg_wr (rg_wr (rg_wr (rg_wr (rg_wr (rg_wr τ 0 (rg_up (rg_rA (rg_kK τ 0 nd nb nr ns) nb (rg_up (τ 0) 0 0) nb) 33 ((0 + xs.length : Nat) : Int))) 15 (rg_kE τ 0 nd nb nr)) 16 (rg_kA τ 0 nd nb nr)) 17 (rg_kP τ 0 nd nb nr)) 18 (rg_kS τ 0 nd nb nr)) 19 (rg_kT τ 0 nd nb nr)) 20 (rg_ctb (τ 20) nr nb (fun _ _ => True) (rg_kD τ 0 nd nb nr ns))) 21 (rg_hd (τ 21) nb (rg_kG τ 0 nd nb nr))) 22 (rg_hd (τ 22) nb (rg_kN τ 0 nd nb nr ns))) 23 (rg_hd (τ 23) nb (rg_kM τ 0 nd nb nr))) 24 (rg_hd (τ 24) nb (rg_kC τ 0 nd nb nr ns))) 25 (rg_hd (τ 25) nb (fun c => ((rg_rO (rg_kO τ 0 nd nb nr ns) nb c : Nat) : Int)))) 26 (rg_wx (τ 26) 0 xs)) nb nr nd ns := by
  exact ⟨h.c12, h.c23, h.c44, h.c52, (rg_rA_ne _ _ _ _ (by decide)).trans h.m1, (rg_rA_ne _ _ _ _ (by decide)).trans h.m4, (rg_rA_ne _ _ _ _ (by decide)).trans h.m11, (rg_rA_ne _ _ _ _ (by decide)).trans h.m17, (rg_rA_ne _ _ _ _ (by decide)).trans h.m16, (rg_rA_ne _ _ _ _ (by decide)).trans h.m20, h.sp, h.st, h.C, rg_IM_gen2 h.M (rg_kE_Rg h.M) (rg_kA_Rg h.M) (rg_kS_Rg h.M) (rg_w20_Rg h.M) (rg_hd_R2 h.M.h21 (fun b hb => by have := rg_kG_bd h.M hb; exact ⟨by omega, by omega⟩)) (rg_hd_bd h.M.h22 (fun j hj => by have := rg_kN_bd h.M hj; exact ⟨by omega, by omega⟩)) (rg_hd_Rg h.M.h23 (fun b9 => by have := rg_kM_bd (σ := τ) (tr := 0) (nd := nd) (nb := nb) (nr := nr) (b := b9); have := h.M.hnr; exact ⟨by omega, by omega⟩)) (rg_hd_Rg h.M.h24 (fun b => rg_kC_R h.M.hnr b)) (rg_hd_Rg h.M.h25 (fun c => rg_rO_Rg h.M.hnb c)), rg_R_m h.R (fun c h1 h2 => by simp only [rg_wr_ne _ _ (show c ≠ 26 by omega), rg_wr_ne _ _ (show c ≠ 25 by omega), rg_wr_ne _ _ (show c ≠ 24 by omega), rg_wr_ne _ _ (show c ≠ 23 by omega), rg_wr_ne _ _ (show c ≠ 22 by omega), rg_wr_ne _ _ (show c ≠ 21 by omega), rg_wr_ne _ _ (show c ≠ 20 by omega), rg_wr_ne _ _ (show c ≠ 19 by omega), rg_wr_ne _ _ (show c ≠ 18 by omega), rg_wr_ne _ _ (show c ≠ 17 by omega), rg_wr_ne _ _ (show c ≠ 16 by omega), rg_wr_ne _ _ (show c ≠ 15 by omega), rg_wr_ne _ _ (show c ≠ 0 by omega)]), h.z, (fun z => by
    obtain ⟨σ0, a, b, c⟩ := h.r z
    exact ⟨σ0, a, rg_R_m b (fun c h1 h2 => by simp only [rg_wr_ne _ _ (show c ≠ 26 by omega), rg_wr_ne _ _ (show c ≠ 25 by omega), rg_wr_ne _ _ (show c ≠ 24 by omega), rg_wr_ne _ _ (show c ≠ 23 by omega), rg_wr_ne _ _ (show c ≠ 22 by omega), rg_wr_ne _ _ (show c ≠ 21 by omega), rg_wr_ne _ _ (show c ≠ 20 by omega), rg_wr_ne _ _ (show c ≠ 19 by omega), rg_wr_ne _ _ (show c ≠ 18 by omega), rg_wr_ne _ _ (show c ≠ 17 by omega), rg_wr_ne _ _ (show c ≠ 16 by omega), rg_wr_ne _ _ (show c ≠ 15 by omega), rg_wr_ne _ _ (show c ≠ 0 by omega)]), c⟩), h.x25, h.x30, h.x35, h.x40, rg_kP_Rg h.M h.x17, ⟨xs.length, hl, (by show ((0 + xs.length : Nat) : Int) = _; rw [Nat.zero_add]), (by show ((0 + xs.length : Nat) : Int) = _; rw [Nat.zero_add]), fun i hi => rg_wx_i hi⟩⟩
theorem z_sheetY (σ : rg_S) (nd nb nr ns : Nat) (X Y : Nat → Int) : (rg_wr (rg_wr (rg_wr (rg_wr (rg_wr (rg_wr (rg_wr (rg_wr (rg_wr (rg_wr (rg_wr (rg_wr (rg_wr (rg_wr (rg_wr (rg_wr (rg_wr (rg_wr (rg_wr (rg_wr (rg_wr σ 0 (rg_up (σ 0) 9 0)) 9 X) 25 (rg_zE σ nd)) 26 (rg_zA σ nd)) 27 (rg_zP σ nd)) 28 (rg_zI σ nd nb nr)) 29 (rg_zT σ nd nb nr)) 30 (rg_zS σ nd nb nr)) 31 (rg_hd (σ 31) nr (rg_SZ (σ 14) (σ 11) nb))) 32 (rg_s32 (σ 32) (rg_zE σ nd) (rg_zA σ nd) nb nr)) 33 (rg_s33 (σ 33) (rg_zE σ nd) (rg_zA σ nd) nb nr)) 34 (rg_zC σ nd nb nr)) 35 (rg_zD σ nd nb nr ns)) 36 (rg_zM σ nd nb nr)) 37 (rg_zK σ nd nb nr ns)) 38 (rg_zG σ nd nb nr)) 39 (rg_zN σ nd nb nr ns)) 40 (rg_rws nb (rg_zR σ nd nb nr ns))) 41 (rg_zO σ nd nb nr ns)) 42 (rg_RK (rg_zO σ nd nb nr ns) (σ 42) nb)) 43 Y) = rg_wr (rg_wr (rg_zW σ nd nb nr ns) 9 X) 43 Y := by
  funext c
  unfold rg_zW
  by_cases h9 : c = 9
  · subst h9; rfl
  simp only [rg_wr, if_neg h9]
