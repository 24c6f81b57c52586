/-! The relation is kept by the calls that write. -/
theorem rg_up_eq {f g : Nat → Int} (h : ∀ j, f j = g j) (k : Nat) (v : Int) (j : Nat) : rg_up f k v j = rg_up g k v j := by unfold rg_up; rw [h j]
theorem rg_cd_n {c : Int} (h1 : 1 ≤ c) : rg_cd c = c := by unfold rg_cd; rw [if_neg (by omega), if_neg (by omega)]
theorem rg_cd_z : rg_cd 0 = 9 := by decide
theorem rg_cd_m : rg_cd (-1) = 0 := by decide
theorem rg_cd_up {f g : Nat → Int} (h : ∀ j, f j = rg_cd (g j)) (k : Nat) {v w : Int} (e : v = rg_cd w) (j : Nat) : rg_up f k v j = rg_cd (rg_up g k w j) := by
  unfold rg_up; split
  · exact e
  · exact h j
theorem rg_pa_up {e f g : Nat → Int} (h : ∀ j, ¬ e j = -1 → f j = g j) (k : Nat) (c v : Int) (j : Nat) (hj : ¬ rg_up e k c j = -1) : rg_up f k v j = rg_up g k v j := by
  unfold rg_up at hj ⊢
  split
  · rfl
  · next z => rw [if_neg z] at hj; exact h j hj
theorem rg_pp_up {e f g : Nat → Int} (h : ∀ j, ¬ e j = -1 → f j = g j) (k : Nat) (v : Int) (j : Nat) (hj : ¬ e j = -1) : rg_up f k v j = rg_up g k v j := by
  unfold rg_up
  split
  · rfl
  · exact h j hj
theorem rg_cl_up {e f g : Nat → Int} (h : ∀ j, ¬ e j = -1 → f j = g j) (k : Nat) (v : Int) (j : Nat) (hj : ¬ rg_up e k (-1) j = -1) : rg_up f k v j = g j := by
  unfold rg_up at hj ⊢
  split
  · next z => rw [if_pos z] at hj; exact absurd rfl hj
  · next z => rw [if_neg z] at hj; exact h j hj
theorem rg_cl_e {e : Nat → Int} {k j : Nat} (h : e j = -1) : rg_up e k (-1) j = -1 := by
  unfold rg_up
  split
  · rfl
  · exact h
theorem z_boat {σ τ : rg_S} {nb nr nd ns : Nat} (h : rg_Z σ τ nb nr nd ns) (hc : rg_cB (σ 1 3) ((nb : Nat) : Int) = 0) : rg_Z (rg_wr (rg_wr σ 0 (rg_up (σ 0) 9 1)) 1 (rg_up (σ 1) 2 (((nb : Nat) : Int) + 1))) (rg_wr τ 0 (rg_up (rg_up (τ 0) 0 0) 1 (((nb : Nat) : Int) + 1))) (nb + 1) nr nd ns := by
  have hq := rg_cB_0 hc
  have h40 := h.C.hnb
  exact ⟨rfl, h.c23, h.c44, h.c52, rfl, h.m4, h.m11, h.m17, h.m16, h.m20, h.sp, Or.inr rfl, ⟨(by omega), h.C.hnr, h.C.hnd, h.C.hns, h.C.hok, h.C.hD, h.C.hro, h.C.hfl, h.C.hlt, h.C.hkd, h.C.hrf, h.C.hab, h.C.hsr, h.C.hsl, h.C.h28, h.C.h330, h.C.h34, h.C.h35, h.C.h39, h.C.h41⟩, ⟨(by omega), h.M.hnr, h.M.hnd, h.M.hns, h.M.htr, h.M.hlo, h.M.hfl, h.M.hkd, h.M.hrf, h.M.hab, h.M.hpu, h.M.hpa, h.M.hpp, h.M.hwh, h.M.hwt, h.M.hwa, h.M.hro, h.M.hsr, h.M.hsm, h.M.hen, h.M.har, h.M.hsl, h.M.hlf, h.M.h21, h.M.h22, h.M.h23, h.M.h24, h.M.h25⟩, ⟨h.R.hfl, h.R.hlt, h.R.hkd, h.R.hrf, h.R.hab, h.R.hsr, h.R.hsl, h.R.hpu, h.R.hpa, h.R.hpp, h.R.hde, h.R.hrz, (fun r b hr _ _ => Or.inl (h.R.hsp hq.1 r hr)), (fun d hd => (h.R.hid d hd).imp (fun r q => q.imp (fun b q => ⟨⟨q.1.1, by omega⟩, q.2⟩))), h.R.hsp⟩, h.z, fun z => absurd (show (1 : Int) = 0 from z) (by decide), h.x25, h.x30, h.x35, h.x40, h.x17, h.s⟩
theorem z_race {σ τ : rg_S} {nb nr nd ns : Nat} {k f : Int} (h : rg_Z σ τ nb nr nd ns) (hc : rg_cR (σ 1 3) ((nr : Nat) : Int) k f = 0) : rg_Z (rg_wr (rg_wr (rg_wr (rg_wr σ 0 (rg_up (σ 0) 9 1)) 2 (rg_up (σ 2) 3 (((nr : Nat) : Int) + 1))) 13 (rg_up (σ 13) nr k)) 14 (rg_up (σ 14) nr f)) (rg_wr (rg_wr (rg_wr τ 0 (rg_up (rg_up (τ 0) 0 0) 4 (((nr : Nat) : Int) + 1))) 3 (rg_up (τ 3) nr k)) 4 (rg_up (τ 4) nr f)) nb (nr + 1) nd ns := by
  have hq := rg_cR_0 hc
  have h16 := h.C.hnr
  exact ⟨h.c12, rfl, h.c44, h.c52, h.m1, rfl, h.m11, h.m17, h.m16, h.m20, h.sp, Or.inr rfl, ⟨h.C.hnb, (by omega), h.C.hnd, h.C.hns, h.C.hok, h.C.hD, h.C.hro, h.C.hfl, h.C.hlt, (rg_up_al2 (P := fun z => 0 ≤ z ∧ z ≤ 2) h.C.hkd hq.1.1.1), (rg_up_al2 (P := fun z => 0 ≤ z ∧ z ≤ 3) h.C.hrf hq.1.1.2), h.C.hab, h.C.hsr, h.C.hsl, h.C.h28, h.C.h330, h.C.h34, h.C.h35, h.C.h39, h.C.h41⟩, ⟨h.M.hnb, (by omega), h.M.hnd, h.M.hns, h.M.htr, h.M.hlo, h.M.hfl, (rg_up_al2 (P := fun z => 0 ≤ z ∧ z ≤ 2) h.M.hkd hq.1.1.1), (rg_up_al2 (P := fun z => 0 ≤ z ∧ z ≤ 3) h.M.hrf hq.1.1.2), h.M.hab, h.M.hpu, h.M.hpa, h.M.hpp, h.M.hwh, h.M.hwt, h.M.hwa, h.M.hro, h.M.hsr, h.M.hsm, h.M.hen, h.M.har, h.M.hsl, h.M.hlf, h.M.h21, h.M.h22, h.M.h23, h.M.h24, h.M.h25⟩, ⟨h.R.hfl, h.R.hlt, (rg_up_eq h.R.hkd _ _), (rg_up_eq h.R.hrf _ _), h.R.hab, h.R.hsr, h.R.hsl, h.R.hpu, h.R.hpa, h.R.hpp, h.R.hde, h.R.hrz, (fun r b hr hb he => by
    by_cases z : r = nr
    · exact absurd (h.z (r * 40 + b) (by omega)) he
    · have q := h.R.his r b (by omega) hb he
      show rg_up (σ 14) nr f r = 0 ∨ rg_up (σ 14) nr f r = σ 11 b
      rw [rg_up_ne _ _ z]; exact q), (fun d hd => by
    obtain ⟨r, b, ⟨q1, q2⟩, q3, q4⟩ := h.R.hid d hd
    refine ⟨r, b, ⟨by omega, q2⟩, q3, ?_⟩
    show rg_up (σ 14) nr f r = 0 ∨ rg_up (σ 14) nr f r = σ 11 b
    rw [rg_up_ne _ _ (by omega)]; exact q4), (fun z r hr => by
    by_cases y : r = nr
    · show rg_up (σ 14) nr f r = 0
      rw [y, rg_up_same]
      have z9 : σ 1 3 = 0 := z
      omega
    · show rg_up (σ 14) nr f r = 0
      rw [rg_up_ne _ _ y]; exact h.R.hsp z r (by omega))⟩, (fun j hj => h.z j (by omega)), fun z => absurd (show (1 : Int) = 0 from z) (by decide), h.x25, h.x30, h.x35, h.x40, h.x17, h.s⟩
theorem z_abandon {σ τ : rg_S} {nb nr nd ns : Nat} {r on : Int} (h : rg_Z σ τ nb nr nd ns) (hon : on = 0 ∨ on = 1) : rg_Z (rg_wr (rg_wr σ 0 (rg_up (σ 0) 9 1)) 15 (rg_up (σ 15) (Int.toNat r) on)) (rg_wr (rg_wr τ 0 (rg_up (τ 0) 0 0)) 5 (rg_up (τ 5) (Int.toNat r) on)) nb nr nd ns := by
  exact ⟨h.c12, h.c23, h.c44, h.c52, h.m1, h.m4, h.m11, h.m17, h.m16, h.m20, h.sp, Or.inr rfl, ⟨h.C.hnb, h.C.hnr, h.C.hnd, h.C.hns, h.C.hok, h.C.hD, h.C.hro, h.C.hfl, h.C.hlt, h.C.hkd, h.C.hrf, (rg_up_al2 (P := fun z => z = 0 ∨ z = 1) h.C.hab hon), h.C.hsr, h.C.hsl, h.C.h28, h.C.h330, h.C.h34, h.C.h35, h.C.h39, h.C.h41⟩, ⟨h.M.hnb, h.M.hnr, h.M.hnd, h.M.hns, h.M.htr, h.M.hlo, h.M.hfl, h.M.hkd, h.M.hrf, (rg_up_al2 (P := fun z => z = 0 ∨ z = 1) h.M.hab hon), h.M.hpu, h.M.hpa, h.M.hpp, h.M.hwh, h.M.hwt, h.M.hwa, h.M.hro, h.M.hsr, h.M.hsm, h.M.hen, h.M.har, h.M.hsl, h.M.hlf, h.M.h21, h.M.h22, h.M.h23, h.M.h24, h.M.h25⟩, ⟨h.R.hfl, h.R.hlt, h.R.hkd, h.R.hrf, (rg_up_eq h.R.hab _ _), h.R.hsr, h.R.hsl, h.R.hpu, h.R.hpa, h.R.hpp, h.R.hde, h.R.hrz, h.R.his, h.R.hid, h.R.hsp⟩, h.z, fun z => absurd (show (1 : Int) = 0 from z) (by decide), h.x25, h.x30, h.x35, h.x40, h.x17, h.s⟩
theorem z_finish {σ τ : rg_S} {nb nr nd ns : Nat} {r b p : Int} (hc : rg_wg (σ 14) (σ 11) ((nb : Nat) : Int) ((nr : Nat) : Int) r b 0 p = 0) (h : rg_Z σ τ nb nr nd ns)  : rg_Z (rg_wr (rg_wr (rg_wr (rg_wr σ 0 (rg_up (σ 0) 9 1)) 16 (rg_up (σ 16) (Int.toNat r * 40 + Int.toNat b) 0)) 17 (rg_up (σ 17) (Int.toNat r * 40 + Int.toNat b) p)) 18 (rg_up (σ 18) (Int.toNat r * 40 + Int.toNat b) 0)) (rg_wr (rg_wr (rg_wr (rg_wr τ 0 (rg_up (τ 0) 0 0)) 6 (rg_up (τ 6) (Int.toNat r * 40 + Int.toNat b) 9)) 7 (rg_up (τ 7) (Int.toNat r * 40 + Int.toNat b) p)) 8 (rg_up (τ 8) (Int.toNat r * 40 + Int.toNat b) 0)) nb nr nd ns := by
  have hq := rg_wg_0 hc
  have hnb := h.C.hnb
  have hnr := h.C.hnr
  exact ⟨h.c12, h.c23, h.c44, h.c52, h.m1, h.m4, h.m11, h.m17, h.m16, h.m20, h.sp, Or.inr rfl, ⟨h.C.hnb, h.C.hnr, h.C.hnd, h.C.hns, (rg_okE_up h.C.hok _ ⟨by omega, by omega⟩ ⟨by omega, by omega⟩ (by omega)), h.C.hD, h.C.hro, h.C.hfl, h.C.hlt, h.C.hkd, h.C.hrf, h.C.hab, h.C.hsr, h.C.hsl, h.C.h28, h.C.h330, h.C.h34, h.C.h35, h.C.h39, h.C.h41⟩, ⟨h.M.hnb, h.M.hnr, h.M.hnd, h.M.hns, h.M.htr, h.M.hlo, h.M.hfl, h.M.hkd, h.M.hrf, h.M.hab, (rg_up_al2 (P := fun z => 0 ≤ z ∧ z ≤ 9) h.M.hpu (by omega)), (rg_up_al2 (P := fun z => 0 ≤ z ∧ z ≤ 9999) h.M.hpa (by omega)), (rg_up_al2 (P := fun z => 0 ≤ z ∧ z ≤ 100) h.M.hpp (by omega)), h.M.hwh, h.M.hwt, h.M.hwa, h.M.hro, h.M.hsr, h.M.hsm, h.M.hen, h.M.har, h.M.hsl, h.M.hlf, h.M.h21, h.M.h22, h.M.h23, h.M.h24, h.M.h25⟩, ⟨h.R.hfl, h.R.hlt, h.R.hkd, h.R.hrf, h.R.hab, h.R.hsr, h.R.hsl, (rg_cd_up h.R.hpu _ rg_cd_z.symm), (fun j hj => rg_pa_up h.R.hpa _ 0 p j hj), (fun j hj => rg_pa_up h.R.hpp _ 0 0 j hj), h.R.hde, h.R.hrz, (fun r9 b9 hr9 hb9 he => by
    by_cases z : r9 * 40 + b9 = Int.toNat r * 40 + Int.toNat b
    · have e1 : r9 = Int.toNat r := by omega
      have e2 : b9 = Int.toNat b := by omega
      rw [e1, e2]; exact hq.1.2
    · exact h.R.his r9 b9 hr9 hb9 (fun y => he ((rg_up_ne _ _ z).trans y))), h.R.hid, h.R.hsp⟩, (fun j hj => (rg_up_ne _ _ (by omega)).trans (h.z j hj)), fun z => absurd (show (1 : Int) = 0 from z) (by decide), h.x25, h.x30, h.x35, h.x40, h.x17, h.s⟩
theorem z_code {σ τ : rg_S} {nb nr nd ns : Nat} {r b c x : Int} (hc : rg_cC (σ 14) (σ 11) ((nb : Nat) : Int) ((nr : Nat) : Int) r b c x = 0) (h : rg_Z σ τ nb nr nd ns)  : rg_Z (rg_wr (rg_wr (rg_wr (rg_wr σ 0 (rg_up (σ 0) 9 1)) 16 (rg_up (σ 16) (Int.toNat r * 40 + Int.toNat b) c)) 17 (rg_up (σ 17) (Int.toNat r * 40 + Int.toNat b) x)) 18 (rg_up (σ 18) (Int.toNat r * 40 + Int.toNat b) 0)) (rg_wr (rg_wr (rg_wr (rg_wr τ 0 (rg_up (τ 0) 0 0)) 6 (rg_up (τ 6) (Int.toNat r * 40 + Int.toNat b) c)) 7 (rg_up (τ 7) (Int.toNat r * 40 + Int.toNat b) x)) 8 (rg_up (τ 8) (Int.toNat r * 40 + Int.toNat b) 0)) nb nr nd ns := by
  have hq := (rg_cC_0 hc).1
  have hq2 := (rg_cC_0 hc).2
  have hnb := h.C.hnb
  have hnr := h.C.hnr
  exact ⟨h.c12, h.c23, h.c44, h.c52, h.m1, h.m4, h.m11, h.m17, h.m16, h.m20, h.sp, Or.inr rfl, ⟨h.C.hnb, h.C.hnr, h.C.hnd, h.C.hns, (rg_okE_up h.C.hok _ ⟨by omega, by omega⟩ ⟨by omega, by omega⟩ (by omega)), h.C.hD, h.C.hro, h.C.hfl, h.C.hlt, h.C.hkd, h.C.hrf, h.C.hab, h.C.hsr, h.C.hsl, h.C.h28, h.C.h330, h.C.h34, h.C.h35, h.C.h39, h.C.h41⟩, ⟨h.M.hnb, h.M.hnr, h.M.hnd, h.M.hns, h.M.htr, h.M.hlo, h.M.hfl, h.M.hkd, h.M.hrf, h.M.hab, (rg_up_al2 (P := fun z => 0 ≤ z ∧ z ≤ 9) h.M.hpu (by omega)), (rg_up_al2 (P := fun z => 0 ≤ z ∧ z ≤ 9999) h.M.hpa (by omega)), (rg_up_al2 (P := fun z => 0 ≤ z ∧ z ≤ 100) h.M.hpp (by omega)), h.M.hwh, h.M.hwt, h.M.hwa, h.M.hro, h.M.hsr, h.M.hsm, h.M.hen, h.M.har, h.M.hsl, h.M.hlf, h.M.h21, h.M.h22, h.M.h23, h.M.h24, h.M.h25⟩, ⟨h.R.hfl, h.R.hlt, h.R.hkd, h.R.hrf, h.R.hab, h.R.hsr, h.R.hsl, (rg_cd_up h.R.hpu _ (rg_cd_n (by omega)).symm), (fun j hj => rg_pa_up h.R.hpa _ c x j hj), (fun j hj => rg_pa_up h.R.hpp _ c 0 j hj), h.R.hde, h.R.hrz, (fun r9 b9 hr9 hb9 he => by
    by_cases z : r9 * 40 + b9 = Int.toNat r * 40 + Int.toNat b
    · have e1 : r9 = Int.toNat r := by omega
      have e2 : b9 = Int.toNat b := by omega
      rw [e1, e2]; exact hq.1.2
    · exact h.R.his r9 b9 hr9 hb9 (fun y => he ((rg_up_ne _ _ z).trans y))), h.R.hid, h.R.hsp⟩, (fun j hj => (rg_up_ne _ _ (by omega)).trans (h.z j hj)), fun z => absurd (show (1 : Int) = 0 from z) (by decide), h.x25, h.x30, h.x35, h.x40, h.x17, h.s⟩
theorem z_penalty {σ τ : rg_S} {nb nr nd ns : Nat} {r b p : Int} (h : rg_Z σ τ nb nr nd ns) (hp : 0 ≤ p ∧ p ≤ 100) : rg_Z (rg_wr (rg_wr σ 0 (rg_up (σ 0) 9 1)) 18 (rg_up (σ 18) (Int.toNat r * 40 + Int.toNat b) p)) (rg_wr (rg_wr τ 0 (rg_up (τ 0) 0 0)) 8 (rg_up (τ 8) (Int.toNat r * 40 + Int.toNat b) p)) nb nr nd ns := by
  exact ⟨h.c12, h.c23, h.c44, h.c52, h.m1, h.m4, h.m11, h.m17, h.m16, h.m20, h.sp, Or.inr rfl, ⟨h.C.hnb, h.C.hnr, h.C.hnd, h.C.hns, (fun j => by
    have q := h.C.hok j
    show _ ∧ _ ∧ _ ∧ _ ∧ 0 ≤ rg_up (σ 18) (Int.toNat r * 40 + Int.toNat b) p j ∧ rg_up (σ 18) (Int.toNat r * 40 + Int.toNat b) p j ≤ 100 ∧ _
    have q2 : 0 ≤ rg_up (σ 18) (Int.toNat r * 40 + Int.toNat b) p j ∧ rg_up (σ 18) (Int.toNat r * 40 + Int.toNat b) p j ≤ 100 := by
      unfold rg_up; split <;> omega
    exact ⟨q.1, q.2.1, q.2.2.1, q.2.2.2.1, q2.1, q2.2, q.2.2.2.2.2.2⟩), h.C.hD, h.C.hro, h.C.hfl, h.C.hlt, h.C.hkd, h.C.hrf, h.C.hab, h.C.hsr, h.C.hsl, h.C.h28, h.C.h330, h.C.h34, h.C.h35, h.C.h39, h.C.h41⟩, ⟨h.M.hnb, h.M.hnr, h.M.hnd, h.M.hns, h.M.htr, h.M.hlo, h.M.hfl, h.M.hkd, h.M.hrf, h.M.hab, h.M.hpu, h.M.hpa, (rg_up_al2 (P := fun z => 0 ≤ z ∧ z ≤ 100) h.M.hpp hp), h.M.hwh, h.M.hwt, h.M.hwa, h.M.hro, h.M.hsr, h.M.hsm, h.M.hen, h.M.har, h.M.hsl, h.M.hlf, h.M.h21, h.M.h22, h.M.h23, h.M.h24, h.M.h25⟩, ⟨h.R.hfl, h.R.hlt, h.R.hkd, h.R.hrf, h.R.hab, h.R.hsr, h.R.hsl, h.R.hpu, h.R.hpa, (fun j hj => rg_pp_up h.R.hpp _ _ j hj), h.R.hde, h.R.hrz, h.R.his, h.R.hid, h.R.hsp⟩, h.z, fun z => absurd (show (1 : Int) = 0 from z) (by decide), h.x25, h.x30, h.x35, h.x40, h.x17, h.s⟩
theorem z_clear {σ τ : rg_S} {nb nr nd ns : Nat} {r b : Int} (h : rg_Z σ τ nb nr nd ns) (hth : rg_th ((nb : Nat) : Int) ((nr : Nat) : Int) r b) : rg_Z (rg_wr (rg_wr σ 0 (rg_up (σ 0) 9 1)) 16 (rg_up (σ 16) (Int.toNat r * 40 + Int.toNat b) (-1))) (rg_wr (rg_wr (rg_wr (rg_wr τ 0 (rg_up (τ 0) 0 0)) 6 (rg_up (τ 6) (Int.toNat r * 40 + Int.toNat b) 0)) 7 (rg_up (τ 7) (Int.toNat r * 40 + Int.toNat b) 0)) 8 (rg_up (τ 8) (Int.toNat r * 40 + Int.toNat b) 0)) nb nr nd ns := by
  have hnb := h.C.hnb
  have hnr := h.C.hnr
  exact ⟨h.c12, h.c23, h.c44, h.c52, h.m1, h.m4, h.m11, h.m17, h.m16, h.m20, h.sp, Or.inr rfl, ⟨h.C.hnb, h.C.hnr, h.C.hnd, h.C.hns, (fun j => by
    have q := h.C.hok j
    have q2 : rg_up (σ 16) (Int.toNat r * 40 + Int.toNat b) (-1) j = -1 ∨ rg_up (σ 16) (Int.toNat r * 40 + Int.toNat b) (-1) j = σ 16 j := by
      unfold rg_up; split
      · exact Or.inl rfl
      · exact Or.inr rfl
    show -1 ≤ rg_up (σ 16) (Int.toNat r * 40 + Int.toNat b) (-1) j ∧ rg_up (σ 16) (Int.toNat r * 40 + Int.toNat b) (-1) j ≤ 8 ∧ 0 ≤ σ 17 j ∧ σ 17 j ≤ 9999 ∧ 0 ≤ σ 18 j ∧ σ 18 j ≤ 100 ∧ (rg_up (σ 16) (Int.toNat r * 40 + Int.toNat b) (-1) j = 0 → 1 ≤ σ 17 j ∧ σ 17 j ≤ 99)
    rcases q2 with e | e <;> rw [e] <;> omega), h.C.hD, h.C.hro, h.C.hfl, h.C.hlt, h.C.hkd, h.C.hrf, h.C.hab, h.C.hsr, h.C.hsl, h.C.h28, h.C.h330, h.C.h34, h.C.h35, h.C.h39, h.C.h41⟩, ⟨h.M.hnb, h.M.hnr, h.M.hnd, h.M.hns, h.M.htr, h.M.hlo, h.M.hfl, h.M.hkd, h.M.hrf, h.M.hab, (rg_up_al2 (P := fun z => 0 ≤ z ∧ z ≤ 9) h.M.hpu (by omega)), (rg_up_al2 (P := fun z => 0 ≤ z ∧ z ≤ 9999) h.M.hpa (by omega)), (rg_up_al2 (P := fun z => 0 ≤ z ∧ z ≤ 100) h.M.hpp (by omega)), h.M.hwh, h.M.hwt, h.M.hwa, h.M.hro, h.M.hsr, h.M.hsm, h.M.hen, h.M.har, h.M.hsl, h.M.hlf, h.M.h21, h.M.h22, h.M.h23, h.M.h24, h.M.h25⟩, ⟨h.R.hfl, h.R.hlt, h.R.hkd, h.R.hrf, h.R.hab, h.R.hsr, h.R.hsl, (rg_cd_up h.R.hpu _ rg_cd_m.symm), (fun j hj => rg_cl_up h.R.hpa _ _ j hj), (fun j hj => rg_cl_up h.R.hpp _ _ j hj), h.R.hde, h.R.hrz, (fun r9 b9 hr9 hb9 he => h.R.his r9 b9 hr9 hb9 (fun z => he (rg_cl_e z))), h.R.hid, h.R.hsp⟩, (fun j hj => rg_cl_e (h.z j hj)), fun z => absurd (show (1 : Int) = 0 from z) (by decide), h.x25, h.x30, h.x35, h.x40, h.x17, h.s⟩
theorem z_protest {σ τ : rg_S} {nb nr nd ns : Nat} {r b c x : Int} (h : rg_Z σ τ nb nr nd ns) (hc : rg_wg (σ 14) (σ 11) ((nb : Nat) : Int) ((nr : Nat) : Int) r b c x = 0) (hnd : nd < 40) : rg_Z (rg_wr (rg_wr (rg_wr (rg_wr (rg_wr σ 0 (rg_up (σ 0) 9 1)) 4 (rg_up (σ 4) 4 (((nd : Nat) : Int) + 1))) 19 (rg_up (σ 19) nd (((Int.toNat r * 40 + Int.toNat b) : Nat) : Int))) 20 (rg_up (σ 20) nd c)) 21 (rg_up (σ 21) nd x)) (rg_wr (rg_wr (rg_wr (rg_wr (rg_wr τ 0 (rg_up (rg_up (τ 0) 0 0) 11 (((nd : Nat) : Int) + 1))) 9 (rg_up (τ 9) nd (((Int.toNat r * 40 + Int.toNat b) : Nat) : Int))) 10 (rg_up (τ 10) nd c)) 11 (rg_up (τ 11) nd x)) 12 (rg_up (τ 12) nd 0)) nb nr (nd + 1) ns := by
  have hq := rg_wg_0 hc
  have hnb := h.C.hnb
  have hnr := h.C.hnr
  exact ⟨h.c12, h.c23, rfl, h.c52, h.m1, h.m4, rfl, h.m17, h.m16, h.m20, h.sp, Or.inr rfl, ⟨h.C.hnb, h.C.hnr, (by omega), h.C.hns, h.C.hok, (rg_okD_s h.C.hD ⟨by omega, by omega⟩ hq.2), h.C.hro, h.C.hfl, h.C.hlt, h.C.hkd, h.C.hrf, h.C.hab, h.C.hsr, h.C.hsl, h.C.h28, h.C.h330, h.C.h34, h.C.h35, h.C.h39, h.C.h41⟩, ⟨h.M.hnb, h.M.hnr, (by omega), h.M.hns, h.M.htr, h.M.hlo, h.M.hfl, h.M.hkd, h.M.hrf, h.M.hab, h.M.hpu, h.M.hpa, h.M.hpp, (rg_up_al2 (P := fun z => 0 ≤ z ∧ z ≤ 639) h.M.hwh ⟨by omega, by omega⟩), (rg_up_al2 (P := fun z => 0 ≤ z ∧ z ≤ 9) h.M.hwt ⟨by omega, by omega⟩), (rg_up_al2 (P := fun z => 0 ≤ z ∧ z ≤ 9999) h.M.hwa ⟨by omega, by omega⟩), (rg_up_al2 (P := fun z => z = 0 ∨ z = 1) h.M.hro (Or.inl rfl)), h.M.hsr, h.M.hsm, h.M.hen, h.M.har, h.M.hsl, h.M.hlf, h.M.h21, h.M.h22, h.M.h23, h.M.h24, h.M.h25⟩, ⟨h.R.hfl, h.R.hlt, h.R.hkd, h.R.hrf, h.R.hab, h.R.hsr, h.R.hsl, h.R.hpu, h.R.hpa, h.R.hpp, (fun d hd => by
    by_cases z : d = nd
    · rw [z]; exact ⟨(rg_up_same _ _ _).trans (rg_up_same _ _ _).symm, (rg_up_same _ _ _).trans (rg_up_same _ _ _).symm, (rg_up_same _ _ _).trans (rg_up_same _ _ _).symm, (rg_up_same _ _ _).trans (h.R.hrz nd (Nat.le_refl _)).symm⟩
    · have q := h.R.hde d (by omega)
      exact ⟨(rg_up_ne _ _ z).trans (q.1.trans (rg_up_ne _ _ z).symm), (rg_up_ne _ _ z).trans (q.2.1.trans (rg_up_ne _ _ z).symm), (rg_up_ne _ _ z).trans (q.2.2.1.trans (rg_up_ne _ _ z).symm), (rg_up_ne _ _ z).trans q.2.2.2⟩), (fun d hd => h.R.hrz d (by omega)), h.R.his, (fun d hd => by
    by_cases z : d = nd
    · exact ⟨Int.toNat r, Int.toNat b, ⟨by omega, by omega⟩, by rw [z]; exact rg_up_same _ _ _, hq.1.2⟩
    · obtain ⟨r9, b9, q1, q2, q3⟩ := h.R.hid d (by omega)
      exact ⟨r9, b9, q1, (rg_up_ne _ _ z).trans q2, q3⟩), h.R.hsp⟩, h.z, fun z => absurd (show (1 : Int) = 0 from z) (by decide), h.x25, h.x30, h.x35, h.x40, h.x17, h.s⟩
theorem z_reopen {σ τ : rg_S} {nb nr nd ns : Nat} {d : Int} (h : rg_Z σ τ nb nr nd ns) (hc : rg_cO (τ 12) ((nd : Nat) : Int) d = 0) : rg_Z (rg_wr (rg_wr σ 0 (rg_up (σ 0) 9 1)) 22 (rg_up (σ 22) (Int.toNat d) 1)) (rg_wr (rg_wr τ 0 (rg_up (τ 0) 0 0)) 12 (rg_up (τ 12) (Int.toNat d) 1)) nb nr nd ns := by
  have hq := rg_cO_0 hc
  exact ⟨h.c12, h.c23, h.c44, h.c52, h.m1, h.m4, h.m11, h.m17, h.m16, h.m20, h.sp, Or.inr rfl, ⟨h.C.hnb, h.C.hnr, h.C.hnd, h.C.hns, h.C.hok, h.C.hD, (rg_up_al2 (P := fun z => z = 0 ∨ z = 1) h.C.hro (Or.inr rfl)), h.C.hfl, h.C.hlt, h.C.hkd, h.C.hrf, h.C.hab, h.C.hsr, h.C.hsl, h.C.h28, h.C.h330, h.C.h34, h.C.h35, h.C.h39, h.C.h41⟩, ⟨h.M.hnb, h.M.hnr, h.M.hnd, h.M.hns, h.M.htr, h.M.hlo, h.M.hfl, h.M.hkd, h.M.hrf, h.M.hab, h.M.hpu, h.M.hpa, h.M.hpp, h.M.hwh, h.M.hwt, h.M.hwa, (rg_up_al2 (P := fun z => z = 0 ∨ z = 1) h.M.hro (Or.inr rfl)), h.M.hsr, h.M.hsm, h.M.hen, h.M.har, h.M.hsl, h.M.hlf, h.M.h21, h.M.h22, h.M.h23, h.M.h24, h.M.h25⟩, ⟨h.R.hfl, h.R.hlt, h.R.hkd, h.R.hrf, h.R.hab, h.R.hsr, h.R.hsl, h.R.hpu, h.R.hpa, h.R.hpp, (fun e he => by
    have q := h.R.hde e he
    refine ⟨q.1, q.2.1, q.2.2.1, ?_⟩
    show rg_up (τ 12) (Int.toNat d) 1 e = rg_up (σ 22) (Int.toNat d) 1 e
    unfold rg_up; rw [q.2.2.2]), (fun e he => (rg_up_ne _ _ (by omega)).trans (h.R.hrz e he)), h.R.his, h.R.hid, h.R.hsp⟩, h.z, fun z => absurd (show (1 : Int) = 0 from z) (by decide), h.x25, h.x30, h.x35, h.x40, h.x17, h.s⟩
theorem z_discards {σ τ : rg_S} {nb nr nd ns : Nat} {m n : Int} (h : rg_Z σ τ nb nr nd ns) (hc : rg_cD (τ 13) (τ 14) ns m n = 0) : rg_Z (rg_wr (rg_wr (rg_wr (rg_wr σ 0 (rg_up (σ 0) 9 1)) 5 (rg_up (σ 5) 2 ((ns + 1 : Nat) : Int))) 23 (rg_up (σ 23) ns m)) 24 (rg_up (σ 24) ns n)) (rg_wr (rg_wr (rg_wr τ 0 (rg_up (rg_up (τ 0) 0 0) 17 (((ns : Nat) : Int) + 1))) 13 (rg_up (τ 13) ns m)) 14 (rg_up (τ 14) ns n)) nb nr nd (ns + 1) := by
  have hq := rg_cD_0 hc
  have h6 := h.C.hns
  exact ⟨h.c12, h.c23, h.c44, rfl, h.m1, h.m4, h.m11, rfl, h.m16, h.m20, h.sp, Or.inr rfl, ⟨h.C.hnb, h.C.hnr, h.C.hnd, (by omega), h.C.hok, h.C.hD, h.C.hro, h.C.hfl, h.C.hlt, h.C.hkd, h.C.hrf, h.C.hab, (rg_up_al2 (P := fun z => 0 ≤ z ∧ z ≤ 16) h.C.hsr ⟨by omega, by omega⟩), (rg_up_al2 (P := fun z => 0 ≤ z ∧ z ≤ 15) h.C.hsl ⟨by omega, by omega⟩), h.C.h28, h.C.h330, h.C.h34, h.C.h35, h.C.h39, h.C.h41⟩, ⟨h.M.hnb, h.M.hnr, h.M.hnd, (by omega), h.M.htr, h.M.hlo, h.M.hfl, h.M.hkd, h.M.hrf, h.M.hab, h.M.hpu, h.M.hpa, h.M.hpp, h.M.hwh, h.M.hwt, h.M.hwa, h.M.hro, (rg_up_al2 (P := fun z => 0 ≤ z ∧ z ≤ 16) h.M.hsr ⟨by omega, by omega⟩), (rg_up_al2 (P := fun z => 0 ≤ z ∧ z ≤ 15) h.M.hsm ⟨by omega, by omega⟩), h.M.hen, h.M.har, h.M.hsl, h.M.hlf, h.M.h21, h.M.h22, h.M.h23, h.M.h24, h.M.h25⟩, ⟨h.R.hfl, h.R.hlt, h.R.hkd, h.R.hrf, h.R.hab, (rg_up_eq h.R.hsr _ _), (rg_up_eq h.R.hsl _ _), h.R.hpu, h.R.hpa, h.R.hpp, h.R.hde, h.R.hrz, h.R.his, h.R.hid, h.R.hsp⟩, h.z, fun z => absurd (show (1 : Int) = 0 from z) (by decide), h.x25, h.x30, h.x35, h.x40, h.x17, h.s⟩
theorem z_lot {σ τ : rg_S} {nb nr nd ns : Nat} {b x : Int} (h : rg_Z σ τ nb nr nd ns) (hx : 0 ≤ x ∧ x ≤ 999) : rg_Z (rg_wr (rg_wr σ 0 (rg_up (σ 0) 9 1)) 12 (rg_up (σ 12) (Int.toNat b) x)) (rg_wr (rg_wr τ 0 (rg_up (τ 0) 0 0)) 1 (rg_up (τ 1) (Int.toNat b) x)) nb nr nd ns := by
  exact ⟨h.c12, h.c23, h.c44, h.c52, h.m1, h.m4, h.m11, h.m17, h.m16, h.m20, h.sp, Or.inr rfl, ⟨h.C.hnb, h.C.hnr, h.C.hnd, h.C.hns, h.C.hok, h.C.hD, h.C.hro, h.C.hfl, (rg_up_al2 (P := fun z => 0 ≤ z ∧ z ≤ 999) h.C.hlt hx), h.C.hkd, h.C.hrf, h.C.hab, h.C.hsr, h.C.hsl, h.C.h28, h.C.h330, h.C.h34, h.C.h35, h.C.h39, h.C.h41⟩, ⟨h.M.hnb, h.M.hnr, h.M.hnd, h.M.hns, h.M.htr, (rg_up_al2 (P := fun z => 0 ≤ z ∧ z ≤ 999) h.M.hlo hx), h.M.hfl, h.M.hkd, h.M.hrf, h.M.hab, h.M.hpu, h.M.hpa, h.M.hpp, h.M.hwh, h.M.hwt, h.M.hwa, h.M.hro, h.M.hsr, h.M.hsm, h.M.hen, h.M.har, h.M.hsl, h.M.hlf, h.M.h21, h.M.h22, h.M.h23, h.M.h24, h.M.h25⟩, ⟨h.R.hfl, (rg_up_eq h.R.hlt _ _), h.R.hkd, h.R.hrf, h.R.hab, h.R.hsr, h.R.hsl, h.R.hpu, h.R.hpa, h.R.hpp, h.R.hde, h.R.hrz, h.R.his, h.R.hid, h.R.hsp⟩, h.z, fun z => absurd (show (1 : Int) = 0 from z) (by decide), h.x25, h.x30, h.x35, h.x40, h.x17, h.s⟩
