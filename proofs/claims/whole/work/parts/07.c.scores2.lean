/-! The score table as a whole. -/
theorem rg_ctb_Rg {f : Nat → Int} {n b : Nat} {p : Nat → Nat → Prop} {g : Nat → Nat → Int} (h1 : ∀ j, rg_Rg (f j)) (h2 : ∀ o c, o < n → c < b → p o c → rg_Rg (g o c)) (j : Nat) : rg_Rg (rg_ctb f n b p g j) := by
  unfold rg_ctb
  rcases Classical.em (j % 40 < b ∧ j / 40 < n ∧ p (j / 40) (j % 40)) with z | z
  · rw [rg_ite_t z]; exact h2 _ _ z.2.1 z.1 z.2.2
  · rw [rg_ite_f z]; exact h1 _
abbrev rg_px (ins : Nat → Int) (o c : Nat) : Prop := ¬ ins (o * 40 + c) = 0
def rg_Sx (pt kd : Nat → Int) (o c : Nat) : Int := pt (o * 40 + c) * rg_k2 (kd o)
noncomputable def rg_Mx (ins : Nat → Int) (nr c : Nat) : Int := ((rg_cnt (fun o => rg_px ins o c) nr : Nat) : Int)
noncomputable def rg_Gx (ins pt kd : Nat → Int) (nr c : Nat) : Int := rg_sum (fun o => rg_ite (rg_px ins o c) (rg_Sx pt kd o c) 0) nr
noncomputable def rg_Ax (ins sr sl : Nat → Int) (ns nr c : Nat) : Nat := Int.toNat (rg_al sr sl (rg_Mx ins nr c) ns)
noncomputable def rg_Dx (ins pt kd en sr sl : Nat → Int) (ns nr o c : Nat) : Int := rg_Dt (fun o => rg_cn ins kd en o c) (fun o => rg_Sx pt kd o c) nr (rg_Ax ins sr sl ns nr c) o
noncomputable def rg_Cx (ins pt kd en sr sl : Nat → Int) (ns nr c : Nat) : Int := rg_Ct (fun o => rg_cn ins kd en o c) (fun o => rg_Sx pt kd o c) nr (rg_Ax ins sr sl ns nr c)
noncomputable def rg_Nx (ins pt kd en sr sl : Nat → Int) (ns nr c : Nat) : Int := rg_Nt (fun o => rg_cn ins kd en o c) (fun o => rg_Sx pt kd o c) nr (rg_Gx ins pt kd nr c) (rg_Ax ins sr sl ns nr c)
theorem rg_lo_eq {ins pt kd en sr sl f34 f36 f38 : Nat → Int} {ns nr b : Nat} (hb : b < 40) :
    rg_Dt (fun o => rg_cn ins kd en o b) (fun o => rg_ctb f34 nr (b + 1) (rg_px ins) (rg_Sx pt kd) (o * 40 + b)) nr (Int.toNat (rg_al sr sl (rg_hd f36 (b + 1) (rg_Mx ins nr) b) ns)) = (fun o => rg_Dx ins pt kd en sr sl ns nr o b) ∧
    rg_Ct (fun o => rg_cn ins kd en o b) (fun o => rg_ctb f34 nr (b + 1) (rg_px ins) (rg_Sx pt kd) (o * 40 + b)) nr (Int.toNat (rg_al sr sl (rg_hd f36 (b + 1) (rg_Mx ins nr) b) ns)) = rg_Cx ins pt kd en sr sl ns nr b ∧
    rg_Nt (fun o => rg_cn ins kd en o b) (fun o => rg_ctb f34 nr (b + 1) (rg_px ins) (rg_Sx pt kd) (o * 40 + b)) nr (rg_hd f38 (b + 1) (rg_Gx ins pt kd nr) b) (Int.toNat (rg_al sr sl (rg_hd f36 (b + 1) (rg_Mx ins nr) b) ns)) = rg_Nx ins pt kd en sr sl ns nr b := by
  rw [rg_hd_at f36 _ (Nat.lt_succ_self b), rg_hd_at f38 _ (Nat.lt_succ_self b)]
  have h := rg_Dt_congr (can := fun o => rg_cn ins kd en o b) (can' := fun o => rg_cn ins kd en o b) (S := fun o => rg_ctb f34 nr (b + 1) (rg_px ins) (rg_Sx pt kd) (o * 40 + b)) (S' := fun o => rg_Sx pt kd o b) (nr := nr) (fun _ _ => Iff.rfl) (fun o ho hc => rg_ctb_at f34 (rg_px ins) (rg_Sx pt kd) (Nat.lt_succ_self b) hb ho hc.1) (rg_Gx ins pt kd nr b) (Int.toNat (rg_al sr sl (rg_Mx ins nr b) ns))
  exact ⟨h.1, h.2.1, h.2.2⟩
theorem rg_Mx_bd (ins : Nat → Int) (nr c : Nat) : 0 ≤ rg_Mx ins nr c ∧ rg_Mx ins nr c ≤ nr := by
  unfold rg_Mx; have := rg_cnt_le (fun o => rg_px ins o c) nr; omega
theorem rg_Sx_bd {pt kd : Nat → Int} {o c : Nat} (h : 0 ≤ pt (o * 40 + c) ∧ pt (o * 40 + c) ≤ 9999) : 0 ≤ rg_Sx pt kd o c ∧ rg_Sx pt kd o c ≤ 19998 := by
  unfold rg_Sx rg_k2; split <;> omega
