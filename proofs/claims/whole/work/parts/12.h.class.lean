/-! Words for the class's split. -/
def rg_sF (od : Nat → Int) (g v : Int) (f : Nat → Int) : Nat → (Nat → Int)
  | 0 => f
  | k + 1 => rg_up (rg_sF od g v f k) (Int.toNat (od k)) (rg_pf g v ((k : Int) + 1))
theorem rg_sF_s {od : Nat → Int} {g v : Int} {f : Nat → Int} {k : Nat} {x y : Int} (hx : x = od k) (hy : y = rg_pf g v ((k : Int) + 1)) : rg_up (rg_sF od g v f k) (Int.toNat x) y = rg_sF od g v f (k + 1) := by rw [hx, hy]; rfl
theorem rg_zO_bd {σ : rg_S} {nb nr nd ns : Nat} (h : rg_IC σ nb nr nd ns) (j : Nat) : 0 ≤ rg_zO σ nd nb nr ns j ∧ rg_zO σ nd nb nr ns j < 40 := rg_OD_all h.h41 nb h.hnb j
theorem rg_zS_Rg {σ : rg_S} {nd nb nr : Nat} (h : ∀ j, rg_Rg (σ 30 j)) (j : Nat) : rg_Rg (rg_zS σ nd nb nr j) := rg_hd_Rg h (fun _ => rg_b_Rg _) j
