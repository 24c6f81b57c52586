/-! The same with a trial decision. -/
theorem rg_la_1y {wh ro : Nat → Int} {x : Int} {nd : Nat} (h : wh 40 = x) : rg_la wh ro 1 x nd = 40 := if_pos ⟨rfl, h⟩
theorem rg_la_1n {wh ro : Nat → Int} {x : Int} {nd : Nat} (h : ¬ wh 40 = x) : rg_la wh ro 1 x nd = rg_la wh ro 0 x nd := (if_neg (fun q => h q.2)).trans (rg_la_0 wh ro x nd).symm
theorem rg_me_1y {wh ro wt pu : Nat → Int} {nd j : Nat} (h : wh 40 = (j : Int)) : rg_me wh ro wt pu 1 nd j = if wt 40 = 0 then 9 else wt 40 := by
  unfold rg_me
  rw [rg_la_1y h]
  exact if_neg (by omega)
theorem rg_me_1n {wh ro wt pu : Nat → Int} {nd j : Nat} (h : ¬ wh 40 = (j : Int)) : rg_me wh ro wt pu 1 nd j = rg_me wh ro wt pu 0 nd j := by
  unfold rg_me; rw [rg_la_1n h]
theorem rg_ma_1y {wh ro wa pa : Nat → Int} {nd j : Nat} (h : wh 40 = (j : Int)) : rg_ma wh ro wa pa 1 nd j = wa 40 := by
  unfold rg_ma
  rw [rg_la_1y h]
  exact if_neg (by omega)
theorem rg_ma_1n {wh ro wa pa : Nat → Int} {nd j : Nat} (h : ¬ wh 40 = (j : Int)) : rg_ma wh ro wa pa 1 nd j = rg_ma wh ro wa pa 0 nd j := by
  unfold rg_ma; rw [rg_la_1n h]
theorem rg_mp_1y {wh ro pp : Nat → Int} {nd j : Nat} (h : wh 40 = (j : Int)) : rg_mp wh ro pp 1 nd j = 0 := by
  unfold rg_mp
  rw [rg_la_1y h]
  exact if_neg (by omega)
theorem rg_mp_1n {wh ro pp : Nat → Int} {nd j : Nat} (h : ¬ wh 40 = (j : Int)) : rg_mp wh ro pp 1 nd j = rg_mp wh ro pp 0 nd j := by
  unfold rg_mp; rw [rg_la_1n h]
