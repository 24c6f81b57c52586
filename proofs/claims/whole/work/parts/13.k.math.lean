/-! The entry that counts, class against reference: place is 0 here and 9 there, none -1 here and 0 there. -/
def rg_cd (e : Int) : Int := if e = -1 then 0 else if e = 0 then 9 else e
theorem rg_cd_1 {e : Int} (h : 0 ≤ e) : (if e = 0 then (9 : Int) else e) = rg_cd e := (if_neg (by omega)).symm
theorem rg_la_0 (wh ro : Nat → Int) (x : Int) (nd : Nat) : rg_la wh ro 0 x nd = rg_la0 wh ro x nd := if_neg (by omega)
theorem rg_me_cd {wh ro wt pu dc ro' dk f16 : Nat → Int} {nd j : Nat} (h : ∀ d, d < nd → wh d = dc d ∧ 0 ≤ dc d ∧ (ro d = 0 ↔ ro' d = 0)) (hk : ∀ d, d < nd → wt d = dk d ∧ 0 ≤ dk d) (hp : pu j = rg_cd (f16 j)) : rg_me wh ro wt pu 0 nd j = rg_cd (rg_app dc ro' dk f16 nd j) := by
  have b := rg_la0_bd wh ro (j : Int) nd
  rw [rg_app_la nd h]
  unfold rg_me
  rw [rg_la_0]
  by_cases z : rg_la0 wh ro (j : Int) nd < 0
  · rw [if_pos z, if_pos z]; exact hp
  · rw [if_neg z, if_neg z]
    obtain ⟨k1, k2⟩ := hk (Int.toNat (rg_la0 wh ro (j : Int) nd)) (by omega)
    rw [k1]
    exact rg_cd_1 k2
/-- the argument and the penalty that count, where there is an entry -/
theorem rg_ma_eq {wh ro wa pa dc ro' da dk f16 f17 : Nat → Int} {nd j : Nat} (h : ∀ d, d < nd → wh d = dc d ∧ 0 ≤ dc d ∧ (ro d = 0 ↔ ro' d = 0)) (hk : ∀ d, d < nd → wa d = da d) (hp : ¬ f16 j = -1 → pa j = f17 j) (he : ¬ rg_app dc ro' dk f16 nd j = -1) : rg_ma wh ro wa pa 0 nd j = rg_app dc ro' da f17 nd j := by
  have b := rg_la0_bd wh ro (j : Int) nd
  rw [rg_app_la nd h] at he
  rw [rg_app_la nd h]
  unfold rg_ma
  rw [rg_la_0]
  by_cases z : rg_la0 wh ro (j : Int) nd < 0
  · rw [if_pos z] at he
    rw [if_pos z, if_pos z]; exact hp he
  · rw [if_neg z, if_neg z]
    exact hk _ (by omega)
theorem rg_mp_eq {wh ro pp dc ro' dk f16 f18 : Nat → Int} {nd j : Nat} (h : ∀ d, d < nd → wh d = dc d ∧ 0 ≤ dc d ∧ (ro d = 0 ↔ ro' d = 0)) (hp : ¬ f16 j = -1 → pp j = f18 j) (he : ¬ rg_app dc ro' dk f16 nd j = -1) : rg_mp wh ro pp 0 nd j = rg_app dc ro' (fun _ => 0) f18 nd j := by
  rw [rg_app_la nd h] at he
  rw [rg_app_la nd h]
  unfold rg_mp
  rw [rg_la_0]
  by_cases z : rg_la0 wh ro (j : Int) nd < 0
  · rw [if_pos z] at he
    rw [if_pos z, if_pos z]; exact hp he
  · rw [if_neg z, if_neg z]
