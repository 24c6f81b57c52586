/-! The law: its switch and its loop. -/
section RLO
variable {κ : rg_K} {adM : Nat → Nat} {co : ClassId × ClassId} {Γ : rg_C} {o od b L i : Nat} {xs : Nat → Int32} {cells slots : Nat} {σ τ : rg_S} {f : Nat → Int64} {g : Nat → UInt64} {nb nr nd ns : Nat}
theorem rg_body (F : rg_FG κ adM co Γ rg_tC rg_tM o od b L xs) (hcs : cells + 1 ≤ 1122 ∧ slots + 6 ≤ 42737) (hi : i + 4 < L) (h : rg_Z σ τ nb nr nd ns) (kk : rg_kn κ adM co Γ o od b i (cells + 1) (slots + 6) 1751) : rg_J κ Γ 9 cells slots 37 (rg_lv κ adM o od b i) [] (rg_gw κ adM rg_tC rg_tM co σ τ o f od g) := by
  refine rg_Jaload_n F.1 5 0 rfl dC_37 rfl ?_
  refine rg_Jiload F.1 0 5 dC_38 rfl ?_
  refine rg_Jsld F.1 F.2.2.2.2.2.2.2.2 (by omega) dC_40 ?_
  refine rg_Jbipush F.1 dC_41 (by decide +kernel) ?_
  refine rg_Jiand F.1 dC_43 ?_
  obtain ⟨k, hk, e⟩ := rg_and31 (xs i)
  rw [e]
  by_cases h25 : 24 < k
  · refine rg_JtableOut F.1 1751 dC_44 ⟨by omega, by omega⟩ (Or.inr (by omega)) rfl ?_
    exact rg_Jwid (Nat.le_succ cells) (Nat.le_add_right slots 6) (kk σ τ f g nb nr nd ns h)
  have hk9 : k = 0 ∨ k = 1 ∨ k = 2 ∨ k = 3 ∨ k = 4 ∨ k = 5 ∨ k = 6 ∨ k = 7 ∨ k = 8 ∨ k = 9 ∨ k = 10 ∨ k = 11 ∨ k = 12 ∨ k = 13 ∨ k = 14 ∨ k = 15 ∨ k = 16 ∨ k = 17 ∨ k = 18 ∨ k = 19 ∨ k = 20 ∨ k = 21 ∨ k = 22 ∨ k = 23 ∨ k = 24 := by omega
  rcases hk9 with rfl | rfl | rfl | rfl | rfl | rfl | rfl | rfl | rfl | rfl | rfl | rfl | rfl | rfl | rfl | rfl | rfl | rfl | rfl | rfl | rfl | rfl | rfl | rfl | rfl
  · exact rg_JtableIn F.1 160 dC_44 ⟨by omega, by omega⟩ (by decide) (by decide) (show _ = some (116 : Int) from rfl) rfl (c_boat F hcs hi h kk)
  · exact rg_JtableIn F.1 204 dC_44 ⟨by omega, by omega⟩ (by decide) (by decide) (show _ = some (160 : Int) from rfl) rfl (c_race F hcs hi h kk)
  · exact rg_JtableIn F.1 272 dC_44 ⟨by omega, by omega⟩ (by decide) (by decide) (show _ = some (228 : Int) from rfl) rfl (c_abandon F hcs hi h kk)
  · exact rg_JtableIn F.1 363 dC_44 ⟨by omega, by omega⟩ (by decide) (by decide) (show _ = some (319 : Int) from rfl) rfl (c_finish F hcs hi h kk)
  · exact rg_JtableIn F.1 423 dC_44 ⟨by omega, by omega⟩ (by decide) (by decide) (show _ = some (379 : Int) from rfl) rfl (c_code F hcs hi h kk)
  · exact rg_JtableIn F.1 495 dC_44 ⟨by omega, by omega⟩ (by decide) (by decide) (show _ = some (451 : Int) from rfl) rfl (c_penalty F hcs hi h kk)
  · exact rg_JtableIn F.1 555 dC_44 ⟨by omega, by omega⟩ (by decide) (by decide) (show _ = some (511 : Int) from rfl) rfl (c_clear F hcs hi h kk)
  · exact rg_JtableIn F.1 630 dC_44 ⟨by omega, by omega⟩ (by decide) (by decide) (show _ = some (586 : Int) from rfl) rfl (c_protest F hcs hi h kk)
  · exact rg_JtableIn F.1 722 dC_44 ⟨by omega, by omega⟩ (by decide) (by decide) (show _ = some (678 : Int) from rfl) rfl (c_reopen F hcs hi h kk)
  · exact rg_JtableIn F.1 758 dC_44 ⟨by omega, by omega⟩ (by decide) (by decide) (show _ = some (714 : Int) from rfl) rfl (c_discards F hcs hi h kk)
  · exact rg_JtableIn F.1 806 dC_44 ⟨by omega, by omega⟩ (by decide) (by decide) (show _ = some (762 : Int) from rfl) rfl (c_lot F hcs hi h kk)
  · exact rg_JtableIn F.1 874 dC_44 ⟨by omega, by omega⟩ (by decide) (by decide) (show _ = some (830 : Int) from rfl) rfl (c_split F hcs hi h kk)
  · exact rg_JtableIn F.1 942 dC_44 ⟨by omega, by omega⟩ (by decide) (by decide) (show _ = some (898 : Int) from rfl) rfl (c_points F hcs hi h kk)
  · exact rg_JtableIn F.1 1010 dC_44 ⟨by omega, by omega⟩ (by decide) (by decide) (show _ = some (966 : Int) from rfl) rfl (c_isDiscard F hcs hi h kk)
  · exact rg_JtableIn F.1 1085 dC_44 ⟨by omega, by omega⟩ (by decide) (by decide) (show _ = some (1041 : Int) from rfl) rfl (c_net F hcs hi h kk)
  · exact rg_JtableIn F.1 1141 dC_44 ⟨by omega, by omega⟩ (by decide) (by decide) (show _ = some (1097 : Int) from rfl) rfl (c_gross F hcs hi h kk)
  · exact rg_JtableIn F.1 1197 dC_44 ⟨by omega, by omega⟩ (by decide) (by decide) (show _ = some (1153 : Int) from rfl) rfl (c_mean F hcs hi h kk)
  · exact rg_JtableIn F.1 1274 dC_44 ⟨by omega, by omega⟩ (by decide) (by decide) (show _ = some (1230 : Int) from rfl) rfl (c_rank F hcs hi h kk)
  · exact rg_JtableIn F.1 1330 dC_44 ⟨by omega, by omega⟩ (by decide) (by decide) (show _ = some (1286 : Int) from rfl) rfl (c_at F hcs hi h kk)
  · exact rg_JtableIn F.1 1386 dC_44 ⟨by omega, by omega⟩ (by decide) (by decide) (show _ = some (1342 : Int) from rfl) rfl (c_tie F hcs hi h kk)
  · exact rg_JtableIn F.1 1454 dC_44 ⟨by omega, by omega⟩ (by decide) (by decide) (show _ = some (1410 : Int) from rfl) rfl (c_what F hcs hi h kk)
  · exact rg_JtableIn F.1 1546 dC_44 ⟨by omega, by omega⟩ (by decide) (by decide) (show _ = some (1502 : Int) from rfl) rfl (c_missing F hcs hi h kk)
  · exact rg_JtableIn F.1 1614 dC_44 ⟨by omega, by omega⟩ (by decide) (by decide) (show _ = some (1570 : Int) from rfl) rfl (c_told F hcs hi h kk)
  · exact rg_JtableIn F.1 1682 dC_44 ⟨by omega, by omega⟩ (by decide) (by decide) (show _ = some (1638 : Int) from rfl) rfl (c_sheet F hcs hi h kk)
  · exact rg_JtableIn F.1 1695 dC_44 ⟨by omega, by omega⟩ (by decide) (by decide) (show _ = some (1651 : Int) from rfl) rfl (c_sheetByte F hcs hi h kk)
theorem rg_loop (F : rg_FG κ adM co Γ rg_tC rg_tM o od b L xs) (kE : ∀ (i cells slots : Nat) (σ τ : rg_S) (f : Nat → Int64) (g : Nat → UInt64), cells ≤ 1122 → slots ≤ 42737 → rg_J κ Γ 9 cells slots 1757 (rg_lv κ adM o od b i) [] (rg_gw κ adM rg_tC rg_tM co σ τ o f od g)) :
    ∀ (n i cells slots : Nat), L ≤ i + 5 * n → i ≤ L → cells + n ≤ 1122 → slots + 6 * n ≤ 42737 → rg_kn κ adM co Γ o od b i cells slots 28 := by
  have hL : L ≤ 2560 := F.2.2.2.2.2.2.2.2.2.2.2
  intro n
  induction n with
  | zero =>
    intro i cells slots h1 h2 h3 h4 σ τ f g nb nr nd ns h
    refine rg_Jiload F.1 0 5 dC_28 rfl ?_
    refine rg_Jaload_n F.1 5 0 rfl dC_30 rfl ?_
    refine rg_Jslen F.1 F.2.2.2.2.2.2.2.2 dC_31 ?_
    refine rg_Jiconst F.1 dC_32 ?_
    refine rg_Jisub F.1 dC_33 ?_
    exact rg_Jicmp_gt F.1 1757 dC_34 rfl ⟨by omega, by omega⟩ ⟨by omega, by omega⟩ (fun z => kE i cells slots σ τ f g (by omega) (by omega)) (fun z => absurd z (by omega))
  | succ n ih =>
    intro i cells slots h1 h2 h3 h4 σ τ f g nb nr nd ns h
    refine rg_Jiload F.1 0 5 dC_28 rfl ?_
    refine rg_Jaload_n F.1 5 0 rfl dC_30 rfl ?_
    refine rg_Jslen F.1 F.2.2.2.2.2.2.2.2 dC_31 ?_
    refine rg_Jiconst F.1 dC_32 ?_
    refine rg_Jisub F.1 dC_33 ?_
    refine rg_Jicmp_gt F.1 1757 dC_34 rfl ⟨by omega, by omega⟩ ⟨by omega, by omega⟩ (fun z => kE i cells slots σ τ f g (by omega) (by omega)) (fun z => ?_)
    refine rg_body F ⟨by omega, by omega⟩ (by omega) h (fun σ τ f g nb nr nd ns h => ?_)
    refine rg_Jiinc F.1 (x := (i : Int)) (v := ((i + 5 : Nat) : Int)) 0 (rg_lv κ adM o od b (i + 5)) dC_1751 rfl (by omega) (by decide) rfl ?_
    refine rg_Jgoto F.1 28 dC_1754 rfl ?_
    exact ih (i + 5) (cells + 1) (slots + 6) (by omega) (by omega) (by omega) (by omega) σ τ f g nb nr nd ns h
end RLO
