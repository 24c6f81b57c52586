/-! The law's beginning: both objects and the cells of the answers are made. -/
theorem rg_Dleft {A : Nat → Prop} {x y : va_W} (h : va_D A (x ++ y)) : va_D A x := by
  have e : ∀ (k : Nat) (q : Nat × va_E), x[k]? = some q → (x ++ y)[k]? = some q := fun k q hq => by
    rw [List.getElem?_append_left (List.getElem?_eq_some_iff.mp hq).1]; exact hq
  exact ⟨fun i j p q hp hq z => h.1 i j p q (e i p hp) (e j q hq) z, fun k q hq => h.2 k q (e k q hq)⟩
theorem rg_Dright {A : Nat → Prop} {x y : va_W} (h : va_D A (x ++ y)) : va_D A y := by
  have e : ∀ (k : Nat) (q : Nat × va_E), y[k]? = some q → (x ++ y)[x.length + k]? = some q := fun k q hq => by
    rw [List.getElem?_append_right (Nat.le_add_right _ _), Nat.add_sub_cancel_left]; exact hq
  exact ⟨fun i j p q hp hq z => by have q9 := h.1 _ _ p q (e i p hp) (e j q hq) z; omega, fun k q hq => h.2 _ q (e k q hq)⟩
theorem rg_Dsep {A : Nat → Prop} {x y : va_W} (h : va_D A (x ++ y)) : ∀ p ∈ x, ∀ q ∈ y, ¬ p.1 = q.1 := fun p hp q hq z => by
  obtain ⟨i, hi⟩ := List.mem_iff_getElem?.mp hp
  obtain ⟨j, hj⟩ := List.mem_iff_getElem?.mp hq
  have hl := (List.getElem?_eq_some_iff.mp hi).1
  have q9 := h.1 i (x.length + j) p q (by rw [List.getElem?_append_left hl]; exact hi) (by rw [List.getElem?_append_right (Nat.le_add_right _ _), Nat.add_sub_cancel_left]; exact hj) z
  omega
theorem rg_fM_mem {l : List Nat} {w w' : va_W} (h : l.map (fun i => w[i]?) = w'.map some) : ∀ x ∈ w', x ∈ w := fun x hx => by
  have h1 : some x ∈ l.map (fun i => w[i]?) := by rw [h]; exact List.mem_map_of_mem hx
  obtain ⟨i, -, hi⟩ := List.mem_map.mp h1
  exact List.mem_of_getElem? hi
theorem rg_wd_inj {κ : rg_K} {A : Nat → Prop} {tb : List rg_Sh} {τ : rg_S} (hD : va_D A (rg_wd κ tb τ)) : rg_inj κ tb ∧ ∀ i, i < tb.length → A (κ.2.2.2 i) :=
  ⟨fun i j hi hj z => hD.1 i j _ _ (rg_wd_get τ (List.getElem?_eq_getElem hi)) (rg_wd_get τ (List.getElem?_eq_getElem hj)) z, fun i hi => hD.2 i _ (rg_wd_get τ (List.getElem?_eq_getElem hi))⟩
theorem rg_wd_has {κ : rg_K} {tb : List rg_Sh} {τ : rg_S} {i : Nat} (hi : i < tb.length) : ∃ x ∈ rg_wd κ tb τ, x.1 = κ.2.2.2 i := ⟨_, List.mem_of_getElem? (rg_wd_get τ (List.getElem?_eq_getElem hi)), rfl⟩
theorem rg_X_ad {κ : rg_K} {ad : Nat → Nat} {A : Nat → Prop} {s : State} (had : ∀ i, 100 ≤ i → ad i = κ.2.2.2 i) (h : rg_X κ A s) : rg_X (κ.1, κ.2.1, κ.2.2.1, ad) A s := by
  have e1 : (fun i => ad (100 + i)) = fun i => κ.2.2.2 (100 + i) := funext fun i => had _ (by omega)
  have e2 : (fun i => ad (200 + i)) = fun i => κ.2.2.2 (200 + i) := funext fun i => had _ (by omega)
  obtain ⟨x1, x2, x3, x4, x5, x6, x7⟩ := h
  exact ⟨x1, by show vk_S 18 lw_sl lw_sb (fun i => ad (100 + i)) (fun i => ad (200 + i)) A s s.heap; rw [e1, e2]; exact x2, x3, x4, x5, x6, fun i q hq => by show vk_R RX9 q.1 q.2 (ad (100 + i)) s; rw [had _ (by omega)]; exact x7 i q hq⟩
section RBG
variable {κ : rg_K} {Γ : rg_C} {cc : ByteArray} {own : String} {nL fr lo cm sm cells slots pc : Nat} {lv : List (Nat × Value)} {rest st : List Value} {w w' : va_W} {ad : Nat → Nat}
theorem rg_Jmem (h : ∀ x ∈ w', x ∈ w) (k : rg_J κ Γ nL cells slots pc lv st w') : rg_J κ Γ nL cells slots pc lv st w := by
  obtain ⟨p, e, R, s, m, args, below, meth, c, A, H0, Q⟩ := Γ
  intro H locs ls hP hS hl
  exact k H locs ls (rg_P_mem.mpr (fun x hx => rg_P_mem.mp hP x (h x hx))) hS hl
theorem rg_Jad (k : rg_J (κ.1, κ.2.1, κ.2.2.1, ad) Γ nL cells slots pc lv st w) : rg_J κ Γ nL cells slots pc lv st w := by
  obtain ⟨p, e, R, s, m, args, below, meth, c, A, H0, Q⟩ := Γ
  exact k
theorem rg_Jda (k : rg_J κ Γ nL cells slots pc lv st w) : rg_J (κ.1, κ.2.1, κ.2.2.1, ad) Γ nL cells slots pc lv st w := by
  obtain ⟨p, e, R, s, m, args, below, meth, c, A, H0, Q⟩ := Γ
  exact k
theorem rg_FJad (F : rg_FJ κ Γ cc own nL fr lo cm sm) : rg_FJ (κ.1, κ.2.1, κ.2.2.1, ad) Γ cc own nL fr lo cm sm := by
  obtain ⟨p, e, R, s, m, args, below, meth, c, A, H0, Q⟩ := Γ
  exact F
theorem rg_FW_of {tb : List rg_Sh} {P : Nat → Prop} {τ : rg_S} (hX9 : rg_X κ (rg_A Γ) Γ.2.2.2.1) (had : ∀ i, 100 ≤ i → ad i = κ.2.2.2 i) (hD : va_D (rg_A Γ) (rg_wd (κ.1, κ.2.1, κ.2.2.1, ad) tb τ)) (hP : ∀ i, i < tb.length → ¬ P (ad i)) : rg_FW (κ.1, κ.2.1, κ.2.2.1, ad) Γ tb P := by
  obtain ⟨p, e, R, s, m, args, below, meth, c, A, H0, Q⟩ := Γ
  obtain ⟨h1, h2⟩ := rg_wd_inj hD
  exact ⟨h1, h2, rg_X_ad had hX9, hP⟩
end RBG
/-- all is apart -/
theorem rg_FG_of {κ : rg_K} {Γ : rg_C} {co : ClassId × ClassId} {b L o od : Nat} {xs : Nat → Int32} {ad adM : Nat → Nat} {e1 e2 : va_E} (F : rg_FJ κ Γ code RL 9 13 480 1122 42737) (hX9 : rg_X κ (rg_A Γ) Γ.2.2.2.1) (hKo : va_K κ.2.1 vwCl (rg_tyo co) Γ.2.2.2.1) (hncp : ∀ z ∈ lw_ncp, va_Nc z.1 z.2 Γ.2.2.2.1) (hscr : rg_scr Γ b L xs)
    (had : ∀ i, 100 ≤ i → ad i = κ.2.2.2 i) (hadM : ∀ i, 100 ≤ i → adM i = κ.2.2.2 i) (hD : va_D (rg_A Γ) ((((([] : va_W) ++ rg_w9 κ ad) ++ rg_w10 κ adM) ++ [(o, e1)]) ++ [(od, e2)])) : rg_FG (κ.1, κ.2.1, κ.2.2.1, ad) adM co Γ rg_tC rg_tM o od b L xs := by
  have hD3 := rg_Dleft hD
  have hD2 := rg_Dleft hD3
  have hDM := rg_Dright hD2
  have hDC : va_D (rg_A Γ) (rg_w9 κ ad) := rg_Dleft hD2
  have hC := hDC.sub rg_pi9 (by decide +kernel) (f_X9_w κ ad)
  have hM := hDM.sub rg_pi10 (by decide +kernel) (f_X10_w κ adM)
  have mC : ∀ i, i < rg_tC.length → ∃ x ∈ rg_w9 κ ad, x.1 = ad i := fun i hi => by
    obtain ⟨x, h1, h2⟩ := rg_wd_has (κ := (κ.1, κ.2.1, κ.2.2.1, ad)) (tb := rg_tC) (τ := rg_s0) hi
    exact ⟨x, rg_fM_mem (f_X9_w κ ad) x h1, h2⟩
  have mM : ∀ i, i < rg_tM.length → ∃ x ∈ rg_w10 κ adM, x.1 = adM i := fun i hi => by
    obtain ⟨x, h1, h2⟩ := rg_wd_has (κ := (κ.1, κ.2.1, κ.2.2.1, adM)) (tb := rg_tM) (τ := rg_t0) hi
    exact ⟨x, rg_fM_mem (f_X10_w κ adM) x h1, h2⟩
  have sCM : ∀ i, i < rg_tC.length → ∀ j, j < rg_tM.length → ¬ ad i = adM j := fun i hi j hj z => by
    obtain ⟨x, h1, h2⟩ := mC i hi
    obtain ⟨y, g1, g2⟩ := mM j hj
    exact rg_Dsep hD2 x h1 y g1 (h2.trans (z.trans g2.symm))
  have sCo : ∀ i, i < rg_tC.length → ¬ ad i = o := fun i hi z => by
    obtain ⟨x, h1, h2⟩ := mC i hi
    exact rg_Dsep hD3 x (List.mem_append_left _ h1) (o, e1) List.mem_cons_self (h2.trans z)
  have sCd : ∀ i, i < rg_tC.length → ¬ ad i = od := fun i hi z => by
    obtain ⟨x, h1, h2⟩ := mC i hi
    exact rg_Dsep hD x (List.mem_append_left _ (List.mem_append_left _ h1)) (od, e2) List.mem_cons_self (h2.trans z)
  have sMo : ∀ i, i < rg_tM.length → ¬ adM i = o := fun i hi z => by
    obtain ⟨x, h1, h2⟩ := mM i hi
    exact rg_Dsep hD3 x (List.mem_append_right _ h1) (o, e1) List.mem_cons_self (h2.trans z)
  have sMd : ∀ i, i < rg_tM.length → ¬ adM i = od := fun i hi z => by
    obtain ⟨x, h1, h2⟩ := mM i hi
    exact rg_Dsep hD x (List.mem_append_left _ (List.mem_append_right _ h1)) (od, e2) List.mem_cons_self (h2.trans z)
  have sod : ¬ o = od := fun z => rg_Dsep hD (o, e1) (List.mem_append_right _ List.mem_cons_self) (od, e2) List.mem_cons_self z
  refine ⟨rg_FJad F, rg_FW_of (κ := κ) hX9 had hC (fun i hi => ?_), rg_FW_of (κ := κ) hX9 hadM hM (fun i hi => ?_), hKo, hncp, rg_Dlast hD3, rg_Dlast hD, sod, hscr⟩
  · rintro (⟨j, hj, z⟩ | z | z)
    · exact sCM i hi j hj z
    · exact sCo i hi z
    · exact sCd i hi z
  · rintro (⟨j, hj, z⟩ | z | z)
    · exact sCM j hj i hi z.symm
    · exact sMo i hi z
    · exact sMd i hi z
theorem rg_gw_mem {κ : rg_K} {co : ClassId × ClassId} {o od : Nat} {ad adM : Nat → Nat} {f : Nat → Int64} {g : Nat → UInt64} : ∀ x ∈ rg_gw (κ.1, κ.2.1, κ.2.2.1, ad) adM rg_tC rg_tM co rg_s0 rg_t0 o f od g, x ∈ (((([] : va_W) ++ rg_w9 κ ad) ++ rg_w10 κ adM) ++ [rg_eL co o f]) ++ [rg_eD co od g] := fun x hx => by
  rcases List.mem_append.mp hx with z | z
  · exact List.mem_append_left _ (List.mem_append_left _ (List.mem_append_left _ (List.mem_append_right _ (rg_fM_mem (f_X9_w κ ad) x z))))
  · rcases List.mem_append.mp z with z | z
    · exact List.mem_append_left _ (List.mem_append_left _ (List.mem_append_right _ (rg_fM_mem (f_X10_w κ adM) x z)))
    · simp only [List.mem_cons, List.not_mem_nil, or_false] at z
      rcases z with rfl | rfl
      · exact List.mem_append_left _ (List.mem_append_right _ List.mem_cons_self)
      · exact List.mem_append_right _ List.mem_cons_self
