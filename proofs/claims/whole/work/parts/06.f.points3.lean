noncomputable def rg_s32 (w en ar : Nat → Int) (nb : Nat) : Nat → (Nat → Int)
  | 0 => w
  | r + 1 => rg_wp en ar r nb
noncomputable def rg_s33 (w en ar : Nat → Int) (nb : Nat) : Nat → (Nat → Int)
  | 0 => w
  | r + 1 => rg_wl w (rg_wp en ar r nb) 100
theorem rg_s33_s (w en ar : Nat → Int) (nb r : Nat) : rg_wl (rg_s33 w en ar nb r) (rg_wp en ar r nb) 100 = rg_s33 w en ar nb (r + 1) := by
  cases r with
  | zero => rfl
  | succ r => exact rg_hd_hd _ _ _ _
theorem rg_s33_0 {w en ar : Nat → Int} {nb r : Nat} (h : w 0 = 0) : rg_s33 w en ar nb r 0 = 0 := by
  cases r with
  | zero => exact h
  | succ r => exact rg_hd_at w (n := 100) (j := 0) (rg_sum (rg_wp en ar r nb)) (by omega)
theorem rg_IN_hd (s rf fl ab en : Nat → Int) (nb : Nat) {R r : Nat} (i : Nat) (h : r < R) : rg_b (rg_in (rg_hd s R (rg_SL ab en nb)) rf fl r i) = rg_IN rf fl ab en nb r i := by
  unfold rg_IN rg_in
  rw [rg_hd_at _ _ h]
theorem rg_P1_hd {s s2 w rf fl ab en ar pe : Nat → Int} {nb R r : Nat} (hok : rg_okE en ar pe) (i : Nat) (h : r < R) : rg_ite (rg_in (rg_hd s R (rg_SL ab en nb)) rf fl r i) (rg_p0 (rg_hd s2 R (rg_SZ rf fl nb)) (rg_wp en ar r nb) (rg_wl w (rg_wp en ar r nb) 100) en ar pe r (r * 40 + i)) (-1) = rg_P1 rf fl ab en ar pe nb r i := by
  unfold rg_P1 rg_in
  rw [rg_hd_at _ _ h, rg_p0_sz (sz := rg_hd s2 R (rg_SZ rf fl nb)) (sz' := rg_SZ rf fl nb) (rg_hd_at _ _ h), rg_p0_congr (wl := rg_wl w (rg_wp en ar r nb) 100) (wl' := rg_sum (rg_wp en ar r nb)) (fun z => rg_wl_sum _ _ (by have := hok (r * 40 + i); omega))]
theorem rg_tab_Rg {f : Nat → Int} {R n : Nat} {g : Nat → Nat → Int} (h1 : ∀ j, rg_Rg (f j)) (h2 : ∀ i b, rg_Rg (g i b)) (j : Nat) : rg_Rg (rg_tab f R n g j) := by
  unfold rg_tab; split
  · exact h2 _ _
  · exact h1 _
theorem rg_IN_Rg (rf fl ab en : Nat → Int) (nb i b : Nat) : rg_Rg (rg_IN rf fl ab en nb i b) := rg_b_Rg _
theorem rg_cur_bd {rf fl ab en ar pe f28 f29 : Nat → Int} {nb nr q b o : Nat} (hok : rg_okE en ar pe) (hnb : nb ≤ 40) (hb : b < nb) (hq : q ≤ nr) (ho : o < nr) (h : rg_no (rg_tab f28 nr nb (rg_IN rf fl ab en nb)) en b o) :
    0 ≤ rg_tab (rg_tab f29 nr nb (rg_P1 rf fl ab en ar pe nb)) q nb (rg_P2 rf fl ab en ar pe nb nr) (o * 40 + b) ∧ rg_tab (rg_tab f29 nr nb (rg_P1 rf fl ab en ar pe nb)) q nb (rg_P2 rf fl ab en ar pe nb nr) (o * 40 + b) ≤ 9999 := by
  have h1 := h.1
  rw [rg_tab_at _ _ ho hb hnb] at h1
  by_cases z : o < q
  · rw [rg_tab_at _ _ z hb hnb]; exact rg_P2_bd hok hnb hb h1
  · rw [rg_tab_out _ _ (by omega) (by omega), rg_tab_at _ _ ho hb hnb]; exact rg_P1_bd hok hnb hb h1
