/-! Two boats' rows against the reference's order. -/
/-- a boat's row, in the reference's words -/
def rg_rs (sl rf fl kd pt lf : Nat → Int) (nr c : Nat) (g : Nat → Int) : Prop :=
  rg_srt 2 16 g ∧ (∀ i, i < 16 → g (2 + i) ≤ 1000000) ∧ (∀ w, w < 1000000 → rg_cnt (fun i => g (2 + i) = w) 16 = rg_my sl rf fl kd pt lf nr c w) ∧
  (∀ i, rg_cnt (fun i => rg_in sl rf fl (nr - 1 - i) c) nr ≤ i → i < 16 → g (18 + i) = 1000000) ∧ (∀ i, i < nr → rg_in sl rf fl (nr - 1 - i) c → g (18 + rg_cnt (fun i => rg_in sl rf fl (nr - 1 - i) c) i) = rg_ms2 kd pt (nr - 1 - i) c)
theorem rg_rs_of {sl rf fl kd pt lf g0 d S f : Nat → Int} {p : Nat → Prop} {nr c : Nat} (hnr : nr ≤ 16) (h : rg_fi p d S g0 nr nr f) (hp : ∀ o, o < nr → (p o ↔ rg_in sl rf fl o c)) (hd : ∀ o, o < nr → d o = lf (o * 40 + c)) (hS : ∀ o, o < nr → rg_in sl rf fl o c → S o = rg_ms2 kd pt o c) : rg_rs sl rf fl kd pt lf nr c f := by
  obtain ⟨-, ⟨s1, s2, s3, s4⟩, t1, t2⟩ := h
  have ck : rg_cnt (fun i => p (nr - 1 - i) ∧ d (nr - 1 - i) = 0) nr ≤ nr := rg_cnt_le _ _
  have ec : ∀ m, m ≤ nr → rg_cnt (fun i => p (nr - 1 - i)) m = rg_cnt (fun i => rg_in sl rf fl (nr - 1 - i) c) m := fun m hm => rg_cnt_congr (fun i hi => hp _ (by omega))
  refine ⟨fun i j q1 q2 => ?_, s3, fun w hw => ?_, fun i q1 q2 => t1 i (by rw [ec nr (Nat.le_refl _)]; exact q1) q2, fun i q1 q2 => ?_⟩
  · by_cases z : j < rg_cnt (fun i => p (nr - 1 - i) ∧ d (nr - 1 - i) = 0) nr
    · exact s1 i j q1 z
    · rw [s2 j (by omega) q2]; exact s3 i (by omega)
  · rw [rg_cnt_cut (c := rg_cnt (fun i => p (nr - 1 - i) ∧ d (nr - 1 - i) = 0) nr) (by omega) (fun i q1 q2 => by rw [s2 i q1 q2]; omega), s4 w]
    rw [rg_cnt_rev (fun o => (p o ∧ d o = 0) ∧ S o = w) nr]
    refine rg_cnt_congr (fun o ho => ?_)
    constructor
    · rintro ⟨⟨k1, k2⟩, k3⟩
      have k := (hp o ho).mp k1
      exact ⟨⟨k, (hd o ho).symm.trans k2⟩, (hS o ho k).symm.trans k3⟩
    · rintro ⟨⟨k1, k2⟩, k3⟩
      exact ⟨⟨(hp o ho).mpr k1, (hd o ho).trans k2⟩, (hS o ho k1).trans k3⟩
  · rw [← ec i (by omega), t2 i q1 ((hp _ (by omega)).mpr q2)]
    exact hS _ (by omega) q2
/-- the first place at which two rows in order differ -/
theorem rg_so_cnt {g h : Nat → Int} {c : Nat} (hg : rg_srt 2 16 g) (hh : rg_srt 2 16 h) (hc : c < 16) (he : ∀ i, i < c → g (2 + i) = h (2 + i)) (hl : g (2 + c) < h (2 + c)) :
    (∀ w, w < g (2 + c) → rg_cnt (fun i => g (2 + i) = w) 16 = rg_cnt (fun i => h (2 + i) = w) 16) ∧ rg_cnt (fun i => h (2 + i) = g (2 + c)) 16 < rg_cnt (fun i => g (2 + i) = g (2 + c)) 16 := by
  have g1 : ∀ i, c ≤ i → i < 16 → g (2 + c) ≤ g (2 + i) := fun i h1 h2 => by
    by_cases z : i = c
    · rw [z]; omega
    · exact hg c i (by omega) h2
  have h1 : ∀ i, c ≤ i → i < 16 → h (2 + c) ≤ h (2 + i) := fun i h1 h2 => by
    by_cases z : i = c
    · rw [z]; omega
    · exact hh c i (by omega) h2
  have hw : ∀ w, w ≤ g (2 + c) → rg_cnt (fun i => h (2 + i) = w) 16 = rg_cnt (fun i => g (2 + i) = w) c := fun w q => by
    rw [rg_cnt_cut (c := c) (by omega) (fun i k1 k2 => by have := h1 i k1 k2; omega)]
    exact rg_cnt_congr (fun i hi => by rw [he i hi])
  refine ⟨fun w q => ?_, ?_⟩
  · rw [hw w (by omega)]
    exact rg_cnt_cut (by omega) (fun i k1 k2 => by have := g1 i k1 k2; omega)
  · rw [hw _ (Int.le_refl _)]
    have q := rg_cnt_le2 (fun i => g (2 + i) = g (2 + c)) (n := 16) (c := c + 1) (by omega)
    rw [rg_cnt_t (p := fun i => g (2 + i) = g (2 + c)) rfl] at q
    omega
theorem rg_bS_sp (sl rf fl kd pt lf : Nat → Int) (nr a b k : Nat) :
    ((rg_bS sl rf fl kd pt lf nr a b k).2 = 0 ∧ (rg_bS sl rf fl kd pt lf nr a b k).1 = -1 ∧ ∀ j, j < k → rg_bM sl rf fl kd pt lf nr a b (rg_bV sl rf fl kd pt lf (if j < nr then a else b) (j % nr)) = 0) ∨
    (0 ≤ (rg_bS sl rf fl kd pt lf nr a b k).1 ∧ ¬ (rg_bS sl rf fl kd pt lf nr a b k).2 = 0 ∧ (rg_bS sl rf fl kd pt lf nr a b k).2 = rg_bM sl rf fl kd pt lf nr a b (rg_bS sl rf fl kd pt lf nr a b k).1 ∧
      (∃ j, j < k ∧ rg_bV sl rf fl kd pt lf (if j < nr then a else b) (j % nr) = (rg_bS sl rf fl kd pt lf nr a b k).1) ∧
      ∀ j, j < k → ¬ rg_bM sl rf fl kd pt lf nr a b (rg_bV sl rf fl kd pt lf (if j < nr then a else b) (j % nr)) = 0 → (rg_bS sl rf fl kd pt lf nr a b k).1 ≤ rg_bV sl rf fl kd pt lf (if j < nr then a else b) (j % nr)) := by
  induction k with
  | zero => exact Or.inl ⟨rfl, rfl, fun j hj => absurd hj (Nat.not_lt_zero j)⟩
  | succ k ih =>
    generalize hv : rg_bV sl rf fl kd pt lf (if k < nr then a else b) (k % nr) = v at *
    have hs : rg_bS sl rf fl kd pt lf nr a b (k + 1) = rg_bN (rg_bS sl rf fl kd pt lf nr a b k).1 (rg_bS sl rf fl kd pt lf nr a b k).2 v (rg_bM sl rf fl kd pt lf nr a b v) := by rw [rg_bS, hv]
    rw [hs]
    generalize rg_bS sl rf fl kd pt lf nr a b k = s at *
    have hneg : v < 0 → rg_bM sl rf fl kd pt lf nr a b v = 0 := fun q => (rg_bM_n q).symm
    by_cases z : ¬ rg_bM sl rf fl kd pt lf nr a b v = 0 ∧ (s.1 < 0 ∨ v < s.1)
    · rw [← rg_bN_n z.1 z.2]
      refine Or.inr ⟨?_, z.1, rfl, ⟨k, Nat.lt_succ_self k, hv⟩, fun j hj hm => ?_⟩
      · show 0 ≤ v
        by_cases y : v < 0
        · exact absurd (hneg y) z.1
        · omega
      · show v ≤ _
        by_cases y : j = k
        · rw [y, hv]; exact Int.le_refl _
        · rcases ih with ⟨i1, i2, i3⟩ | ⟨i1, i2, i3, i4, i5⟩
          · exact absurd (i3 j (by omega)) hm
          · have := i5 j (by omega) hm
            omega
    · have e : rg_bN s.1 s.2 v (rg_bM sl rf fl kd pt lf nr a b v) = s := by unfold rg_bN; rw [if_neg z]
      rw [e]
      rcases ih with ⟨i1, i2, i3⟩ | ⟨i1, i2, i3, ⟨j0, j1, j2⟩, i5⟩
      · refine Or.inl ⟨i1, i2, fun j hj => ?_⟩
        by_cases y : j = k
        · rw [y, hv]
          by_cases x : rg_bM sl rf fl kd pt lf nr a b v = 0
          · exact x
          · exact absurd ⟨x, Or.inl (by omega)⟩ z
        · exact i3 j (by omega)
      · refine Or.inr ⟨i1, i2, i3, ⟨j0, by omega, j2⟩, fun j hj hm => ?_⟩
        by_cases y : j = k
        · rw [y, hv] at hm ⊢
          by_cases x : v < s.1
          · exact absurd ⟨hm, Or.inr x⟩ z
          · omega
        · exact i5 j (by omega) hm
theorem rg_cb {sl rf fl kd pt lf g h : Nat → Int} {nr a b : Nat} (hnr : nr ≤ 16) (ha : rg_rs sl rf fl kd pt lf nr a g) (hb : rg_rs sl rf fl kd pt lf nr b h)
    (pa : ∀ o, o < nr → rg_in sl rf fl o a → 0 ≤ rg_ms2 kd pt o a ∧ rg_ms2 kd pt o a < 1000000) (pb : ∀ o, o < nr → rg_in sl rf fl o b → 0 ≤ rg_ms2 kd pt o b ∧ rg_ms2 kd pt o b < 1000000) :
    ((∀ i, i < 16 → g (2 + i) = h (2 + i)) ∧ (rg_bS sl rf fl kd pt lf nr a b (2 * nr)).2 = 0) ∨
    ∃ c, c < 16 ∧ (∀ i, i < c → g (2 + i) = h (2 + i)) ∧ ((g (2 + c) < h (2 + c) ∧ (rg_bS sl rf fl kd pt lf nr a b (2 * nr)).2 < 0) ∨ (h (2 + c) < g (2 + c) ∧ 0 < (rg_bS sl rf fl kd pt lf nr a b (2 * nr)).2)) := by
  obtain ⟨ga, gm, gc, -, -⟩ := ha
  obtain ⟨ha, hm, hc, -, -⟩ := hb
  have sp := rg_bS_sp sl rf fl kd pt lf nr a b (2 * nr)
  have hM : ∀ v, 0 ≤ v → rg_bM sl rf fl kd pt lf nr a b v = ((rg_my sl rf fl kd pt lf nr b v : Nat) : Int) - ((rg_my sl rf fl kd pt lf nr a v : Nat) : Int) := fun v hv => (rg_bM_p (by omega)).symm
  have hV : ∀ j, j < 2 * nr → rg_bV sl rf fl kd pt lf (if j < nr then a else b) (j % nr) < 1000000 := by
    intro j hj
    have hjn : j % nr < nr := Nat.mod_lt _ (by omega)
    by_cases y : j < nr
    · rw [if_pos y]
      unfold rg_bV
      by_cases x : rg_cs sl rf fl lf a (j % nr)
      · rw [rg_ite_t x]; exact (pa _ hjn x.1).2
      · rw [rg_ite_f x]; omega
    · rw [if_neg y]
      unfold rg_bV
      by_cases x : rg_cs sl rf fl lf b (j % nr)
      · rw [rg_ite_t x]; exact (pb _ hjn x.1).2
      · rw [rg_ite_f x]; omega
  obtain ⟨c, c1, c2, c3⟩ := rg_fd_ex (fun i => g (2 + i)) (fun i => h (2 + i)) 16
  by_cases z : c = 16
  · refine Or.inl ⟨fun i hi => c2 i (by omega), ?_⟩
    have hall : ∀ v, 0 ≤ v → v < 1000000 → rg_bM sl rf fl kd pt lf nr a b v = 0 := fun v h1 h2 => by
      rw [hM v h1, ← gc v h2, ← hc v h2, rg_cnt_congr (p := fun i => h (2 + i) = v) (q := fun i => g (2 + i) = v) (fun i hi => by rw [show g (2 + i) = h (2 + i) from c2 i (by omega)])]
      omega
    rcases sp with sp | ⟨s1, s2, s3, ⟨j, j1, j2⟩, -⟩
    · exact sp.1
    · exact absurd (s3.trans (hall _ s1 (by rw [← j2]; exact hV j j1))) s2
  · have c4 : c < 16 := by omega
    refine Or.inr ⟨c, c4, c2, ?_⟩
    have c5 := c3 c4
    rcases Int.lt_or_gt_of_ne c5 with y | y
    · left
      have y : g (2 + c) < h (2 + c) := y
      refine ⟨y, ?_⟩
      obtain ⟨k1, k2⟩ := rg_so_cnt ga ha c4 c2 y
      have hv2 : g (2 + c) < 1000000 := by have := hm c c4; omega
      rw [gc _ hv2, hc _ hv2] at k2
      obtain ⟨r, r1, ⟨r2, r3⟩, -⟩ := rg_cnt_ex (k := 0) (show 0 < rg_cnt (fun r => rg_cs sl rf fl lf a r ∧ rg_ms2 kd pt r a = g (2 + c)) nr from Nat.lt_of_le_of_lt (Nat.zero_le _) k2)
      have hv1 : 0 ≤ g (2 + c) := by rw [← r3]; exact (pa r r1 r2.1).1
      have hVr : rg_bV sl rf fl kd pt lf (if r < nr then a else b) (r % nr) = g (2 + c) := by
        rw [if_pos r1, Nat.mod_eq_of_lt r1]; unfold rg_bV; rw [rg_ite_t r2, r3]
      have hMv := hM _ hv1
      rcases sp with ⟨-, -, sp⟩ | ⟨s1, s2, s3, -, s5⟩
      · have := sp r (by omega)
        rw [hVr] at this
        omega
      · have q := s5 r (by omega) (by rw [hVr]; omega)
        rw [hVr] at q
        by_cases x : (rg_bS sl rf fl kd pt lf nr a b (2 * nr)).1 = g (2 + c)
        · rw [x] at s3; omega
        · have e := k1 _ (show (rg_bS sl rf fl kd pt lf nr a b (2 * nr)).1 < g (2 + c) by omega)
          rw [gc _ (by omega), hc _ (by omega)] at e
          rw [hM _ s1, e] at s3
          omega
    · right
      have y : h (2 + c) < g (2 + c) := y
      refine ⟨y, ?_⟩
      obtain ⟨k1, k2⟩ := rg_so_cnt ha ga c4 (fun i hi => (c2 i hi).symm) y
      have hv2 : h (2 + c) < 1000000 := by have := gm c c4; omega
      rw [gc _ hv2, hc _ hv2] at k2
      obtain ⟨r, r1, ⟨r2, r3⟩, -⟩ := rg_cnt_ex (k := 0) (show 0 < rg_cnt (fun r => rg_cs sl rf fl lf b r ∧ rg_ms2 kd pt r b = h (2 + c)) nr from Nat.lt_of_le_of_lt (Nat.zero_le _) k2)
      have hv1 : 0 ≤ h (2 + c) := by rw [← r3]; exact (pb r r1 r2.1).1
      have hVr : rg_bV sl rf fl kd pt lf (if nr + r < nr then a else b) ((nr + r) % nr) = h (2 + c) := by
        rw [if_neg (by omega), Nat.add_mod_left, Nat.mod_eq_of_lt r1]; unfold rg_bV; rw [rg_ite_t r2, r3]
      have hMv := hM _ hv1
      rcases sp with ⟨-, -, sp⟩ | ⟨s1, s2, s3, -, s5⟩
      · have := sp (nr + r) (by omega)
        rw [hVr] at this
        omega
      · have q := s5 (nr + r) (by omega) (by rw [hVr]; omega)
        rw [hVr] at q
        by_cases x : (rg_bS sl rf fl kd pt lf nr a b (2 * nr)).1 = h (2 + c)
        · rw [x] at s3; omega
        · have e := k1 _ (show (rg_bS sl rf fl kd pt lf nr a b (2 * nr)).1 < h (2 + c) by omega)
          rw [gc _ (by omega), hc _ (by omega)] at e
          rw [hM _ s1, e] at s3
          omega
theorem rg_ff_sp (sl rf fl kd pt : Nat → Int) (a b j : Nat) : (rg_ff sl rf fl kd pt a b j = 0 ∧ ∀ r, r < j → rg_fd1 sl rf fl kd pt a b r = 0) ∨
    (∃ r, r < j ∧ rg_ff sl rf fl kd pt a b j = rg_fd1 sl rf fl kd pt a b r ∧ ¬ rg_fd1 sl rf fl kd pt a b r = 0 ∧ ∀ r', r < r' → r' < j → rg_fd1 sl rf fl kd pt a b r' = 0) := by
  induction j with
  | zero => exact Or.inl ⟨rfl, fun r hr => absurd hr (Nat.not_lt_zero r)⟩
  | succ j ih =>
    rw [rg_ff]
    by_cases z : rg_fd1 sl rf fl kd pt a b j = 0
    · rw [if_pos z]
      rcases ih with ⟨i1, i2⟩ | ⟨r, i1, i2, i3, i4⟩
      · refine Or.inl ⟨i1, fun r hr => ?_⟩
        by_cases y : r = j
        · rw [y]; exact z
        · exact i2 r (by omega)
      · refine Or.inr ⟨r, by omega, i2, i3, fun r' h1 h2 => ?_⟩
        by_cases y : r' = j
        · rw [y]; exact z
        · exact i4 r' h1 (by omega)
    · rw [if_neg z]
      exact Or.inr ⟨j, by omega, rfl, z, fun r' h1 h2 => by omega⟩
theorem rg_lr {sl rf fl kd pt lf g h : Nat → Int} {nr a b : Nat} (hnr : nr ≤ 16) (hf : fl a = fl b) (ha : rg_rs sl rf fl kd pt lf nr a g) (hb : rg_rs sl rf fl kd pt lf nr b h) :
    ((∀ i, i < 16 → g (18 + i) = h (18 + i)) ∧ rg_ff sl rf fl kd pt a b nr = 0) ∨
    ∃ c, c < 16 ∧ (∀ i, i < c → g (18 + i) = h (18 + i)) ∧ ¬ g (18 + c) = h (18 + c) ∧ rg_ff sl rf fl kd pt a b nr = g (18 + c) - h (18 + c) := by
  obtain ⟨-, -, -, g1, g2⟩ := ha
  obtain ⟨-, -, -, h1, h2⟩ := hb
  have hin : ∀ o, rg_in sl rf fl o b ↔ rg_in sl rf fl o a := fun o => by
    show (_ ∧ (_ ∨ rf o = fl b)) ↔ (_ ∧ (_ ∨ rf o = fl a)); rw [hf]
  have ec : ∀ m, rg_cnt (fun i => rg_in sl rf fl (nr - 1 - i) b) m = rg_cnt (fun i => rg_in sl rf fl (nr - 1 - i) a) m := fun m => rg_cnt_congr (fun i _ => hin _)
  have fd : ∀ o, rg_in sl rf fl o a → rg_fd1 sl rf fl kd pt a b o = rg_ms2 kd pt o a - rg_ms2 kd pt o b := fun o q => rg_ite_t ⟨q, (hin o).mpr q⟩ _ _
  have at9 : ∀ i, i < nr → rg_in sl rf fl (nr - 1 - i) a → g (18 + rg_cnt (fun i => rg_in sl rf fl (nr - 1 - i) a) i) - h (18 + rg_cnt (fun i => rg_in sl rf fl (nr - 1 - i) a) i) = rg_fd1 sl rf fl kd pt a b (nr - 1 - i) := fun i hi q => by
    have e := h2 i hi ((hin _).mpr q)
    rw [ec i] at e
    rw [g2 i hi q, e, fd _ q]
  rcases rg_ff_sp sl rf fl kd pt a b nr with ⟨s1, s2⟩ | ⟨r, s1, s2, s3, s4⟩
  · refine Or.inl ⟨fun n hn => ?_, s1⟩
    by_cases z : n < rg_cnt (fun i => rg_in sl rf fl (nr - 1 - i) a) nr
    · obtain ⟨i, i1, i2, i3⟩ := rg_cnt_ex z
      have q := at9 i i1 i2
      rw [i3, s2 _ (by omega)] at q
      omega
    · rw [g1 n (by omega) hn, h1 n (by rw [ec]; omega) hn]
  · have hr : rg_in sl rf fl r a := by
      by_cases z : rg_in sl rf fl r a ∧ rg_in sl rf fl r b
      · exact z.1
      · exact absurd (rg_ite_f z _ _) s3
    have er : nr - 1 - (nr - 1 - r) = r := by omega
    have hc := rg_cnt_le (fun i => rg_in sl rf fl (nr - 1 - i) a) (nr - 1 - r)
    have q := at9 (nr - 1 - r) (by omega) (by rw [er]; exact hr)
    rw [er] at q
    refine Or.inr ⟨rg_cnt (fun i => rg_in sl rf fl (nr - 1 - i) a) (nr - 1 - r), by omega, fun n hn => ?_, by omega, by omega⟩
    obtain ⟨i, i1, i2, i3⟩ := rg_cnt_ex hn
    have q := at9 i (by omega) i2
    rw [i3, s4 _ (by omega) (by omega)] at q
    omega
/-- the whole row against the whole comparison -/
theorem rg_ord {sl rf fl kd pt lf lo nt g h : Nat → Int} {nr a b : Nat} (hnr : nr ≤ 16) (hab : ¬ a = b) (hlo : ∀ j, 0 ≤ lo j ∧ lo j ≤ 999)
    (ha : fl a = fl b → rg_rs sl rf fl kd pt lf nr a g) (hb : fl a = fl b → rg_rs sl rf fl kd pt lf nr b h)
    (pa : ∀ o, o < nr → rg_in sl rf fl o a → 0 ≤ rg_ms2 kd pt o a ∧ rg_ms2 kd pt o a < 1000000) (pb : ∀ o, o < nr → rg_in sl rf fl o b → 0 ≤ rg_ms2 kd pt o b ∧ rg_ms2 kd pt o b < 1000000)
    (g0 : g 0 = fl a) (h0 : h 0 = fl b) (g1 : g 1 = nt a) (h1 : h 1 = nt b) (g34 : g 34 = rg_LT (lo a)) (h34 : h 34 = rg_LT (lo b)) (g35 : g 35 = (a : Int)) (h35 : h 35 = (b : Int)) :
    (rg_lt g h ↔ rg_od lo fl nt sl rf kd pt lf nr a b < 0) ∧ rg_ps (rg_fd g h 35) = rg_ok lo fl nt sl rf kd pt lf nr a b ∧ ¬ rg_od lo fl nt sl rf kd pt lf nr a b = 0 := by
  have key : ∀ c, c ≤ 35 → (∀ i, i < c → g i = h i) → ¬ g c = h c → (rg_lt g h ↔ g c < h c) ∧ rg_ps (rg_fd g h 35) = rg_ps c := fun c k1 k2 k3 => by
    have e : c = rg_fd g h 35 := rg_fd_is k1 k2 (Or.inr k3)
    unfold rg_lt
    rw [← e]; exact ⟨Iff.rfl, rfl⟩
  have fin : ∀ c, c ≤ 35 → (∀ i, i < c → g i = h i) → ¬ g c = h c → ∀ D K : Int, (g c < h c ↔ D < 0) → rg_ps c = K → ¬ D = 0 → D = rg_od lo fl nt sl rf kd pt lf nr a b ∧ K = rg_ok lo fl nt sl rf kd pt lf nr a b → (rg_lt g h ↔ rg_od lo fl nt sl rf kd pt lf nr a b < 0) ∧ rg_ps (rg_fd g h 35) = rg_ok lo fl nt sl rf kd pt lf nr a b ∧ ¬ rg_od lo fl nt sl rf kd pt lf nr a b = 0 := fun c k1 k2 k3 D K k4 k5 k7 k6 => by
    obtain ⟨q1, q2⟩ := key c k1 k2 k3
    rw [← k6.1, ← k6.2, q1, q2]
    exact ⟨k4, k5, k7⟩
  by_cases z0 : fl a = fl b
  · by_cases z1 : nt a = nt b
    · have e2 : ∀ i, i < 2 → g i = h i := fun i hi => by
        rcases (show i = 0 ∨ i = 1 by omega) with rfl | rfl
        · rw [g0, h0, z0]
        · rw [g1, h1, z1]
      rcases rg_cb hnr (ha z0) (hb z0) pa pb with ⟨c1, c2⟩ | ⟨c, c1, c2, c3⟩
      · have e18 : ∀ i, i < 18 → g i = h i := fun i hi => by
          by_cases y : i < 2
          · exact e2 i y
          · have := c1 (i - 2) (by omega)
            rw [show 2 + (i - 2) = i by omega] at this; exact this
        rcases rg_lr hnr z0 (ha z0) (hb z0) with ⟨d1, d2⟩ | ⟨c, d1, d2, d3, d4⟩
        · have e34 : ∀ i, i < 34 → g i = h i := fun i hi => by
            by_cases y : i < 18
            · exact e18 i y
            · have := d1 (i - 18) (by omega)
              rw [show 18 + (i - 18) = i by omega] at this; exact this
          have q1 := rg_l0_e (lo a)
          have q2 := rg_l0_e (lo b)
          have q3 := hlo a
          have q4 := hlo b
          have q5 : (lo a = 0 ∧ rg_LT (lo a) = 1000000) ∨ (¬ lo a = 0 ∧ rg_LT (lo a) = lo a) := by
            by_cases y : lo a = 0
            · exact Or.inl ⟨y, (rg_LT_0 y).symm⟩
            · exact Or.inr ⟨y, (rg_LT_n y).symm⟩
          have q6 : (lo b = 0 ∧ rg_LT (lo b) = 1000000) ∨ (¬ lo b = 0 ∧ rg_LT (lo b) = lo b) := by
            by_cases y : lo b = 0
            · exact Or.inl ⟨y, (rg_LT_0 y).symm⟩
            · exact Or.inr ⟨y, (rg_LT_n y).symm⟩
          by_cases y : rg_l0 (lo a) - rg_l0 (lo b) = 0
          · have e35 : ∀ i, i < 35 → g i = h i := fun i hi => by
              by_cases x : i = 34
              · rw [x, g34, h34]; omega
              · exact e34 i (by omega)
            exact fin 35 (by omega) e35 (by rw [g35, h35]; omega) _ 4 (by rw [g35, h35]; omega) rfl (by omega) (rg_oD_6 z0 z1 c2 d2 rfl y)
          · exact fin 34 (by omega) e34 (by rw [g34, h34]; omega) _ 3 (by rw [g34, h34]; omega) rfl y (rg_oD_5 z0 z1 c2 d2 rfl y)
        · have ec : ∀ i, i < 18 + c → g i = h i := fun i hi => by
            by_cases y : i < 18
            · exact e18 i y
            · have := d2 (i - 18) (by omega)
              rw [show 18 + (i - 18) = i by omega] at this; exact this
          have q : ¬ rg_ff sl rf fl kd pt a b nr = 0 := by omega
          exact fin (18 + c) (by omega) ec d3 _ 2 (by omega) (by unfold rg_ps; rw [if_neg (by omega), if_neg (by omega), if_pos (by omega)]) q (rg_oD_4 z0 z1 c2 q)
      · have ec : ∀ i, i < 2 + c → g i = h i := fun i hi => by
          by_cases y : i < 2
          · exact e2 i y
          · have := c2 (i - 2) (by omega)
            rw [show 2 + (i - 2) = i by omega] at this; exact this
        have q : ¬ (rg_bS sl rf fl kd pt lf nr a b (2 * nr)).2 = 0 := by omega
        exact fin (2 + c) (by omega) ec (by omega) _ 1 (by omega) (by unfold rg_ps; rw [if_neg (by omega), if_pos (by omega)]) q (rg_oD_3 z0 z1 q)
    · refine fin 1 (by omega) (fun i hi => ?_) (by rw [g1, h1]; exact z1) _ 0 (by rw [g1, h1]; omega) rfl (by omega) (rg_oD_2 z0 z1)
      rw [show i = 0 by omega, g0, h0]; exact z0
  · exact fin 0 (by omega) (fun i hi => absurd hi (Nat.not_lt_zero i)) (by rw [g0, h0]; exact z0) _ 0 (by rw [g0, h0]; omega) rfl (by omega) (rg_oD_1 z0)
