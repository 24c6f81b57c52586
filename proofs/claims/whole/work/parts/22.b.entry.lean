/-! What holds at the law's entry: all texts together, the statics. -/
theorem va_OF_inj {o n d : String} {v v' : Value} {t : Nat} {A : Nat → Prop} {U : State} {H : Heap} (h : va_OF o n d v t A U H) (h' : va_OF o n d v' t A U H) : v = v' := by
  obtain ⟨c1, k1, i1, f1, e1, a1, -, a2, -, a3, -⟩ := h
  obtain ⟨c2, k2, i2, f2, e2, b1, -, b2, -, b3, -⟩ := h'
  cases Option.some.inj (a1.symm.trans b1)
  cases Option.some.inj (a2.symm.trans b2)
  exact Option.some.inj (a3.symm.trans b3)
theorem va_T_inj {ty : FieldType} {t N N' : Nat} {f f' : Nat → Value} {A : Nat → Prop} {U : State} {H : Heap} (h : va_T ty t N f A U H) (h' : va_T ty t N' f' A U H) (hN : N ≤ 3) (hN' : N' ≤ 3) : N = N' ∧ ∀ j, j < N → f j = f' j := by
  obtain ⟨c1, a1, -, -, a2, a3, a4, -⟩ := h
  obtain ⟨c2, b1, -, -, b2, b3, b4, -⟩ := h'
  cases Option.some.inj (a1.symm.trans b1)
  have e : Int32.ofNat N = Int32.ofNat N' := a3.symm.trans b3
  have e2 : N = N' := by
    rcases (show N = 0 ∨ N = 1 ∨ N = 2 ∨ N = 3 by omega) with rfl | rfl | rfl | rfl <;> rcases (show N' = 0 ∨ N' = 1 ∨ N' = 2 ∨ N' = 3 by omega) with rfl | rfl | rfl | rfl <;> first | rfl | exact absurd e (by decide +kernel)
  subst e2
  exact ⟨rfl, fun j hj => Option.some.inj ((a4 j hj).symm.trans (b4 j hj))⟩
theorem rg_sb_inj : ∀ i, i < 18 → ∀ j, j < 18 → lw_sl.getD i 0 = lw_sl.getD j 0 → (∀ k, k < 3 → k < lw_sl.getD i 0 → (lw_sb.getD i []).getD k 0 = (lw_sb.getD j []).getD k 0) → i = j := by decide +kernel
theorem rg_sl3 : ∀ i, i < 18 → lw_sl.getD i 0 ≤ 3 := by decide +kernel
theorem rg_texts {args : Array Value} {s : State} {A : Nat → Prop} (hts : ∀ w ∈ lw_tbl, w.before args s = true) (hpre : ∀ w ∈ lw_flat, w.before args s = true) (hA : ∀ a : Nat, a < s.heap.size → ¬ A a) : ∃ adK adV : Nat → Nat, vk_S 18 lw_sl lw_sb adK adV A s s.heap ∧ ∀ (i : Nat) (q : Nat × String), lw_strs[i]? = some q → vk_R RX9 q.1 q.2 (adK i) s := by
  have h0 : ∀ i : Nat, ∃ z : Nat × Nat, (∀ q : Nat × String, lw_strs[i]? = some q → vk_R RX9 q.1 q.2 z.1 s) ∧ (i < 18 → va_O "java/lang/String" z.1 A s s.heap ∧ va_OF "java/lang/String" "coder" "B" (.int 0) z.1 A s s.heap ∧ va_OF "java/lang/String" "value" "[B" (.ref z.2) z.1 A s s.heap ∧ va_T .byte z.2 (lw_sl.getD i 0) (fun j => .int ((lw_sb.getD i []).getD j 0)) A s s.heap) := by
    intro i
    by_cases hi : i < 43
    · have hi9 : i = 0 ∨ i = 1 ∨ i = 2 ∨ i = 3 ∨ i = 4 ∨ i = 5 ∨ i = 6 ∨ i = 7 ∨ i = 8 ∨ i = 9 ∨ i = 10 ∨ i = 11 ∨ i = 12 ∨ i = 13 ∨ i = 14 ∨ i = 15 ∨ i = 16 ∨ i = 17 ∨ i = 18 ∨ i = 19 ∨ i = 20 ∨ i = 21 ∨ i = 22 ∨ i = 23 ∨ i = 24 ∨ i = 25 ∨ i = 26 ∨ i = 27 ∨ i = 28 ∨ i = 29 ∨ i = 30 ∨ i = 31 ∨ i = 32 ∨ i = 33 ∨ i = 34 ∨ i = 35 ∨ i = 36 ∨ i = 37 ∨ i = 38 ∨ i = 39 ∨ i = 40 ∨ i = 41 ∨ i = 42 := by omega
      rcases hi9 with rfl | rfl | rfl | rfl | rfl | rfl | rfl | rfl | rfl | rfl | rfl | rfl | rfl | rfl | rfl | rfl | rfl | rfl | rfl | rfl | rfl | rfl | rfl | rfl | rfl | rfl | rfl | rfl | rfl | rfl | rfl | rfl | rfl | rfl | rfl | rfl | rfl | rfl | rfl | rfl | rfl | rfl | rfl
      · obtain ⟨z, h1, h2⟩ := k_tx_0 hpre hA
        exact ⟨z, fun q hq => by
          cases Option.some.inj (hq.symm.trans k_str_298)
          exact vk_R.of (hts _ (List.mem_of_getElem? (i := 540) (by decide +kernel))) h1, fun _ => h2⟩
      · obtain ⟨z, h1, h2⟩ := k_tx_1 hpre hA
        exact ⟨z, fun q hq => by
          cases Option.some.inj (hq.symm.trans k_str_303)
          exact vk_R.of (hts _ (List.mem_of_getElem? (i := 593) (by decide +kernel))) h1, fun _ => h2⟩
      · obtain ⟨z, h1, h2⟩ := k_tx_2 hpre hA
        exact ⟨z, fun q hq => by
          cases Option.some.inj (hq.symm.trans k_str_308)
          exact vk_R.of (hts _ (List.mem_of_getElem? (i := 599) (by decide +kernel))) h1, fun _ => h2⟩
      · obtain ⟨z, h1, h2⟩ := k_tx_3 hpre hA
        exact ⟨z, fun q hq => by
          cases Option.some.inj (hq.symm.trans k_str_310)
          exact vk_R.of (hts _ (List.mem_of_getElem? (i := 600) (by decide +kernel))) h1, fun _ => h2⟩
      · obtain ⟨z, h1, h2⟩ := k_tx_4 hpre hA
        exact ⟨z, fun q hq => by
          cases Option.some.inj (hq.symm.trans k_str_320)
          exact vk_R.of (hts _ (List.mem_of_getElem? (i := 606) (by decide +kernel))) h1, fun _ => h2⟩
      · obtain ⟨z, h1, h2⟩ := k_tx_5 hpre hA
        exact ⟨z, fun q hq => by
          cases Option.some.inj (hq.symm.trans k_str_334)
          exact vk_R.of (hts _ (List.mem_of_getElem? (i := 610) (by decide +kernel))) h1, fun _ => h2⟩
      · obtain ⟨z, h1, h2⟩ := k_tx_6 hpre hA
        exact ⟨z, fun q hq => by
          cases Option.some.inj (hq.symm.trans k_str_336)
          exact vk_R.of (hts _ (List.mem_of_getElem? (i := 611) (by decide +kernel))) h1, fun _ => h2⟩
      · obtain ⟨z, h1, h2⟩ := k_tx_7 hpre hA
        exact ⟨z, fun q hq => by
          cases Option.some.inj (hq.symm.trans k_str_338)
          exact vk_R.of (hts _ (List.mem_of_getElem? (i := 612) (by decide +kernel))) h1, fun _ => h2⟩
      · obtain ⟨z, h1, h2⟩ := k_tx_8 hpre hA
        exact ⟨z, fun q hq => by
          cases Option.some.inj (hq.symm.trans k_str_340)
          exact vk_R.of (hts _ (List.mem_of_getElem? (i := 613) (by decide +kernel))) h1, fun _ => h2⟩
      · obtain ⟨z, h1, h2⟩ := k_tx_9 hpre hA
        exact ⟨z, fun q hq => by
          cases Option.some.inj (hq.symm.trans k_str_342)
          exact vk_R.of (hts _ (List.mem_of_getElem? (i := 614) (by decide +kernel))) h1, fun _ => h2⟩
      · obtain ⟨z, h1, h2⟩ := k_tx_10 hpre hA
        exact ⟨z, fun q hq => by
          cases Option.some.inj (hq.symm.trans k_str_344)
          exact vk_R.of (hts _ (List.mem_of_getElem? (i := 615) (by decide +kernel))) h1, fun _ => h2⟩
      · obtain ⟨z, h1, h2⟩ := k_tx_11 hpre hA
        exact ⟨z, fun q hq => by
          cases Option.some.inj (hq.symm.trans k_str_346)
          exact vk_R.of (hts _ (List.mem_of_getElem? (i := 616) (by decide +kernel))) h1, fun _ => h2⟩
      · obtain ⟨z, h1, h2⟩ := k_tx_12 hpre hA
        exact ⟨z, fun q hq => by
          cases Option.some.inj (hq.symm.trans k_str_348)
          exact vk_R.of (hts _ (List.mem_of_getElem? (i := 617) (by decide +kernel))) h1, fun _ => h2⟩
      · obtain ⟨z, h1, h2⟩ := k_tx_13 hpre hA
        exact ⟨z, fun q hq => by
          cases Option.some.inj (hq.symm.trans k_str_350)
          exact vk_R.of (hts _ (List.mem_of_getElem? (i := 618) (by decide +kernel))) h1, fun _ => h2⟩
      · obtain ⟨z, h1, h2⟩ := k_tx_14 hpre hA
        exact ⟨z, fun q hq => by
          cases Option.some.inj (hq.symm.trans k_str_352)
          exact vk_R.of (hts _ (List.mem_of_getElem? (i := 619) (by decide +kernel))) h1, fun _ => h2⟩
      · obtain ⟨z, h1, h2⟩ := k_tx_15 hpre hA
        exact ⟨z, fun q hq => by
          cases Option.some.inj (hq.symm.trans k_str_354)
          exact vk_R.of (hts _ (List.mem_of_getElem? (i := 620) (by decide +kernel))) h1, fun _ => h2⟩
      · obtain ⟨z, h1, h2⟩ := k_tx_16 hpre hA
        exact ⟨z, fun q hq => by
          cases Option.some.inj (hq.symm.trans k_str_332)
          exact vk_R.of (hts _ (List.mem_of_getElem? (i := 621) (by decide +kernel))) h1, fun _ => h2⟩
      · obtain ⟨z, h1, h2⟩ := k_tx_17 hpre hA
        exact ⟨z, fun q hq => by
          cases Option.some.inj (hq.symm.trans k_str_318)
          exact vk_R.of (hts _ (List.mem_of_getElem? (i := 622) (by decide +kernel))) h1, fun _ => h2⟩
      · obtain ⟨z, h1⟩ := k_tx_18 hpre
        exact ⟨(z, 0), fun q hq => by
          cases Option.some.inj (hq.symm.trans k_str_87)
          exact vk_R.of (hts _ (List.mem_of_getElem? (i := 674) (by decide +kernel))) h1, fun h => absurd h (by decide)⟩
      · obtain ⟨z, h1⟩ := k_tx_19 hpre
        exact ⟨(z, 0), fun q hq => by
          cases Option.some.inj (hq.symm.trans k_str_98)
          exact vk_R.of (hts _ (List.mem_of_getElem? (i := 709) (by decide +kernel))) h1, fun h => absurd h (by decide)⟩
      · obtain ⟨z, h1⟩ := k_tx_20 hpre
        exact ⟨(z, 0), fun q hq => by
          cases Option.some.inj (hq.symm.trans k_str_107)
          exact vk_R.of (hts _ (List.mem_of_getElem? (i := 737) (by decide +kernel))) h1, fun h => absurd h (by decide)⟩
      · obtain ⟨z, h1⟩ := k_tx_21 hpre
        exact ⟨(z, 0), fun q hq => by
          cases Option.some.inj (hq.symm.trans k_str_114)
          exact vk_R.of (hts _ (List.mem_of_getElem? (i := 748) (by decide +kernel))) h1, fun h => absurd h (by decide)⟩
      · obtain ⟨z, h1⟩ := k_tx_22 hpre
        exact ⟨(z, 0), fun q hq => by
          cases Option.some.inj (hq.symm.trans k_str_117)
          exact vk_R.of (hts _ (List.mem_of_getElem? (i := 749) (by decide +kernel))) h1, fun h => absurd h (by decide)⟩
      · obtain ⟨z, h1⟩ := k_tx_23 hpre
        exact ⟨(z, 0), fun q hq => by
          cases Option.some.inj (hq.symm.trans k_str_144)
          exact vk_R.of (hts _ (List.mem_of_getElem? (i := 819) (by decide +kernel))) h1, fun h => absurd h (by decide)⟩
      · obtain ⟨z, h1⟩ := k_tx_24 hpre
        exact ⟨(z, 0), fun q hq => by
          cases Option.some.inj (hq.symm.trans k_str_153)
          exact vk_R.of (hts _ (List.mem_of_getElem? (i := 827) (by decide +kernel))) h1, fun h => absurd h (by decide)⟩
      · obtain ⟨z, h1⟩ := k_tx_25 hpre
        exact ⟨(z, 0), fun q hq => by
          cases Option.some.inj (hq.symm.trans k_str_155)
          exact vk_R.of (hts _ (List.mem_of_getElem? (i := 828) (by decide +kernel))) h1, fun h => absurd h (by decide)⟩
      · obtain ⟨z, h1⟩ := k_tx_26 hpre
        exact ⟨(z, 0), fun q hq => by
          cases Option.some.inj (hq.symm.trans k_str_168)
          exact vk_R.of (hts _ (List.mem_of_getElem? (i := 848) (by decide +kernel))) h1, fun h => absurd h (by decide)⟩
      · obtain ⟨z, h1⟩ := k_tx_27 hpre
        exact ⟨(z, 0), fun q hq => by
          cases Option.some.inj (hq.symm.trans k_str_175)
          exact vk_R.of (hts _ (List.mem_of_getElem? (i := 860) (by decide +kernel))) h1, fun h => absurd h (by decide)⟩
      · obtain ⟨z, h1⟩ := k_tx_28 hpre
        exact ⟨(z, 0), fun q hq => by
          cases Option.some.inj (hq.symm.trans k_str_181)
          exact vk_R.of (hts _ (List.mem_of_getElem? (i := 861) (by decide +kernel))) h1, fun h => absurd h (by decide)⟩
      · obtain ⟨z, h1⟩ := k_tx_29 hpre
        exact ⟨(z, 0), fun q hq => by
          cases Option.some.inj (hq.symm.trans k_str_183)
          exact vk_R.of (hts _ (List.mem_of_getElem? (i := 869) (by decide +kernel))) h1, fun h => absurd h (by decide)⟩
      · obtain ⟨z, h1⟩ := k_tx_30 hpre
        exact ⟨(z, 0), fun q hq => by
          cases Option.some.inj (hq.symm.trans k_str_188)
          exact vk_R.of (hts _ (List.mem_of_getElem? (i := 874) (by decide +kernel))) h1, fun h => absurd h (by decide)⟩
      · obtain ⟨z, h1⟩ := k_tx_31 hpre
        exact ⟨(z, 0), fun q hq => by
          cases Option.some.inj (hq.symm.trans k_str_191)
          exact vk_R.of (hts _ (List.mem_of_getElem? (i := 875) (by decide +kernel))) h1, fun h => absurd h (by decide)⟩
      · obtain ⟨z, h1⟩ := k_tx_32 hpre
        exact ⟨(z, 0), fun q hq => by
          cases Option.some.inj (hq.symm.trans k_str_198)
          exact vk_R.of (hts _ (List.mem_of_getElem? (i := 887) (by decide +kernel))) h1, fun h => absurd h (by decide)⟩
      · obtain ⟨z, h1⟩ := k_tx_33 hpre
        exact ⟨(z, 0), fun q hq => by
          cases Option.some.inj (hq.symm.trans k_str_210)
          exact vk_R.of (hts _ (List.mem_of_getElem? (i := 899) (by decide +kernel))) h1, fun h => absurd h (by decide)⟩
      · obtain ⟨z, h1⟩ := k_tx_34 hpre
        exact ⟨(z, 0), fun q hq => by
          cases Option.some.inj (hq.symm.trans k_str_212)
          exact vk_R.of (hts _ (List.mem_of_getElem? (i := 900) (by decide +kernel))) h1, fun h => absurd h (by decide)⟩
      · obtain ⟨z, h1⟩ := k_tx_35 hpre
        exact ⟨(z, 0), fun q hq => by
          cases Option.some.inj (hq.symm.trans k_str_242)
          exact vk_R.of (hts _ (List.mem_of_getElem? (i := 957) (by decide +kernel))) h1, fun h => absurd h (by decide)⟩
      · obtain ⟨z, h1⟩ := k_tx_36 hpre
        exact ⟨(z, 0), fun q hq => by
          cases Option.some.inj (hq.symm.trans k_str_244)
          exact vk_R.of (hts _ (List.mem_of_getElem? (i := 965) (by decide +kernel))) h1, fun h => absurd h (by decide)⟩
      · obtain ⟨z, h1⟩ := k_tx_37 hpre
        exact ⟨(z, 0), fun q hq => by
          cases Option.some.inj (hq.symm.trans k_str_262)
          exact vk_R.of (hts _ (List.mem_of_getElem? (i := 999) (by decide +kernel))) h1, fun h => absurd h (by decide)⟩
      · obtain ⟨z, h1⟩ := k_tx_38 hpre
        exact ⟨(z, 0), fun q hq => by
          cases Option.some.inj (hq.symm.trans k_str_273)
          exact vk_R.of (hts _ (List.mem_of_getElem? (i := 1007) (by decide +kernel))) h1, fun h => absurd h (by decide)⟩
      · obtain ⟨z, h1⟩ := k_tx_39 hpre
        exact ⟨(z, 0), fun q hq => by
          cases Option.some.inj (hq.symm.trans k_str_279)
          exact vk_R.of (hts _ (List.mem_of_getElem? (i := 775) (by decide +kernel))) h1, fun h => absurd h (by decide)⟩
      · obtain ⟨z, h1⟩ := k_tx_40 hpre
        exact ⟨(z, 0), fun q hq => by
          cases Option.some.inj (hq.symm.trans k_str_281)
          exact vk_R.of (hts _ (List.mem_of_getElem? (i := 801) (by decide +kernel))) h1, fun h => absurd h (by decide)⟩
      · obtain ⟨z, h1⟩ := k_tx_41 hpre
        exact ⟨(z, 0), fun q hq => by
          cases Option.some.inj (hq.symm.trans k_str_287)
          exact vk_R.of (hts _ (List.mem_of_getElem? (i := 803) (by decide +kernel))) h1, fun h => absurd h (by decide)⟩
      · obtain ⟨z, h1⟩ := k_tx_42 hpre
        exact ⟨(z, 0), fun q hq => by
          cases Option.some.inj (hq.symm.trans k_str_292)
          exact vk_R.of (hts _ (List.mem_of_getElem? (i := 810) (by decide +kernel))) h1, fun h => absurd h (by decide)⟩
    · exact ⟨(0, 0), fun q hq => absurd (List.getElem?_eq_some_iff.mp hq).1 (by show ¬ i < 43; exact hi), fun h => absurd h (by omega)⟩
  obtain ⟨z, hz⟩ := Classical.axiomOfChoice h0
  refine ⟨fun i => (z i).1, fun i => (z i).2, ⟨fun i hi => (hz i).2 hi, fun i j hi hj e => ?_⟩, fun i q hq => (hz i).1 q hq⟩
  obtain ⟨-, -, a3, a4⟩ := (hz i).2 hi
  obtain ⟨-, -, b3, b4⟩ := (hz j).2 hj
  have e9 : (z i).1 = (z j).1 := e
  rw [e9] at a3
  have e2 := va_OF_inj a3 b3
  have e3 : (z i).2 = (z j).2 := by injection e2
  rw [e3] at a4
  obtain ⟨q1, q2⟩ := va_T_inj a4 b4 (rg_sl3 i hi) (rg_sl3 j hj)
  exact rg_sb_inj i hi j hj q1 (fun k _ hk => by have q := q2 k hk; injection q)
theorem rg_stat {args : Array Value} {s : State} {A : Nat → Prop} (hts : ∀ w ∈ lw_tbl, w.before args s = true) (hpre : ∀ w ∈ lw_flat, w.before args s = true) (hA : ∀ a : Nat, a < s.heap.size → ¬ A a) : va_Z "java/lang/String" "COMPACT_STRINGS" "Z" (.int 1) A s s.heap ∧ va_Zq "jdk/internal/util/Preconditions" "SIOOBE_FORMATTER" "Ljava/util/function/BiFunction;" A s s.heap ∧ vx_Zq Bundle.tN "UNASSIGNED_STACK" Bundle.steD A s s.heap ∧ vx_Zq Bundle.tN "SUPPRESSED_SENTINEL" Bundle.listD A s s.heap :=
  ⟨va_Zof (hts _ (List.mem_of_getElem? (i := 554) (by decide +kernel))) (hts _ (List.mem_of_getElem? (i := 80) (by decide +kernel))) (va_eqt (hpre _ (List.mem_of_getElem? (i := 4) (by decide +kernel)))) hA, va_Zqof (hts _ (List.mem_of_getElem? (i := 570) (by decide +kernel))) (hts _ (List.mem_of_getElem? (i := 82) (by decide +kernel))) (hpre _ (List.mem_of_getElem? (i := 5) (by decide +kernel))) hA, vx_Zqof (hts _ (List.mem_of_getElem? (i := 659) (by decide +kernel))) (hts _ (List.mem_of_getElem? (i := 71) (by decide +kernel))) (hpre _ (List.mem_of_getElem? (i := 9) (by decide +kernel))) hA, vx_Zqof (hts _ (List.mem_of_getElem? (i := 661) (by decide +kernel))) (hts _ (List.mem_of_getElem? (i := 71) (by decide +kernel))) (hpre _ (List.mem_of_getElem? (i := 10) (by decide +kernel))) hA⟩
theorem rg_ncp0 {args : Array Value} {s : State} (hpre : ∀ w ∈ lw_flat, w.before args s = true) : ∀ z ∈ lw_ncp, va_Nc z.1 z.2 s := by
  intro z hz
  simp only [lw_ncp, List.mem_cons, List.not_mem_nil, or_false] at hz
  rcases hz with rfl | rfl | rfl | rfl | rfl | rfl | rfl | rfl | rfl | rfl | rfl | rfl
  · exact va_Nc.of (hpre _ (List.mem_of_getElem? (i := 36) (by decide +kernel)))
  · exact va_Nc.of (hpre _ (List.mem_of_getElem? (i := 50) (by decide +kernel)))
  · exact va_Nc.of (hpre _ (List.mem_of_getElem? (i := 64) (by decide +kernel)))
  · exact va_Nc.of (hpre _ (List.mem_of_getElem? (i := 22) (by decide +kernel)))
  · exact va_Nc.of (hpre _ (List.mem_of_getElem? (i := 51) (by decide +kernel)))
  · exact va_Nc.of (hpre _ (List.mem_of_getElem? (i := 65) (by decide +kernel)))
  · exact va_Nc.of (hpre _ (List.mem_of_getElem? (i := 23) (by decide +kernel)))
  · exact va_Nc.of (hpre _ (List.mem_of_getElem? (i := 37) (by decide +kernel)))
  · exact va_Nc.of (hpre _ (List.mem_of_getElem? (i := 66) (by decide +kernel)))
  · exact va_Nc.of (hpre _ (List.mem_of_getElem? (i := 24) (by decide +kernel)))
  · exact va_Nc.of (hpre _ (List.mem_of_getElem? (i := 38) (by decide +kernel)))
  · exact va_Nc.of (hpre _ (List.mem_of_getElem? (i := 52) (by decide +kernel)))
theorem lw_nest_tab : ∀ w ∈ lw_nest, w.onTables = true := by decide +kernel
theorem lw_nest_in : ∀ w ∈ lw_nest, w ∈ lw_tbl := by decide +kernel
theorem lw_exw_in : ∀ w ∈ lw_exw, w ∈ lw_tbl := by decide +kernel
theorem rg_nest0 {args : Array Value} {s : State} (hts : ∀ w ∈ lw_tbl, w.before args s = true) : ∀ w ∈ lw_nest, va_Nw w s := by
  intro w hw
  exact va_Nw.of (lw_nest_tab w hw) (hts _ (lw_nest_in w hw))
theorem rg_exw0 {args : Array Value} {s : State} (hts : ∀ w ∈ lw_tbl, w.before args s = true) : ∀ w ∈ lw_exw, va_Nw w s := by
  intro w hw
  exact va_Nw.of (rg_exw_tab w hw) (hts _ (lw_exw_in w hw))
