/-! What holds at the law's entry: kinds, texts, statics. -/
def lw_flat : List Cond := flatC (Jvm.Cond.and given_1 narrow_1)
theorem rg_arrOf {s : State} {args : Array Value} {ty : FieldType} (hr : ∀ cA, s.vm.findClass ("[" ++ ty.toString) = some cA → va_RA s cA ty) (h : (Cond.arrayClass ty).before args s = true) : ∃ cA, ArrOfT s cA ty ∧ va_RA s cA ty := by
  obtain ⟨cA, kA, comp, h1, h2, h3⟩ := Cond.arrayClass_spec h
  exact ⟨cA, fun n z => ⟨fun k h => (by cases h), kA, h2, comp, h3⟩, hr cA h1⟩
theorem rg_known {s : State} {args : Array Value} (hts : ∀ w ∈ lw_gd, w.before args s = true) : ∃ D : va_G, ∀ (c : Nat) (q : vw_C), vwCl[c]? = some q → u_Kn s q.1 q.2.1 q.2.2 (D.1 c) (D.2 c) := by
  have h : ∀ c : Nat, ∃ z : ClassId × (Nat → Nat), ∀ q : vw_C, vwCl[c]? = some q → u_Kn s q.1 q.2.1 q.2.2 z.1 z.2 := by
    intro c
    by_cases hc : c < 11
    · have hc9 : c = 0 ∨ c = 1 ∨ c = 2 ∨ c = 3 ∨ c = 4 ∨ c = 5 ∨ c = 6 ∨ c = 7 ∨ c = 8 ∨ c = 9 ∨ c = 10 := by omega
      rcases hc9 with rfl | rfl | rfl | rfl | rfl | rfl | rfl | rfl | rfl | rfl | rfl
      · obtain ⟨a, b, hk⟩ := u_known (C := RX0) (T := TX0) hts k_lays_X0 (hts _ k_it_X0)
        exact ⟨(a, b), fun q hq => by cases Option.some.inj (hq.symm.trans cX0); exact hk⟩
      · obtain ⟨a, b, hk⟩ := u_known (C := RX1) (T := TX1) hts k_lays_X1 (hts _ k_it_X1)
        exact ⟨(a, b), fun q hq => by cases Option.some.inj (hq.symm.trans cX1); exact hk⟩
      · obtain ⟨a, b, hk⟩ := u_known (C := RX2) (T := TX2) hts k_lays_X2 (hts _ k_it_X2)
        exact ⟨(a, b), fun q hq => by cases Option.some.inj (hq.symm.trans cX2); exact hk⟩
      · obtain ⟨a, b, hk⟩ := u_known (C := RX3) (T := TX3) hts k_lays_X3 (hts _ k_it_X3)
        exact ⟨(a, b), fun q hq => by cases Option.some.inj (hq.symm.trans cX3); exact hk⟩
      · obtain ⟨a, b, hk⟩ := u_known (C := RX4) (T := TX4) hts k_lays_X4 (hts _ k_it_X4)
        exact ⟨(a, b), fun q hq => by cases Option.some.inj (hq.symm.trans cX4); exact hk⟩
      · obtain ⟨a, b, hk⟩ := u_known (C := RX5) (T := TX5) hts k_lays_X5 (hts _ k_it_X5)
        exact ⟨(a, b), fun q hq => by cases Option.some.inj (hq.symm.trans cX5); exact hk⟩
      · obtain ⟨a, b, hk⟩ := u_known (C := RX6) (T := TX6) hts k_lays_X6 (hts _ k_it_X6)
        exact ⟨(a, b), fun q hq => by cases Option.some.inj (hq.symm.trans cX6); exact hk⟩
      · obtain ⟨a, b, hk⟩ := u_known (C := RX7) (T := TX7) hts k_lays_X7 (hts _ k_it_X7)
        exact ⟨(a, b), fun q hq => by cases Option.some.inj (hq.symm.trans cX7); exact hk⟩
      · obtain ⟨a, b, hk⟩ := u_known (C := RX8) (T := TX8) hts k_lays_X8 (hts _ k_it_X8)
        exact ⟨(a, b), fun q hq => by cases Option.some.inj (hq.symm.trans cX8); exact hk⟩
      · obtain ⟨a, b, hk⟩ := u_known (C := RX9) (T := TX9) hts k_lays_X9 (hts _ k_it_X9)
        exact ⟨(a, b), fun q hq => by cases Option.some.inj (hq.symm.trans cX9); exact hk⟩
      · obtain ⟨a, b, hk⟩ := u_known (C := RX10) (T := TX10) hts k_lays_X10 (hts _ k_it_X10)
        exact ⟨(a, b), fun q hq => by cases Option.some.inj (hq.symm.trans cX10); exact hk⟩
    · obtain ⟨a, b, hk⟩ := u_known (C := RX0) (T := TX0) hts k_lays_X0 (hts _ k_it_X0)
      exact ⟨(a, b), fun q hq => absurd (List.getElem?_eq_some_iff.mp hq).1 (by show ¬ c < 11; exact hc)⟩
  obtain ⟨z, hz⟩ := Classical.axiomOfChoice h
  exact ⟨(fun c => (z c).1, fun c => (z c).2), fun c q hq => hz c q hq⟩
def rg_txt (args : Array Value) (s : State) (A : Nat → Prop) (n len : Nat) (b : List Int32) (q : Nat × Nat) : Prop :=
  (Term.string RX9 n).eval args s none [] s = some (.ref q.1) ∧ va_O "java/lang/String" q.1 A s s.heap ∧ va_OF "java/lang/String" "coder" "B" (.int 0) q.1 A s s.heap ∧ va_OF "java/lang/String" "value" "[B" (.ref q.2) q.1 A s s.heap ∧ va_T .byte q.2 len (fun j => .int (b.getD j 0)) A s s.heap
theorem rg_str1 {args : Array Value} {s : State} {A : Nat → Prop} (hpre : ∀ w ∈ lw_flat, w.before args s = true) (hA : ∀ a : Nat, a < s.heap.size → ¬ A a) (n len : Nat) (b : List Int32) (hlen : len < 2 ^ 31) (hex : Cond.exactly (.string RX9 n) "java/lang/String" ∈ lw_flat) (hco : Cond.eq (.field (.string RX9 n) "java/lang/String" "coder" "B") (.int 0) ∈ lw_flat) (har : Cond.arrayOf (.field (.string RX9 n) "java/lang/String" "value" "[B") .byte ∈ lw_flat) (hle : Cond.eq (.length (.field (.string RX9 n) "java/lang/String" "value" "[B")) (.int (Int32.ofNat len)) ∈ lw_flat)
    (hel : ∀ j : Nat, j < len → Cond.eq (.elem (.field (.string RX9 n) "java/lang/String" "value" "[B") (.int (Int32.ofNat j))) (.int (b.getD j 0)) ∈ lw_flat) : ∃ q : Nat × Nat, rg_txt args s A n len b q := by
  have z : ∀ i : Nat, i < 1 → i = 0 := fun i hi => by omega
  obtain ⟨adK, adV, hS, hE⟩ := vk_Sof (args := args) (s := s) (N := 1) (tm := fun _ => Term.string RX9 n) (len := [len]) (byt := [b]) (A := A) (fun i hi => by rw [z i hi]; exact hlen) (fun i hi => hpre _ hex) (fun i hi => hpre _ hco) (fun i hi => hpre _ har) (fun i hi => by rw [z i hi]; exact hpre _ hle) (fun i hi j hj => by rw [z i hi] at hj ⊢; exact hpre _ (hel j hj)) (fun i j hi hj hij => absurd ((z i hi).trans (z j hj).symm) hij) hA
  obtain ⟨h1, h2, h3, h4⟩ := hS.1 0 (by omega)
  exact ⟨(adK 0, adV 0), hE 0 (by omega), h1, h2, h3, h4⟩
theorem rg_str0 {args : Array Value} {s : State} (hpre : ∀ w ∈ lw_flat, w.before args s = true) (n : Nat) (hex : Cond.exactly (.string RX9 n) "java/lang/String" ∈ lw_flat) : ∃ q : Nat, (Term.string RX9 n).eval args s none [] s = some (.ref q) := by
  obtain ⟨a, c, cA, kA, q1, -⟩ := Cond.exactly_spec (args := args) (first := s) (o := none) (s := s) (idx := []) (t := Term.string RX9 n) (cls := "java/lang/String") (hpre _ hex)
  exact ⟨a, q1⟩
theorem k_tx_0 {args : Array Value} {s : State} {A : Nat → Prop} (hpre : ∀ w ∈ lw_flat, w.before args s = true) (hA : ∀ a : Nat, a < s.heap.size → ¬ A a) : ∃ q : Nat × Nat, rg_txt args s A 298 2 [46, 32] q :=
  rg_str1 hpre hA 298 2 [46, 32] (by decide) (List.mem_of_getElem? (i := 67) (by decide +kernel)) (List.mem_of_getElem? (i := 68) (by decide +kernel)) (List.mem_of_getElem? (i := 69) (by decide +kernel)) (List.mem_of_getElem? (i := 70) (by decide +kernel)) (fun j hj => by
    rcases (show j = 0 ∨ j = 1 by omega) with rfl | rfl
    · exact (List.mem_of_getElem? (i := 71) (by decide +kernel))
    · exact (List.mem_of_getElem? (i := 72) (by decide +kernel)))
theorem k_tx_1 {args : Array Value} {s : State} {A : Nat → Prop} (hpre : ∀ w ∈ lw_flat, w.before args s = true) (hA : ∀ a : Nat, a < s.heap.size → ¬ A a) : ∃ q : Nat × Nat, rg_txt args s A 303 1 [32] q :=
  rg_str1 hpre hA 303 1 [32] (by decide) (List.mem_of_getElem? (i := 73) (by decide +kernel)) (List.mem_of_getElem? (i := 74) (by decide +kernel)) (List.mem_of_getElem? (i := 75) (by decide +kernel)) (List.mem_of_getElem? (i := 76) (by decide +kernel)) (fun j hj => by
    rcases (show j = 0 by omega) with rfl
    · exact (List.mem_of_getElem? (i := 77) (by decide +kernel)))
theorem k_tx_2 {args : Array Value} {s : State} {A : Nat → Prop} (hpre : ∀ w ∈ lw_flat, w.before args s = true) (hA : ∀ a : Nat, a < s.heap.size → ¬ A a) : ∃ q : Nat × Nat, rg_txt args s A 308 2 [32, 40] q :=
  rg_str1 hpre hA 308 2 [32, 40] (by decide) (List.mem_of_getElem? (i := 78) (by decide +kernel)) (List.mem_of_getElem? (i := 79) (by decide +kernel)) (List.mem_of_getElem? (i := 80) (by decide +kernel)) (List.mem_of_getElem? (i := 81) (by decide +kernel)) (fun j hj => by
    rcases (show j = 0 ∨ j = 1 by omega) with rfl | rfl
    · exact (List.mem_of_getElem? (i := 82) (by decide +kernel))
    · exact (List.mem_of_getElem? (i := 83) (by decide +kernel)))
theorem k_tx_3 {args : Array Value} {s : State} {A : Nat → Prop} (hpre : ∀ w ∈ lw_flat, w.before args s = true) (hA : ∀ a : Nat, a < s.heap.size → ¬ A a) : ∃ q : Nat × Nat, rg_txt args s A 310 1 [41] q :=
  rg_str1 hpre hA 310 1 [41] (by decide) (List.mem_of_getElem? (i := 84) (by decide +kernel)) (List.mem_of_getElem? (i := 85) (by decide +kernel)) (List.mem_of_getElem? (i := 86) (by decide +kernel)) (List.mem_of_getElem? (i := 87) (by decide +kernel)) (fun j hj => by
    rcases (show j = 0 by omega) with rfl
    · exact (List.mem_of_getElem? (i := 88) (by decide +kernel)))
theorem k_tx_4 {args : Array Value} {s : State} {A : Nat → Prop} (hpre : ∀ w ∈ lw_flat, w.before args s = true) (hA : ∀ a : Nat, a < s.heap.size → ¬ A a) : ∃ q : Nat × Nat, rg_txt args s A 320 2 [32, 91] q :=
  rg_str1 hpre hA 320 2 [32, 91] (by decide) (List.mem_of_getElem? (i := 89) (by decide +kernel)) (List.mem_of_getElem? (i := 90) (by decide +kernel)) (List.mem_of_getElem? (i := 91) (by decide +kernel)) (List.mem_of_getElem? (i := 92) (by decide +kernel)) (fun j hj => by
    rcases (show j = 0 ∨ j = 1 by omega) with rfl | rfl
    · exact (List.mem_of_getElem? (i := 93) (by decide +kernel))
    · exact (List.mem_of_getElem? (i := 94) (by decide +kernel)))
theorem k_tx_5 {args : Array Value} {s : State} {A : Nat → Prop} (hpre : ∀ w ∈ lw_flat, w.before args s = true) (hA : ∀ a : Nat, a < s.heap.size → ¬ A a) : ∃ q : Nat × Nat, rg_txt args s A 334 0 [] q :=
  rg_str1 hpre hA 334 0 [] (by decide) (List.mem_of_getElem? (i := 95) (by decide +kernel)) (List.mem_of_getElem? (i := 96) (by decide +kernel)) (List.mem_of_getElem? (i := 97) (by decide +kernel)) (List.mem_of_getElem? (i := 98) (by decide +kernel)) (fun j hj => absurd hj (Nat.not_lt_zero j))
theorem k_tx_6 {args : Array Value} {s : State} {A : Nat → Prop} (hpre : ∀ w ∈ lw_flat, w.before args s = true) (hA : ∀ a : Nat, a < s.heap.size → ¬ A a) : ∃ q : Nat × Nat, rg_txt args s A 336 3 [83, 67, 80] q :=
  rg_str1 hpre hA 336 3 [83, 67, 80] (by decide) (List.mem_of_getElem? (i := 99) (by decide +kernel)) (List.mem_of_getElem? (i := 100) (by decide +kernel)) (List.mem_of_getElem? (i := 101) (by decide +kernel)) (List.mem_of_getElem? (i := 102) (by decide +kernel)) (fun j hj => by
    rcases (show j = 0 ∨ j = 1 ∨ j = 2 by omega) with rfl | rfl | rfl
    · exact (List.mem_of_getElem? (i := 103) (by decide +kernel))
    · exact (List.mem_of_getElem? (i := 104) (by decide +kernel))
    · exact (List.mem_of_getElem? (i := 105) (by decide +kernel)))
theorem k_tx_7 {args : Array Value} {s : State} {A : Nat → Prop} (hpre : ∀ w ∈ lw_flat, w.before args s = true) (hA : ∀ a : Nat, a < s.heap.size → ¬ A a) : ∃ q : Nat × Nat, rg_txt args s A 338 3 [68, 78, 83] q :=
  rg_str1 hpre hA 338 3 [68, 78, 83] (by decide) (List.mem_of_getElem? (i := 106) (by decide +kernel)) (List.mem_of_getElem? (i := 107) (by decide +kernel)) (List.mem_of_getElem? (i := 108) (by decide +kernel)) (List.mem_of_getElem? (i := 109) (by decide +kernel)) (fun j hj => by
    rcases (show j = 0 ∨ j = 1 ∨ j = 2 by omega) with rfl | rfl | rfl
    · exact (List.mem_of_getElem? (i := 110) (by decide +kernel))
    · exact (List.mem_of_getElem? (i := 111) (by decide +kernel))
    · exact (List.mem_of_getElem? (i := 112) (by decide +kernel)))
theorem k_tx_8 {args : Array Value} {s : State} {A : Nat → Prop} (hpre : ∀ w ∈ lw_flat, w.before args s = true) (hA : ∀ a : Nat, a < s.heap.size → ¬ A a) : ∃ q : Nat × Nat, rg_txt args s A 340 3 [79, 67, 83] q :=
  rg_str1 hpre hA 340 3 [79, 67, 83] (by decide) (List.mem_of_getElem? (i := 113) (by decide +kernel)) (List.mem_of_getElem? (i := 114) (by decide +kernel)) (List.mem_of_getElem? (i := 115) (by decide +kernel)) (List.mem_of_getElem? (i := 116) (by decide +kernel)) (fun j hj => by
    rcases (show j = 0 ∨ j = 1 ∨ j = 2 by omega) with rfl | rfl | rfl
    · exact (List.mem_of_getElem? (i := 117) (by decide +kernel))
    · exact (List.mem_of_getElem? (i := 118) (by decide +kernel))
    · exact (List.mem_of_getElem? (i := 119) (by decide +kernel)))
theorem k_tx_9 {args : Array Value} {s : State} {A : Nat → Prop} (hpre : ∀ w ∈ lw_flat, w.before args s = true) (hA : ∀ a : Nat, a < s.heap.size → ¬ A a) : ∃ q : Nat × Nat, rg_txt args s A 342 3 [82, 69, 84] q :=
  rg_str1 hpre hA 342 3 [82, 69, 84] (by decide) (List.mem_of_getElem? (i := 120) (by decide +kernel)) (List.mem_of_getElem? (i := 121) (by decide +kernel)) (List.mem_of_getElem? (i := 122) (by decide +kernel)) (List.mem_of_getElem? (i := 123) (by decide +kernel)) (fun j hj => by
    rcases (show j = 0 ∨ j = 1 ∨ j = 2 by omega) with rfl | rfl | rfl
    · exact (List.mem_of_getElem? (i := 124) (by decide +kernel))
    · exact (List.mem_of_getElem? (i := 125) (by decide +kernel))
    · exact (List.mem_of_getElem? (i := 126) (by decide +kernel)))
theorem k_tx_10 {args : Array Value} {s : State} {A : Nat → Prop} (hpre : ∀ w ∈ lw_flat, w.before args s = true) (hA : ∀ a : Nat, a < s.heap.size → ¬ A a) : ∃ q : Nat × Nat, rg_txt args s A 344 3 [68, 83, 81] q :=
  rg_str1 hpre hA 344 3 [68, 83, 81] (by decide) (List.mem_of_getElem? (i := 127) (by decide +kernel)) (List.mem_of_getElem? (i := 128) (by decide +kernel)) (List.mem_of_getElem? (i := 129) (by decide +kernel)) (List.mem_of_getElem? (i := 130) (by decide +kernel)) (fun j hj => by
    rcases (show j = 0 ∨ j = 1 ∨ j = 2 by omega) with rfl | rfl | rfl
    · exact (List.mem_of_getElem? (i := 131) (by decide +kernel))
    · exact (List.mem_of_getElem? (i := 132) (by decide +kernel))
    · exact (List.mem_of_getElem? (i := 133) (by decide +kernel)))
theorem k_tx_11 {args : Array Value} {s : State} {A : Nat → Prop} (hpre : ∀ w ∈ lw_flat, w.before args s = true) (hA : ∀ a : Nat, a < s.heap.size → ¬ A a) : ∃ q : Nat × Nat, rg_txt args s A 346 3 [68, 78, 69] q :=
  rg_str1 hpre hA 346 3 [68, 78, 69] (by decide) (List.mem_of_getElem? (i := 134) (by decide +kernel)) (List.mem_of_getElem? (i := 135) (by decide +kernel)) (List.mem_of_getElem? (i := 136) (by decide +kernel)) (List.mem_of_getElem? (i := 137) (by decide +kernel)) (fun j hj => by
    rcases (show j = 0 ∨ j = 1 ∨ j = 2 by omega) with rfl | rfl | rfl
    · exact (List.mem_of_getElem? (i := 138) (by decide +kernel))
    · exact (List.mem_of_getElem? (i := 139) (by decide +kernel))
    · exact (List.mem_of_getElem? (i := 140) (by decide +kernel)))
theorem k_tx_12 {args : Array Value} {s : State} {A : Nat → Prop} (hpre : ∀ w ∈ lw_flat, w.before args s = true) (hA : ∀ a : Nat, a < s.heap.size → ¬ A a) : ∃ q : Nat × Nat, rg_txt args s A 348 3 [82, 68, 65] q :=
  rg_str1 hpre hA 348 3 [82, 68, 65] (by decide) (List.mem_of_getElem? (i := 141) (by decide +kernel)) (List.mem_of_getElem? (i := 142) (by decide +kernel)) (List.mem_of_getElem? (i := 143) (by decide +kernel)) (List.mem_of_getElem? (i := 144) (by decide +kernel)) (fun j hj => by
    rcases (show j = 0 ∨ j = 1 ∨ j = 2 by omega) with rfl | rfl | rfl
    · exact (List.mem_of_getElem? (i := 145) (by decide +kernel))
    · exact (List.mem_of_getElem? (i := 146) (by decide +kernel))
    · exact (List.mem_of_getElem? (i := 147) (by decide +kernel)))
theorem k_tx_13 {args : Array Value} {s : State} {A : Nat → Prop} (hpre : ∀ w ∈ lw_flat, w.before args s = true) (hA : ∀ a : Nat, a < s.heap.size → ¬ A a) : ∃ q : Nat × Nat, rg_txt args s A 350 3 [82, 68, 66] q :=
  rg_str1 hpre hA 350 3 [82, 68, 66] (by decide) (List.mem_of_getElem? (i := 148) (by decide +kernel)) (List.mem_of_getElem? (i := 149) (by decide +kernel)) (List.mem_of_getElem? (i := 150) (by decide +kernel)) (List.mem_of_getElem? (i := 151) (by decide +kernel)) (fun j hj => by
    rcases (show j = 0 ∨ j = 1 ∨ j = 2 by omega) with rfl | rfl | rfl
    · exact (List.mem_of_getElem? (i := 152) (by decide +kernel))
    · exact (List.mem_of_getElem? (i := 153) (by decide +kernel))
    · exact (List.mem_of_getElem? (i := 154) (by decide +kernel)))
theorem k_tx_14 {args : Array Value} {s : State} {A : Nat → Prop} (hpre : ∀ w ∈ lw_flat, w.before args s = true) (hA : ∀ a : Nat, a < s.heap.size → ¬ A a) : ∃ q : Nat × Nat, rg_txt args s A 352 3 [82, 68, 71] q :=
  rg_str1 hpre hA 352 3 [82, 68, 71] (by decide) (List.mem_of_getElem? (i := 155) (by decide +kernel)) (List.mem_of_getElem? (i := 156) (by decide +kernel)) (List.mem_of_getElem? (i := 157) (by decide +kernel)) (List.mem_of_getElem? (i := 158) (by decide +kernel)) (fun j hj => by
    rcases (show j = 0 ∨ j = 1 ∨ j = 2 by omega) with rfl | rfl | rfl
    · exact (List.mem_of_getElem? (i := 159) (by decide +kernel))
    · exact (List.mem_of_getElem? (i := 160) (by decide +kernel))
    · exact (List.mem_of_getElem? (i := 161) (by decide +kernel)))
theorem k_tx_15 {args : Array Value} {s : State} {A : Nat → Prop} (hpre : ∀ w ∈ lw_flat, w.before args s = true) (hA : ∀ a : Nat, a < s.heap.size → ¬ A a) : ∃ q : Nat × Nat, rg_txt args s A 354 3 [68, 78, 67] q :=
  rg_str1 hpre hA 354 3 [68, 78, 67] (by decide) (List.mem_of_getElem? (i := 162) (by decide +kernel)) (List.mem_of_getElem? (i := 163) (by decide +kernel)) (List.mem_of_getElem? (i := 164) (by decide +kernel)) (List.mem_of_getElem? (i := 165) (by decide +kernel)) (fun j hj => by
    rcases (show j = 0 ∨ j = 1 ∨ j = 2 by omega) with rfl | rfl | rfl
    · exact (List.mem_of_getElem? (i := 166) (by decide +kernel))
    · exact (List.mem_of_getElem? (i := 167) (by decide +kernel))
    · exact (List.mem_of_getElem? (i := 168) (by decide +kernel)))
theorem k_tx_16 {args : Array Value} {s : State} {A : Nat → Prop} (hpre : ∀ w ∈ lw_flat, w.before args s = true) (hA : ∀ a : Nat, a < s.heap.size → ¬ A a) : ∃ q : Nat × Nat, rg_txt args s A 332 1 [93] q :=
  rg_str1 hpre hA 332 1 [93] (by decide) (List.mem_of_getElem? (i := 169) (by decide +kernel)) (List.mem_of_getElem? (i := 170) (by decide +kernel)) (List.mem_of_getElem? (i := 171) (by decide +kernel)) (List.mem_of_getElem? (i := 172) (by decide +kernel)) (fun j hj => by
    rcases (show j = 0 by omega) with rfl
    · exact (List.mem_of_getElem? (i := 173) (by decide +kernel)))
theorem k_tx_17 {args : Array Value} {s : State} {A : Nat → Prop} (hpre : ∀ w ∈ lw_flat, w.before args s = true) (hA : ∀ a : Nat, a < s.heap.size → ¬ A a) : ∃ q : Nat × Nat, rg_txt args s A 318 1 [10] q :=
  rg_str1 hpre hA 318 1 [10] (by decide) (List.mem_of_getElem? (i := 174) (by decide +kernel)) (List.mem_of_getElem? (i := 175) (by decide +kernel)) (List.mem_of_getElem? (i := 176) (by decide +kernel)) (List.mem_of_getElem? (i := 177) (by decide +kernel)) (fun j hj => by
    rcases (show j = 0 by omega) with rfl
    · exact (List.mem_of_getElem? (i := 178) (by decide +kernel)))
theorem k_tx_18 {args : Array Value} {s : State} (hpre : ∀ w ∈ lw_flat, w.before args s = true) : ∃ q : Nat, (Term.string RX9 87).eval args s none [] s = some (.ref q) := rg_str0 hpre 87 (List.mem_of_getElem? (i := 179) (by decide +kernel))
theorem k_tx_19 {args : Array Value} {s : State} (hpre : ∀ w ∈ lw_flat, w.before args s = true) : ∃ q : Nat, (Term.string RX9 98).eval args s none [] s = some (.ref q) := rg_str0 hpre 98 (List.mem_of_getElem? (i := 201) (by decide +kernel))
theorem k_tx_20 {args : Array Value} {s : State} (hpre : ∀ w ∈ lw_flat, w.before args s = true) : ∃ q : Nat, (Term.string RX9 107).eval args s none [] s = some (.ref q) := rg_str0 hpre 107 (List.mem_of_getElem? (i := 223) (by decide +kernel))
theorem k_tx_21 {args : Array Value} {s : State} (hpre : ∀ w ∈ lw_flat, w.before args s = true) : ∃ q : Nat, (Term.string RX9 114).eval args s none [] s = some (.ref q) := rg_str0 hpre 114 (List.mem_of_getElem? (i := 248) (by decide +kernel))
theorem k_tx_22 {args : Array Value} {s : State} (hpre : ∀ w ∈ lw_flat, w.before args s = true) : ∃ q : Nat, (Term.string RX9 117).eval args s none [] s = some (.ref q) := rg_str0 hpre 117 (List.mem_of_getElem? (i := 290) (by decide +kernel))
theorem k_tx_23 {args : Array Value} {s : State} (hpre : ∀ w ∈ lw_flat, w.before args s = true) : ∃ q : Nat, (Term.string RX9 144).eval args s none [] s = some (.ref q) := rg_str0 hpre 144 (List.mem_of_getElem? (i := 410) (by decide +kernel))
theorem k_tx_24 {args : Array Value} {s : State} (hpre : ∀ w ∈ lw_flat, w.before args s = true) : ∃ q : Nat, (Term.string RX9 153).eval args s none [] s = some (.ref q) := rg_str0 hpre 153 (List.mem_of_getElem? (i := 426) (by decide +kernel))
theorem k_tx_25 {args : Array Value} {s : State} (hpre : ∀ w ∈ lw_flat, w.before args s = true) : ∃ q : Nat, (Term.string RX9 155).eval args s none [] s = some (.ref q) := rg_str0 hpre 155 (List.mem_of_getElem? (i := 448) (by decide +kernel))
theorem k_tx_26 {args : Array Value} {s : State} (hpre : ∀ w ∈ lw_flat, w.before args s = true) : ∃ q : Nat, (Term.string RX9 168).eval args s none [] s = some (.ref q) := rg_str0 hpre 168 (List.mem_of_getElem? (i := 470) (by decide +kernel))
theorem k_tx_27 {args : Array Value} {s : State} (hpre : ∀ w ∈ lw_flat, w.before args s = true) : ∃ q : Nat, (Term.string RX9 175).eval args s none [] s = some (.ref q) := rg_str0 hpre 175 (List.mem_of_getElem? (i := 496) (by decide +kernel))
theorem k_tx_28 {args : Array Value} {s : State} (hpre : ∀ w ∈ lw_flat, w.before args s = true) : ∃ q : Nat, (Term.string RX9 181).eval args s none [] s = some (.ref q) := rg_str0 hpre 181 (List.mem_of_getElem? (i := 516) (by decide +kernel))
theorem k_tx_29 {args : Array Value} {s : State} (hpre : ∀ w ∈ lw_flat, w.before args s = true) : ∃ q : Nat, (Term.string RX9 183).eval args s none [] s = some (.ref q) := rg_str0 hpre 183 (List.mem_of_getElem? (i := 542) (by decide +kernel))
theorem k_tx_30 {args : Array Value} {s : State} (hpre : ∀ w ∈ lw_flat, w.before args s = true) : ∃ q : Nat, (Term.string RX9 188).eval args s none [] s = some (.ref q) := rg_str0 hpre 188 (List.mem_of_getElem? (i := 558) (by decide +kernel))
theorem k_tx_31 {args : Array Value} {s : State} (hpre : ∀ w ∈ lw_flat, w.before args s = true) : ∃ q : Nat, (Term.string RX9 191).eval args s none [] s = some (.ref q) := rg_str0 hpre 191 (List.mem_of_getElem? (i := 587) (by decide +kernel))
theorem k_tx_32 {args : Array Value} {s : State} (hpre : ∀ w ∈ lw_flat, w.before args s = true) : ∃ q : Nat, (Term.string RX9 198).eval args s none [] s = some (.ref q) := rg_str0 hpre 198 (List.mem_of_getElem? (i := 608) (by decide +kernel))
theorem k_tx_33 {args : Array Value} {s : State} (hpre : ∀ w ∈ lw_flat, w.before args s = true) : ∃ q : Nat, (Term.string RX9 210).eval args s none [] s = some (.ref q) := rg_str0 hpre 210 (List.mem_of_getElem? (i := 623) (by decide +kernel))
theorem k_tx_34 {args : Array Value} {s : State} (hpre : ∀ w ∈ lw_flat, w.before args s = true) : ∃ q : Nat, (Term.string RX9 212).eval args s none [] s = some (.ref q) := rg_str0 hpre 212 (List.mem_of_getElem? (i := 667) (by decide +kernel))
theorem k_tx_35 {args : Array Value} {s : State} (hpre : ∀ w ∈ lw_flat, w.before args s = true) : ∃ q : Nat, (Term.string RX9 242).eval args s none [] s = some (.ref q) := rg_str0 hpre 242 (List.mem_of_getElem? (i := 684) (by decide +kernel))
theorem k_tx_36 {args : Array Value} {s : State} (hpre : ∀ w ∈ lw_flat, w.before args s = true) : ∃ q : Nat, (Term.string RX9 244).eval args s none [] s = some (.ref q) := rg_str0 hpre 244 (List.mem_of_getElem? (i := 700) (by decide +kernel))
theorem k_tx_37 {args : Array Value} {s : State} (hpre : ∀ w ∈ lw_flat, w.before args s = true) : ∃ q : Nat, (Term.string RX9 262).eval args s none [] s = some (.ref q) := rg_str0 hpre 262 (List.mem_of_getElem? (i := 718) (by decide +kernel))
theorem k_tx_38 {args : Array Value} {s : State} (hpre : ∀ w ∈ lw_flat, w.before args s = true) : ∃ q : Nat, (Term.string RX9 273).eval args s none [] s = some (.ref q) := rg_str0 hpre 273 (List.mem_of_getElem? (i := 745) (by decide +kernel))
theorem k_tx_39 {args : Array Value} {s : State} (hpre : ∀ w ∈ lw_flat, w.before args s = true) : ∃ q : Nat, (Term.string RX9 279).eval args s none [] s = some (.ref q) := rg_str0 hpre 279 (List.mem_of_getElem? (i := 312) (by decide +kernel))
theorem k_tx_40 {args : Array Value} {s : State} (hpre : ∀ w ∈ lw_flat, w.before args s = true) : ∃ q : Nat, (Term.string RX9 281).eval args s none [] s = some (.ref q) := rg_str0 hpre 281 (List.mem_of_getElem? (i := 328) (by decide +kernel))
theorem k_tx_41 {args : Array Value} {s : State} (hpre : ∀ w ∈ lw_flat, w.before args s = true) : ∃ q : Nat, (Term.string RX9 287).eval args s none [] s = some (.ref q) := rg_str0 hpre 287 (List.mem_of_getElem? (i := 344) (by decide +kernel))
theorem k_tx_42 {args : Array Value} {s : State} (hpre : ∀ w ∈ lw_flat, w.before args s = true) : ∃ q : Nat, (Term.string RX9 292).eval args s none [] s = some (.ref q) := rg_str0 hpre 292 (List.mem_of_getElem? (i := 375) (by decide +kernel))
