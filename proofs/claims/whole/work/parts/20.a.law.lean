/-! Rows of the law's own walk. -/
section RJL
variable {κ : rg_K} {Γ : rg_C} {cc : ByteArray} {own : String} {nL fr lo cm sm cells slots pc : Nat} {lv lv' : List (Nat × Value)} {rest st : List Value} {w : va_W}
theorem rg_Jiadd (F : rg_FJ κ Γ cc own nL fr lo cm sm) {a b : Int} (d : decode cc pc = .ok (.iadd, 1)) (kk : rg_J κ Γ nL cells slots (pc + 1) lv (.int (rg_I (a + b)) :: rest) w) : rg_J κ Γ nL cells slots pc lv (.int (rg_I b) :: .int (rg_I a) :: rest) w := by
  obtain ⟨p, e, R, s, m, args, below, meth, c, A, H0, Q⟩ := Γ
  obtain ⟨hx, hb, -⟩ := F
  intro H locs ls hP hS h
  refine lv_iadd hx hb d ?_
  rw [rg_I_add]
  exact kk H locs ls hP hS h
theorem rg_Jisub (F : rg_FJ κ Γ cc own nL fr lo cm sm) {a b : Int} (d : decode cc pc = .ok (.isub, 1)) (kk : rg_J κ Γ nL cells slots (pc + 1) lv (.int (rg_I (a - b)) :: rest) w) : rg_J κ Γ nL cells slots pc lv (.int (rg_I b) :: .int (rg_I a) :: rest) w := by
  obtain ⟨p, e, R, s, m, args, below, meth, c, A, H0, Q⟩ := Γ
  obtain ⟨hx, hb, -⟩ := F
  intro H locs ls hP hS h
  refine lv_isub hx hb d ?_
  rw [rg_I_sub]
  exact kk H locs ls hP hS h
theorem rg_Jiand (F : rg_FJ κ Γ cc own nL fr lo cm sm) {x y : Int32} (d : decode cc pc = .ok (.iand, 1)) (kk : rg_J κ Γ nL cells slots (pc + 1) lv (.int (x &&& y) :: rest) w) : rg_J κ Γ nL cells slots pc lv (.int y :: .int x :: rest) w := by
  obtain ⟨p, e, R, s, m, args, below, meth, c, A, H0, Q⟩ := Γ
  obtain ⟨hx, hb, -⟩ := F
  intro H locs ls hP hS h
  exact lv_iand hx hb d (kk H locs ls hP hS h)
theorem rg_Jbipush (F : rg_FJ κ Γ cc own nL fr lo cm sm) {n : Int} (d : decode cc pc = .ok (.bipush n, 2)) (hn : (Int8.ofInt n).toInt32 = rg_I n) (kk : rg_J κ Γ nL cells slots (pc + 2) lv (.int (rg_I n) :: rest) w) : rg_J κ Γ nL cells slots pc lv rest w := by
  obtain ⟨p, e, R, s, m, args, below, meth, c, A, H0, Q⟩ := Γ
  obtain ⟨hx, hb, -⟩ := F
  intro H locs ls hP hS h
  exact lv_bipush hx hb d hn (kk H locs ls hP hS h)
theorem rg_Jiinc (F : rg_FJ κ Γ cc own nL fr lo cm sm) {i : Nat} {n x v : Int} (q : Nat) (lv' : List (Nat × Value)) (d : decode cc pc = .ok (.iinc i n, 3)) (hq : lv[q]? = some (i, .int (rg_I x))) (hv : x + n = v) (hn : i < nL) (hl : (i, Value.int (rg_I v)) :: lv.filter (fun q => !(q.1 == i) && !(q.1 + 1 == i && q.2.category == 2)) = lv') (kk : rg_J κ Γ nL cells slots (pc + 3) lv' rest w) : rg_J κ Γ nL cells slots pc lv rest w := by
  obtain ⟨p, e, R, s, m, args, below, meth, c, A, H0, Q⟩ := Γ
  obtain ⟨hx, hb, -⟩ := F
  intro H locs ls hP hS h
  exact lv_iinc (v := rg_I v) hx hb d h hq (by rw [← hv, ← rg_I_add]; rfl) hn hl (fun ls' h' => kk H locs ls' hP hS h')
theorem rg_Jicmp_gt (F : rg_FJ κ Γ cc own nL fr lo cm sm) {a b off : Int} (tgt : Nat) (d : decode cc pc = .ok (.if_icmp .gt off, 3)) (ht : (pc : Int) + off = (tgt : Int)) (ha : rg_Rg a) (hb2 : rg_Rg b) (kt : b < a → rg_J κ Γ nL cells slots tgt lv rest w) (kf : a ≤ b → rg_J κ Γ nL cells slots (pc + 3) lv rest w) : rg_J κ Γ nL cells slots pc lv (.int (rg_I b) :: .int (rg_I a) :: rest) w := by
  obtain ⟨p, e, R, s, m, args, below, meth, c, A, H0, Q⟩ := Γ
  obtain ⟨hx, hb, -⟩ := F
  intro H locs ls hP hS h
  exact lv_icmp_gt hx hb d ht (fun z => kt ((rg_I_lt hb2 ha).mp z) H locs ls hP hS h) (fun z => kf (by rw [rg_I_lt hb2 ha] at z; omega) H locs ls hP hS h)
theorem rg_Jicmp_same (F : rg_FJ κ Γ cc own nL fr lo cm sm) {x : Int32} {off : Int} (tgt : Nat) (d : decode cc pc = .ok (.if_icmp .eq off, 3)) (ht : (pc : Int) + off = (tgt : Int)) (kt : rg_J κ Γ nL cells slots tgt lv rest w) : rg_J κ Γ nL cells slots pc lv (.int x :: .int x :: rest) w := by
  obtain ⟨p, e, R, s, m, args, below, meth, c, A, H0, Q⟩ := Γ
  obtain ⟨hx, hb, -⟩ := F
  intro H locs ls hP hS h
  exact lv_icmp_eq hx hb d ht (fun _ => kt H locs ls hP hS h) (fun z => absurd rfl z)
theorem rg_Jlcmp_same (F : rg_FJ κ Γ cc own nL fr lo cm sm) {x y : Int64} (d : decode cc pc = .ok (.lcmp, 1)) (hxy : x = y) (kk : rg_J κ Γ nL cells slots (pc + 1) lv (.int (rg_I 0) :: rest) w) : rg_J κ Γ nL cells slots pc lv (.long y :: .long x :: rest) w := by
  obtain ⟨p, e, R, s, m, args, below, meth, c, A, H0, Q⟩ := Γ
  obtain ⟨hx, hb, -⟩ := F
  intro H locs ls hP hS h
  subst hxy
  refine W.lcmp hx hb d ?_
  have e1 : lg_cmp x x = rg_I 0 := by
    rw [rg_I_0]; simp [lg_cmp]
  rw [e1]
  exact kk H locs ls hP hS h
theorem rg_Jdcmp_same (F : rg_FJ κ Γ cc own nL fr lo cm sm) {x : UInt64} {op : CmpOp} (d : decode cc pc = .ok (.dcmp op, 1)) (hxx : FP.dcmp x x = some .eq) (h0 : Op.cmpValue (some .eq) op = 0) (kk : rg_J κ Γ nL cells slots (pc + 1) lv (.int (rg_I 0) :: rest) w) : rg_J κ Γ nL cells slots pc lv (.double x :: .double x :: rest) w := by
  obtain ⟨p, e, R, s, m, args, below, meth, c, A, H0, Q⟩ := Γ
  obtain ⟨hx, hb, -⟩ := F
  intro H locs ls hP hS h
  refine lv_dcmp hx hb d ?_
  rw [hxx, h0, ← rg_I_0]
  exact kk H locs ls hP hS h
theorem rg_Jdload (F : rg_FJ κ Γ cc own nL fr lo cm sm) (q i : Nat) {x : UInt64} (d : decode cc pc = .ok (.dload i, 2)) (hq : lv[q]? = some (i, .double x)) (kk : rg_J κ Γ nL cells slots (pc + 2) lv (.double x :: rest) w) : rg_J κ Γ nL cells slots pc lv rest w := by
  obtain ⟨p, e, R, s, m, args, below, meth, c, A, H0, Q⟩ := Γ
  obtain ⟨hx, hb, -⟩ := F
  intro H locs ls hP hS h
  exact lv_dload hx hb d (lv_at h q hq) (kk H locs ls hP hS h)
theorem rg_Jdstore (F : rg_FJ κ Γ cc own nL fr lo cm sm) (lv' : List (Nat × Value)) {i : Nat} {x : UInt64} (d : decode cc pc = .ok (.dstore i, 2)) (hn : i + 1 < nL) (hl : (i, Value.double x) :: lv.filter (fun q => !(q.1 == i) && (!(q.1 == i + 1) && !(q.1 + 1 == i && q.2.category == 2))) = lv') (kk : rg_J κ Γ nL cells slots (pc + 2) lv' rest w) : rg_J κ Γ nL cells slots pc lv (.double x :: rest) w := by
  obtain ⟨p, e, R, s, m, args, below, meth, c, A, H0, Q⟩ := Γ
  obtain ⟨hx, hb, -⟩ := F
  intro H locs ls hP hS h
  exact lv_dstore hx hb d h hn hl (fun ls' h' => kk H locs ls' hP hS h')
theorem rg_Jlald (F : rg_FJ κ Γ cc own nL fr lo cm sm) {co : ClassId × ClassId} (hKo : va_K κ.2.1 vwCl (rg_tyo co) Γ.2.2.2.1) {o : Nat} {f : Nat → Int64} (hmem : rg_eL co o f ∈ w) (d : decode cc pc = .ok (.laload, 1)) (kk : rg_J κ Γ nL cells slots (pc + 1) lv (.long (f 0) :: rest) w) : rg_J κ Γ nL cells slots pc lv (.int (rg_I 0) :: .ref o :: rest) w := by
  obtain ⟨p, e, R, s, m, args, below, meth, c, A, H0, Q⟩ := Γ
  obtain ⟨hx, hb, -⟩ := F
  intro H locs ls hP hS h
  have h1 : va_P κ.2.1 vwCl [rg_eL co o f] H := rg_P_mem.mpr (fun q hq => by
    rw [List.mem_singleton] at hq
    rw [hq]; exact rg_P_mem.mp hP _ hmem)
  refine va_lald hx hb hKo h1 0 0 rfl rfl rg_I0in d ?_
  rw [rg_I0c]
  exact kk H locs ls hP hS h
theorem rg_Jdald (F : rg_FJ κ Γ cc own nL fr lo cm sm) {co : ClassId × ClassId} (hKo : va_K κ.2.1 vwCl (rg_tyo co) Γ.2.2.2.1) {o : Nat} {f : Nat → UInt64} (hmem : rg_eD co o f ∈ w) (d : decode cc pc = .ok (.daload, 1)) (kk : rg_J κ Γ nL cells slots (pc + 1) lv (.double (f 0) :: rest) w) : rg_J κ Γ nL cells slots pc lv (.int (rg_I 0) :: .ref o :: rest) w := by
  obtain ⟨p, e, R, s, m, args, below, meth, c, A, H0, Q⟩ := Γ
  obtain ⟨hx, hb, -⟩ := F
  intro H locs ls hP hS h
  have h1 : va_P κ.2.1 vwCl [rg_eD co o f] H := rg_P_mem.mpr (fun q hq => by
    rw [List.mem_singleton] at hq
    rw [hq]; exact rg_P_mem.mp hP _ hmem)
  refine va_dald hx hb hKo h1 0 1 rfl rfl rg_I0in d ?_
  rw [rg_I0c]
  exact kk H locs ls hP hS h
/-- the script -/
def rg_scr (Γ : rg_C) (b L : Nat) (xs : Nat → Int32) : Prop := va_X b L xs Γ.2.2.2.1 Γ.2.2.2.2.2.2.2.2.2.2.1 ∧ b < Array.size Γ.2.2.2.2.2.2.2.2.2.2.1 ∧ ¬ Γ.2.2.2.2.2.2.2.2.2.1 b ∧ L ≤ 2560
theorem rg_Jsld (F : rg_FJ κ Γ cc own nL fr lo cm sm) {b L : Nat} {xs : Nat → Int32} (hS0 : rg_scr Γ b L xs) {i : Nat} (hi : i < L) (d : decode cc pc = .ok (.iaload, 1)) (kk : rg_J κ Γ nL cells slots (pc + 1) lv (.int (xs i) :: rest) w) : rg_J κ Γ nL cells slots pc lv (.int (rg_I (i : Int)) :: .ref b :: rest) w := by
  obtain ⟨p, e, R, s, m, args, below, meth, c, A, H0, Q⟩ := Γ
  obtain ⟨hx, hb, -⟩ := F
  obtain ⟨h1, h2, h3, h4⟩ := hS0
  intro H locs ls hP hS h
  refine va_sld hx hb h1 h2 h3 hS (rg_I_in hi (by omega)) d ?_
  rw [rg_I_clamp (by omega)]
  exact kk H locs ls hP hS h
theorem rg_Jslen (F : rg_FJ κ Γ cc own nL fr lo cm sm) {b L : Nat} {xs : Nat → Int32} (hS0 : rg_scr Γ b L xs) (d : decode cc pc = .ok (.arraylength, 1)) (kk : rg_J κ Γ nL cells slots (pc + 1) lv (.int (rg_I (L : Int)) :: rest) w) : rg_J κ Γ nL cells slots pc lv (.ref b :: rest) w := by
  obtain ⟨p, e, R, s, m, args, below, meth, c, A, H0, Q⟩ := Γ
  obtain ⟨hx, hb, -⟩ := F
  obtain ⟨h1, h2, h3, h4⟩ := hS0
  intro H locs ls hP hS h
  refine va_slen hx hb h1 h2 h3 hS d ?_
  rw [← rg_I_nat]
  exact kk H locs ls hP hS h
theorem rg_JtableIn (F : rg_FJ κ Γ cc own nL fr lo cm sm) {dflt lo9 hi9 off x : Int} {offs : Array Int} {len : Nat} (tgt : Nat) (d : decode cc pc = .ok (.tableswitch dflt lo9 hi9 offs, len)) (hr : rg_Rg x) (h1 : ¬ x < lo9) (h2 : ¬ hi9 < x) (ho : offs[(x - lo9).toNat]? = some off) (ht : (pc : Int) + off = (tgt : Int)) (kk : rg_J κ Γ nL cells slots tgt lv rest w) : rg_J κ Γ nL cells slots pc lv (.int (rg_I x) :: rest) w := by
  obtain ⟨p, e, R, s, m, args, below, meth, c, A, H0, Q⟩ := Γ
  obtain ⟨hx, hb, -⟩ := F
  intro H locs ls hP hS h
  exact lv_tableIn hx hb d (by rw [rg_I_toInt hr]; exact h1) (by rw [rg_I_toInt hr]; exact h2) (by rw [rg_I_toInt hr]; exact ho) ht (kk H locs ls hP hS h)
theorem rg_JtableOut (F : rg_FJ κ Γ cc own nL fr lo cm sm) {dflt lo9 hi9 x : Int} {offs : Array Int} {len : Nat} (tgt : Nat) (d : decode cc pc = .ok (.tableswitch dflt lo9 hi9 offs, len)) (hr : rg_Rg x) (h1 : x < lo9 ∨ hi9 < x) (ht : (pc : Int) + dflt = (tgt : Int)) (kk : rg_J κ Γ nL cells slots tgt lv rest w) : rg_J κ Γ nL cells slots pc lv (.int (rg_I x) :: rest) w := by
  obtain ⟨p, e, R, s, m, args, below, meth, c, A, H0, Q⟩ := Γ
  obtain ⟨hx, hb, -⟩ := F
  intro H locs ls hP hS h
  exact lv_tableOut hx hb d (by rw [rg_I_toInt hr]; exact h1) ht (kk H locs ls hP hS h)
theorem rg_and31 (x : Int32) : ∃ k : Nat, k < 32 ∧ x &&& rg_I 31 = rg_I (k : Int) := by
  refine ⟨(x &&& rg_I 31).toBitVec.toNat, ?_, ?_⟩
  · rw [Int32.toBitVec_and, BitVec.toNat_and]
    exact Nat.lt_of_le_of_lt Nat.and_le_right (by decide +kernel)
  · rw [rg_I_nat]
    apply Int32.toBitVec_inj.mp
    show (x &&& rg_I 31).toBitVec = BitVec.ofNat 32 (x &&& rg_I 31).toBitVec.toNat
    rw [BitVec.ofNat_toNat, BitVec.setWidth_eq]
/-- a helper is called: what it speaks of lies in w2 -/
theorem rg_JcallH (F : rg_FJ κ Γ cc own nL fr lo cm sm) {P : Nat → Prop} (G : rg_FW κ Γ rg_tC P) {co : ClassId × ClassId} (hKo : va_K κ.2.1 vwCl (rg_tyo co) Γ.2.2.2.1) (hncp : ∀ z ∈ lw_ncp, va_Nc z.1 z.2 Γ.2.2.2.1) {σ : rg_S} {w2 ws : va_W} {os : List Nat} (hw2 : ∀ q ∈ w2, P q.1) (hws : ∀ q ∈ ws, q ∈ w2) (hosP : ∀ a ∈ os, P a ∧ Γ.2.2.2.2.2.2.2.2.2.1 a) (hcs : cells + 1 ≤ cm ∧ slots + 6 ≤ sm)
    {y : MethodName} {c' : ByteArray} {n' : Nat} {hh : List (Nat × Nat × Nat × Nat)} (As : List Value) {post : Int → rg_S → va_W → Prop} (hM : rg_HC κ co y c' n' hh As σ os ws post) {idx : Nat} (hcw : Cond.codeWith y c' n' (some .int) hh ∈ lw_gd) (hin : Cond.initialized y.cls ∈ lw_gd) (hst9 : Cond.static y ∈ lw_gd) (hml : Cond.methodLink own idx y ∈ lw_gd) (hd : y.cls ≠ "java/lang/invoke/MethodHandle" ∧ y.cls ≠ "java/lang/invoke/VarHandle" ∧ (parseMethodDescriptor y.desc).map (fun d => d.parameters.length) = some As.length)
    (hR : 12 ≤ fr ∧ 8 + (n' + 11) + 200 ≤ lo) (hst : st = As.reverse ++ rest) (hroom : (rest.map fun v => v.category).sum ≤ 8) (d : decode cc pc = .ok (.invokestatic idx, 3))
    (kk : ∀ (r : Int) (σ' : rg_S) (ws' : va_W), post r σ' ws' → ∃ w2' : va_W, (∀ q ∈ w2', q ∈ ws' ∨ (q ∈ w2 ∧ ¬ q.1 ∈ os)) ∧ rg_J κ Γ nL (cells + 1) (slots + 6) (pc + 3) lv (.int (rg_I r) :: rest) (rg_wd κ rg_tC σ' ++ w2')) : rg_J κ Γ nL cells slots pc lv st (rg_wd κ rg_tC σ ++ w2) := by
  obtain ⟨p, e, R, s, m, args, below, meth, c, A, H0, Q⟩ := Γ
  obtain ⟨hx, hb, hmx, hown, hts, hK, hA, ⟨hfr, hlo, hcm, hsm⟩, hlk, hnest, hexw, hH0⟩ := F
  obtain ⟨hi0, hAi, hX9, hdis⟩ := G
  subst hH0
  intro H locs ls hP hS h
  subst hst
  obtain ⟨hP1, hP2⟩ := rg_P_app.mp hP
  have hPw : va_P κ.2.1 vwCl ws H := rg_P_mem.mpr (fun q hq => rg_P_mem.mp hP2 q (hws q hq))
  have hsub : ∀ q, rg_HA κ os H.size q → A q := by
    rintro q (z | z)
    · exact rg_WA_sub hAi hA hS.1 q z
    · exact (hosP q z).2
  have cw := vx_cwSW (R := R) (s := s) (args := args) (own := own) (index := idx) (y := y) (bytes := c') (maxL := n') (ret := some .int) (hh := hh) (Ts := lw_gd) (ws := rg_wsH y c' n' hh) (rm := rg_rx 11 200) (mc := 1) (ms := 6) As.length hts (lw_goodIn (fun w hw => by
    unfold va_wsS at hw
    rcases List.mem_append.mp hw with z | z
    · simp only [List.mem_cons, List.not_mem_nil, or_false] at z
      rcases z with rfl | rfl | rfl
      · exact hml
      · exact hst9
      · exact hin
    · rcases List.mem_cons.mp z with z | z
      · rw [z]; exact hcw
      · exact z)) rfl rfl rfl hd ⟨Nat.le_trans hR.1 hfr, Nat.le_trans hR.2 hlo⟩
  refine va_calli (vx_runSW (As := As) (rest := rest) ⟨hx, hb, hmx, hown, hts⟩ (hM H.size) cw ⟨rg_Wh_blind, fun U hU hW => ⟨rfl, by rw [hU], ⟨by rw [hU]; exact hP1, va_K.moved hW.alike hK⟩, by rw [hU]; exact hPw, va_K.moved hW.alike hKo, hi0, fun i hi z => hdis i hi (hosP _ z).1, rg_nest_warm hW hnest, rg_exw_warm hW hexw, rg_ncp_moved hW.alike hncp, rg_X_sub hX9 hW hS hU hsub⟩⟩ rfl rfl h.1 rfl (lv_room hroom) d ⟨by omega, by omega⟩) hS (fun q _ hq => hsub q hq) hsub (fun r u t H1 locs1 ht hvm hw hB hz1 hk1 hS1 => ?_)
  obtain ⟨rfl, hp⟩ := hw
  obtain ⟨w2', hw, kJ⟩ := kk u.1 u.2.1 u.2.2 hp
  refine kJ H1 locs1 ls (rg_P_app.mpr ⟨by rw [← ht]; exact hB.1.1, rg_P_mem.mpr (fun q hq => ?_)⟩) hS1 h
  rcases hw q hq with z | ⟨z1, z2⟩
  · rw [← ht]; exact rg_P_mem.mp hB.2 q z
  · have hl := (rg_P_mem.mp hP2 q z1).lt
    refine (rg_P_mem.mp hP2 q z1).kept (hk1 q.1 hl ?_)
    rintro ((⟨k, hk1, hk2⟩ | y1) | y1)
    · exact hdis k hk1 (hk2 ▸ hw2 q z1)
    · omega
    · exact z2 y1
end RJL
