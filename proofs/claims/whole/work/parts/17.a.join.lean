/-! Walks over a heap that holds several worlds beside each other. -/
theorem rg_P_mem {D : va_G} {cl : List vw_C} {ws : va_W} {H : Heap} : va_P D cl ws H ↔ ∀ q ∈ ws, va_at D cl q H := by
  constructor
  · intro h q hq
    obtain ⟨k, hk⟩ := List.mem_iff_getElem?.mp hq
    exact h k q hk
  · intro h k q hk
    exact h q (List.mem_of_getElem? hk)
theorem rg_P_app {D : va_G} {cl : List vw_C} {a b : va_W} {H : Heap} : va_P D cl (a ++ b) H ↔ va_P D cl a H ∧ va_P D cl b H := by
  rw [rg_P_mem, rg_P_mem, rg_P_mem]
  constructor
  · intro h; exact ⟨fun q hq => h q (List.mem_append_left _ hq), fun q hq => h q (List.mem_append_right _ hq)⟩
  · rintro ⟨h1, h2⟩ q hq
    rcases List.mem_append.mp hq with z | z
    · exact h1 q z
    · exact h2 q z
def rg_J (κ : rg_K) (Γ : rg_C) (nL cells slots : Nat) (pc : Nat) (lv : List (Nat × Value)) (st : List Value) (w : va_W) : Prop :=
  match Γ with
  | (p, e, R, s, m, args, below, meth, c, A, H0, Q) => ∀ (H : Heap) (locs : List Loc) (ls : Array Slot), va_P κ.2.1 vwCl w H → va_S A H0 H locs → lv_has ls nL lv → W p κ.1 e R s m args below meth c H locs cells slots Q (F0 m pc ls st)
def rg_FJ (κ : rg_K) (Γ : rg_C) (cc : ByteArray) (own : String) (nL fr lo cm sm : Nat) : Prop :=
  match Γ with
  | (p, _, R, s, m, args, _, meth, c, A, H0, _) => p.tables.exec = Jvm.exec ∧ c.code = cc ∧ c.maxLocals = nL ∧ s.vm.findClass own = some m.cls ∧ (∀ w ∈ lw_gd, w.before args s = true) ∧ va_K κ.2.1 vwCl (rg_tys κ.2.2.1) s ∧
      (∀ q, H0.size ≤ q → A q) ∧ (fr ≤ R.frames ∧ lo ≤ R.locals ∧ cm ≤ R.cells ∧ sm ≤ R.slots) ∧ meth.locks = false ∧ (∀ w ∈ lw_nest, va_Nw w s) ∧ (∀ w ∈ lw_exw, va_Nw w s) ∧ H0 = s.heap
/-- a world of its own among others, whose cells are P's -/
def rg_FW (κ : rg_K) (Γ : rg_C) (tb : List rg_Sh) (P : Nat → Prop) : Prop :=
  match Γ with
  | (_, _, _, s, _, _, _, _, _, A, _, _) => rg_inj κ tb ∧ (∀ i, i < tb.length → A (κ.2.2.2 i)) ∧ rg_X κ A s ∧ ∀ i, i < tb.length → ¬ P (κ.2.2.2 i)
theorem rg_keep {κ : rg_K} {tb : List rg_Sh} {P : Nat → Prop} (hd : ∀ i, i < tb.length → ¬ P (κ.2.2.2 i)) {w : va_W} (hw : ∀ q ∈ w, P q.1) {H H1 : Heap} (h : va_P κ.2.1 vwCl w H) (hk : ∀ q : Nat, q < H.size → ¬ rg_WA κ tb H.size q → H1[q]? = H[q]?) : va_P κ.2.1 vwCl w H1 := by
  rw [rg_P_mem] at h ⊢
  intro q hq
  have hl := (h q hq).lt
  refine (h q hq).kept (hk q.1 hl ?_)
  rintro (⟨k, hk1, hk2⟩ | z)
  · exact hd k hk1 (hk2 ▸ hw q hq)
  · omega
section RJ
variable {κ : rg_K} {Γ : rg_C} {cc : ByteArray} {own : String} {nL fr lo cm sm cells slots pc : Nat} {lv lv' : List (Nat × Value)} {rest st : List Value} {w : va_W}
theorem rg_Jw {w9 : va_W} (e : w = w9) (k : rg_J κ Γ nL cells slots pc lv st w9) : rg_J κ Γ nL cells slots pc lv st w := e ▸ k
theorem rg_Jwid {cells' slots' : Nat} (h1 : cells ≤ cells') (h2 : slots ≤ slots') (k : rg_J κ Γ nL cells' slots' pc lv st w) : rg_J κ Γ nL cells slots pc lv st w := by
  obtain ⟨p, e, R, s, m, args, below, meth, c, A, H0, Q⟩ := Γ
  intro H locs ls hP hS h
  exact W.widen h1 h2 (k H locs ls hP hS h)
theorem rg_Jstk {st' : List Value} (e : st = st') (k : rg_J κ Γ nL cells slots pc lv st' w) : rg_J κ Γ nL cells slots pc lv st w := e ▸ k
theorem rg_Jlv (e : lv = lv') (k : rg_J κ Γ nL cells slots pc lv' st w) : rg_J κ Γ nL cells slots pc lv st w := e ▸ k
theorem rg_Jsub (is : List Nat) (hpk : lv_pick lv is = lv') (k : rg_J κ Γ nL cells slots pc lv' st w) : rg_J κ Γ nL cells slots pc lv st w := by
  obtain ⟨p, e, R, s, m, args, below, meth, c, A, H0, Q⟩ := Γ
  intro H locs ls hP hS h
  exact k H locs ls hP hS (lv_sub h is hpk)
theorem rg_Jaload_n (F : rg_FJ κ Γ cc own nL fr lo cm sm) (q i : Nat) {k : Fin 4} {a : Nat} (hi : (k : Nat) = i) (d : decode cc pc = .ok (.aload_n k, 1)) (hq : lv[q]? = some (i, .ref a)) (kk : rg_J κ Γ nL cells slots (pc + 1) lv (.ref a :: rest) w) : rg_J κ Γ nL cells slots pc lv rest w := by
  obtain ⟨p, e, R, s, m, args, below, meth, c, A, H0, Q⟩ := Γ
  obtain ⟨hx, hb, -⟩ := F
  intro H locs ls hP hS h
  exact lv_aload_n hx hb d hi (lv_at h q hq) (kk H locs ls hP hS h)
theorem rg_Jaload (F : rg_FJ κ Γ cc own nL fr lo cm sm) (q i : Nat) {a : Nat} (d : decode cc pc = .ok (.aload i, 2)) (hq : lv[q]? = some (i, .ref a)) (kk : rg_J κ Γ nL cells slots (pc + 2) lv (.ref a :: rest) w) : rg_J κ Γ nL cells slots pc lv rest w := by
  obtain ⟨p, e, R, s, m, args, below, meth, c, A, H0, Q⟩ := Γ
  obtain ⟨hx, hb, -⟩ := F
  intro H locs ls hP hS h
  exact lv_aload hx hb d (lv_at h q hq) (kk H locs ls hP hS h)
theorem rg_Jiload_n (F : rg_FJ κ Γ cc own nL fr lo cm sm) (q i : Nat) {k : Fin 4} {x : Int32} (hi : (k : Nat) = i) (d : decode cc pc = .ok (.iload_n k, 1)) (hq : lv[q]? = some (i, .int x)) (kk : rg_J κ Γ nL cells slots (pc + 1) lv (.int x :: rest) w) : rg_J κ Γ nL cells slots pc lv rest w := by
  obtain ⟨p, e, R, s, m, args, below, meth, c, A, H0, Q⟩ := Γ
  obtain ⟨hx, hb, -⟩ := F
  intro H locs ls hP hS h
  exact lv_iload_n hx hb d hi (lv_at h q hq) (kk H locs ls hP hS h)
theorem rg_Jiload (F : rg_FJ κ Γ cc own nL fr lo cm sm) (q i : Nat) {x : Int32} (d : decode cc pc = .ok (.iload i, 2)) (hq : lv[q]? = some (i, .int x)) (kk : rg_J κ Γ nL cells slots (pc + 2) lv (.int x :: rest) w) : rg_J κ Γ nL cells slots pc lv rest w := by
  obtain ⟨p, e, R, s, m, args, below, meth, c, A, H0, Q⟩ := Γ
  obtain ⟨hx, hb, -⟩ := F
  intro H locs ls hP hS h
  exact lv_iload hx hb d (lv_at h q hq) (kk H locs ls hP hS h)
theorem rg_Jiconst (F : rg_FJ κ Γ cc own nL fr lo cm sm) {n : Int} (d : decode cc pc = .ok (.iconst n, 1)) (kk : rg_J κ Γ nL cells slots (pc + 1) lv (.int (rg_I n) :: rest) w) : rg_J κ Γ nL cells slots pc lv rest w := by
  obtain ⟨p, e, R, s, m, args, below, meth, c, A, H0, Q⟩ := Γ
  obtain ⟨hx, hb, -⟩ := F
  intro H locs ls hP hS h
  exact lv_iconst hx hb d rfl (kk H locs ls hP hS h)
theorem rg_Jlconst (F : rg_FJ κ Γ cc own nL fr lo cm sm) {n : Fin 2} {v : Int64} (d : decode cc pc = .ok (.lconst n, 1)) (hv : Int64.ofNat (n : Nat) = v) (kk : rg_J κ Γ nL cells slots (pc + 1) lv (.long v :: rest) w) : rg_J κ Γ nL cells slots pc lv rest w := by
  obtain ⟨p, e, R, s, m, args, below, meth, c, A, H0, Q⟩ := Γ
  obtain ⟨hx, hb, -⟩ := F
  intro H locs ls hP hS h
  exact lv_lconst hx hb d hv (kk H locs ls hP hS h)
theorem rg_Ji2l (F : rg_FJ κ Γ cc own nL fr lo cm sm) {x : Int32} (d : decode cc pc = .ok (.i2l, 1)) (kk : rg_J κ Γ nL cells slots (pc + 1) lv (.long x.toInt64 :: rest) w) : rg_J κ Γ nL cells slots pc lv (.int x :: rest) w := by
  obtain ⟨p, e, R, s, m, args, below, meth, c, A, H0, Q⟩ := Γ
  obtain ⟨hx, hb, -⟩ := F
  intro H locs ls hP hS h
  exact lv_i2l hx hb d rfl (kk H locs ls hP hS h)
theorem rg_Jgoto (F : rg_FJ κ Γ cc own nL fr lo cm sm) {off : Int} (tgt : Nat) (d : decode cc pc = .ok (.goto off, 3)) (ht : (pc : Int) + off = (tgt : Int)) (kk : rg_J κ Γ nL cells slots tgt lv st w) : rg_J κ Γ nL cells slots pc lv st w := by
  obtain ⟨p, e, R, s, m, args, below, meth, c, A, H0, Q⟩ := Γ
  obtain ⟨hx, hb, -⟩ := F
  intro H locs ls hP hS h
  exact lv_goto hx hb d ht (kk H locs ls hP hS h)
theorem rg_Jif_eq (F : rg_FJ κ Γ cc own nL fr lo cm sm) {a off : Int} (tgt : Nat) (d : decode cc pc = .ok (.ifCond .eq off, 3)) (ht : (pc : Int) + off = (tgt : Int)) (ha : rg_Rg a) (kt : a = 0 → rg_J κ Γ nL cells slots tgt lv rest w) (kf : ¬ a = 0 → rg_J κ Γ nL cells slots (pc + 3) lv rest w) : rg_J κ Γ nL cells slots pc lv (.int (rg_I a) :: rest) w := by
  obtain ⟨p, e, R, s, m, args, below, meth, c, A, H0, Q⟩ := Γ
  obtain ⟨hx, hb, -⟩ := F
  intro H locs ls hP hS h
  exact lv_if_eq hx hb d ht (fun z => kt ((rg_I_inj ha rg_R0).mp (z.trans rg_I_0.symm)) H locs ls hP hS h) (fun z => kf (fun y => z (by rw [y, rg_I_0])) H locs ls hP hS h)
theorem rg_Jif_ne (F : rg_FJ κ Γ cc own nL fr lo cm sm) {a off : Int} (tgt : Nat) (d : decode cc pc = .ok (.ifCond .ne off, 3)) (ht : (pc : Int) + off = (tgt : Int)) (ha : rg_Rg a) (kt : ¬ a = 0 → rg_J κ Γ nL cells slots tgt lv rest w) (kf : a = 0 → rg_J κ Γ nL cells slots (pc + 3) lv rest w) : rg_J κ Γ nL cells slots pc lv (.int (rg_I a) :: rest) w := by
  obtain ⟨p, e, R, s, m, args, below, meth, c, A, H0, Q⟩ := Γ
  obtain ⟨hx, hb, -⟩ := F
  intro H locs ls hP hS h
  exact lv_if_ne hx hb d ht (fun z => kt (fun y => z (by rw [y, rg_I_0])) H locs ls hP hS h) (fun z => kf ((rg_I_inj ha rg_R0).mp (Eq.trans (by first | exact z | exact Classical.not_not.mp z) rg_I_0.symm)) H locs ls hP hS h)
theorem rg_Jastore_n (F : rg_FJ κ Γ cc own nL fr lo cm sm) (lv' : List (Nat × Value)) {k : Fin 4} {i x : Nat} (d : decode cc pc = .ok (.astore_n k, 1)) (hi : (k : Nat) = i) (hn : i < nL) (hl : (i, Value.ref x) :: lv.filter (fun q => !(q.1 == i) && !(q.1 + 1 == i && q.2.category == 2)) = lv') (kk : rg_J κ Γ nL cells slots (pc + 1) lv' rest w) : rg_J κ Γ nL cells slots pc lv (.ref x :: rest) w := by
  obtain ⟨p, e, R, s, m, args, below, meth, c, A, H0, Q⟩ := Γ
  obtain ⟨hx, hb, -⟩ := F
  intro H locs ls hP hS h
  exact lv_astore_n hx hb d hi h hn hl (fun ls' h' => kk H locs ls' hP hS h')
theorem rg_Jastore (F : rg_FJ κ Γ cc own nL fr lo cm sm) (lv' : List (Nat × Value)) {i x : Nat} (d : decode cc pc = .ok (.astore i, 2)) (hn : i < nL) (hl : (i, Value.ref x) :: lv.filter (fun q => !(q.1 == i) && !(q.1 + 1 == i && q.2.category == 2)) = lv') (kk : rg_J κ Γ nL cells slots (pc + 2) lv' rest w) : rg_J κ Γ nL cells slots pc lv (.ref x :: rest) w := by
  obtain ⟨p, e, R, s, m, args, below, meth, c, A, H0, Q⟩ := Γ
  obtain ⟨hx, hb, -⟩ := F
  intro H locs ls hP hS h
  exact lv_astore hx hb d h hn hl (fun ls' h' => kk H locs ls' hP hS h')
theorem rg_Jistore (F : rg_FJ κ Γ cc own nL fr lo cm sm) (lv' : List (Nat × Value)) {i : Nat} {x : Int32} (d : decode cc pc = .ok (.istore i, 2)) (hn : i < nL) (hl : (i, Value.int x) :: lv.filter (fun q => !(q.1 == i) && !(q.1 + 1 == i && q.2.category == 2)) = lv') (kk : rg_J κ Γ nL cells slots (pc + 2) lv' rest w) : rg_J κ Γ nL cells slots pc lv (.int x :: rest) w := by
  obtain ⟨p, e, R, s, m, args, below, meth, c, A, H0, Q⟩ := Γ
  obtain ⟨hx, hb, -⟩ := F
  intro H locs ls hP hS h
  exact lv_istore hx hb d h hn hl (fun ls' h' => kk H locs ls' hP hS h')
end RJ
