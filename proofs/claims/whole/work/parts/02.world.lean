/-! Ints by their numbers; worlds of a fixed shape; one judgement rg_G for a method's walk over such a world. -/
def rg_I (x : Int) : Int32 := Int32.ofInt x
theorem rg_I_add (a b : Int) : rg_I a + rg_I b = rg_I (a + b) := (Int32.ofInt_add a b).symm
theorem rg_I_sub (a b : Int) : rg_I a - rg_I b = rg_I (a - b) := (Int32.ofInt_sub a b).symm
theorem rg_I_mul (a b : Int) : rg_I a * rg_I b = rg_I (a * b) := (Int32.ofInt_mul a b).symm
abbrev rg_Rg (x : Int) : Prop := -2147483648 ≤ x ∧ x < 2147483648
theorem rg_I_toInt {x : Int} (h : rg_Rg x) : (rg_I x).toInt = x := Int32.toInt_ofInt_of_le (by have := h.1; omega) (by have := h.2; omega)
theorem rg_I_of (x : Int32) : rg_I x.toInt = x := Int32.ofInt_toInt x
theorem rg_toInt_Rg (x : Int32) : rg_Rg x.toInt := ⟨by have := Int32.le_toInt x; omega, by have := Int32.toInt_lt x; omega⟩
theorem rg_I_inj {a b : Int} (ha : rg_Rg a) (hb : rg_Rg b) : rg_I a = rg_I b ↔ a = b := by
  rw [← Int32.toInt_inj, rg_I_toInt ha, rg_I_toInt hb]
theorem rg_I_lt {a b : Int} (ha : rg_Rg a) (hb : rg_Rg b) : rg_I a < rg_I b ↔ a < b := by
  rw [Int32.lt_iff_toInt_lt, rg_I_toInt ha, rg_I_toInt hb]
theorem rg_I_le {a b : Int} (ha : rg_Rg a) (hb : rg_Rg b) : rg_I a ≤ rg_I b ↔ a ≤ b := by
  rw [Int32.le_iff_toInt_le, rg_I_toInt ha, rg_I_toInt hb]
theorem rg_I_0 : rg_I 0 = 0 := by decide +kernel
theorem rg_R0 : rg_Rg 0 := ⟨by omega, by omega⟩
theorem rg_I_nat (n : Nat) : rg_I (n : Int) = Int32.ofNat n := Int32.ofInt_eq_ofNat
theorem rg_I_clamp {n : Nat} (h : n < 2 ^ 31) : (rg_I (n : Int)).toNatClampNeg = n := by
  rw [rg_I_nat]; exact nI_clamp h
theorem rg_I_in {n N : Nat} (h : n < N) (hN : N < 2 ^ 31) : vp_in (rg_I (n : Int)) N := by
  rw [rg_I_nat]; exact vp_in_nI h hN
theorem rg_I_tdiv {a b : Int} (ha : rg_Rg a) (hb : rg_Rg b) : rg_I a / rg_I b = rg_I (a.tdiv b) := by
  have h1 : Int32.minValue.toInt = -2147483648 := by decide +kernel
  have h2 : Int32.maxValue.toInt = 2147483647 := by decide +kernel
  exact (Int32.ofInt_tdiv (by rw [h1]; exact ha.1) (by rw [h2]; have := ha.2; omega) (by rw [h1]; exact hb.1) (by rw [h2]; have := hb.2; omega)).symm
theorem rg_I_div {a b : Int} (ha : 0 ≤ a ∧ a < 2147483648) (hb : 0 < b ∧ b < 2147483648) : rg_I a / rg_I b = rg_I (a / b) := by
  rw [rg_I_tdiv ⟨by omega, ha.2⟩ ⟨by omega, hb.2⟩, Int.tdiv_eq_ediv_of_nonneg ha.1]
theorem rg_I_rem {a b : Int} (ha : 0 ≤ a ∧ a < 2147483648) (hb : 0 < b ∧ b < 2147483648) : rg_I a - rg_I a / rg_I b * rg_I b = rg_I (a % b) := by
  rw [rg_I_div ha hb, rg_I_mul, rg_I_sub, Int.emod_def, Int.mul_comm]
theorem rg_nar_z {v : Int} (h : v = 0 ∨ v = 1) : vp_nar .boolean (rg_I v) = rg_I v := by
  rcases h with rfl | rfl <;> decide +kernel
theorem rg_narrow_z {v : Int} (h : v = 0 ∨ v = 1) : narrow .boolean (.int (rg_I v)) = .int (rg_I v) := by
  rcases h with rfl | rfl <;> decide +kernel
theorem rg_byte {v : Int} (h : -128 ≤ v ∧ v < 128) : (rg_I v).toInt8.toInt32 = rg_I v := by
  have h1 : Int8.minValue.toInt = -128 := by decide +kernel
  apply Int32.toInt_inj.mp
  rw [Int8.toInt_toInt32, Int32.toInt_toInt8, rg_I_toInt ⟨by omega, by omega⟩]
  exact Int.bmod_eq_of_le (by omega) (by omega)
theorem rg_nar_b {v : Int} (h : -128 ≤ v ∧ v < 128) : vp_nar .byte (rg_I v) = rg_I v := by
  rw [vp_nar_byte]; exact rg_byte h
/-- a truth value as an int -/
noncomputable def rg_b (p : Prop) : Int := @ite Int p (Classical.propDecidable p) 1 0
theorem rg_b_t {p : Prop} (h : p) : rg_b p = 1 := @if_pos p (Classical.propDecidable p) h Int 1 0
theorem rg_b_f {p : Prop} (h : ¬ p) : rg_b p = 0 := @if_neg p (Classical.propDecidable p) h Int 1 0
theorem rg_b_01 (p : Prop) : rg_b p = 0 ∨ rg_b p = 1 := by
  rcases Classical.em p with h | h
  · exact Or.inr (rg_b_t h)
  · exact Or.inl (rg_b_f h)
theorem rg_b_Rg (p : Prop) : rg_Rg (rg_b p) := by
  rcases rg_b_01 p with h | h <;> rw [h] <;> exact ⟨by omega, by omega⟩
theorem rg_b_bd (p : Prop) : 0 ≤ rg_b p ∧ rg_b p ≤ 1 := by
  rcases rg_b_01 p with h | h <;> rw [h] <;> exact ⟨by omega, by omega⟩
theorem rg_b_eq0 (p : Prop) : rg_b p = 0 ↔ ¬ p := by
  rcases Classical.em p with h | h
  · rw [rg_b_t h]; exact ⟨fun z => by omega, fun z => absurd h z⟩
  · rw [rg_b_f h]; exact ⟨fun _ => h, fun _ => rfl⟩
theorem rg_b_ne0 (p : Prop) : ¬ rg_b p = 0 ↔ p := by
  rw [rg_b_eq0]; exact Classical.not_not
theorem rg_b_eq1 (p : Prop) : rg_b p = 1 ↔ p := by
  rcases Classical.em p with h | h
  · rw [rg_b_t h]; exact ⟨fun _ => h, fun _ => rfl⟩
  · rw [rg_b_f h]; exact ⟨fun z => by omega, fun z => absurd z h⟩
theorem rg_b_congr {p q : Prop} (h : p ↔ q) : rg_b p = rg_b q := by rw [propext h]
/-! worlds -/
abbrev rg_S : Type := Nat → Nat → Int
def rg_wr (σ : rg_S) (k : Nat) (f : Nat → Int) : rg_S := fun k' => if k' = k then f else σ k'
def rg_up (f : Nat → Int) (j : Nat) (v : Int) : Nat → Int := fun i => if i = j then v else f i
theorem rg_wr_same (σ : rg_S) (k : Nat) (f : Nat → Int) : rg_wr σ k f k = f := if_pos rfl
theorem rg_wr_ne (σ : rg_S) {k k' : Nat} (f : Nat → Int) (h : k' ≠ k) : rg_wr σ k f k' = σ k' := if_neg h
theorem rg_wr_wr (σ : rg_S) (k : Nat) (f g : Nat → Int) : rg_wr (rg_wr σ k f) k g = rg_wr σ k g := by
  funext i; unfold rg_wr; split <;> rfl
theorem rg_wr_comm (σ : rg_S) {a b : Nat} (f g : Nat → Int) (h : a ≠ b) : rg_wr (rg_wr σ a f) b g = rg_wr (rg_wr σ b g) a f := by
  funext i; unfold rg_wr
  by_cases h1 : i = b
  · subst h1; rw [if_pos rfl, if_neg (fun e => h e.symm), if_pos rfl]
  · rw [if_neg h1]; split <;> simp_all
theorem rg_wr_congr {σ σ' : rg_S} (k : Nat) {f g : Nat → Int} (h : σ = σ') (e : f = g) : rg_wr σ k f = rg_wr σ' k g := by rw [h, e]
theorem rg_wr_self {σ : rg_S} {k : Nat} {f : Nat → Int} (h : σ k = f) : σ = rg_wr σ k f := by
  funext i; unfold rg_wr
  by_cases h1 : i = k
  · subst h1; rw [if_pos rfl, h]
  · rw [if_neg h1]
theorem rg_up_same (f : Nat → Int) (j : Nat) (v : Int) : rg_up f j v j = v := if_pos rfl
theorem rg_up_up (f : Nat → Int) (j : Nat) (v w : Int) : rg_up (rg_up f j v) j w = rg_up f j w := by
  funext i; unfold rg_up; split <;> rfl
theorem rg_up_ne (f : Nat → Int) {j i : Nat} (v : Int) (h : i ≠ j) : rg_up f j v i = f i := if_neg h
abbrev rg_Sh : Type := (Nat × Nat) ⊕ (Nat × List (Option Nat))
abbrev rg_Cy : Type := ClassId × ClassId × ClassId
abbrev rg_K : Type := Launch × va_G × rg_Cy × (Nat → Nat)
def rg_cy (cy : rg_Cy) (kd : Nat) : ClassId := match kd with
  | 0 => cy.1
  | 1 => cy.2.1
  | _ => cy.2.2
abbrev rg_tys (cy : rg_Cy) : List (ClassId × FieldType) := [(cy.1, .byte), (cy.2.1, .int), (cy.2.2, .boolean)]
abbrev rg_r (κ : rg_K) (k : Nat) : Value := .ref (κ.2.2.2 k)
def rg_fv (ad : Nat → Nat) (f : Nat → Int) (j : Nat) (o : Option Nat) : Value := match o with
  | none => .int (rg_I (f j))
  | some k => .ref (ad k)
def rg_el (κ : rg_K) (f : Nat → Int) (sh : rg_Sh) : va_E := match sh with
  | .inl x => .inl (rg_cy κ.2.2.1 x.1, x.2, .inl (fun j => rg_I (f j)))
  | .inr x => .inr (x.1, x.2.mapIdx (rg_fv κ.2.2.2 f))
def rg_wd (κ : rg_K) (tb : List rg_Sh) (σ : rg_S) : va_W := tb.mapIdx (fun k sh => (κ.2.2.2 k, rg_el κ (σ k) sh))
theorem rg_wd_get {κ : rg_K} {tb : List rg_Sh} (σ : rg_S) {k : Nat} {sh : rg_Sh} (h : tb[k]? = some sh) : (rg_wd κ tb σ)[k]? = some (κ.2.2.2 k, rg_el κ (σ k) sh) := by
  simp [rg_wd, List.getElem?_mapIdx, h]
theorem rg_wd_set {κ : rg_K} {tb : List rg_Sh} (σ : rg_S) {k : Nat} {sh : rg_Sh} (h : tb[k]? = some sh) (f : Nat → Int) : (rg_wd κ tb σ).set k (κ.2.2.2 k, rg_el κ f sh) = rg_wd κ tb (rg_wr σ k f) := by
  apply List.ext_getElem?
  intro i
  have hk : k < (rg_wd κ tb σ).length := (List.getElem?_eq_some_iff.mp (rg_wd_get σ h)).1
  by_cases hi : i = k
  · subst hi
    rw [List.getElem?_set_self hk, rg_wd_get (rg_wr σ i f) h, rg_wr_same]
  · rw [List.getElem?_set_ne (Ne.symm hi)]
    unfold rg_wd
    rw [List.getElem?_mapIdx, List.getElem?_mapIdx, rg_wr_ne σ f hi]
theorem rg_fs_set {ad : Nat → Nat} {fs : List (Option Nat)} {j : Nat} (f : Nat → Int) (h : fs[j]? = some none) (v : Int) : (fs.mapIdx (rg_fv ad f)).set j (.int (rg_I v)) = fs.mapIdx (rg_fv ad (rg_up f j v)) := by
  apply List.ext_getElem?
  intro i
  have hj : j < (fs.mapIdx (rg_fv ad f)).length := by rw [List.length_mapIdx]; exact (List.getElem?_eq_some_iff.mp h).1
  by_cases hi : i = j
  · subst hi
    rw [List.getElem?_set_self hj, List.getElem?_mapIdx, h]
    simp [rg_fv, rg_up]
  · rw [List.getElem?_set_ne (Ne.symm hi), List.getElem?_mapIdx, List.getElem?_mapIdx]
    cases hf : fs[i]? with
    | none => rfl
    | some o => cases o <;> simp [rg_fv, rg_up, hi]
theorem rg_upd (f : Nat → Int) (j : Nat) (v : Int) : upd (fun i => rg_I (f i)) j (rg_I v) = fun i => rg_I (rg_up f j v i) := by
  funext i
  unfold upd rg_up
  split <;> rfl
/-- what differs of two worlds lies in the cells of S -/
def rg_Fr (S : List Nat) (σ σ' : rg_S) : Prop := ∀ k, k ∉ S → σ' k = σ k
theorem rg_Fr.rf {S : List Nat} {σ : rg_S} : rg_Fr S σ σ := fun _ _ => rfl
theorem rg_Fr.tr {S : List Nat} {σ σ1 σ2 : rg_S} (h1 : rg_Fr S σ σ1) (h2 : rg_Fr S σ1 σ2) : rg_Fr S σ σ2 := fun k hk => (h2 k hk).trans (h1 k hk)
theorem rg_Fr.mono {S S' : List Nat} {σ σ' : rg_S} (h : rg_Fr S σ σ') (hs : ∀ k ∈ S, k ∈ S') : rg_Fr S' σ σ' := fun k hk => h k (fun q => hk (hs k q))
theorem rg_Fr.wr {S : List Nat} {σ σ' : rg_S} (h : rg_Fr S σ σ') {k : Nat} (hk : k ∈ S) (f : Nat → Int) : rg_Fr S σ (rg_wr σ' k f) := fun i hi => by
  have e1 : i ≠ k := fun e => hi (by rw [e]; exact hk)
  rw [rg_wr_ne σ' f e1]
  exact h i hi
/-- what lies in the heap and isn't the world's: texts, statics; seen from the cells A that may change -/
def rg_X (κ : rg_K) (A : Nat → Prop) (U : State) : Prop := κ.1.stackTraces = false ∧ vk_S 18 lw_sl lw_sb (fun i => κ.2.2.2 (100 + i)) (fun i => κ.2.2.2 (200 + i)) A U U.heap ∧ va_Z "java/lang/String" "COMPACT_STRINGS" "Z" (.int 1) A U U.heap ∧ va_Zq "jdk/internal/util/Preconditions" "SIOOBE_FORMATTER" "Ljava/util/function/BiFunction;" A U U.heap ∧
  vx_Zq Bundle.tN "UNASSIGNED_STACK" Bundle.steD A U U.heap ∧ vx_Zq Bundle.tN "SUPPRESSED_SENTINEL" Bundle.listD A U U.heap ∧ ∀ (i : Nat) (q : Nat × String), lw_strs[i]? = some q → vk_R RX9 q.1 q.2 (κ.2.2.2 (100 + i)) U
theorem rg_X_sub {κ : rg_K} {A B : Nat → Prop} {s U : State} {H : Heap} {locs : List Loc} (h : rg_X κ A s) (hW : s.WarmedH U.vm) (hS : va_S A s.heap H locs) (hU : U.heap = H) (hsub : ∀ q, B q → A q) : rg_X κ B U := by
  subst hU
  obtain ⟨h1, h2, h3, h4, h5, h6, h7⟩ := h
  have hk := hS.2.1
  exact ⟨h1, ((h2.moved hW.alike).kept hk).narrow hsub, ((h3.moved hW.alike).kept hk).narrow hsub, ((h4.moved hW.alike).kept hk).narrow hsub, ((h5.moved hW.alike).kept hk).narrow hsub, ((h6.moved hW.alike).kept hk).narrow hsub, fun i q hq => (h7 i q hq).warm hW⟩
theorem rg_X_same {κ : rg_K} {A : Nat → Prop} {u U : State} (hh : U.heap = u.heap) (hv : U.vm = u.vm) (h : rg_X κ A u) : rg_X κ A U := by
  obtain ⟨h1, h2, h3, h4, h5, h6, h7⟩ := h
  have ha : u.vm.Alike U.vm := by rw [hv]; exact Vm.Alike.refl u.vm
  unfold rg_X
  rw [hh]
  exact ⟨h1, h2.moved ha, h3.moved ha, h4.moved ha, h5.moved ha, h6.moved ha, fun i q hq => (h7 i q hq).same hv⟩
/-! the judgement -/
abbrev rg_C : Type := Program × Env × Room × State × MethodId × Array Value × List Frame × Method × Code × (Nat → Prop) × Heap × (State → Prop)
def rg_G (κ : rg_K) (Γ : rg_C) (tb : List rg_Sh) (nL cells slots : Nat) (pc : Nat) (lv : List (Nat × Value)) (st : List Value) (σ : rg_S) : Prop :=
  match Γ with
  | (p, e, R, s, m, args, below, meth, c, A, H0, Q) => ∀ (H : Heap) (locs : List Loc) (ls : Array Slot), va_P κ.2.1 vwCl (rg_wd κ tb σ) H → va_S A H0 H locs → lv_has ls nL lv → W p κ.1 e R s m args below meth c H locs cells slots Q (F0 m pc ls st)
def rg_F (κ : rg_K) (Γ : rg_C) (tb : List rg_Sh) (cc : ByteArray) (own : String) (nL fr lo : Nat) : Prop :=
  match Γ with
  | (p, _, R, s, m, args, _, meth, c, A, H0, _) => p.tables.exec = Jvm.exec ∧ c.code = cc ∧ c.maxLocals = nL ∧ s.vm.findClass own = some m.cls ∧ (∀ w ∈ lw_gd, w.before args s = true) ∧ va_K κ.2.1 vwCl (rg_tys κ.2.2.1) s ∧
      (∀ i j, i < tb.length → j < tb.length → κ.2.2.2 i = κ.2.2.2 j → i = j) ∧ (∀ i, i < tb.length → A (κ.2.2.2 i)) ∧ (∀ q, H0.size ≤ q → A q) ∧ fr ≤ R.frames ∧ lo ≤ R.locals ∧ meth.locks = false ∧ (∀ w ∈ lw_nest, va_Nw w s) ∧ H0 = s.heap ∧ rg_X κ A s
theorem rg_wd_len (κ : rg_K) (tb : List rg_Sh) (σ : rg_S) : (rg_wd κ tb σ).length = tb.length := by simp [rg_wd]
theorem rg_wd_addr {κ : rg_K} {tb : List rg_Sh} {σ : rg_S} {k : Nat} {q : Nat × va_E} (h : (rg_wd κ tb σ)[k]? = some q) : k < tb.length ∧ q.1 = κ.2.2.2 k := by
  have hk : k < tb.length := by rw [← rg_wd_len κ tb σ]; exact (List.getElem?_eq_some_iff.mp h).1
  refine ⟨hk, ?_⟩
  rw [rg_wd_get σ (List.getElem?_eq_getElem hk)] at h
  cases h
  rfl
theorem rg_wd_D {κ : rg_K} {tb : List rg_Sh} {A : Nat → Prop} (h1 : ∀ i j, i < tb.length → j < tb.length → κ.2.2.2 i = κ.2.2.2 j → i = j) (h2 : ∀ i, i < tb.length → A (κ.2.2.2 i)) (σ : rg_S) : va_D A (rg_wd κ tb σ) := by
  refine ⟨fun i j x y hx hy hxy => ?_, fun k q hq => ?_⟩
  · obtain ⟨a1, a2⟩ := rg_wd_addr hx
    obtain ⟨b1, b2⟩ := rg_wd_addr hy
    exact h1 i j a1 b1 (by rw [← a2, ← b2]; exact hxy)
  · obtain ⟨a1, a2⟩ := rg_wd_addr hq
    rw [a2]
    exact h2 k a1
theorem rg_wd_agree {κ : rg_K} {tb : List rg_Sh} {σ σ' : rg_S} (h : ∀ (k : Nat) (sh : rg_Sh), tb[k]? = some sh → rg_el κ (σ k) sh = rg_el κ (σ' k) sh ∨ ∃ x : Nat × Nat, sh = .inl x ∧ ∀ j, j < x.2 → σ k j = σ' k j) {D : va_G} {H : Heap} (hP : va_P D vwCl (rg_wd κ tb σ) H) : va_P D vwCl (rg_wd κ tb σ') H := by
  intro k q hq
  obtain ⟨hk, -⟩ := rg_wd_addr hq
  rw [rg_wd_get σ' (List.getElem?_eq_getElem hk)] at hq
  cases hq
  have h1 := hP k _ (rg_wd_get σ (List.getElem?_eq_getElem hk))
  rcases h k _ (List.getElem?_eq_getElem hk) with e | ⟨x, e, hx⟩
  · rw [← e]; exact h1
  · rw [e] at h1 ⊢
    obtain ⟨kd, n⟩ := x
    simp only [rg_el, va_at] at h1 ⊢
    rw [h1]
    simp only [vp_cell]
    congr 1
    unfold arrV
    congr 1
    apply Array.ext_getElem?
    intro i
    by_cases hi : i < n
    · simp [hi, hx i hi]
    · simp [hi]
section RG
variable {κ : rg_K} {Γ : rg_C} {tb : List rg_Sh} {cc : ByteArray} {own : String} {nL fr lo cells slots pc : Nat} {lv lv' : List (Nat × Value)} {rest st : List Value} {σ σ' : rg_S}
/-- the same world in other words -/
theorem rg_eq (e : σ = σ') (k : rg_G κ Γ tb nL cells slots pc lv st σ') : rg_G κ Γ tb nL cells slots pc lv st σ := e ▸ k
/-- the same locals in other words -/
theorem rg_lve (e : lv = lv') (k : rg_G κ Γ tb nL cells slots pc lv' st σ) : rg_G κ Γ tb nL cells slots pc lv st σ := e ▸ k
/-- the same stack in other words -/
theorem rg_stk {st' : List Value} (e : st = st') (k : rg_G κ Γ tb nL cells slots pc lv st' σ) : rg_G κ Γ tb nL cells slots pc lv st σ := e ▸ k
/-- the same world within a cell's length -/
theorem rg_ext {f g : Nat → Int} (k0 : Nat) {kd n : Nat} (hs : tb[k0]? = some (.inl (kd, n))) (h : ∀ j, j < n → f j = g j) (k : rg_G κ Γ tb nL cells slots pc lv st (rg_wr σ k0 g)) : rg_G κ Γ tb nL cells slots pc lv st (rg_wr σ k0 f) := by
  obtain ⟨p, e, R, s, m, args, below, meth, c, A, H0, Q⟩ := Γ
  intro H locs ls hP hS hl
  refine k H locs ls (rg_wd_agree (fun i sh hi => ?_) hP) hS hl
  by_cases hk : i = k0
  · subst hk
    refine Or.inr ⟨(kd, n), Option.some.inj (hi.symm.trans hs), fun j hj => ?_⟩
    rw [rg_wr_same, rg_wr_same]
    exact h j hj
  · refine Or.inl ?_
    rw [rg_wr_ne σ f hk, rg_wr_ne σ g hk]
/-- fewer listed locals, in any order -/
theorem rg_sub (ks : List Nat) (hl : lv_pick lv ks = lv') (k : rg_G κ Γ tb nL cells slots pc lv' st σ) : rg_G κ Γ tb nL cells slots pc lv st σ := by
  obtain ⟨p, e, R, s, m, args, below, meth, c, A, H0, Q⟩ := Γ
  intro H locs ls hP hS h
  exact k H locs ls hP hS (lv_sub h ks hl)
theorem rg_aload_n (F : rg_F κ Γ tb cc own nL fr lo) {k : Fin 4} {x : Nat} (q i : Nat) (hq : lv[q]? = some (i, .ref x)) (d : decode cc pc = .ok (.aload_n k, 1)) (hi : (k : Nat) = i) (kk : rg_G κ Γ tb nL cells slots (pc + 1) lv (.ref x :: rest) σ) : rg_G κ Γ tb nL cells slots pc lv rest σ := by
  obtain ⟨p, e, R, s, m, args, below, meth, c, A, H0, Q⟩ := Γ
  obtain ⟨hx, hb, -⟩ := F
  intro H locs ls hP hS h
  exact lv_aload_n hx hb d hi (lv_at h q hq) (kk H locs ls hP hS h)
theorem rg_aload (F : rg_F κ Γ tb cc own nL fr lo) {x : Nat} (q i : Nat) (hq : lv[q]? = some (i, .ref x)) (d : decode cc pc = .ok (.aload i, 2)) (kk : rg_G κ Γ tb nL cells slots (pc + 2) lv (.ref x :: rest) σ) : rg_G κ Γ tb nL cells slots pc lv rest σ := by
  obtain ⟨p, e, R, s, m, args, below, meth, c, A, H0, Q⟩ := Γ
  obtain ⟨hx, hb, -⟩ := F
  intro H locs ls hP hS h
  exact lv_aload hx hb d (lv_at h q hq) (kk H locs ls hP hS h)
theorem rg_iload_n (F : rg_F κ Γ tb cc own nL fr lo) {k : Fin 4} {x : Int32} (q i : Nat) (hq : lv[q]? = some (i, .int x)) (d : decode cc pc = .ok (.iload_n k, 1)) (hi : (k : Nat) = i) (kk : rg_G κ Γ tb nL cells slots (pc + 1) lv (.int x :: rest) σ) : rg_G κ Γ tb nL cells slots pc lv rest σ := by
  obtain ⟨p, e, R, s, m, args, below, meth, c, A, H0, Q⟩ := Γ
  obtain ⟨hx, hb, -⟩ := F
  intro H locs ls hP hS h
  exact lv_iload_n hx hb d hi (lv_at h q hq) (kk H locs ls hP hS h)
theorem rg_iload (F : rg_F κ Γ tb cc own nL fr lo) {x : Int32} (q i : Nat) (hq : lv[q]? = some (i, .int x)) (d : decode cc pc = .ok (.iload i, 2)) (kk : rg_G κ Γ tb nL cells slots (pc + 2) lv (.int x :: rest) σ) : rg_G κ Γ tb nL cells slots pc lv rest σ := by
  obtain ⟨p, e, R, s, m, args, below, meth, c, A, H0, Q⟩ := Γ
  obtain ⟨hx, hb, -⟩ := F
  intro H locs ls hP hS h
  exact lv_iload hx hb d (lv_at h q hq) (kk H locs ls hP hS h)
theorem rg_istore_n (F : rg_F κ Γ tb cc own nL fr lo) {k : Fin 4} {i : Nat} {x : Int32} (lv' : List (Nat × Value)) (d : decode cc pc = .ok (.istore_n k, 1)) (hi : (k : Nat) = i) (hn : i < nL) (hl : (i, Value.int x) :: lv.filter (fun q => !(q.1 == i) && !(q.1 + 1 == i && q.2.category == 2)) = lv') (kk : rg_G κ Γ tb nL cells slots (pc + 1) lv' rest σ) : rg_G κ Γ tb nL cells slots pc lv (.int x :: rest) σ := by
  obtain ⟨p, e, R, s, m, args, below, meth, c, A, H0, Q⟩ := Γ
  obtain ⟨hx, hb, -⟩ := F
  intro H locs ls hP hS h
  exact lv_istore_n hx hb d hi h hn hl (fun ls' h' => kk H locs ls' hP hS h')
theorem rg_istore (F : rg_F κ Γ tb cc own nL fr lo) {i : Nat} {x : Int32} (lv' : List (Nat × Value)) (d : decode cc pc = .ok (.istore i, 2)) (hn : i < nL) (hl : (i, Value.int x) :: lv.filter (fun q => !(q.1 == i) && !(q.1 + 1 == i && q.2.category == 2)) = lv') (kk : rg_G κ Γ tb nL cells slots (pc + 2) lv' rest σ) : rg_G κ Γ tb nL cells slots pc lv (.int x :: rest) σ := by
  obtain ⟨p, e, R, s, m, args, below, meth, c, A, H0, Q⟩ := Γ
  obtain ⟨hx, hb, -⟩ := F
  intro H locs ls hP hS h
  exact lv_istore hx hb d h hn hl (fun ls' h' => kk H locs ls' hP hS h')
theorem rg_iinc (F : rg_F κ Γ tb cc own nL fr lo) {i : Nat} {n x v : Int} (q : Nat) (lv' : List (Nat × Value)) (d : decode cc pc = .ok (.iinc i n, 3)) (hq : lv[q]? = some (i, .int (rg_I x))) (hv : x + n = v) (hn : i < nL) (hl : (i, Value.int (rg_I v)) :: lv.filter (fun q => !(q.1 == i) && !(q.1 + 1 == i && q.2.category == 2)) = lv') (kk : rg_G κ Γ tb nL cells slots (pc + 3) lv' rest σ) : rg_G κ Γ tb nL cells slots pc lv rest σ := by
  obtain ⟨p, e, R, s, m, args, below, meth, c, A, H0, Q⟩ := Γ
  obtain ⟨hx, hb, -⟩ := F
  intro H locs ls hP hS h
  exact lv_iinc (v := rg_I v) hx hb d h hq (by rw [← hv, ← rg_I_add]; rfl) hn hl (fun ls' h' => kk H locs ls' hP hS h')
theorem rg_iconst (F : rg_F κ Γ tb cc own nL fr lo) {n : Int} (d : decode cc pc = .ok (.iconst n, 1)) (kk : rg_G κ Γ tb nL cells slots (pc + 1) lv (.int (rg_I n) :: rest) σ) : rg_G κ Γ tb nL cells slots pc lv rest σ := by
  obtain ⟨p, e, R, s, m, args, below, meth, c, A, H0, Q⟩ := Γ
  obtain ⟨hx, hb, -⟩ := F
  intro H locs ls hP hS h
  exact lv_iconst hx hb d rfl (kk H locs ls hP hS h)
theorem rg_bipush (F : rg_F κ Γ tb cc own nL fr lo) {n : Int} (d : decode cc pc = .ok (.bipush n, 2)) (hn : (Int8.ofInt n).toInt32 = rg_I n) (kk : rg_G κ Γ tb nL cells slots (pc + 2) lv (.int (rg_I n) :: rest) σ) : rg_G κ Γ tb nL cells slots pc lv rest σ := by
  obtain ⟨p, e, R, s, m, args, below, meth, c, A, H0, Q⟩ := Γ
  obtain ⟨hx, hb, -⟩ := F
  intro H locs ls hP hS h
  exact lv_bipush hx hb d hn (kk H locs ls hP hS h)
theorem rg_sipush (F : rg_F κ Γ tb cc own nL fr lo) {n : Int} (d : decode cc pc = .ok (.sipush n, 3)) (hn : (Int16.ofInt n).toInt32 = rg_I n) (kk : rg_G κ Γ tb nL cells slots (pc + 3) lv (.int (rg_I n) :: rest) σ) : rg_G κ Γ tb nL cells slots pc lv rest σ := by
  obtain ⟨p, e, R, s, m, args, below, meth, c, A, H0, Q⟩ := Γ
  obtain ⟨hx, hb, -⟩ := F
  intro H locs ls hP hS h
  exact lv_sipush hx hb d hn (kk H locs ls hP hS h)
theorem rg_ldc (F : rg_F κ Γ tb cc own nL fr lo) {index : Nat} {v : Int} (hc : Cond.constant own index (rg_I v) ∈ lw_gd) (d : decode cc pc = .ok (.ldc index, 2)) (kk : rg_G κ Γ tb nL cells slots (pc + 2) lv (.int (rg_I v) :: rest) σ) : rg_G κ Γ tb nL cells slots pc lv rest σ := by
  obtain ⟨p, e, R, s, m, args, below, meth, c, A, H0, Q⟩ := Γ
  obtain ⟨hx, hb, hml, hown, hts, -⟩ := F
  intro H locs ls hP hS h
  exact lv_ldc hx hb hown (hts _ hc) d (kk H locs ls hP hS h)
theorem rg_iadd (F : rg_F κ Γ tb cc own nL fr lo) {a b : Int} (d : decode cc pc = .ok (.iadd, 1)) (kk : rg_G κ Γ tb nL cells slots (pc + 1) lv (.int (rg_I (a + b)) :: rest) σ) : rg_G κ Γ tb nL cells slots pc lv (.int (rg_I b) :: .int (rg_I a) :: rest) σ := by
  obtain ⟨p, e, R, s, m, args, below, meth, c, A, H0, Q⟩ := Γ
  obtain ⟨hx, hb, -⟩ := F
  intro H locs ls hP hS h
  refine lv_iadd hx hb d ?_
  rw [rg_I_add]
  exact kk H locs ls hP hS h
theorem rg_isub (F : rg_F κ Γ tb cc own nL fr lo) {a b : Int} (d : decode cc pc = .ok (.isub, 1)) (kk : rg_G κ Γ tb nL cells slots (pc + 1) lv (.int (rg_I (a - b)) :: rest) σ) : rg_G κ Γ tb nL cells slots pc lv (.int (rg_I b) :: .int (rg_I a) :: rest) σ := by
  obtain ⟨p, e, R, s, m, args, below, meth, c, A, H0, Q⟩ := Γ
  obtain ⟨hx, hb, -⟩ := F
  intro H locs ls hP hS h
  refine lv_isub hx hb d ?_
  rw [rg_I_sub]
  exact kk H locs ls hP hS h
theorem rg_imul (F : rg_F κ Γ tb cc own nL fr lo) {a b : Int} (d : decode cc pc = .ok (.imul, 1)) (kk : rg_G κ Γ tb nL cells slots (pc + 1) lv (.int (rg_I (a * b)) :: rest) σ) : rg_G κ Γ tb nL cells slots pc lv (.int (rg_I b) :: .int (rg_I a) :: rest) σ := by
  obtain ⟨p, e, R, s, m, args, below, meth, c, A, H0, Q⟩ := Γ
  obtain ⟨hx, hb, -⟩ := F
  intro H locs ls hP hS h
  refine lv_imul hx hb d ?_
  rw [rg_I_mul]
  exact kk H locs ls hP hS h
theorem rg_idiv (F : rg_F κ Γ tb cc own nL fr lo) {a b : Int} (d : decode cc pc = .ok (.idiv, 1)) (ha : 0 ≤ a ∧ a < 2147483648) (hb2 : 0 < b ∧ b < 2147483648) (kk : rg_G κ Γ tb nL cells slots (pc + 1) lv (.int (rg_I (a / b)) :: rest) σ) : rg_G κ Γ tb nL cells slots pc lv (.int (rg_I b) :: .int (rg_I a) :: rest) σ := by
  obtain ⟨p, e, R, s, m, args, below, meth, c, A, H0, Q⟩ := Γ
  obtain ⟨hx, hb, -⟩ := F
  intro H locs ls hP hS h
  refine lv_idiv hx hb d (fun z => ?_) ?_
  · have := (rg_I_inj ⟨by omega, hb2.2⟩ rg_R0).mp (z.trans rg_I_0.symm); omega
  rw [rg_I_div ha hb2]
  exact kk H locs ls hP hS h
theorem rg_irem (F : rg_F κ Γ tb cc own nL fr lo) {a b : Int} (d : decode cc pc = .ok (.irem, 1)) (ha : 0 ≤ a ∧ a < 2147483648) (hb2 : 0 < b ∧ b < 2147483648) (kk : rg_G κ Γ tb nL cells slots (pc + 1) lv (.int (rg_I (a % b)) :: rest) σ) : rg_G κ Γ tb nL cells slots pc lv (.int (rg_I b) :: .int (rg_I a) :: rest) σ := by
  obtain ⟨p, e, R, s, m, args, below, meth, c, A, H0, Q⟩ := Γ
  obtain ⟨hx, hb, -⟩ := F
  intro H locs ls hP hS h
  refine lv_irem hx hb d (fun z => ?_) ?_
  · have := (rg_I_inj ⟨by omega, hb2.2⟩ rg_R0).mp (z.trans rg_I_0.symm); omega
  rw [rg_I_rem ha hb2]
  exact kk H locs ls hP hS h
theorem rg_i2b (F : rg_F κ Γ tb cc own nL fr lo) {a : Int} (d : decode cc pc = .ok (.i2b, 1)) (ha : -128 ≤ a ∧ a < 128) (kk : rg_G κ Γ tb nL cells slots (pc + 1) lv (.int (rg_I a) :: rest) σ) : rg_G κ Γ tb nL cells slots pc lv (.int (rg_I a) :: rest) σ := by
  obtain ⟨p, e, R, s, m, args, below, meth, c, A, H0, Q⟩ := Γ
  obtain ⟨hx, hb, -⟩ := F
  intro H locs ls hP hS h
  exact lv_i2b hx hb d (rg_byte ha) (kk H locs ls hP hS h)
theorem rg_dup (F : rg_F κ Γ tb cc own nL fr lo) {va : Value} (d : decode cc pc = .ok (.dup, 1)) (hva : va.category = 1) (kk : rg_G κ Γ tb nL cells slots (pc + 1) lv (va :: va :: rest) σ) : rg_G κ Γ tb nL cells slots pc lv (va :: rest) σ := by
  obtain ⟨p, e, R, s, m, args, below, meth, c, A, H0, Q⟩ := Γ
  obtain ⟨hx, hb, -⟩ := F
  intro H locs ls hP hS h
  exact lv_dup hx hb d hva (kk H locs ls hP hS h)
theorem rg_dup2 (F : rg_F κ Γ tb cc own nL fr lo) {va vb : Value} (d : decode cc pc = .ok (.dup2, 1)) (hva : va.category = 1) (hvb : vb.category = 1) (kk : rg_G κ Γ tb nL cells slots (pc + 1) lv (va :: vb :: va :: vb :: rest) σ) : rg_G κ Γ tb nL cells slots pc lv (va :: vb :: rest) σ := by
  obtain ⟨p, e, R, s, m, args, below, meth, c, A, H0, Q⟩ := Γ
  obtain ⟨hx, hb, -⟩ := F
  intro H locs ls hP hS h
  exact lv_dup2_11 hx hb d hva hvb (kk H locs ls hP hS h)
theorem rg_pop (F : rg_F κ Γ tb cc own nL fr lo) {va : Value} (d : decode cc pc = .ok (.pop, 1)) (hva : va.category = 1) (kk : rg_G κ Γ tb nL cells slots (pc + 1) lv rest σ) : rg_G κ Γ tb nL cells slots pc lv (va :: rest) σ := by
  obtain ⟨p, e, R, s, m, args, below, meth, c, A, H0, Q⟩ := Γ
  obtain ⟨hx, hb, -⟩ := F
  intro H locs ls hP hS h
  exact lv_pop hx hb d hva (kk H locs ls hP hS h)
theorem rg_goto (F : rg_F κ Γ tb cc own nL fr lo) {off : Int} (tgt : Nat) (d : decode cc pc = .ok (.goto off, 3)) (ht : (pc : Int) + off = (tgt : Int)) (kk : rg_G κ Γ tb nL cells slots tgt lv st σ) : rg_G κ Γ tb nL cells slots pc lv st σ := by
  obtain ⟨p, e, R, s, m, args, below, meth, c, A, H0, Q⟩ := Γ
  obtain ⟨hx, hb, -⟩ := F
  intro H locs ls hP hS h
  exact lv_goto hx hb d ht (kk H locs ls hP hS h)
theorem rg_icmp_lt (F : rg_F κ Γ tb cc own nL fr lo) {a b off : Int} (tgt : Nat) (d : decode cc pc = .ok (.if_icmp .lt off, 3)) (ht : (pc : Int) + off = (tgt : Int)) (ha : rg_Rg a) (hb2 : rg_Rg b) (kt : a < b → rg_G κ Γ tb nL cells slots tgt lv rest σ) (kf : b ≤ a → rg_G κ Γ tb nL cells slots (pc + 3) lv rest σ) : rg_G κ Γ tb nL cells slots pc lv (.int (rg_I b) :: .int (rg_I a) :: rest) σ := by
  obtain ⟨p, e, R, s, m, args, below, meth, c, A, H0, Q⟩ := Γ
  obtain ⟨hx, hb, -⟩ := F
  intro H locs ls hP hS h
  exact lv_icmp_lt hx hb d ht (fun z => kt ((rg_I_lt ha hb2).mp z) H locs ls hP hS h) (fun z => kf (by rw [rg_I_lt ha hb2] at z; omega) H locs ls hP hS h)
theorem rg_icmp_ge (F : rg_F κ Γ tb cc own nL fr lo) {a b off : Int} (tgt : Nat) (d : decode cc pc = .ok (.if_icmp .ge off, 3)) (ht : (pc : Int) + off = (tgt : Int)) (ha : rg_Rg a) (hb2 : rg_Rg b) (kt : b ≤ a → rg_G κ Γ tb nL cells slots tgt lv rest σ) (kf : a < b → rg_G κ Γ tb nL cells slots (pc + 3) lv rest σ) : rg_G κ Γ tb nL cells slots pc lv (.int (rg_I b) :: .int (rg_I a) :: rest) σ := by
  obtain ⟨p, e, R, s, m, args, below, meth, c, A, H0, Q⟩ := Γ
  obtain ⟨hx, hb, -⟩ := F
  intro H locs ls hP hS h
  exact lv_icmp_ge hx hb d ht (fun z => kt ((rg_I_le hb2 ha).mp z) H locs ls hP hS h) (fun z => kf (by rw [rg_I_le hb2 ha] at z; omega) H locs ls hP hS h)
theorem rg_icmp_gt (F : rg_F κ Γ tb cc own nL fr lo) {a b off : Int} (tgt : Nat) (d : decode cc pc = .ok (.if_icmp .gt off, 3)) (ht : (pc : Int) + off = (tgt : Int)) (ha : rg_Rg a) (hb2 : rg_Rg b) (kt : b < a → rg_G κ Γ tb nL cells slots tgt lv rest σ) (kf : a ≤ b → rg_G κ Γ tb nL cells slots (pc + 3) lv rest σ) : rg_G κ Γ tb nL cells slots pc lv (.int (rg_I b) :: .int (rg_I a) :: rest) σ := by
  obtain ⟨p, e, R, s, m, args, below, meth, c, A, H0, Q⟩ := Γ
  obtain ⟨hx, hb, -⟩ := F
  intro H locs ls hP hS h
  exact lv_icmp_gt hx hb d ht (fun z => kt ((rg_I_lt hb2 ha).mp z) H locs ls hP hS h) (fun z => kf (by rw [rg_I_lt hb2 ha] at z; omega) H locs ls hP hS h)
theorem rg_icmp_le (F : rg_F κ Γ tb cc own nL fr lo) {a b off : Int} (tgt : Nat) (d : decode cc pc = .ok (.if_icmp .le off, 3)) (ht : (pc : Int) + off = (tgt : Int)) (ha : rg_Rg a) (hb2 : rg_Rg b) (kt : a ≤ b → rg_G κ Γ tb nL cells slots tgt lv rest σ) (kf : b < a → rg_G κ Γ tb nL cells slots (pc + 3) lv rest σ) : rg_G κ Γ tb nL cells slots pc lv (.int (rg_I b) :: .int (rg_I a) :: rest) σ := by
  obtain ⟨p, e, R, s, m, args, below, meth, c, A, H0, Q⟩ := Γ
  obtain ⟨hx, hb, -⟩ := F
  intro H locs ls hP hS h
  exact lv_icmp_le hx hb d ht (fun z => kt ((rg_I_le ha hb2).mp z) H locs ls hP hS h) (fun z => kf (by rw [rg_I_le ha hb2] at z; omega) H locs ls hP hS h)
theorem rg_icmp_eq (F : rg_F κ Γ tb cc own nL fr lo) {a b off : Int} (tgt : Nat) (d : decode cc pc = .ok (.if_icmp .eq off, 3)) (ht : (pc : Int) + off = (tgt : Int)) (ha : rg_Rg a) (hb2 : rg_Rg b) (kt : a = b → rg_G κ Γ tb nL cells slots tgt lv rest σ) (kf : ¬ a = b → rg_G κ Γ tb nL cells slots (pc + 3) lv rest σ) : rg_G κ Γ tb nL cells slots pc lv (.int (rg_I b) :: .int (rg_I a) :: rest) σ := by
  obtain ⟨p, e, R, s, m, args, below, meth, c, A, H0, Q⟩ := Γ
  obtain ⟨hx, hb, -⟩ := F
  intro H locs ls hP hS h
  exact lv_icmp_eq hx hb d ht (fun z => kt ((rg_I_inj ha hb2).mp z) H locs ls hP hS h) (fun z => kf (fun y => z (by rw [y])) H locs ls hP hS h)
theorem rg_icmp_ne (F : rg_F κ Γ tb cc own nL fr lo) {a b off : Int} (tgt : Nat) (d : decode cc pc = .ok (.if_icmp .ne off, 3)) (ht : (pc : Int) + off = (tgt : Int)) (ha : rg_Rg a) (hb2 : rg_Rg b) (kt : ¬ a = b → rg_G κ Γ tb nL cells slots tgt lv rest σ) (kf : a = b → rg_G κ Γ tb nL cells slots (pc + 3) lv rest σ) : rg_G κ Γ tb nL cells slots pc lv (.int (rg_I b) :: .int (rg_I a) :: rest) σ := by
  obtain ⟨p, e, R, s, m, args, below, meth, c, A, H0, Q⟩ := Γ
  obtain ⟨hx, hb, -⟩ := F
  intro H locs ls hP hS h
  exact lv_icmp_ne hx hb d ht (fun z => kt (fun y => z (by rw [y])) H locs ls hP hS h) (fun z => kf ((rg_I_inj ha hb2).mp z) H locs ls hP hS h)
theorem rg_if_eq (F : rg_F κ Γ tb cc own nL fr lo) {a off : Int} (tgt : Nat) (d : decode cc pc = .ok (.ifCond .eq off, 3)) (ht : (pc : Int) + off = (tgt : Int)) (ha : rg_Rg a) (kt : a = 0 → rg_G κ Γ tb nL cells slots tgt lv rest σ) (kf : ¬ a = 0 → rg_G κ Γ tb nL cells slots (pc + 3) lv rest σ) : rg_G κ Γ tb nL cells slots pc lv (.int (rg_I a) :: rest) σ := by
  obtain ⟨p, e, R, s, m, args, below, meth, c, A, H0, Q⟩ := Γ
  obtain ⟨hx, hb, -⟩ := F
  intro H locs ls hP hS h
  exact lv_if_eq hx hb d ht (fun z => kt ((rg_I_inj ha rg_R0).mp (z.trans rg_I_0.symm)) H locs ls hP hS h) (fun z => kf (fun y => z (by rw [y, rg_I_0])) H locs ls hP hS h)
theorem rg_if_ne (F : rg_F κ Γ tb cc own nL fr lo) {a off : Int} (tgt : Nat) (d : decode cc pc = .ok (.ifCond .ne off, 3)) (ht : (pc : Int) + off = (tgt : Int)) (ha : rg_Rg a) (kt : ¬ a = 0 → rg_G κ Γ tb nL cells slots tgt lv rest σ) (kf : a = 0 → rg_G κ Γ tb nL cells slots (pc + 3) lv rest σ) : rg_G κ Γ tb nL cells slots pc lv (.int (rg_I a) :: rest) σ := by
  obtain ⟨p, e, R, s, m, args, below, meth, c, A, H0, Q⟩ := Γ
  obtain ⟨hx, hb, -⟩ := F
  intro H locs ls hP hS h
  exact lv_if_ne hx hb d ht (fun z => kt (fun y => z (by rw [y, rg_I_0])) H locs ls hP hS h) (fun z => kf ((rg_I_inj ha rg_R0).mp (Eq.trans (by first | exact z | exact Classical.not_not.mp z) rg_I_0.symm)) H locs ls hP hS h)
theorem rg_if_lt (F : rg_F κ Γ tb cc own nL fr lo) {a off : Int} (tgt : Nat) (d : decode cc pc = .ok (.ifCond .lt off, 3)) (ht : (pc : Int) + off = (tgt : Int)) (ha : rg_Rg a) (kt : a < 0 → rg_G κ Γ tb nL cells slots tgt lv rest σ) (kf : 0 ≤ a → rg_G κ Γ tb nL cells slots (pc + 3) lv rest σ) : rg_G κ Γ tb nL cells slots pc lv (.int (rg_I a) :: rest) σ := by
  obtain ⟨p, e, R, s, m, args, below, meth, c, A, H0, Q⟩ := Γ
  obtain ⟨hx, hb, -⟩ := F
  intro H locs ls hP hS h
  exact lv_if_lt hx hb d ht (fun z => kt (by rw [← rg_I_0, rg_I_lt ha rg_R0] at z; exact z) H locs ls hP hS h) (fun z => kf (by rw [← rg_I_0, rg_I_lt ha rg_R0] at z; omega) H locs ls hP hS h)
theorem rg_if_ge (F : rg_F κ Γ tb cc own nL fr lo) {a off : Int} (tgt : Nat) (d : decode cc pc = .ok (.ifCond .ge off, 3)) (ht : (pc : Int) + off = (tgt : Int)) (ha : rg_Rg a) (kt : 0 ≤ a → rg_G κ Γ tb nL cells slots tgt lv rest σ) (kf : a < 0 → rg_G κ Γ tb nL cells slots (pc + 3) lv rest σ) : rg_G κ Γ tb nL cells slots pc lv (.int (rg_I a) :: rest) σ := by
  obtain ⟨p, e, R, s, m, args, below, meth, c, A, H0, Q⟩ := Γ
  obtain ⟨hx, hb, -⟩ := F
  intro H locs ls hP hS h
  exact lv_if_ge hx hb d ht (fun z => kt (by rw [← rg_I_0, rg_I_le rg_R0 ha] at z; exact z) H locs ls hP hS h) (fun z => kf (by rw [← rg_I_0, rg_I_le rg_R0 ha] at z; omega) H locs ls hP hS h)
theorem rg_if_le (F : rg_F κ Γ tb cc own nL fr lo) {a off : Int} (tgt : Nat) (d : decode cc pc = .ok (.ifCond .le off, 3)) (ht : (pc : Int) + off = (tgt : Int)) (ha : rg_Rg a) (kt : a ≤ 0 → rg_G κ Γ tb nL cells slots tgt lv rest σ) (kf : 0 < a → rg_G κ Γ tb nL cells slots (pc + 3) lv rest σ) : rg_G κ Γ tb nL cells slots pc lv (.int (rg_I a) :: rest) σ := by
  obtain ⟨p, e, R, s, m, args, below, meth, c, A, H0, Q⟩ := Γ
  obtain ⟨hx, hb, -⟩ := F
  intro H locs ls hP hS h
  exact lv_if_le hx hb d ht (fun z => kt (by rw [← rg_I_0, rg_I_le ha rg_R0] at z; exact z) H locs ls hP hS h) (fun z => kf (by rw [← rg_I_0, rg_I_le ha rg_R0] at z; omega) H locs ls hP hS h)
/-- an object field: an int or another cell of the world -/
theorem rg_get (F : rg_F κ Γ tb cc own nL fr lo) (k0 j : Nat) {ci idx N : Nat} {C : String} {T : u_T} {fs : List (Option Nat)} {o : Option Nat} {v : Value} (hs : tb[k0]? = some (.inr (ci, fs))) (hc : vwCl[ci]? = some (C, T, N)) (hin : ∀ w ∈ u_ws C T N, w ∈ lw_gd) (hj : j < N) (hlink : Cond.fieldLink own idx (T j).1 (T j).2.1 (T j).2.2.1 ∈ lw_gd) (ho : fs[j]? = some o) (hv : rg_fv κ.2.2.2 (σ k0) j o = v)
    (d : decode cc pc = .ok (.getfield idx, 3)) (kk : rg_G κ Γ tb nL cells slots (pc + 3) lv (v :: rest) σ) : rg_G κ Γ tb nL cells slots pc lv (.ref (κ.2.2.2 k0) :: rest) σ := by
  obtain ⟨p, e, R, s, m, args, below, meth, c, A, H0, Q⟩ := Γ
  obtain ⟨hx, hb, hml, hown, hts, hK, -⟩ := F
  intro H locs ls hP hS h
  exact va_get hx hb hts hin hown hK hP k0 (rg_wd_get σ hs) hc j hj (hts _ hlink) (fun _ h => h) (by rw [List.getElem?_mapIdx, ho]; exact congrArg some hv) d (kk H locs ls hP hS h)
theorem rg_put (F : rg_F κ Γ tb cc own nL fr lo) (k0 j : Nat) {ci idx N : Nat} {C : String} {T : u_T} {fs : List (Option Nat)} {ty0 : Nat → FieldType} {v : Int} (hs : tb[k0]? = some (.inr (ci, fs))) (hc : vwCl[ci]? = some (C, T, N)) (hin : ∀ w ∈ u_ws C T N, w ∈ lw_gd) (hty : ∀ k, k < N → parseFieldDescriptor (T k).2.2.1 = some (ty0 k)) (hnm : ∀ a, a < N → ∀ b, b < N → a ≠ b → (T a).2.1 ≠ (T b).2.1) (hj : j < N) (hlink : Cond.fieldLink own idx (T j).1 (T j).2.1 (T j).2.2.1 ∈ lw_gd) (hfin : (T j).2.2.2 = false) (ho : fs[j]? = some none)
    (hn : narrow (ty0 j) (.int (rg_I v)) = .int (rg_I v)) (hfit : fits (ty0 j) (.int (rg_I v)) = true) {f9 : Nat → Int} (hf : σ k0 = f9) (σ' : rg_S) (hσ : rg_wr σ k0 (rg_up f9 j v) = σ') (d : decode cc pc = .ok (.putfield idx, 3)) (kk : rg_G κ Γ tb nL cells slots (pc + 3) lv rest σ') : rg_G κ Γ tb nL cells slots pc lv (.int (rg_I v) :: .ref (κ.2.2.2 k0) :: rest) σ := by
  subst hf; subst hσ
  obtain ⟨p, e, R, s, m, args, below, meth, c, A, H0, Q⟩ := Γ
  obtain ⟨hx, hb, hml, hown, hts, hK, hi, hAi, hA, -⟩ := F
  intro H locs ls hP hS h
  refine va_put hx hb hts hin ty0 hty hnm hown hK hP (rg_wd_D hi hAi σ) hS k0 (rg_wd_get σ hs) hc j hj (hts _ hlink) (fun _ h => h) hfin (hty j hj) hn hfit (by rw [List.length_mapIdx]; exact (List.getElem?_eq_some_iff.mp ho).1) d (fun H1 locs1 hP1 _ hS1 => ?_)
  rw [rg_fs_set (σ k0) ho v] at hP1
  have e1 := rg_wd_set (κ := κ) σ hs (rg_up (σ k0) j v)
  simp only [rg_el] at e1
  rw [e1] at hP1
  exact kk H1 locs1 ls hP1 hS1 h
theorem rg_iald (F : rg_F κ Γ tb cc own nL fr lo) (k0 j : Nat) {n : Nat} {e v : Int} (hs : tb[k0]? = some (.inl (1, n))) (he : e = (j : Int)) (hj : j < n) (hn : n < 2 ^ 31) (hv : σ k0 j = v) (d : decode cc pc = .ok (.iaload, 1)) (kk : rg_G κ Γ tb nL cells slots (pc + 1) lv (.int (rg_I v) :: rest) σ) : rg_G κ Γ tb nL cells slots pc lv (.int (rg_I e) :: .ref (κ.2.2.2 k0) :: rest) σ := by
  obtain ⟨p, e1, R, s, m, args, below, meth, c, A, H0, Q⟩ := Γ
  obtain ⟨hx, hb, hml, hown, hts, hK, -⟩ := F
  intro H locs ls hP hS h
  subst he
  refine va_iald hx hb hK hP k0 1 (rg_wd_get σ hs) rfl (rg_I_in hj hn) d ?_
  rw [rg_I_clamp (by omega), hv]
  exact kk H locs ls hP hS h
theorem rg_zald (F : rg_F κ Γ tb cc own nL fr lo) (k0 j : Nat) {n : Nat} {e v : Int} (hs : tb[k0]? = some (.inl (2, n))) (he : e = (j : Int)) (hj : j < n) (hn : n < 2 ^ 31) (hv : σ k0 j = v) (d : decode cc pc = .ok (.baload, 1)) (kk : rg_G κ Γ tb nL cells slots (pc + 1) lv (.int (rg_I v) :: rest) σ) : rg_G κ Γ tb nL cells slots pc lv (.int (rg_I e) :: .ref (κ.2.2.2 k0) :: rest) σ := by
  obtain ⟨p, e1, R, s, m, args, below, meth, c, A, H0, Q⟩ := Γ
  obtain ⟨hx, hb, hml, hown, hts, hK, -⟩ := F
  intro H locs ls hP hS h
  subst he
  refine va_zald hx hb hK hP k0 2 (rg_wd_get σ hs) rfl (rg_I_in hj hn) d ?_
  rw [rg_I_clamp (by omega), hv]
  exact kk H locs ls hP hS h
theorem rg_bald (F : rg_F κ Γ tb cc own nL fr lo) (k0 j : Nat) {n : Nat} {e v : Int} (hs : tb[k0]? = some (.inl (0, n))) (he : e = (j : Int)) (hj : j < n) (hn : n < 2 ^ 31) (hv : σ k0 j = v) (d : decode cc pc = .ok (.baload, 1)) (kk : rg_G κ Γ tb nL cells slots (pc + 1) lv (.int (rg_I v) :: rest) σ) : rg_G κ Γ tb nL cells slots pc lv (.int (rg_I e) :: .ref (κ.2.2.2 k0) :: rest) σ := by
  obtain ⟨p, e1, R, s, m, args, below, meth, c, A, H0, Q⟩ := Γ
  obtain ⟨hx, hb, hml, hown, hts, hK, -⟩ := F
  intro H locs ls hP hS h
  subst he
  refine va_bald hx hb hK hP k0 0 (rg_wd_get σ hs) rfl (rg_I_in hj hn) d ?_
  rw [rg_I_clamp (by omega), hv]
  exact kk H locs ls hP hS h
theorem rg_iast (F : rg_F κ Γ tb cc own nL fr lo) (k0 j : Nat) {n : Nat} {e v : Int} (hs : tb[k0]? = some (.inl (1, n))) (he : e = (j : Int)) (hj : j < n) (hn : n < 2 ^ 31) {f9 : Nat → Int} (hf : σ k0 = f9) (σ' : rg_S) (hσ : rg_wr σ k0 (rg_up f9 j v) = σ') (d : decode cc pc = .ok (.iastore, 1)) (kk : rg_G κ Γ tb nL cells slots (pc + 1) lv rest σ') : rg_G κ Γ tb nL cells slots pc lv (.int (rg_I v) :: .int (rg_I e) :: .ref (κ.2.2.2 k0) :: rest) σ := by
  subst hf; subst hσ
  obtain ⟨p, e1, R, s, m, args, below, meth, c, A, H0, Q⟩ := Γ
  obtain ⟨hx, hb, hml, hown, hts, hK, hi, hAi, hA, -⟩ := F
  intro H locs ls hP hS h
  subst he
  refine va_iast hx hb hK hP (rg_wd_D hi hAi σ) hS k0 1 (rg_wd_get σ hs) rfl (rg_I_in hj hn) d (fun H1 locs1 hP1 _ hS1 => ?_)
  rw [rg_I_clamp (by omega), rg_upd] at hP1
  have e1 := rg_wd_set (κ := κ) σ hs (rg_up (σ k0) j v)
  simp only [rg_el] at e1
  rw [e1] at hP1
  exact kk H1 locs1 ls hP1 hS1 h
theorem rg_zast (F : rg_F κ Γ tb cc own nL fr lo) (k0 j : Nat) {n : Nat} {e v : Int} (hs : tb[k0]? = some (.inl (2, n))) (he : e = (j : Int)) (hj : j < n) (hn : n < 2 ^ 31) (hv : v = 0 ∨ v = 1) {f9 : Nat → Int} (hf : σ k0 = f9) (σ' : rg_S) (hσ : rg_wr σ k0 (rg_up f9 j v) = σ') (d : decode cc pc = .ok (.bastore, 1)) (kk : rg_G κ Γ tb nL cells slots (pc + 1) lv rest σ') : rg_G κ Γ tb nL cells slots pc lv (.int (rg_I v) :: .int (rg_I e) :: .ref (κ.2.2.2 k0) :: rest) σ := by
  subst hf; subst hσ
  obtain ⟨p, e1, R, s, m, args, below, meth, c, A, H0, Q⟩ := Γ
  obtain ⟨hx, hb, hml, hown, hts, hK, hi, hAi, hA, -⟩ := F
  intro H locs ls hP hS h
  subst he
  refine va_zast hx hb hK hP (rg_wd_D hi hAi σ) hS k0 2 (rg_wd_get σ hs) rfl (rg_I_in hj hn) d (fun H1 locs1 hP1 _ hS1 => ?_)
  rw [rg_I_clamp (by omega), rg_nar_z hv, rg_upd] at hP1
  have e1 := rg_wd_set (κ := κ) σ hs (rg_up (σ k0) j v)
  simp only [rg_el] at e1
  rw [e1] at hP1
  exact kk H1 locs1 ls hP1 hS1 h
theorem rg_bast (F : rg_F κ Γ tb cc own nL fr lo) (k0 j : Nat) {n : Nat} {e v : Int} (hs : tb[k0]? = some (.inl (0, n))) (he : e = (j : Int)) (hj : j < n) (hn : n < 2 ^ 31) (hv : -128 ≤ v ∧ v < 128) {f9 : Nat → Int} (hf : σ k0 = f9) (σ' : rg_S) (hσ : rg_wr σ k0 (rg_up f9 j v) = σ') (d : decode cc pc = .ok (.bastore, 1)) (kk : rg_G κ Γ tb nL cells slots (pc + 1) lv rest σ') : rg_G κ Γ tb nL cells slots pc lv (.int (rg_I v) :: .int (rg_I e) :: .ref (κ.2.2.2 k0) :: rest) σ := by
  subst hf; subst hσ
  obtain ⟨p, e1, R, s, m, args, below, meth, c, A, H0, Q⟩ := Γ
  obtain ⟨hx, hb, hml, hown, hts, hK, hi, hAi, hA, -⟩ := F
  intro H locs ls hP hS h
  subst he
  refine va_bast hx hb hK hP (rg_wd_D hi hAi σ) hS k0 0 (rg_wd_get σ hs) rfl (rg_I_in hj hn) d (fun H1 locs1 hP1 _ hS1 => ?_)
  rw [rg_I_clamp (by omega), rg_nar_b hv, rg_upd] at hP1
  have e1 := rg_wd_set (κ := κ) σ hs (rg_up (σ k0) j v)
  simp only [rg_el] at e1
  rw [e1] at hP1
  exact kk H1 locs1 ls hP1 hS1 h
theorem rg_alen (F : rg_F κ Γ tb cc own nL fr lo) (k0 : Nat) {kd n : Nat} {ty : FieldType} (hs : tb[k0]? = some (.inl (kd, n))) (ht : ∀ cy : rg_Cy, (rg_tys cy)[kd]? = some (rg_cy cy kd, ty)) (d : decode cc pc = .ok (.arraylength, 1)) (kk : rg_G κ Γ tb nL cells slots (pc + 1) lv (.int (rg_I (n : Int)) :: rest) σ) : rg_G κ Γ tb nL cells slots pc lv (.ref (κ.2.2.2 k0) :: rest) σ := by
  obtain ⟨p, e1, R, s, m, args, below, meth, c, A, H0, Q⟩ := Γ
  obtain ⟨hx, hb, hml, hown, hts, hK, -⟩ := F
  intro H locs ls hP hS h
  exact va_alen hx hb hK hP k0 kd (rg_wd_get σ hs) (ht _) (rg_I_nat n).symm d (kk H locs ls hP hS h)
end RG
