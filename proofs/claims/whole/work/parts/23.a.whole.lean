/-! THE CLAIM OUT OF ONE WALK OF THE LAW'S BODY. Your part is whole_start (and what it stands on); all else here is the same for every law, but numbers. -/
def R_law : String := "RegattaOfficeLaw"
def lw_P (b : Addr) (xs : List Int32) (args : Array Value) (s : State) : Prop := args = #[.ref b] ∧ s.IntsAt b xs ∧ xs.length ≤ 2560 ∧ (Jvm.Cond.and given_1 narrow_1).before args s = true
/-- what a walk over the start with the record d0 says of its end, said of the start itself -/
theorem lw_closed {s t : State} {o : Outcome} {d0 : Drawn} {L : List Loc} {k n : Nat} (hd0 : s.drawn.sameBut d0 lw_cs) (hv : ∃ v, o = .returned v) (hW : (s.setDrawn d0).WarmedH t.vm) (hs : (s.setDrawn d0).sameButNew ({ t with vm := s.vm } : State) L k n) : State.butDraws s t lw_cs (fun t1 => Framed s o t1 L k n) := by
  have h2 : t.drawn = d0 := congrArg State.drawn hs.1
  refine ⟨⟨hv, hW, State.sameButNew.setDrawn hs s.drawn⟩, ?_, by decide⟩
  rw [h2]
  exact hd0
def lw_Q (_ : Array Value) (s : State) (o : Outcome) (t : State) : Prop := o = .returned (some (.int 1)) ∧ State.butDraws s t lw_cs (fun t1 => Framed s o t1 [] 1122 42737)
def lw_Z (below : List Frame) (a : Array Value) (s : State) : State → Prop := fun t => ∃ o, t.status = .running ∧ Ended t below o ∧ lw_Q a s o t
/-- the law's own end, with 1 on the stack, nothing written that was there before, its room as the claim has it; d0: the record of draws at this point (at the entry s.drawn: begin with 'refine W.base ?_' and 'have hd0 := Drawn.sameBut.refl s.drawn lw_cs') -/
theorem lw_ret {p : Program} {l : Launch} {e : Env} {s : State} {m : MethodId} {below : List Frame} {meth : Method} {c : Code} {b : Nat} {d0 : Drawn} (hd0 : s.drawn.sameBut d0 lw_cs) (hx : p.tables.exec = Jvm.exec) (hb : c.code = code) (hr : meth.sig.returnType = ret) (hlocks : meth.locks = false) {pc : Nat} {H : Heap} {ls : Array Slot} (hdg : decode code pc = .ok (.ireturn, 1)) : W p l e room_1 (s.setDrawn d0) m #[Value.ref b] below meth c H [] 1122 42737 (lw_Z below #[Value.ref b] s) (F0 m pc ls [.int 1]) := by
  intro T hT X
  obtain ⟨fs, hret, hrun, hended, hW, hframe⟩ := X.leave (v := some (.int 1)) (hlocks := hlocks) (fun h => by rw [hr] at h; cases h)
  have hmeth' : T.vm.method? m = some meth := X.method'
  refine ⟨T.setFrames fs, ?_, .returned (some (.int 1)), hrun, hended, rfl, lw_closed hd0 ⟨_, rfl⟩ hW hframe⟩
  jvm_step X.here [X.here.top, hx, hb, hdg, hmeth', hr, ret, narrow_b1]
  (try refine ⟨rfl, ?_⟩); (try refine ⟨rfl, ?_⟩)
  first | (intro acts; rw [hret _ acts rfl rfl rfl]) | rw [hret _ _ rfl rfl rfl]
  exact Steps.refl _
/-- what holds at the law's entry: the machine, the code, the tables' words (any of lw_tbl by 'hts w (by decide +kernel)'), the script of L ints xs at the cell b, what the Statement gives of the start (any of its parts by flat_of_before) -/
def lw_At (p : Program) (s : State) (m : MethodId) (meth : Method) (c : Code) (b L : Nat) (xs : Nat → Int32) : Prop :=
  p.tables.exec = Jvm.exec ∧ c.code = code ∧ meth.sig.returnType = ret ∧ c.maxLocals = 9 ∧ s.vm.findClass R_law = some m.cls ∧ (∀ w ∈ lw_tbl, w.before #[Value.ref b] s = true) ∧ va_X b L xs s s.heap ∧ b < s.heap.size ∧ meth.locks = false ∧ (Jvm.Cond.and given_1 narrow_1).before #[Value.ref b] s = true
/-- texts that lie elsewhere by another count of their places -/
theorem rg_vkS {len : List Nat} {byt : List (List Int32)} {a v a' v' : Nat → Nat} {A : Nat → Prop} {U : State} {H : Heap} (h : vk_S 18 len byt a v A U H) (ha : ∀ i, i < 18 → a' i = a i) (hv : ∀ i, i < 18 → v' i = v i) : vk_S 18 len byt a' v' A U H :=
  ⟨fun i hi => by rw [ha i hi, hv i hi]; exact h.1 i hi, fun i j hi hj e => h.2 i j hi hj (by rw [← ha i hi, ← ha j hj]; exact e)⟩
theorem whole_start {p : Program} {e : Env} {s : State} {m : MethodId} {below : List Frame} {meth : Method} {c : Code} (l : Launch) (hflags : l.flags = flags0) {b L : Nat} {xs : Nat → Int32} (hL : L ≤ 2560) (C0 : lw_At p s m meth c b L xs) : W p l e room_1 s m #[Value.ref b] below meth c s.heap [] 0 0 (lw_Z below #[Value.ref b] s) (entryFrame m ([Value.ref b] : List Value).toArray 9) := by
  obtain ⟨hx, hb, hret, hmx, hown, hts, hX, hbl, hlk, hgv⟩ := C0
  have hpre : ∀ w ∈ lw_flat, w.before #[Value.ref b] s = true := flat_of_before _ hgv
  have hgd : ∀ w ∈ lw_gd, w.before #[Value.ref b] s = true := fun w hw => hts w (lw_gd_tbl hw)
  have hA0 : ∀ a : Nat, a < s.heap.size → ¬ (s.heap.size ≤ a) := fun a h => by omega
  obtain ⟨D, hD1⟩ := rg_known hgd
  obtain ⟨cB, a1, r1⟩ := rg_arrOf (s := s) (ty := .byte) (fun _ h => h) (hgd _ k_ar_byte)
  obtain ⟨cI, a2, r2⟩ := rg_arrOf (s := s) (ty := .int) (fun _ h => h) (hgd _ k_ar_int)
  obtain ⟨cZ, a3, r3⟩ := rg_arrOf (s := s) (ty := .boolean) (fun _ h => h) (hgd _ k_ar_boolean)
  obtain ⟨cJ, a4, r4⟩ := rg_arrOf (s := s) (ty := .long) (fun _ h => h) (hgd _ k_ar_long)
  obtain ⟨cD, a5, r5⟩ := rg_arrOf (s := s) (ty := .double) (fun _ h => h) (hgd _ k_ar_double)
  obtain ⟨adK, adV, hS1, hS2⟩ := rg_texts (A := fun q => s.heap.size ≤ q) hts hpre hA0
  obtain ⟨z1, z2, z3, z4⟩ := rg_stat (A := fun q => s.heap.size ≤ q) hts hpre hA0
  have hK : va_K D vwCl (rg_tys (cB, cI, cZ)) s := ⟨hD1, fun k q hq => by
    have hk : k < 3 := (List.getElem?_eq_some_iff.mp hq).1
    rcases (show k = 0 ∨ k = 1 ∨ k = 2 by omega) with rfl | rfl | rfl
    · cases Option.some.inj hq; exact ⟨a1, r1⟩
    · cases Option.some.inj hq; exact ⟨a2, r2⟩
    · cases Option.some.inj hq; exact ⟨a3, r3⟩⟩
  have hKo : va_K D vwCl (rg_tyo (cJ, cD)) s := ⟨hD1, fun k q hq => by
    have hk : k < 2 := (List.getElem?_eq_some_iff.mp hq).1
    rcases (show k = 0 ∨ k = 1 by omega) with rfl | rfl
    · cases Option.some.inj hq; exact ⟨a4, r4⟩
    · cases Option.some.inj hq; exact ⟨a5, r5⟩⟩
  have hst : l.stackTraces = false := by
    show (!l.flags.contains noTraceFlag) = false
    rw [hflags]
    decide +kernel
  have kE : ∀ (cells slots : Nat) (lv : List (Nat × Value)) (w : va_W), cells ≤ 1122 → slots ≤ 42737 → rg_J (l, D, (cB, cI, cZ), fun i => if i < 200 then adK (i - 100) else adV (i - 200)) (p, e, room_1, s, m, #[Value.ref b], below, meth, c, fun q => s.heap.size ≤ q, s.heap, lw_Z below #[Value.ref b] s) 9 cells slots 1757 lv [] w := by
    intro cells slots lv w h1 h2 H locs ls hP hS h
    refine lv_iconst hx hb dC_1757 rfl ?_
    refine va_forget hS.2.2 ?_
    refine W.widen h1 h2 ?_
    refine W.base ?_
    exact lw_ret (Drawn.sameBut.refl s.drawn lw_cs) hx hb hret hlk dC_1758
  have hl := lv_entry ([Value.ref b] : List Value) (n := 9) (Nat.le_of_ble_eq_true rfl)
  rw [lg_entry_eq]
  refine (rg_opens (κ := (l, D, (cB, cI, cZ), fun i => if i < 200 then adK (i - 100) else adV (i - 200))) (co := (cJ, cD)) (L := L) (xs := xs) ⟨hx, hb, hmx, hown, hgd, hK, fun q h => h, ⟨Nat.le_refl 13, Nat.le_refl 480, Nat.le_refl 1122, Nat.le_refl 42737⟩, hlk, rg_nest0 hts, rg_exw0 hts, rfl⟩ ⟨hst, rg_vkS hS1 (fun i hi => ?_) (fun i hi => ?_), z1, z2, z3, z4, fun i q hq => ?_⟩ hKo (rg_ncp0 hpre) ⟨hX, hbl, hA0 b hbl, hL⟩ kE) s.heap [] _ (fun k q hq => absurd hq (by rw [List.getElem?_nil]; exact nofun)) va_S.rf hl
  · show (if 100 + i < 200 then adK (100 + i - 100) else adV (100 + i - 200)) = adK i
    rw [if_pos (by omega), Nat.add_sub_cancel_left]
  · show (if 200 + i < 200 then adK (200 + i - 100) else adV (200 + i - 200)) = adV i
    rw [if_neg (by omega), Nat.add_sub_cancel_left]
  · have hi : i < 43 := (List.getElem?_eq_some_iff.mp hq).1
    show vk_R RX9 q.1 q.2 (if 100 + i < 200 then adK (100 + i - 100) else adV (100 + i - 200)) s
    rw [if_pos (by omega), Nat.add_sub_cancel_left]
    exact hS2 i q hq
