/-! Contracts of the reference, 3 (laid by program). -/
set_option maxHeartbeats 400000 in
set_option maxRecDepth 100000 in
/-- sum -/
theorem k_X10_sum (κ : rg_K) (σ : rg_S) (b : Nat) (fl : Nat → Int) (kd : Nat → Int) (rf : Nat → Int) (sr : Nat → Int) (sm : Nat → Int) (en : Nat → Int) (sl : Nat → Int) (pt : Nat → Int) (f20 : Nat → Int) (f21 : Nat → Int) (f22 : Nat → Int) (f23 : Nat → Int) (f24 : Nat → Int) (nr : Nat) (ns : Nat) (h2 : σ 2 = fl) (h3 : σ 3 = kd) (h4 : σ 4 = rf) (h13 : σ 13 = sr) (h14 : σ 14 = sm) (h15 : σ 15 = en) (h18 : σ 18 = sl) (h19 : σ 19 = pt) (h20 : σ 20 = f20) (h21 : σ 21 = f21) (h22 : σ 22 = f22) (h23 : σ 23 = f23) (h24 : σ 24 = f24) (h0_4 : σ 0 4 = ((nr : Nat) : Int)) (h0_17 : σ 0 17 = ((ns : Nat) : Int)) (hb : b < 40) (hnr : nr ≤ 16) (hns : ns ≤ 6) (hen : ∀ j, rg_Rg (en j)) (hkd : ∀ j, rg_Rg (kd j)) (hsl : ∀ j, rg_Rg (sl j)) (hfl : ∀ j, rg_Rg (fl j)) (hrf : ∀ j, rg_Rg (rf j)) (hsr : ∀ j, rg_Rg (sr j)) (hsm : ∀ k, k < ns → 0 ≤ sm k ∧ sm k ≤ 15) (hsc : ∀ o, o < nr → rg_Rg (rg_ms2 kd pt o b)) : rg_CV κ rg_tM yX10_sum cX10_sum 11 3 66 [.ref (κ.2.2.2 0), .int (rg_I ((b : Nat) : Int))] σ (fun σ9 => σ9 = (rg_wr (rg_wr (rg_wr (rg_wr (rg_wr σ 20 (rg_col f20 nr b (fun _ => True) (fun o => rg_mD sl rf fl kd en pt sr sm ns nr o b))) 21 (rg_up f21 b (rg_mG sl rf fl kd pt nr b))) 22 (rg_up f22 b (rg_mN sl rf fl kd en pt sr sm ns nr b))) 23 (rg_up f23 b (rg_mM sl rf fl nr b))) 24 (rg_up f24 b (rg_mC sl rf fl kd en pt sr sm ns nr b)))) := by
  refine rg_entV [(0, .ref (κ.2.2.2 0)), (1, .int (rg_I ((b : Nat) : Int)))] rfl (by decide +kernel) (Nat.le_of_ble_eq_true rfl) (fun Γ F hR => ?_)
  refine rg_iconst F dX10_sum_0 ?_
  refine rg_istore_n F [(2, .int (rg_I 0)), (0, .ref (κ.2.2.2 0)), (1, .int (rg_I ((b : Nat) : Int)))] dX10_sum_1 rfl (by decide) rfl ?_
  refine rg_iconst F dX10_sum_2 ?_
  refine rg_istore_n F [(3, .int (rg_I 0)), (2, .int (rg_I 0)), (0, .ref (κ.2.2.2 0)), (1, .int (rg_I ((b : Nat) : Int)))] dX10_sum_3 rfl (by decide) rfl ?_
  refine rg_iconst F dX10_sum_4 ?_
  refine rg_istore F [(4, .int (rg_I 0)), (3, .int (rg_I 0)), (2, .int (rg_I 0)), (0, .ref (κ.2.2.2 0)), (1, .int (rg_I ((b : Nat) : Int)))] dX10_sum_5 (by decide) rfl ?_
  have L7 : ∀ (n7 : Nat) (m : Nat) (a : Int) (r : Nat), n7 = nr - r → (r ≤ nr) → (m = rg_cnt (fun o => rg_in sl rf fl o b) r) → (a = rg_sum (fun o => rg_ite ((fun o => rg_in sl rf fl o b) o) ((fun o => rg_ms2 kd pt o b) o) 0) r) → (m ≤ r) → rg_G κ Γ rg_tM 11 0 0 7 [(0, .ref (κ.2.2.2 0)), (1, .int (rg_I ((b : Nat) : Int))), (2, .int (rg_I ((m : Nat) : Int))), (3, .int (rg_I a)), (4, .int (rg_I ((r : Nat) : Int)))] [] σ := by
    intro n7
    induction n7 using Nat.strongRecOn with
    | _ n7 ih7 =>
      intro m a r hn7 hr hm ha hmr
      refine rg_iload F 4 4 rfl dX10_sum_7 ?_
      refine rg_aload_n F 0 0 rfl dX10_sum_9 rfl ?_
      refine rg_get F 0 4 tM0 cX10 k_lays_X10 (by decide) k_fl_X10_99 rfl (v := .int (rg_I ((nr : Nat) : Int))) (congrArg (fun x => Value.int (rg_I x)) h0_4) dX10_sum_10 ?_
      refine rg_icmp_ge F 64 dX10_sum_13 (by decide) (by omega) (by omega) (fun c13_1 => ?_) (fun c13_1 => ?_)
      ·
        have hmm : ((m : Nat) : Int) = rg_mM sl rf fl nr b := by unfold rg_mM; rw [hm, show r = nr by omega]
        have haa : a = rg_mG sl rf fl kd pt nr b := by unfold rg_mG; rw [ha, show r = nr by omega]
        refine rg_aload_n F 0 0 rfl dX10_sum_64 rfl ?_
        refine rg_iload_n F 2 2 rfl dX10_sum_65 rfl ?_
        refine rg_callVI F [.int (rg_I ((m : Nat) : Int))] [] 0 (k_X10_allowed κ σ (((m : Nat) : Int)) sr sm (ns) (h13) (h14) (h0_17) (by first | assumption | omega) (by exact ⟨by omega, by omega⟩) (by first | assumption | omega)) tM0 cX10 v_X10_allowed i_X10_allowed k_ml_X10_147 ⟨Nat.le_of_ble_eq_true rfl, Nat.le_of_ble_eq_true rfl⟩ rfl (Nat.le_of_ble_eq_true rfl) dX10_sum_66 (rg_ex2 ?_)
        show rg_G κ Γ rg_tM 11 0 0 (66 + 3) [(0, .ref (κ.2.2.2 0)), (1, .int (rg_I ((b : Nat) : Int))), (2, .int (rg_I ((m : Nat) : Int))), (3, .int (rg_I a)), (4, .int (rg_I ((r : Nat) : Int)))] [.int (rg_I (rg_al sr sm ((m : Nat) : Int) ns))] σ
        refine rg_stk (st' := [.int (rg_I (rg_al sr sm (rg_mM sl rf fl nr b) ns))]) (congrArg (fun x => Value.int (rg_I x) :: []) (by rw [hmm])) ?_
        refine rg_istore F [(4, .int (rg_I (rg_al sr sm (rg_mM sl rf fl nr b) ns))), (0, .ref (κ.2.2.2 0)), (1, .int (rg_I ((b : Nat) : Int))), (2, .int (rg_I ((m : Nat) : Int))), (3, .int (rg_I a))] dX10_sum_69 (by decide) rfl ?_
        refine rg_iload_n F 4 3 rfl dX10_sum_71 rfl ?_
        refine rg_istore F [(5, .int (rg_I a)), (4, .int (rg_I (rg_al sr sm (rg_mM sl rf fl nr b) ns))), (0, .ref (κ.2.2.2 0)), (1, .int (rg_I ((b : Nat) : Int))), (2, .int (rg_I ((m : Nat) : Int))), (3, .int (rg_I a))] dX10_sum_72 (by decide) rfl ?_
        refine rg_iconst F dX10_sum_74 ?_
        refine rg_istore F [(6, .int (rg_I 0)), (5, .int (rg_I a)), (4, .int (rg_I (rg_al sr sm (rg_mM sl rf fl nr b) ns))), (0, .ref (κ.2.2.2 0)), (1, .int (rg_I ((b : Nat) : Int))), (2, .int (rg_I ((m : Nat) : Int))), (3, .int (rg_I a))] dX10_sum_75 (by decide) rfl ?_
        refine rg_iconst F dX10_sum_77 ?_
        refine rg_istore F [(7, .int (rg_I 0)), (6, .int (rg_I 0)), (5, .int (rg_I a)), (4, .int (rg_I (rg_al sr sm (rg_mM sl rf fl nr b) ns))), (0, .ref (κ.2.2.2 0)), (1, .int (rg_I ((b : Nat) : Int))), (2, .int (rg_I ((m : Nat) : Int))), (3, .int (rg_I a))] dX10_sum_78 (by decide) rfl ?_
        have L80 : ∀ (n80 : Nat) (t : Int) (u : Nat) (r : Nat), n80 = nr - r → (r ≤ nr) → (t = a - rg_sum (fun o => rg_ite ((fun o => ¬ (fun o => rg_ml sl rf fl kd en pt (rg_al sr sm (rg_mM sl rf fl nr b) ns) nr b o) o = 0) o) ((fun o => rg_ms2 kd pt o b) o) 0) r) → (u = rg_cnt (fun o => ¬ (fun o => rg_ml sl rf fl kd en pt (rg_al sr sm (rg_mM sl rf fl nr b) ns) nr b o) o = 0) r) → rg_G κ Γ rg_tM 11 0 0 80 [(0, .ref (κ.2.2.2 0)), (1, .int (rg_I ((b : Nat) : Int))), (2, .int (rg_I ((m : Nat) : Int))), (3, .int (rg_I a)), (4, .int (rg_I (rg_al sr sm (rg_mM sl rf fl nr b) ns))), (5, .int (rg_I t)), (6, .int (rg_I ((u : Nat) : Int))), (7, .int (rg_I ((r : Nat) : Int)))] [] (rg_wr σ 20 (rg_col f20 r b (fun _ => True) (fun o => rg_ml sl rf fl kd en pt (rg_al sr sm (rg_mM sl rf fl nr b) ns) nr b o))) := by
          intro n80
          induction n80 using Nat.strongRecOn with
          | _ n80 ih80 =>
            intro t u r hn80 hr ht hu
            refine rg_iload F 7 7 rfl dX10_sum_80 ?_
            refine rg_aload_n F 0 0 rfl dX10_sum_82 rfl ?_
            refine rg_get F 0 4 tM0 cX10 k_lays_X10 (by decide) k_fl_X10_99 rfl (v := .int (rg_I ((nr : Nat) : Int))) (congrArg (fun x => Value.int (rg_I x)) h0_4) dX10_sum_83 ?_
            refine rg_icmp_ge F 279 dX10_sum_86 (by decide) (by omega) (by omega) (fun c86_2 => ?_) (fun c86_2 => ?_)
            ·
              refine rg_aload_n F 0 0 rfl dX10_sum_279 rfl ?_
              refine rg_get F 0 29 tM0 cX10 k_lays_X10 (by decide) k_fl_X10_77 rfl (v := .ref (κ.2.2.2 23)) rfl dX10_sum_280 ?_
              refine rg_iload_n F 1 1 rfl dX10_sum_283 rfl ?_
              refine rg_iload_n F 2 2 rfl dX10_sum_284 rfl ?_
              refine rg_iast F 23 b tM23 (by omega) (by omega) (by decide) (f9 := f23) h23 (rg_wr (rg_wr σ 20 (rg_col f20 r b (fun _ => True) (fun o => rg_ml sl rf fl kd en pt (rg_al sr sm (rg_mM sl rf fl nr b) ns) nr b o))) 23 (rg_up f23 b ((m : Nat) : Int))) rfl dX10_sum_285 ?_
              refine rg_aload_n F 0 0 rfl dX10_sum_286 rfl ?_
              refine rg_get F 0 27 tM0 cX10 k_lays_X10 (by decide) k_fl_X10_71 rfl (v := .ref (κ.2.2.2 21)) rfl dX10_sum_287 ?_
              refine rg_iload_n F 1 1 rfl dX10_sum_290 rfl ?_
              refine rg_iload_n F 3 3 rfl dX10_sum_291 rfl ?_
              refine rg_iast F 21 b tM21 (by omega) (by omega) (by decide) (f9 := f21) h21 (rg_wr (rg_wr (rg_wr σ 20 (rg_col f20 r b (fun _ => True) (fun o => rg_ml sl rf fl kd en pt (rg_al sr sm (rg_mM sl rf fl nr b) ns) nr b o))) 21 (rg_up f21 b a)) 23 (rg_up f23 b ((m : Nat) : Int))) ((rg_wr_comm _ _ _ (by decide)).trans (rg_wr_congr 23 rfl rfl)) dX10_sum_292 ?_
              refine rg_aload_n F 0 0 rfl dX10_sum_293 rfl ?_
              refine rg_get F 0 28 tM0 cX10 k_lays_X10 (by decide) k_fl_X10_74 rfl (v := .ref (κ.2.2.2 22)) rfl dX10_sum_294 ?_
              refine rg_iload_n F 1 1 rfl dX10_sum_297 rfl ?_
              refine rg_iload F 5 5 rfl dX10_sum_298 ?_
              refine rg_iast F 22 b tM22 (by omega) (by omega) (by decide) (f9 := f22) h22 (rg_wr (rg_wr (rg_wr (rg_wr σ 20 (rg_col f20 r b (fun _ => True) (fun o => rg_ml sl rf fl kd en pt (rg_al sr sm (rg_mM sl rf fl nr b) ns) nr b o))) 21 (rg_up f21 b a)) 22 (rg_up f22 b t)) 23 (rg_up f23 b ((m : Nat) : Int))) ((rg_wr_comm _ _ _ (by decide)).trans (rg_wr_congr 23 rfl rfl)) dX10_sum_300 ?_
              refine rg_aload_n F 0 0 rfl dX10_sum_301 rfl ?_
              refine rg_get F 0 30 tM0 cX10 k_lays_X10 (by decide) k_fl_X10_80 rfl (v := .ref (κ.2.2.2 24)) rfl dX10_sum_302 ?_
              refine rg_iload_n F 1 1 rfl dX10_sum_305 rfl ?_
              refine rg_iload F 6 6 rfl dX10_sum_306 ?_
              refine rg_iast F 24 b tM24 (by omega) (by omega) (by decide) (f9 := f24) h24 (rg_wr (rg_wr (rg_wr (rg_wr (rg_wr σ 20 (rg_col f20 r b (fun _ => True) (fun o => rg_ml sl rf fl kd en pt (rg_al sr sm (rg_mM sl rf fl nr b) ns) nr b o))) 21 (rg_up f21 b a)) 22 (rg_up f22 b t)) 23 (rg_up f23 b ((m : Nat) : Int))) 24 (rg_up f24 b ((u : Nat) : Int))) rfl dX10_sum_308 ?_
              exact hR _ _ _ dX10_sum_309 (rg_wr_congr (f := (rg_up f24 b ((u : Nat) : Int))) (g := (rg_up f24 b (rg_mC sl rf fl kd en pt sr sm ns nr b))) 24 (rg_wr_congr (f := (rg_up f23 b ((m : Nat) : Int))) (g := (rg_up f23 b (rg_mM sl rf fl nr b))) 23 (rg_wr_congr (f := (rg_up f22 b t)) (g := (rg_up f22 b (rg_mN sl rf fl kd en pt sr sm ns nr b))) 22 (rg_wr_congr (f := (rg_up f21 b a)) (g := (rg_up f21 b (rg_mG sl rf fl kd pt nr b))) 21 (rg_wr_congr (f := (rg_col f20 r b (fun _ => True) (fun o => rg_ml sl rf fl kd en pt (rg_al sr sm (rg_mM sl rf fl nr b) ns) nr b o))) (g := (rg_col f20 nr b (fun _ => True) (fun o => rg_mD sl rf fl kd en pt sr sm ns nr o b))) 20 rfl (by rw [show r = nr by omega]; rfl)) (by rw [haa])) (congrArg _ (by unfold rg_mN; rw [ht, haa, show r = nr by omega]; rfl))) (by rw [hmm])) (congrArg _ (by unfold rg_mC; rw [hu, show r = nr by omega]; rfl)))
            ·
              refine rg_iconst F dX10_sum_89 ?_
              refine rg_istore F [(8, .int (rg_I 0)), (0, .ref (κ.2.2.2 0)), (1, .int (rg_I ((b : Nat) : Int))), (2, .int (rg_I ((m : Nat) : Int))), (3, .int (rg_I a)), (4, .int (rg_I (rg_al sr sm (rg_mM sl rf fl nr b) ns))), (5, .int (rg_I t)), (6, .int (rg_I ((u : Nat) : Int))), (7, .int (rg_I ((r : Nat) : Int)))] dX10_sum_90 (by decide) rfl ?_
              refine rg_iconst F dX10_sum_92 ?_
              refine rg_istore F [(9, .int (rg_I 0)), (8, .int (rg_I 0)), (0, .ref (κ.2.2.2 0)), (1, .int (rg_I ((b : Nat) : Int))), (2, .int (rg_I ((m : Nat) : Int))), (3, .int (rg_I a)), (4, .int (rg_I (rg_al sr sm (rg_mM sl rf fl nr b) ns))), (5, .int (rg_I t)), (6, .int (rg_I ((u : Nat) : Int))), (7, .int (rg_I ((r : Nat) : Int)))] dX10_sum_93 (by decide) rfl ?_
              have L95 : ∀ (n95 : Nat) (x : Nat) (o : Nat), n95 = nr - o → (o ≤ nr) → (x = rg_cnt (fun o => rg_mg sl rf fl kd en o b ∧ rg_sn2 kd pt b o r) o) → (x ≤ o) → rg_G κ Γ rg_tM 11 0 0 95 [(0, .ref (κ.2.2.2 0)), (1, .int (rg_I ((b : Nat) : Int))), (2, .int (rg_I ((m : Nat) : Int))), (3, .int (rg_I a)), (4, .int (rg_I (rg_al sr sm (rg_mM sl rf fl nr b) ns))), (5, .int (rg_I t)), (6, .int (rg_I ((u : Nat) : Int))), (7, .int (rg_I ((r : Nat) : Int))), (8, .int (rg_I ((x : Nat) : Int))), (9, .int (rg_I ((o : Nat) : Int)))] [] (rg_wr σ 20 (rg_col f20 r b (fun _ => True) (fun o => rg_ml sl rf fl kd en pt (rg_al sr sm (rg_mM sl rf fl nr b) ns) nr b o))) := by
                intro n95
                induction n95 using Nat.strongRecOn with
                | _ n95 ih95 =>
                  intro x o hn95 ho hx hxo
                  refine rg_iload F 9 9 rfl dX10_sum_95 ?_
                  refine rg_aload_n F 0 0 rfl dX10_sum_97 rfl ?_
                  refine rg_get F 0 4 tM0 cX10 k_lays_X10 (by decide) k_fl_X10_99 rfl (v := .int (rg_I ((nr : Nat) : Int))) (congrArg (fun x => Value.int (rg_I x)) h0_4) dX10_sum_98 ?_
                  refine rg_icmp_ge F 183 dX10_sum_101 (by decide) (by omega) (by omega) (fun c101_3 => ?_) (fun c101_3 => ?_)
                  ·
                    have hxx : x = rg_mb sl rf fl kd en pt nr b r := by unfold rg_mb; rw [hx, show o = nr by omega]
                    refine rg_aload_n F 0 0 rfl dX10_sum_183 rfl ?_
                    refine rg_get F 0 26 tM0 cX10 k_lays_X10 (by decide) k_fl_X10_68 rfl (v := .ref (κ.2.2.2 20)) rfl dX10_sum_184 ?_
                    refine rg_bipush F dX10_sum_187 (by decide +kernel) ?_
                    refine rg_iload F 7 7 rfl dX10_sum_189 ?_
                    refine rg_imul F dX10_sum_191 ?_
                    refine rg_iload_n F 1 1 rfl dX10_sum_192 rfl ?_
                    refine rg_iadd F dX10_sum_193 ?_
                    refine rg_stk (st' := [.int (rg_I ((r * 40 + b : Nat) : Int)), .ref (κ.2.2.2 20)]) (congrArg (fun x9 : Int => Value.int (rg_I x9) :: [.ref (κ.2.2.2 20)]) (by omega)) ?_
                    refine rg_aload_n F 0 0 rfl dX10_sum_194 rfl ?_
                    refine rg_iload F 7 7 rfl dX10_sum_195 ?_
                    refine rg_iload_n F 1 1 rfl dX10_sum_197 rfl ?_
                    refine rg_callVI F [.int (rg_I ((r : Nat) : Int)), .int (rg_I ((b : Nat) : Int))] [.int (rg_I ((r * 40 + b : Nat) : Int)), .ref (κ.2.2.2 20)] 0 (k_X10_mayGo κ (rg_wr σ 20 (rg_col f20 r b (fun _ => True) (fun o => rg_ml sl rf fl kd en pt (rg_al sr sm (rg_mM sl rf fl nr b) ns) nr b o))) (r) (b) fl kd rf en sl (h2) (h3) (h4) (h15) (h18) (by first | assumption | omega) (by first | assumption | omega) (by first | assumption | omega) (by first | assumption | omega) (by first | assumption | omega) (by first | assumption | omega) (by first | assumption | omega)) tM0 cX10 v_X10_mayGo i_X10_mayGo k_ml_X10_150 ⟨Nat.le_of_ble_eq_true rfl, Nat.le_of_ble_eq_true rfl⟩ rfl (Nat.le_of_ble_eq_true rfl) dX10_sum_198 (rg_ex2 ?_)
                    show rg_G κ Γ rg_tM 11 0 0 (198 + 3) [(0, .ref (κ.2.2.2 0)), (1, .int (rg_I ((b : Nat) : Int))), (2, .int (rg_I ((m : Nat) : Int))), (3, .int (rg_I a)), (4, .int (rg_I (rg_al sr sm (rg_mM sl rf fl nr b) ns))), (5, .int (rg_I t)), (6, .int (rg_I ((u : Nat) : Int))), (7, .int (rg_I ((r : Nat) : Int))), (8, .int (rg_I ((x : Nat) : Int))), (9, .int (rg_I ((o : Nat) : Int)))] [.int (rg_I (rg_b (rg_mg sl rf fl kd en r b))), .int (rg_I ((r * 40 + b : Nat) : Int)), .ref (κ.2.2.2 20)] (rg_wr σ 20 (rg_col f20 r b (fun _ => True) (fun o => rg_ml sl rf fl kd en pt (rg_al sr sm (rg_mM sl rf fl nr b) ns) nr b o)))
                    refine rg_if_eq F 215 dX10_sum_201 (by decide) (by have b0 := rg_b_Rg (rg_mg sl rf fl kd en r b); omega) (fun c201_4 => ?_) (fun c201_4 => ?_)
                    ·
                      have c201_4 := (rg_b_eq0 _).mp c201_4
                      refine rg_iconst F dX10_sum_215 ?_
                      refine rg_zast F 20 (r * 40 + b) tM20 (by omega) (by omega) (by decide) (Or.inl rfl) (f9 := (rg_col f20 r b (fun _ => True) (fun o => rg_ml sl rf fl kd en pt (rg_al sr sm (rg_mM sl rf fl nr b) ns) nr b o))) rfl (rg_wr σ 20 (rg_up (rg_col f20 r b (fun _ => True) (fun o => rg_ml sl rf fl kd en pt (rg_al sr sm (rg_mM sl rf fl nr b) ns) nr b o)) (r * 40 + b) 0)) (rg_wr_wr _ 20 _ _) dX10_sum_216 ?_
                      refine rg_iload F 5 5 rfl dX10_sum_217 ?_
                      refine rg_aload_n F 0 0 rfl dX10_sum_219 rfl ?_
                      refine rg_get F 0 26 tM0 cX10 k_lays_X10 (by decide) k_fl_X10_68 rfl (v := .ref (κ.2.2.2 20)) rfl dX10_sum_220 ?_
                      refine rg_bipush F dX10_sum_223 (by decide +kernel) ?_
                      refine rg_iload F 7 7 rfl dX10_sum_225 ?_
                      refine rg_imul F dX10_sum_227 ?_
                      refine rg_iload_n F 1 1 rfl dX10_sum_228 rfl ?_
                      refine rg_iadd F dX10_sum_229 ?_
                      refine rg_stk (st' := [.int (rg_I ((r * 40 + b : Nat) : Int)), .ref (κ.2.2.2 20), .int (rg_I t)]) (congrArg (fun x9 : Int => Value.int (rg_I x9) :: [.ref (κ.2.2.2 20), .int (rg_I t)]) (by omega)) ?_
                      refine rg_zald F 20 (r * 40 + b) (v := 0) tM20 (by omega) (by omega) (by decide) (rg_up_same _ _ _) dX10_sum_230 ?_
                      refine rg_if_eq F 244 dX10_sum_231 (by decide) (by omega) (fun c231_5 => ?_) (fun c231_5 => ?_)
                      ·
                        refine rg_iconst F dX10_sum_244 ?_
                        refine rg_isub F dX10_sum_245 ?_
                        refine rg_istore F [(5, .int (rg_I (t - 0))), (0, .ref (κ.2.2.2 0)), (1, .int (rg_I ((b : Nat) : Int))), (2, .int (rg_I ((m : Nat) : Int))), (3, .int (rg_I a)), (4, .int (rg_I (rg_al sr sm (rg_mM sl rf fl nr b) ns))), (6, .int (rg_I ((u : Nat) : Int))), (7, .int (rg_I ((r : Nat) : Int))), (8, .int (rg_I ((x : Nat) : Int))), (9, .int (rg_I ((o : Nat) : Int)))] dX10_sum_246 (by decide) rfl ?_
                        refine rg_iload F 6 6 rfl dX10_sum_248 ?_
                        refine rg_aload_n F 1 0 rfl dX10_sum_250 rfl ?_
                        refine rg_get F 0 26 tM0 cX10 k_lays_X10 (by decide) k_fl_X10_68 rfl (v := .ref (κ.2.2.2 20)) rfl dX10_sum_251 ?_
                        refine rg_bipush F dX10_sum_254 (by decide +kernel) ?_
                        refine rg_iload F 7 7 rfl dX10_sum_256 ?_
                        refine rg_imul F dX10_sum_258 ?_
                        refine rg_iload_n F 2 1 rfl dX10_sum_259 rfl ?_
                        refine rg_iadd F dX10_sum_260 ?_
                        refine rg_stk (st' := [.int (rg_I ((r * 40 + b : Nat) : Int)), .ref (κ.2.2.2 20), .int (rg_I ((u : Nat) : Int))]) (congrArg (fun x9 : Int => Value.int (rg_I x9) :: [.ref (κ.2.2.2 20), .int (rg_I ((u : Nat) : Int))]) (by omega)) ?_
                        refine rg_zald F 20 (r * 40 + b) (v := 0) tM20 (by omega) (by omega) (by decide) (rg_up_same _ _ _) dX10_sum_261 ?_
                        refine rg_if_eq F 269 dX10_sum_262 (by decide) (by omega) (fun c262_6 => ?_) (fun c262_6 => ?_)
                        ·
                          refine rg_iconst F dX10_sum_269 ?_
                          refine rg_iadd F dX10_sum_270 ?_
                          refine rg_istore F [(6, .int (rg_I (((u : Nat) : Int) + 0))), (5, .int (rg_I (t - 0))), (0, .ref (κ.2.2.2 0)), (1, .int (rg_I ((b : Nat) : Int))), (2, .int (rg_I ((m : Nat) : Int))), (3, .int (rg_I a)), (4, .int (rg_I (rg_al sr sm (rg_mM sl rf fl nr b) ns))), (7, .int (rg_I ((r : Nat) : Int))), (8, .int (rg_I ((x : Nat) : Int))), (9, .int (rg_I ((o : Nat) : Int)))] dX10_sum_271 (by decide) rfl ?_
                          refine rg_iinc F (v := ((r + 1 : Nat) : Int)) 7 [(7, .int (rg_I ((r + 1 : Nat) : Int))), (6, .int (rg_I (((u : Nat) : Int) + 0))), (5, .int (rg_I (t - 0))), (0, .ref (κ.2.2.2 0)), (1, .int (rg_I ((b : Nat) : Int))), (2, .int (rg_I ((m : Nat) : Int))), (3, .int (rg_I a)), (4, .int (rg_I (rg_al sr sm (rg_mM sl rf fl nr b) ns))), (8, .int (rg_I ((x : Nat) : Int))), (9, .int (rg_I ((o : Nat) : Int)))] dX10_sum_273 rfl (by omega) (by decide) rfl ?_
                          refine rg_goto F 80 dX10_sum_276 (by decide) ?_
                          refine rg_lve (lv' := [(7, .int (rg_I ((r + 1 : Nat) : Int))), (6, .int (rg_I ((u : Nat) : Int))), (5, .int (rg_I (t - 0))), (0, .ref (κ.2.2.2 0)), (1, .int (rg_I ((b : Nat) : Int))), (2, .int (rg_I ((m : Nat) : Int))), (3, .int (rg_I a)), (4, .int (rg_I (rg_al sr sm (rg_mM sl rf fl nr b) ns))), (8, .int (rg_I ((x : Nat) : Int))), (9, .int (rg_I ((o : Nat) : Int)))]) (congrArg (fun x9 : Int => ([(7, .int (rg_I ((r + 1 : Nat) : Int))), (6, .int (rg_I x9)), (5, .int (rg_I (t - 0))), (0, .ref (κ.2.2.2 0)), (1, .int (rg_I ((b : Nat) : Int))), (2, .int (rg_I ((m : Nat) : Int))), (3, .int (rg_I a)), (4, .int (rg_I (rg_al sr sm (rg_mM sl rf fl nr b) ns))), (8, .int (rg_I ((x : Nat) : Int))), (9, .int (rg_I ((o : Nat) : Int)))] : List (Nat × Value))) (by omega)) ?_
                          refine rg_eq (σ' := (rg_wr σ 20 (rg_col f20 (r + 1) b (fun _ => True) (fun o => rg_ml sl rf fl kd en pt (rg_al sr sm (rg_mM sl rf fl nr b) ns) nr b o)))) (rg_wr_congr (f := (rg_up (rg_col f20 r b (fun _ => True) (fun o => rg_ml sl rf fl kd en pt (rg_al sr sm (rg_mM sl rf fl nr b) ns) nr b o)) (r * 40 + b) 0)) (g := (rg_col f20 (r + 1) b (fun _ => True) (fun o => rg_ml sl rf fl kd en pt (rg_al sr sm (rg_mM sl rf fl nr b) ns) nr b o))) 20 rfl (rg_col_s (p := fun _ => True) _ _ hb trivial (by first | exact rg_ml_1 (by assumption) hxx (by omega) | exact rg_ml_0 hxx (Or.inl (by assumption)) | exact rg_ml_0 hxx (Or.inr (by omega))))) ?_
                          refine rg_sub (lv' := [(0, .ref (κ.2.2.2 0)), (1, .int (rg_I ((b : Nat) : Int))), (2, .int (rg_I ((m : Nat) : Int))), (3, .int (rg_I a)), (4, .int (rg_I (rg_al sr sm (rg_mM sl rf fl nr b) ns))), (5, .int (rg_I (t - 0))), (6, .int (rg_I ((u : Nat) : Int))), (7, .int (rg_I ((r + 1 : Nat) : Int)))]) [3, 4, 5, 6, 7, 2, 1, 0] rfl ?_
                          exact ih80 (nr - (r + 1)) (by omega) ((t - 0)) (u) ((r + 1)) rfl (by omega) (by first | exact rg_lf_t (f := (fun o => rg_ml sl rf fl kd en pt (rg_al sr sm (rg_mM sl rf fl nr b) ns) nr b o)) (pt := (fun o => rg_ms2 kd pt o b)) ht (by exact rg_ml_1 (by assumption) hxx (by omega)) | exact (Int.sub_zero t).trans (rg_lf_f (f := (fun o => rg_ml sl rf fl kd en pt (rg_al sr sm (rg_mM sl rf fl nr b) ns) nr b o)) (pt := (fun o => rg_ms2 kd pt o b)) ht (by first | exact rg_ml_0 hxx (Or.inl (by assumption)) | exact rg_ml_0 hxx (Or.inr (by omega))))) (by first | exact rg_lc_t (f := (fun o => rg_ml sl rf fl kd en pt (rg_al sr sm (rg_mM sl rf fl nr b) ns) nr b o)) hu (by exact rg_ml_1 (by assumption) hxx (by omega)) | exact rg_lc_f (f := (fun o => rg_ml sl rf fl kd en pt (rg_al sr sm (rg_mM sl rf fl nr b) ns) nr b o)) hu (by first | exact rg_ml_0 hxx (Or.inl (by assumption)) | exact rg_ml_0 hxx (Or.inr (by omega))))
                        · first | exact absurd c262_6 c231_5 | exact absurd c231_5 c262_6 | exact absurd ((rg_b_ne0 _).mp c262_6) c231_5 | exact absurd c231_5 ((rg_b_eq0 _).mp c262_6)
                      · exfalso; omega
                    ·
                      have c201_4 := (rg_b_ne0 _).mp c201_4
                      refine rg_iload F 8 8 rfl dX10_sum_204 ?_
                      refine rg_iload F 4 4 rfl dX10_sum_206 ?_
                      refine rg_icmp_ge F 215 dX10_sum_208 (by decide) (by omega) (by have b0 := rg_al_bd (sr := sr) (m := rg_mM sl rf fl nr b) hsm; omega) (fun c208_7 => ?_) (fun c208_7 => ?_)
                      ·
                        refine rg_iconst F dX10_sum_215 ?_
                        refine rg_zast F 20 (r * 40 + b) tM20 (by omega) (by omega) (by decide) (Or.inl rfl) (f9 := (rg_col f20 r b (fun _ => True) (fun o => rg_ml sl rf fl kd en pt (rg_al sr sm (rg_mM sl rf fl nr b) ns) nr b o))) rfl (rg_wr σ 20 (rg_up (rg_col f20 r b (fun _ => True) (fun o => rg_ml sl rf fl kd en pt (rg_al sr sm (rg_mM sl rf fl nr b) ns) nr b o)) (r * 40 + b) 0)) (rg_wr_wr _ 20 _ _) dX10_sum_216 ?_
                        refine rg_iload F 5 5 rfl dX10_sum_217 ?_
                        refine rg_aload_n F 0 0 rfl dX10_sum_219 rfl ?_
                        refine rg_get F 0 26 tM0 cX10 k_lays_X10 (by decide) k_fl_X10_68 rfl (v := .ref (κ.2.2.2 20)) rfl dX10_sum_220 ?_
                        refine rg_bipush F dX10_sum_223 (by decide +kernel) ?_
                        refine rg_iload F 7 7 rfl dX10_sum_225 ?_
                        refine rg_imul F dX10_sum_227 ?_
                        refine rg_iload_n F 1 1 rfl dX10_sum_228 rfl ?_
                        refine rg_iadd F dX10_sum_229 ?_
                        refine rg_stk (st' := [.int (rg_I ((r * 40 + b : Nat) : Int)), .ref (κ.2.2.2 20), .int (rg_I t)]) (congrArg (fun x9 : Int => Value.int (rg_I x9) :: [.ref (κ.2.2.2 20), .int (rg_I t)]) (by omega)) ?_
                        refine rg_zald F 20 (r * 40 + b) (v := 0) tM20 (by omega) (by omega) (by decide) (rg_up_same _ _ _) dX10_sum_230 ?_
                        refine rg_if_eq F 244 dX10_sum_231 (by decide) (by omega) (fun c231_8 => ?_) (fun c231_8 => ?_)
                        ·
                          refine rg_iconst F dX10_sum_244 ?_
                          refine rg_isub F dX10_sum_245 ?_
                          refine rg_istore F [(5, .int (rg_I (t - 0))), (0, .ref (κ.2.2.2 0)), (1, .int (rg_I ((b : Nat) : Int))), (2, .int (rg_I ((m : Nat) : Int))), (3, .int (rg_I a)), (4, .int (rg_I (rg_al sr sm (rg_mM sl rf fl nr b) ns))), (6, .int (rg_I ((u : Nat) : Int))), (7, .int (rg_I ((r : Nat) : Int))), (8, .int (rg_I ((x : Nat) : Int))), (9, .int (rg_I ((o : Nat) : Int)))] dX10_sum_246 (by decide) rfl ?_
                          refine rg_iload F 6 6 rfl dX10_sum_248 ?_
                          refine rg_aload_n F 1 0 rfl dX10_sum_250 rfl ?_
                          refine rg_get F 0 26 tM0 cX10 k_lays_X10 (by decide) k_fl_X10_68 rfl (v := .ref (κ.2.2.2 20)) rfl dX10_sum_251 ?_
                          refine rg_bipush F dX10_sum_254 (by decide +kernel) ?_
                          refine rg_iload F 7 7 rfl dX10_sum_256 ?_
                          refine rg_imul F dX10_sum_258 ?_
                          refine rg_iload_n F 2 1 rfl dX10_sum_259 rfl ?_
                          refine rg_iadd F dX10_sum_260 ?_
                          refine rg_stk (st' := [.int (rg_I ((r * 40 + b : Nat) : Int)), .ref (κ.2.2.2 20), .int (rg_I ((u : Nat) : Int))]) (congrArg (fun x9 : Int => Value.int (rg_I x9) :: [.ref (κ.2.2.2 20), .int (rg_I ((u : Nat) : Int))]) (by omega)) ?_
                          refine rg_zald F 20 (r * 40 + b) (v := 0) tM20 (by omega) (by omega) (by decide) (rg_up_same _ _ _) dX10_sum_261 ?_
                          refine rg_if_eq F 269 dX10_sum_262 (by decide) (by omega) (fun c262_9 => ?_) (fun c262_9 => ?_)
                          ·
                            refine rg_iconst F dX10_sum_269 ?_
                            refine rg_iadd F dX10_sum_270 ?_
                            refine rg_istore F [(6, .int (rg_I (((u : Nat) : Int) + 0))), (5, .int (rg_I (t - 0))), (0, .ref (κ.2.2.2 0)), (1, .int (rg_I ((b : Nat) : Int))), (2, .int (rg_I ((m : Nat) : Int))), (3, .int (rg_I a)), (4, .int (rg_I (rg_al sr sm (rg_mM sl rf fl nr b) ns))), (7, .int (rg_I ((r : Nat) : Int))), (8, .int (rg_I ((x : Nat) : Int))), (9, .int (rg_I ((o : Nat) : Int)))] dX10_sum_271 (by decide) rfl ?_
                            refine rg_iinc F (v := ((r + 1 : Nat) : Int)) 7 [(7, .int (rg_I ((r + 1 : Nat) : Int))), (6, .int (rg_I (((u : Nat) : Int) + 0))), (5, .int (rg_I (t - 0))), (0, .ref (κ.2.2.2 0)), (1, .int (rg_I ((b : Nat) : Int))), (2, .int (rg_I ((m : Nat) : Int))), (3, .int (rg_I a)), (4, .int (rg_I (rg_al sr sm (rg_mM sl rf fl nr b) ns))), (8, .int (rg_I ((x : Nat) : Int))), (9, .int (rg_I ((o : Nat) : Int)))] dX10_sum_273 rfl (by omega) (by decide) rfl ?_
                            refine rg_goto F 80 dX10_sum_276 (by decide) ?_
                            refine rg_lve (lv' := [(7, .int (rg_I ((r + 1 : Nat) : Int))), (6, .int (rg_I ((u : Nat) : Int))), (5, .int (rg_I (t - 0))), (0, .ref (κ.2.2.2 0)), (1, .int (rg_I ((b : Nat) : Int))), (2, .int (rg_I ((m : Nat) : Int))), (3, .int (rg_I a)), (4, .int (rg_I (rg_al sr sm (rg_mM sl rf fl nr b) ns))), (8, .int (rg_I ((x : Nat) : Int))), (9, .int (rg_I ((o : Nat) : Int)))]) (congrArg (fun x9 : Int => ([(7, .int (rg_I ((r + 1 : Nat) : Int))), (6, .int (rg_I x9)), (5, .int (rg_I (t - 0))), (0, .ref (κ.2.2.2 0)), (1, .int (rg_I ((b : Nat) : Int))), (2, .int (rg_I ((m : Nat) : Int))), (3, .int (rg_I a)), (4, .int (rg_I (rg_al sr sm (rg_mM sl rf fl nr b) ns))), (8, .int (rg_I ((x : Nat) : Int))), (9, .int (rg_I ((o : Nat) : Int)))] : List (Nat × Value))) (by omega)) ?_
                            refine rg_eq (σ' := (rg_wr σ 20 (rg_col f20 (r + 1) b (fun _ => True) (fun o => rg_ml sl rf fl kd en pt (rg_al sr sm (rg_mM sl rf fl nr b) ns) nr b o)))) (rg_wr_congr (f := (rg_up (rg_col f20 r b (fun _ => True) (fun o => rg_ml sl rf fl kd en pt (rg_al sr sm (rg_mM sl rf fl nr b) ns) nr b o)) (r * 40 + b) 0)) (g := (rg_col f20 (r + 1) b (fun _ => True) (fun o => rg_ml sl rf fl kd en pt (rg_al sr sm (rg_mM sl rf fl nr b) ns) nr b o))) 20 rfl (rg_col_s (p := fun _ => True) _ _ hb trivial (by first | exact rg_ml_1 (by assumption) hxx (by omega) | exact rg_ml_0 hxx (Or.inl (by assumption)) | exact rg_ml_0 hxx (Or.inr (by omega))))) ?_
                            refine rg_sub (lv' := [(0, .ref (κ.2.2.2 0)), (1, .int (rg_I ((b : Nat) : Int))), (2, .int (rg_I ((m : Nat) : Int))), (3, .int (rg_I a)), (4, .int (rg_I (rg_al sr sm (rg_mM sl rf fl nr b) ns))), (5, .int (rg_I (t - 0))), (6, .int (rg_I ((u : Nat) : Int))), (7, .int (rg_I ((r + 1 : Nat) : Int)))]) [3, 4, 5, 6, 7, 2, 1, 0] rfl ?_
                            exact ih80 (nr - (r + 1)) (by omega) ((t - 0)) (u) ((r + 1)) rfl (by omega) (by first | exact rg_lf_t (f := (fun o => rg_ml sl rf fl kd en pt (rg_al sr sm (rg_mM sl rf fl nr b) ns) nr b o)) (pt := (fun o => rg_ms2 kd pt o b)) ht (by exact rg_ml_1 (by assumption) hxx (by omega)) | exact (Int.sub_zero t).trans (rg_lf_f (f := (fun o => rg_ml sl rf fl kd en pt (rg_al sr sm (rg_mM sl rf fl nr b) ns) nr b o)) (pt := (fun o => rg_ms2 kd pt o b)) ht (by first | exact rg_ml_0 hxx (Or.inl (by assumption)) | exact rg_ml_0 hxx (Or.inr (by omega))))) (by first | exact rg_lc_t (f := (fun o => rg_ml sl rf fl kd en pt (rg_al sr sm (rg_mM sl rf fl nr b) ns) nr b o)) hu (by exact rg_ml_1 (by assumption) hxx (by omega)) | exact rg_lc_f (f := (fun o => rg_ml sl rf fl kd en pt (rg_al sr sm (rg_mM sl rf fl nr b) ns) nr b o)) hu (by first | exact rg_ml_0 hxx (Or.inl (by assumption)) | exact rg_ml_0 hxx (Or.inr (by omega))))
                          · first | exact absurd c262_9 c231_8 | exact absurd c231_8 c262_9 | exact absurd ((rg_b_ne0 _).mp c262_9) c231_8 | exact absurd c231_8 ((rg_b_eq0 _).mp c262_9)
                        · exfalso; omega
                      ·
                        refine rg_iconst F dX10_sum_211 ?_
                        refine rg_goto F 216 dX10_sum_212 (by decide) ?_
                        refine rg_zast F 20 (r * 40 + b) tM20 (by omega) (by omega) (by decide) (Or.inr rfl) (f9 := (rg_col f20 r b (fun _ => True) (fun o => rg_ml sl rf fl kd en pt (rg_al sr sm (rg_mM sl rf fl nr b) ns) nr b o))) rfl (rg_wr σ 20 (rg_up (rg_col f20 r b (fun _ => True) (fun o => rg_ml sl rf fl kd en pt (rg_al sr sm (rg_mM sl rf fl nr b) ns) nr b o)) (r * 40 + b) 1)) (rg_wr_wr _ 20 _ _) dX10_sum_216 ?_
                        refine rg_iload F 5 5 rfl dX10_sum_217 ?_
                        refine rg_aload_n F 0 0 rfl dX10_sum_219 rfl ?_
                        refine rg_get F 0 26 tM0 cX10 k_lays_X10 (by decide) k_fl_X10_68 rfl (v := .ref (κ.2.2.2 20)) rfl dX10_sum_220 ?_
                        refine rg_bipush F dX10_sum_223 (by decide +kernel) ?_
                        refine rg_iload F 7 7 rfl dX10_sum_225 ?_
                        refine rg_imul F dX10_sum_227 ?_
                        refine rg_iload_n F 1 1 rfl dX10_sum_228 rfl ?_
                        refine rg_iadd F dX10_sum_229 ?_
                        refine rg_stk (st' := [.int (rg_I ((r * 40 + b : Nat) : Int)), .ref (κ.2.2.2 20), .int (rg_I t)]) (congrArg (fun x9 : Int => Value.int (rg_I x9) :: [.ref (κ.2.2.2 20), .int (rg_I t)]) (by omega)) ?_
                        refine rg_zald F 20 (r * 40 + b) (v := 1) tM20 (by omega) (by omega) (by decide) (rg_up_same _ _ _) dX10_sum_230 ?_
                        refine rg_if_eq F 244 dX10_sum_231 (by decide) (by omega) (fun c231_10 => ?_) (fun c231_10 => ?_)
                        · exfalso; omega
                        ·
                          refine rg_aload_n F 0 0 rfl dX10_sum_234 rfl ?_
                          refine rg_iload F 7 7 rfl dX10_sum_235 ?_
                          refine rg_iload_n F 1 1 rfl dX10_sum_237 rfl ?_
                          refine rg_callVI F [.int (rg_I ((r : Nat) : Int)), .int (rg_I ((b : Nat) : Int))] [.int (rg_I t)] 0 (k_X10_scoreOf κ (rg_wr σ 20 (rg_up (rg_col f20 r b (fun _ => True) (fun o => rg_ml sl rf fl kd en pt (rg_al sr sm (rg_mM sl rf fl nr b) ns) nr b o)) (r * 40 + b) 1)) (r) (b) kd pt (h3) (h19) (by first | assumption | omega) (by first | assumption | omega) (by first | assumption | omega)) tM0 cX10 v_X10_scoreOf i_X10_scoreOf k_ml_X10_143 ⟨Nat.le_of_ble_eq_true rfl, Nat.le_of_ble_eq_true rfl⟩ rfl (Nat.le_of_ble_eq_true rfl) dX10_sum_238 (rg_ex2 ?_)
                          show rg_G κ Γ rg_tM 11 0 0 (238 + 3) [(0, .ref (κ.2.2.2 0)), (1, .int (rg_I ((b : Nat) : Int))), (2, .int (rg_I ((m : Nat) : Int))), (3, .int (rg_I a)), (4, .int (rg_I (rg_al sr sm (rg_mM sl rf fl nr b) ns))), (5, .int (rg_I t)), (6, .int (rg_I ((u : Nat) : Int))), (7, .int (rg_I ((r : Nat) : Int))), (8, .int (rg_I ((x : Nat) : Int))), (9, .int (rg_I ((o : Nat) : Int)))] [.int (rg_I (rg_ms2 kd pt r b)), .int (rg_I t)] (rg_wr σ 20 (rg_up (rg_col f20 r b (fun _ => True) (fun o => rg_ml sl rf fl kd en pt (rg_al sr sm (rg_mM sl rf fl nr b) ns) nr b o)) (r * 40 + b) 1))
                          refine rg_goto F 245 dX10_sum_241 (by decide) ?_
                          refine rg_isub F dX10_sum_245 ?_
                          refine rg_istore F [(5, .int (rg_I (t - (rg_ms2 kd pt r b)))), (0, .ref (κ.2.2.2 0)), (1, .int (rg_I ((b : Nat) : Int))), (2, .int (rg_I ((m : Nat) : Int))), (3, .int (rg_I a)), (4, .int (rg_I (rg_al sr sm (rg_mM sl rf fl nr b) ns))), (6, .int (rg_I ((u : Nat) : Int))), (7, .int (rg_I ((r : Nat) : Int))), (8, .int (rg_I ((x : Nat) : Int))), (9, .int (rg_I ((o : Nat) : Int)))] dX10_sum_246 (by decide) rfl ?_
                          refine rg_iload F 6 6 rfl dX10_sum_248 ?_
                          refine rg_aload_n F 1 0 rfl dX10_sum_250 rfl ?_
                          refine rg_get F 0 26 tM0 cX10 k_lays_X10 (by decide) k_fl_X10_68 rfl (v := .ref (κ.2.2.2 20)) rfl dX10_sum_251 ?_
                          refine rg_bipush F dX10_sum_254 (by decide +kernel) ?_
                          refine rg_iload F 7 7 rfl dX10_sum_256 ?_
                          refine rg_imul F dX10_sum_258 ?_
                          refine rg_iload_n F 2 1 rfl dX10_sum_259 rfl ?_
                          refine rg_iadd F dX10_sum_260 ?_
                          refine rg_stk (st' := [.int (rg_I ((r * 40 + b : Nat) : Int)), .ref (κ.2.2.2 20), .int (rg_I ((u : Nat) : Int))]) (congrArg (fun x9 : Int => Value.int (rg_I x9) :: [.ref (κ.2.2.2 20), .int (rg_I ((u : Nat) : Int))]) (by omega)) ?_
                          refine rg_zald F 20 (r * 40 + b) (v := 1) tM20 (by omega) (by omega) (by decide) (rg_up_same _ _ _) dX10_sum_261 ?_
                          refine rg_if_eq F 269 dX10_sum_262 (by decide) (by omega) (fun c262_11 => ?_) (fun c262_11 => ?_)
                          · first | exact absurd c262_11 c231_10 | exact absurd c231_10 c262_11 | exact absurd ((rg_b_ne0 _).mp c262_11) c231_10 | exact absurd c231_10 ((rg_b_eq0 _).mp c262_11)
                          ·
                            refine rg_iconst F dX10_sum_265 ?_
                            refine rg_goto F 270 dX10_sum_266 (by decide) ?_
                            refine rg_iadd F dX10_sum_270 ?_
                            refine rg_istore F [(6, .int (rg_I (((u : Nat) : Int) + 1))), (5, .int (rg_I (t - (rg_ms2 kd pt r b)))), (0, .ref (κ.2.2.2 0)), (1, .int (rg_I ((b : Nat) : Int))), (2, .int (rg_I ((m : Nat) : Int))), (3, .int (rg_I a)), (4, .int (rg_I (rg_al sr sm (rg_mM sl rf fl nr b) ns))), (7, .int (rg_I ((r : Nat) : Int))), (8, .int (rg_I ((x : Nat) : Int))), (9, .int (rg_I ((o : Nat) : Int)))] dX10_sum_271 (by decide) rfl ?_
                            refine rg_iinc F (v := ((r + 1 : Nat) : Int)) 7 [(7, .int (rg_I ((r + 1 : Nat) : Int))), (6, .int (rg_I (((u : Nat) : Int) + 1))), (5, .int (rg_I (t - (rg_ms2 kd pt r b)))), (0, .ref (κ.2.2.2 0)), (1, .int (rg_I ((b : Nat) : Int))), (2, .int (rg_I ((m : Nat) : Int))), (3, .int (rg_I a)), (4, .int (rg_I (rg_al sr sm (rg_mM sl rf fl nr b) ns))), (8, .int (rg_I ((x : Nat) : Int))), (9, .int (rg_I ((o : Nat) : Int)))] dX10_sum_273 rfl (by omega) (by decide) rfl ?_
                            refine rg_goto F 80 dX10_sum_276 (by decide) ?_
                            refine rg_lve (lv' := [(7, .int (rg_I ((r + 1 : Nat) : Int))), (6, .int (rg_I (((u + 1) : Nat) : Int))), (5, .int (rg_I (t - (rg_ms2 kd pt r b)))), (0, .ref (κ.2.2.2 0)), (1, .int (rg_I ((b : Nat) : Int))), (2, .int (rg_I ((m : Nat) : Int))), (3, .int (rg_I a)), (4, .int (rg_I (rg_al sr sm (rg_mM sl rf fl nr b) ns))), (8, .int (rg_I ((x : Nat) : Int))), (9, .int (rg_I ((o : Nat) : Int)))]) (congrArg (fun x9 : Int => ([(7, .int (rg_I ((r + 1 : Nat) : Int))), (6, .int (rg_I x9)), (5, .int (rg_I (t - (rg_ms2 kd pt r b)))), (0, .ref (κ.2.2.2 0)), (1, .int (rg_I ((b : Nat) : Int))), (2, .int (rg_I ((m : Nat) : Int))), (3, .int (rg_I a)), (4, .int (rg_I (rg_al sr sm (rg_mM sl rf fl nr b) ns))), (8, .int (rg_I ((x : Nat) : Int))), (9, .int (rg_I ((o : Nat) : Int)))] : List (Nat × Value))) (by omega)) ?_
                            refine rg_eq (σ' := (rg_wr σ 20 (rg_col f20 (r + 1) b (fun _ => True) (fun o => rg_ml sl rf fl kd en pt (rg_al sr sm (rg_mM sl rf fl nr b) ns) nr b o)))) (rg_wr_congr (f := (rg_up (rg_col f20 r b (fun _ => True) (fun o => rg_ml sl rf fl kd en pt (rg_al sr sm (rg_mM sl rf fl nr b) ns) nr b o)) (r * 40 + b) 1)) (g := (rg_col f20 (r + 1) b (fun _ => True) (fun o => rg_ml sl rf fl kd en pt (rg_al sr sm (rg_mM sl rf fl nr b) ns) nr b o))) 20 rfl (rg_col_s (p := fun _ => True) _ _ hb trivial (by first | exact rg_ml_1 (by assumption) hxx (by omega) | exact rg_ml_0 hxx (Or.inl (by assumption)) | exact rg_ml_0 hxx (Or.inr (by omega))))) ?_
                            refine rg_sub (lv' := [(0, .ref (κ.2.2.2 0)), (1, .int (rg_I ((b : Nat) : Int))), (2, .int (rg_I ((m : Nat) : Int))), (3, .int (rg_I a)), (4, .int (rg_I (rg_al sr sm (rg_mM sl rf fl nr b) ns))), (5, .int (rg_I (t - (rg_ms2 kd pt r b)))), (6, .int (rg_I (((u + 1) : Nat) : Int))), (7, .int (rg_I ((r + 1 : Nat) : Int)))]) [3, 4, 5, 6, 7, 2, 1, 0] rfl ?_
                            exact ih80 (nr - (r + 1)) (by omega) ((t - (rg_ms2 kd pt r b))) ((u + 1)) ((r + 1)) rfl (by omega) (by first | exact rg_lf_t (f := (fun o => rg_ml sl rf fl kd en pt (rg_al sr sm (rg_mM sl rf fl nr b) ns) nr b o)) (pt := (fun o => rg_ms2 kd pt o b)) ht (by exact rg_ml_1 (by assumption) hxx (by omega)) | exact (Int.sub_zero t).trans (rg_lf_f (f := (fun o => rg_ml sl rf fl kd en pt (rg_al sr sm (rg_mM sl rf fl nr b) ns) nr b o)) (pt := (fun o => rg_ms2 kd pt o b)) ht (by first | exact rg_ml_0 hxx (Or.inl (by assumption)) | exact rg_ml_0 hxx (Or.inr (by omega))))) (by first | exact rg_lc_t (f := (fun o => rg_ml sl rf fl kd en pt (rg_al sr sm (rg_mM sl rf fl nr b) ns) nr b o)) hu (by exact rg_ml_1 (by assumption) hxx (by omega)) | exact rg_lc_f (f := (fun o => rg_ml sl rf fl kd en pt (rg_al sr sm (rg_mM sl rf fl nr b) ns) nr b o)) hu (by first | exact rg_ml_0 hxx (Or.inl (by assumption)) | exact rg_ml_0 hxx (Or.inr (by omega))))
                  ·
                    have hso := hsc o (by omega)
                    have hsr9 := hsc r (by omega)
                    refine rg_aload_n F 0 0 rfl dX10_sum_104 rfl ?_
                    refine rg_iload F 9 9 rfl dX10_sum_105 ?_
                    refine rg_iload_n F 1 1 rfl dX10_sum_107 rfl ?_
                    refine rg_callVI F [.int (rg_I ((o : Nat) : Int)), .int (rg_I ((b : Nat) : Int))] [] 0 (k_X10_scoreOf κ (rg_wr σ 20 (rg_col f20 r b (fun _ => True) (fun o => rg_ml sl rf fl kd en pt (rg_al sr sm (rg_mM sl rf fl nr b) ns) nr b o))) (o) (b) kd pt (h3) (h19) (by first | assumption | omega) (by first | assumption | omega) (by first | assumption | omega)) tM0 cX10 v_X10_scoreOf i_X10_scoreOf k_ml_X10_143 ⟨Nat.le_of_ble_eq_true rfl, Nat.le_of_ble_eq_true rfl⟩ rfl (Nat.le_of_ble_eq_true rfl) dX10_sum_108 (rg_ex2 ?_)
                    show rg_G κ Γ rg_tM 11 0 0 (108 + 3) [(0, .ref (κ.2.2.2 0)), (1, .int (rg_I ((b : Nat) : Int))), (2, .int (rg_I ((m : Nat) : Int))), (3, .int (rg_I a)), (4, .int (rg_I (rg_al sr sm (rg_mM sl rf fl nr b) ns))), (5, .int (rg_I t)), (6, .int (rg_I ((u : Nat) : Int))), (7, .int (rg_I ((r : Nat) : Int))), (8, .int (rg_I ((x : Nat) : Int))), (9, .int (rg_I ((o : Nat) : Int)))] [.int (rg_I (rg_ms2 kd pt o b))] (rg_wr σ 20 (rg_col f20 r b (fun _ => True) (fun o => rg_ml sl rf fl kd en pt (rg_al sr sm (rg_mM sl rf fl nr b) ns) nr b o)))
                    refine rg_aload_n F 0 0 rfl dX10_sum_111 rfl ?_
                    refine rg_iload F 7 7 rfl dX10_sum_112 ?_
                    refine rg_iload_n F 1 1 rfl dX10_sum_114 rfl ?_
                    refine rg_callVI F [.int (rg_I ((r : Nat) : Int)), .int (rg_I ((b : Nat) : Int))] [.int (rg_I (rg_ms2 kd pt o b))] 0 (k_X10_scoreOf κ (rg_wr σ 20 (rg_col f20 r b (fun _ => True) (fun o => rg_ml sl rf fl kd en pt (rg_al sr sm (rg_mM sl rf fl nr b) ns) nr b o))) (r) (b) kd pt (h3) (h19) (by first | assumption | omega) (by first | assumption | omega) (by first | assumption | omega)) tM0 cX10 v_X10_scoreOf i_X10_scoreOf k_ml_X10_143 ⟨Nat.le_of_ble_eq_true rfl, Nat.le_of_ble_eq_true rfl⟩ rfl (Nat.le_of_ble_eq_true rfl) dX10_sum_115 (rg_ex2 ?_)
                    show rg_G κ Γ rg_tM 11 0 0 (115 + 3) [(0, .ref (κ.2.2.2 0)), (1, .int (rg_I ((b : Nat) : Int))), (2, .int (rg_I ((m : Nat) : Int))), (3, .int (rg_I a)), (4, .int (rg_I (rg_al sr sm (rg_mM sl rf fl nr b) ns))), (5, .int (rg_I t)), (6, .int (rg_I ((u : Nat) : Int))), (7, .int (rg_I ((r : Nat) : Int))), (8, .int (rg_I ((x : Nat) : Int))), (9, .int (rg_I ((o : Nat) : Int)))] [.int (rg_I (rg_ms2 kd pt r b)), .int (rg_I (rg_ms2 kd pt o b))] (rg_wr σ 20 (rg_col f20 r b (fun _ => True) (fun o => rg_ml sl rf fl kd en pt (rg_al sr sm (rg_mM sl rf fl nr b) ns) nr b o)))
                    refine rg_icmp_gt F 145 dX10_sum_118 (by decide) (by omega) (by omega) (fun c118_12 => ?_) (fun c118_12 => ?_)
                    ·
                      refine rg_iconst F dX10_sum_145 ?_
                      refine rg_goto F 150 dX10_sum_146 (by decide) ?_
                      refine rg_istore F [(10, .int (rg_I 1)), (0, .ref (κ.2.2.2 0)), (1, .int (rg_I ((b : Nat) : Int))), (2, .int (rg_I ((m : Nat) : Int))), (3, .int (rg_I a)), (4, .int (rg_I (rg_al sr sm (rg_mM sl rf fl nr b) ns))), (5, .int (rg_I t)), (6, .int (rg_I ((u : Nat) : Int))), (7, .int (rg_I ((r : Nat) : Int))), (8, .int (rg_I ((x : Nat) : Int))), (9, .int (rg_I ((o : Nat) : Int)))] dX10_sum_150 (by decide) rfl ?_
                      refine rg_iload F 9 8 rfl dX10_sum_152 ?_
                      refine rg_aload_n F 1 0 rfl dX10_sum_154 rfl ?_
                      refine rg_iload F 10 9 rfl dX10_sum_155 ?_
                      refine rg_iload_n F 2 1 rfl dX10_sum_157 rfl ?_
                      refine rg_callVI F [.int (rg_I ((o : Nat) : Int)), .int (rg_I ((b : Nat) : Int))] [.int (rg_I ((x : Nat) : Int))] 0 (k_X10_mayGo κ (rg_wr σ 20 (rg_col f20 r b (fun _ => True) (fun o => rg_ml sl rf fl kd en pt (rg_al sr sm (rg_mM sl rf fl nr b) ns) nr b o))) (o) (b) fl kd rf en sl (h2) (h3) (h4) (h15) (h18) (by first | assumption | omega) (by first | assumption | omega) (by first | assumption | omega) (by first | assumption | omega) (by first | assumption | omega) (by first | assumption | omega) (by first | assumption | omega)) tM0 cX10 v_X10_mayGo i_X10_mayGo k_ml_X10_150 ⟨Nat.le_of_ble_eq_true rfl, Nat.le_of_ble_eq_true rfl⟩ rfl (Nat.le_of_ble_eq_true rfl) dX10_sum_158 (rg_ex2 ?_)
                      show rg_G κ Γ rg_tM 11 0 0 (158 + 3) [(10, .int (rg_I 1)), (0, .ref (κ.2.2.2 0)), (1, .int (rg_I ((b : Nat) : Int))), (2, .int (rg_I ((m : Nat) : Int))), (3, .int (rg_I a)), (4, .int (rg_I (rg_al sr sm (rg_mM sl rf fl nr b) ns))), (5, .int (rg_I t)), (6, .int (rg_I ((u : Nat) : Int))), (7, .int (rg_I ((r : Nat) : Int))), (8, .int (rg_I ((x : Nat) : Int))), (9, .int (rg_I ((o : Nat) : Int)))] [.int (rg_I (rg_b (rg_mg sl rf fl kd en o b))), .int (rg_I ((x : Nat) : Int))] (rg_wr σ 20 (rg_col f20 r b (fun _ => True) (fun o => rg_ml sl rf fl kd en pt (rg_al sr sm (rg_mM sl rf fl nr b) ns) nr b o)))
                      refine rg_if_eq F 173 dX10_sum_161 (by decide) (by have b0 := rg_b_Rg (rg_mg sl rf fl kd en o b); omega) (fun c161_13 => ?_) (fun c161_13 => ?_)
                      ·
                        have c161_13 := (rg_b_eq0 _).mp c161_13
                        refine rg_iconst F dX10_sum_173 ?_
                        refine rg_iadd F dX10_sum_174 ?_
                        refine rg_istore F [(8, .int (rg_I (((x : Nat) : Int) + 0))), (10, .int (rg_I 1)), (0, .ref (κ.2.2.2 0)), (1, .int (rg_I ((b : Nat) : Int))), (2, .int (rg_I ((m : Nat) : Int))), (3, .int (rg_I a)), (4, .int (rg_I (rg_al sr sm (rg_mM sl rf fl nr b) ns))), (5, .int (rg_I t)), (6, .int (rg_I ((u : Nat) : Int))), (7, .int (rg_I ((r : Nat) : Int))), (9, .int (rg_I ((o : Nat) : Int)))] dX10_sum_175 (by decide) rfl ?_
                        refine rg_iinc F (v := ((o + 1 : Nat) : Int)) 10 [(9, .int (rg_I ((o + 1 : Nat) : Int))), (8, .int (rg_I (((x : Nat) : Int) + 0))), (10, .int (rg_I 1)), (0, .ref (κ.2.2.2 0)), (1, .int (rg_I ((b : Nat) : Int))), (2, .int (rg_I ((m : Nat) : Int))), (3, .int (rg_I a)), (4, .int (rg_I (rg_al sr sm (rg_mM sl rf fl nr b) ns))), (5, .int (rg_I t)), (6, .int (rg_I ((u : Nat) : Int))), (7, .int (rg_I ((r : Nat) : Int)))] dX10_sum_177 rfl (by omega) (by decide) rfl ?_
                        refine rg_goto F 95 dX10_sum_180 (by decide) ?_
                        refine rg_lve (lv' := [(9, .int (rg_I ((o + 1 : Nat) : Int))), (8, .int (rg_I ((x : Nat) : Int))), (10, .int (rg_I 1)), (0, .ref (κ.2.2.2 0)), (1, .int (rg_I ((b : Nat) : Int))), (2, .int (rg_I ((m : Nat) : Int))), (3, .int (rg_I a)), (4, .int (rg_I (rg_al sr sm (rg_mM sl rf fl nr b) ns))), (5, .int (rg_I t)), (6, .int (rg_I ((u : Nat) : Int))), (7, .int (rg_I ((r : Nat) : Int)))]) (congrArg (fun x9 : Int => ([(9, .int (rg_I ((o + 1 : Nat) : Int))), (8, .int (rg_I x9)), (10, .int (rg_I 1)), (0, .ref (κ.2.2.2 0)), (1, .int (rg_I ((b : Nat) : Int))), (2, .int (rg_I ((m : Nat) : Int))), (3, .int (rg_I a)), (4, .int (rg_I (rg_al sr sm (rg_mM sl rf fl nr b) ns))), (5, .int (rg_I t)), (6, .int (rg_I ((u : Nat) : Int))), (7, .int (rg_I ((r : Nat) : Int)))] : List (Nat × Value))) (by omega)) ?_
                        refine rg_sub (lv' := [(0, .ref (κ.2.2.2 0)), (1, .int (rg_I ((b : Nat) : Int))), (2, .int (rg_I ((m : Nat) : Int))), (3, .int (rg_I a)), (4, .int (rg_I (rg_al sr sm (rg_mM sl rf fl nr b) ns))), (5, .int (rg_I t)), (6, .int (rg_I ((u : Nat) : Int))), (7, .int (rg_I ((r : Nat) : Int))), (8, .int (rg_I ((x : Nat) : Int))), (9, .int (rg_I ((o + 1 : Nat) : Int)))]) [3, 4, 5, 6, 7, 8, 9, 10, 1, 0] rfl ?_
                        exact ih95 (nr - (o + 1)) (by omega) (x) ((o + 1)) rfl (by omega) (by first | (rw [rg_cnt_t (p := (fun o => rg_mg sl rf fl kd en o b ∧ rg_sn2 kd pt b o r)) ⟨by assumption, by unfold rg_sn2; omega⟩]; omega) | (rw [rg_cnt_f (p := (fun o => rg_mg sl rf fl kd en o b ∧ rg_sn2 kd pt b o r)) (fun q => absurd q.1 (by assumption))]; omega) | (rw [rg_cnt_f (p := (fun o => rg_mg sl rf fl kd en o b ∧ rg_sn2 kd pt b o r)) (fun q => by have := q.2; unfold rg_sn2 at this; omega)]; omega)) (by omega)
                      ·
                        have c161_13 := (rg_b_ne0 _).mp c161_13
                        refine rg_iload F 0 10 rfl dX10_sum_164 ?_
                        refine rg_if_eq F 173 dX10_sum_166 (by decide) (by omega) (fun c166_14 => ?_) (fun c166_14 => ?_)
                        · exfalso; omega
                        ·
                          refine rg_iconst F dX10_sum_169 ?_
                          refine rg_goto F 174 dX10_sum_170 (by decide) ?_
                          refine rg_iadd F dX10_sum_174 ?_
                          refine rg_istore F [(8, .int (rg_I (((x : Nat) : Int) + 1))), (10, .int (rg_I 1)), (0, .ref (κ.2.2.2 0)), (1, .int (rg_I ((b : Nat) : Int))), (2, .int (rg_I ((m : Nat) : Int))), (3, .int (rg_I a)), (4, .int (rg_I (rg_al sr sm (rg_mM sl rf fl nr b) ns))), (5, .int (rg_I t)), (6, .int (rg_I ((u : Nat) : Int))), (7, .int (rg_I ((r : Nat) : Int))), (9, .int (rg_I ((o : Nat) : Int)))] dX10_sum_175 (by decide) rfl ?_
                          refine rg_iinc F (v := ((o + 1 : Nat) : Int)) 10 [(9, .int (rg_I ((o + 1 : Nat) : Int))), (8, .int (rg_I (((x : Nat) : Int) + 1))), (10, .int (rg_I 1)), (0, .ref (κ.2.2.2 0)), (1, .int (rg_I ((b : Nat) : Int))), (2, .int (rg_I ((m : Nat) : Int))), (3, .int (rg_I a)), (4, .int (rg_I (rg_al sr sm (rg_mM sl rf fl nr b) ns))), (5, .int (rg_I t)), (6, .int (rg_I ((u : Nat) : Int))), (7, .int (rg_I ((r : Nat) : Int)))] dX10_sum_177 rfl (by omega) (by decide) rfl ?_
                          refine rg_goto F 95 dX10_sum_180 (by decide) ?_
                          refine rg_lve (lv' := [(9, .int (rg_I ((o + 1 : Nat) : Int))), (8, .int (rg_I (((x + 1) : Nat) : Int))), (10, .int (rg_I 1)), (0, .ref (κ.2.2.2 0)), (1, .int (rg_I ((b : Nat) : Int))), (2, .int (rg_I ((m : Nat) : Int))), (3, .int (rg_I a)), (4, .int (rg_I (rg_al sr sm (rg_mM sl rf fl nr b) ns))), (5, .int (rg_I t)), (6, .int (rg_I ((u : Nat) : Int))), (7, .int (rg_I ((r : Nat) : Int)))]) (congrArg (fun x9 : Int => ([(9, .int (rg_I ((o + 1 : Nat) : Int))), (8, .int (rg_I x9)), (10, .int (rg_I 1)), (0, .ref (κ.2.2.2 0)), (1, .int (rg_I ((b : Nat) : Int))), (2, .int (rg_I ((m : Nat) : Int))), (3, .int (rg_I a)), (4, .int (rg_I (rg_al sr sm (rg_mM sl rf fl nr b) ns))), (5, .int (rg_I t)), (6, .int (rg_I ((u : Nat) : Int))), (7, .int (rg_I ((r : Nat) : Int)))] : List (Nat × Value))) (by omega)) ?_
                          refine rg_sub (lv' := [(0, .ref (κ.2.2.2 0)), (1, .int (rg_I ((b : Nat) : Int))), (2, .int (rg_I ((m : Nat) : Int))), (3, .int (rg_I a)), (4, .int (rg_I (rg_al sr sm (rg_mM sl rf fl nr b) ns))), (5, .int (rg_I t)), (6, .int (rg_I ((u : Nat) : Int))), (7, .int (rg_I ((r : Nat) : Int))), (8, .int (rg_I (((x + 1) : Nat) : Int))), (9, .int (rg_I ((o + 1 : Nat) : Int)))]) [3, 4, 5, 6, 7, 8, 9, 10, 1, 0] rfl ?_
                          exact ih95 (nr - (o + 1)) (by omega) ((x + 1)) ((o + 1)) rfl (by omega) (by first | (rw [rg_cnt_t (p := (fun o => rg_mg sl rf fl kd en o b ∧ rg_sn2 kd pt b o r)) ⟨by assumption, by unfold rg_sn2; omega⟩]; omega) | (rw [rg_cnt_f (p := (fun o => rg_mg sl rf fl kd en o b ∧ rg_sn2 kd pt b o r)) (fun q => absurd q.1 (by assumption))]; omega) | (rw [rg_cnt_f (p := (fun o => rg_mg sl rf fl kd en o b ∧ rg_sn2 kd pt b o r)) (fun q => by have := q.2; unfold rg_sn2 at this; omega)]; omega)) (by omega)
                    ·
                      refine rg_aload_n F 0 0 rfl dX10_sum_121 rfl ?_
                      refine rg_iload F 9 9 rfl dX10_sum_122 ?_
                      refine rg_iload_n F 1 1 rfl dX10_sum_124 rfl ?_
                      refine rg_callVI F [.int (rg_I ((o : Nat) : Int)), .int (rg_I ((b : Nat) : Int))] [] 0 (k_X10_scoreOf κ (rg_wr σ 20 (rg_col f20 r b (fun _ => True) (fun o => rg_ml sl rf fl kd en pt (rg_al sr sm (rg_mM sl rf fl nr b) ns) nr b o))) (o) (b) kd pt (h3) (h19) (by first | assumption | omega) (by first | assumption | omega) (by first | assumption | omega)) tM0 cX10 v_X10_scoreOf i_X10_scoreOf k_ml_X10_143 ⟨Nat.le_of_ble_eq_true rfl, Nat.le_of_ble_eq_true rfl⟩ rfl (Nat.le_of_ble_eq_true rfl) dX10_sum_125 (rg_ex2 ?_)
                      show rg_G κ Γ rg_tM 11 0 0 (125 + 3) [(0, .ref (κ.2.2.2 0)), (1, .int (rg_I ((b : Nat) : Int))), (2, .int (rg_I ((m : Nat) : Int))), (3, .int (rg_I a)), (4, .int (rg_I (rg_al sr sm (rg_mM sl rf fl nr b) ns))), (5, .int (rg_I t)), (6, .int (rg_I ((u : Nat) : Int))), (7, .int (rg_I ((r : Nat) : Int))), (8, .int (rg_I ((x : Nat) : Int))), (9, .int (rg_I ((o : Nat) : Int)))] [.int (rg_I (rg_ms2 kd pt o b))] (rg_wr σ 20 (rg_col f20 r b (fun _ => True) (fun o => rg_ml sl rf fl kd en pt (rg_al sr sm (rg_mM sl rf fl nr b) ns) nr b o)))
                      refine rg_aload_n F 0 0 rfl dX10_sum_128 rfl ?_
                      refine rg_iload F 7 7 rfl dX10_sum_129 ?_
                      refine rg_iload_n F 1 1 rfl dX10_sum_131 rfl ?_
                      refine rg_callVI F [.int (rg_I ((r : Nat) : Int)), .int (rg_I ((b : Nat) : Int))] [.int (rg_I (rg_ms2 kd pt o b))] 0 (k_X10_scoreOf κ (rg_wr σ 20 (rg_col f20 r b (fun _ => True) (fun o => rg_ml sl rf fl kd en pt (rg_al sr sm (rg_mM sl rf fl nr b) ns) nr b o))) (r) (b) kd pt (h3) (h19) (by first | assumption | omega) (by first | assumption | omega) (by first | assumption | omega)) tM0 cX10 v_X10_scoreOf i_X10_scoreOf k_ml_X10_143 ⟨Nat.le_of_ble_eq_true rfl, Nat.le_of_ble_eq_true rfl⟩ rfl (Nat.le_of_ble_eq_true rfl) dX10_sum_132 (rg_ex2 ?_)
                      show rg_G κ Γ rg_tM 11 0 0 (132 + 3) [(0, .ref (κ.2.2.2 0)), (1, .int (rg_I ((b : Nat) : Int))), (2, .int (rg_I ((m : Nat) : Int))), (3, .int (rg_I a)), (4, .int (rg_I (rg_al sr sm (rg_mM sl rf fl nr b) ns))), (5, .int (rg_I t)), (6, .int (rg_I ((u : Nat) : Int))), (7, .int (rg_I ((r : Nat) : Int))), (8, .int (rg_I ((x : Nat) : Int))), (9, .int (rg_I ((o : Nat) : Int)))] [.int (rg_I (rg_ms2 kd pt r b)), .int (rg_I (rg_ms2 kd pt o b))] (rg_wr σ 20 (rg_col f20 r b (fun _ => True) (fun o => rg_ml sl rf fl kd en pt (rg_al sr sm (rg_mM sl rf fl nr b) ns) nr b o)))
                      refine rg_icmp_ne F 149 dX10_sum_135 (by decide) (by omega) (by omega) (fun c135_15 => ?_) (fun c135_15 => ?_)
                      ·
                        refine rg_iconst F dX10_sum_149 ?_
                        refine rg_istore F [(10, .int (rg_I 0)), (0, .ref (κ.2.2.2 0)), (1, .int (rg_I ((b : Nat) : Int))), (2, .int (rg_I ((m : Nat) : Int))), (3, .int (rg_I a)), (4, .int (rg_I (rg_al sr sm (rg_mM sl rf fl nr b) ns))), (5, .int (rg_I t)), (6, .int (rg_I ((u : Nat) : Int))), (7, .int (rg_I ((r : Nat) : Int))), (8, .int (rg_I ((x : Nat) : Int))), (9, .int (rg_I ((o : Nat) : Int)))] dX10_sum_150 (by decide) rfl ?_
                        refine rg_iload F 9 8 rfl dX10_sum_152 ?_
                        refine rg_aload_n F 1 0 rfl dX10_sum_154 rfl ?_
                        refine rg_iload F 10 9 rfl dX10_sum_155 ?_
                        refine rg_iload_n F 2 1 rfl dX10_sum_157 rfl ?_
                        refine rg_callVI F [.int (rg_I ((o : Nat) : Int)), .int (rg_I ((b : Nat) : Int))] [.int (rg_I ((x : Nat) : Int))] 0 (k_X10_mayGo κ (rg_wr σ 20 (rg_col f20 r b (fun _ => True) (fun o => rg_ml sl rf fl kd en pt (rg_al sr sm (rg_mM sl rf fl nr b) ns) nr b o))) (o) (b) fl kd rf en sl (h2) (h3) (h4) (h15) (h18) (by first | assumption | omega) (by first | assumption | omega) (by first | assumption | omega) (by first | assumption | omega) (by first | assumption | omega) (by first | assumption | omega) (by first | assumption | omega)) tM0 cX10 v_X10_mayGo i_X10_mayGo k_ml_X10_150 ⟨Nat.le_of_ble_eq_true rfl, Nat.le_of_ble_eq_true rfl⟩ rfl (Nat.le_of_ble_eq_true rfl) dX10_sum_158 (rg_ex2 ?_)
                        show rg_G κ Γ rg_tM 11 0 0 (158 + 3) [(10, .int (rg_I 0)), (0, .ref (κ.2.2.2 0)), (1, .int (rg_I ((b : Nat) : Int))), (2, .int (rg_I ((m : Nat) : Int))), (3, .int (rg_I a)), (4, .int (rg_I (rg_al sr sm (rg_mM sl rf fl nr b) ns))), (5, .int (rg_I t)), (6, .int (rg_I ((u : Nat) : Int))), (7, .int (rg_I ((r : Nat) : Int))), (8, .int (rg_I ((x : Nat) : Int))), (9, .int (rg_I ((o : Nat) : Int)))] [.int (rg_I (rg_b (rg_mg sl rf fl kd en o b))), .int (rg_I ((x : Nat) : Int))] (rg_wr σ 20 (rg_col f20 r b (fun _ => True) (fun o => rg_ml sl rf fl kd en pt (rg_al sr sm (rg_mM sl rf fl nr b) ns) nr b o)))
                        refine rg_if_eq F 173 dX10_sum_161 (by decide) (by have b0 := rg_b_Rg (rg_mg sl rf fl kd en o b); omega) (fun c161_16 => ?_) (fun c161_16 => ?_)
                        ·
                          have c161_16 := (rg_b_eq0 _).mp c161_16
                          refine rg_iconst F dX10_sum_173 ?_
                          refine rg_iadd F dX10_sum_174 ?_
                          refine rg_istore F [(8, .int (rg_I (((x : Nat) : Int) + 0))), (10, .int (rg_I 0)), (0, .ref (κ.2.2.2 0)), (1, .int (rg_I ((b : Nat) : Int))), (2, .int (rg_I ((m : Nat) : Int))), (3, .int (rg_I a)), (4, .int (rg_I (rg_al sr sm (rg_mM sl rf fl nr b) ns))), (5, .int (rg_I t)), (6, .int (rg_I ((u : Nat) : Int))), (7, .int (rg_I ((r : Nat) : Int))), (9, .int (rg_I ((o : Nat) : Int)))] dX10_sum_175 (by decide) rfl ?_
                          refine rg_iinc F (v := ((o + 1 : Nat) : Int)) 10 [(9, .int (rg_I ((o + 1 : Nat) : Int))), (8, .int (rg_I (((x : Nat) : Int) + 0))), (10, .int (rg_I 0)), (0, .ref (κ.2.2.2 0)), (1, .int (rg_I ((b : Nat) : Int))), (2, .int (rg_I ((m : Nat) : Int))), (3, .int (rg_I a)), (4, .int (rg_I (rg_al sr sm (rg_mM sl rf fl nr b) ns))), (5, .int (rg_I t)), (6, .int (rg_I ((u : Nat) : Int))), (7, .int (rg_I ((r : Nat) : Int)))] dX10_sum_177 rfl (by omega) (by decide) rfl ?_
                          refine rg_goto F 95 dX10_sum_180 (by decide) ?_
                          refine rg_lve (lv' := [(9, .int (rg_I ((o + 1 : Nat) : Int))), (8, .int (rg_I ((x : Nat) : Int))), (10, .int (rg_I 0)), (0, .ref (κ.2.2.2 0)), (1, .int (rg_I ((b : Nat) : Int))), (2, .int (rg_I ((m : Nat) : Int))), (3, .int (rg_I a)), (4, .int (rg_I (rg_al sr sm (rg_mM sl rf fl nr b) ns))), (5, .int (rg_I t)), (6, .int (rg_I ((u : Nat) : Int))), (7, .int (rg_I ((r : Nat) : Int)))]) (congrArg (fun x9 : Int => ([(9, .int (rg_I ((o + 1 : Nat) : Int))), (8, .int (rg_I x9)), (10, .int (rg_I 0)), (0, .ref (κ.2.2.2 0)), (1, .int (rg_I ((b : Nat) : Int))), (2, .int (rg_I ((m : Nat) : Int))), (3, .int (rg_I a)), (4, .int (rg_I (rg_al sr sm (rg_mM sl rf fl nr b) ns))), (5, .int (rg_I t)), (6, .int (rg_I ((u : Nat) : Int))), (7, .int (rg_I ((r : Nat) : Int)))] : List (Nat × Value))) (by omega)) ?_
                          refine rg_sub (lv' := [(0, .ref (κ.2.2.2 0)), (1, .int (rg_I ((b : Nat) : Int))), (2, .int (rg_I ((m : Nat) : Int))), (3, .int (rg_I a)), (4, .int (rg_I (rg_al sr sm (rg_mM sl rf fl nr b) ns))), (5, .int (rg_I t)), (6, .int (rg_I ((u : Nat) : Int))), (7, .int (rg_I ((r : Nat) : Int))), (8, .int (rg_I ((x : Nat) : Int))), (9, .int (rg_I ((o + 1 : Nat) : Int)))]) [3, 4, 5, 6, 7, 8, 9, 10, 1, 0] rfl ?_
                          exact ih95 (nr - (o + 1)) (by omega) (x) ((o + 1)) rfl (by omega) (by first | (rw [rg_cnt_t (p := (fun o => rg_mg sl rf fl kd en o b ∧ rg_sn2 kd pt b o r)) ⟨by assumption, by unfold rg_sn2; omega⟩]; omega) | (rw [rg_cnt_f (p := (fun o => rg_mg sl rf fl kd en o b ∧ rg_sn2 kd pt b o r)) (fun q => absurd q.1 (by assumption))]; omega) | (rw [rg_cnt_f (p := (fun o => rg_mg sl rf fl kd en o b ∧ rg_sn2 kd pt b o r)) (fun q => by have := q.2; unfold rg_sn2 at this; omega)]; omega)) (by omega)
                        ·
                          have c161_16 := (rg_b_ne0 _).mp c161_16
                          refine rg_iload F 0 10 rfl dX10_sum_164 ?_
                          refine rg_if_eq F 173 dX10_sum_166 (by decide) (by omega) (fun c166_17 => ?_) (fun c166_17 => ?_)
                          ·
                            refine rg_iconst F dX10_sum_173 ?_
                            refine rg_iadd F dX10_sum_174 ?_
                            refine rg_istore F [(8, .int (rg_I (((x : Nat) : Int) + 0))), (10, .int (rg_I 0)), (0, .ref (κ.2.2.2 0)), (1, .int (rg_I ((b : Nat) : Int))), (2, .int (rg_I ((m : Nat) : Int))), (3, .int (rg_I a)), (4, .int (rg_I (rg_al sr sm (rg_mM sl rf fl nr b) ns))), (5, .int (rg_I t)), (6, .int (rg_I ((u : Nat) : Int))), (7, .int (rg_I ((r : Nat) : Int))), (9, .int (rg_I ((o : Nat) : Int)))] dX10_sum_175 (by decide) rfl ?_
                            refine rg_iinc F (v := ((o + 1 : Nat) : Int)) 10 [(9, .int (rg_I ((o + 1 : Nat) : Int))), (8, .int (rg_I (((x : Nat) : Int) + 0))), (10, .int (rg_I 0)), (0, .ref (κ.2.2.2 0)), (1, .int (rg_I ((b : Nat) : Int))), (2, .int (rg_I ((m : Nat) : Int))), (3, .int (rg_I a)), (4, .int (rg_I (rg_al sr sm (rg_mM sl rf fl nr b) ns))), (5, .int (rg_I t)), (6, .int (rg_I ((u : Nat) : Int))), (7, .int (rg_I ((r : Nat) : Int)))] dX10_sum_177 rfl (by omega) (by decide) rfl ?_
                            refine rg_goto F 95 dX10_sum_180 (by decide) ?_
                            refine rg_lve (lv' := [(9, .int (rg_I ((o + 1 : Nat) : Int))), (8, .int (rg_I ((x : Nat) : Int))), (10, .int (rg_I 0)), (0, .ref (κ.2.2.2 0)), (1, .int (rg_I ((b : Nat) : Int))), (2, .int (rg_I ((m : Nat) : Int))), (3, .int (rg_I a)), (4, .int (rg_I (rg_al sr sm (rg_mM sl rf fl nr b) ns))), (5, .int (rg_I t)), (6, .int (rg_I ((u : Nat) : Int))), (7, .int (rg_I ((r : Nat) : Int)))]) (congrArg (fun x9 : Int => ([(9, .int (rg_I ((o + 1 : Nat) : Int))), (8, .int (rg_I x9)), (10, .int (rg_I 0)), (0, .ref (κ.2.2.2 0)), (1, .int (rg_I ((b : Nat) : Int))), (2, .int (rg_I ((m : Nat) : Int))), (3, .int (rg_I a)), (4, .int (rg_I (rg_al sr sm (rg_mM sl rf fl nr b) ns))), (5, .int (rg_I t)), (6, .int (rg_I ((u : Nat) : Int))), (7, .int (rg_I ((r : Nat) : Int)))] : List (Nat × Value))) (by omega)) ?_
                            refine rg_sub (lv' := [(0, .ref (κ.2.2.2 0)), (1, .int (rg_I ((b : Nat) : Int))), (2, .int (rg_I ((m : Nat) : Int))), (3, .int (rg_I a)), (4, .int (rg_I (rg_al sr sm (rg_mM sl rf fl nr b) ns))), (5, .int (rg_I t)), (6, .int (rg_I ((u : Nat) : Int))), (7, .int (rg_I ((r : Nat) : Int))), (8, .int (rg_I ((x : Nat) : Int))), (9, .int (rg_I ((o + 1 : Nat) : Int)))]) [3, 4, 5, 6, 7, 8, 9, 10, 1, 0] rfl ?_
                            exact ih95 (nr - (o + 1)) (by omega) (x) ((o + 1)) rfl (by omega) (by first | (rw [rg_cnt_t (p := (fun o => rg_mg sl rf fl kd en o b ∧ rg_sn2 kd pt b o r)) ⟨by assumption, by unfold rg_sn2; omega⟩]; omega) | (rw [rg_cnt_f (p := (fun o => rg_mg sl rf fl kd en o b ∧ rg_sn2 kd pt b o r)) (fun q => absurd q.1 (by assumption))]; omega) | (rw [rg_cnt_f (p := (fun o => rg_mg sl rf fl kd en o b ∧ rg_sn2 kd pt b o r)) (fun q => by have := q.2; unfold rg_sn2 at this; omega)]; omega)) (by omega)
                          · exfalso; omega
                      ·
                        refine rg_iload F 9 9 rfl dX10_sum_138 ?_
                        refine rg_iload F 7 7 rfl dX10_sum_140 ?_
                        refine rg_icmp_ge F 149 dX10_sum_142 (by decide) (by omega) (by omega) (fun c142_18 => ?_) (fun c142_18 => ?_)
                        ·
                          refine rg_iconst F dX10_sum_149 ?_
                          refine rg_istore F [(10, .int (rg_I 0)), (0, .ref (κ.2.2.2 0)), (1, .int (rg_I ((b : Nat) : Int))), (2, .int (rg_I ((m : Nat) : Int))), (3, .int (rg_I a)), (4, .int (rg_I (rg_al sr sm (rg_mM sl rf fl nr b) ns))), (5, .int (rg_I t)), (6, .int (rg_I ((u : Nat) : Int))), (7, .int (rg_I ((r : Nat) : Int))), (8, .int (rg_I ((x : Nat) : Int))), (9, .int (rg_I ((o : Nat) : Int)))] dX10_sum_150 (by decide) rfl ?_
                          refine rg_iload F 9 8 rfl dX10_sum_152 ?_
                          refine rg_aload_n F 1 0 rfl dX10_sum_154 rfl ?_
                          refine rg_iload F 10 9 rfl dX10_sum_155 ?_
                          refine rg_iload_n F 2 1 rfl dX10_sum_157 rfl ?_
                          refine rg_callVI F [.int (rg_I ((o : Nat) : Int)), .int (rg_I ((b : Nat) : Int))] [.int (rg_I ((x : Nat) : Int))] 0 (k_X10_mayGo κ (rg_wr σ 20 (rg_col f20 r b (fun _ => True) (fun o => rg_ml sl rf fl kd en pt (rg_al sr sm (rg_mM sl rf fl nr b) ns) nr b o))) (o) (b) fl kd rf en sl (h2) (h3) (h4) (h15) (h18) (by first | assumption | omega) (by first | assumption | omega) (by first | assumption | omega) (by first | assumption | omega) (by first | assumption | omega) (by first | assumption | omega) (by first | assumption | omega)) tM0 cX10 v_X10_mayGo i_X10_mayGo k_ml_X10_150 ⟨Nat.le_of_ble_eq_true rfl, Nat.le_of_ble_eq_true rfl⟩ rfl (Nat.le_of_ble_eq_true rfl) dX10_sum_158 (rg_ex2 ?_)
                          show rg_G κ Γ rg_tM 11 0 0 (158 + 3) [(10, .int (rg_I 0)), (0, .ref (κ.2.2.2 0)), (1, .int (rg_I ((b : Nat) : Int))), (2, .int (rg_I ((m : Nat) : Int))), (3, .int (rg_I a)), (4, .int (rg_I (rg_al sr sm (rg_mM sl rf fl nr b) ns))), (5, .int (rg_I t)), (6, .int (rg_I ((u : Nat) : Int))), (7, .int (rg_I ((r : Nat) : Int))), (8, .int (rg_I ((x : Nat) : Int))), (9, .int (rg_I ((o : Nat) : Int)))] [.int (rg_I (rg_b (rg_mg sl rf fl kd en o b))), .int (rg_I ((x : Nat) : Int))] (rg_wr σ 20 (rg_col f20 r b (fun _ => True) (fun o => rg_ml sl rf fl kd en pt (rg_al sr sm (rg_mM sl rf fl nr b) ns) nr b o)))
                          refine rg_if_eq F 173 dX10_sum_161 (by decide) (by have b0 := rg_b_Rg (rg_mg sl rf fl kd en o b); omega) (fun c161_19 => ?_) (fun c161_19 => ?_)
                          ·
                            have c161_19 := (rg_b_eq0 _).mp c161_19
                            refine rg_iconst F dX10_sum_173 ?_
                            refine rg_iadd F dX10_sum_174 ?_
                            refine rg_istore F [(8, .int (rg_I (((x : Nat) : Int) + 0))), (10, .int (rg_I 0)), (0, .ref (κ.2.2.2 0)), (1, .int (rg_I ((b : Nat) : Int))), (2, .int (rg_I ((m : Nat) : Int))), (3, .int (rg_I a)), (4, .int (rg_I (rg_al sr sm (rg_mM sl rf fl nr b) ns))), (5, .int (rg_I t)), (6, .int (rg_I ((u : Nat) : Int))), (7, .int (rg_I ((r : Nat) : Int))), (9, .int (rg_I ((o : Nat) : Int)))] dX10_sum_175 (by decide) rfl ?_
                            refine rg_iinc F (v := ((o + 1 : Nat) : Int)) 10 [(9, .int (rg_I ((o + 1 : Nat) : Int))), (8, .int (rg_I (((x : Nat) : Int) + 0))), (10, .int (rg_I 0)), (0, .ref (κ.2.2.2 0)), (1, .int (rg_I ((b : Nat) : Int))), (2, .int (rg_I ((m : Nat) : Int))), (3, .int (rg_I a)), (4, .int (rg_I (rg_al sr sm (rg_mM sl rf fl nr b) ns))), (5, .int (rg_I t)), (6, .int (rg_I ((u : Nat) : Int))), (7, .int (rg_I ((r : Nat) : Int)))] dX10_sum_177 rfl (by omega) (by decide) rfl ?_
                            refine rg_goto F 95 dX10_sum_180 (by decide) ?_
                            refine rg_lve (lv' := [(9, .int (rg_I ((o + 1 : Nat) : Int))), (8, .int (rg_I ((x : Nat) : Int))), (10, .int (rg_I 0)), (0, .ref (κ.2.2.2 0)), (1, .int (rg_I ((b : Nat) : Int))), (2, .int (rg_I ((m : Nat) : Int))), (3, .int (rg_I a)), (4, .int (rg_I (rg_al sr sm (rg_mM sl rf fl nr b) ns))), (5, .int (rg_I t)), (6, .int (rg_I ((u : Nat) : Int))), (7, .int (rg_I ((r : Nat) : Int)))]) (congrArg (fun x9 : Int => ([(9, .int (rg_I ((o + 1 : Nat) : Int))), (8, .int (rg_I x9)), (10, .int (rg_I 0)), (0, .ref (κ.2.2.2 0)), (1, .int (rg_I ((b : Nat) : Int))), (2, .int (rg_I ((m : Nat) : Int))), (3, .int (rg_I a)), (4, .int (rg_I (rg_al sr sm (rg_mM sl rf fl nr b) ns))), (5, .int (rg_I t)), (6, .int (rg_I ((u : Nat) : Int))), (7, .int (rg_I ((r : Nat) : Int)))] : List (Nat × Value))) (by omega)) ?_
                            refine rg_sub (lv' := [(0, .ref (κ.2.2.2 0)), (1, .int (rg_I ((b : Nat) : Int))), (2, .int (rg_I ((m : Nat) : Int))), (3, .int (rg_I a)), (4, .int (rg_I (rg_al sr sm (rg_mM sl rf fl nr b) ns))), (5, .int (rg_I t)), (6, .int (rg_I ((u : Nat) : Int))), (7, .int (rg_I ((r : Nat) : Int))), (8, .int (rg_I ((x : Nat) : Int))), (9, .int (rg_I ((o + 1 : Nat) : Int)))]) [3, 4, 5, 6, 7, 8, 9, 10, 1, 0] rfl ?_
                            exact ih95 (nr - (o + 1)) (by omega) (x) ((o + 1)) rfl (by omega) (by first | (rw [rg_cnt_t (p := (fun o => rg_mg sl rf fl kd en o b ∧ rg_sn2 kd pt b o r)) ⟨by assumption, by unfold rg_sn2; omega⟩]; omega) | (rw [rg_cnt_f (p := (fun o => rg_mg sl rf fl kd en o b ∧ rg_sn2 kd pt b o r)) (fun q => absurd q.1 (by assumption))]; omega) | (rw [rg_cnt_f (p := (fun o => rg_mg sl rf fl kd en o b ∧ rg_sn2 kd pt b o r)) (fun q => by have := q.2; unfold rg_sn2 at this; omega)]; omega)) (by omega)
                          ·
                            have c161_19 := (rg_b_ne0 _).mp c161_19
                            refine rg_iload F 0 10 rfl dX10_sum_164 ?_
                            refine rg_if_eq F 173 dX10_sum_166 (by decide) (by omega) (fun c166_20 => ?_) (fun c166_20 => ?_)
                            ·
                              refine rg_iconst F dX10_sum_173 ?_
                              refine rg_iadd F dX10_sum_174 ?_
                              refine rg_istore F [(8, .int (rg_I (((x : Nat) : Int) + 0))), (10, .int (rg_I 0)), (0, .ref (κ.2.2.2 0)), (1, .int (rg_I ((b : Nat) : Int))), (2, .int (rg_I ((m : Nat) : Int))), (3, .int (rg_I a)), (4, .int (rg_I (rg_al sr sm (rg_mM sl rf fl nr b) ns))), (5, .int (rg_I t)), (6, .int (rg_I ((u : Nat) : Int))), (7, .int (rg_I ((r : Nat) : Int))), (9, .int (rg_I ((o : Nat) : Int)))] dX10_sum_175 (by decide) rfl ?_
                              refine rg_iinc F (v := ((o + 1 : Nat) : Int)) 10 [(9, .int (rg_I ((o + 1 : Nat) : Int))), (8, .int (rg_I (((x : Nat) : Int) + 0))), (10, .int (rg_I 0)), (0, .ref (κ.2.2.2 0)), (1, .int (rg_I ((b : Nat) : Int))), (2, .int (rg_I ((m : Nat) : Int))), (3, .int (rg_I a)), (4, .int (rg_I (rg_al sr sm (rg_mM sl rf fl nr b) ns))), (5, .int (rg_I t)), (6, .int (rg_I ((u : Nat) : Int))), (7, .int (rg_I ((r : Nat) : Int)))] dX10_sum_177 rfl (by omega) (by decide) rfl ?_
                              refine rg_goto F 95 dX10_sum_180 (by decide) ?_
                              refine rg_lve (lv' := [(9, .int (rg_I ((o + 1 : Nat) : Int))), (8, .int (rg_I ((x : Nat) : Int))), (10, .int (rg_I 0)), (0, .ref (κ.2.2.2 0)), (1, .int (rg_I ((b : Nat) : Int))), (2, .int (rg_I ((m : Nat) : Int))), (3, .int (rg_I a)), (4, .int (rg_I (rg_al sr sm (rg_mM sl rf fl nr b) ns))), (5, .int (rg_I t)), (6, .int (rg_I ((u : Nat) : Int))), (7, .int (rg_I ((r : Nat) : Int)))]) (congrArg (fun x9 : Int => ([(9, .int (rg_I ((o + 1 : Nat) : Int))), (8, .int (rg_I x9)), (10, .int (rg_I 0)), (0, .ref (κ.2.2.2 0)), (1, .int (rg_I ((b : Nat) : Int))), (2, .int (rg_I ((m : Nat) : Int))), (3, .int (rg_I a)), (4, .int (rg_I (rg_al sr sm (rg_mM sl rf fl nr b) ns))), (5, .int (rg_I t)), (6, .int (rg_I ((u : Nat) : Int))), (7, .int (rg_I ((r : Nat) : Int)))] : List (Nat × Value))) (by omega)) ?_
                              refine rg_sub (lv' := [(0, .ref (κ.2.2.2 0)), (1, .int (rg_I ((b : Nat) : Int))), (2, .int (rg_I ((m : Nat) : Int))), (3, .int (rg_I a)), (4, .int (rg_I (rg_al sr sm (rg_mM sl rf fl nr b) ns))), (5, .int (rg_I t)), (6, .int (rg_I ((u : Nat) : Int))), (7, .int (rg_I ((r : Nat) : Int))), (8, .int (rg_I ((x : Nat) : Int))), (9, .int (rg_I ((o + 1 : Nat) : Int)))]) [3, 4, 5, 6, 7, 8, 9, 10, 1, 0] rfl ?_
                              exact ih95 (nr - (o + 1)) (by omega) (x) ((o + 1)) rfl (by omega) (by first | (rw [rg_cnt_t (p := (fun o => rg_mg sl rf fl kd en o b ∧ rg_sn2 kd pt b o r)) ⟨by assumption, by unfold rg_sn2; omega⟩]; omega) | (rw [rg_cnt_f (p := (fun o => rg_mg sl rf fl kd en o b ∧ rg_sn2 kd pt b o r)) (fun q => absurd q.1 (by assumption))]; omega) | (rw [rg_cnt_f (p := (fun o => rg_mg sl rf fl kd en o b ∧ rg_sn2 kd pt b o r)) (fun q => by have := q.2; unfold rg_sn2 at this; omega)]; omega)) (by omega)
                            · exfalso; omega
                        ·
                          refine rg_iconst F dX10_sum_145 ?_
                          refine rg_goto F 150 dX10_sum_146 (by decide) ?_
                          refine rg_istore F [(10, .int (rg_I 1)), (0, .ref (κ.2.2.2 0)), (1, .int (rg_I ((b : Nat) : Int))), (2, .int (rg_I ((m : Nat) : Int))), (3, .int (rg_I a)), (4, .int (rg_I (rg_al sr sm (rg_mM sl rf fl nr b) ns))), (5, .int (rg_I t)), (6, .int (rg_I ((u : Nat) : Int))), (7, .int (rg_I ((r : Nat) : Int))), (8, .int (rg_I ((x : Nat) : Int))), (9, .int (rg_I ((o : Nat) : Int)))] dX10_sum_150 (by decide) rfl ?_
                          refine rg_iload F 9 8 rfl dX10_sum_152 ?_
                          refine rg_aload_n F 1 0 rfl dX10_sum_154 rfl ?_
                          refine rg_iload F 10 9 rfl dX10_sum_155 ?_
                          refine rg_iload_n F 2 1 rfl dX10_sum_157 rfl ?_
                          refine rg_callVI F [.int (rg_I ((o : Nat) : Int)), .int (rg_I ((b : Nat) : Int))] [.int (rg_I ((x : Nat) : Int))] 0 (k_X10_mayGo κ (rg_wr σ 20 (rg_col f20 r b (fun _ => True) (fun o => rg_ml sl rf fl kd en pt (rg_al sr sm (rg_mM sl rf fl nr b) ns) nr b o))) (o) (b) fl kd rf en sl (h2) (h3) (h4) (h15) (h18) (by first | assumption | omega) (by first | assumption | omega) (by first | assumption | omega) (by first | assumption | omega) (by first | assumption | omega) (by first | assumption | omega) (by first | assumption | omega)) tM0 cX10 v_X10_mayGo i_X10_mayGo k_ml_X10_150 ⟨Nat.le_of_ble_eq_true rfl, Nat.le_of_ble_eq_true rfl⟩ rfl (Nat.le_of_ble_eq_true rfl) dX10_sum_158 (rg_ex2 ?_)
                          show rg_G κ Γ rg_tM 11 0 0 (158 + 3) [(10, .int (rg_I 1)), (0, .ref (κ.2.2.2 0)), (1, .int (rg_I ((b : Nat) : Int))), (2, .int (rg_I ((m : Nat) : Int))), (3, .int (rg_I a)), (4, .int (rg_I (rg_al sr sm (rg_mM sl rf fl nr b) ns))), (5, .int (rg_I t)), (6, .int (rg_I ((u : Nat) : Int))), (7, .int (rg_I ((r : Nat) : Int))), (8, .int (rg_I ((x : Nat) : Int))), (9, .int (rg_I ((o : Nat) : Int)))] [.int (rg_I (rg_b (rg_mg sl rf fl kd en o b))), .int (rg_I ((x : Nat) : Int))] (rg_wr σ 20 (rg_col f20 r b (fun _ => True) (fun o => rg_ml sl rf fl kd en pt (rg_al sr sm (rg_mM sl rf fl nr b) ns) nr b o)))
                          refine rg_if_eq F 173 dX10_sum_161 (by decide) (by have b0 := rg_b_Rg (rg_mg sl rf fl kd en o b); omega) (fun c161_21 => ?_) (fun c161_21 => ?_)
                          ·
                            have c161_21 := (rg_b_eq0 _).mp c161_21
                            refine rg_iconst F dX10_sum_173 ?_
                            refine rg_iadd F dX10_sum_174 ?_
                            refine rg_istore F [(8, .int (rg_I (((x : Nat) : Int) + 0))), (10, .int (rg_I 1)), (0, .ref (κ.2.2.2 0)), (1, .int (rg_I ((b : Nat) : Int))), (2, .int (rg_I ((m : Nat) : Int))), (3, .int (rg_I a)), (4, .int (rg_I (rg_al sr sm (rg_mM sl rf fl nr b) ns))), (5, .int (rg_I t)), (6, .int (rg_I ((u : Nat) : Int))), (7, .int (rg_I ((r : Nat) : Int))), (9, .int (rg_I ((o : Nat) : Int)))] dX10_sum_175 (by decide) rfl ?_
                            refine rg_iinc F (v := ((o + 1 : Nat) : Int)) 10 [(9, .int (rg_I ((o + 1 : Nat) : Int))), (8, .int (rg_I (((x : Nat) : Int) + 0))), (10, .int (rg_I 1)), (0, .ref (κ.2.2.2 0)), (1, .int (rg_I ((b : Nat) : Int))), (2, .int (rg_I ((m : Nat) : Int))), (3, .int (rg_I a)), (4, .int (rg_I (rg_al sr sm (rg_mM sl rf fl nr b) ns))), (5, .int (rg_I t)), (6, .int (rg_I ((u : Nat) : Int))), (7, .int (rg_I ((r : Nat) : Int)))] dX10_sum_177 rfl (by omega) (by decide) rfl ?_
                            refine rg_goto F 95 dX10_sum_180 (by decide) ?_
                            refine rg_lve (lv' := [(9, .int (rg_I ((o + 1 : Nat) : Int))), (8, .int (rg_I ((x : Nat) : Int))), (10, .int (rg_I 1)), (0, .ref (κ.2.2.2 0)), (1, .int (rg_I ((b : Nat) : Int))), (2, .int (rg_I ((m : Nat) : Int))), (3, .int (rg_I a)), (4, .int (rg_I (rg_al sr sm (rg_mM sl rf fl nr b) ns))), (5, .int (rg_I t)), (6, .int (rg_I ((u : Nat) : Int))), (7, .int (rg_I ((r : Nat) : Int)))]) (congrArg (fun x9 : Int => ([(9, .int (rg_I ((o + 1 : Nat) : Int))), (8, .int (rg_I x9)), (10, .int (rg_I 1)), (0, .ref (κ.2.2.2 0)), (1, .int (rg_I ((b : Nat) : Int))), (2, .int (rg_I ((m : Nat) : Int))), (3, .int (rg_I a)), (4, .int (rg_I (rg_al sr sm (rg_mM sl rf fl nr b) ns))), (5, .int (rg_I t)), (6, .int (rg_I ((u : Nat) : Int))), (7, .int (rg_I ((r : Nat) : Int)))] : List (Nat × Value))) (by omega)) ?_
                            refine rg_sub (lv' := [(0, .ref (κ.2.2.2 0)), (1, .int (rg_I ((b : Nat) : Int))), (2, .int (rg_I ((m : Nat) : Int))), (3, .int (rg_I a)), (4, .int (rg_I (rg_al sr sm (rg_mM sl rf fl nr b) ns))), (5, .int (rg_I t)), (6, .int (rg_I ((u : Nat) : Int))), (7, .int (rg_I ((r : Nat) : Int))), (8, .int (rg_I ((x : Nat) : Int))), (9, .int (rg_I ((o + 1 : Nat) : Int)))]) [3, 4, 5, 6, 7, 8, 9, 10, 1, 0] rfl ?_
                            exact ih95 (nr - (o + 1)) (by omega) (x) ((o + 1)) rfl (by omega) (by first | (rw [rg_cnt_t (p := (fun o => rg_mg sl rf fl kd en o b ∧ rg_sn2 kd pt b o r)) ⟨by assumption, by unfold rg_sn2; omega⟩]; omega) | (rw [rg_cnt_f (p := (fun o => rg_mg sl rf fl kd en o b ∧ rg_sn2 kd pt b o r)) (fun q => absurd q.1 (by assumption))]; omega) | (rw [rg_cnt_f (p := (fun o => rg_mg sl rf fl kd en o b ∧ rg_sn2 kd pt b o r)) (fun q => by have := q.2; unfold rg_sn2 at this; omega)]; omega)) (by omega)
                          ·
                            have c161_21 := (rg_b_ne0 _).mp c161_21
                            refine rg_iload F 0 10 rfl dX10_sum_164 ?_
                            refine rg_if_eq F 173 dX10_sum_166 (by decide) (by omega) (fun c166_22 => ?_) (fun c166_22 => ?_)
                            · exfalso; omega
                            ·
                              refine rg_iconst F dX10_sum_169 ?_
                              refine rg_goto F 174 dX10_sum_170 (by decide) ?_
                              refine rg_iadd F dX10_sum_174 ?_
                              refine rg_istore F [(8, .int (rg_I (((x : Nat) : Int) + 1))), (10, .int (rg_I 1)), (0, .ref (κ.2.2.2 0)), (1, .int (rg_I ((b : Nat) : Int))), (2, .int (rg_I ((m : Nat) : Int))), (3, .int (rg_I a)), (4, .int (rg_I (rg_al sr sm (rg_mM sl rf fl nr b) ns))), (5, .int (rg_I t)), (6, .int (rg_I ((u : Nat) : Int))), (7, .int (rg_I ((r : Nat) : Int))), (9, .int (rg_I ((o : Nat) : Int)))] dX10_sum_175 (by decide) rfl ?_
                              refine rg_iinc F (v := ((o + 1 : Nat) : Int)) 10 [(9, .int (rg_I ((o + 1 : Nat) : Int))), (8, .int (rg_I (((x : Nat) : Int) + 1))), (10, .int (rg_I 1)), (0, .ref (κ.2.2.2 0)), (1, .int (rg_I ((b : Nat) : Int))), (2, .int (rg_I ((m : Nat) : Int))), (3, .int (rg_I a)), (4, .int (rg_I (rg_al sr sm (rg_mM sl rf fl nr b) ns))), (5, .int (rg_I t)), (6, .int (rg_I ((u : Nat) : Int))), (7, .int (rg_I ((r : Nat) : Int)))] dX10_sum_177 rfl (by omega) (by decide) rfl ?_
                              refine rg_goto F 95 dX10_sum_180 (by decide) ?_
                              refine rg_lve (lv' := [(9, .int (rg_I ((o + 1 : Nat) : Int))), (8, .int (rg_I (((x + 1) : Nat) : Int))), (10, .int (rg_I 1)), (0, .ref (κ.2.2.2 0)), (1, .int (rg_I ((b : Nat) : Int))), (2, .int (rg_I ((m : Nat) : Int))), (3, .int (rg_I a)), (4, .int (rg_I (rg_al sr sm (rg_mM sl rf fl nr b) ns))), (5, .int (rg_I t)), (6, .int (rg_I ((u : Nat) : Int))), (7, .int (rg_I ((r : Nat) : Int)))]) (congrArg (fun x9 : Int => ([(9, .int (rg_I ((o + 1 : Nat) : Int))), (8, .int (rg_I x9)), (10, .int (rg_I 1)), (0, .ref (κ.2.2.2 0)), (1, .int (rg_I ((b : Nat) : Int))), (2, .int (rg_I ((m : Nat) : Int))), (3, .int (rg_I a)), (4, .int (rg_I (rg_al sr sm (rg_mM sl rf fl nr b) ns))), (5, .int (rg_I t)), (6, .int (rg_I ((u : Nat) : Int))), (7, .int (rg_I ((r : Nat) : Int)))] : List (Nat × Value))) (by omega)) ?_
                              refine rg_sub (lv' := [(0, .ref (κ.2.2.2 0)), (1, .int (rg_I ((b : Nat) : Int))), (2, .int (rg_I ((m : Nat) : Int))), (3, .int (rg_I a)), (4, .int (rg_I (rg_al sr sm (rg_mM sl rf fl nr b) ns))), (5, .int (rg_I t)), (6, .int (rg_I ((u : Nat) : Int))), (7, .int (rg_I ((r : Nat) : Int))), (8, .int (rg_I (((x + 1) : Nat) : Int))), (9, .int (rg_I ((o + 1 : Nat) : Int)))]) [3, 4, 5, 6, 7, 8, 9, 10, 1, 0] rfl ?_
                              exact ih95 (nr - (o + 1)) (by omega) ((x + 1)) ((o + 1)) rfl (by omega) (by first | (rw [rg_cnt_t (p := (fun o => rg_mg sl rf fl kd en o b ∧ rg_sn2 kd pt b o r)) ⟨by assumption, by unfold rg_sn2; omega⟩]; omega) | (rw [rg_cnt_f (p := (fun o => rg_mg sl rf fl kd en o b ∧ rg_sn2 kd pt b o r)) (fun q => absurd q.1 (by assumption))]; omega) | (rw [rg_cnt_f (p := (fun o => rg_mg sl rf fl kd en o b ∧ rg_sn2 kd pt b o r)) (fun q => by have := q.2; unfold rg_sn2 at this; omega)]; omega)) (by omega)
              refine rg_sub (lv' := [(0, .ref (κ.2.2.2 0)), (1, .int (rg_I ((b : Nat) : Int))), (2, .int (rg_I ((m : Nat) : Int))), (3, .int (rg_I a)), (4, .int (rg_I (rg_al sr sm (rg_mM sl rf fl nr b) ns))), (5, .int (rg_I t)), (6, .int (rg_I ((u : Nat) : Int))), (7, .int (rg_I ((r : Nat) : Int))), (8, .int (rg_I 0)), (9, .int (rg_I 0))]) [2, 3, 4, 5, 6, 7, 8, 9, 1, 0] rfl ?_
              exact L95 _ (0) (0) rfl (by omega) rfl (by omega)
        refine rg_eq (σ' := (rg_wr σ 20 (rg_col f20 0 b (fun _ => True) (fun o => rg_ml sl rf fl kd en pt (rg_al sr sm (rg_mM sl rf fl nr b) ns) nr b o)))) (((rg_wr_self (σ := σ) (k := 20) (f := f20) h20).trans rfl).trans (rg_wr_congr (f := f20) (g := (rg_col f20 0 b (fun _ => True) (fun o => rg_ml sl rf fl kd en pt (rg_al sr sm (rg_mM sl rf fl nr b) ns) nr b o))) 20 rfl (rg_col_0 _ _ _ _))) ?_
        refine rg_sub (lv' := [(0, .ref (κ.2.2.2 0)), (1, .int (rg_I ((b : Nat) : Int))), (2, .int (rg_I ((m : Nat) : Int))), (3, .int (rg_I a)), (4, .int (rg_I (rg_al sr sm (rg_mM sl rf fl nr b) ns))), (5, .int (rg_I a)), (6, .int (rg_I 0)), (7, .int (rg_I 0))]) [4, 5, 6, 7, 3, 2, 1, 0] rfl ?_
        exact L80 _ (a) (0) (0) rfl (by omega) (by show a = a - 0; omega) rfl
      ·
        refine rg_iload_n F 2 2 rfl dX10_sum_16 rfl ?_
        refine rg_aload_n F 0 0 rfl dX10_sum_17 rfl ?_
        refine rg_iload F 4 4 rfl dX10_sum_18 ?_
        refine rg_iload_n F 1 1 rfl dX10_sum_20 rfl ?_
        refine rg_callVI F [.int (rg_I ((r : Nat) : Int)), .int (rg_I ((b : Nat) : Int))] [.int (rg_I ((m : Nat) : Int))] 0 (k_X10_isIn κ σ (r) (b) fl rf sl (h2) (h4) (h18) (by first | assumption | omega) (by first | assumption | omega) (by first | assumption | omega) (by first | assumption | omega) (by first | assumption | omega)) tM0 cX10 v_X10_isIn i_X10_isIn k_ml_X10_120 ⟨Nat.le_of_ble_eq_true rfl, Nat.le_of_ble_eq_true rfl⟩ rfl (Nat.le_of_ble_eq_true rfl) dX10_sum_21 (rg_ex2 ?_)
        show rg_G κ Γ rg_tM 11 0 0 (21 + 3) [(0, .ref (κ.2.2.2 0)), (1, .int (rg_I ((b : Nat) : Int))), (2, .int (rg_I ((m : Nat) : Int))), (3, .int (rg_I a)), (4, .int (rg_I ((r : Nat) : Int)))] [.int (rg_I (rg_b (rg_in sl rf fl r b))), .int (rg_I ((m : Nat) : Int))] σ
        refine rg_if_eq F 31 dX10_sum_24 (by decide) (by have b0 := rg_b_Rg (rg_in sl rf fl r b); omega) (fun c24_23 => ?_) (fun c24_23 => ?_)
        ·
          have c24_23 := (rg_b_eq0 _).mp c24_23
          refine rg_iconst F dX10_sum_31 ?_
          refine rg_iadd F dX10_sum_32 ?_
          refine rg_istore_n F [(2, .int (rg_I (((m : Nat) : Int) + 0))), (0, .ref (κ.2.2.2 0)), (1, .int (rg_I ((b : Nat) : Int))), (3, .int (rg_I a)), (4, .int (rg_I ((r : Nat) : Int)))] dX10_sum_33 rfl (by decide) rfl ?_
          refine rg_iload_n F 3 3 rfl dX10_sum_34 rfl ?_
          refine rg_aload_n F 1 0 rfl dX10_sum_35 rfl ?_
          refine rg_iload F 4 4 rfl dX10_sum_36 ?_
          refine rg_iload_n F 2 1 rfl dX10_sum_38 rfl ?_
          refine rg_callVI F [.int (rg_I ((r : Nat) : Int)), .int (rg_I ((b : Nat) : Int))] [.int (rg_I a)] 0 (k_X10_isIn κ σ (r) (b) fl rf sl (h2) (h4) (h18) (by first | assumption | omega) (by first | assumption | omega) (by first | assumption | omega) (by first | assumption | omega) (by first | assumption | omega)) tM0 cX10 v_X10_isIn i_X10_isIn k_ml_X10_120 ⟨Nat.le_of_ble_eq_true rfl, Nat.le_of_ble_eq_true rfl⟩ rfl (Nat.le_of_ble_eq_true rfl) dX10_sum_39 (rg_ex2 ?_)
          show rg_G κ Γ rg_tM 11 0 0 (39 + 3) [(2, .int (rg_I (((m : Nat) : Int) + 0))), (0, .ref (κ.2.2.2 0)), (1, .int (rg_I ((b : Nat) : Int))), (3, .int (rg_I a)), (4, .int (rg_I ((r : Nat) : Int)))] [.int (rg_I (rg_b (rg_in sl rf fl r b))), .int (rg_I a)] σ
          refine rg_if_eq F 55 dX10_sum_42 (by decide) (by have b0 := rg_b_Rg (rg_in sl rf fl r b); omega) (fun c42_24 => ?_) (fun c42_24 => ?_)
          ·
            have c42_24 := (rg_b_eq0 _).mp c42_24
            refine rg_iconst F dX10_sum_55 ?_
            refine rg_iadd F dX10_sum_56 ?_
            refine rg_istore_n F [(3, .int (rg_I (a + 0))), (2, .int (rg_I (((m : Nat) : Int) + 0))), (0, .ref (κ.2.2.2 0)), (1, .int (rg_I ((b : Nat) : Int))), (4, .int (rg_I ((r : Nat) : Int)))] dX10_sum_57 rfl (by decide) rfl ?_
            refine rg_iinc F (v := ((r + 1 : Nat) : Int)) 4 [(4, .int (rg_I ((r + 1 : Nat) : Int))), (3, .int (rg_I (a + 0))), (2, .int (rg_I (((m : Nat) : Int) + 0))), (0, .ref (κ.2.2.2 0)), (1, .int (rg_I ((b : Nat) : Int)))] dX10_sum_58 rfl (by omega) (by decide) rfl ?_
            refine rg_goto F 7 dX10_sum_61 (by decide) ?_
            refine rg_lve (lv' := [(4, .int (rg_I ((r + 1 : Nat) : Int))), (3, .int (rg_I (a + 0))), (2, .int (rg_I ((m : Nat) : Int))), (0, .ref (κ.2.2.2 0)), (1, .int (rg_I ((b : Nat) : Int)))]) (congrArg (fun x9 : Int => ([(4, .int (rg_I ((r + 1 : Nat) : Int))), (3, .int (rg_I (a + 0))), (2, .int (rg_I x9)), (0, .ref (κ.2.2.2 0)), (1, .int (rg_I ((b : Nat) : Int)))] : List (Nat × Value))) (by omega)) ?_
            refine rg_sub (lv' := [(0, .ref (κ.2.2.2 0)), (1, .int (rg_I ((b : Nat) : Int))), (2, .int (rg_I ((m : Nat) : Int))), (3, .int (rg_I (a + 0))), (4, .int (rg_I ((r + 1 : Nat) : Int)))]) [3, 4, 2, 1, 0] rfl ?_
            exact ih7 (nr - (r + 1)) (by omega) (m) ((a + 0)) ((r + 1)) rfl (by omega) (by first | (rw [rg_cnt_t (p := (fun o => rg_in sl rf fl o b)) (by assumption)]; omega) | (rw [rg_cnt_f (p := (fun o => rg_in sl rf fl o b)) (by assumption)]; omega)) (by first | (rw [ha]; exact rg_sum_t (p := (fun o => rg_in sl rf fl o b)) (pt := (fun o => rg_ms2 kd pt o b)) (by assumption)) | (rw [ha, Int.add_zero]; exact rg_sum_f (p := (fun o => rg_in sl rf fl o b)) (pt := (fun o => rg_ms2 kd pt o b)) (by assumption))) (by omega)
          · first | exact absurd c42_24 c24_23 | exact absurd c24_23 c42_24 | exact absurd ((rg_b_ne0 _).mp c42_24) c24_23 | exact absurd c24_23 ((rg_b_eq0 _).mp c42_24)
        ·
          have c24_23 := (rg_b_ne0 _).mp c24_23
          refine rg_iconst F dX10_sum_27 ?_
          refine rg_goto F 32 dX10_sum_28 (by decide) ?_
          refine rg_iadd F dX10_sum_32 ?_
          refine rg_istore_n F [(2, .int (rg_I (((m : Nat) : Int) + 1))), (0, .ref (κ.2.2.2 0)), (1, .int (rg_I ((b : Nat) : Int))), (3, .int (rg_I a)), (4, .int (rg_I ((r : Nat) : Int)))] dX10_sum_33 rfl (by decide) rfl ?_
          refine rg_iload_n F 3 3 rfl dX10_sum_34 rfl ?_
          refine rg_aload_n F 1 0 rfl dX10_sum_35 rfl ?_
          refine rg_iload F 4 4 rfl dX10_sum_36 ?_
          refine rg_iload_n F 2 1 rfl dX10_sum_38 rfl ?_
          refine rg_callVI F [.int (rg_I ((r : Nat) : Int)), .int (rg_I ((b : Nat) : Int))] [.int (rg_I a)] 0 (k_X10_isIn κ σ (r) (b) fl rf sl (h2) (h4) (h18) (by first | assumption | omega) (by first | assumption | omega) (by first | assumption | omega) (by first | assumption | omega) (by first | assumption | omega)) tM0 cX10 v_X10_isIn i_X10_isIn k_ml_X10_120 ⟨Nat.le_of_ble_eq_true rfl, Nat.le_of_ble_eq_true rfl⟩ rfl (Nat.le_of_ble_eq_true rfl) dX10_sum_39 (rg_ex2 ?_)
          show rg_G κ Γ rg_tM 11 0 0 (39 + 3) [(2, .int (rg_I (((m : Nat) : Int) + 1))), (0, .ref (κ.2.2.2 0)), (1, .int (rg_I ((b : Nat) : Int))), (3, .int (rg_I a)), (4, .int (rg_I ((r : Nat) : Int)))] [.int (rg_I (rg_b (rg_in sl rf fl r b))), .int (rg_I a)] σ
          refine rg_if_eq F 55 dX10_sum_42 (by decide) (by have b0 := rg_b_Rg (rg_in sl rf fl r b); omega) (fun c42_25 => ?_) (fun c42_25 => ?_)
          · first | exact absurd c42_25 c24_23 | exact absurd c24_23 c42_25 | exact absurd ((rg_b_ne0 _).mp c42_25) c24_23 | exact absurd c24_23 ((rg_b_eq0 _).mp c42_25)
          ·
            have c42_25 := (rg_b_ne0 _).mp c42_25
            refine rg_aload_n F 1 0 rfl dX10_sum_45 rfl ?_
            refine rg_iload F 4 4 rfl dX10_sum_46 ?_
            refine rg_iload_n F 2 1 rfl dX10_sum_48 rfl ?_
            refine rg_callVI F [.int (rg_I ((r : Nat) : Int)), .int (rg_I ((b : Nat) : Int))] [.int (rg_I a)] 0 (k_X10_scoreOf κ σ (r) (b) kd pt (h3) (h19) (by first | assumption | omega) (by first | assumption | omega) (by first | assumption | omega)) tM0 cX10 v_X10_scoreOf i_X10_scoreOf k_ml_X10_143 ⟨Nat.le_of_ble_eq_true rfl, Nat.le_of_ble_eq_true rfl⟩ rfl (Nat.le_of_ble_eq_true rfl) dX10_sum_49 (rg_ex2 ?_)
            show rg_G κ Γ rg_tM 11 0 0 (49 + 3) [(2, .int (rg_I (((m : Nat) : Int) + 1))), (0, .ref (κ.2.2.2 0)), (1, .int (rg_I ((b : Nat) : Int))), (3, .int (rg_I a)), (4, .int (rg_I ((r : Nat) : Int)))] [.int (rg_I (rg_ms2 kd pt r b)), .int (rg_I a)] σ
            refine rg_goto F 56 dX10_sum_52 (by decide) ?_
            refine rg_iadd F dX10_sum_56 ?_
            refine rg_istore_n F [(3, .int (rg_I (a + (rg_ms2 kd pt r b)))), (2, .int (rg_I (((m : Nat) : Int) + 1))), (0, .ref (κ.2.2.2 0)), (1, .int (rg_I ((b : Nat) : Int))), (4, .int (rg_I ((r : Nat) : Int)))] dX10_sum_57 rfl (by decide) rfl ?_
            refine rg_iinc F (v := ((r + 1 : Nat) : Int)) 4 [(4, .int (rg_I ((r + 1 : Nat) : Int))), (3, .int (rg_I (a + (rg_ms2 kd pt r b)))), (2, .int (rg_I (((m : Nat) : Int) + 1))), (0, .ref (κ.2.2.2 0)), (1, .int (rg_I ((b : Nat) : Int)))] dX10_sum_58 rfl (by omega) (by decide) rfl ?_
            refine rg_goto F 7 dX10_sum_61 (by decide) ?_
            refine rg_lve (lv' := [(4, .int (rg_I ((r + 1 : Nat) : Int))), (3, .int (rg_I (a + (rg_ms2 kd pt r b)))), (2, .int (rg_I (((m + 1) : Nat) : Int))), (0, .ref (κ.2.2.2 0)), (1, .int (rg_I ((b : Nat) : Int)))]) (congrArg (fun x9 : Int => ([(4, .int (rg_I ((r + 1 : Nat) : Int))), (3, .int (rg_I (a + (rg_ms2 kd pt r b)))), (2, .int (rg_I x9)), (0, .ref (κ.2.2.2 0)), (1, .int (rg_I ((b : Nat) : Int)))] : List (Nat × Value))) (by omega)) ?_
            refine rg_sub (lv' := [(0, .ref (κ.2.2.2 0)), (1, .int (rg_I ((b : Nat) : Int))), (2, .int (rg_I (((m + 1) : Nat) : Int))), (3, .int (rg_I (a + (rg_ms2 kd pt r b)))), (4, .int (rg_I ((r + 1 : Nat) : Int)))]) [3, 4, 2, 1, 0] rfl ?_
            exact ih7 (nr - (r + 1)) (by omega) ((m + 1)) ((a + (rg_ms2 kd pt r b))) ((r + 1)) rfl (by omega) (by first | (rw [rg_cnt_t (p := (fun o => rg_in sl rf fl o b)) (by assumption)]; omega) | (rw [rg_cnt_f (p := (fun o => rg_in sl rf fl o b)) (by assumption)]; omega)) (by first | (rw [ha]; exact rg_sum_t (p := (fun o => rg_in sl rf fl o b)) (pt := (fun o => rg_ms2 kd pt o b)) (by assumption)) | (rw [ha, Int.add_zero]; exact rg_sum_f (p := (fun o => rg_in sl rf fl o b)) (pt := (fun o => rg_ms2 kd pt o b)) (by assumption))) (by omega)
  refine rg_sub (lv' := [(0, .ref (κ.2.2.2 0)), (1, .int (rg_I ((b : Nat) : Int))), (2, .int (rg_I 0)), (3, .int (rg_I 0)), (4, .int (rg_I 0))]) [3, 4, 2, 1, 0] rfl ?_
  exact L7 _ (0) (0) (0) rfl (by omega) rfl rfl (by omega)
