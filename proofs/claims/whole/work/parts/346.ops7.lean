-- ===== count =====
def pb_n (a : Alb) : Nat → Nat
  | 0 => 0
  | k + 1 => pb_n a k + ro_ct (nd (bm (fun q => bf_b a q k) 7) (2 ^ k))
theorem pb_le (a : Alb) : ∀ k, pb_n a k ≤ 7 * k
  | 0 => Nat.le_refl 0
  | k + 1 => by
    have := pb_le a k
    have := ro_ct_le _ (nd_128 (bm_7 (fun q => bf_b a q k)) (2 ^ k))
    show pb_n a k + _ ≤ _
    omega
theorem c_pairsBefore {h : Hp} {a : Alb} (hnp : (al_w a).length ≤ 7) (r : RuC 75 h a) (e : EaC 75 h a) : F_X7_pairsBefore 75 h = some (iI (pb_n a (al_w a).length), h) := by
  unfold F_X7_pairsBefore
  refine lp_up (α := Int32 → Int32 → Hp → Option (Int32 × Hp)) (P := fun k c8 => ∀ (v1 v2 : Int32), v1 = iI (pb_n a k) → v2 = iI k → c8 v1 v2 h = some (iI (pb_n a (al_w a).length), h)) (al_w a).length (by omega) (fun k c8 hk ih => ?_) _ _ rfl rfl
  intro v1 v2 h1 h2
  subst h1 h2
  have b := pb_le a k
  have hr : sG h 4801 = iI (al_w a).length := r.1
  by_cases c : k < (al_w a).length
  · simp (maxSteps := 3000000) (implicitDefEqProofs := false) (disch := omega) only [jl_e, jn_e, bd_e, gd_t, iI_add, iI_sub, iI_mul, iI_neg, if_true, if_false, not_true_eq_false, not_false_eq_true, Int.reduceEq, Nat.add_zero, Int.toNat_natCast, iI_cl, iI_lt, iI_eq, gd_in, bI_eq0, bI_eq1, bI_isB, isB_0, isB_1, il_0, il_1, il_2, il_3, il_4, il_5, il_6, il_7, il_8, il_9, il_10, il_12, il_16, il_18, il_24, il_27, il_30, il_31, il_32, il_40, il_47, il_48, il_49, il_55, il_56, il_57, il_59, il_63, il_64, il_96, il_97, il_98, il_99, il_101, il_103, il_104, il_105, il_108, il_109, il_110, il_111, il_112, il_114, il_115, il_116, il_117, il_119, il_122, il_127, il_128, il_200, il_225, il_255, il_256, il_999, il_1575, il_9999, il_65536, il_252645135, il_858993459, il_1431655765, c_earlierThan e (show k < 7 by omega), hr]
    rw [if_pos (by omega), ms_shl k (by omega), ms_not, c_bitCount (nd_128 (bm_7 _) _), bd_e, iI_add]
    exact ih c _ _ (iI_cg (by show ((pb_n a k : Nat) : Int) + _ = ((pb_n a k + _ : Nat) : Int); omega)) (iI_cg (by omega))
  · simp (maxSteps := 3000000) (implicitDefEqProofs := false) (disch := omega) only [jl_e, jn_e, bd_e, gd_t, iI_add, iI_sub, iI_mul, iI_neg, if_true, if_false, not_true_eq_false, not_false_eq_true, Int.reduceEq, Nat.add_zero, Int.toNat_natCast, iI_cl, iI_lt, iI_eq, gd_in, bI_eq0, bI_eq1, bI_isB, isB_0, isB_1, il_0, il_1, il_2, il_3, il_4, il_5, il_6, il_7, il_8, il_9, il_10, il_12, il_16, il_18, il_24, il_27, il_30, il_31, il_32, il_40, il_47, il_48, il_49, il_55, il_56, il_57, il_59, il_63, il_64, il_96, il_97, il_98, il_99, il_101, il_103, il_104, il_105, il_108, il_109, il_110, il_111, il_112, il_114, il_115, il_116, il_117, il_119, il_122, il_127, il_128, il_200, il_225, il_255, il_256, il_999, il_1575, il_9999, il_65536, il_252645135, il_858993459, il_1431655765, hr]
    rw [if_neg (by omega)]
    have ek : k = (al_w a).length := by omega
    rw [ek]
def sz_all (z : StZ) : Nat → Int
  | 0 => 0
  | k + 1 => sz_all z k + max 0 (z.1 k)
theorem sz_all_le {z : StZ} (ok : sz_ok z) : ∀ k : Nat, k ≤ 3 → 0 ≤ sz_all z k ∧ sz_all z k ≤ 8 * k
  | 0, _ => ⟨Int.le_refl 0, Int.le_refl 0⟩
  | k + 1, hk => by
    have := sz_all_le ok k (by omega)
    have := ok k (by omega)
    show 0 ≤ sz_all z k + max 0 (z.1 k) ∧ sz_all z k + max 0 (z.1 k) ≤ _
    omega
theorem c_allPlaces {h : Hp} {z : StZ} (q : StC h z) (ok : sz_ok z) : F_X8_allPlaces h = some (iI (sz_all z 3), h) := by
  unfold F_X8_allPlaces
  refine lp_up (α := Int32 → Int32 → Hp → Option (Int32 × Hp)) (P := fun k c8 => ∀ (v1 v2 : Int32), v1 = iI (sz_all z k) → v2 = iI k → c8 v1 v2 h = some (iI (sz_all z 3), h)) 3 (by omega) (fun k c8 hk ih => ?_) _ _ rfl rfl
  intro v1 v2 h1 h2
  subst h1 h2
  have b := sz_all_le ok k hk
  by_cases c : k < 3
  · have r := ok k c
    simp (maxSteps := 3000000) (implicitDefEqProofs := false) (disch := omega) only [jl_e, jn_e, bd_e, gd_t, iI_add, iI_sub, iI_mul, iI_neg, if_true, if_false, not_true_eq_false, not_false_eq_true, Int.reduceEq, Nat.add_zero, Int.toNat_natCast, iI_cl, iI_lt, iI_eq, gd_in, bI_eq0, bI_eq1, bI_isB, isB_0, isB_1, il_0, il_1, il_2, il_3, il_4, il_5, il_6, il_7, il_8, il_9, il_10, il_12, il_16, il_18, il_24, il_27, il_30, il_31, il_32, il_40, il_47, il_48, il_49, il_55, il_56, il_57, il_59, il_63, il_64, il_96, il_97, il_98, il_99, il_101, il_103, il_104, il_105, il_108, il_109, il_110, il_111, il_112, il_114, il_115, il_116, il_117, il_119, il_122, il_127, il_128, il_200, il_225, il_255, il_256, il_999, il_1575, il_9999, il_65536, il_252645135, il_858993459, il_1431655765, c_sizeOf q c]
    rw [if_pos (by omega), c_max (x := 0) (by omega) (by omega), bd_e, iI_add]
    exact ih c _ _ rfl (iI_cg (by omega))
  · simp (maxSteps := 3000000) (implicitDefEqProofs := false) (disch := omega) only [jl_e, jn_e, bd_e, gd_t, iI_add, iI_sub, iI_mul, iI_neg, if_true, if_false, not_true_eq_false, not_false_eq_true, Int.reduceEq, Nat.add_zero, Int.toNat_natCast, iI_cl, iI_lt, iI_eq, gd_in, bI_eq0, bI_eq1, bI_isB, isB_0, isB_1, il_0, il_1, il_2, il_3, il_4, il_5, il_6, il_7, il_8, il_9, il_10, il_12, il_16, il_18, il_24, il_27, il_30, il_31, il_32, il_40, il_47, il_48, il_49, il_55, il_56, il_57, il_59, il_63, il_64, il_96, il_97, il_98, il_99, il_101, il_103, il_104, il_105, il_108, il_109, il_110, il_111, il_112, il_114, il_115, il_116, il_117, il_119, il_122, il_127, il_128, il_200, il_225, il_255, il_256, il_999, il_1575, il_9999, il_65536, il_252645135, il_858993459, il_1431655765]
    rw [if_neg (by omega)]
    have ek : k = 3 := by omega
    rw [ek]
def A_count (s : Sta) (w : Int) : Int := if w = 0 then ((al_w (st_a s)).length : Int) else if w = 1 then ((al_k (st_a s)).length : Int) else if w = 2 then ((al_p (st_a s)).length : Int) else if w = 3 then (pb_n (st_a s) (al_w (st_a s)).length : Int) else if w = 4 then (al_n (st_a s) : Int) else if w = 5 then (al_g (st_a s) : Int) else if w = 6 then (al_l (st_a s) : Int) else if w = 7 then sz_all (st_z s) 3 else if w = 8 then ((st_h s).length : Int) else if w = 9 then ((st_t s).length : Int) else -3
theorem C_count {h : Hp} {s : Sta} (q : JC h s) {w : Int} (hw : -2147483648 ≤ w ∧ w < 2147483648) : ∃ h', F_X11_count (iI w) h = some (iI (A_count s w), h') ∧ JC h' s := by
  have hA := q.2.2.1
  have hs : SuC 4 h (al_n (st_a s)) (al_g (st_a s)) (al_l (st_a s)) := hA.2.2.2.1
  have hP : PcC 5 h (al_p (st_a s)) := hA.2.2.2.2.1
  have e0 : sG h 192 = iI (al_w (st_a s)).length := hA.2.1
  have e1 : sG h 193 = iI (al_k (st_a s)).length := hA.2.2.1
  have e2 : sG h 320 = iI (al_p (st_a s)).length := hP.2.1
  have e4 : sG h 256 = iI (al_n (st_a s)) := hs.1
  have e5 : sG h 257 = iI (al_g (st_a s)) := hs.2.1
  have e6 : sG h 258 = iI (al_l (st_a s)) := hs.2.2.1
  have e8 : sG h 1408 = iI (st_h s).length := q.2.2.2.1.1
  have e9 : sG h 64 = iI (st_t s).length := q.2.1.1
  unfold F_X11_count A_count
  simp (maxSteps := 3000000) (implicitDefEqProofs := false) (disch := omega) only [jl_e, jn_e, bd_e, gd_t, iI_add, iI_sub, iI_mul, iI_neg, if_true, if_false, not_true_eq_false, not_false_eq_true, Int.reduceEq, Nat.add_zero, Int.toNat_natCast, iI_cl, iI_lt, iI_eq, gd_in, bI_eq0, bI_eq1, bI_isB, isB_0, isB_1, il_0, il_1, il_2, il_3, il_4, il_5, il_6, il_7, il_8, il_9, il_10, il_12, il_16, il_18, il_24, il_27, il_30, il_31, il_32, il_40, il_47, il_48, il_49, il_55, il_56, il_57, il_59, il_63, il_64, il_96, il_97, il_98, il_99, il_101, il_103, il_104, il_105, il_108, il_109, il_110, il_111, il_112, il_114, il_115, il_116, il_117, il_119, il_122, il_127, il_128, il_200, il_225, il_255, il_256, il_999, il_1575, il_9999, il_65536, il_252645135, il_858993459, il_1431655765, e0, e1, e2, e4, e5, e6, e8, e9, c_allPlaces q.2.2.2.2.2.1 q.1.2.2.2.2]
  by_cases w3 : w = 3
  · subst w3
    obtain ⟨h1, f1, q1, rk⟩ := c_rulesNow q
    rw [if_neg (by decide), if_neg (by decide), if_neg (by decide), if_pos rfl, if_neg (by decide), if_neg (by decide), if_neg (by decide), if_pos rfl, f1, bd_e, c_pairsBefore hA.1.2.1 rk.2.1 rk.2.2, bd_e]
    exact ⟨h1, rfl, q1⟩
  · rw [if_neg w3]
    rw [if_neg w3]
    refine ⟨h, ?_, q⟩
    repeat' split
    all_goals first | rfl | (exfalso; omega)
