-- ===== the class's strips as calls =====
def sz_ok (z : StZ) : Prop := ∀ i, i < 3 → -1 ≤ z.1 i ∧ z.1 i ≤ 8
theorem c_has {x : Int} (hx : -2147483648 ≤ x ∧ x < 2147483648) (h : Hp) : F_X8_has (iI x) h = some (bI (0 ≤ x ∧ x < 3), h) := by
  unfold F_X8_has
  simp (maxSteps := 3000000) (implicitDefEqProofs := false) (disch := omega) only [jl_e, jn_e, bd_e, gd_t, iI_add, iI_sub, iI_mul, iI_neg, if_true, if_false, not_true_eq_false, not_false_eq_true, Int.reduceEq, Nat.add_zero, Int.toNat_natCast, iI_cl, iI_lt, iI_eq, gd_in, bI_eq0, bI_eq1, bI_isB, isB_0, isB_1, il_0, il_1, il_2, il_3, il_4, il_5, il_6, il_7, il_8, il_9, il_10, il_12, il_16, il_18, il_24, il_27, il_30, il_31, il_32, il_40, il_47, il_48, il_49, il_55, il_56, il_57, il_59, il_63, il_64, il_96, il_97, il_98, il_99, il_101, il_103, il_104, il_105, il_108, il_109, il_110, il_111, il_112, il_114, il_115, il_116, il_117, il_119, il_122, il_127, il_128, il_200, il_225, il_255, il_256, il_999, il_1575, il_9999, il_65536, il_252645135, il_858993459, il_1431655765]
  (repeat' split) <;> (try (first | rfl | (rw [bI_t (by omega)]) | (rw [bI_f (by omega)]) | (exfalso; omega) | (exact congrArg (fun z => some (iI z, _)) (by omega))))
theorem c_sizeOf {h : Hp} {z : StZ} (q : StC h z) {i : Nat} (hi : i < 3) : F_X8_sizeOf (iI i) h = some (iI (z.1 i), h) := by
  unfold F_X8_sizeOf
  simp (maxSteps := 3000000) (implicitDefEqProofs := false) (disch := omega) only [jl_e, jn_e, bd_e, gd_t, iI_add, iI_sub, iI_mul, iI_neg, if_true, if_false, not_true_eq_false, not_false_eq_true, Int.reduceEq, Nat.add_zero, Int.toNat_natCast, iI_cl, iI_lt, iI_eq, gd_in, bI_eq0, bI_eq1, bI_isB, isB_0, isB_1, il_0, il_1, il_2, il_3, il_4, il_5, il_6, il_7, il_8, il_9, il_10, il_12, il_16, il_18, il_24, il_27, il_30, il_31, il_32, il_40, il_47, il_48, il_49, il_55, il_56, il_57, il_59, il_63, il_64, il_96, il_97, il_98, il_99, il_101, il_103, il_104, il_105, il_108, il_109, il_110, il_111, il_112, il_114, il_115, il_116, il_117, il_119, il_122, il_127, il_128, il_200, il_225, il_255, il_256, il_999, il_1575, il_9999, il_65536, il_252645135, il_858993459, il_1431655765, c_has (show -2147483648 ≤ (i : Int) ∧ (i : Int) < 2147483648 by omega), q.1 i hi]
  rw [if_neg (by omega)]
theorem c_isMissing {h : Hp} {z : StZ} (q : StC h z) (ok : sz_ok z) {i : Nat} (hi : i < 3) : F_X8_isMissing (iI i) h = some (bI (z.1 i = -1), h) := by
  have r := ok i hi
  unfold F_X8_isMissing
  simp (maxSteps := 3000000) (implicitDefEqProofs := false) (disch := omega) only [jl_e, jn_e, bd_e, gd_t, iI_add, iI_sub, iI_mul, iI_neg, if_true, if_false, not_true_eq_false, not_false_eq_true, Int.reduceEq, Nat.add_zero, Int.toNat_natCast, iI_cl, iI_lt, iI_eq, gd_in, bI_eq0, bI_eq1, bI_isB, isB_0, isB_1, il_0, il_1, il_2, il_3, il_4, il_5, il_6, il_7, il_8, il_9, il_10, il_12, il_16, il_18, il_24, il_27, il_30, il_31, il_32, il_40, il_47, il_48, il_49, il_55, il_56, il_57, il_59, il_63, il_64, il_96, il_97, il_98, il_99, il_101, il_103, il_104, il_105, il_108, il_109, il_110, il_111, il_112, il_114, il_115, il_116, il_117, il_119, il_122, il_127, il_128, il_200, il_225, il_255, il_256, il_999, il_1575, il_9999, il_65536, il_252645135, il_858993459, il_1431655765, c_sizeOf q hi]
  (repeat' split) <;> (try (first | rfl | (rw [bI_t (by omega)]) | (rw [bI_f (by omega)]) | (exfalso; omega) | (exact congrArg (fun z => some (iI z, _)) (by omega))))
theorem c_hasPlace {h : Hp} {z : StZ} (q : StC h z) (ok : sz_ok z) {i : Nat} (hi : i < 3) {j : Int} (hj : -2147483648 ≤ j ∧ j < 2147483648) : F_X8_hasPlace (iI i) (iI j) h = some (bI (0 ≤ j ∧ j < z.1 i), h) := by
  have r := ok i hi
  unfold F_X8_hasPlace
  simp (maxSteps := 3000000) (implicitDefEqProofs := false) (disch := omega) only [jl_e, jn_e, bd_e, gd_t, iI_add, iI_sub, iI_mul, iI_neg, if_true, if_false, not_true_eq_false, not_false_eq_true, Int.reduceEq, Nat.add_zero, Int.toNat_natCast, iI_cl, iI_lt, iI_eq, gd_in, bI_eq0, bI_eq1, bI_isB, isB_0, isB_1, il_0, il_1, il_2, il_3, il_4, il_5, il_6, il_7, il_8, il_9, il_10, il_12, il_16, il_18, il_24, il_27, il_30, il_31, il_32, il_40, il_47, il_48, il_49, il_55, il_56, il_57, il_59, il_63, il_64, il_96, il_97, il_98, il_99, il_101, il_103, il_104, il_105, il_108, il_109, il_110, il_111, il_112, il_114, il_115, il_116, il_117, il_119, il_122, il_127, il_128, il_200, il_225, il_255, il_256, il_999, il_1575, il_9999, il_65536, il_252645135, il_858993459, il_1431655765, c_sizeOf q hi]
  (repeat' split) <;> (try (first | rfl | (rw [bI_t (by omega)]) | (rw [bI_f (by omega)]) | (exfalso; omega) | (exact congrArg (fun z => some (iI z, _)) (by omega))))
theorem c_at {h : Hp} {z : StZ} (q : StC h z) (ok : sz_ok z) {i j : Nat} (hi : i < 3) (hj : (j : Int) < z.1 i) : F_X8_at (iI i) (iI j) h = some (z.2.1 i j, h) := by
  have r := ok i hi
  unfold F_X8_at
  simp (maxSteps := 3000000) (implicitDefEqProofs := false) (disch := omega) only [jl_e, jn_e, bd_e, gd_t, iI_add, iI_sub, iI_mul, iI_neg, if_true, if_false, not_true_eq_false, not_false_eq_true, Int.reduceEq, Nat.add_zero, Int.toNat_natCast, iI_cl, iI_lt, iI_eq, gd_in, bI_eq0, bI_eq1, bI_isB, isB_0, isB_1, il_0, il_1, il_2, il_3, il_4, il_5, il_6, il_7, il_8, il_9, il_10, il_12, il_16, il_18, il_24, il_27, il_30, il_31, il_32, il_40, il_47, il_48, il_49, il_55, il_56, il_57, il_59, il_63, il_64, il_96, il_97, il_98, il_99, il_101, il_103, il_104, il_105, il_108, il_109, il_110, il_111, il_112, il_114, il_115, il_116, il_117, il_119, il_122, il_127, il_128, il_200, il_225, il_255, il_256, il_999, il_1575, il_9999, il_65536, il_252645135, il_858993459, il_1431655765, c_hasPlace q ok hi (show -2147483648 ≤ (j : Int) ∧ (j : Int) < 2147483648 by omega)]
  rw [if_neg (by omega)]
  rw [show ((i : Int) * 8 + (j : Int)).toNat = 8 * i + j by omega, q.2.1 i j hi (by omega) hj]
def sz_put (z : StZ) (i j : Nat) (v : Int64) : StZ := (z.1, fun a b => if a = i ∧ b = j then v else z.2.1 a b, z.2.2)
theorem c_sput {h : Hp} {z : StZ} (q : StC h z) (ok : sz_ok z) {i j : Nat} (hi : i < 3) (hj : (j : Int) < z.1 i) (v : Int64) : ∃ h', F_X8_put (iI i) (iI j) v h = some ((), h') ∧ StC h' (sz_put z i j v) := by
  have r := ok i hi
  unfold F_X8_put
  simp (maxSteps := 3000000) (implicitDefEqProofs := false) (disch := omega) only [jl_e, jn_e, bd_e, gd_t, iI_add, iI_sub, iI_mul, iI_neg, if_true, if_false, not_true_eq_false, not_false_eq_true, Int.reduceEq, Nat.add_zero, Int.toNat_natCast, iI_cl, iI_lt, iI_eq, gd_in, bI_eq0, bI_eq1, bI_isB, isB_0, isB_1, il_0, il_1, il_2, il_3, il_4, il_5, il_6, il_7, il_8, il_9, il_10, il_12, il_16, il_18, il_24, il_27, il_30, il_31, il_32, il_40, il_47, il_48, il_49, il_55, il_56, il_57, il_59, il_63, il_64, il_96, il_97, il_98, il_99, il_101, il_103, il_104, il_105, il_108, il_109, il_110, il_111, il_112, il_114, il_115, il_116, il_117, il_119, il_122, il_127, il_128, il_200, il_225, il_255, il_256, il_999, il_1575, il_9999, il_65536, il_252645135, il_858993459, il_1431655765, c_hasPlace q ok hi (show -2147483648 ≤ (j : Int) ∧ (j : Int) < 2147483648 by omega)]
  rw [if_neg (by omega), show ((i : Int) * 8 + (j : Int)).toNat = 8 * i + j by omega]
  refine ⟨_, rfl, fun a ha => ?_, fun a b ha hb hz => ?_, ?_⟩
  · simp (maxSteps := 3000000) (implicitDefEqProofs := false) (disch := omega) only [jl_e, jn_e, bd_e, gd_t, iI_add, iI_sub, iI_mul, iI_neg, if_true, if_false, not_true_eq_false, not_false_eq_true, Int.reduceEq, Nat.add_zero, Int.toNat_natCast, iI_cl, iI_lt, iI_eq, gd_in, bI_eq0, bI_eq1, bI_isB, isB_0, isB_1, il_0, il_1, il_2, il_3, il_4, il_5, il_6, il_7, il_8, il_9, il_10, il_12, il_16, il_18, il_24, il_27, il_30, il_31, il_32, il_40, il_47, il_48, il_49, il_55, il_56, il_57, il_59, il_63, il_64, il_96, il_97, il_98, il_99, il_101, il_103, il_104, il_105, il_108, il_109, il_110, il_111, il_112, il_114, il_115, il_116, il_117, il_119, il_122, il_127, il_128, il_200, il_225, il_255, il_256, il_999, il_1575, il_9999, il_65536, il_252645135, il_858993459, il_1431655765, aG_aS_s, aG_aS_j, aG_aS_k, aG_aV_s, aG_aV_k, aG_sS, aG_lS, aG_lV, aG_tS, aG_oS, sG_aS, sG_lS, sG_aV, sG_lV, sG_tS, sG_oS, sG_sS_s, sG_sS_n, lG_lS_s, lG_lS_j, lG_lS_k, lG_lV_s, lG_lV_k, lG_sS, lG_aS, lG_aV, lG_tS, lG_oS, tG_sS, tG_aS, tG_aV, tG_lS, tG_lV, tG_tS_s, tG_tS_n, oG_sS, oG_aS, oG_aV, oG_lS, oG_lV, oG_oS_s]
    exact q.1 a ha
  · show lG _ 116 (8 * a + b) = if a = i ∧ b = j then v else z.2.1 a b
    by_cases c : a = i ∧ b = j
    · rw [if_pos c, c.1, c.2, lG_lS_s]
    · rw [if_neg c, lG_lS_j (by omega)]
      exact q.2.1 a b ha hb hz
  · simp (maxSteps := 3000000) (implicitDefEqProofs := false) (disch := omega) only [jl_e, jn_e, bd_e, gd_t, iI_add, iI_sub, iI_mul, iI_neg, if_true, if_false, not_true_eq_false, not_false_eq_true, Int.reduceEq, Nat.add_zero, Int.toNat_natCast, iI_cl, iI_lt, iI_eq, gd_in, bI_eq0, bI_eq1, bI_isB, isB_0, isB_1, il_0, il_1, il_2, il_3, il_4, il_5, il_6, il_7, il_8, il_9, il_10, il_12, il_16, il_18, il_24, il_27, il_30, il_31, il_32, il_40, il_47, il_48, il_49, il_55, il_56, il_57, il_59, il_63, il_64, il_96, il_97, il_98, il_99, il_101, il_103, il_104, il_105, il_108, il_109, il_110, il_111, il_112, il_114, il_115, il_116, il_117, il_119, il_122, il_127, il_128, il_200, il_225, il_255, il_256, il_999, il_1575, il_9999, il_65536, il_252645135, il_858993459, il_1431655765, aG_aS_s, aG_aS_j, aG_aS_k, aG_aV_s, aG_aV_k, aG_sS, aG_lS, aG_lV, aG_tS, aG_oS, sG_aS, sG_lS, sG_aV, sG_lV, sG_tS, sG_oS, sG_sS_s, sG_sS_n, lG_lS_s, lG_lS_j, lG_lS_k, lG_lV_s, lG_lV_k, lG_sS, lG_aS, lG_aV, lG_tS, lG_oS, tG_sS, tG_aS, tG_aV, tG_lS, tG_lV, tG_tS_s, tG_tS_n, oG_sS, oG_aS, oG_aV, oG_lS, oG_lV, oG_oS_s]
    exact q.2.2
def N_z (s : Sta) (z : StZ) : Sta := (st_t s, st_a s, st_h s, st_k s, z)
theorem JC.z {h h' : Hp} {s : Sta} {z : StZ} {S A : List Nat} (q : JC h s) (f : FrX S A h h') (n0 : ∀ v, v ∈ S → v = 7296) (n1 : ∀ k, k ∈ A → k = 115 ∨ k = 116) (hz : StC h' z) (ok : sz_ok z) : JC h' (N_z s z) := by
  obtain ⟨q0, q1, q2, q3, q4, -, q6⟩ := q
  refine ⟨⟨q0.1, q0.2.1, q0.2.2.1, q0.2.2.2.1, ok⟩, ?_, ?_, ?_, ?_, hz, ?_⟩
  · exact q1.fr f (fun z => by have := n0 _ z; omega) (fun z => by have := n1 _ z; omega)
  · exact q2.fr f (fun v z => by have := n0 _ z; omega) (fun k z => by have := n1 _ z; omega)
  · exact q3.fr f (fun v z => by have := n0 _ z; omega) (fun k z => by have := n1 _ z; omega)
  · exact q4.fr f (fun v z => by have := n0 _ z; omega) (fun k z => by have := n1 _ z; omega)
  · exact q6.fr f (fun v z => by have := n0 _ z; omega) (fun k z => by have := n1 _ z; omega)
theorem N_z_self (s : Sta) : N_z s (st_z s) = s := rfl
def Z_strip (z : StZ) (i n : Nat) : StZ := (fun a => if a = i then (n : Int) else z.1 a, fun a b => if a = i then 0 else z.2.1 a b, z.2.2)
def A_strip (x n : Int) : Int := if 0 ≤ x ∧ x < 3 then (if 8 < n then -3 else if n < 0 then -13 else n) else -2
def N_strip (s : Sta) (x n : Int) : Sta := if (0 ≤ x ∧ x < 3) ∧ 0 ≤ n ∧ n ≤ 8 then N_z s (Z_strip (st_z s) x.toNat n.toNat) else s
theorem C_strip {h : Hp} {s : Sta} (q : JC h s) {x n : Int} (hx : -2147483648 ≤ x ∧ x < 2147483648) (hn : -2147483648 ≤ n ∧ n < 2147483648) : ∃ h', F_X11_strip (iI x) (iI n) h = some (iI (A_strip x n), h') ∧ JC h' (N_strip s x n) := by
  have ok : sz_ok (st_z s) := q.1.2.2.2.2
  have hz := q.2.2.2.2.2.1
  unfold F_X11_strip A_strip N_strip
  rw [c_has hx, bd_e]
  by_cases c : 0 ≤ x ∧ x < 3
  · rw [if_neg (by rw [bI_zero]; exact fun z => z c), if_pos c]
    by_cases d : 0 ≤ n ∧ n ≤ 8
    · obtain ⟨i, ei, hi⟩ := rg_of hx (n := 3) c
      obtain ⟨m, em⟩ : ∃ m : Nat, n = m := ⟨n.toNat, by omega⟩
      subst ei em
      rw [if_pos (show (0 ≤ (i : Int) ∧ (i : Int) < 3) ∧ 0 ≤ (m : Int) ∧ (m : Int) ≤ 8 from ⟨c, d⟩), Int.toNat_natCast, Int.toNat_natCast]
      have key : ∃ h', F_X8_renew (iI i) (iI m) h = some ((), h') ∧ StC h' (Z_strip (st_z s) i m) := by
        unfold F_X8_renew
        simp (maxSteps := 3000000) (implicitDefEqProofs := false) (disch := omega) only [jl_e, jn_e, bd_e, gd_t, iI_add, iI_sub, iI_mul, iI_neg, if_true, if_false, not_true_eq_false, not_false_eq_true, Int.reduceEq, Nat.add_zero, Int.toNat_natCast, iI_cl, iI_lt, iI_eq, gd_in, bI_eq0, bI_eq1, bI_isB, isB_0, isB_1, il_0, il_1, il_2, il_3, il_4, il_5, il_6, il_7, il_8, il_9, il_10, il_12, il_16, il_18, il_24, il_27, il_30, il_31, il_32, il_40, il_47, il_48, il_49, il_55, il_56, il_57, il_59, il_63, il_64, il_96, il_97, il_98, il_99, il_101, il_103, il_104, il_105, il_108, il_109, il_110, il_111, il_112, il_114, il_115, il_116, il_117, il_119, il_122, il_127, il_128, il_200, il_225, il_255, il_256, il_999, il_1575, il_9999, il_65536, il_252645135, il_858993459, il_1431655765, c_has hx]
        rw [if_neg (by omega), if_neg (by omega), if_neg (by omega)]
        refine lp_up (α := Int32 → Hp → Option (Unit × Hp)) (P := fun k c8 => ∀ (v : Int32) (h1 : Hp), v = iI k → (∀ a, a < 3 → aG h1 115 a = iI (if a = i then (m : Int) else (st_z s).1 a)) → (∀ a b : Nat, a < 3 → b < 8 → (a = i → b < k) → (a ≠ i → (b : Int) < (st_z s).1 a) → lG h1 116 (8 * a + b) = if a = i then 0 else (st_z s).2.1 a b) → tG h1 7296 = (st_z s).2.2 → ∃ h', c8 v h1 = some ((), h') ∧ StC h' (Z_strip (st_z s) i m)) m (by omega) (fun k c8 hk ih => ?_) _ _ rfl (fun a ha => ?_) (fun a b ha hb h1 h2 => ?_) ?_
        · intro v h1 hv i1 i2 i3
          subst hv
          by_cases z : k < m
          · have qz : StC h1 (fun a => if a = i then (m : Int) else (st_z s).1 a, fun a b => lG h1 116 (8 * a + b), (st_z s).2.2) := ⟨i1, fun _ _ _ _ _ => rfl, i3⟩
            have okz : sz_ok (fun a => if a = i then (m : Int) else (st_z s).1 a, fun a b => lG h1 116 (8 * a + b), (st_z s).2.2) := by
              intro a ha
              have := ok a ha
              show -1 ≤ (if a = i then (m : Int) else (st_z s).1 a) ∧ (if a = i then (m : Int) else (st_z s).1 a) ≤ 8
              split <;> omega
            obtain ⟨h2, e2, q2⟩ := c_sput qz okz hi (j := k) (by show (k : Int) < (if i = i then (m : Int) else (st_z s).1 i); rw [if_pos rfl]; omega) 0
            have hv2 : ∀ a b : Nat, a < 3 → b < 8 → ¬ (a = i ∧ b = k) → lG h2 116 (8 * a + b) = lG h1 116 (8 * a + b) := by
              intro a b ha hb hne
              have f := fr_X8_put _ _ _ _ _ _ e2
              unfold F_X8_put at e2
              rw [c_hasPlace qz okz hi (show -2147483648 ≤ (k : Int) ∧ (k : Int) < 2147483648 by omega), bd_e, jn_e, if_neg (by rw [bI_zero]; exact fun w => w ⟨by omega, by show (k : Int) < (if i = i then (m : Int) else (st_z s).1 i); rw [if_pos rfl]; omega⟩)] at e2
              simp (disch := omega) only [iI_mul, iI_add, gd_in, iI_cl, il_8, jl_e] at e2
              have e3 := (Prod.mk.inj (Option.some.inj e2)).2
              rw [← e3, lG_lS_j (by omega)]
            simp (maxSteps := 3000000) (implicitDefEqProofs := false) (disch := omega) only [jl_e, jn_e, bd_e, gd_t, iI_add, iI_sub, iI_mul, iI_neg, if_true, if_false, not_true_eq_false, not_false_eq_true, Int.reduceEq, Nat.add_zero, Int.toNat_natCast, iI_cl, iI_lt, iI_eq, gd_in, bI_eq0, bI_eq1, bI_isB, isB_0, isB_1, il_0, il_1, il_2, il_3, il_4, il_5, il_6, il_7, il_8, il_9, il_10, il_12, il_16, il_18, il_24, il_27, il_30, il_31, il_32, il_40, il_47, il_48, il_49, il_55, il_56, il_57, il_59, il_63, il_64, il_96, il_97, il_98, il_99, il_101, il_103, il_104, il_105, il_108, il_109, il_110, il_111, il_112, il_114, il_115, il_116, il_117, il_119, il_122, il_127, il_128, il_200, il_225, il_255, il_256, il_999, il_1575, il_9999, il_65536, il_252645135, il_858993459, il_1431655765, e2]
            rw [if_pos (by omega)]
            refine ih z _ h2 (iI_cg (by omega)) q2.1 (fun a b ha hb g1 g2 => ?_) q2.2.2
            by_cases u : a = i ∧ b = k
            · rw [if_pos u.1]
              have := q2.2.1 a b ha hb (by show (b : Int) < (if a = i then (m : Int) else (st_z s).1 a); rw [if_pos u.1]; omega)
              rw [this]
              show (if a = i ∧ b = k then (0 : Int64) else _) = 0
              rw [if_pos u]
            · rw [hv2 a b ha hb u]
              exact i2 a b ha hb (fun w => by have := g1 w; omega) g2
          · simp (maxSteps := 3000000) (implicitDefEqProofs := false) (disch := omega) only [jl_e, jn_e, bd_e, gd_t, iI_add, iI_sub, iI_mul, iI_neg, if_true, if_false, not_true_eq_false, not_false_eq_true, Int.reduceEq, Nat.add_zero, Int.toNat_natCast, iI_cl, iI_lt, iI_eq, gd_in, bI_eq0, bI_eq1, bI_isB, isB_0, isB_1, il_0, il_1, il_2, il_3, il_4, il_5, il_6, il_7, il_8, il_9, il_10, il_12, il_16, il_18, il_24, il_27, il_30, il_31, il_32, il_40, il_47, il_48, il_49, il_55, il_56, il_57, il_59, il_63, il_64, il_96, il_97, il_98, il_99, il_101, il_103, il_104, il_105, il_108, il_109, il_110, il_111, il_112, il_114, il_115, il_116, il_117, il_119, il_122, il_127, il_128, il_200, il_225, il_255, il_256, il_999, il_1575, il_9999, il_65536, il_252645135, il_858993459, il_1431655765]
            rw [if_neg (by omega)]
            refine ⟨h1, rfl, i1, fun a b ha hb hz => ?_, i3⟩
            have hz' : (b : Int) < (if a = i then (m : Int) else (st_z s).1 a) := hz
            exact i2 a b ha hb (fun w => by rw [if_pos w] at hz'; omega) (fun w => by rw [if_neg w] at hz'; exact hz')
        · by_cases u : a = i
          · subst u
            rw [if_pos rfl]
            simp (maxSteps := 3000000) (implicitDefEqProofs := false) (disch := omega) only [jl_e, jn_e, bd_e, gd_t, iI_add, iI_sub, iI_mul, iI_neg, if_true, if_false, not_true_eq_false, not_false_eq_true, Int.reduceEq, Nat.add_zero, Int.toNat_natCast, iI_cl, iI_lt, iI_eq, gd_in, bI_eq0, bI_eq1, bI_isB, isB_0, isB_1, il_0, il_1, il_2, il_3, il_4, il_5, il_6, il_7, il_8, il_9, il_10, il_12, il_16, il_18, il_24, il_27, il_30, il_31, il_32, il_40, il_47, il_48, il_49, il_55, il_56, il_57, il_59, il_63, il_64, il_96, il_97, il_98, il_99, il_101, il_103, il_104, il_105, il_108, il_109, il_110, il_111, il_112, il_114, il_115, il_116, il_117, il_119, il_122, il_127, il_128, il_200, il_225, il_255, il_256, il_999, il_1575, il_9999, il_65536, il_252645135, il_858993459, il_1431655765, aG_aS_s, aG_aS_j, aG_aS_k, aG_aV_s, aG_aV_k, aG_sS, aG_lS, aG_lV, aG_tS, aG_oS, sG_aS, sG_lS, sG_aV, sG_lV, sG_tS, sG_oS, sG_sS_s, sG_sS_n, lG_lS_s, lG_lS_j, lG_lS_k, lG_lV_s, lG_lV_k, lG_sS, lG_aS, lG_aV, lG_tS, lG_oS, tG_sS, tG_aS, tG_aV, tG_lS, tG_lV, tG_tS_s, tG_tS_n, oG_sS, oG_aS, oG_aV, oG_lS, oG_lV, oG_oS_s]
          · rw [if_neg u]
            simp (maxSteps := 3000000) (implicitDefEqProofs := false) (disch := omega) only [jl_e, jn_e, bd_e, gd_t, iI_add, iI_sub, iI_mul, iI_neg, if_true, if_false, not_true_eq_false, not_false_eq_true, Int.reduceEq, Nat.add_zero, Int.toNat_natCast, iI_cl, iI_lt, iI_eq, gd_in, bI_eq0, bI_eq1, bI_isB, isB_0, isB_1, il_0, il_1, il_2, il_3, il_4, il_5, il_6, il_7, il_8, il_9, il_10, il_12, il_16, il_18, il_24, il_27, il_30, il_31, il_32, il_40, il_47, il_48, il_49, il_55, il_56, il_57, il_59, il_63, il_64, il_96, il_97, il_98, il_99, il_101, il_103, il_104, il_105, il_108, il_109, il_110, il_111, il_112, il_114, il_115, il_116, il_117, il_119, il_122, il_127, il_128, il_200, il_225, il_255, il_256, il_999, il_1575, il_9999, il_65536, il_252645135, il_858993459, il_1431655765, aG_aS_s, aG_aS_j, aG_aS_k, aG_aV_s, aG_aV_k, aG_sS, aG_lS, aG_lV, aG_tS, aG_oS, sG_aS, sG_lS, sG_aV, sG_lV, sG_tS, sG_oS, sG_sS_s, sG_sS_n, lG_lS_s, lG_lS_j, lG_lS_k, lG_lV_s, lG_lV_k, lG_sS, lG_aS, lG_aV, lG_tS, lG_oS, tG_sS, tG_aS, tG_aV, tG_lS, tG_lV, tG_tS_s, tG_tS_n, oG_sS, oG_aS, oG_aV, oG_lS, oG_lV, oG_oS_s]
            exact hz.1 a ha
        · have u : ¬ a = i := fun w => absurd (h1 w) (Nat.not_lt_zero _)
          rw [if_neg u]
          simp (maxSteps := 3000000) (implicitDefEqProofs := false) (disch := omega) only [jl_e, jn_e, bd_e, gd_t, iI_add, iI_sub, iI_mul, iI_neg, if_true, if_false, not_true_eq_false, not_false_eq_true, Int.reduceEq, Nat.add_zero, Int.toNat_natCast, iI_cl, iI_lt, iI_eq, gd_in, bI_eq0, bI_eq1, bI_isB, isB_0, isB_1, il_0, il_1, il_2, il_3, il_4, il_5, il_6, il_7, il_8, il_9, il_10, il_12, il_16, il_18, il_24, il_27, il_30, il_31, il_32, il_40, il_47, il_48, il_49, il_55, il_56, il_57, il_59, il_63, il_64, il_96, il_97, il_98, il_99, il_101, il_103, il_104, il_105, il_108, il_109, il_110, il_111, il_112, il_114, il_115, il_116, il_117, il_119, il_122, il_127, il_128, il_200, il_225, il_255, il_256, il_999, il_1575, il_9999, il_65536, il_252645135, il_858993459, il_1431655765, aG_aS_s, aG_aS_j, aG_aS_k, aG_aV_s, aG_aV_k, aG_sS, aG_lS, aG_lV, aG_tS, aG_oS, sG_aS, sG_lS, sG_aV, sG_lV, sG_tS, sG_oS, sG_sS_s, sG_sS_n, lG_lS_s, lG_lS_j, lG_lS_k, lG_lV_s, lG_lV_k, lG_sS, lG_aS, lG_aV, lG_tS, lG_oS, tG_sS, tG_aS, tG_aV, tG_lS, tG_lV, tG_tS_s, tG_tS_n, oG_sS, oG_aS, oG_aV, oG_lS, oG_lV, oG_oS_s]
          exact hz.2.1 a b ha hb (h2 u)
        · simp (maxSteps := 3000000) (implicitDefEqProofs := false) (disch := omega) only [jl_e, jn_e, bd_e, gd_t, iI_add, iI_sub, iI_mul, iI_neg, if_true, if_false, not_true_eq_false, not_false_eq_true, Int.reduceEq, Nat.add_zero, Int.toNat_natCast, iI_cl, iI_lt, iI_eq, gd_in, bI_eq0, bI_eq1, bI_isB, isB_0, isB_1, il_0, il_1, il_2, il_3, il_4, il_5, il_6, il_7, il_8, il_9, il_10, il_12, il_16, il_18, il_24, il_27, il_30, il_31, il_32, il_40, il_47, il_48, il_49, il_55, il_56, il_57, il_59, il_63, il_64, il_96, il_97, il_98, il_99, il_101, il_103, il_104, il_105, il_108, il_109, il_110, il_111, il_112, il_114, il_115, il_116, il_117, il_119, il_122, il_127, il_128, il_200, il_225, il_255, il_256, il_999, il_1575, il_9999, il_65536, il_252645135, il_858993459, il_1431655765, aG_aS_s, aG_aS_j, aG_aS_k, aG_aV_s, aG_aV_k, aG_sS, aG_lS, aG_lV, aG_tS, aG_oS, sG_aS, sG_lS, sG_aV, sG_lV, sG_tS, sG_oS, sG_sS_s, sG_sS_n, lG_lS_s, lG_lS_j, lG_lS_k, lG_lV_s, lG_lV_k, lG_sS, lG_aS, lG_aV, lG_tS, lG_oS, tG_sS, tG_aS, tG_aV, tG_lS, tG_lV, tG_tS_s, tG_tS_n, oG_sS, oG_aS, oG_aV, oG_lS, oG_lV, oG_oS_s]
          exact hz.2.2
      obtain ⟨h', e1, e2⟩ := key
      have f := fr_X8_renew _ _ _ _ _ e1
      refine ⟨h', ?_, q.z f (by decide) (by decide) e2 ?_⟩
      · simp (maxSteps := 3000000) (implicitDefEqProofs := false) (disch := omega) only [jl_e, jn_e, bd_e, gd_t, iI_add, iI_sub, iI_mul, iI_neg, if_true, if_false, not_true_eq_false, not_false_eq_true, Int.reduceEq, Nat.add_zero, Int.toNat_natCast, iI_cl, iI_lt, iI_eq, gd_in, bI_eq0, bI_eq1, bI_isB, isB_0, isB_1, il_0, il_1, il_2, il_3, il_4, il_5, il_6, il_7, il_8, il_9, il_10, il_12, il_16, il_18, il_24, il_27, il_30, il_31, il_32, il_40, il_47, il_48, il_49, il_55, il_56, il_57, il_59, il_63, il_64, il_96, il_97, il_98, il_99, il_101, il_103, il_104, il_105, il_108, il_109, il_110, il_111, il_112, il_114, il_115, il_116, il_117, il_119, il_122, il_127, il_128, il_200, il_225, il_255, il_256, il_999, il_1575, il_9999, il_65536, il_252645135, il_858993459, il_1431655765, e1]
        rw [if_neg (by omega), if_neg (by omega), if_neg (by omega), if_neg (by omega)]
      · intro a ha
        have := ok a ha
        show -1 ≤ (if a = i then (m : Int) else (st_z s).1 a) ∧ (if a = i then (m : Int) else (st_z s).1 a) ≤ 8
        split <;> omega
    · rw [if_neg (show ¬ ((0 ≤ x ∧ x < 3) ∧ 0 ≤ n ∧ n ≤ 8) from fun w => d w.2)]
      refine ⟨h, ?_, q⟩
      simp (maxSteps := 3000000) (implicitDefEqProofs := false) (disch := omega) only [jl_e, jn_e, bd_e, gd_t, iI_add, iI_sub, iI_mul, iI_neg, if_true, if_false, not_true_eq_false, not_false_eq_true, Int.reduceEq, Nat.add_zero, Int.toNat_natCast, iI_cl, iI_lt, iI_eq, gd_in, bI_eq0, bI_eq1, bI_isB, isB_0, isB_1, il_0, il_1, il_2, il_3, il_4, il_5, il_6, il_7, il_8, il_9, il_10, il_12, il_16, il_18, il_24, il_27, il_30, il_31, il_32, il_40, il_47, il_48, il_49, il_55, il_56, il_57, il_59, il_63, il_64, il_96, il_97, il_98, il_99, il_101, il_103, il_104, il_105, il_108, il_109, il_110, il_111, il_112, il_114, il_115, il_116, il_117, il_119, il_122, il_127, il_128, il_200, il_225, il_255, il_256, il_999, il_1575, il_9999, il_65536, il_252645135, il_858993459, il_1431655765]
      by_cases e : 8 < n
      · rw [if_pos e, if_pos e]
      · rw [if_neg e, if_neg e, if_pos (by omega), if_pos (by omega)]
        rfl
  · rw [if_pos (by rw [bI_zero]; exact c), if_neg c, if_neg (fun w => c w.1)]
    exact ⟨h, rfl, q⟩
