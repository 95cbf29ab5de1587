-- ===== the class's Hours, sought =====
theorem ro_l_mono (w : Nat → Bool) {e e' : Nat} (h : e ≤ e') : ro_l w e ≤ ro_l w e' := by
  rcases Nat.eq_zero_or_pos (ro_l w e) with z | z
  · omega
  · have h1 := ro_l_yes w e z
    have h2 := ro_l_le w e
    have := ro_l_max w e' (ro_l w e - 1) (by omega) h1
    omega
theorem ro_l_congr {w w' : Nat → Bool} : ∀ {e : Nat}, (∀ s, s < e → w s = w' s) → ro_l w e = ro_l w' e
  | 0, _ => rfl
  | e + 1, h => by
    unfold ro_l
    rw [h e (by omega), ro_l_congr (fun s hs => h s (by omega))]
theorem ro_l_cut (w : Nat → Bool) {e N : Nat} (h : e ≤ N) : ro_l (fun s => decide (s < e) && w s) N = ro_l w e := by
  apply Nat.le_antisymm
  · rcases Nat.eq_zero_or_pos (ro_l (fun s => decide (s < e) && w s) N) with z | z
    · omega
    · have h1 := ro_l_yes _ N z
      rw [Bool.and_eq_true, decide_eq_true_iff] at h1
      have := ro_l_max w e _ h1.1 h1.2
      omega
  · rcases Nat.eq_zero_or_pos (ro_l w e) with z | z
    · omega
    · have h1 := ro_l_yes w e z
      have h2 := ro_l_le w e
      have := ro_l_max (fun s => decide (s < e) && w s) N (ro_l w e - 1) (by omega) (by rw [h1, decide_eq_true (by omega)]; rfl)
      omega
/-- what seekBetween finds for a picture behind a set -/
def sx_b (a : RA) (p lo hi s : Nat) : Bool := decide (s < 48) && (ro_w a.2 p s && (decide (lo ≤ s) && decide (s + 2 ≤ hi)))
def mv_ok (t : Nat) (h : Hp) (mv : Nat → Nat) : Prop := ∀ A, A < 128 → aG h (t + 2) A = iI ((mv A : Int) - 1)
theorem lL_shl (n : Nat) {l : Nat} (hl : l < 64) : lN n <<< ((iI (l : Int)).toInt64 &&& 63) = lN (n * 2 ^ l) := by
  rw [← nI_iI]
  exact wb_shl n hl
theorem lL_shr {n l : Nat} (hn : n < 2 ^ 64) (hl : l < 64) : ((lN n).toUInt64 >>> ((iI (l : Int)).toInt64.toUInt64 &&& Int64.toUInt64 63)).toInt64 = lN (n / 2 ^ l) := by
  rw [← nI_iI]
  exact wb_shr hn hl
theorem c_seekBetween {t b : Nat} {h : Hp} {a : RA} (q : RuR b h a) (hnp : a.1 ≤ 7) {A p x lo hi lf pl : Nat} (hA : A < 128) (hp : p < a.1) (hx : A ||| 2 ^ p < 128) (hne : A ≠ A ||| 2 ^ p) (m1 : aG h (t + 2) A = iI ((x : Int) - 1)) (hx49 : x ≤ 49) (m2 : aG h (t + 2) (A ||| 2 ^ p) = iI ((hi : Int) - 1)) (hhi : hi ≤ 49) (m3 : aG h (t + 1) A = iI lo) (hlo : lo ≤ 49) (m4 : lG h (t + 3) p = lN lf) (m5 : aG h (t + 4) p = iI pl) : ∃ h', F_X3_seekBetween t b (iI A) (iI p) h = some ((), h') ∧ (∀ B, aG h' (t + 2) B = if B = A then iI (((if x ≤ ro_l (ro_w a.2 p) (hi - 1) then ro_l (ro_w a.2 p) (hi - 1) else x : Nat) : Int) - 1) else aG h (t + 2) B) ∧ (∀ i, lG h' (t + 3) i = if i = p then lN (lf ||| bm (sx_b a p lo hi) 48) else lG h (t + 3) i) ∧ (∀ i, aG h' (t + 4) i = if i = p then iI (if bm (sx_b a p lo hi) 48 = 0 then pl else pl ||| 2 ^ ro_ct A : Nat) else aG h (t + 4) i) := by
  have hll := ro_l_le (ro_w a.2 p) (hi - 1)
  have hct := ro_ct_le A hA
  have e0 : hi = 0 → bm (sx_b a p lo hi) 48 = 0 := by
    intro z
    rw [bm_0]
    intro s _
    unfold sx_b
    rw [z]
    simp
  have triv : ∀ h', h' = h → ro_l (ro_w a.2 p) (hi - 1) ≤ x → bm (sx_b a p lo hi) 48 = 0 → (∀ B, aG h' (t + 2) B = if B = A then iI (((if x ≤ ro_l (ro_w a.2 p) (hi - 1) then ro_l (ro_w a.2 p) (hi - 1) else x : Nat) : Int) - 1) else aG h (t + 2) B) ∧ (∀ i, lG h' (t + 3) i = if i = p then lN (lf ||| bm (sx_b a p lo hi) 48) else lG h (t + 3) i) ∧ (∀ i, aG h' (t + 4) i = if i = p then iI (if bm (sx_b a p lo hi) 48 = 0 then pl else pl ||| 2 ^ ro_ct A : Nat) else aG h (t + 4) i) := by
    intro h' e1 e2 e3
    subst e1
    refine ⟨fun B => ?_, fun i => ?_, fun i => ?_⟩
    · by_cases u : B = A
      · rw [if_pos u, u, m1]
        apply iI_cg
        split <;> omega
      · rw [if_neg u]
    · by_cases u : i = p
      · rw [if_pos u, u, m4, e3, Nat.or_zero]
      · rw [if_neg u]
    · by_cases u : i = p
      · rw [if_pos u, u, m5, if_pos e3]
      · rw [if_neg u]
  unfold F_X3_seekBetween
  simp (maxSteps := 3000000) (implicitDefEqProofs := false) (disch := omega) only [jl_e, jn_e, bd_e, gd_t, iI_add, iI_sub, iI_mul, iI_neg, if_true, if_false, not_true_eq_false, not_false_eq_true, Int.reduceEq, Nat.add_zero, Int.toNat_natCast, iI_cl, iI_lt, iI_eq, gd_in, bI_eq0, bI_eq1, bI_isB, isB_0, isB_1, il_0, il_1, il_2, il_3, il_4, il_5, il_6, il_7, il_8, il_9, il_10, il_12, il_16, il_18, il_24, il_27, il_30, il_31, il_32, il_40, il_47, il_48, il_49, il_55, il_56, il_57, il_59, il_63, il_64, il_96, il_97, il_98, il_99, il_101, il_103, il_104, il_105, il_108, il_109, il_110, il_111, il_112, il_114, il_115, il_116, il_117, il_119, il_122, il_127, il_128, il_200, il_225, il_255, il_256, il_999, il_1575, il_9999, il_65536, il_252645135, il_858993459, il_1431655765, ms_shl p (by omega), ms_or, m2]
  rw [if_neg (by omega), if_pos (by omega), if_pos (by omega)]
  by_cases z : hi = 0
  · rw [if_pos (by omega)]
    refine ⟨h, rfl, triv h rfl ?_ (e0 z)⟩
    rw [z] at hll ⊢
    omega
  · rw [if_neg (by omega)]
    have eh : ((hi : Int) - 1) = ((hi - 1 : Nat) : Int) := by omega
    have hp2 : 0 < 2 ^ (hi - 1) := Nat.two_pow_pos _
    have hp3 : 2 ^ (hi - 1) ≤ 2 ^ 48 := Nat.pow_le_pow_right (by omega) (by omega)
    have ew : lN (bm (ro_w a.2 p) 48) &&& (lN (2 ^ (hi - 1)) - (1 : Int64)) = lN (bm (fun s => decide (s < hi - 1) && ro_w a.2 p s) 48) := by
      rw [show (1 : Int64) = lN 1 from rfl, lL_sub (by omega), lL_and, bm_and]
      congr 1
      apply bm_congr
      intro s _
      rw [Nat.testBit_two_pow_sub_one, Bool.and_comm]
    obtain ⟨w1, hw1⟩ : ∃ w1, bm (fun s => decide (s < hi - 1) && ro_w a.2 p s) 48 = w1 := ⟨_, rfl⟩
    have hw48 : w1 < 281474976710656 := by rw [← hw1]; exact bm_48 _
    have el : ro_l w1.testBit 48 = ro_l (ro_w a.2 p) (hi - 1) := by
      rw [← ro_l_cut (ro_w a.2 p) (show hi - 1 ≤ 48 by omega)]
      apply ro_l_congr
      intro s hs
      rw [← hw1, bm_tb, decide_eq_true hs, Bool.true_and]
    rw [hw1] at ew
    have m2' : aG h (t + 2) (A ||| 2 ^ p) = iI ((hi - 1 : Nat) : Int) := by rw [m2, eh]
    rw [c_windowOf q hnp hp, bd_e]
    simp (maxSteps := 3000000) (implicitDefEqProofs := false) (disch := omega) only [jl_e, jn_e, bd_e, gd_t, iI_add, iI_sub, iI_mul, iI_neg, if_true, if_false, not_true_eq_false, not_false_eq_true, Int.reduceEq, Nat.add_zero, Int.toNat_natCast, iI_cl, iI_lt, iI_eq, gd_in, bI_eq0, bI_eq1, bI_isB, isB_0, isB_1, il_0, il_1, il_2, il_3, il_4, il_5, il_6, il_7, il_8, il_9, il_10, il_12, il_16, il_18, il_24, il_27, il_30, il_31, il_32, il_40, il_47, il_48, il_49, il_55, il_56, il_57, il_59, il_63, il_64, il_96, il_97, il_98, il_99, il_101, il_103, il_104, il_105, il_108, il_109, il_110, il_111, il_112, il_114, il_115, il_116, il_117, il_119, il_122, il_127, il_128, il_200, il_225, il_255, il_256, il_999, il_1575, il_9999, il_65536, il_252645135, il_858993459, il_1431655765, m2', lL_bit (show hi - 1 < 64 by omega), ew, c_lastSlot hw48, el, m1, c_max (show -2147483648 ≤ (x : Int) - 1 ∧ (x : Int) - 1 < 2147483648 by omega) (show -2147483648 ≤ (ro_l (ro_w a.2 p) (hi - 1) : Int) - 1 ∧ (ro_l (ro_w a.2 p) (hi - 1) : Int) - 1 < 2147483648 by omega), aG_aS_s, aG_aS_j, aG_aS_k, aG_aV_s, aG_aV_k, aG_sS, aG_lS, aG_lV, aG_tS, aG_oS, sG_aS, sG_lS, sG_aV, sG_lV, sG_tS, sG_oS, sG_sS_s, sG_sS_n, lG_lS_s, lG_lS_j, lG_lS_k, lG_lV_s, lG_lV_k, lG_sS, lG_aS, lG_aV, lG_tS, lG_oS, tG_sS, tG_aS, tG_aV, tG_lS, tG_lV, tG_tS_s, tG_tS_n, oG_sS, oG_aS, oG_aV, oG_lS, oG_lV, oG_oS_s, m3]
    have emax : (if (x : Int) - 1 ≤ (ro_l (ro_w a.2 p) (hi - 1) : Int) - 1 then (ro_l (ro_w a.2 p) (hi - 1) : Int) - 1 else (x : Int) - 1) = ((if x ≤ ro_l (ro_w a.2 p) (hi - 1) then ro_l (ro_w a.2 p) (hi - 1) else x : Nat) : Int) - 1 := by
      split <;> split <;> omega
    rw [emax]
    obtain ⟨y, ey⟩ : ∃ y, ((if x ≤ ro_l (ro_w a.2 p) (hi - 1) then ro_l (ro_w a.2 p) (hi - 1) else x : Nat) : Int) - 1 = y := ⟨_, rfl⟩
    rw [ey]
    have base : ∀ B, aG (aS h (t + 2) A (iI y)) (t + 2) B = if B = A then iI y else aG h (t + 2) B := by
      intro B
      by_cases u : B = A
      · rw [if_pos u, u, aG_aS_s]
      · rw [if_neg u, aG_aS_j u]
    have none_ : bm (sx_b a p lo hi) 48 = 0 → (∀ B, aG (aS h (t + 2) A (iI y)) (t + 2) B = if B = A then iI y else aG h (t + 2) B) ∧ (∀ i, lG (aS h (t + 2) A (iI y)) (t + 3) i = if i = p then lN (lf ||| bm (sx_b a p lo hi) 48) else lG h (t + 3) i) ∧ (∀ i, aG (aS h (t + 2) A (iI y)) (t + 4) i = if i = p then iI (if bm (sx_b a p lo hi) 48 = 0 then pl else pl ||| 2 ^ ro_ct A : Nat) else aG h (t + 4) i) := by
      intro e3
      refine ⟨base, fun i => ?_, fun i => ?_⟩
      · rw [lG_aS]
        by_cases u : i = p
        · rw [if_pos u, u, m4, e3, Nat.or_zero]
        · rw [if_neg u]
      · rw [aG_aS_k (by omega)]
        by_cases u : i = p
        · rw [if_pos u, u, m5, if_pos e3]
        · rw [if_neg u]
    by_cases c49 : lo = 49
    · rw [if_pos (by omega)]
      refine ⟨_, rfl, none_ ?_⟩
      rw [bm_0]
      intro s hs
      unfold sx_b
      rw [show decide (lo ≤ s) = false from decide_eq_false (by omega)]
      simp
    · rw [if_neg (by omega)]
      have hlo2 : 0 < 2 ^ lo := Nat.two_pow_pos _
      have hlo3 : w1 / 2 ^ lo * 2 ^ lo ≤ w1 := Nat.div_mul_le_self _ _
      have eb : w1 / 2 ^ lo * 2 ^ lo = bm (sx_b a p lo hi) 48 := by
        apply bm_eq
        intro s
        rw [Nat.mul_comm, Nat.testBit_two_pow_mul]
        unfold sx_b
        by_cases u : lo ≤ s
        · rw [Nat.testBit_div_two_pow, show s - lo + lo = s by omega, ← hw1, bm_tb]
          rw [show decide (s < hi - 1) = decide (s + 2 ≤ hi) from decide_eq_decide.2 (by omega)]
          have e1 : decide (lo ≤ s) = true := decide_eq_true u
          rw [e1]
          cases decide (s < 48) <;> cases ro_w a.2 p s <;> cases decide (s + 2 ≤ hi) <;> rfl
        · have e1 : decide (lo ≤ s) = false := decide_eq_false u
          rw [e1]
          simp
      rw [lL_shr (by omega) (by omega), lL_shl _ (by omega), eb]
      have hb48 := bm_48 (sx_b a p lo hi)
      simp (maxSteps := 3000000) (implicitDefEqProofs := false) (disch := omega) only [jl_e, jn_e, bd_e, gd_t, iI_add, iI_sub, iI_mul, iI_neg, if_true, if_false, not_true_eq_false, not_false_eq_true, Int.reduceEq, Nat.add_zero, Int.toNat_natCast, iI_cl, iI_lt, iI_eq, gd_in, bI_eq0, bI_eq1, bI_isB, isB_0, isB_1, il_0, il_1, il_2, il_3, il_4, il_5, il_6, il_7, il_8, il_9, il_10, il_12, il_16, il_18, il_24, il_27, il_30, il_31, il_32, il_40, il_47, il_48, il_49, il_55, il_56, il_57, il_59, il_63, il_64, il_96, il_97, il_98, il_99, il_101, il_103, il_104, il_105, il_108, il_109, il_110, il_111, il_112, il_114, il_115, il_116, il_117, il_119, il_122, il_127, il_128, il_200, il_225, il_255, il_256, il_999, il_1575, il_9999, il_65536, il_252645135, il_858993459, il_1431655765, lg_cmpI, lN_0 (show bm (sx_b a p lo hi) 48 < 2 ^ 64 by omega)]
      by_cases c0 : bm (sx_b a p lo hi) 48 = 0
      · rw [if_pos c0]
        exact ⟨_, rfl, none_ c0⟩
      · rw [if_neg c0]
        simp (maxSteps := 3000000) (implicitDefEqProofs := false) (disch := omega) only [jl_e, jn_e, bd_e, gd_t, iI_add, iI_sub, iI_mul, iI_neg, if_true, if_false, not_true_eq_false, not_false_eq_true, Int.reduceEq, Nat.add_zero, Int.toNat_natCast, iI_cl, iI_lt, iI_eq, gd_in, bI_eq0, bI_eq1, bI_isB, isB_0, isB_1, il_0, il_1, il_2, il_3, il_4, il_5, il_6, il_7, il_8, il_9, il_10, il_12, il_16, il_18, il_24, il_27, il_30, il_31, il_32, il_40, il_47, il_48, il_49, il_55, il_56, il_57, il_59, il_63, il_64, il_96, il_97, il_98, il_99, il_101, il_103, il_104, il_105, il_108, il_109, il_110, il_111, il_112, il_114, il_115, il_116, il_117, il_119, il_122, il_127, il_128, il_200, il_225, il_255, il_256, il_999, il_1575, il_9999, il_65536, il_252645135, il_858993459, il_1431655765, aG_aS_s, aG_aS_j, aG_aS_k, aG_aV_s, aG_aV_k, aG_sS, aG_lS, aG_lV, aG_tS, aG_oS, sG_aS, sG_lS, sG_aV, sG_lV, sG_tS, sG_oS, sG_sS_s, sG_sS_n, lG_lS_s, lG_lS_j, lG_lS_k, lG_lV_s, lG_lV_k, lG_sS, lG_aS, lG_aV, lG_tS, lG_oS, tG_sS, tG_aS, tG_aV, tG_lS, tG_lV, tG_tS_s, tG_tS_n, oG_sS, oG_aS, oG_aV, oG_lS, oG_lV, oG_oS_s, m4, lL_or, c_bitCount hA, m5, ms_shl (ro_ct A) (by omega), ms_or]
        refine ⟨_, rfl, fun B => ?_, fun i => ?_, fun i => ?_⟩
        · simp (maxSteps := 3000000) (implicitDefEqProofs := false) (disch := omega) only [jl_e, jn_e, bd_e, gd_t, iI_add, iI_sub, iI_mul, iI_neg, if_true, if_false, not_true_eq_false, not_false_eq_true, Int.reduceEq, Nat.add_zero, Int.toNat_natCast, iI_cl, iI_lt, iI_eq, gd_in, bI_eq0, bI_eq1, bI_isB, isB_0, isB_1, il_0, il_1, il_2, il_3, il_4, il_5, il_6, il_7, il_8, il_9, il_10, il_12, il_16, il_18, il_24, il_27, il_30, il_31, il_32, il_40, il_47, il_48, il_49, il_55, il_56, il_57, il_59, il_63, il_64, il_96, il_97, il_98, il_99, il_101, il_103, il_104, il_105, il_108, il_109, il_110, il_111, il_112, il_114, il_115, il_116, il_117, il_119, il_122, il_127, il_128, il_200, il_225, il_255, il_256, il_999, il_1575, il_9999, il_65536, il_252645135, il_858993459, il_1431655765, aG_aS_s, aG_aS_j, aG_aS_k, aG_aV_s, aG_aV_k, aG_sS, aG_lS, aG_lV, aG_tS, aG_oS, sG_aS, sG_lS, sG_aV, sG_lV, sG_tS, sG_oS, sG_sS_s, sG_sS_n, lG_lS_s, lG_lS_j, lG_lS_k, lG_lV_s, lG_lV_k, lG_sS, lG_aS, lG_aV, lG_tS, lG_oS, tG_sS, tG_aS, tG_aV, tG_lS, tG_lV, tG_tS_s, tG_tS_n, oG_sS, oG_aS, oG_aV, oG_lS, oG_lV, oG_oS_s]
          exact base B
        · by_cases u : i = p
          · subst u
            simp (maxSteps := 3000000) (implicitDefEqProofs := false) (disch := omega) only [jl_e, jn_e, bd_e, gd_t, iI_add, iI_sub, iI_mul, iI_neg, if_true, if_false, not_true_eq_false, not_false_eq_true, Int.reduceEq, Nat.add_zero, Int.toNat_natCast, iI_cl, iI_lt, iI_eq, gd_in, bI_eq0, bI_eq1, bI_isB, isB_0, isB_1, il_0, il_1, il_2, il_3, il_4, il_5, il_6, il_7, il_8, il_9, il_10, il_12, il_16, il_18, il_24, il_27, il_30, il_31, il_32, il_40, il_47, il_48, il_49, il_55, il_56, il_57, il_59, il_63, il_64, il_96, il_97, il_98, il_99, il_101, il_103, il_104, il_105, il_108, il_109, il_110, il_111, il_112, il_114, il_115, il_116, il_117, il_119, il_122, il_127, il_128, il_200, il_225, il_255, il_256, il_999, il_1575, il_9999, il_65536, il_252645135, il_858993459, il_1431655765, aG_aS_s, aG_aS_j, aG_aS_k, aG_aV_s, aG_aV_k, aG_sS, aG_lS, aG_lV, aG_tS, aG_oS, sG_aS, sG_lS, sG_aV, sG_lV, sG_tS, sG_oS, sG_sS_s, sG_sS_n, lG_lS_s, lG_lS_j, lG_lS_k, lG_lV_s, lG_lV_k, lG_sS, lG_aS, lG_aV, lG_tS, lG_oS, tG_sS, tG_aS, tG_aV, tG_lS, tG_lV, tG_tS_s, tG_tS_n, oG_sS, oG_aS, oG_aV, oG_lS, oG_lV, oG_oS_s]
          · rw [if_neg u]
            simp (maxSteps := 3000000) (implicitDefEqProofs := false) (disch := omega) only [jl_e, jn_e, bd_e, gd_t, iI_add, iI_sub, iI_mul, iI_neg, if_true, if_false, not_true_eq_false, not_false_eq_true, Int.reduceEq, Nat.add_zero, Int.toNat_natCast, iI_cl, iI_lt, iI_eq, gd_in, bI_eq0, bI_eq1, bI_isB, isB_0, isB_1, il_0, il_1, il_2, il_3, il_4, il_5, il_6, il_7, il_8, il_9, il_10, il_12, il_16, il_18, il_24, il_27, il_30, il_31, il_32, il_40, il_47, il_48, il_49, il_55, il_56, il_57, il_59, il_63, il_64, il_96, il_97, il_98, il_99, il_101, il_103, il_104, il_105, il_108, il_109, il_110, il_111, il_112, il_114, il_115, il_116, il_117, il_119, il_122, il_127, il_128, il_200, il_225, il_255, il_256, il_999, il_1575, il_9999, il_65536, il_252645135, il_858993459, il_1431655765, aG_aS_s, aG_aS_j, aG_aS_k, aG_aV_s, aG_aV_k, aG_sS, aG_lS, aG_lV, aG_tS, aG_oS, sG_aS, sG_lS, sG_aV, sG_lV, sG_tS, sG_oS, sG_sS_s, sG_sS_n, lG_lS_s, lG_lS_j, lG_lS_k, lG_lV_s, lG_lV_k, lG_sS, lG_aS, lG_aV, lG_tS, lG_oS, tG_sS, tG_aS, tG_aV, tG_lS, tG_lV, tG_tS_s, tG_tS_n, oG_sS, oG_aS, oG_aV, oG_lS, oG_lV, oG_oS_s]
        · by_cases u : i = p
          · subst u
            simp (maxSteps := 3000000) (implicitDefEqProofs := false) (disch := omega) only [jl_e, jn_e, bd_e, gd_t, iI_add, iI_sub, iI_mul, iI_neg, if_true, if_false, not_true_eq_false, not_false_eq_true, Int.reduceEq, Nat.add_zero, Int.toNat_natCast, iI_cl, iI_lt, iI_eq, gd_in, bI_eq0, bI_eq1, bI_isB, isB_0, isB_1, il_0, il_1, il_2, il_3, il_4, il_5, il_6, il_7, il_8, il_9, il_10, il_12, il_16, il_18, il_24, il_27, il_30, il_31, il_32, il_40, il_47, il_48, il_49, il_55, il_56, il_57, il_59, il_63, il_64, il_96, il_97, il_98, il_99, il_101, il_103, il_104, il_105, il_108, il_109, il_110, il_111, il_112, il_114, il_115, il_116, il_117, il_119, il_122, il_127, il_128, il_200, il_225, il_255, il_256, il_999, il_1575, il_9999, il_65536, il_252645135, il_858993459, il_1431655765, aG_aS_s, aG_aS_j, aG_aS_k, aG_aV_s, aG_aV_k, aG_sS, aG_lS, aG_lV, aG_tS, aG_oS, sG_aS, sG_lS, sG_aV, sG_lV, sG_tS, sG_oS, sG_sS_s, sG_sS_n, lG_lS_s, lG_lS_j, lG_lS_k, lG_lV_s, lG_lV_k, lG_sS, lG_aS, lG_aV, lG_tS, lG_oS, tG_sS, tG_aS, tG_aV, tG_lS, tG_lV, tG_tS_s, tG_tS_n, oG_sS, oG_aS, oG_aV, oG_lS, oG_lV, oG_oS_s]
            rw [if_neg c0]
          · rw [if_neg u]
            simp (maxSteps := 3000000) (implicitDefEqProofs := false) (disch := omega) only [jl_e, jn_e, bd_e, gd_t, iI_add, iI_sub, iI_mul, iI_neg, if_true, if_false, not_true_eq_false, not_false_eq_true, Int.reduceEq, Nat.add_zero, Int.toNat_natCast, iI_cl, iI_lt, iI_eq, gd_in, bI_eq0, bI_eq1, bI_isB, isB_0, isB_1, il_0, il_1, il_2, il_3, il_4, il_5, il_6, il_7, il_8, il_9, il_10, il_12, il_16, il_18, il_24, il_27, il_30, il_31, il_32, il_40, il_47, il_48, il_49, il_55, il_56, il_57, il_59, il_63, il_64, il_96, il_97, il_98, il_99, il_101, il_103, il_104, il_105, il_108, il_109, il_110, il_111, il_112, il_114, il_115, il_116, il_117, il_119, il_122, il_127, il_128, il_200, il_225, il_255, il_256, il_999, il_1575, il_9999, il_65536, il_252645135, il_858993459, il_1431655765, aG_aS_s, aG_aS_j, aG_aS_k, aG_aV_s, aG_aV_k, aG_sS, aG_lS, aG_lV, aG_tS, aG_oS, sG_aS, sG_lS, sG_aV, sG_lV, sG_tS, sG_oS, sG_sS_s, sG_sS_n, lG_lS_s, lG_lS_j, lG_lS_k, lG_lV_s, lG_lV_k, lG_sS, lG_aS, lG_aV, lG_tS, lG_oS, tG_sS, tG_aS, tG_aV, tG_lS, tG_lV, tG_tS_s, tG_tS_n, oG_sS, oG_aS, oG_aV, oG_lS, oG_lV, oG_oS_s]
