-- ===== the class's rules: who is ahead, what passes =====
theorem bm_or (f g : Nat → Bool) (n : Nat) : bm f n ||| bm g n = bm (fun i => f i || g i) n := by
  apply bm_eq
  intro i
  rw [Nat.testBit_or, bm_tb, bm_tb]
  cases decide (i < n) <;> simp
theorem bm_f (n : Nat) : bm (fun _ => false) n = 0 := by
  apply Nat.eq_of_testBit_eq
  intro i
  rw [bm_tb, Nat.zero_testBit]
  simp
theorem bm_s (f : Nat → Bool) (n : Nat) : bm f (n + 1) = bm f n ||| (if f n then 2 ^ n else 0) := rfl
/-- putAhead: each of one set ahead of each of another -/
theorem c_putAhead {t : Nat} {h : Hp} {np m1 m2 : Nat} (hn : sG h (64 * t + 1) = iI np) (hnp : np ≤ 7) (hm1 : m1 < 128) (hm2 : m2 < 128) {f : Nat → Nat} (hf : ∀ p, p < 7 → aG h (t + 2) p = iI (f p)) : ∃ h', F_X7_putAhead t (iI m1) (iI m2) h = some ((), h') ∧ (∀ p, p < 7 → aG h' (t + 2) p = iI ((if p < np ∧ m2.testBit p = true then f p ||| m1 else f p : Nat) : Int)) := by
  unfold F_X7_putAhead
  refine lp_up (α := Int32 → Hp → Option (Unit × Hp)) (P := fun k c => ∀ h1, sG h1 (64 * t + 1) = iI np → (∀ p, p < 7 → aG h1 (t + 2) p = iI ((if p < k ∧ p < np ∧ m2.testBit p = true then f p ||| m1 else f p : Nat) : Int)) → ∃ h', c (iI k) h1 = some ((), h') ∧ (∀ p, p < 7 → aG h' (t + 2) p = iI ((if p < np ∧ m2.testBit p = true then f p ||| m1 else f p : Nat) : Int))) np (by omega) (fun k c hk ih => ?_) h hn (fun p hp => ?_)
  · intro h1 i1 i2
    by_cases z : k < np
    · have e := i2 k (by omega)
      rw [if_neg (by omega)] at e
      simp (maxSteps := 3000000) (disch := omega) only [jl_e, jn_e, bd_e, gd_t, iI_add, iI_sub, iI_mul, iI_neg, if_true, if_false, not_true_eq_false, not_false_eq_true, Nat.add_zero, Int.toNat_natCast, iI_cl, iI_lt, iI_eq, gd_in, bI_eq0, bI_eq1, bI_isB, isB_0, isB_1, il_0, il_1, il_2, il_3, il_4, il_5, il_6, il_7, il_8, il_9, il_10, il_12, il_16, il_18, il_24, il_27, il_30, il_31, il_32, il_40, il_47, il_48, il_49, il_55, il_56, il_57, il_59, il_63, il_64, il_96, il_97, il_98, il_99, il_101, il_103, il_104, il_105, il_108, il_109, il_110, il_111, il_112, il_114, il_115, il_116, il_117, il_119, il_122, il_127, il_128, il_200, il_225, il_255, il_256, il_999, il_1575, il_9999, il_65536, il_252645135, il_858993459, il_1431655765, i1, c_hasBit hm2 (show k < 8 by omega), e, ms_or]
      rw [if_pos (by omega), if_pos (by omega)]
      by_cases y : m2.testBit k = true
      · rw [if_neg (fun q => q y)]
        refine ih z _ i1 (fun p hp => ?_)
        by_cases x : p = k
        · subst x
          rw [aG_aS_s, if_pos ⟨by omega, z, y⟩]
        · rw [aG_aS_j x, i2 p hp]
          congr 2
          by_cases w : p < k ∧ p < np ∧ m2.testBit p = true
          · rw [if_pos w, if_pos ⟨by omega, w.2⟩]
          · rw [if_neg w, if_neg (fun v => w ⟨by omega, v.2⟩)]
      · rw [if_pos y]
        refine ih z _ i1 (fun p hp => ?_)
        rw [i2 p hp]
        congr 2
        by_cases w : p < k ∧ p < np ∧ m2.testBit p = true
        · rw [if_pos w, if_pos ⟨by omega, w.2⟩]
        · rw [if_neg w, if_neg]
          rintro ⟨v1, v2, v3⟩
          by_cases x : p = k
          · subst x; exact y v3
          · exact w ⟨by omega, v2, v3⟩
    · simp (maxSteps := 3000000) (disch := omega) only [jl_e, jn_e, bd_e, gd_t, iI_add, iI_sub, iI_mul, iI_neg, if_true, if_false, not_true_eq_false, not_false_eq_true, Nat.add_zero, Int.toNat_natCast, iI_cl, iI_lt, iI_eq, gd_in, bI_eq0, bI_eq1, bI_isB, isB_0, isB_1, il_0, il_1, il_2, il_3, il_4, il_5, il_6, il_7, il_8, il_9, il_10, il_12, il_16, il_18, il_24, il_27, il_30, il_31, il_32, il_40, il_47, il_48, il_49, il_55, il_56, il_57, il_59, il_63, il_64, il_96, il_97, il_98, il_99, il_101, il_103, il_104, il_105, il_108, il_109, il_110, il_111, il_112, il_114, il_115, il_116, il_117, il_119, il_122, il_127, il_128, il_200, il_225, il_255, il_256, il_999, il_1575, il_9999, il_65536, il_252645135, il_858993459, il_1431655765, i1]
      rw [if_neg (by omega)]
      refine ⟨_, rfl, fun p hp => ?_⟩
      rw [i2 p hp]
      congr 2
      by_cases w : p < np ∧ m2.testBit p = true
      · rw [if_pos w, if_pos ⟨by omega, w⟩]
      · rw [if_neg w, if_neg (fun v => w v.2)]
  · rw [if_neg (by omega)]
    exact hf p hp
/-- a thing that wears -/
theorem c_readWear {t : Nat} {h : Hp} {v : Nat → Int} (hv : ∀ p, p < 7 → aG h (t + 6) p = iI (v p) ∧ -1 ≤ v p ∧ v p ≤ 9) {f : Nat → Nat → Bool} (hf : ∀ p, p < 7 → aG h (t + 2) p = iI (bm (f p) 7)) : ∃ h', F_X7_readWear t h = some ((), h') ∧ (∀ p, p < 7 → aG h' (t + 2) p = iI (bm (fun q => f p q || (v q != -1 && decide (v q < v p))) 7)) := by
  unfold F_X7_readWear
  refine lp_up (α := Int32 → Hp → Option (Unit × Hp)) (P := fun k c => ∀ h1, (∀ p, p < 7 → aG h1 (t + 6) p = iI (v p)) → (∀ p, p < 7 → aG h1 (t + 2) p = iI (bm (fun q => f p q || (decide (p < k) && (v q != -1 && decide (v q < v p)))) 7)) → ∃ h', c (iI k) h1 = some ((), h') ∧ (∀ p, p < 7 → aG h' (t + 2) p = iI (bm (fun q => f p q || (v q != -1 && decide (v q < v p))) 7))) 7 (by omega) (fun k c hk ih => ?_) h (fun p hp => (hv p hp).1) (fun p hp => ?_)
  · intro h1 i1 i2
    by_cases z : k < 7
    · simp (maxSteps := 3000000) (disch := omega) only [jl_e, jn_e, bd_e, gd_t, iI_add, iI_sub, iI_mul, iI_neg, if_true, if_false, not_true_eq_false, not_false_eq_true, Nat.add_zero, Int.toNat_natCast, iI_cl, iI_lt, iI_eq, gd_in, bI_eq0, bI_eq1, bI_isB, isB_0, isB_1, il_0, il_1, il_2, il_3, il_4, il_5, il_6, il_7, il_8, il_9, il_10, il_12, il_16, il_18, il_24, il_27, il_30, il_31, il_32, il_40, il_47, il_48, il_49, il_55, il_56, il_57, il_59, il_63, il_64, il_96, il_97, il_98, il_99, il_101, il_103, il_104, il_105, il_108, il_109, il_110, il_111, il_112, il_114, il_115, il_116, il_117, il_119, il_122, il_127, il_128, il_200, il_225, il_255, il_256, il_999, il_1575, il_9999, il_65536, il_252645135, il_858993459, il_1431655765]
      rw [if_pos (by omega)]
      refine lp_up (α := Int32 → Hp → Option (Unit × Hp)) (P := fun j c => ∀ h2, (∀ p, p < 7 → aG h2 (t + 6) p = iI (v p)) → (∀ p, p < 7 → aG h2 (t + 2) p = iI (bm (fun q => f p q || ((decide (p < k) || (decide (p = k) && decide (q < j))) && (v q != -1 && decide (v q < v p)))) 7)) → ∃ h', c (iI j) h2 = some ((), h') ∧ (∀ p, p < 7 → aG h' (t + 2) p = iI (bm (fun q => f p q || (v q != -1 && decide (v q < v p))) 7))) 7 (by omega) (fun j d hj jh => ?_) h1 i1 (fun p hp => ?_)
      · intro h2 j1 j2
        by_cases y : j < 7
        · have e1 := j1 j y
          have e2 := j1 k z
          have e3 := j2 k z
          have r1 := (hv j y).2
          have r2 := (hv k z).2
          simp (maxSteps := 3000000) (disch := omega) only [jl_e, jn_e, bd_e, gd_t, iI_add, iI_sub, iI_mul, iI_neg, if_true, if_false, not_true_eq_false, not_false_eq_true, Nat.add_zero, Int.toNat_natCast, iI_cl, iI_lt, iI_eq, gd_in, bI_eq0, bI_eq1, bI_isB, isB_0, isB_1, il_0, il_1, il_2, il_3, il_4, il_5, il_6, il_7, il_8, il_9, il_10, il_12, il_16, il_18, il_24, il_27, il_30, il_31, il_32, il_40, il_47, il_48, il_49, il_55, il_56, il_57, il_59, il_63, il_64, il_96, il_97, il_98, il_99, il_101, il_103, il_104, il_105, il_108, il_109, il_110, il_111, il_112, il_114, il_115, il_116, il_117, il_119, il_122, il_127, il_128, il_200, il_225, il_255, il_256, il_999, il_1575, il_9999, il_65536, il_252645135, il_858993459, il_1431655765, e1, e2, e3, ms_shl j (by omega), ms_or]
          rw [if_pos (by omega)]
          by_cases x : v j = -1
          · rw [if_pos x]
            refine jh y _ j1 (fun p hp => ?_)
            rw [j2 p hp]
            congr 2
            apply bm_congr
            intro q hq
            by_cases w : q = j
            · subst w; simp [x]
            · rw [show decide (q < j + 1) = decide (q < j) from decide_eq_decide.2 (by omega)]
          · rw [if_neg x]
            by_cases x2 : v j < v k
            · rw [if_pos x2]
              refine jh y _ (fun p hp => ?_) (fun p hp => ?_)
              · simp (maxSteps := 3000000) (disch := omega) only [jl_e, jn_e, bd_e, gd_t, iI_add, iI_sub, iI_mul, iI_neg, if_true, if_false, not_true_eq_false, not_false_eq_true, Nat.add_zero, Int.toNat_natCast, iI_cl, iI_lt, iI_eq, gd_in, bI_eq0, bI_eq1, bI_isB, isB_0, isB_1, il_0, il_1, il_2, il_3, il_4, il_5, il_6, il_7, il_8, il_9, il_10, il_12, il_16, il_18, il_24, il_27, il_30, il_31, il_32, il_40, il_47, il_48, il_49, il_55, il_56, il_57, il_59, il_63, il_64, il_96, il_97, il_98, il_99, il_101, il_103, il_104, il_105, il_108, il_109, il_110, il_111, il_112, il_114, il_115, il_116, il_117, il_119, il_122, il_127, il_128, il_200, il_225, il_255, il_256, il_999, il_1575, il_9999, il_65536, il_252645135, il_858993459, il_1431655765, aG_aS_s, aG_aS_j, aG_aS_k, aG_aV_s, aG_aV_k, aG_sS, aG_lS, aG_lV, aG_tS, aG_oS, sG_aS, sG_lS, sG_aV, sG_lV, sG_tS, sG_oS, sG_sS_s, sG_sS_n, lG_lS_s, lG_lS_j, lG_lS_k, lG_lV_s, lG_lV_k, lG_sS, lG_aS, lG_aV, lG_tS, lG_oS, tG_sS, tG_aS, tG_aV, tG_lS, tG_lV, tG_tS_s, tG_tS_n, oG_sS, oG_aS, oG_aV, oG_lS, oG_lV, oG_oS_s]
                exact j1 p hp
              · by_cases w : p = k
                · subst w
                  simp (maxSteps := 3000000) (disch := omega) only [jl_e, jn_e, bd_e, gd_t, iI_add, iI_sub, iI_mul, iI_neg, if_true, if_false, not_true_eq_false, not_false_eq_true, Nat.add_zero, Int.toNat_natCast, iI_cl, iI_lt, iI_eq, gd_in, bI_eq0, bI_eq1, bI_isB, isB_0, isB_1, il_0, il_1, il_2, il_3, il_4, il_5, il_6, il_7, il_8, il_9, il_10, il_12, il_16, il_18, il_24, il_27, il_30, il_31, il_32, il_40, il_47, il_48, il_49, il_55, il_56, il_57, il_59, il_63, il_64, il_96, il_97, il_98, il_99, il_101, il_103, il_104, il_105, il_108, il_109, il_110, il_111, il_112, il_114, il_115, il_116, il_117, il_119, il_122, il_127, il_128, il_200, il_225, il_255, il_256, il_999, il_1575, il_9999, il_65536, il_252645135, il_858993459, il_1431655765, aG_aS_s, aG_aS_j, aG_aS_k, aG_aV_s, aG_aV_k, aG_sS, aG_lS, aG_lV, aG_tS, aG_oS, sG_aS, sG_lS, sG_aV, sG_lV, sG_tS, sG_oS, sG_sS_s, sG_sS_n, lG_lS_s, lG_lS_j, lG_lS_k, lG_lV_s, lG_lV_k, lG_sS, lG_aS, lG_aV, lG_tS, lG_oS, tG_sS, tG_aS, tG_aV, tG_lS, tG_lV, tG_tS_s, tG_tS_n, oG_sS, oG_aS, oG_aV, oG_lS, oG_lV, oG_oS_s]
                  congr 2
                  apply bm_eq
                  intro q
                  rw [ro_tb_or, bm_tb]
                  by_cases u : j = q
                  · subst u
                    simp [y, x, x2]
                  · simp only [u, decide_false, Bool.or_false]
                    rw [show decide (q < j + 1) = decide (q < j) from decide_eq_decide.2 (by omega)]
                · simp (maxSteps := 3000000) (disch := omega) only [jl_e, jn_e, bd_e, gd_t, iI_add, iI_sub, iI_mul, iI_neg, if_true, if_false, not_true_eq_false, not_false_eq_true, Nat.add_zero, Int.toNat_natCast, iI_cl, iI_lt, iI_eq, gd_in, bI_eq0, bI_eq1, bI_isB, isB_0, isB_1, il_0, il_1, il_2, il_3, il_4, il_5, il_6, il_7, il_8, il_9, il_10, il_12, il_16, il_18, il_24, il_27, il_30, il_31, il_32, il_40, il_47, il_48, il_49, il_55, il_56, il_57, il_59, il_63, il_64, il_96, il_97, il_98, il_99, il_101, il_103, il_104, il_105, il_108, il_109, il_110, il_111, il_112, il_114, il_115, il_116, il_117, il_119, il_122, il_127, il_128, il_200, il_225, il_255, il_256, il_999, il_1575, il_9999, il_65536, il_252645135, il_858993459, il_1431655765, aG_aS_s, aG_aS_j, aG_aS_k, aG_aV_s, aG_aV_k, aG_sS, aG_lS, aG_lV, aG_tS, aG_oS, sG_aS, sG_lS, sG_aV, sG_lV, sG_tS, sG_oS, sG_sS_s, sG_sS_n, lG_lS_s, lG_lS_j, lG_lS_k, lG_lV_s, lG_lV_k, lG_sS, lG_aS, lG_aV, lG_tS, lG_oS, tG_sS, tG_aS, tG_aV, tG_lS, tG_lV, tG_tS_s, tG_tS_n, oG_sS, oG_aS, oG_aV, oG_lS, oG_lV, oG_oS_s]
                  rw [j2 p hp]
                  congr 2
                  apply bm_congr
                  intro q hq
                  simp [w]
            · rw [if_neg x2]
              refine jh y _ j1 (fun p hp => ?_)
              rw [j2 p hp]
              congr 2
              apply bm_congr
              intro q hq
              by_cases w : q = j
              · subst w
                by_cases u : p = k
                · subst u; simp [x2]
                · simp [u]
              · rw [show decide (q < j + 1) = decide (q < j) from decide_eq_decide.2 (by omega)]
        · simp (maxSteps := 3000000) (disch := omega) only [jl_e, jn_e, bd_e, gd_t, iI_add, iI_sub, iI_mul, iI_neg, if_true, if_false, not_true_eq_false, not_false_eq_true, Nat.add_zero, Int.toNat_natCast, iI_cl, iI_lt, iI_eq, gd_in, bI_eq0, bI_eq1, bI_isB, isB_0, isB_1, il_0, il_1, il_2, il_3, il_4, il_5, il_6, il_7, il_8, il_9, il_10, il_12, il_16, il_18, il_24, il_27, il_30, il_31, il_32, il_40, il_47, il_48, il_49, il_55, il_56, il_57, il_59, il_63, il_64, il_96, il_97, il_98, il_99, il_101, il_103, il_104, il_105, il_108, il_109, il_110, il_111, il_112, il_114, il_115, il_116, il_117, il_119, il_122, il_127, il_128, il_200, il_225, il_255, il_256, il_999, il_1575, il_9999, il_65536, il_252645135, il_858993459, il_1431655765]
          rw [if_neg (by omega)]
          refine ih z _ j1 (fun p hp => ?_)
          rw [j2 p hp]
          congr 2
          apply bm_congr
          intro q hq
          have e : (decide (p < k) || decide (p = k) && decide (q < j)) = decide (p < k + 1) := by
            rw [show decide (q < j) = true from decide_eq_true (by omega), Bool.and_true]
            by_cases u : p < k
            · simp [u, show p < k + 1 by omega]
            · by_cases w : p = k
              · simp [w]
              · simp [u, w, show ¬ p < k + 1 by omega]
          rw [e]
      · rw [i2 p hp]
        congr 2
        apply bm_congr
        intro q hq
        simp
    · simp (maxSteps := 3000000) (disch := omega) only [jl_e, jn_e, bd_e, gd_t, iI_add, iI_sub, iI_mul, iI_neg, if_true, if_false, not_true_eq_false, not_false_eq_true, Nat.add_zero, Int.toNat_natCast, iI_cl, iI_lt, iI_eq, gd_in, bI_eq0, bI_eq1, bI_isB, isB_0, isB_1, il_0, il_1, il_2, il_3, il_4, il_5, il_6, il_7, il_8, il_9, il_10, il_12, il_16, il_18, il_24, il_27, il_30, il_31, il_32, il_40, il_47, il_48, il_49, il_55, il_56, il_57, il_59, il_63, il_64, il_96, il_97, il_98, il_99, il_101, il_103, il_104, il_105, il_108, il_109, il_110, il_111, il_112, il_114, il_115, il_116, il_117, il_119, il_122, il_127, il_128, il_200, il_225, il_255, il_256, il_999, il_1575, il_9999, il_65536, il_252645135, il_858993459, il_1431655765]
      rw [if_neg (by omega)]
      refine ⟨_, rfl, fun p hp => ?_⟩
      rw [i2 p hp]
      congr 2
      apply bm_congr
      intro q hq
      simp [show p < k by omega]
  · rw [hf p hp]
    congr 2
    apply bm_congr
    intro q hq
    simp
/-- a thing that comes, goes or passes -/
theorem c_readThing {t : Nat} {h : Hp} {np k i : Nat} (hn : sG h (64 * t + 1) = iI np) (hnp : np ≤ 7) (hi : i < 6) (hk : k ≤ 2) {v : Nat → Int} (hv : ∀ p, p < 7 → aG h (t + 6) p = iI (v p) ∧ -1 ≤ v p ∧ v p ≤ 1 ∧ (np ≤ p → v p = -1)) {f : Nat → Nat → Bool} (hf : ∀ p, p < 7 → aG h (t + 2) p = iI (bm (f p) 7)) : ∃ h', F_X7_readThing t (iI i) (iI k) h = some ((), h') ∧ (∀ p, p < 7 → aG h' (t + 2) p = iI (bm (fun q => f p q || (v q != -1 && v p != -1 && (if k = 1 then decide (v p < v q) else k != 2 && decide (v q < v p)))) 7)) ∧ (∀ j, j < 6 → aG h' (t + 4) j = if j = i ∧ k = 2 then iI (bm (fun p => v p == 1) 7) else aG h (t + 4) j) ∧ (∀ j, j < 6 → aG h' (t + 5) j = if j = i ∧ k = 2 then iI (bm (fun p => v p == 0) 7) else aG h (t + 5) j) := by
  have w1 := bm_7 (fun p => v p == 0)
  have w2 := bm_7 (fun p => v p == 1)
  unfold F_X7_readThing
  simp (maxSteps := 3000000) (disch := omega) only [jl_e, jn_e, bd_e, gd_t, iI_add, iI_sub, iI_mul, iI_neg, if_true, if_false, not_true_eq_false, not_false_eq_true, Nat.add_zero, Int.toNat_natCast, iI_cl, iI_lt, iI_eq, gd_in, bI_eq0, bI_eq1, bI_isB, isB_0, isB_1, il_0, il_1, il_2, il_3, il_4, il_5, il_6, il_7, il_8, il_9, il_10, il_12, il_16, il_18, il_24, il_27, il_30, il_31, il_32, il_40, il_47, il_48, il_49, il_55, il_56, il_57, il_59, il_63, il_64, il_96, il_97, il_98, il_99, il_101, il_103, il_104, il_105, il_108, il_109, il_110, il_111, il_112, il_114, il_115, il_116, il_117, il_119, il_122, il_127, il_128, il_200, il_225, il_255, il_256, il_999, il_1575, il_9999, il_65536, il_252645135, il_858993459, il_1431655765]
  rw [if_neg (by omega), if_pos (by omega)]
  refine lp_up (α := Int32 → Int32 → Int32 → Hp → Option (Unit × Hp)) (P := fun j c => ∃ h', c (iI (bm (fun p => v p == 0) j)) (iI (bm (fun p => v p == 1) j)) (iI j) h = some ((), h') ∧ (∀ p, p < 7 → aG h' (t + 2) p = iI (bm (fun q => f p q || (v q != -1 && v p != -1 && (if k = 1 then decide (v p < v q) else k != 2 && decide (v q < v p)))) 7)) ∧ (∀ j, j < 6 → aG h' (t + 4) j = if j = i ∧ k = 2 then iI (bm (fun p => v p == 1) 7) else aG h (t + 4) j) ∧ (∀ j, j < 6 → aG h' (t + 5) j = if j = i ∧ k = 2 then iI (bm (fun p => v p == 0) 7) else aG h (t + 5) j)) 7 (by omega) (fun j c hj ih => ?_)
  by_cases z : j < 7
  · have e := (hv j z).1
    have r := (hv j z).2
    have i2 := ih z
    rw [bm_s, bm_s, show ((j + 1 : Nat) : Int) = (j : Int) + 1 by omega] at i2
    simp (maxSteps := 3000000) (disch := omega) only [jl_e, jn_e, bd_e, gd_t, iI_add, iI_sub, iI_mul, iI_neg, if_true, if_false, not_true_eq_false, not_false_eq_true, Nat.add_zero, Int.toNat_natCast, iI_cl, iI_lt, iI_eq, gd_in, bI_eq0, bI_eq1, bI_isB, isB_0, isB_1, il_0, il_1, il_2, il_3, il_4, il_5, il_6, il_7, il_8, il_9, il_10, il_12, il_16, il_18, il_24, il_27, il_30, il_31, il_32, il_40, il_47, il_48, il_49, il_55, il_56, il_57, il_59, il_63, il_64, il_96, il_97, il_98, il_99, il_101, il_103, il_104, il_105, il_108, il_109, il_110, il_111, il_112, il_114, il_115, il_116, il_117, il_119, il_122, il_127, il_128, il_200, il_225, il_255, il_256, il_999, il_1575, il_9999, il_65536, il_252645135, il_858993459, il_1431655765, e, ms_shl j (by omega), ms_or]
    rw [if_pos (by omega)]
    by_cases x : v j = 0
    · rw [if_pos x, if_neg (by omega)]
      rw [if_pos (by simp [x]), if_neg (by simp [x]), Nat.or_zero] at i2
      exact i2
    · rw [if_neg x]
      by_cases y : v j = 1
      · rw [if_pos y]
        rw [if_neg (by simp [x]), if_pos (by simp [y]), Nat.or_zero] at i2
        exact i2
      · rw [if_neg y]
        rw [if_neg (by simp [x]), if_neg (by simp [y]), Nat.or_zero, Nat.or_zero] at i2
        exact i2
  · have e7 : j = 7 := by omega
    subst e7
    have tb0 : ∀ p, p < 7 → (bm (fun p => v p == 0) 7).testBit p = (v p == 0) := fun p hp => by rw [bm_tb]; simp [hp]
    have tb1 : ∀ p, p < 7 → (bm (fun p => v p == 1) 7).testBit p = (v p == 1) := fun p hp => by rw [bm_tb]; simp [hp]
    simp (maxSteps := 3000000) (disch := omega) only [jl_e, jn_e, bd_e, gd_t, iI_add, iI_sub, iI_mul, iI_neg, if_true, if_false, not_true_eq_false, not_false_eq_true, Nat.add_zero, Int.toNat_natCast, iI_cl, iI_lt, iI_eq, gd_in, bI_eq0, bI_eq1, bI_isB, isB_0, isB_1, il_0, il_1, il_2, il_3, il_4, il_5, il_6, il_7, il_8, il_9, il_10, il_12, il_16, il_18, il_24, il_27, il_30, il_31, il_32, il_40, il_47, il_48, il_49, il_55, il_56, il_57, il_59, il_63, il_64, il_96, il_97, il_98, il_99, il_101, il_103, il_104, il_105, il_108, il_109, il_110, il_111, il_112, il_114, il_115, il_116, il_117, il_119, il_122, il_127, il_128, il_200, il_225, il_255, il_256, il_999, il_1575, il_9999, il_65536, il_252645135, il_858993459, il_1431655765]
    rcases (show k = 0 ∨ k = 1 ∨ k = 2 by omega) with rfl | rfl | rfl
    · obtain ⟨h', e1, e2⟩ := c_putAhead hn hnp w1 w2 hf
      have fr := fr_X7_putAhead _ _ _ _ _ _ e1
      simp (maxSteps := 3000000) (disch := omega) only [jl_e, jn_e, bd_e, gd_t, iI_add, iI_sub, iI_mul, iI_neg, if_true, if_false, not_true_eq_false, not_false_eq_true, Nat.add_zero, Int.toNat_natCast, iI_cl, iI_lt, iI_eq, gd_in, bI_eq0, bI_eq1, bI_isB, isB_0, isB_1, il_0, il_1, il_2, il_3, il_4, il_5, il_6, il_7, il_8, il_9, il_10, il_12, il_16, il_18, il_24, il_27, il_30, il_31, il_32, il_40, il_47, il_48, il_49, il_55, il_56, il_57, il_59, il_63, il_64, il_96, il_97, il_98, il_99, il_101, il_103, il_104, il_105, il_108, il_109, il_110, il_111, il_112, il_114, il_115, il_116, il_117, il_119, il_122, il_127, il_128, il_200, il_225, il_255, il_256, il_999, il_1575, il_9999, il_65536, il_252645135, il_858993459, il_1431655765, e1]
      refine ⟨h', rfl, fun p hp => ?_, fun j hj => ?_, fun j hj => ?_⟩
      · rw [e2 p hp, tb1 p hp]
        have rp := (hv p hp).2
        congr 1
        by_cases c1 : p < np ∧ (v p == 1) = true
        · rw [if_pos c1, bm_or]
          congr 1
          apply bm_congr
          intro q hq
          have rq := (hv q hq).2
          have c2 : v p = 1 := by simpa using c1.2
          rcases (show v q = -1 ∨ v q = 0 ∨ v q = 1 by omega) with y | y | y <;> simp [y, c2]
        · rw [if_neg c1]
          congr 1
          apply bm_congr
          intro q hq
          have rq := (hv q hq).2
          have c2 : ¬ v p = 1 := by
            intro y
            apply c1
            refine ⟨?_, by simp [y]⟩
            refine Nat.lt_of_not_le (fun z => ?_)
            have := rp.2.2 z
            omega
          rcases (show v q = -1 ∨ v q = 0 ∨ v q = 1 by omega) with y | y | y <;> rcases (show v p = -1 ∨ v p = 0 by omega) with x | x <;> simp [y, x]
      · rw [if_neg (by omega)]
        exact fr.ag (by simp) j
      · rw [if_neg (by omega)]
        exact fr.ag (by simp) j
    · obtain ⟨h', e1, e2⟩ := c_putAhead hn hnp w2 w1 hf
      have fr := fr_X7_putAhead _ _ _ _ _ _ e1
      simp (maxSteps := 3000000) (disch := omega) only [jl_e, jn_e, bd_e, gd_t, iI_add, iI_sub, iI_mul, iI_neg, if_true, if_false, not_true_eq_false, not_false_eq_true, Nat.add_zero, Int.toNat_natCast, iI_cl, iI_lt, iI_eq, gd_in, bI_eq0, bI_eq1, bI_isB, isB_0, isB_1, il_0, il_1, il_2, il_3, il_4, il_5, il_6, il_7, il_8, il_9, il_10, il_12, il_16, il_18, il_24, il_27, il_30, il_31, il_32, il_40, il_47, il_48, il_49, il_55, il_56, il_57, il_59, il_63, il_64, il_96, il_97, il_98, il_99, il_101, il_103, il_104, il_105, il_108, il_109, il_110, il_111, il_112, il_114, il_115, il_116, il_117, il_119, il_122, il_127, il_128, il_200, il_225, il_255, il_256, il_999, il_1575, il_9999, il_65536, il_252645135, il_858993459, il_1431655765, e1]
      refine ⟨h', rfl, fun p hp => ?_, fun j hj => ?_, fun j hj => ?_⟩
      · rw [e2 p hp, tb0 p hp]
        have rp := (hv p hp).2
        congr 1
        by_cases c1 : p < np ∧ (v p == 0) = true
        · rw [if_pos c1, bm_or]
          congr 1
          apply bm_congr
          intro q hq
          have rq := (hv q hq).2
          have c2 : v p = 0 := by simpa using c1.2
          rcases (show v q = -1 ∨ v q = 0 ∨ v q = 1 by omega) with y | y | y <;> simp [y, c2]
        · rw [if_neg c1]
          congr 1
          apply bm_congr
          intro q hq
          have rq := (hv q hq).2
          have c2 : ¬ v p = 0 := by
            intro y
            apply c1
            refine ⟨?_, by simp [y]⟩
            refine Nat.lt_of_not_le (fun z => ?_)
            have := rp.2.2 z
            omega
          rcases (show v q = -1 ∨ v q = 0 ∨ v q = 1 by omega) with y | y | y <;> rcases (show v p = -1 ∨ v p = 1 by omega) with x | x <;> simp [y, x]
      · rw [if_neg (by omega)]
        exact fr.ag (by simp) j
      · rw [if_neg (by omega)]
        exact fr.ag (by simp) j
    · (try simp (maxSteps := 3000000) (disch := omega) only [jl_e, jn_e, bd_e, gd_t, iI_add, iI_sub, iI_mul, iI_neg, if_true, if_false, not_true_eq_false, not_false_eq_true, Nat.add_zero, Int.toNat_natCast, iI_cl, iI_lt, iI_eq, gd_in, bI_eq0, bI_eq1, bI_isB, isB_0, isB_1, il_0, il_1, il_2, il_3, il_4, il_5, il_6, il_7, il_8, il_9, il_10, il_12, il_16, il_18, il_24, il_27, il_30, il_31, il_32, il_40, il_47, il_48, il_49, il_55, il_56, il_57, il_59, il_63, il_64, il_96, il_97, il_98, il_99, il_101, il_103, il_104, il_105, il_108, il_109, il_110, il_111, il_112, il_114, il_115, il_116, il_117, il_119, il_122, il_127, il_128, il_200, il_225, il_255, il_256, il_999, il_1575, il_9999, il_65536, il_252645135, il_858993459, il_1431655765])
      refine ⟨_, rfl, fun p hp => ?_, fun j hj => ?_, fun j hj => ?_⟩
      · simp (maxSteps := 3000000) (disch := omega) only [jl_e, jn_e, bd_e, gd_t, iI_add, iI_sub, iI_mul, iI_neg, if_true, if_false, not_true_eq_false, not_false_eq_true, Nat.add_zero, Int.toNat_natCast, iI_cl, iI_lt, iI_eq, gd_in, bI_eq0, bI_eq1, bI_isB, isB_0, isB_1, il_0, il_1, il_2, il_3, il_4, il_5, il_6, il_7, il_8, il_9, il_10, il_12, il_16, il_18, il_24, il_27, il_30, il_31, il_32, il_40, il_47, il_48, il_49, il_55, il_56, il_57, il_59, il_63, il_64, il_96, il_97, il_98, il_99, il_101, il_103, il_104, il_105, il_108, il_109, il_110, il_111, il_112, il_114, il_115, il_116, il_117, il_119, il_122, il_127, il_128, il_200, il_225, il_255, il_256, il_999, il_1575, il_9999, il_65536, il_252645135, il_858993459, il_1431655765, aG_aS_s, aG_aS_j, aG_aS_k, aG_aV_s, aG_aV_k, aG_sS, aG_lS, aG_lV, aG_tS, aG_oS, sG_aS, sG_lS, sG_aV, sG_lV, sG_tS, sG_oS, sG_sS_s, sG_sS_n, lG_lS_s, lG_lS_j, lG_lS_k, lG_lV_s, lG_lV_k, lG_sS, lG_aS, lG_aV, lG_tS, lG_oS, tG_sS, tG_aS, tG_aV, tG_lS, tG_lV, tG_tS_s, tG_tS_n, oG_sS, oG_aS, oG_aV, oG_lS, oG_lV, oG_oS_s]
        rw [hf p hp]
        congr 2
        apply bm_congr
        intro q hq
        simp
      · by_cases y : j = i
        · subst y
          simp (maxSteps := 3000000) (disch := omega) only [jl_e, jn_e, bd_e, gd_t, iI_add, iI_sub, iI_mul, iI_neg, if_true, if_false, not_true_eq_false, not_false_eq_true, Nat.add_zero, Int.toNat_natCast, iI_cl, iI_lt, iI_eq, gd_in, bI_eq0, bI_eq1, bI_isB, isB_0, isB_1, il_0, il_1, il_2, il_3, il_4, il_5, il_6, il_7, il_8, il_9, il_10, il_12, il_16, il_18, il_24, il_27, il_30, il_31, il_32, il_40, il_47, il_48, il_49, il_55, il_56, il_57, il_59, il_63, il_64, il_96, il_97, il_98, il_99, il_101, il_103, il_104, il_105, il_108, il_109, il_110, il_111, il_112, il_114, il_115, il_116, il_117, il_119, il_122, il_127, il_128, il_200, il_225, il_255, il_256, il_999, il_1575, il_9999, il_65536, il_252645135, il_858993459, il_1431655765, aG_aS_s, aG_aS_j, aG_aS_k, aG_aV_s, aG_aV_k, aG_sS, aG_lS, aG_lV, aG_tS, aG_oS, sG_aS, sG_lS, sG_aV, sG_lV, sG_tS, sG_oS, sG_sS_s, sG_sS_n, lG_lS_s, lG_lS_j, lG_lS_k, lG_lV_s, lG_lV_k, lG_sS, lG_aS, lG_aV, lG_tS, lG_oS, tG_sS, tG_aS, tG_aV, tG_lS, tG_lV, tG_tS_s, tG_tS_n, oG_sS, oG_aS, oG_aV, oG_lS, oG_lV, oG_oS_s]
          rw [if_pos ⟨trivial, trivial⟩]
        · simp (maxSteps := 3000000) (disch := omega) only [jl_e, jn_e, bd_e, gd_t, iI_add, iI_sub, iI_mul, iI_neg, if_true, if_false, not_true_eq_false, not_false_eq_true, Nat.add_zero, Int.toNat_natCast, iI_cl, iI_lt, iI_eq, gd_in, bI_eq0, bI_eq1, bI_isB, isB_0, isB_1, il_0, il_1, il_2, il_3, il_4, il_5, il_6, il_7, il_8, il_9, il_10, il_12, il_16, il_18, il_24, il_27, il_30, il_31, il_32, il_40, il_47, il_48, il_49, il_55, il_56, il_57, il_59, il_63, il_64, il_96, il_97, il_98, il_99, il_101, il_103, il_104, il_105, il_108, il_109, il_110, il_111, il_112, il_114, il_115, il_116, il_117, il_119, il_122, il_127, il_128, il_200, il_225, il_255, il_256, il_999, il_1575, il_9999, il_65536, il_252645135, il_858993459, il_1431655765, aG_aS_s, aG_aS_j, aG_aS_k, aG_aV_s, aG_aV_k, aG_sS, aG_lS, aG_lV, aG_tS, aG_oS, sG_aS, sG_lS, sG_aV, sG_lV, sG_tS, sG_oS, sG_sS_s, sG_sS_n, lG_lS_s, lG_lS_j, lG_lS_k, lG_lV_s, lG_lV_k, lG_sS, lG_aS, lG_aV, lG_tS, lG_oS, tG_sS, tG_aS, tG_aV, tG_lS, tG_lV, tG_tS_s, tG_tS_n, oG_sS, oG_aS, oG_aV, oG_lS, oG_lV, oG_oS_s]
          rw [if_neg (fun w => y w.1)]
      · by_cases y : j = i
        · subst y
          simp (maxSteps := 3000000) (disch := omega) only [jl_e, jn_e, bd_e, gd_t, iI_add, iI_sub, iI_mul, iI_neg, if_true, if_false, not_true_eq_false, not_false_eq_true, Nat.add_zero, Int.toNat_natCast, iI_cl, iI_lt, iI_eq, gd_in, bI_eq0, bI_eq1, bI_isB, isB_0, isB_1, il_0, il_1, il_2, il_3, il_4, il_5, il_6, il_7, il_8, il_9, il_10, il_12, il_16, il_18, il_24, il_27, il_30, il_31, il_32, il_40, il_47, il_48, il_49, il_55, il_56, il_57, il_59, il_63, il_64, il_96, il_97, il_98, il_99, il_101, il_103, il_104, il_105, il_108, il_109, il_110, il_111, il_112, il_114, il_115, il_116, il_117, il_119, il_122, il_127, il_128, il_200, il_225, il_255, il_256, il_999, il_1575, il_9999, il_65536, il_252645135, il_858993459, il_1431655765, aG_aS_s, aG_aS_j, aG_aS_k, aG_aV_s, aG_aV_k, aG_sS, aG_lS, aG_lV, aG_tS, aG_oS, sG_aS, sG_lS, sG_aV, sG_lV, sG_tS, sG_oS, sG_sS_s, sG_sS_n, lG_lS_s, lG_lS_j, lG_lS_k, lG_lV_s, lG_lV_k, lG_sS, lG_aS, lG_aV, lG_tS, lG_oS, tG_sS, tG_aS, tG_aV, tG_lS, tG_lV, tG_tS_s, tG_tS_n, oG_sS, oG_aS, oG_aV, oG_lS, oG_lV, oG_oS_s]
          rw [if_pos ⟨trivial, trivial⟩]
        · simp (maxSteps := 3000000) (disch := omega) only [jl_e, jn_e, bd_e, gd_t, iI_add, iI_sub, iI_mul, iI_neg, if_true, if_false, not_true_eq_false, not_false_eq_true, Nat.add_zero, Int.toNat_natCast, iI_cl, iI_lt, iI_eq, gd_in, bI_eq0, bI_eq1, bI_isB, isB_0, isB_1, il_0, il_1, il_2, il_3, il_4, il_5, il_6, il_7, il_8, il_9, il_10, il_12, il_16, il_18, il_24, il_27, il_30, il_31, il_32, il_40, il_47, il_48, il_49, il_55, il_56, il_57, il_59, il_63, il_64, il_96, il_97, il_98, il_99, il_101, il_103, il_104, il_105, il_108, il_109, il_110, il_111, il_112, il_114, il_115, il_116, il_117, il_119, il_122, il_127, il_128, il_200, il_225, il_255, il_256, il_999, il_1575, il_9999, il_65536, il_252645135, il_858993459, il_1431655765, aG_aS_s, aG_aS_j, aG_aS_k, aG_aV_s, aG_aV_k, aG_sS, aG_lS, aG_lV, aG_tS, aG_oS, sG_aS, sG_lS, sG_aV, sG_lV, sG_tS, sG_oS, sG_sS_s, sG_sS_n, lG_lS_s, lG_lS_j, lG_lS_k, lG_lV_s, lG_lV_k, lG_sS, lG_aS, lG_aV, lG_tS, lG_oS, tG_sS, tG_aS, tG_aV, tG_lS, tG_lV, tG_tS_s, tG_tS_n, oG_sS, oG_aS, oG_aV, oG_lS, oG_lV, oG_oS_s]
          rw [if_neg (fun w => y w.1)]
