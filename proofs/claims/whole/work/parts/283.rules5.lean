-- ===== who is before whom; the rules read; copies of them =====
def wa_b (f : Nat → Nat → Bool) : Nat → Nat → Nat → Bool
  | 0, q, p => f q p
  | k + 1, q, p => wa_b f k q p || (wa_b f k k p && wa_b f k q k)
def bf_b (a : Alb) (q p : Nat) : Bool := wa_b (ah_n a (al_k a).length) 7 q p
def RuC (t : Nat) (h : Hp) (a : Alb) : Prop := sG h (64 * t + 1) = iI (al_w a).length ∧ (∀ p, p < (al_w a).length → lG h (t + 1) p = lN (bm (wd_b a p) 48)) ∧ ThR t h a
def EaC (t : Nat) (h : Hp) (a : Alb) : Prop := ∀ p, p < 7 → aG h (t + 3) p = iI (bm (fun q => bf_b a q p) 7)
/-- rules for so many pictures, by a datum -/
abbrev RA : Type := Nat × RD
def RuR (t : Nat) (h : Hp) (x : RA) : Prop := sG h (64 * t + 1) = iI x.1 ∧ (∀ p, p < x.1 → lG h (t + 1) p = lN (bm (ro_w x.2 p) 48)) ∧ (∀ p, p < 7 → aG h (t + 2) p = iI (bm (fun q => ro_a x.2 q p) 7)) ∧ (∀ i, i < 6 → aG h (t + 4) i = iI (bm (ro_t x.2 i) 7) ∧ aG h (t + 5) i = iI (bm (ro_y x.2 i) 7))
theorem RuR.fr {t : Nat} {h h' : Hp} {a : RA} {S A : List Nat} (q : RuR t h a) (f : FrX S A h h') (n0 : 64 * t + 1 ∉ S) (n1 : t + 1 ∉ A) (n2 : t + 2 ∉ A) (n4 : t + 4 ∉ A) (n5 : t + 5 ∉ A) : RuR t h' a := by
  refine ⟨(f.sg n0).trans q.1, fun p hp => (f.lg n1 p).trans (q.2.1 p hp), fun p hp => (f.ag n2 p).trans (q.2.2.1 p hp), fun i hi => ?_⟩
  exact ⟨(f.ag n4 i).trans (q.2.2.2 i hi).1, (f.ag n5 i).trans (q.2.2.2 i hi).2⟩
def al_x (a : Alb) : RA := ((al_w a).length, al_r a)
theorem RuC.fr {t : Nat} {h h' : Hp} {a : Alb} {S A : List Nat} (q : RuC t h a) (f : FrX S A h h') (n0 : 64 * t + 1 ∉ S) (n1 : t + 1 ∉ A) (n2 : t + 2 ∉ A) (n4 : t + 4 ∉ A) (n5 : t + 5 ∉ A) : RuC t h' a := RuR.fr (a := al_x a) q f n0 n1 n2 n4 n5
theorem al_r_ok {a : Alb} : ro_ok (al_r a) := by
  refine ⟨fun p => ?_, fun t p h => ?_⟩
  · show ah_n a (al_k a).length p p = false
    unfold ah_n
    cases hc : (List.range (al_k a).length).any (fun t => ah_b a t p p) with
    | false => rfl
    | true =>
      obtain ⟨t, -, ht⟩ := List.any_eq_true.1 hc
      unfold ah_b at ht
      have e : decide (th_v a p t < th_v a p t) = false := decide_eq_false (by omega)
      rw [e] at ht
      simp at ht
  · have h1 : (decide (t < (al_k a).length) && (al_kd a t == 2) && (th_v a p t == 1)) = true := h
    show (decide (t < (al_k a).length) && (al_kd a t == 2) && (th_v a p t == 0)) = false
    rw [Bool.and_eq_true, beq_iff_eq] at h1
    rw [h1.2]
    simp
theorem c_chain {t : Nat} {h : Hp} {f : Nat → Nat → Bool} (hf : ∀ p, p < 7 → aG h (t + 2) p = iI (bm (fun q => f q p) 7)) : ∃ h', F_X7_chainAhead t h = some ((), h') ∧ (∀ p, p < 7 → aG h' (t + 3) p = iI (bm (fun q => wa_b f 7 q p) 7)) := by
  have e : cpB (0 : Int32) (0 : Int32) (7 : Int32) 7 7 = true := by decide
  have e0 : (0 : Int32).toNatClampNeg = 0 := by decide
  have e1 : (7 : Int32).toNatClampNeg = 7 := by decide
  unfold F_X7_chainAhead
  rw [gd_e e, jl_e, e0, e1]
  refine lp_up (α := Int32 → Hp → Option (Unit × Hp)) (P := fun k c => ∀ h1, (∀ p, p < 7 → aG h1 (t + 3) p = iI (bm (fun q => wa_b f k q p) 7)) → ∃ h', c (iI k) h1 = some ((), h') ∧ (∀ p, p < 7 → aG h' (t + 3) p = iI (bm (fun q => wa_b f 7 q p) 7))) 7 (by omega) (fun k c hk ih => ?_) _ (fun p hp => ?_)
  · intro h1 i1
    by_cases z : k < 7
    · simp (maxSteps := 3000000) (implicitDefEqProofs := false) (disch := omega) only [jl_e, jn_e, bd_e, gd_t, iI_add, iI_sub, iI_mul, iI_neg, if_true, if_false, not_true_eq_false, not_false_eq_true, Int.reduceEq, Nat.add_zero, Int.toNat_natCast, iI_cl, iI_lt, iI_eq, gd_in, bI_eq0, bI_eq1, bI_isB, isB_0, isB_1, il_0, il_1, il_2, il_3, il_4, il_5, il_6, il_7, il_8, il_9, il_10, il_12, il_16, il_18, il_24, il_27, il_30, il_31, il_32, il_40, il_47, il_48, il_49, il_55, il_56, il_57, il_59, il_63, il_64, il_96, il_97, il_98, il_99, il_101, il_103, il_104, il_105, il_108, il_109, il_110, il_111, il_112, il_114, il_115, il_116, il_117, il_119, il_122, il_127, il_128, il_200, il_225, il_255, il_256, il_999, il_1575, il_9999, il_65536, il_252645135, il_858993459, il_1431655765]
      rw [if_pos (by omega)]
      refine lp_up (α := Int32 → Hp → Option (Unit × Hp)) (P := fun j c => ∀ h2, (∀ p, p < 7 → aG h2 (t + 3) p = iI (bm (fun q => if p < j then wa_b f (k + 1) q p else wa_b f k q p) 7)) → ∃ h', c (iI j) h2 = some ((), h') ∧ (∀ p, p < 7 → aG h' (t + 3) p = iI (bm (fun q => wa_b f 7 q p) 7))) 7 (by omega) (fun j c hj jh => ?_) _ (fun p hp => by rw [i1 p hp]; simp)
      intro h2 j1
      by_cases y : j < 7
      · have ej := j1 j y
        have ek := j1 k z
        simp only [Nat.lt_irrefl, if_false] at ej
        have ek2 : aG h2 (t + 3) k = iI (bm (fun q => wa_b f k q k) 7) := by
          rw [ek]
          congr 2
          apply bm_congr
          intro q hq
          by_cases u : k < j
          · rw [if_pos u]
            show (wa_b f k q k || (wa_b f k k k && wa_b f k q k)) = wa_b f k q k
            cases wa_b f k q k <;> simp
          · rw [if_neg u]
        simp (maxSteps := 3000000) (implicitDefEqProofs := false) (disch := omega) only [jl_e, jn_e, bd_e, gd_t, iI_add, iI_sub, iI_mul, iI_neg, if_true, if_false, not_true_eq_false, not_false_eq_true, Int.reduceEq, Nat.add_zero, Int.toNat_natCast, iI_cl, iI_lt, iI_eq, gd_in, bI_eq0, bI_eq1, bI_isB, isB_0, isB_1, il_0, il_1, il_2, il_3, il_4, il_5, il_6, il_7, il_8, il_9, il_10, il_12, il_16, il_18, il_24, il_27, il_30, il_31, il_32, il_40, il_47, il_48, il_49, il_55, il_56, il_57, il_59, il_63, il_64, il_96, il_97, il_98, il_99, il_101, il_103, il_104, il_105, il_108, il_109, il_110, il_111, il_112, il_114, il_115, il_116, il_117, il_119, il_122, il_127, il_128, il_200, il_225, il_255, il_256, il_999, il_1575, il_9999, il_65536, il_252645135, il_858993459, il_1431655765, ej, ek2, c_hasBit (bm_7 (fun q => wa_b f k q j)) (show k < 8 by omega), ms_or]
        rw [if_pos (by omega)]
        have tb : (bm (fun q => wa_b f k q j) 7).testBit k = wa_b f k k j := by rw [bm_tb]; simp [z]
        rw [tb]
        by_cases w : wa_b f k k j = true
        · rw [if_neg (fun q => q w)]
          refine jh y _ (fun p hp => ?_)
          by_cases u : p = j
          · subst u
            rw [aG_aS_s, bm_or]
            congr 2
            apply bm_congr
            intro q hq
            rw [if_pos (by omega)]
            show _ = (wa_b f k q p || (wa_b f k k p && wa_b f k q k))
            rw [w]
            simp
          · rw [aG_aS_j u, j1 p hp]
            congr 2
            apply bm_congr
            intro q hq
            by_cases v : p < j
            · rw [if_pos v, if_pos (by omega)]
            · rw [if_neg v, if_neg (by omega)]
        · rw [if_pos w]
          refine jh y _ (fun p hp => ?_)
          rw [j1 p hp]
          congr 2
          apply bm_congr
          intro q hq
          by_cases u : p = j
          · subst u
            rw [if_neg (by omega), if_pos (by omega)]
            show _ = (wa_b f k q p || (wa_b f k k p && wa_b f k q k))
            have w2 : wa_b f k k p = false := by simpa using w
            rw [w2]
            simp
          · by_cases v : p < j
            · rw [if_pos v, if_pos (by omega)]
            · rw [if_neg v, if_neg (by omega)]
      · simp (maxSteps := 3000000) (implicitDefEqProofs := false) (disch := omega) only [jl_e, jn_e, bd_e, gd_t, iI_add, iI_sub, iI_mul, iI_neg, if_true, if_false, not_true_eq_false, not_false_eq_true, Int.reduceEq, Nat.add_zero, Int.toNat_natCast, iI_cl, iI_lt, iI_eq, gd_in, bI_eq0, bI_eq1, bI_isB, isB_0, isB_1, il_0, il_1, il_2, il_3, il_4, il_5, il_6, il_7, il_8, il_9, il_10, il_12, il_16, il_18, il_24, il_27, il_30, il_31, il_32, il_40, il_47, il_48, il_49, il_55, il_56, il_57, il_59, il_63, il_64, il_96, il_97, il_98, il_99, il_101, il_103, il_104, il_105, il_108, il_109, il_110, il_111, il_112, il_114, il_115, il_116, il_117, il_119, il_122, il_127, il_128, il_200, il_225, il_255, il_256, il_999, il_1575, il_9999, il_65536, il_252645135, il_858993459, il_1431655765]
        rw [if_neg (by omega)]
        refine ih z _ (fun p hp => ?_)
        rw [j1 p hp]
        congr 2
        apply bm_congr
        intro q hq
        rw [if_pos (by omega)]
    · simp (maxSteps := 3000000) (implicitDefEqProofs := false) (disch := omega) only [jl_e, jn_e, bd_e, gd_t, iI_add, iI_sub, iI_mul, iI_neg, if_true, if_false, not_true_eq_false, not_false_eq_true, Int.reduceEq, Nat.add_zero, Int.toNat_natCast, iI_cl, iI_lt, iI_eq, gd_in, bI_eq0, bI_eq1, bI_isB, isB_0, isB_1, il_0, il_1, il_2, il_3, il_4, il_5, il_6, il_7, il_8, il_9, il_10, il_12, il_16, il_18, il_24, il_27, il_30, il_31, il_32, il_40, il_47, il_48, il_49, il_55, il_56, il_57, il_59, il_63, il_64, il_96, il_97, il_98, il_99, il_101, il_103, il_104, il_105, il_108, il_109, il_110, il_111, il_112, il_114, il_115, il_116, il_117, il_119, il_122, il_127, il_128, il_200, il_225, il_255, il_256, il_999, il_1575, il_9999, il_65536, il_252645135, il_858993459, il_1431655765]
      rw [if_neg (by omega)]
      refine ⟨_, rfl, fun p hp => ?_⟩
      rw [i1 p hp, show k = 7 by omega]
  · rw [aG_aV_s, pk_cpy_in (by omega) (by omega)]
    have := hf p hp
    simp only [Nat.zero_add, Nat.sub_zero]
    exact this
theorem c_min {x y : Int} (hx : -2147483648 ≤ x ∧ x < 2147483648) (hy : -2147483648 ≤ y ∧ y < 2147483648) (h : Hp) : F_J9_min_7cf53 (iI x) (iI y) h = some (iI (if x ≤ y then x else y), h) := by
  unfold F_J9_min_7cf53
  simp (maxSteps := 3000000) (implicitDefEqProofs := false) (disch := omega) only [jl_e, jn_e, bd_e, gd_t, iI_add, iI_sub, iI_mul, iI_neg, if_true, if_false, not_true_eq_false, not_false_eq_true, Int.reduceEq, Nat.add_zero, Int.toNat_natCast, iI_cl, iI_lt, iI_eq, gd_in, bI_eq0, bI_eq1, bI_isB, isB_0, isB_1, il_0, il_1, il_2, il_3, il_4, il_5, il_6, il_7, il_8, il_9, il_10, il_12, il_16, il_18, il_24, il_27, il_30, il_31, il_32, il_40, il_47, il_48, il_49, il_55, il_56, il_57, il_59, il_63, il_64, il_96, il_97, il_98, il_99, il_101, il_103, il_104, il_105, il_108, il_109, il_110, il_111, il_112, il_114, il_115, il_116, il_117, il_119, il_122, il_127, il_128, il_200, il_225, il_255, il_256, il_999, il_1575, il_9999, il_65536, il_252645135, il_858993459, il_1431655765]
  (repeat' split) <;> (try (first | rfl | (rw [bI_t (by omega)]) | (rw [bI_f (by omega)]) | (exfalso; omega) | (exact congrArg (fun z => some (iI z, _)) (by omega))))
theorem c_max {x y : Int} (hx : -2147483648 ≤ x ∧ x < 2147483648) (hy : -2147483648 ≤ y ∧ y < 2147483648) (h : Hp) : F_J9_max_7cf53 (iI x) (iI y) h = some (iI (if x ≤ y then y else x), h) := by
  unfold F_J9_max_7cf53
  simp (maxSteps := 3000000) (implicitDefEqProofs := false) (disch := omega) only [jl_e, jn_e, bd_e, gd_t, iI_add, iI_sub, iI_mul, iI_neg, if_true, if_false, not_true_eq_false, not_false_eq_true, Int.reduceEq, Nat.add_zero, Int.toNat_natCast, iI_cl, iI_lt, iI_eq, gd_in, bI_eq0, bI_eq1, bI_isB, isB_0, isB_1, il_0, il_1, il_2, il_3, il_4, il_5, il_6, il_7, il_8, il_9, il_10, il_12, il_16, il_18, il_24, il_27, il_30, il_31, il_32, il_40, il_47, il_48, il_49, il_55, il_56, il_57, il_59, il_63, il_64, il_96, il_97, il_98, il_99, il_101, il_103, il_104, il_105, il_108, il_109, il_110, il_111, il_112, il_114, il_115, il_116, il_117, il_119, il_122, il_127, il_128, il_200, il_225, il_255, il_256, il_999, il_1575, il_9999, il_65536, il_252645135, il_858993459, il_1431655765]
  (repeat' split) <;> (try (first | rfl | (rw [bI_t (by omega)]) | (rw [bI_f (by omega)]) | (exfalso; omega) | (exact congrArg (fun z => some (iI z, _)) (by omega))))
theorem c_read {t c : Nat} {h : Hp} {a : Alb} (hA : AlC c h a) (hc : c + 9 ≤ t ∨ t + 7 ≤ c) : ∃ h', F_X7_read t c h = some ((), h') ∧ sG h' (64 * t) = iI 1 ∧ RuC t h' a ∧ EaC t h' a := by
  have hnp := hA.1.2.1
  unfold F_X7_read
  simp (maxSteps := 3000000) (implicitDefEqProofs := false) (disch := omega) only [jl_e, jn_e, bd_e, gd_t, iI_add, iI_sub, iI_mul, iI_neg, if_true, if_false, not_true_eq_false, not_false_eq_true, Int.reduceEq, Nat.add_zero, Int.toNat_natCast, iI_cl, iI_lt, iI_eq, gd_in, bI_eq0, bI_eq1, bI_isB, isB_0, isB_1, il_0, il_1, il_2, il_3, il_4, il_5, il_6, il_7, il_8, il_9, il_10, il_12, il_16, il_18, il_24, il_27, il_30, il_31, il_32, il_40, il_47, il_48, il_49, il_55, il_56, il_57, il_59, il_63, il_64, il_96, il_97, il_98, il_99, il_101, il_103, il_104, il_105, il_108, il_109, il_110, il_111, il_112, il_114, il_115, il_116, il_117, il_119, il_122, il_127, il_128, il_200, il_225, il_255, il_256, il_999, il_1575, il_9999, il_65536, il_252645135, il_858993459, il_1431655765, hA.2.1, c_min (show -2147483648 ≤ ((al_w a).length : Int) ∧ ((al_w a).length : Int) < 2147483648 by omega) (show -2147483648 ≤ (7 : Int) ∧ (7 : Int) < 2147483648 by omega)]
  rw [if_pos (by omega)]
  have f0 : FrX [64 * t, 64 * t + 1] [t + 1, t + 2, t + 3, t + 4, t + 5, t + 6] h (sS h (64 * t + 1) (iI (al_w a).length)) := (FrX.refl _ _ h).sS (by simp) _
  have nS : ∀ v, v ∈ [64 * t, 64 * t + 1] → v < 64 * c ∨ 64 * c + 576 ≤ v := by
    intro v hv
    simp only [List.mem_cons, List.not_mem_nil, or_false] at hv
    omega
  have nA : ∀ k, k ∈ [t + 1, t + 2, t + 3, t + 4, t + 5, t + 6] → (k < c ∨ c + 9 ≤ k) := by
    intro k hk
    simp only [List.mem_cons, List.not_mem_nil, or_false] at hk
    omega
  refine lp_up (α := Int32 → Hp → Option (Unit × Hp)) (P := fun k c6 => ∀ (v : Int32) (h1 : Hp), v = iI k → FrX [64 * t, 64 * t + 1] [t + 1, t + 2, t + 3, t + 4, t + 5, t + 6] h h1 → sG h1 (64 * t + 1) = iI (al_w a).length → (∀ p, p < k → lG h1 (t + 1) p = lN (bm (wd_b a p) 48)) → ∃ h', c6 v h1 = some ((), h') ∧ sG h' (64 * t) = iI 1 ∧ RuC t h' a ∧ EaC t h' a) (al_w a).length (by omega) (fun k c6 hk ih => ?_) _ _ rfl f0 (sG_sS_s _ _ _) (fun p hp => absurd hp (Nat.not_lt_zero p))
  intro v h1 hv g0 g1 g2
  subst hv
  have hA1 := hA.fr g0 nS nA
  by_cases z : k < (al_w a).length
  · obtain ⟨h2, e1, e2, e3⟩ := c_readWindow (t := t) (c := c) (b := c + 2) (h := h1) (a := a) hA1.2.2.2.1 hA1.2.2.2.2.1 (p := k) (by omega)
    have fr := fr_X7_readWindow _ _ _ _ _ _ _ e1
    simp (maxSteps := 3000000) (implicitDefEqProofs := false) (disch := omega) only [jl_e, jn_e, bd_e, gd_t, iI_add, iI_sub, iI_mul, iI_neg, if_true, if_false, not_true_eq_false, not_false_eq_true, Int.reduceEq, Nat.add_zero, Int.toNat_natCast, iI_cl, iI_lt, iI_eq, gd_in, bI_eq0, bI_eq1, bI_isB, isB_0, isB_1, il_0, il_1, il_2, il_3, il_4, il_5, il_6, il_7, il_8, il_9, il_10, il_12, il_16, il_18, il_24, il_27, il_30, il_31, il_32, il_40, il_47, il_48, il_49, il_55, il_56, il_57, il_59, il_63, il_64, il_96, il_97, il_98, il_99, il_101, il_103, il_104, il_105, il_108, il_109, il_110, il_111, il_112, il_114, il_115, il_116, il_117, il_119, il_122, il_127, il_128, il_200, il_225, il_255, il_256, il_999, il_1575, il_9999, il_65536, il_252645135, il_858993459, il_1431655765, g1, e1]
    rw [if_pos (by omega)]
    refine ih z _ h2 (iI_cg (by omega)) (g0.sub fr (by simp) (by simp)) ((fr.sg (by simp)).trans g1) (fun p hp => ?_)
    by_cases y : p = k
    · subst y; exact e2
    · rw [e3 p y]; exact g2 p (by omega)
  · obtain ⟨h2, e1, e2⟩ := c_readThings (t := t) (c := c) (b := c + 2) (h := h1) (a0 := a) (L := al_p a) hA1 hA1.2.2.2.2.1 hA.1 g1 hc (by omega)
    have fr := fr_X7_readThings _ _ _ _ _ _ e1
    obtain ⟨h3, e3, e4⟩ := c_chain (t := t) (h := h2) (f := ah_n a (al_k a).length) e2.1
    have fr2 := fr_X7_chainAhead _ _ _ _ e3
    simp (maxSteps := 3000000) (implicitDefEqProofs := false) (disch := omega) only [jl_e, jn_e, bd_e, gd_t, iI_add, iI_sub, iI_mul, iI_neg, if_true, if_false, not_true_eq_false, not_false_eq_true, Int.reduceEq, Nat.add_zero, Int.toNat_natCast, iI_cl, iI_lt, iI_eq, gd_in, bI_eq0, bI_eq1, bI_isB, isB_0, isB_1, il_0, il_1, il_2, il_3, il_4, il_5, il_6, il_7, il_8, il_9, il_10, il_12, il_16, il_18, il_24, il_27, il_30, il_31, il_32, il_40, il_47, il_48, il_49, il_55, il_56, il_57, il_59, il_63, il_64, il_96, il_97, il_98, il_99, il_101, il_103, il_104, il_105, il_108, il_109, il_110, il_111, il_112, il_114, il_115, il_116, il_117, il_119, il_122, il_127, il_128, il_200, il_225, il_255, il_256, il_999, il_1575, il_9999, il_65536, il_252645135, il_858993459, il_1431655765, g1, e1, e3]
    rw [if_neg (by omega)]
    refine ⟨_, rfl, sG_sS_s _ _ _, ?_, ?_⟩
    · refine RuC.fr (S := [64 * t]) (A := [t + 3]) (h := h2) ⟨(fr.sg (by simp)).trans g1, fun p hp => (fr.lg (by simp) p).trans (g2 p (by omega)), e2⟩ ((fr2.mono (by simp) (by simp)).sS (by simp) _) ?_ ?_ ?_ ?_ ?_ <;> simp
    · intro p hp
      exact e4 p hp
/-- a copy of the rules -/
theorem c_rcopy {t b : Nat} {h : Hp} {a : Alb} (q : RuC b h a) (hnp : (al_w a).length ≤ 7) (n : b + 6 < t ∨ t + 6 < b) : ∃ h', F_X7_copyFrom t b h = some ((), h') ∧ RuC t h' a := by
  have e : cpB (0 : Int32) (0 : Int32) (7 : Int32) 7 7 = true := by decide
  have e2 : cpB (0 : Int32) (0 : Int32) (6 : Int32) 6 6 = true := by decide
  have e0 : (0 : Int32).toNatClampNeg = 0 := by decide
  have e1 : (7 : Int32).toNatClampNeg = 7 := by decide
  have e3 : (6 : Int32).toNatClampNeg = 6 := by decide
  unfold F_X7_copyFrom
  simp only [jl_e, gd_e e, gd_e e2, e0, e1, e3, Nat.add_zero]
  refine ⟨_, rfl, ?_, fun p hp => ?_, fun p hp => ?_, fun i hi => ?_⟩
  · simp (disch := omega) only [aG_aS_s, aG_aS_j, aG_aS_k, aG_aV_s, aG_aV_k, aG_sS, aG_lS, aG_lV, aG_tS, aG_oS, sG_aS, sG_lS, sG_aV, sG_lV, sG_tS, sG_oS, sG_sS_s, sG_sS_n, lG_lS_s, lG_lS_j, lG_lS_k, lG_lV_s, lG_lV_k, lG_sS, lG_aS, lG_aV, lG_tS, lG_oS, tG_sS, tG_aS, tG_aV, tG_lS, tG_lV, tG_tS_s, tG_tS_n, oG_sS, oG_aS, oG_aV, oG_lS, oG_lV, oG_oS_s]
    exact q.1
  · simp (disch := omega) only [aG_aS_s, aG_aS_j, aG_aS_k, aG_aV_s, aG_aV_k, aG_sS, aG_lS, aG_lV, aG_tS, aG_oS, sG_aS, sG_lS, sG_aV, sG_lV, sG_tS, sG_oS, sG_sS_s, sG_sS_n, lG_lS_s, lG_lS_j, lG_lS_k, lG_lV_s, lG_lV_k, lG_sS, lG_aS, lG_aV, lG_tS, lG_oS, tG_sS, tG_aS, tG_aV, tG_lS, tG_lV, tG_tS_s, tG_tS_n, oG_sS, oG_aS, oG_aV, oG_lS, oG_lV, oG_oS_s, pk_cpy_in, Nat.zero_add, Nat.sub_zero]
    exact q.2.1 p hp
  · simp (disch := omega) only [aG_aS_s, aG_aS_j, aG_aS_k, aG_aV_s, aG_aV_k, aG_sS, aG_lS, aG_lV, aG_tS, aG_oS, sG_aS, sG_lS, sG_aV, sG_lV, sG_tS, sG_oS, sG_sS_s, sG_sS_n, lG_lS_s, lG_lS_j, lG_lS_k, lG_lV_s, lG_lV_k, lG_sS, lG_aS, lG_aV, lG_tS, lG_oS, tG_sS, tG_aS, tG_aV, tG_lS, tG_lV, tG_tS_s, tG_tS_n, oG_sS, oG_aS, oG_aV, oG_lS, oG_lV, oG_oS_s, pk_cpy_in, Nat.zero_add, Nat.sub_zero, aF_aV_n, aF_sS, aF_lV]
    exact q.2.2.1 p hp
  · obtain ⟨a1, b1⟩ := q.2.2.2 i hi
    rw [← a1, ← b1]
    simp (disch := omega) only [aG_aS_s, aG_aS_j, aG_aS_k, aG_aV_s, aG_aV_k, aG_sS, aG_lS, aG_lV, aG_tS, aG_oS, sG_aS, sG_lS, sG_aV, sG_lV, sG_tS, sG_oS, sG_sS_s, sG_sS_n, lG_lS_s, lG_lS_j, lG_lS_k, lG_lV_s, lG_lV_k, lG_sS, lG_aS, lG_aV, lG_tS, lG_oS, tG_sS, tG_aS, tG_aV, tG_lS, tG_lV, tG_tS_s, tG_tS_n, oG_sS, oG_aS, oG_aV, oG_lS, oG_lV, oG_oS_s, pk_cpy_in, Nat.zero_add, Nat.sub_zero, aF_aV_n, aF_sS, aF_lV]
    refine ⟨?_, ?_⟩ <;> rfl
