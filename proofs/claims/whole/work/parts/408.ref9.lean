-- ===== the reference: who is before whom =====
theorem wa_sub (f : Nat → Nat → Bool) {q p : Nat} (h : f q p = true) : ∀ k, wa_b f k q p = true
  | 0 => h
  | k + 1 => by
    show (wa_b f k q p || _) = true
    rw [wa_sub f h k, Bool.true_or]
theorem wa_s (f : Nat → Nat → Bool) (k q p : Nat) : wa_b f (k + 1) q p = true ↔ wa_b f k q p = true ∨ (wa_b f k k p = true ∧ wa_b f k q k = true) := by
  show (wa_b f k q p || (wa_b f k k p && wa_b f k q k)) = true ↔ _
  rw [Bool.or_eq_true, Bool.and_eq_true]
theorem wa_tr (f : Nat → Nat → Bool) : ∀ (k q j p : Nat), j < k → wa_b f k q j = true → wa_b f k j p = true → wa_b f k q p = true
  | 0, _, _, _, h, _, _ => absurd h (Nat.not_lt_zero _)
  | k + 1, q, j, p, hj, h1, h2 => by
    have tr := wa_tr f k
    rw [wa_s] at h1 h2 ⊢
    by_cases e : j = k
    · subst e
      have a1 : wa_b f j q j = true := h1.elim id (fun z => z.2)
      have a2 : wa_b f j j p = true := h2.elim id (fun z => z.1)
      exact Or.inr ⟨a2, a1⟩
    · have hj : j < k := by omega
      rcases h1 with a | ⟨a1, a2⟩
      · rcases h2 with b | ⟨b1, b2⟩
        · exact Or.inl (tr q j p hj a b)
        · exact Or.inr ⟨b1, tr q j k hj a b2⟩
      · rcases h2 with b | ⟨b1, b2⟩
        · exact Or.inr ⟨tr k j p hj a1 b, a2⟩
        · exact Or.inr ⟨b1, a2⟩
/-- what holds of all that one is ahead of, and goes on, holds of all that it is before -/
theorem wa_min (f : Nat → Nat → Bool) (X : Nat → Prop) (cl : ∀ k, k < 7 → X k → ∀ p, f k p = true → X p) : ∀ k, k ≤ 7 → ∀ q p, (∀ p, f q p = true → X p) → wa_b f k q p = true → X p
  | 0, _, q, p, h0, h => h0 p h
  | k + 1, hk, q, p, h0, h => by
    have ih := wa_min f X cl k (by omega)
    rcases (wa_s f k q p).1 h with a | ⟨a1, a2⟩
    · exact ih q p h0 a
    · exact ih k p (fun p hp => cl k (by omega) (ih q k h0 a2) p hp) a1
theorem th_v_np {a : Alb} (h : al_ok a) {p t : Nat} (ht : t < 6) (e : th_v a p t ≠ -1) : p < (al_w a).length := by
  have s := pc_v_rng h.hp (8 * p + (2 + t))
  have w : pc_ix (al_p a) (8 * p + (2 + t)) < (al_p a).length := by
    by_cases w : pc_ix (al_p a) (8 * p + (2 + t)) < (al_p a).length
    · exact w
    · exact absurd (s.2.2.2 w) e
  have k := pc_ix_key w
  have := (h.2.2.2.2.2.2 _ w).1
  rw [k] at this
  omega
theorem ah_np {a : Alb} (h : al_ok a) : ∀ i, i ≤ 6 → ∀ q p, ah_n a i q p = true → q < (al_w a).length ∧ p < (al_w a).length
  | 0, _, q, p, e => Bool.noConfusion e
  | i + 1, hi, q, p, e => by
    rw [ah_n_succ, Bool.or_eq_true] at e
    rcases e with e | e
    · exact ah_np h i (by omega) q p e
    · have := (ah_b_iff a i q p).1 e
      exact ⟨th_v_np h (by omega) this.1, th_v_np h (by omega) this.2.1⟩
theorem m_isBefore {h : Hp} {a : Alb} (q : AmC h a) {x y : Nat} (hx : x < 7) (hy : y < 7) : F_X12_isBefore (iI x) (iI y) h = some (bI (bf_b a x y = true), h) := by
  have h7 := q.1.2.1
  have h6 := q.1.2.2.1
  obtain ⟨f, hf⟩ : ∃ f, f = ah_n a (al_k a).length := ⟨_, rfl⟩
  have fnp : ∀ i j, f i j = true → i < (al_w a).length ∧ j < (al_w a).length := fun i j e => ah_np q.1 _ h6 i j (by rw [← hf]; exact e)
  have ah : ∀ i j : Nat, i < 7 → j < 7 → F_X12_isAhead (iI i) (iI j) h = some (bI (f i j = true), h) := fun i j hi hj => by rw [hf]; exact m_isAhead q hi hj
  have bf : ∀ p, bf_b a x p = wa_b f 7 x p := fun p => by rw [hf]; rfl
  unfold F_X12_isBefore
  refine lp_up (α := Int32 → Int32 → Hp → Option (Int32 × Hp)) (P := fun k c => ∀ v, v = iI (bm (f x) k : Int) → c v (iI k) h = some (bI (bf_b a x y = true), h)) (al_w a).length (by omega) (fun k c hk ih v hv => ?_) _ rfl
  subst hv
  by_cases z : k < (al_w a).length
  · have ih := ih z
    simp (maxSteps := 3000000) (implicitDefEqProofs := false) (disch := omega) only [jl_e, jn_e, bd_e, gd_t, iI_add, iI_sub, iI_mul, iI_neg, if_true, if_false, not_true_eq_false, not_false_eq_true, Int.reduceEq, Nat.add_zero, Int.toNat_natCast, iI_cl, iI_lt, iI_eq, gd_in, bI_eq0, bI_eq1, bI_isB, isB_0, isB_1, il_0, il_1, il_2, il_3, il_4, il_5, il_6, il_7, il_8, il_9, il_10, il_12, il_16, il_18, il_24, il_27, il_30, il_31, il_32, il_40, il_47, il_48, il_49, il_55, il_56, il_57, il_59, il_63, il_64, il_96, il_97, il_98, il_99, il_101, il_103, il_104, il_105, il_108, il_109, il_110, il_111, il_112, il_114, il_115, il_116, il_117, il_119, il_122, il_127, il_128, il_200, il_225, il_255, il_256, il_999, il_1575, il_9999, il_65536, il_252645135, il_858993459, il_1431655765, q.np, ah x k hx (by omega), ms_shl k (by omega)]
    rw [if_pos (by omega)]
    have eb : bm (f x) (k + 1) = bm (f x) k ||| (if f x k then 2 ^ k else 0) := rfl
    rw [eb] at ih
    by_cases c1 : f x k = true
    · rw [if_neg (fun u => u c1)]
      refine ih _ ?_
      rw [if_pos c1, ms_or]
    · rw [if_pos c1]
      refine ih _ ?_
      rw [if_neg c1, Nat.or_zero]
      exact (ms_or _ 0).trans (by rw [Nat.or_zero])
  · have ek : k = (al_w a).length := by omega
    subst ek
    clear ih
    simp (maxSteps := 3000000) (implicitDefEqProofs := false) (disch := omega) only [jl_e, jn_e, bd_e, gd_t, iI_add, iI_sub, iI_mul, iI_neg, if_true, if_false, not_true_eq_false, not_false_eq_true, Int.reduceEq, Nat.add_zero, Int.toNat_natCast, iI_cl, iI_lt, iI_eq, gd_in, bI_eq0, bI_eq1, bI_isB, isB_0, isB_1, il_0, il_1, il_2, il_3, il_4, il_5, il_6, il_7, il_8, il_9, il_10, il_12, il_16, il_18, il_24, il_27, il_30, il_31, il_32, il_40, il_47, il_48, il_49, il_55, il_56, il_57, il_59, il_63, il_64, il_96, il_97, il_98, il_99, il_101, il_103, il_104, il_105, il_108, il_109, il_110, il_111, il_112, il_114, il_115, il_116, il_117, il_119, il_122, il_127, il_128, il_200, il_225, il_255, il_256, il_999, il_1575, il_9999, il_65536, il_252645135, il_858993459, il_1431655765, q.np]
    rw [if_neg (by omega)]
    have b0 : bm (f x) (al_w a).length < 128 := Nat.lt_of_lt_of_le (bm_lt _ _) (Nat.pow_le_pow_right (by decide) h7)
    refine lp_ms (α := Int32 → Int32 → Hp → Option (Int32 × Hp)) (P := fun k c => ∀ M T : Nat, M < 128 → T < 128 → 128 - M ≤ k → (∀ i, M.testBit i = true → T.testBit i = true) → (∀ p, f x p = true → T.testBit p = true) → (∀ i, M.testBit i = true → ∀ j, f i j = true → T.testBit j = true) → (∀ i, T.testBit i = true → wa_b f 7 x i = true) → c (iI (M : Int)) (iI (T : Int)) h = some (bI (bf_b a x y = true), h)) 128 (by omega) (fun k c hk ih M T hM hT hk2 t1 t2 t3 t4 => ?_) 0 (bm (f x) (al_w a).length) (by omega) b0 (by omega) (fun i t => by rw [Nat.zero_testBit] at t; exact Bool.noConfusion t) (fun p t => ?_) (fun i t => by rw [Nat.zero_testBit] at t; exact Bool.noConfusion t) (fun i t => ?_)
    · by_cases eMT : T = M
      · subst eMT
        simp (maxSteps := 3000000) (implicitDefEqProofs := false) (disch := omega) only [jl_e, jn_e, bd_e, gd_t, iI_add, iI_sub, iI_mul, iI_neg, if_true, if_false, not_true_eq_false, not_false_eq_true, Int.reduceEq, Nat.add_zero, Int.toNat_natCast, iI_cl, iI_lt, iI_eq, gd_in, bI_eq0, bI_eq1, bI_isB, isB_0, isB_1, il_0, il_1, il_2, il_3, il_4, il_5, il_6, il_7, il_8, il_9, il_10, il_12, il_16, il_18, il_24, il_27, il_30, il_31, il_32, il_40, il_47, il_48, il_49, il_55, il_56, il_57, il_59, il_63, il_64, il_96, il_97, il_98, il_99, il_101, il_103, il_104, il_105, il_108, il_109, il_110, il_111, il_112, il_114, il_115, il_116, il_117, il_119, il_122, il_127, il_128, il_200, il_225, il_255, il_256, il_999, il_1575, il_9999, il_65536, il_252645135, il_858993459, il_1431655765, ms_bit T hT y (by omega)]
        have key : T.testBit y = true ↔ bf_b a x y = true := by
          rw [bf]
          exact ⟨t4 y, fun w => wa_min f (fun p => T.testBit p = true) (fun k _ hk p hp => t3 k hk p hp) 7 (Nat.le_refl _) x y t2 w⟩
        by_cases w : T.testBit y = true
        · rw [if_pos w, if_pos (by omega), bI_t (key.1 w)]
        · rw [if_neg w, if_neg (by omega), bI_f (fun u => w (key.2 u))]
      · have lt : M < T := by
          have hle : M ≤ T := ro_sub_le (ro_sub_iff.2 t1)
          omega
        simp (maxSteps := 3000000) (implicitDefEqProofs := false) (disch := omega) only [jl_e, jn_e, bd_e, gd_t, iI_add, iI_sub, iI_mul, iI_neg, if_true, if_false, not_true_eq_false, not_false_eq_true, Int.reduceEq, Nat.add_zero, Int.toNat_natCast, iI_cl, iI_lt, iI_eq, gd_in, bI_eq0, bI_eq1, bI_isB, isB_0, isB_1, il_0, il_1, il_2, il_3, il_4, il_5, il_6, il_7, il_8, il_9, il_10, il_12, il_16, il_18, il_24, il_27, il_30, il_31, il_32, il_40, il_47, il_48, il_49, il_55, il_56, il_57, il_59, il_63, il_64, il_96, il_97, il_98, il_99, il_101, il_103, il_104, il_105, il_108, il_109, il_110, il_111, il_112, il_114, il_115, il_116, il_117, il_119, il_122, il_127, il_128, il_200, il_225, il_255, il_256, il_999, il_1575, il_9999, il_65536, il_252645135, il_858993459, il_1431655765]
        rw [if_neg (by omega)]
        refine lp_up (α := Int32 → Int32 → Hp → Option (Int32 × Hp)) (P := fun i d => ∀ V : Nat, V < 128 → (∀ i, T.testBit i = true → V.testBit i = true) → (∀ i', i' < i → T.testBit i' = true → ∀ j, f i' j = true → V.testBit j = true) → (∀ i, V.testBit i = true → wa_b f 7 x i = true) → d (iI (V : Int)) (iI i) h = some (bI (bf_b a x y = true), h)) (al_w a).length (by omega) (fun i d hi ih2 V hV v1 v2 v3 => ?_) T hT (fun _ t => t) (fun i' hi' => absurd hi' (Nat.not_lt_zero i')) t4
        by_cases z2 : i < (al_w a).length
        · have ih2 := ih2 z2
          simp (maxSteps := 3000000) (implicitDefEqProofs := false) (disch := omega) only [jl_e, jn_e, bd_e, gd_t, iI_add, iI_sub, iI_mul, iI_neg, if_true, if_false, not_true_eq_false, not_false_eq_true, Int.reduceEq, Nat.add_zero, Int.toNat_natCast, iI_cl, iI_lt, iI_eq, gd_in, bI_eq0, bI_eq1, bI_isB, isB_0, isB_1, il_0, il_1, il_2, il_3, il_4, il_5, il_6, il_7, il_8, il_9, il_10, il_12, il_16, il_18, il_24, il_27, il_30, il_31, il_32, il_40, il_47, il_48, il_49, il_55, il_56, il_57, il_59, il_63, il_64, il_96, il_97, il_98, il_99, il_101, il_103, il_104, il_105, il_108, il_109, il_110, il_111, il_112, il_114, il_115, il_116, il_117, il_119, il_122, il_127, il_128, il_200, il_225, il_255, il_256, il_999, il_1575, il_9999, il_65536, il_252645135, il_858993459, il_1431655765, q.np, ms_bit T hT i (by omega)]
          rw [if_pos (by omega)]
          refine lp_up (α := Int32 → Int32 → Hp → Option (Int32 × Hp)) (P := fun j e => ∀ U : Nat, U < 128 → (∀ i, T.testBit i = true → U.testBit i = true) → (∀ i', i' < i → T.testBit i' = true → ∀ j, f i' j = true → U.testBit j = true) → (∀ i, U.testBit i = true → wa_b f 7 x i = true) → (T.testBit i = true → ∀ j', j' < j → f i j' = true → U.testBit j' = true) → e (iI (U : Int)) (iI j) h = some (bI (bf_b a x y = true), h)) (al_w a).length (by omega) (fun j e hj ih3 U hU u1 u2 u3 u4 => ?_) V hV v1 v2 v3 (fun _ j' hj' => absurd hj' (Nat.not_lt_zero j'))
          by_cases z3 : j < (al_w a).length
          · have ih3 := ih3 z3
            by_cases Ti : T.testBit i = true
            · simp (maxSteps := 3000000) (implicitDefEqProofs := false) (disch := omega) only [jl_e, jn_e, bd_e, gd_t, iI_add, iI_sub, iI_mul, iI_neg, if_true, if_false, not_true_eq_false, not_false_eq_true, Int.reduceEq, Nat.add_zero, Int.toNat_natCast, iI_cl, iI_lt, iI_eq, gd_in, bI_eq0, bI_eq1, bI_isB, isB_0, isB_1, il_0, il_1, il_2, il_3, il_4, il_5, il_6, il_7, il_8, il_9, il_10, il_12, il_16, il_18, il_24, il_27, il_30, il_31, il_32, il_40, il_47, il_48, il_49, il_55, il_56, il_57, il_59, il_63, il_64, il_96, il_97, il_98, il_99, il_101, il_103, il_104, il_105, il_108, il_109, il_110, il_111, il_112, il_114, il_115, il_116, il_117, il_119, il_122, il_127, il_128, il_200, il_225, il_255, il_256, il_999, il_1575, il_9999, il_65536, il_252645135, il_858993459, il_1431655765, q.np, ms_bit T hT i (by omega), ah i j (by omega) (by omega), ms_shl j (by omega)]
              rw [if_pos (by omega), if_pos Ti, if_pos (by omega)]
              by_cases fij : f i j = true
              · rw [if_neg (fun u => u fij), ms_or]
                refine ih3 _ (ro_or_lt U hU j (by omega)) (fun w hw => ?_) (fun i' hi' w j' hj' => ?_) (fun w hw => ?_) (fun _ j' hj' w => ?_)
                · rw [ro_tb_or, u1 w hw, Bool.true_or]
                · rw [ro_tb_or, u2 i' hi' w j' hj', Bool.true_or]
                · rw [ro_tb_or, Bool.or_eq_true, decide_eq_true_iff] at hw
                  rcases hw with hw | hw
                  · exact u3 w hw
                  · subst hw
                    exact wa_tr f 7 x i j (by omega) (t4 i Ti) (wa_sub f fij 7)
                · rw [ro_tb_or, Bool.or_eq_true, decide_eq_true_iff]
                  by_cases e2 : j = j'
                  · exact Or.inr e2
                  · exact Or.inl (u4 Ti j' (by omega) w)
              · rw [if_pos fij]
                refine Eq.trans ?_ (ih3 U hU u1 u2 u3 (fun _ j' hj' w => ?_))
                · rw [show iI (U : Int) ||| iI 0 = iI (U : Int) from (ms_or U 0).trans (by rw [Nat.or_zero])]
                  rfl
                · by_cases e2 : j' = j
                  · subst e2; exact absurd w fij
                  · exact u4 Ti j' (by omega) w
            · simp (maxSteps := 3000000) (implicitDefEqProofs := false) (disch := omega) only [jl_e, jn_e, bd_e, gd_t, iI_add, iI_sub, iI_mul, iI_neg, if_true, if_false, not_true_eq_false, not_false_eq_true, Int.reduceEq, Nat.add_zero, Int.toNat_natCast, iI_cl, iI_lt, iI_eq, gd_in, bI_eq0, bI_eq1, bI_isB, isB_0, isB_1, il_0, il_1, il_2, il_3, il_4, il_5, il_6, il_7, il_8, il_9, il_10, il_12, il_16, il_18, il_24, il_27, il_30, il_31, il_32, il_40, il_47, il_48, il_49, il_55, il_56, il_57, il_59, il_63, il_64, il_96, il_97, il_98, il_99, il_101, il_103, il_104, il_105, il_108, il_109, il_110, il_111, il_112, il_114, il_115, il_116, il_117, il_119, il_122, il_127, il_128, il_200, il_225, il_255, il_256, il_999, il_1575, il_9999, il_65536, il_252645135, il_858993459, il_1431655765, q.np, ms_bit T hT i (by omega)]
              rw [if_pos (by omega), if_neg Ti, if_neg (by omega)]
              exact ih2 U hU u1 (fun i' hi' w j' hj' => by
                by_cases e2 : i' = i
                · subst e2; exact absurd w Ti
                · exact u2 i' (by omega) w j' hj') u3
          · simp (maxSteps := 3000000) (implicitDefEqProofs := false) (disch := omega) only [jl_e, jn_e, bd_e, gd_t, iI_add, iI_sub, iI_mul, iI_neg, if_true, if_false, not_true_eq_false, not_false_eq_true, Int.reduceEq, Nat.add_zero, Int.toNat_natCast, iI_cl, iI_lt, iI_eq, gd_in, bI_eq0, bI_eq1, bI_isB, isB_0, isB_1, il_0, il_1, il_2, il_3, il_4, il_5, il_6, il_7, il_8, il_9, il_10, il_12, il_16, il_18, il_24, il_27, il_30, il_31, il_32, il_40, il_47, il_48, il_49, il_55, il_56, il_57, il_59, il_63, il_64, il_96, il_97, il_98, il_99, il_101, il_103, il_104, il_105, il_108, il_109, il_110, il_111, il_112, il_114, il_115, il_116, il_117, il_119, il_122, il_127, il_128, il_200, il_225, il_255, il_256, il_999, il_1575, il_9999, il_65536, il_252645135, il_858993459, il_1431655765, q.np]
            rw [if_neg (by omega)]
            exact ih2 U hU u1 (fun i' hi' w j' hj' => by
              by_cases e2 : i' = i
              · subst e2
                exact u4 w j' (by have := (fnp i' j' hj').2; omega) hj'
              · exact u2 i' (by omega) w j' hj') u3
        · simp (maxSteps := 3000000) (implicitDefEqProofs := false) (disch := omega) only [jl_e, jn_e, bd_e, gd_t, iI_add, iI_sub, iI_mul, iI_neg, if_true, if_false, not_true_eq_false, not_false_eq_true, Int.reduceEq, Nat.add_zero, Int.toNat_natCast, iI_cl, iI_lt, iI_eq, gd_in, bI_eq0, bI_eq1, bI_isB, isB_0, isB_1, il_0, il_1, il_2, il_3, il_4, il_5, il_6, il_7, il_8, il_9, il_10, il_12, il_16, il_18, il_24, il_27, il_30, il_31, il_32, il_40, il_47, il_48, il_49, il_55, il_56, il_57, il_59, il_63, il_64, il_96, il_97, il_98, il_99, il_101, il_103, il_104, il_105, il_108, il_109, il_110, il_111, il_112, il_114, il_115, il_116, il_117, il_119, il_122, il_127, il_128, il_200, il_225, il_255, il_256, il_999, il_1575, il_9999, il_65536, il_252645135, il_858993459, il_1431655765, q.np]
          rw [if_neg (by omega)]
          exact ih (128 - T) (by omega) T V hT hV (Nat.le_refl _) v1 (fun p hp => v1 p (t2 p hp)) (fun i' w j' hj' => v2 i' (by have := (fnp i' j' hj').1; omega) w j' hj') v3
    · rw [bm_tb, decide_eq_true (fnp x p t).2, t]
      rfl
    · rw [bm_tb, Bool.and_eq_true] at t
      exact wa_sub f t.2 7
