-- ===== the reference's questions of orders =====
theorem m_areTwo {h : Hp} {a : Alb} (q : AmC h a) {x y : Int} (hx : -2147483648 ≤ x ∧ x < 2147483648) (hy : -2147483648 ≤ y ∧ y < 2147483648) : F_X12_areTwo (iI x) (iI y) h = some (bI ((0 ≤ x ∧ x < (al_w a).length) ∧ (0 ≤ y ∧ y < (al_w a).length) ∧ x ≠ y), h) := by
  unfold F_X12_areTwo
  simp (maxSteps := 3000000) (implicitDefEqProofs := false) (disch := omega) only [jl_e, jn_e, bd_e, gd_t, iI_add, iI_sub, iI_mul, iI_neg, if_true, if_false, not_true_eq_false, not_false_eq_true, Int.reduceEq, Nat.add_zero, Int.toNat_natCast, iI_cl, iI_lt, iI_eq, gd_in, bI_eq0, bI_eq1, bI_isB, isB_0, isB_1, il_0, il_1, il_2, il_3, il_4, il_5, il_6, il_7, il_8, il_9, il_10, il_12, il_16, il_18, il_24, il_27, il_30, il_31, il_32, il_40, il_47, il_48, il_49, il_55, il_56, il_57, il_59, il_63, il_64, il_96, il_97, il_98, il_99, il_101, il_103, il_104, il_105, il_108, il_109, il_110, il_111, il_112, il_114, il_115, il_116, il_117, il_119, il_122, il_127, il_128, il_200, il_225, il_255, il_256, il_999, il_1575, il_9999, il_65536, il_252645135, il_858993459, il_1431655765, m_isPicture q hx, m_isPicture q hy]
  by_cases c : 0 ≤ x ∧ x < (al_w a).length
  · rw [if_neg (fun z => z c)]
    by_cases d : 0 ≤ y ∧ y < (al_w a).length
    · rw [if_neg (fun z => z d)]
      by_cases e : x = y
      · rw [if_pos e, bI_f (fun z => z.2.2 e)]
      · rw [if_neg e, bI_t ⟨c, d, e⟩]
    · rw [if_pos d, bI_f (fun z => d z.2.1)]
  · rw [if_pos c, bI_f (fun z => c z.1)]
theorem M_before {h : Hp} {s : Sta} (q : JM h s) {x y : Int} (hx : -2147483648 ≤ x ∧ x < 2147483648) (hy : -2147483648 ≤ y ∧ y < 2147483648) : ∃ h', F_X12_before (iI x) (iI y) h = some (iI (A_before s x y), h') ∧ JM h' s := by
  have qa := q.2.2.1
  have h7 := qa.1.2.1
  suffices v : F_X12_before (iI x) (iI y) h = some (iI (A_before s x y), h) from ⟨h, v, q⟩
  unfold F_X12_before A_before
  rw [m_areTwo qa hx hy, bd_e, jn_e]
  by_cases c : (0 ≤ x ∧ x < (al_w (st_a s)).length) ∧ (0 ≤ y ∧ y < (al_w (st_a s)).length) ∧ x ≠ y
  · obtain ⟨p, rfl, hp⟩ := rg_of hx c.1
    obtain ⟨r, rfl, hr⟩ := rg_of hy c.2.1
    rw [bI_t c, if_neg (by decide), if_pos c, Int.toNat_natCast, Int.toNat_natCast, m_isBefore qa (by omega) (by omega), bd_e]
    by_cases d : bf_b (st_a s) p r = true
    · rw [bI_t d, if_neg (by decide), if_pos d]
      rfl
    · rw [bI_f d, if_pos (show iI 0 = 0 from rfl), if_neg d]
      rfl
  · rw [bI_f c, if_pos (show iI 0 = 0 from rfl), if_neg c]
    rfl
theorem M_orders {h : Hp} {s : Sta} (q : JM h s) : ∃ h', F_X12_orders h = some (iI (al_or (st_a s)).length, h') ∧ JM h' s := by
  obtain ⟨h1, e1, -⟩ := m_many q.2.2.1
  have f := fr_X12_many _ _ _ e1
  unfold F_X12_orders
  rw [e1, bd_e]
  exact ⟨h1, rfl, q.sc f (by decide) (by decide)⟩
theorem M_order {h : Hp} {s : Sta} (q : JM h s) {k i : Int} (hk : -2147483648 ≤ k ∧ k < 2147483648) (hi : -2147483648 ≤ i ∧ i < 2147483648) : ∃ h', F_X12_order (iI k) (iI i) h = some (iI (A_order s k i), h') ∧ JM h' s := by
  have qa := q.2.2.1
  have h7 := qa.1.2.1
  have o5 := al_or_5040 qa
  unfold F_X12_order A_order
  simp (maxSteps := 3000000) (implicitDefEqProofs := false) (disch := omega) only [jl_e, jn_e, bd_e, gd_t, iI_add, iI_sub, iI_mul, iI_neg, if_true, if_false, not_true_eq_false, not_false_eq_true, Int.reduceEq, Nat.add_zero, Int.toNat_natCast, iI_cl, iI_lt, iI_eq, gd_in, bI_eq0, bI_eq1, bI_isB, isB_0, isB_1, il_0, il_1, il_2, il_3, il_4, il_5, il_6, il_7, il_8, il_9, il_10, il_12, il_16, il_18, il_24, il_27, il_30, il_31, il_32, il_40, il_47, il_48, il_49, il_55, il_56, il_57, il_59, il_63, il_64, il_96, il_97, il_98, il_99, il_101, il_103, il_104, il_105, il_108, il_109, il_110, il_111, il_112, il_114, il_115, il_116, il_117, il_119, il_122, il_127, il_128, il_200, il_225, il_255, il_256, il_999, il_1575, il_9999, il_65536, il_252645135, il_858993459, il_1431655765, qa.np]
  by_cases c : k < 0
  · rw [if_pos c, if_pos (Or.inl c)]
    exact ⟨h, rfl, q⟩
  · rw [if_neg c]
    by_cases d : i < 0
    · rw [if_pos d, if_pos (Or.inr d)]
      exact ⟨h, rfl, q⟩
    · rw [if_neg d, if_neg (show ¬ (k < 0 ∨ i < 0) by omega)]
      by_cases e : i < (al_w (st_a s)).length
      · rw [if_pos e]
        obtain ⟨h1, e1, l1, -⟩ := m_layAllOrders qa (w := k) (x := -1) (y := -1) (by omega) (wg_no _)
        have f := fr_X12_layOrders _ _ _ _ _ _ _ _ e1
        rw [m_whole qa, bd_e, e1, bd_e]
        have q1 : JM h1 s := q.sc f (by decide) (by decide)
        (try simp (maxSteps := 3000000) (implicitDefEqProofs := false) (disch := omega) only [jl_e, jn_e, bd_e, gd_t, iI_add, iI_sub, iI_mul, iI_neg, if_true, if_false, not_true_eq_false, not_false_eq_true, Int.reduceEq, Nat.add_zero, Int.toNat_natCast, iI_cl, iI_lt, iI_eq, gd_in, bI_eq0, bI_eq1, bI_isB, isB_0, isB_1, il_0, il_1, il_2, il_3, il_4, il_5, il_6, il_7, il_8, il_9, il_10, il_12, il_16, il_18, il_24, il_27, il_30, il_31, il_32, il_40, il_47, il_48, il_49, il_55, il_56, il_57, il_59, il_63, il_64, il_96, il_97, il_98, il_99, il_101, il_103, il_104, il_105, il_108, il_109, il_110, il_111, il_112, il_114, il_115, il_116, il_117, il_119, il_122, il_127, il_128, il_200, il_225, il_255, il_256, il_999, il_1575, il_9999, il_65536, il_252645135, il_858993459, il_1431655765])
        by_cases g : k < (al_or (st_a s)).length
        · rw [if_pos g, if_pos ⟨g, e⟩]
          obtain ⟨j, rfl, hj⟩ := rg_of hi ⟨by omega, e⟩
          have w5 := l1.2.2.2.2 (by omega) g j hj
          (try simp (maxSteps := 3000000) (implicitDefEqProofs := false) (disch := omega) only [jl_e, jn_e, bd_e, gd_t, iI_add, iI_sub, iI_mul, iI_neg, if_true, if_false, not_true_eq_false, not_false_eq_true, Int.reduceEq, Nat.add_zero, Int.toNat_natCast, iI_cl, iI_lt, iI_eq, gd_in, bI_eq0, bI_eq1, bI_isB, isB_0, isB_1, il_0, il_1, il_2, il_3, il_4, il_5, il_6, il_7, il_8, il_9, il_10, il_12, il_16, il_18, il_24, il_27, il_30, il_31, il_32, il_40, il_47, il_48, il_49, il_55, il_56, il_57, il_59, il_63, il_64, il_96, il_97, il_98, il_99, il_101, il_103, il_104, il_105, il_108, il_109, il_110, il_111, il_112, il_114, il_115, il_116, il_117, il_119, il_122, il_127, il_128, il_200, il_225, il_255, il_256, il_999, il_1575, il_9999, il_65536, il_252645135, il_858993459, il_1431655765, w5])
          exact ⟨h1, rfl, q1⟩
        · rw [if_neg g, if_neg (fun z => g z.1)]
          exact ⟨h1, rfl, q1⟩
      · rw [if_neg e, if_neg (fun z => e z.2)]
        exact ⟨h, rfl, q⟩
/-- every picture stands in every order -/
theorem al_or_mem {a : Alb} (h : al_ok a) {l : List Nat} (hl : l ∈ al_or a) : l.length ≤ 7 ∧ ∀ p, p < (al_w a).length → ∃ k, k < l.length ∧ l.getD k 0 = p := by
  have hN : al_N a < 128 := al_S_lt (a := al_x a) h.2.1
  have ct : ro_ct (al_N a) = (al_w a).length := ct_all _ h.2.1
  obtain ⟨⟨u, e1, e2⟩, hn, hm⟩ := ro_en_mem _ _ _ _ _ (by simp) (fun p hp => absurd hp (by simp)) hl
  rw [List.nil_append] at e1
  subst e1
  have full := ro_full_of hN hn (by rw [e2]) hm
  have h7 := h.2.1
  refine ⟨by omega, fun p hp => ro_get_mem.1 (full.2.2 p (by omega) (by rw [al_N_tb, decide_eq_true hp]))⟩
theorem M_place {h : Hp} {s : Sta} (q : JM h s) {x w : Int} (hx : -2147483648 ≤ x ∧ x < 2147483648) (hw : -2147483648 ≤ w ∧ w < 2147483648) {m : Nat} (hm : 0 ≤ x ∧ x < (al_w (st_a s)).length → pl_is (st_a s) x.toNat m) : ∃ h', F_X12_place (iI x) (iI w) h = some (iI (A_place s m x w), h') ∧ JM h' s := by
  have qa := q.2.2.1
  have h7 := qa.1.2.1
  have o5 := al_or_5040 qa
  unfold F_X12_place A_place
  rw [m_isPicture qa hx, bd_e]
  by_cases c : 0 ≤ x ∧ x < (al_w (st_a s)).length
  · have hm := hm c
    obtain ⟨p, rfl, hp⟩ := rg_of hx c
    rw [Int.toNat_natCast] at hm
    rw [bI_t c, if_neg (by decide), if_pos c]
    simp (maxSteps := 3000000) (implicitDefEqProofs := false) (disch := omega) only [jl_e, jn_e, bd_e, gd_t, iI_add, iI_sub, iI_mul, iI_neg, if_true, if_false, not_true_eq_false, not_false_eq_true, Int.reduceEq, Nat.add_zero, Int.toNat_natCast, iI_cl, iI_lt, iI_eq, gd_in, bI_eq0, bI_eq1, bI_isB, isB_0, isB_1, il_0, il_1, il_2, il_3, il_4, il_5, il_6, il_7, il_8, il_9, il_10, il_12, il_16, il_18, il_24, il_27, il_30, il_31, il_32, il_40, il_47, il_48, il_49, il_55, il_56, il_57, il_59, il_63, il_64, il_96, il_97, il_98, il_99, il_101, il_103, il_104, il_105, il_108, il_109, il_110, il_111, il_112, il_114, il_115, il_116, il_117, il_119, il_122, il_127, il_128, il_200, il_225, il_255, il_256, il_999, il_1575, il_9999, il_65536, il_252645135, il_858993459, il_1431655765, m_within hw]
    by_cases d : 0 ≤ w ∧ w ≤ 1
    · rw [if_neg (fun z => z d), if_neg (show ¬ (w < 0 ∨ 1 < w) by omega)]
      obtain ⟨h1, e1, ⟨l1, l2, l3, l4, l5⟩, -⟩ := m_many qa
      have f := fr_X12_many _ _ _ e1
      have q1 : JM h1 s := q.sc f (by decide) (by decide)
      rw [e1, bd_e]
      (try simp (maxSteps := 3000000) (implicitDefEqProofs := false) (disch := omega) only [jl_e, jn_e, bd_e, gd_t, iI_add, iI_sub, iI_mul, iI_neg, if_true, if_false, not_true_eq_false, not_false_eq_true, Int.reduceEq, Nat.add_zero, Int.toNat_natCast, iI_cl, iI_lt, iI_eq, gd_in, bI_eq0, bI_eq1, bI_isB, isB_0, isB_1, il_0, il_1, il_2, il_3, il_4, il_5, il_6, il_7, il_8, il_9, il_10, il_12, il_16, il_18, il_24, il_27, il_30, il_31, il_32, il_40, il_47, il_48, il_49, il_55, il_56, il_57, il_59, il_63, il_64, il_96, il_97, il_98, il_99, il_101, il_103, il_104, il_105, il_108, il_109, il_110, il_111, il_112, il_114, il_115, il_116, il_117, il_119, il_122, il_127, il_128, il_200, il_225, il_255, il_256, il_999, il_1575, il_9999, il_65536, il_252645135, il_858993459, il_1431655765])
      by_cases o0 : al_or (st_a s) = []
      · have m0 : m = 0 := by
          apply Nat.eq_of_testBit_eq
          intro k
          rw [Nat.zero_testBit]
          by_cases k7 : k < 7
          · refine b_nt (fun t => ?_)
            obtain ⟨l, hl, -⟩ := (hm.2 k k7).1 t
            have hl : l ∈ al_or (st_a s) := hl
            rw [o0] at hl
            exact absurd hl (by simp)
          · exact Nat.testBit_lt_two_pow (Nat.lt_of_lt_of_le hm.1 (Nat.pow_le_pow_right (n := 2) (by decide) (show 7 ≤ k by omega)))
        rw [if_pos (by rw [o0]; rfl), if_pos m0]
        exact ⟨h1, rfl, q1⟩
      · have L0 : (al_or (st_a s)).length ≠ 0 := fun z => o0 (List.eq_nil_of_length_eq_zero z)
        obtain ⟨u, v, u7, v7, u1, v1, ⟨lu, lu1, lu2, lu3⟩, ⟨lv, lv1, lv2, lv3⟩, uv⟩ := l4 p (by omega) (by rw [al_N_tb, decide_eq_true hp]) o0
        have tu : m.testBit u = true := (hm.2 u u7).2 ⟨lu, lu1, lu2, lu3⟩
        have tv : m.testBit v = true := (hm.2 v v7).2 ⟨lv, lv1, lv2, lv3⟩
        have bnd : ∀ k, m.testBit k = true → k < 7 ∧ u ≤ k ∧ k ≤ v := fun k t => by
          have k7 : k < 7 := lo_lt (N := 7) hm.1 t
          obtain ⟨l, hl, hk1, hk2⟩ := (hm.2 k k7).1 t
          exact ⟨k7, uv l hl k hk1 hk2⟩
        have m0 : m ≠ 0 := fun z => by rw [z, Nat.zero_testBit] at tu; exact Bool.noConfusion tu
        have ef : ro_f m.testBit 0 = u := by
          have a1 := ro_f_min (w := m.testBit) (f := 0) (s := u) (by omega) (by omega) tu
          have a2 := (bnd _ (ro_f_yes (w := m.testBit) (f := 0) (by omega)).2).2.1
          omega
        have el : ro_l m.testBit 48 = v + 1 := by
          have a1 := ro_l_max m.testBit 48 v (by omega) tv
          have a2 := (bnd _ (ro_l_yes m.testBit 48 (by omega))).2.2
          omega
        rw [if_neg (by omega), if_neg m0, ef, el]
        by_cases w0 : w = 0
        · rw [if_pos w0, if_pos w0, if_pos (by omega)]
          (try simp (maxSteps := 3000000) (implicitDefEqProofs := false) (disch := omega) only [jl_e, jn_e, bd_e, gd_t, iI_add, iI_sub, iI_mul, iI_neg, if_true, if_false, not_true_eq_false, not_false_eq_true, Int.reduceEq, Nat.add_zero, Int.toNat_natCast, iI_cl, iI_lt, iI_eq, gd_in, bI_eq0, bI_eq1, bI_isB, isB_0, isB_1, il_0, il_1, il_2, il_3, il_4, il_5, il_6, il_7, il_8, il_9, il_10, il_12, il_16, il_18, il_24, il_27, il_30, il_31, il_32, il_40, il_47, il_48, il_49, il_55, il_56, il_57, il_59, il_63, il_64, il_96, il_97, il_98, il_99, il_101, il_103, il_104, il_105, il_108, il_109, il_110, il_111, il_112, il_114, il_115, il_116, il_117, il_119, il_122, il_127, il_128, il_200, il_225, il_255, il_256, il_999, il_1575, il_9999, il_65536, il_252645135, il_858993459, il_1431655765, u1])
          exact ⟨h1, rfl, q1⟩
        · rw [if_neg w0, if_neg w0]
          (try simp (maxSteps := 3000000) (implicitDefEqProofs := false) (disch := omega) only [jl_e, jn_e, bd_e, gd_t, iI_add, iI_sub, iI_mul, iI_neg, if_true, if_false, not_true_eq_false, not_false_eq_true, Int.reduceEq, Nat.add_zero, Int.toNat_natCast, iI_cl, iI_lt, iI_eq, gd_in, bI_eq0, bI_eq1, bI_isB, isB_0, isB_1, il_0, il_1, il_2, il_3, il_4, il_5, il_6, il_7, il_8, il_9, il_10, il_12, il_16, il_18, il_24, il_27, il_30, il_31, il_32, il_40, il_47, il_48, il_49, il_55, il_56, il_57, il_59, il_63, il_64, il_96, il_97, il_98, il_99, il_101, il_103, il_104, il_105, il_108, il_109, il_110, il_111, il_112, il_114, il_115, il_116, il_117, il_119, il_122, il_127, il_128, il_200, il_225, il_255, il_256, il_999, il_1575, il_9999, il_65536, il_252645135, il_858993459, il_1431655765, v1])
          refine ⟨h1, ?_, q1⟩
          exact congrArg (fun z => some (iI z, h1)) (by omega)
    · rw [if_pos d, if_pos (show w < 0 ∨ 1 < w by omega)]
      exact ⟨h, rfl, q⟩
  · rw [bI_f c, if_pos (show iI 0 = 0 from rfl), if_neg c]
    exact ⟨h, rfl, q⟩
theorem M_often {h : Hp} {s : Sta} (q : JM h s) {x y : Int} (hx : -2147483648 ≤ x ∧ x < 2147483648) (hy : -2147483648 ≤ y ∧ y < 2147483648) : ∃ h', F_X12_often (iI x) (iI y) h = some (iI (A_often s x y), h') ∧ JM h' s := by
  have qa := q.2.2.1
  have h7 := qa.1.2.1
  unfold F_X12_often A_often
  rw [m_areTwo qa hx hy, bd_e]
  by_cases c : (0 ≤ x ∧ x < (al_w (st_a s)).length) ∧ (0 ≤ y ∧ y < (al_w (st_a s)).length) ∧ x ≠ y
  · rw [bI_t c, if_neg (by decide), if_pos c]
    obtain ⟨p, rfl, hp⟩ := rg_of hx c.1
    obtain ⟨r, rfl, hr⟩ := rg_of hy c.2.1
    have ne := c.2.2
    obtain ⟨h1, e1, ⟨l1, l2, -⟩, -⟩ := m_layAllOrders qa (w := -1) (x := (p : Int)) (y := (r : Int)) (by omega) (Or.inr ⟨p, r, rfl, rfl, by omega, by omega, by omega, by rw [al_N_tb, decide_eq_true hp], by rw [al_N_tb, decide_eq_true hr]⟩)
    have f := fr_X12_layOrders _ _ _ _ _ _ _ _ e1
    rw [m_whole qa, bd_e, il_9999, show (-1 : Int32) = iI (-1) from rfl, e1, bd_e, l2]
    have ew : wg_b (p : Int) (r : Int) = ro_bf p r := by
      funext l
      unfold wg_b
      rw [decide_eq_true ne, Bool.true_and, Int.toNat_natCast, Int.toNat_natCast]
    rw [ew, Int.toNat_natCast, Int.toNat_natCast]
    exact ⟨h1, rfl, q.sc f (by decide) (by decide)⟩
  · rw [bI_f c, if_pos (show iI 0 = 0 from rfl), if_neg c]
    exact ⟨h, rfl, q⟩
theorem lf_of {h : Hp} {a : Alb} {w x y : Int} (l : LoW h a w x y) {p m : Nat} (hp : p < 7) (hm : lf_is a p m) : lG h 134 p = lN m := by
  obtain ⟨n, n1, n2, n3⟩ := l.1.2.2.1 p hp
  have e : n = m := bits_one (N := 48) n2 hm.1 (fun k hk => by
    rw [n3 k, hm.2 k hk]
    constructor
    · rintro ⟨l, h1, i, h2, h3, h4, h5, h6⟩
      rw [h3] at h4
      exact ⟨l, h1, i, h2, h3, h4, h5, h6⟩
    · rintro ⟨l, h1, i, h2, h3, h4, h5, h6⟩
      rw [← h3] at h4
      exact ⟨l, h1, i, h2, h3, h4, h5, h6⟩)
  rw [n1, e]
theorem M_left {h : Hp} {s : Sta} (q : JM h s) {x w : Int} (hx : -2147483648 ≤ x ∧ x < 2147483648) (hw : -2147483648 ≤ w ∧ w < 2147483648) {m : Nat} (hm : 0 ≤ x ∧ x < (al_w (st_a s)).length → lf_is (st_a s) x.toNat m) : ∃ h', F_X12_left (iI x) (iI w) h = some (iI (A_left s m x w), h') ∧ JM h' s := by
  have qa := q.2.2.1
  have h7 := qa.1.2.1
  unfold F_X12_left A_left
  rw [m_isPicture qa hx, bd_e]
  by_cases c : 0 ≤ x ∧ x < (al_w (st_a s)).length
  · have hm := hm c
    obtain ⟨p, rfl, hp⟩ := rg_of hx c
    rw [Int.toNat_natCast] at hm
    rw [bI_t c, if_neg (by decide), if_pos c]
    simp (maxSteps := 3000000) (implicitDefEqProofs := false) (disch := omega) only [jl_e, jn_e, bd_e, gd_t, iI_add, iI_sub, iI_mul, iI_neg, if_true, if_false, not_true_eq_false, not_false_eq_true, Int.reduceEq, Nat.add_zero, Int.toNat_natCast, iI_cl, iI_lt, iI_eq, gd_in, bI_eq0, bI_eq1, bI_isB, isB_0, isB_1, il_0, il_1, il_2, il_3, il_4, il_5, il_6, il_7, il_8, il_9, il_10, il_12, il_16, il_18, il_24, il_27, il_30, il_31, il_32, il_40, il_47, il_48, il_49, il_55, il_56, il_57, il_59, il_63, il_64, il_96, il_97, il_98, il_99, il_101, il_103, il_104, il_105, il_108, il_109, il_110, il_111, il_112, il_114, il_115, il_116, il_117, il_119, il_122, il_127, il_128, il_200, il_225, il_255, il_256, il_999, il_1575, il_9999, il_65536, il_252645135, il_858993459, il_1431655765, m_within hw]
    by_cases d : 0 ≤ w ∧ w ≤ 2
    · rw [if_neg (fun z => z d)]
      obtain ⟨h1, e1, l1⟩ := m_many qa
      have f := fr_X12_many _ _ _ e1
      rw [e1, bd_e, lf_of l1 (by omega) hm, m_shown hm.1 d, bd_e]
      refine ⟨h1, ?_, q.sc f (by decide) (by decide)⟩
      by_cases w0 : w = 0
      · simp only [if_pos w0]
      · simp only [if_neg w0]
        by_cases w1 : w = 1
        · simp only [if_pos w1]
        · simp only [if_neg w1]
          rw [if_pos (show w = 2 by omega)]
    · rw [if_pos d, if_neg (by omega), if_neg (by omega), if_neg (by omega)]
      exact ⟨h, rfl, q⟩
  · rw [bI_f c, if_pos (show iI 0 = 0 from rfl), if_neg c]
    exact ⟨h, rfl, q⟩
theorem M_knot {h : Hp} {s : Sta} (q : JM h s) {w z : Int} (hw : -2147483648 ≤ w ∧ w < 2147483648) (hz : kn_is (st_a s) z) : ∃ h', F_X12_knot (iI w) h = some (iI (A_knot z w), h') ∧ JM h' s := by
  have qa := q.2.2.1
  have h7 := qa.1.2.1
  have zr := kn_rng h7 hz
  unfold F_X12_knot A_knot
  simp (maxSteps := 3000000) (implicitDefEqProofs := false) (disch := omega) only [jl_e, jn_e, bd_e, gd_t, iI_add, iI_sub, iI_mul, iI_neg, if_true, if_false, not_true_eq_false, not_false_eq_true, Int.reduceEq, Nat.add_zero, Int.toNat_natCast, iI_cl, iI_lt, iI_eq, gd_in, bI_eq0, bI_eq1, bI_isB, isB_0, isB_1, il_0, il_1, il_2, il_3, il_4, il_5, il_6, il_7, il_8, il_9, il_10, il_12, il_16, il_18, il_24, il_27, il_30, il_31, il_32, il_40, il_47, il_48, il_49, il_55, il_56, il_57, il_59, il_63, il_64, il_96, il_97, il_98, il_99, il_101, il_103, il_104, il_105, il_108, il_109, il_110, il_111, il_112, il_114, il_115, il_116, il_117, il_119, il_122, il_127, il_128, il_200, il_225, il_255, il_256, il_999, il_1575, il_9999, il_65536, il_252645135, il_858993459, il_1431655765, m_within hw]
  by_cases d : 0 ≤ w ∧ w ≤ 1
  · rw [if_neg (fun u => u d), if_neg (show ¬ (w < 0 ∨ 1 < w) by omega)]
    obtain ⟨h1, z', e1, k1⟩ := m_knotOf qa
    have ez : z' = z := kn_one k1 hz
    subst ez
    have f := fr_X12_knotOf _ _ _ e1
    have q1 : JM h1 s := q.sc f (by decide) (by decide)
    rw [e1, bd_e]
    (try simp (maxSteps := 3000000) (implicitDefEqProofs := false) (disch := omega) only [jl_e, jn_e, bd_e, gd_t, iI_add, iI_sub, iI_mul, iI_neg, if_true, if_false, not_true_eq_false, not_false_eq_true, Int.reduceEq, Nat.add_zero, Int.toNat_natCast, iI_cl, iI_lt, iI_eq, gd_in, bI_eq0, bI_eq1, bI_isB, isB_0, isB_1, il_0, il_1, il_2, il_3, il_4, il_5, il_6, il_7, il_8, il_9, il_10, il_12, il_16, il_18, il_24, il_27, il_30, il_31, il_32, il_40, il_47, il_48, il_49, il_55, il_56, il_57, il_59, il_63, il_64, il_96, il_97, il_98, il_99, il_101, il_103, il_104, il_105, il_108, il_109, il_110, il_111, il_112, il_114, il_115, il_116, il_117, il_119, il_122, il_127, il_128, il_200, il_225, il_255, il_256, il_999, il_1575, il_9999, il_65536, il_252645135, il_858993459, il_1431655765])
    by_cases z0 : z' = -1
    · rw [if_pos z0, if_pos z0, z0]
      exact ⟨h1, rfl, q1⟩
    · rw [if_neg z0, if_neg z0]
      by_cases w0 : w = 0
      · rw [if_pos w0, if_pos w0]
        exact ⟨h1, rfl, q1⟩
      · rw [if_neg w0, if_neg w0]
        obtain ⟨n, rfl⟩ : ∃ n : Nat, z' = n := ⟨z'.toNat, by omega⟩
        rw [i_L (by omega), m_ones (by omega), bd_e, pcn_ct (by omega), Int.toNat_natCast]
        exact ⟨h1, rfl, q1⟩
  · rw [if_pos d, if_pos (show w < 0 ∨ 1 < w by omega)]
    exact ⟨h, rfl, q⟩
theorem M_loose {h : Hp} {s : Sta} (q : JM h s) {k : Int} (hk : -2147483648 ≤ k ∧ k < 2147483648) : ∃ h', F_X12_loose (iI k) h = some (iI (A_loose s k), h') ∧ JM h' s := by
  obtain ⟨h1, e1, q1⟩ := m_loose q.2.2.1 hk
  have f := fr_X12_loose _ _ _ _ e1
  exact ⟨h1, e1, q.al f (by decide) (by decide) q1⟩
theorem M_ask {h : Hp} {s : Sta} (q : JM h s) {w : Int} (hw : -2147483648 ≤ w ∧ w < 2147483648) : ∃ h', F_X12_ask (iI w) h = some (iI (A_ask s w), h') ∧ JM h' s := by
  obtain ⟨h1, e1, q1⟩ := m_ask q.2.2.1 hw
  have f := fr_X12_ask _ _ _ _ e1
  exact ⟨h1, e1, q.al f (by decide) (by decide) q1⟩
theorem M_would {h : Hp} {s : Sta} (q : JM h s) {x m v : Int} (hx : -2147483648 ≤ x ∧ x < 2147483648) (hm : -2147483648 ≤ m ∧ m < 2147483648) (hv : -2147483648 ≤ v ∧ v < 2147483648) : ∃ h', F_X12_would (iI x) (iI m) (iI v) h = some (iI (A_would s x m v), h') ∧ JM h' s := by
  have qa := q.2.2.1
  have h7 := qa.1.2.1
  suffices w : ∃ h', F_X12_would (iI x) (iI m) (iI v) h = some (iI (A_would s x m v), h') ∧ AmC h' (st_a s) by
    obtain ⟨h', e, qa'⟩ := w
    exact ⟨h', e, q.al (fr_X12_would _ _ _ _ _ _ e) (by decide) (by decide) qa'⟩
  unfold F_X12_would A_would
  rw [m_isPicture qa hx, bd_e]
  by_cases c : 0 ≤ x ∧ x < (al_w (st_a s)).length
  · obtain ⟨p, rfl, hp⟩ := rg_of hx c
    rw [bI_t c, if_neg (by decide), if_pos c, m_isMatter qa hm, bd_e, jn_e, Int.toNat_natCast]
    by_cases d : 0 ≤ m ∧ m < 2 + (al_k (st_a s)).length
    · have m9 := al_most_le (st_a s) m.toNat
      rw [bI_t d, if_neg (by decide), m_mostOf qa d, bd_e, il_0, m_within hv (by omega) (by omega), bd_e]
      by_cases e : 0 ≤ v ∧ v ≤ al_most (st_a s) m.toNat
      · obtain ⟨n, rfl⟩ : ∃ n : Nat, v = n := ⟨v.toNat, by omega⟩
        rw [bI_t e, if_neg (by decide), if_pos ⟨d, e⟩]
        obtain ⟨h1, e1, q1⟩ := m_wouldBe qa hp d (v := n) (by omega)
        rw [e1, bd_e, Int.toNat_natCast]
        exact ⟨h1, rfl, q1⟩
      · rw [bI_f e, if_pos rfl, if_neg (fun z => e z.2)]
        exact ⟨h, rfl, qa⟩
    · rw [bI_f d, if_pos (show iI 0 = 0 from rfl), if_neg (fun z => d z.1)]
      exact ⟨h, rfl, qa⟩
  · rw [bI_f c, if_pos (show iI 0 = 0 from rfl), if_neg c]
    exact ⟨h, rfl, qa⟩
theorem pb_sm (a : Alb) : ∀ k, pb_n a k = ro_sm (fun q => ro_ct (nd (bm (fun p => bf_b a p q) 7) (2 ^ q))) k
  | 0 => rfl
  | k + 1 => by
    show pb_n a k + _ = ro_sm _ k + _
    rw [pb_sm a k]
def pq_n (a : Alb) (p q : Nat) : Nat := if p ≠ q ∧ bf_b a p q = true then 1 else 0
theorem pb_pairs {a : Alb} (h : al_ok a) : ro_sm (fun p => ro_sm (fun q => pq_n a p q) (al_w a).length) (al_w a).length = pb_n a (al_w a).length := by
  rw [sm_swap, pb_sm]
  refine ro_sm_congr (fun q hq => ?_)
  unfold ro_ct
  rw [sm_np h.2.1 (fun i hi => ?_)]
  · refine ro_sm_congr (fun p hp => ?_)
    have h7 := h.2.1
    unfold pq_n
    rw [nd_tb, bm_tb, Nat.testBit_two_pow, decide_eq_true (show p < 7 by omega), Bool.true_and]
    by_cases c : p ≠ q ∧ bf_b a p q = true
    · rw [if_pos c, c.2, decide_eq_false (fun z => c.1 z.symm)]
      rfl
    · rw [if_neg c, if_neg (fun z => c ?_)]
      rw [Bool.and_eq_true, Bool.not_eq_true', decide_eq_false_iff_not] at z
      exact ⟨fun e => z.2 e.symm, z.1⟩
  · refine if_neg (fun z => ?_)
    rw [nd_tb, bm_tb, Bool.and_eq_true, Bool.and_eq_true] at z
    have := bf_np h z.1.2
    omega
theorem m_pairs {h : Hp} {a : Alb} (q : AmC h a) : F_X12_pairs h = some (iI (pb_n a (al_w a).length : Int), h) := by
  have h7 := q.1.2.1
  rw [← pb_pairs q.1]
  unfold F_X12_pairs
  refine lp_up (α := Int32 → Int32 → Hp → Option (Int32 × Hp)) (P := fun k c => ∀ v, v = iI (ro_sm (fun p => ro_sm (fun q => pq_n a p q) (al_w a).length) k : Int) → c v (iI k) h = some (iI (ro_sm (fun p => ro_sm (fun q => pq_n a p q) (al_w a).length) (al_w a).length : Int), h)) (al_w a).length (by omega) (fun k c hk ih v hv => ?_) _ rfl
  subst hv
  by_cases z : k < (al_w a).length
  · have ih := ih z
    simp (maxSteps := 3000000) (implicitDefEqProofs := false) (disch := omega) only [jl_e, jn_e, bd_e, gd_t, iI_add, iI_sub, iI_mul, iI_neg, if_true, if_false, not_true_eq_false, not_false_eq_true, Int.reduceEq, Nat.add_zero, Int.toNat_natCast, iI_cl, iI_lt, iI_eq, gd_in, bI_eq0, bI_eq1, bI_isB, isB_0, isB_1, il_0, il_1, il_2, il_3, il_4, il_5, il_6, il_7, il_8, il_9, il_10, il_12, il_16, il_18, il_24, il_27, il_30, il_31, il_32, il_40, il_47, il_48, il_49, il_55, il_56, il_57, il_59, il_63, il_64, il_96, il_97, il_98, il_99, il_101, il_103, il_104, il_105, il_108, il_109, il_110, il_111, il_112, il_114, il_115, il_116, il_117, il_119, il_122, il_127, il_128, il_200, il_225, il_255, il_256, il_999, il_1575, il_9999, il_65536, il_252645135, il_858993459, il_1431655765, q.np]
    rw [if_pos (by omega)]
    refine lp_up (α := Int32 → Int32 → Hp → Option (Int32 × Hp)) (P := fun j d => ∀ v, v = iI ((ro_sm (fun p => ro_sm (fun q => pq_n a p q) (al_w a).length) k + ro_sm (fun q => pq_n a k q) j : Nat) : Int) → d v (iI j) h = some (iI (ro_sm (fun p => ro_sm (fun q => pq_n a p q) (al_w a).length) (al_w a).length : Int), h)) (al_w a).length (by omega) (fun j d hj ih2 v hv => ?_) _ rfl
    subst hv
    by_cases y : j < (al_w a).length
    · have ih2 := ih2 y
      have st : ro_sm (fun q => pq_n a k q) (j + 1) = ro_sm (fun q => pq_n a k q) j + pq_n a k j := rfl
      simp (maxSteps := 3000000) (implicitDefEqProofs := false) (disch := omega) only [jl_e, jn_e, bd_e, gd_t, iI_add, iI_sub, iI_mul, iI_neg, if_true, if_false, not_true_eq_false, not_false_eq_true, Int.reduceEq, Nat.add_zero, Int.toNat_natCast, iI_cl, iI_lt, iI_eq, gd_in, bI_eq0, bI_eq1, bI_isB, isB_0, isB_1, il_0, il_1, il_2, il_3, il_4, il_5, il_6, il_7, il_8, il_9, il_10, il_12, il_16, il_18, il_24, il_27, il_30, il_31, il_32, il_40, il_47, il_48, il_49, il_55, il_56, il_57, il_59, il_63, il_64, il_96, il_97, il_98, il_99, il_101, il_103, il_104, il_105, il_108, il_109, il_110, il_111, il_112, il_114, il_115, il_116, il_117, il_119, il_122, il_127, il_128, il_200, il_225, il_255, il_256, il_999, il_1575, il_9999, il_65536, il_252645135, il_858993459, il_1431655765, q.np, m_isBefore q (show k < 7 by omega) (show j < 7 by omega)]
      rw [if_pos (by omega)]
      have yes : (k ≠ j ∧ bf_b a k j = true) → d (iI (((ro_sm (fun p => ro_sm (fun q => pq_n a p q) (al_w a).length) k + ro_sm (fun q => pq_n a k q) j : Nat) : Int) + 1)) (iI ((j : Int) + 1)) h = some (iI (ro_sm (fun p => ro_sm (fun q => pq_n a p q) (al_w a).length) (al_w a).length : Int), h) := fun g => ih2 _ (by
        rw [st, show pq_n a k j = 1 from if_pos g]
        exact iI_cg (by omega))
      have no : ¬ (k ≠ j ∧ bf_b a k j = true) → d (iI (((ro_sm (fun p => ro_sm (fun q => pq_n a p q) (al_w a).length) k + ro_sm (fun q => pq_n a k q) j : Nat) : Int) + 0)) (iI ((j : Int) + 1)) h = some (iI (ro_sm (fun p => ro_sm (fun q => pq_n a p q) (al_w a).length) (al_w a).length : Int), h) := fun g => ih2 _ (by
        rw [st, show pq_n a k j = 0 from if_neg g]
        exact iI_cg (by omega))
      by_cases e : k = j
      · rw [if_pos (by omega)]
        exact no (fun g => g.1 e)
      · rw [if_neg (by omega)]
        by_cases b : bf_b a k j = true
        · rw [if_neg (fun u => u b)]
          exact yes ⟨e, b⟩
        · rw [if_pos b]
          exact no (fun g => b g.2)
    · have ej : j = (al_w a).length := by omega
      subst ej
      simp (maxSteps := 3000000) (implicitDefEqProofs := false) (disch := omega) only [jl_e, jn_e, bd_e, gd_t, iI_add, iI_sub, iI_mul, iI_neg, if_true, if_false, not_true_eq_false, not_false_eq_true, Int.reduceEq, Nat.add_zero, Int.toNat_natCast, iI_cl, iI_lt, iI_eq, gd_in, bI_eq0, bI_eq1, bI_isB, isB_0, isB_1, il_0, il_1, il_2, il_3, il_4, il_5, il_6, il_7, il_8, il_9, il_10, il_12, il_16, il_18, il_24, il_27, il_30, il_31, il_32, il_40, il_47, il_48, il_49, il_55, il_56, il_57, il_59, il_63, il_64, il_96, il_97, il_98, il_99, il_101, il_103, il_104, il_105, il_108, il_109, il_110, il_111, il_112, il_114, il_115, il_116, il_117, il_119, il_122, il_127, il_128, il_200, il_225, il_255, il_256, il_999, il_1575, il_9999, il_65536, il_252645135, il_858993459, il_1431655765, q.np]
      rw [if_neg (by omega)]
      exact ih _ rfl
  · simp (maxSteps := 3000000) (implicitDefEqProofs := false) (disch := omega) only [jl_e, jn_e, bd_e, gd_t, iI_add, iI_sub, iI_mul, iI_neg, if_true, if_false, not_true_eq_false, not_false_eq_true, Int.reduceEq, Nat.add_zero, Int.toNat_natCast, iI_cl, iI_lt, iI_eq, gd_in, bI_eq0, bI_eq1, bI_isB, isB_0, isB_1, il_0, il_1, il_2, il_3, il_4, il_5, il_6, il_7, il_8, il_9, il_10, il_12, il_16, il_18, il_24, il_27, il_30, il_31, il_32, il_40, il_47, il_48, il_49, il_55, il_56, il_57, il_59, il_63, il_64, il_96, il_97, il_98, il_99, il_101, il_103, il_104, il_105, il_108, il_109, il_110, il_111, il_112, il_114, il_115, il_116, il_117, il_119, il_122, il_127, il_128, il_200, il_225, il_255, il_256, il_999, il_1575, il_9999, il_65536, il_252645135, il_858993459, il_1431655765, q.np]
    rw [if_neg (by omega), show k = (al_w a).length by omega]
theorem M_count {h : Hp} {s : Sta} (q : JM h s) {w : Int} (hw : -2147483648 ≤ w ∧ w < 2147483648) : ∃ h', F_X12_count (iI w) h = some (iI (A_count s w), h') ∧ JM h' s := by
  obtain ⟨q0, q1, q2, q3, q4, q5⟩ := id q
  have ok : sz_ok (st_z s) := q0.2.2.2.2
  suffices v : F_X12_count (iI w) h = some (iI (A_count s w), h) from ⟨h, v, q⟩
  have pl : F_X12_placesOfAll h = some (iI (sz_all (st_z s) 3), h) := by
    unfold F_X12_placesOfAll
    refine lp_up (α := Int32 → Int32 → Hp → Option (Int32 × Hp)) (P := fun k c => ∀ v, v = iI (sz_all (st_z s) k) → c v (iI k) h = some (iI (sz_all (st_z s) 3), h)) 3 (by omega) (fun k c hk ih v hv => ?_) _ rfl
    subst hv
    by_cases z : k < 3
    · have ih := ih z
      have e := q5.1 k z
      have o := ok k z
      have st : sz_all (st_z s) (k + 1) = sz_all (st_z s) k + max 0 ((st_z s).1 k) := rfl
      simp (maxSteps := 3000000) (implicitDefEqProofs := false) (disch := omega) only [jl_e, jn_e, bd_e, gd_t, iI_add, iI_sub, iI_mul, iI_neg, if_true, if_false, not_true_eq_false, not_false_eq_true, Int.reduceEq, Nat.add_zero, Int.toNat_natCast, iI_cl, iI_lt, iI_eq, gd_in, bI_eq0, bI_eq1, bI_isB, isB_0, isB_1, il_0, il_1, il_2, il_3, il_4, il_5, il_6, il_7, il_8, il_9, il_10, il_12, il_16, il_18, il_24, il_27, il_30, il_31, il_32, il_40, il_47, il_48, il_49, il_55, il_56, il_57, il_59, il_63, il_64, il_96, il_97, il_98, il_99, il_101, il_103, il_104, il_105, il_108, il_109, il_110, il_111, il_112, il_114, il_115, il_116, il_117, il_119, il_122, il_127, il_128, il_200, il_225, il_255, il_256, il_999, il_1575, il_9999, il_65536, il_252645135, il_858993459, il_1431655765, e]
      rw [if_pos (by omega)]
      by_cases c1 : (st_z s).1 k = -1
      · rw [if_pos c1]
        exact ih _ (iI_cg (by omega))
      · rw [if_neg c1]
        exact ih _ (iI_cg (by omega))
    · simp (maxSteps := 3000000) (implicitDefEqProofs := false) (disch := omega) only [jl_e, jn_e, bd_e, gd_t, iI_add, iI_sub, iI_mul, iI_neg, if_true, if_false, not_true_eq_false, not_false_eq_true, Int.reduceEq, Nat.add_zero, Int.toNat_natCast, iI_cl, iI_lt, iI_eq, gd_in, bI_eq0, bI_eq1, bI_isB, isB_0, isB_1, il_0, il_1, il_2, il_3, il_4, il_5, il_6, il_7, il_8, il_9, il_10, il_12, il_16, il_18, il_24, il_27, il_30, il_31, il_32, il_40, il_47, il_48, il_49, il_55, il_56, il_57, il_59, il_63, il_64, il_96, il_97, il_98, il_99, il_101, il_103, il_104, il_105, il_108, il_109, il_110, il_111, il_112, il_114, il_115, il_116, il_117, il_119, il_122, il_127, il_128, il_200, il_225, il_255, il_256, il_999, il_1575, il_9999, il_65536, il_252645135, il_858993459, il_1431655765]
      rw [if_neg (by omega), show k = 3 by omega]
  unfold F_X12_count A_count
  simp (maxSteps := 3000000) (implicitDefEqProofs := false) (disch := omega) only [jl_e, jn_e, bd_e, gd_t, iI_add, iI_sub, iI_mul, iI_neg, if_true, if_false, not_true_eq_false, not_false_eq_true, Int.reduceEq, Nat.add_zero, Int.toNat_natCast, iI_cl, iI_lt, iI_eq, gd_in, bI_eq0, bI_eq1, bI_isB, isB_0, isB_1, il_0, il_1, il_2, il_3, il_4, il_5, il_6, il_7, il_8, il_9, il_10, il_12, il_16, il_18, il_24, il_27, il_30, il_31, il_32, il_40, il_47, il_48, il_49, il_55, il_56, il_57, il_59, il_63, il_64, il_96, il_97, il_98, il_99, il_101, il_103, il_104, il_105, il_108, il_109, il_110, il_111, il_112, il_114, il_115, il_116, il_117, il_119, il_122, il_127, il_128, il_200, il_225, il_255, il_256, il_999, il_1575, il_9999, il_65536, il_252645135, il_858993459, il_1431655765, q2.np, q2.nt, tn0, q2.nw.l, m_pairs q2, q2.2.1.1, q2.2.1.2.1, q2.2.1.2.2, pl, q3.1, q1.1]
  by_cases w0 : w = 0
  · simp only [if_pos w0]
  simp only [if_neg w0]
  by_cases w1 : w = 1
  · simp only [if_pos w1]
  simp only [if_neg w1]
  by_cases w2 : w = 2
  · simp only [if_pos w2]
  simp only [if_neg w2]
  by_cases w3 : w = 3
  · simp only [if_pos w3]
  simp only [if_neg w3]
  by_cases w4 : w = 4
  · simp only [if_pos w4]
  simp only [if_neg w4]
  by_cases w5 : w = 5
  · simp only [if_pos w5]
  simp only [if_neg w5]
  by_cases w6 : w = 6
  · simp only [if_pos w6]
  simp only [if_neg w6]
  by_cases w7 : w = 7
  · simp only [if_pos w7]
  simp only [if_neg w7]
  by_cases w8 : w = 8
  · simp only [if_pos w8]
  simp only [if_neg w8]
  by_cases w9 : w = 9
  · simp only [if_pos w9]
  simp only [if_neg w9]
