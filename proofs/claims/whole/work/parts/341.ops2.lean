-- ===== the class's questions about the orders =====
theorem c_areTwo {h : Hp} {a : Alb} (hA : AlC 3 h a) {x y : Int} (hx : -2147483648 ≤ x ∧ x < 2147483648) (hy : -2147483648 ≤ y ∧ y < 2147483648) : F_X11_areTwoPictures (iI x) (iI y) h = some (bI ((0 ≤ x ∧ x < (al_w a).length) ∧ (0 ≤ y ∧ y < (al_w a).length) ∧ x ≠ y), h) := by
  unfold F_X11_areTwoPictures
  simp (maxSteps := 3000000) (implicitDefEqProofs := false) (disch := omega) only [jl_e, jn_e, bd_e, gd_t, iI_add, iI_sub, iI_mul, iI_neg, if_true, if_false, not_true_eq_false, not_false_eq_true, Int.reduceEq, Nat.add_zero, Int.toNat_natCast, iI_cl, iI_lt, iI_eq, gd_in, bI_eq0, bI_eq1, bI_isB, isB_0, isB_1, il_0, il_1, il_2, il_3, il_4, il_5, il_6, il_7, il_8, il_9, il_10, il_12, il_16, il_18, il_24, il_27, il_30, il_31, il_32, il_40, il_47, il_48, il_49, il_55, il_56, il_57, il_59, il_63, il_64, il_96, il_97, il_98, il_99, il_101, il_103, il_104, il_105, il_108, il_109, il_110, il_111, il_112, il_114, il_115, il_116, il_117, il_119, il_122, il_127, il_128, il_200, il_225, il_255, il_256, il_999, il_1575, il_9999, il_65536, il_252645135, il_858993459, il_1431655765, c_hasPicture hA hx, c_hasPicture hA hy]
  by_cases c : 0 ≤ x ∧ x < (al_w a).length
  · rw [if_neg (fun z => z c)]
    by_cases d : 0 ≤ y ∧ y < (al_w a).length
    · rw [if_neg (fun z => z d)]
      by_cases e : x = y
      · rw [if_pos e, bI_f (fun w => w.2.2 e)]
      · rw [if_neg e, bI_t ⟨c, d, e⟩]
    · rw [if_pos d, bI_f (fun w => d w.2.1)]
  · rw [if_pos c, bI_f (fun w => c w.1)]
def two_p (s : Sta) (x y : Int) : Prop := (0 ≤ x ∧ x < (al_w (st_a s)).length) ∧ (0 ≤ y ∧ y < (al_w (st_a s)).length) ∧ x ≠ y
def A_before (s : Sta) (x y : Int) : Int := if (0 ≤ x ∧ x < (al_w (st_a s)).length) ∧ (0 ≤ y ∧ y < (al_w (st_a s)).length) ∧ x ≠ y then (if bf_b (st_a s) x.toNat y.toNat = true then 1 else 0) else -2
theorem C_before {h : Hp} {s : Sta} (q : JC h s) {x y : Int} (hx : -2147483648 ≤ x ∧ x < 2147483648) (hy : -2147483648 ≤ y ∧ y < 2147483648) : ∃ h', F_X11_before (iI x) (iI y) h = some (iI (A_before s x y), h') ∧ JC h' s := by
  have hA := q.2.2.1
  have hnp := hA.1.2.1
  unfold F_X11_before A_before
  rw [c_areTwo hA hx hy, bd_e]
  by_cases c : (0 ≤ x ∧ x < (al_w (st_a s)).length) ∧ (0 ≤ y ∧ y < (al_w (st_a s)).length) ∧ x ≠ y
  · obtain ⟨p, e, hp⟩ := rg_of hx c.1
    obtain ⟨r, e2, hr⟩ := rg_of hy c.2.1
    subst e e2
    obtain ⟨h1, e1, q1, rk⟩ := c_rulesNow q
    refine ⟨h1, ?_, q1⟩
    rw [if_neg (by rw [bI_zero]; exact fun z => z c), if_pos c]
    have tb : (bm (fun k => bf_b (st_a s) k r) 7).testBit p = bf_b (st_a s) p r := by rw [bm_tb]; simp; omega
    simp (maxSteps := 3000000) (implicitDefEqProofs := false) (disch := omega) only [jl_e, jn_e, bd_e, gd_t, iI_add, iI_sub, iI_mul, iI_neg, if_true, if_false, not_true_eq_false, not_false_eq_true, Int.reduceEq, Nat.add_zero, Int.toNat_natCast, iI_cl, iI_lt, iI_eq, gd_in, bI_eq0, bI_eq1, bI_isB, isB_0, isB_1, il_0, il_1, il_2, il_3, il_4, il_5, il_6, il_7, il_8, il_9, il_10, il_12, il_16, il_18, il_24, il_27, il_30, il_31, il_32, il_40, il_47, il_48, il_49, il_55, il_56, il_57, il_59, il_63, il_64, il_96, il_97, il_98, il_99, il_101, il_103, il_104, il_105, il_108, il_109, il_110, il_111, il_112, il_114, il_115, il_116, il_117, il_119, il_122, il_127, il_128, il_200, il_225, il_255, il_256, il_999, il_1575, il_9999, il_65536, il_252645135, il_858993459, il_1431655765, e1, c_earlierThan rk.2.2 (show r < 7 by omega), c_hasBit (bm_7 (fun k => bf_b (st_a s) k r)) (show p < 8 by omega), tb]
    by_cases w : bf_b (st_a s) p r = true
    · rw [if_neg (fun z => z w), if_pos w]
    · rw [if_pos w, if_neg w]
  · rw [if_pos (by rw [bI_zero]; exact c), if_neg c]
    exact ⟨h, rfl, q⟩
theorem C_orders {h : Hp} {s : Sta} (q : JC h s) : ∃ h', F_X11_orders h = some (iI (al_or (st_a s)).length, h') ∧ JC h' s := by
  obtain ⟨h1, e1, q1, rk, o⟩ := c_ordersNow q
  refine ⟨h1, ?_, q1⟩
  unfold F_X11_orders
  have o2 : sG h1 5249 = _ := o.2.1
  rw [e1, bd_e, o2]
  rfl
def A_order (s : Sta) (k i : Int) : Int := if k < 0 ∨ i < 0 then -3 else if k < (al_or (st_a s)).length ∧ i < (al_w (st_a s)).length then (((al_or (st_a s)).getD k.toNat []).getD i.toNat 0 : Int) else -1
theorem C_order {h : Hp} {s : Sta} (q : JC h s) {k i : Int} (hk : -2147483648 ≤ k ∧ k < 2147483648) (hi : -2147483648 ≤ i ∧ i < 2147483648) : ∃ h', F_X11_order (iI k) (iI i) h = some (iI (A_order s k i), h') ∧ JC h' s := by
  have hnp := q.2.2.1.1.2.1
  unfold F_X11_order A_order
  simp (maxSteps := 3000000) (implicitDefEqProofs := false) (disch := omega) only [jl_e, jn_e, bd_e, gd_t, iI_add, iI_sub, iI_mul, iI_neg, if_true, if_false, not_true_eq_false, not_false_eq_true, Int.reduceEq, Nat.add_zero, Int.toNat_natCast, iI_cl, iI_lt, iI_eq, gd_in, bI_eq0, bI_eq1, bI_isB, isB_0, isB_1, il_0, il_1, il_2, il_3, il_4, il_5, il_6, il_7, il_8, il_9, il_10, il_12, il_16, il_18, il_24, il_27, il_30, il_31, il_32, il_40, il_47, il_48, il_49, il_55, il_56, il_57, il_59, il_63, il_64, il_96, il_97, il_98, il_99, il_101, il_103, il_104, il_105, il_108, il_109, il_110, il_111, il_112, il_114, il_115, il_116, il_117, il_119, il_122, il_127, il_128, il_200, il_225, il_255, il_256, il_999, il_1575, il_9999, il_65536, il_252645135, il_858993459, il_1431655765]
  by_cases c : k < 0
  · rw [if_pos c, if_pos (Or.inl c)]
    exact ⟨h, rfl, q⟩
  by_cases d : i < 0
  · rw [if_neg c, if_pos d, if_pos (Or.inr d)]
    exact ⟨h, rfl, q⟩
  obtain ⟨h1, e1, q1, rk, o⟩ := c_ordersNow q
  obtain ⟨k', ek⟩ : ∃ k' : Nat, k = k' := ⟨k.toNat, by omega⟩
  obtain ⟨i', ei⟩ : ∃ i' : Nat, i = i' := ⟨i.toNat, by omega⟩
  subst ek ei
  have rx : RuR 75 h1 (al_x (st_a s)) := rk.2.1
  have ep := c_pictureAt (a := al_x (st_a s)) al_r_ok rx hnp o (by decide) (k := k') (i := i') (by omega) (by omega)
  refine ⟨h1, ?_, q1⟩
  rw [if_neg c, if_neg d, if_neg (show ¬ ((k' : Int) < 0 ∨ (i' : Int) < 0) by omega), e1, bd_e, ep, bd_e]
  congr 2
  apply iI_cg
  rw [Int.toNat_natCast, Int.toNat_natCast]
  have e : ((k' : Int) < (al_or (st_a s)).length ∧ (i' : Int) < (al_w (st_a s)).length) = (k' < (ro_rows (al_x (st_a s)).2 (al_S (al_x (st_a s)))).length ∧ i' < (al_x (st_a s)).1) := by
    show _ = (k' < (al_or (st_a s)).length ∧ i' < (al_w (st_a s)).length)
    exact propext (by omega)
  simp only [e]
  rfl
/-- the places and the slots as sets -/
def pl_is (a : Alb) (p : Nat) (m : Nat) : Prop := m < 128 ∧ ∀ k, k < 7 → (m.testBit k = true ↔ ro_pl (al_r a) (al_N a) p k)
def lf_is (a : Alb) (p : Nat) (m : Nat) : Prop := m < 281474976710656 ∧ ∀ k, k < 48 → (m.testBit k = true ↔ ro_lf (al_r a) (al_N a) p k)
theorem bits_one {N m m' : Nat} (h : m < 2 ^ N) (h' : m' < 2 ^ N) (e : ∀ k, k < N → (m.testBit k = true ↔ m'.testBit k = true)) : m = m' := by
  rw [bm_self h, bm_self h']
  apply bm_congr
  intro k hk
  exact Bool.eq_iff_iff.2 (e k hk)
theorem pl_one {a : Alb} {p m m' : Nat} (h : pl_is a p m) (h' : pl_is a p m') : m = m' := bits_one (N := 7) h.1 h'.1 (fun k hk => (h.2 k hk).trans (h'.2 k hk).symm)
theorem lf_one {a : Alb} {p m m' : Nat} (h : lf_is a p m) (h' : lf_is a p m') : m = m' := bits_one (N := 48) h.1 h'.1 (fun k hk => (h.2 k hk).trans (h'.2 k hk).symm)
theorem i_L7 {m : Nat} (h : m < 128) : (iI (m : Int)).toInt64 = lN m := i_L (by omega)
def A_place (s : Sta) (m : Nat) (x w : Int) : Int := if 0 ≤ x ∧ x < (al_w (st_a s)).length then (if w < 0 ∨ 1 < w then -3 else if m = 0 then -4 else if w = 0 then (if ro_f m.testBit 0 < 48 then (ro_f m.testBit 0 : Int) else -1) else (ro_l m.testBit 48 : Int) - 1) else -2
theorem C_place {h : Hp} {s : Sta} (q : JC h s) {x w : Int} (hx : -2147483648 ≤ x ∧ x < 2147483648) (hw : -2147483648 ≤ w ∧ w < 2147483648) : ∃ h' m, F_X11_place (iI x) (iI w) h = some (iI (A_place s m x w), h') ∧ JC h' s ∧ (0 ≤ x ∧ x < (al_w (st_a s)).length → pl_is (st_a s) x.toNat m) := by
  have hA := q.2.2.1
  have hnp := hA.1.2.1
  unfold F_X11_place A_place
  rw [c_hasPicture hA hx, bd_e]
  by_cases c : 0 ≤ x ∧ x < (al_w (st_a s)).length
  · obtain ⟨p, e, hp⟩ := rg_of hx c
    subst e
    obtain ⟨h1, e1, q1, o⟩ := c_hoursNow q
    obtain ⟨lf, pl, ho⟩ := o
    obtain ⟨l1, l2, l3, l4, l5, l6⟩ := ho p (by omega)
    have lI := i_L7 l5
    have hpl : pl_is (st_a s) p (pl p) := ⟨l5, l6⟩
    have e2 : F_X3_placesOf 86 (iI p) h1 = some (iI (pl p), h1) := by
      unfold F_X3_placesOf
      have l4' : aG h1 (86 + 4) p = iI (pl p) := l4
      simp (maxSteps := 3000000) (implicitDefEqProofs := false) (disch := omega) only [jl_e, jn_e, bd_e, gd_t, iI_add, iI_sub, iI_mul, iI_neg, if_true, if_false, not_true_eq_false, not_false_eq_true, Int.reduceEq, Nat.add_zero, Int.toNat_natCast, iI_cl, iI_lt, iI_eq, gd_in, bI_eq0, bI_eq1, bI_isB, isB_0, isB_1, il_0, il_1, il_2, il_3, il_4, il_5, il_6, il_7, il_8, il_9, il_10, il_12, il_16, il_18, il_24, il_27, il_30, il_31, il_32, il_40, il_47, il_48, il_49, il_55, il_56, il_57, il_59, il_63, il_64, il_96, il_97, il_98, il_99, il_101, il_103, il_104, il_105, il_108, il_109, il_110, il_111, il_112, il_114, il_115, il_116, il_117, il_119, il_122, il_127, il_128, il_200, il_225, il_255, il_256, il_999, il_1575, il_9999, il_65536, il_252645135, il_858993459, il_1431655765, l4']
      rw [if_neg (by omega), if_pos (by omega)]
    rw [if_neg (by rw [bI_zero]; exact fun z => z c)]
    simp only [if_pos c]
    by_cases c1 : w < 0 ∨ 1 < w
    · refine ⟨h, pl p, ?_, q, fun _ => hpl⟩
      rw [if_pos c1]
      simp (maxSteps := 3000000) (implicitDefEqProofs := false) (disch := omega) only [jl_e, jn_e, bd_e, gd_t, iI_add, iI_sub, iI_mul, iI_neg, if_true, if_false, not_true_eq_false, not_false_eq_true, Int.reduceEq, Nat.add_zero, Int.toNat_natCast, iI_cl, iI_lt, iI_eq, gd_in, bI_eq0, bI_eq1, bI_isB, isB_0, isB_1, il_0, il_1, il_2, il_3, il_4, il_5, il_6, il_7, il_8, il_9, il_10, il_12, il_16, il_18, il_24, il_27, il_30, il_31, il_32, il_40, il_47, il_48, il_49, il_55, il_56, il_57, il_59, il_63, il_64, il_96, il_97, il_98, il_99, il_101, il_103, il_104, il_105, il_108, il_109, il_110, il_111, il_112, il_114, il_115, il_116, il_117, il_119, il_122, il_127, il_128, il_200, il_225, il_255, il_256, il_999, il_1575, il_9999, il_65536, il_252645135, il_858993459, il_1431655765]
      rcases c1 with z | z
      · rw [if_pos z]
      · rw [if_neg (by omega), if_pos z]
    · refine ⟨h1, pl p, ?_, q1, fun _ => hpl⟩
      rw [if_neg c1]
      simp (maxSteps := 3000000) (implicitDefEqProofs := false) (disch := omega) only [jl_e, jn_e, bd_e, gd_t, iI_add, iI_sub, iI_mul, iI_neg, if_true, if_false, not_true_eq_false, not_false_eq_true, Int.reduceEq, Nat.add_zero, Int.toNat_natCast, iI_cl, iI_lt, iI_eq, gd_in, bI_eq0, bI_eq1, bI_isB, isB_0, isB_1, il_0, il_1, il_2, il_3, il_4, il_5, il_6, il_7, il_8, il_9, il_10, il_12, il_16, il_18, il_24, il_27, il_30, il_31, il_32, il_40, il_47, il_48, il_49, il_55, il_56, il_57, il_59, il_63, il_64, il_96, il_97, il_98, il_99, il_101, il_103, il_104, il_105, il_108, il_109, il_110, il_111, il_112, il_114, il_115, il_116, il_117, il_119, il_122, il_127, il_128, il_200, il_225, il_255, il_256, il_999, il_1575, il_9999, il_65536, il_252645135, il_858993459, il_1431655765, e1, e2, lI, c_firstSlot (show pl p < 281474976710656 by omega), c_lastSlot (show pl p < 281474976710656 by omega)]
      rw [if_neg (by omega), if_neg (by omega)]
      by_cases d : pl p = 0
      · rw [if_pos (by omega), if_pos d]
      · rw [if_neg (by omega), if_neg d]
        by_cases e : w = 0
        · rw [if_pos e, if_pos e]
        · rw [if_neg e, if_neg e]
  · rw [if_pos (by rw [bI_zero]; exact c)]
    simp only [if_neg c]
    exact ⟨h, 0, rfl, q, fun z => absurd z c⟩
def A_often (s : Sta) (x y : Int) : Int := if (0 ≤ x ∧ x < (al_w (st_a s)).length) ∧ (0 ≤ y ∧ y < (al_w (st_a s)).length) ∧ x ≠ y then (((al_or (st_a s)).filter (ro_bf x.toNat y.toNat)).length : Int) else -2
theorem C_often {h : Hp} {s : Sta} (q : JC h s) {x y : Int} (hx : -2147483648 ≤ x ∧ x < 2147483648) (hy : -2147483648 ≤ y ∧ y < 2147483648) : ∃ h', F_X11_often (iI x) (iI y) h = some (iI (A_often s x y), h') ∧ JC h' s := by
  have hA := q.2.2.1
  unfold F_X11_often A_often
  rw [c_areTwo hA hx hy, bd_e]
  by_cases c : (0 ≤ x ∧ x < (al_w (st_a s)).length) ∧ (0 ≤ y ∧ y < (al_w (st_a s)).length) ∧ x ≠ y
  · obtain ⟨p, e, hp⟩ := rg_of hx c.1
    obtain ⟨r, e2, hr⟩ := rg_of hy c.2.1
    subst e e2
    obtain ⟨h1, e1, q1, rk⟩ := c_rulesNow q
    obtain ⟨h2, e3⟩ := c_ordersWithAhead q1.2.2.1 rk.2.1 hp hr (by omega)
    have f := fr_X1_ordersWithAhead _ _ _ _ _ _ e3
    refine ⟨h2, ?_, q1.ca f (by decide) (by decide) ?_⟩
    · rw [if_neg (by rw [bI_zero]; exact fun z => z c), if_pos c, e1, bd_e, e3, bd_e]
      rfl
    · have c0 := q1.2.2.2.2.2.2
      have rk2 : RkC h2 (st_a s) := rk.fr f (by decide) (by decide) (by decide) (by decide) (by decide) (by decide) (by decide)
      refine ⟨Or.inr rk2, ?_, ?_, ?_, ?_, ?_⟩
      · rcases c0.2.1 with z | ⟨z1, z2, z3⟩
        · exact Or.inl ((f.sg (by decide)).trans z)
        · exact Or.inr ⟨(f.sg (by decide)).trans z1, rk2, z3.fr f (by decide) (by decide) (by decide) (by decide) (by decide)⟩
      · rcases c0.2.2.1 with z | ⟨z1, z2⟩
        · exact Or.inl ((f.sg (by decide)).trans z)
        · exact Or.inr ⟨(f.sg (by decide)).trans z1, z2.fr f (by decide) (by decide)⟩
      · rcases c0.2.2.2.1 with z | ⟨z1, y, z2, z3⟩
        · exact Or.inl ((f.sg (by decide)).trans z)
        · exact Or.inr ⟨(f.sg (by decide)).trans z1, y, (f.sg (by decide)).trans z2, z3⟩
      · rcases c0.2.2.2.2.1 with z | ⟨z1, z2, z3⟩
        · exact Or.inl ((f.sg (by decide)).trans z)
        · exact Or.inr ⟨(f.sg (by decide)).trans z1, (f.sg (by decide)).trans z2, fun k hk => (f.ag (by decide) k).trans (z3 k hk)⟩
      · rcases c0.2.2.2.2.2 with z | ⟨z1, z2, z3⟩
        · exact Or.inl ((f.sg (by decide)).trans z)
        · exact Or.inr ⟨(f.sg (by decide)).trans z1, (f.sg (by decide)).trans z2, (f.sg (by decide)).trans z3⟩
  · rw [if_pos (by rw [bI_zero]; exact c), if_neg c]
    exact ⟨h, rfl, q⟩
theorem c_leftTo {h : Hp} {a : Alb} (hnp : (al_w a).length ≤ 7) (o : HoC 86 h (al_x a)) {p : Nat} (hp : p < (al_w a).length) : ∃ m, lf_is a p m ∧ F_X3_leftTo 86 (iI p) h = some (lN m, h) := by
  obtain ⟨lf, pl, ho⟩ := o
  obtain ⟨l1, l2, l3, -⟩ := ho p (by omega)
  refine ⟨lf p, ⟨l2, l3⟩, ?_⟩
  unfold F_X3_leftTo
  have l1' : lG h (86 + 3) p = lN (lf p) := l1
  simp (maxSteps := 3000000) (implicitDefEqProofs := false) (disch := omega) only [jl_e, jn_e, bd_e, gd_t, iI_add, iI_sub, iI_mul, iI_neg, if_true, if_false, not_true_eq_false, not_false_eq_true, Int.reduceEq, Nat.add_zero, Int.toNat_natCast, iI_cl, iI_lt, iI_eq, gd_in, bI_eq0, bI_eq1, bI_isB, isB_0, isB_1, il_0, il_1, il_2, il_3, il_4, il_5, il_6, il_7, il_8, il_9, il_10, il_12, il_16, il_18, il_24, il_27, il_30, il_31, il_32, il_40, il_47, il_48, il_49, il_55, il_56, il_57, il_59, il_63, il_64, il_96, il_97, il_98, il_99, il_101, il_103, il_104, il_105, il_108, il_109, il_110, il_111, il_112, il_114, il_115, il_116, il_117, il_119, il_122, il_127, il_128, il_200, il_225, il_255, il_256, il_999, il_1575, il_9999, il_65536, il_252645135, il_858993459, il_1431655765, l1']
  rw [if_neg (by omega), if_pos (by omega)]
def A_left (s : Sta) (m : Nat) (x w : Int) : Int := if 0 ≤ x ∧ x < (al_w (st_a s)).length then (if w = 0 then (pcn 8 m : Int) else if w = 1 then (if ro_f m.testBit 0 < 48 then (ro_f m.testBit 0 : Int) else -1) else if w = 2 then (ro_l m.testBit 48 : Int) - 1 else -3) else -2
theorem C_left {h : Hp} {s : Sta} (q : JC h s) {x w : Int} (hx : -2147483648 ≤ x ∧ x < 2147483648) (hw : -2147483648 ≤ w ∧ w < 2147483648) : ∃ h' m, F_X11_left (iI x) (iI w) h = some (iI (A_left s m x w), h') ∧ JC h' s ∧ (0 ≤ x ∧ x < (al_w (st_a s)).length → lf_is (st_a s) x.toNat m) := by
  have hA := q.2.2.1
  have hnp := hA.1.2.1
  unfold F_X11_left A_left
  rw [c_hasPicture hA hx, bd_e]
  by_cases c : 0 ≤ x ∧ x < (al_w (st_a s)).length
  · obtain ⟨p, e, hp⟩ := rg_of hx c
    subst e
    obtain ⟨h1, e1, q1, o⟩ := c_hoursNow q
    obtain ⟨m, hm, e2⟩ := c_leftTo hnp o hp
    have hmb := hm.1
    rw [if_neg (by rw [bI_zero]; exact fun z => z c)]
    simp only [if_pos c]
    by_cases w0 : w = 0
    · subst w0
      refine ⟨h1, m, ?_, q1, fun _ => hm⟩
      simp (maxSteps := 3000000) (implicitDefEqProofs := false) (disch := omega) only [jl_e, jn_e, bd_e, gd_t, iI_add, iI_sub, iI_mul, iI_neg, if_true, if_false, not_true_eq_false, not_false_eq_true, Int.reduceEq, Nat.add_zero, Int.toNat_natCast, iI_cl, iI_lt, iI_eq, gd_in, bI_eq0, bI_eq1, bI_isB, isB_0, isB_1, il_0, il_1, il_2, il_3, il_4, il_5, il_6, il_7, il_8, il_9, il_10, il_12, il_16, il_18, il_24, il_27, il_30, il_31, il_32, il_40, il_47, il_48, il_49, il_55, il_56, il_57, il_59, il_63, il_64, il_96, il_97, il_98, il_99, il_101, il_103, il_104, il_105, il_108, il_109, il_110, il_111, il_112, il_114, il_115, il_116, il_117, il_119, il_122, il_127, il_128, il_200, il_225, il_255, il_256, il_999, il_1575, il_9999, il_65536, il_252645135, il_858993459, il_1431655765, e1, e2, c_bitCountL (show m < 18446744073709551616 by omega)]
    by_cases w1 : w = 1
    · subst w1
      refine ⟨h1, m, ?_, q1, fun _ => hm⟩
      simp (maxSteps := 3000000) (implicitDefEqProofs := false) (disch := omega) only [jl_e, jn_e, bd_e, gd_t, iI_add, iI_sub, iI_mul, iI_neg, if_true, if_false, not_true_eq_false, not_false_eq_true, Int.reduceEq, Nat.add_zero, Int.toNat_natCast, iI_cl, iI_lt, iI_eq, gd_in, bI_eq0, bI_eq1, bI_isB, isB_0, isB_1, il_0, il_1, il_2, il_3, il_4, il_5, il_6, il_7, il_8, il_9, il_10, il_12, il_16, il_18, il_24, il_27, il_30, il_31, il_32, il_40, il_47, il_48, il_49, il_55, il_56, il_57, il_59, il_63, il_64, il_96, il_97, il_98, il_99, il_101, il_103, il_104, il_105, il_108, il_109, il_110, il_111, il_112, il_114, il_115, il_116, il_117, il_119, il_122, il_127, il_128, il_200, il_225, il_255, il_256, il_999, il_1575, il_9999, il_65536, il_252645135, il_858993459, il_1431655765, e1, e2, c_firstSlot hmb]
    by_cases w2 : w = 2
    · subst w2
      refine ⟨h1, m, ?_, q1, fun _ => hm⟩
      simp (maxSteps := 3000000) (implicitDefEqProofs := false) (disch := omega) only [jl_e, jn_e, bd_e, gd_t, iI_add, iI_sub, iI_mul, iI_neg, if_true, if_false, not_true_eq_false, not_false_eq_true, Int.reduceEq, Nat.add_zero, Int.toNat_natCast, iI_cl, iI_lt, iI_eq, gd_in, bI_eq0, bI_eq1, bI_isB, isB_0, isB_1, il_0, il_1, il_2, il_3, il_4, il_5, il_6, il_7, il_8, il_9, il_10, il_12, il_16, il_18, il_24, il_27, il_30, il_31, il_32, il_40, il_47, il_48, il_49, il_55, il_56, il_57, il_59, il_63, il_64, il_96, il_97, il_98, il_99, il_101, il_103, il_104, il_105, il_108, il_109, il_110, il_111, il_112, il_114, il_115, il_116, il_117, il_119, il_122, il_127, il_128, il_200, il_225, il_255, il_256, il_999, il_1575, il_9999, il_65536, il_252645135, il_858993459, il_1431655765, e1, e2, c_lastSlot hmb]
    refine ⟨h, m, ?_, q, fun _ => hm⟩
    simp (maxSteps := 3000000) (implicitDefEqProofs := false) (disch := omega) only [jl_e, jn_e, bd_e, gd_t, iI_add, iI_sub, iI_mul, iI_neg, if_true, if_false, not_true_eq_false, not_false_eq_true, Int.reduceEq, Nat.add_zero, Int.toNat_natCast, iI_cl, iI_lt, iI_eq, gd_in, bI_eq0, bI_eq1, bI_isB, isB_0, isB_1, il_0, il_1, il_2, il_3, il_4, il_5, il_6, il_7, il_8, il_9, il_10, il_12, il_16, il_18, il_24, il_27, il_30, il_31, il_32, il_40, il_47, il_48, il_49, il_55, il_56, il_57, il_59, il_63, il_64, il_96, il_97, il_98, il_99, il_101, il_103, il_104, il_105, il_108, il_109, il_110, il_111, il_112, il_114, il_115, il_116, il_117, il_119, il_122, il_127, il_128, il_200, il_225, il_255, il_256, il_999, il_1575, il_9999, il_65536, il_252645135, il_858993459, il_1431655765]
    rw [if_neg w0, if_neg w1, if_neg w2, if_neg w0, if_neg w1, if_neg w2]
  · rw [if_pos (by rw [bI_zero]; exact c)]
    simp only [if_neg c]
    exact ⟨h, 0, rfl, q, fun z => absurd z c⟩
