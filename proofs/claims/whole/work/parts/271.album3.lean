-- ===== the class's album =====
def AlC (t : Nat) (h : Hp) (a : Alb) : Prop := al_ok a ∧ sG h (64 * t) = iI (al_w a).length ∧ sG h (64 * t + 1) = iI (al_k a).length ∧ SuC (t + 1) h (al_n a) (al_g a) (al_l a) ∧ PcC (t + 2) h (al_p a) ∧ (∀ i, i < (al_w a).length → aG h (t + 7) i = iI (w5 ((al_w a).getD i []))) ∧ (∀ i, i < (al_k a).length → aG h (t + 8) i = iI (al_kd a i))
theorem c_hasPicture {t : Nat} {h : Hp} {a : Alb} (q : AlC t h a) {p : Int} (hp : -2147483648 ≤ p ∧ p < 2147483648) : F_X0_hasPicture t (iI p) h = some (bI (0 ≤ p ∧ p < (al_w a).length), h) := by
  have h1 := q.1.2.1
  unfold F_X0_hasPicture
  simp (disch := omega) only [jl_e, jn_e, bd_e, gd_t, iI_add, iI_sub, iI_mul, iI_neg, if_true, if_false, not_true_eq_false, not_false_eq_true, Nat.add_zero, Int.toNat_natCast, iI_cl, iI_lt, iI_eq, gd_in, bI_eq0, bI_eq1, bI_isB, isB_0, isB_1, il_0, il_1, il_2, il_3, il_4, il_5, il_6, il_7, il_8, il_9, il_10, il_12, il_16, il_18, il_24, il_27, il_30, il_31, il_32, il_40, il_47, il_48, il_49, il_55, il_56, il_57, il_59, il_63, il_64, il_96, il_97, il_98, il_99, il_101, il_103, il_104, il_105, il_108, il_109, il_110, il_111, il_112, il_114, il_115, il_116, il_117, il_119, il_122, il_127, il_128, il_200, il_225, il_255, il_256, il_999, il_1575, il_9999, il_65536, il_252645135, il_858993459, il_1431655765, q.2.1]
  (repeat' split) <;> (try (first | rfl | (rw [bI_t (by omega)]) | (rw [bI_f (by omega)]) | (exfalso; omega) | (exact congrArg (fun z => some (iI z, _)) (by omega))))
theorem c_hasThing {t : Nat} {h : Hp} {a : Alb} (q : AlC t h a) {p : Int} (hp : -2147483648 ≤ p ∧ p < 2147483648) : F_X0_hasThing t (iI p) h = some (bI (0 ≤ p ∧ p < (al_k a).length), h) := by
  have h1 := q.1.2.2.1
  unfold F_X0_hasThing
  simp (disch := omega) only [jl_e, jn_e, bd_e, gd_t, iI_add, iI_sub, iI_mul, iI_neg, if_true, if_false, not_true_eq_false, not_false_eq_true, Nat.add_zero, Int.toNat_natCast, iI_cl, iI_lt, iI_eq, gd_in, bI_eq0, bI_eq1, bI_isB, isB_0, isB_1, il_0, il_1, il_2, il_3, il_4, il_5, il_6, il_7, il_8, il_9, il_10, il_12, il_16, il_18, il_24, il_27, il_30, il_31, il_32, il_40, il_47, il_48, il_49, il_55, il_56, il_57, il_59, il_63, il_64, il_96, il_97, il_98, il_99, il_101, il_103, il_104, il_105, il_108, il_109, il_110, il_111, il_112, il_114, il_115, il_116, il_117, il_119, il_122, il_127, il_128, il_200, il_225, il_255, il_256, il_999, il_1575, il_9999, il_65536, il_252645135, il_858993459, il_1431655765, q.2.2.1]
  (repeat' split) <;> (try (first | rfl | (rw [bI_t (by omega)]) | (rw [bI_f (by omega)]) | (exfalso; omega) | (exact congrArg (fun z => some (iI z, _)) (by omega))))
theorem c_hasMatter {t : Nat} {h : Hp} {a : Alb} (q : AlC t h a) {p : Int} (hp : -2147483648 ≤ p ∧ p < 2147483648) : F_X0_hasMatter t (iI p) h = some (bI (0 ≤ p ∧ p < 2 + (al_k a).length), h) := by
  have h1 := q.1.2.2.1
  unfold F_X0_hasMatter
  simp (disch := omega) only [jl_e, jn_e, bd_e, gd_t, iI_add, iI_sub, iI_mul, iI_neg, if_true, if_false, not_true_eq_false, not_false_eq_true, Nat.add_zero, Int.toNat_natCast, iI_cl, iI_lt, iI_eq, gd_in, bI_eq0, bI_eq1, bI_isB, isB_0, isB_1, il_0, il_1, il_2, il_3, il_4, il_5, il_6, il_7, il_8, il_9, il_10, il_12, il_16, il_18, il_24, il_27, il_30, il_31, il_32, il_40, il_47, il_48, il_49, il_55, il_56, il_57, il_59, il_63, il_64, il_96, il_97, il_98, il_99, il_101, il_103, il_104, il_105, il_108, il_109, il_110, il_111, il_112, il_114, il_115, il_116, il_117, il_119, il_122, il_127, il_128, il_200, il_225, il_255, il_256, il_999, il_1575, il_9999, il_65536, il_252645135, il_858993459, il_1431655765, q.2.2.1]
  (repeat' split) <;> (try (first | rfl | (rw [bI_t (by omega)]) | (rw [bI_f (by omega)]) | (exfalso; omega) | (exact congrArg (fun z => some (iI z, _)) (by omega))))
theorem c_kindOf {t : Nat} {h : Hp} {a : Alb} (q : AlC t h a) {p : Int} (hp : -2147483648 ≤ p ∧ p < 2147483648) : F_X0_kindOf t (iI p) h = some (iI (if 0 ≤ p ∧ p < (al_k a).length then (al_kd a p.toNat : Int) else -1), h) := by
  have h1 := q.1.2.2.1
  unfold F_X0_kindOf
  simp (disch := omega) only [jl_e, jn_e, bd_e, gd_t, iI_add, iI_sub, iI_mul, iI_neg, if_true, if_false, not_true_eq_false, not_false_eq_true, Nat.add_zero, Int.toNat_natCast, iI_cl, iI_lt, iI_eq, gd_in, bI_eq0, bI_eq1, bI_isB, isB_0, isB_1, il_0, il_1, il_2, il_3, il_4, il_5, il_6, il_7, il_8, il_9, il_10, il_12, il_16, il_18, il_24, il_27, il_30, il_31, il_32, il_40, il_47, il_48, il_49, il_55, il_56, il_57, il_59, il_63, il_64, il_96, il_97, il_98, il_99, il_101, il_103, il_104, il_105, il_108, il_109, il_110, il_111, il_112, il_114, il_115, il_116, il_117, il_119, il_122, il_127, il_128, il_200, il_225, il_255, il_256, il_999, il_1575, il_9999, il_65536, il_252645135, il_858993459, il_1431655765, c_hasThing q hp]
  by_cases c : 0 ≤ p ∧ p < (al_k a).length
  · rw [if_neg (fun z => z c), if_pos (by omega), if_pos c]
    (try simp (disch := omega) only [jl_e, jn_e, bd_e, gd_t, iI_add, iI_sub, iI_mul, iI_neg, if_true, if_false, not_true_eq_false, not_false_eq_true, Nat.add_zero, Int.toNat_natCast, iI_cl, iI_lt, iI_eq, gd_in, bI_eq0, bI_eq1, bI_isB, isB_0, isB_1, il_0, il_1, il_2, il_3, il_4, il_5, il_6, il_7, il_8, il_9, il_10, il_12, il_16, il_18, il_24, il_27, il_30, il_31, il_32, il_40, il_47, il_48, il_49, il_55, il_56, il_57, il_59, il_63, il_64, il_96, il_97, il_98, il_99, il_101, il_103, il_104, il_105, il_108, il_109, il_110, il_111, il_112, il_114, il_115, il_116, il_117, il_119, il_122, il_127, il_128, il_200, il_225, il_255, il_256, il_999, il_1575, il_9999, il_65536, il_252645135, il_858993459, il_1431655765])
    rw [q.2.2.2.2.2.2 _ (by omega)]
  · rw [if_pos c, if_neg c]
theorem c_mostValue {t : Nat} {h : Hp} {a : Alb} (q : AlC t h a) {m : Int} (hm : 0 ≤ m ∧ m < 2 + (al_k a).length) : F_X0_mostValue t (iI m) h = some (iI (al_most a m.toNat), h) := by
  have h1 := q.1.2.2.1
  by_cases c : m = 0
  · subst c; unfold F_X0_mostValue; simp (disch := omega) only [jl_e, jn_e, bd_e, gd_t, iI_add, iI_sub, iI_mul, iI_neg, if_true, if_false, not_true_eq_false, not_false_eq_true, Nat.add_zero, Int.toNat_natCast, iI_cl, iI_lt, iI_eq, gd_in, bI_eq0, bI_eq1, bI_isB, isB_0, isB_1, il_0, il_1, il_2, il_3, il_4, il_5, il_6, il_7, il_8, il_9, il_10, il_12, il_16, il_18, il_24, il_27, il_30, il_31, il_32, il_40, il_47, il_48, il_49, il_55, il_56, il_57, il_59, il_63, il_64, il_96, il_97, il_98, il_99, il_101, il_103, il_104, il_105, il_108, il_109, il_110, il_111, il_112, il_114, il_115, il_116, il_117, il_119, il_122, il_127, il_128, il_200, il_225, il_255, il_256, il_999, il_1575, il_9999, il_65536, il_252645135, il_858993459, il_1431655765]; rfl
  by_cases d : m = 1
  · subst d; unfold F_X0_mostValue; simp (disch := omega) only [jl_e, jn_e, bd_e, gd_t, iI_add, iI_sub, iI_mul, iI_neg, if_true, if_false, not_true_eq_false, not_false_eq_true, Nat.add_zero, Int.toNat_natCast, iI_cl, iI_lt, iI_eq, gd_in, bI_eq0, bI_eq1, bI_isB, isB_0, isB_1, il_0, il_1, il_2, il_3, il_4, il_5, il_6, il_7, il_8, il_9, il_10, il_12, il_16, il_18, il_24, il_27, il_30, il_31, il_32, il_40, il_47, il_48, il_49, il_55, il_56, il_57, il_59, il_63, il_64, il_96, il_97, il_98, il_99, il_101, il_103, il_104, il_105, il_108, il_109, il_110, il_111, il_112, il_114, il_115, il_116, il_117, il_119, il_122, il_127, il_128, il_200, il_225, il_255, il_256, il_999, il_1575, il_9999, il_65536, il_252645135, il_858993459, il_1431655765]; rfl
  have hk := q.1.2.2.2.2.1 (m - 2).toNat (by omega)
  have e1 := c_kindOf q (show -2147483648 ≤ m - 2 ∧ m - 2 < 2147483648 by omega)
  rw [if_pos (by omega)] at e1
  have e2 : al_most a m.toNat = if al_kd a (m - 2).toNat = 3 then 9 else 1 := by
    unfold al_most
    rw [if_neg (by omega), if_neg (by omega), show m.toNat - 2 = (m - 2).toNat by omega]
  rw [e2]
  unfold F_X0_mostValue
  simp (disch := omega) only [jl_e, jn_e, bd_e, gd_t, iI_add, iI_sub, iI_mul, iI_neg, if_true, if_false, not_true_eq_false, not_false_eq_true, Nat.add_zero, Int.toNat_natCast, iI_cl, iI_lt, iI_eq, gd_in, bI_eq0, bI_eq1, bI_isB, isB_0, isB_1, il_0, il_1, il_2, il_3, il_4, il_5, il_6, il_7, il_8, il_9, il_10, il_12, il_16, il_18, il_24, il_27, il_30, il_31, il_32, il_40, il_47, il_48, il_49, il_55, il_56, il_57, il_59, il_63, il_64, il_96, il_97, il_98, il_99, il_101, il_103, il_104, il_105, il_108, il_109, il_110, il_111, il_112, il_114, il_115, il_116, il_117, il_119, il_122, il_127, il_128, il_200, il_225, il_255, il_256, il_999, il_1575, il_9999, il_65536, il_252645135, il_858993459, il_1431655765, e1]
  rw [if_neg c, if_neg d]
  by_cases e : al_kd a (m - 2).toNat = 3
  · rw [if_pos (by omega), if_pos e]; rfl
  · rw [if_neg (by omega), if_neg e]; rfl
theorem c_takesValue {t : Nat} {h : Hp} {a : Alb} (q : AlC t h a) {m v : Int} (hm : -2147483648 ≤ m ∧ m < 2147483648) (hv : -2147483648 ≤ v ∧ v < 2147483648) : F_X0_takesValue t (iI m) (iI v) h = some (bI ((0 ≤ m ∧ m < 2 + (al_k a).length) ∧ 0 ≤ v ∧ v ≤ al_most a m.toNat), h) := by
  unfold F_X0_takesValue
  simp (disch := omega) only [jl_e, jn_e, bd_e, gd_t, iI_add, iI_sub, iI_mul, iI_neg, if_true, if_false, not_true_eq_false, not_false_eq_true, Nat.add_zero, Int.toNat_natCast, iI_cl, iI_lt, iI_eq, gd_in, bI_eq0, bI_eq1, bI_isB, isB_0, isB_1, il_0, il_1, il_2, il_3, il_4, il_5, il_6, il_7, il_8, il_9, il_10, il_12, il_16, il_18, il_24, il_27, il_30, il_31, il_32, il_40, il_47, il_48, il_49, il_55, il_56, il_57, il_59, il_63, il_64, il_96, il_97, il_98, il_99, il_101, il_103, il_104, il_105, il_108, il_109, il_110, il_111, il_112, il_114, il_115, il_116, il_117, il_119, il_122, il_127, il_128, il_200, il_225, il_255, il_256, il_999, il_1575, il_9999, il_65536, il_252645135, il_858993459, il_1431655765, c_hasMatter q hm]
  by_cases c : 0 ≤ m ∧ m < 2 + (al_k a).length
  · have hl := al_most_le a m.toNat
    simp (disch := omega) only [jl_e, jn_e, bd_e, gd_t, iI_add, iI_sub, iI_mul, iI_neg, if_true, if_false, not_true_eq_false, not_false_eq_true, Nat.add_zero, Int.toNat_natCast, iI_cl, iI_lt, iI_eq, gd_in, bI_eq0, bI_eq1, bI_isB, isB_0, isB_1, il_0, il_1, il_2, il_3, il_4, il_5, il_6, il_7, il_8, il_9, il_10, il_12, il_16, il_18, il_24, il_27, il_30, il_31, il_32, il_40, il_47, il_48, il_49, il_55, il_56, il_57, il_59, il_63, il_64, il_96, il_97, il_98, il_99, il_101, il_103, il_104, il_105, il_108, il_109, il_110, il_111, il_112, il_114, il_115, il_116, il_117, il_119, il_122, il_127, il_128, il_200, il_225, il_255, il_256, il_999, il_1575, il_9999, il_65536, il_252645135, il_858993459, il_1431655765, c_mostValue q c]
    rw [if_neg (fun z => z c)]
    (repeat' split) <;> (try (first | rfl | (rw [bI_t (by omega)]) | (rw [bI_f (by omega)]) | (exfalso; omega) | (exact congrArg (fun z => some (iI z, _)) (by omega))))
  · rw [if_pos c, bI_f (fun z => c z.1)]
theorem c_pictureNamed {t : Nat} {h : Hp} {a : Alb} (q : AlC t h a) {w : List Nat} (hw : wo_ok w) : F_X0_pictureNamed t (iI (w5 w)) h = some (iI (if (al_w a).findIdx (fun x => x == w) < (al_w a).length then ((al_w a).findIdx (fun x => x == w) : Int) else -1), h) := by
  have h1 := q.1.2.1
  have hr := w5_rng hw
  have hwk := fun i hi => w5_rng (q.1.2.2.2.1 i hi)
  have heq : ∀ i, i < (al_w a).length → ((iI (w5 ((al_w a).getD i [])) = iI (w5 w)) = ((al_w a).getD i [] = w)) := by
    intro i hi
    have := hwk i hi
    rw [iI_eq (by omega) (by omega) (by omega) (by omega)]
    apply propext
    rw [← wx_eq (b := 32) (by omega) (q.1.2.2.2.1 i hi) hw]
    unfold w5
    omega
  unfold F_X0_pictureNamed
  refine lp_up (α := Int32 → Hp → Option (Int32 × Hp)) (P := fun k c => (∀ i, i < k → (al_w a).getD i [] ≠ w) → c (iI k) h = some (iI (if (al_w a).findIdx (fun x => x == w) < (al_w a).length then ((al_w a).findIdx (fun x => x == w) : Int) else -1), h)) (al_w a).length (by omega) (fun k c hk ih => ?_) (fun i hi => absurd hi (Nat.not_lt_zero i))
  intro hno
  by_cases z : k < (al_w a).length
  · simp (disch := omega) only [jl_e, jn_e, bd_e, gd_t, iI_add, iI_sub, iI_mul, iI_neg, if_true, if_false, not_true_eq_false, not_false_eq_true, Nat.add_zero, Int.toNat_natCast, iI_cl, iI_lt, iI_eq, gd_in, bI_eq0, bI_eq1, bI_isB, isB_0, isB_1, il_0, il_1, il_2, il_3, il_4, il_5, il_6, il_7, il_8, il_9, il_10, il_12, il_16, il_18, il_24, il_27, il_30, il_31, il_32, il_40, il_47, il_48, il_49, il_55, il_56, il_57, il_59, il_63, il_64, il_96, il_97, il_98, il_99, il_101, il_103, il_104, il_105, il_108, il_109, il_110, il_111, il_112, il_114, il_115, il_116, il_117, il_119, il_122, il_127, il_128, il_200, il_225, il_255, il_256, il_999, il_1575, il_9999, il_65536, il_252645135, il_858993459, il_1431655765, q.2.1, q.2.2.2.2.2.1 k z, heq k z]
    rw [if_pos (by omega), if_pos (by omega)]
    (try simp (disch := omega) only [jl_e, jn_e, bd_e, gd_t, iI_add, iI_sub, iI_mul, iI_neg, if_true, if_false, not_true_eq_false, not_false_eq_true, Nat.add_zero, Int.toNat_natCast, iI_cl, iI_lt, iI_eq, gd_in, bI_eq0, bI_eq1, bI_isB, isB_0, isB_1, il_0, il_1, il_2, il_3, il_4, il_5, il_6, il_7, il_8, il_9, il_10, il_12, il_16, il_18, il_24, il_27, il_30, il_31, il_32, il_40, il_47, il_48, il_49, il_55, il_56, il_57, il_59, il_63, il_64, il_96, il_97, il_98, il_99, il_101, il_103, il_104, il_105, il_108, il_109, il_110, il_111, il_112, il_114, il_115, il_116, il_117, il_119, il_122, il_127, il_128, il_200, il_225, il_255, il_256, il_999, il_1575, il_9999, il_65536, il_252645135, il_858993459, il_1431655765])
    have eg : (al_w a).getD k [] = (al_w a)[k] := by
      rw [List.getD_eq_getElem?_getD, List.getElem?_eq_getElem z]
      rfl
    by_cases y : (al_w a).getD k [] = w
    · rw [if_pos y]
      have e1 : (al_w a).findIdx (fun x => x == w) = k := by
        rw [List.findIdx_eq z]
        refine ⟨by rw [← eg, y]; simp, fun j hj => ?_⟩
        have := hno j hj
        rw [List.getD_eq_getElem?_getD, List.getElem?_eq_getElem (by omega)] at this
        simpa using this
      rw [e1, if_pos z]
    · rw [if_neg y]
      exact ih z (fun i hi => by
        by_cases x : i = k
        · subst x; exact y
        · exact hno i (by omega))
  · simp (disch := omega) only [jl_e, jn_e, bd_e, gd_t, iI_add, iI_sub, iI_mul, iI_neg, if_true, if_false, not_true_eq_false, not_false_eq_true, Nat.add_zero, Int.toNat_natCast, iI_cl, iI_lt, iI_eq, gd_in, bI_eq0, bI_eq1, bI_isB, isB_0, isB_1, il_0, il_1, il_2, il_3, il_4, il_5, il_6, il_7, il_8, il_9, il_10, il_12, il_16, il_18, il_24, il_27, il_30, il_31, il_32, il_40, il_47, il_48, il_49, il_55, il_56, il_57, il_59, il_63, il_64, il_96, il_97, il_98, il_99, il_101, il_103, il_104, il_105, il_108, il_109, il_110, il_111, il_112, il_114, il_115, il_116, il_117, il_119, il_122, il_127, il_128, il_200, il_225, il_255, il_256, il_999, il_1575, il_9999, il_65536, il_252645135, il_858993459, il_1431655765, q.2.1]
    rw [if_neg (by omega)]
    have e1 : ¬ (al_w a).findIdx (fun x => x == w) < (al_w a).length := by
      intro x
      have hg := List.findIdx_getElem (p := fun x => x == w) (xs := al_w a) (w := x)
      have := hno _ (show (al_w a).findIdx (fun x => x == w) < k by omega)
      rw [List.getD_eq_getElem?_getD, List.getElem?_eq_getElem x] at this
      exact this (by simpa using hg)
    rw [if_neg e1]
