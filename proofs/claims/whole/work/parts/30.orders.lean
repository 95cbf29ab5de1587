-- ===== the class's Orders: the tables =====
def al_S (a : RA) : Nat := 2 ^ a.1 - 1
theorem al_S_tb (a : RA) (p : Nat) : (al_S a).testBit p = decide (p < a.1) := all_tb _ p
theorem al_S_lt {a : RA} (h : a.1 ≤ 7) : al_S a < 128 := all_lt h
theorem al_S_sub {a : RA} {A : Nat} (h : A ≤ al_S a) : A &&& al_S a = A := by
  have hp : 0 < 2 ^ a.1 := Nat.two_pow_pos _
  unfold al_S at *
  rw [Nat.and_two_pow_sub_one_eq_mod, Nat.mod_eq_of_lt (by omega)]
theorem al_S_le {a : RA} {A : Nat} (h : A &&& al_S a = A) : A ≤ al_S a := ro_sub_le h
theorem al_S_or {a : RA} {A p : Nat} (h : A ≤ al_S a) (hp : (al_S a).testBit p = true) : A ||| 2 ^ p ≤ al_S a := al_S_le (ro_sub_or (al_S_sub h) hp)
def nx_m (a : RA) (A : Nat) : Nat := bm (fun p => ro_nx (a.2) (al_S a).testBit A.testBit p) 7
theorem nx_m_tb {a : RA} {A p : Nat} (hp : p < 7) : (nx_m a A).testBit p = ro_nx (a.2) (al_S a).testBit A.testBit p := by
  unfold nx_m
  rw [bm_tb, decide_eq_true hp, Bool.true_and]
def nx_v (a : RA) (A r : Nat) : Nat := if r = 0 then 0 else nx_m a A
theorem nx_v_lt (a : RA) (A r : Nat) : nx_v a A r < 128 := by
  unfold nx_v
  split
  · omega
  · exact bm_7 _
theorem nx_v_np {a : RA} {A r p : Nat} (hp : p < 7) (h : (nx_v a A r).testBit p = true) : r ≠ 0 ∧ ro_nx (a.2) (al_S a).testBit A.testBit p = true ∧ p < a.1 := by
  unfold nx_v at h
  by_cases c : r = 0
  · rw [if_pos c, Nat.zero_testBit] at h; cases h
  · rw [if_neg c, nx_m_tb hp] at h
    have := (ro_nx_S h).1
    rw [al_S_tb] at this
    exact ⟨c, h, of_decide_eq_true this⟩
def rm_ok (t : Nat) (h : Hp) (rm : Nat → Nat) : Prop := ∀ B, B < 128 → lG h (t + 2) B = lN (rm B) ∧ rm B < 2 ^ 49
theorem c_reachOn {t b : Nat} {h : Hp} {a : RA} (q : RuR b h a) (hnp : a.1 ≤ 7) (hd : b + 6 < t ∨ t + 3 < b) {A : Nat} (hA : A < al_S a) {rm : Nat → Nat} (hm : rm_ok t h rm) : ∃ h' rm', F_X4_reachOn t b (iI A) (iI (al_S a)) h = some ((), h') ∧ rm_ok t h' rm' ∧ (∀ B j, (rm B).testBit j = true → (rm' B).testBit j = true) ∧ (∀ B, B ≤ A → rm' B = rm B) ∧ aG h' (t + 1) A = iI (nx_v a A (rm A)) ∧ (∀ B, B ≠ A → aG h' (t + 1) B = aG h (t + 1) B) ∧ (∀ p f, p < 7 → ro_nx (a.2) (al_S a).testBit A.testBit p = true → (rm A).testBit f = true → ro_f (ro_w a.2 p) f < 48 → (rm' (A ||| 2 ^ p)).testBit (ro_f (ro_w a.2 p) f + 1) = true) := by
  have hS := al_S_lt hnp
  have hA2 : A < 128 := by omega
  have hv := nx_v_lt a A (rm A)
  have hno := c_nextOnes q hnp hS hA2 (fun p hp => by rw [al_S_tb] at hp; exact of_decide_eq_true hp)
  have e0 : lG h (t + 2) A = lN (rm A) := (hm A hA2).1
  suffices H : ∃ h' rm', (lp 4000000000 (fun (c9 : Int32 → Hp → Option (Unit × Hp)) (v7 : Int32) (h8 : Hp) =>
  if v7 < (7 : Int32) then (
  jl (iI (A : Int) ||| ((1 : Int32) <<< (v7 &&& 31))) (fun x10 => gd (inb (iI (A : Int)) 128) ( bd (F_X11_hasBit (aG h8 (t + 1) (iI (A : Int)).toNatClampNeg) v7 h8) (fun r11 h12 => jn (fun (h13 : Hp) =>
  c9 (v7 + (1 : Int32)) h13) (fun j14 => if r11 = 0 then (
  j14 h12) else (
  if x10 < (128 : Int32) then (
  gd (inb x10 128) ( gd (inb (iI (A : Int)) 128) ( bd (F_X4_freeThen b v7 (lG h12 (t + 2) (iI (A : Int)).toNatClampNeg) h12) (fun r15 h16 => gd (inb x10 128) ( jl (lS h16 (t + 2) x10.toNatClampNeg ((lG h12 (t + 2) x10.toNatClampNeg) ||| r15)) (fun h17 => j14 h17)))))) else (
  j14 h12))))))) else (
  some ((), h8))) (fun _ _ => none)) (iI ((0 : Nat) : Int)) (aS h (t + 1) A (iI (nx_v a A (rm A)))) = some ((), h') ∧ rm_ok t h' rm' ∧ (∀ B j, (rm B).testBit j = true → (rm' B).testBit j = true) ∧ (∀ B, B ≤ A → rm' B = rm B) ∧ aG h' (t + 1) A = iI (nx_v a A (rm A)) ∧ (∀ B, B ≠ A → aG h' (t + 1) B = aG h (t + 1) B) ∧ (∀ p f, p < 7 → ro_nx (a.2) (al_S a).testBit A.testBit p = true → (rm A).testBit f = true → ro_f (ro_w a.2 p) f < 48 → (rm' (A ||| 2 ^ p)).testBit (ro_f (ro_w a.2 p) f + 1) = true) by
    obtain ⟨h', rm', e1, rest⟩ := H
    refine ⟨h', rm', ?_, rest⟩
    unfold F_X4_reachOn
    have c1 : ¬ iI (A : Int) < (0 : Int32) := by
      rw [il_0, iI_lt (by omega) (by omega) (by omega) (by omega)]; omega
    have c2 : iI (A : Int) < (128 : Int32) := by
      rw [il_128, iI_lt (by omega) (by omega) (by omega) (by omega)]; omega
    have c3 : inb (iI (A : Int)) 128 = true := iI_inb (by omega) (by omega) (by omega)
    have c4 : (iI (A : Int)).toNatClampNeg = A := by rw [iI_cl (by omega) (by omega)]; rfl
    rw [jn_e, if_neg c1, if_pos c2, gd_e c3, jn_e, c4, e0]
    by_cases c : rm A = 0
    · have c5 : lg_cmp (lN (rm A)) 0 = 0 := by
        rw [lg_cmp0, c]; rfl
      rw [if_pos c5]
      try dsimp only
      rw [gd_e c3, jl_e]
      have e2 : nx_v a A (rm A) = 0 := if_pos c
      rw [e2, c4] at e1
      exact e1
    · have c5 : ¬ lg_cmp (lN (rm A)) 0 = 0 := by
        have := (hm A hA2).2
        rw [lg_cmp0, lN_0 (by omega)]; exact c
      rw [if_neg c5, hno, bd_e]
      try dsimp only
      rw [gd_e c3, jl_e]
      have e2 : nx_v a A (rm A) = nx_m a A := if_neg c
      rw [e2, c4] at e1
      exact e1
  refine lp_up (α := Int32 → Hp → Option (Unit × Hp)) (P := fun k c => ∀ (v : Int32) (h1 : Hp) (rm1 : Nat → Nat), v = iI k → FrX [] [t + 1, t + 2] h h1 → rm_ok t h1 rm1 → (∀ B j, (rm B).testBit j = true → (rm1 B).testBit j = true) → (∀ B, B ≤ A → rm1 B = rm B) → aG h1 (t + 1) A = iI (nx_v a A (rm A)) → (∀ B, B ≠ A → aG h1 (t + 1) B = aG h (t + 1) B) → (∀ p f, p < k → ro_nx (a.2) (al_S a).testBit A.testBit p = true → (rm A).testBit f = true → ro_f (ro_w a.2 p) f < 48 → (rm1 (A ||| 2 ^ p)).testBit (ro_f (ro_w a.2 p) f + 1) = true) → ∃ h' rm', c v h1 = some ((), h') ∧ rm_ok t h' rm' ∧ (∀ B j, (rm B).testBit j = true → (rm' B).testBit j = true) ∧ (∀ B, B ≤ A → rm' B = rm B) ∧ aG h' (t + 1) A = iI (nx_v a A (rm A)) ∧ (∀ B, B ≠ A → aG h' (t + 1) B = aG h (t + 1) B) ∧ (∀ p f, p < 7 → ro_nx (a.2) (al_S a).testBit A.testBit p = true → (rm A).testBit f = true → ro_f (ro_w a.2 p) f < 48 → (rm' (A ||| 2 ^ p)).testBit (ro_f (ro_w a.2 p) f + 1) = true)) 7 (by omega) (fun k c hk ih => ?_) _ _ rm rfl ((FrX.refl _ _ h).aS (by simp) _ _) (fun B hB => hm B hB) (fun B j z => z) (fun _ _ => rfl) (aG_aS_s _ _ _ _) (fun B hB => aG_aS_j hB _ _ _) (fun p f hp => absurd hp (Nat.not_lt_zero p))
  intro v h1 rm1 hv i0 i1 i2 i3 i4 i5 i6
  subst hv
  by_cases z : k < 7
  · have nxt := ih z
    have f1 := (i1 A hA2).1
    rw [i3 A (Nat.le_refl _)] at f1
    simp (maxSteps := 3000000) (implicitDefEqProofs := false) (disch := omega) only [jl_e, jn_e, bd_e, gd_t, iI_add, iI_sub, iI_mul, iI_neg, if_true, if_false, not_true_eq_false, not_false_eq_true, Int.reduceEq, Nat.add_zero, Int.toNat_natCast, iI_cl, iI_lt, iI_eq, gd_in, bI_eq0, bI_eq1, bI_isB, isB_0, isB_1, il_0, il_1, il_2, il_3, il_4, il_5, il_6, il_7, il_8, il_9, il_10, il_12, il_16, il_18, il_24, il_27, il_30, il_31, il_32, il_40, il_47, il_48, il_49, il_55, il_56, il_57, il_59, il_63, il_64, il_96, il_97, il_98, il_99, il_101, il_103, il_104, il_105, il_108, il_109, il_110, il_111, il_112, il_114, il_115, il_116, il_117, il_119, il_122, il_127, il_128, il_200, il_225, il_255, il_256, il_999, il_1575, il_9999, il_65536, il_252645135, il_858993459, il_1431655765, i4, c_hasBit hv (show k < 8 by omega), f1]
    rw [if_pos (by omega)]
    by_cases y : (nx_v a A (rm A)).testBit k = true
    · obtain ⟨y1, y2, y3⟩ := nx_v_np z y
      have hAk := (ro_nx_S y2).2
      have hx := ro_or_lt A hA2 k z
      have hgt := ro_or_gt A hA2 k z hAk
      have q1 : RuR b h1 a := q.fr i0 (by simp) (by simp; omega) (by simp; omega) (by simp; omega) (by simp; omega)
      have hft := c_freeThen q1 hnp (p := k) (m := rm A) y3 (hm A hA2).2
      rw [if_neg (fun w => w y)]
      simp (maxSteps := 3000000) (implicitDefEqProofs := false) (disch := omega) only [jl_e, jn_e, bd_e, gd_t, iI_add, iI_sub, iI_mul, iI_neg, if_true, if_false, not_true_eq_false, not_false_eq_true, Int.reduceEq, Nat.add_zero, Int.toNat_natCast, iI_cl, iI_lt, iI_eq, gd_in, bI_eq0, bI_eq1, bI_isB, isB_0, isB_1, il_0, il_1, il_2, il_3, il_4, il_5, il_6, il_7, il_8, il_9, il_10, il_12, il_16, il_18, il_24, il_27, il_30, il_31, il_32, il_40, il_47, il_48, il_49, il_55, il_56, il_57, il_59, il_63, il_64, il_96, il_97, il_98, il_99, il_101, il_103, il_104, il_105, il_108, il_109, il_110, il_111, il_112, il_114, il_115, il_116, il_117, il_119, il_122, il_127, il_128, il_200, il_225, il_255, il_256, il_999, il_1575, il_9999, il_65536, il_252645135, il_858993459, il_1431655765, ms_shl k (by omega), ms_or, hft, (i1 _ hx).1, lL_or]
      rw [if_pos (by omega)]
      refine nxt _ _ (fun B => if B = A ||| 2 ^ k then rm1 B ||| bm (ft_b (ro_w a.2 k) (rm A)) 49 else rm1 B) (iI_cg (by omega)) (i0.lS (by simp) _ _) (fun B hB => ?_) (fun B j w => ?_) (fun B hB => ?_) i4 i5 (fun p f hp w1 w2 w3 => ?_)
      · try dsimp only
        by_cases u : B = A ||| 2 ^ k
        · subst u
          rw [lG_lS_s, if_pos rfl]
          exact ⟨rfl, Nat.or_lt_two_pow (i1 _ hx).2 (bm_lt _ 49)⟩
        · rw [lG_lS_j u, if_neg u]
          exact i1 B hB
      · try dsimp only
        by_cases u : B = A ||| 2 ^ k
        · rw [if_pos u, Nat.testBit_or, i2 B j w]; rfl
        · rw [if_neg u]; exact i2 B j w
      · try dsimp only
        rw [if_neg (by omega)]; exact i3 B hB
      · try dsimp only
        by_cases u : p = k
        · subst u
          rw [if_pos rfl, Nat.testBit_or, bm_tb, decide_eq_true (show ro_f (ro_w a.2 p) f + 1 < 49 by omega), Bool.true_and, (ft_iff).2 ⟨f, lo_lt (hm A hA2).2 w2, w2, w3, rfl⟩, Bool.or_true]
        · have := i6 p f (by omega) w1 w2 w3
          by_cases u2 : A ||| 2 ^ p = A ||| 2 ^ k
          · rw [if_pos u2, Nat.testBit_or, this]; rfl
          · rw [if_neg u2]; exact this
    · rw [if_pos y]
      refine nxt _ _ rm1 (iI_cg (by omega)) i0 i1 i2 i3 i4 i5 (fun p f hp w1 w2 w3 => ?_)
      by_cases u : p = k
      · subst u
        exfalso
        apply y
        unfold nx_v
        rw [if_neg, nx_m_tb z]
        · exact w1
        · intro w
          rw [w, Nat.zero_testBit] at w2
          cases w2
      · exact i6 p f (by omega) w1 w2 w3
  · simp (maxSteps := 3000000) (implicitDefEqProofs := false) (disch := omega) only [jl_e, jn_e, bd_e, gd_t, iI_add, iI_sub, iI_mul, iI_neg, if_true, if_false, not_true_eq_false, not_false_eq_true, Int.reduceEq, Nat.add_zero, Int.toNat_natCast, iI_cl, iI_lt, iI_eq, gd_in, bI_eq0, bI_eq1, bI_isB, isB_0, isB_1, il_0, il_1, il_2, il_3, il_4, il_5, il_6, il_7, il_8, il_9, il_10, il_12, il_16, il_18, il_24, il_27, il_30, il_31, il_32, il_40, il_47, il_48, il_49, il_55, il_56, il_57, il_59, il_63, il_64, il_96, il_97, il_98, il_99, il_101, il_103, il_104, il_105, il_108, il_109, il_110, il_111, il_112, il_114, il_115, il_116, il_117, il_119, il_122, il_127, il_128, il_200, il_225, il_255, il_256, il_999, il_1575, il_9999, il_65536, il_252645135, il_858993459, il_1431655765]
    rw [if_neg (by omega)]
    refine ⟨_, rm1, rfl, i1, i2, i3, i4, i5, fun p f hp w1 w2 w3 => i6 p f (by omega) w1 w2 w3⟩
theorem c_waysFrom {t B f : Nat} (hB : B < 128) (hf : f < 49) (h : Hp) : F_X4_waysFrom t (iI B) (iI f) h = some (aG h (t + 3) (B * 49 + f), h) := by
  unfold F_X4_waysFrom
  simp (maxSteps := 3000000) (implicitDefEqProofs := false) (disch := omega) only [jl_e, jn_e, bd_e, gd_t, iI_add, iI_sub, iI_mul, iI_neg, if_true, if_false, not_true_eq_false, not_false_eq_true, Int.reduceEq, Nat.add_zero, Int.toNat_natCast, iI_cl, iI_lt, iI_eq, gd_in, bI_eq0, bI_eq1, bI_isB, isB_0, isB_1, il_0, il_1, il_2, il_3, il_4, il_5, il_6, il_7, il_8, il_9, il_10, il_12, il_16, il_18, il_24, il_27, il_30, il_31, il_32, il_40, il_47, il_48, il_49, il_55, il_56, il_57, il_59, il_63, il_64, il_96, il_97, il_98, il_99, il_101, il_103, il_104, il_105, il_108, il_109, il_110, il_111, il_112, il_114, il_115, il_116, il_117, il_119, il_122, il_127, il_128, il_200, il_225, il_255, il_256, il_999, il_1575, il_9999, il_65536, il_252645135, il_858993459, il_1431655765]
  rw [if_neg (by omega), if_pos (by omega), if_neg (by omega), if_pos (by omega)]
  (try simp (maxSteps := 3000000) (implicitDefEqProofs := false) (disch := omega) only [jl_e, jn_e, bd_e, gd_t, iI_add, iI_sub, iI_mul, iI_neg, if_true, if_false, not_true_eq_false, not_false_eq_true, Int.reduceEq, Nat.add_zero, Int.toNat_natCast, iI_cl, iI_lt, iI_eq, gd_in, bI_eq0, bI_eq1, bI_isB, isB_0, isB_1, il_0, il_1, il_2, il_3, il_4, il_5, il_6, il_7, il_8, il_9, il_10, il_12, il_16, il_18, il_24, il_27, il_30, il_31, il_32, il_40, il_47, il_48, il_49, il_55, il_56, il_57, il_59, il_63, il_64, il_96, il_97, il_98, il_99, il_101, il_103, il_104, il_105, il_108, il_109, il_110, il_111, il_112, il_114, il_115, il_116, il_117, il_119, il_122, il_127, il_128, il_200, il_225, il_255, il_256, il_999, il_1575, il_9999, il_65536, il_252645135, il_858993459, il_1431655765])
  rw [show ((B : Int) * 49 + (f : Int)).toNat = B * 49 + f by omega]
theorem c_waysBy {t b : Nat} {h : Hp} {a : RA} (q : RuR b h a) (hnp : a.1 ≤ 7) {A n f p : Nat} (hA : A < 128) (hn : aG h (t + 1) A = iI n) (hn2 : n < 128) (hp : p < 7) (hpn : n.testBit p = true → p < a.1) (hf : f ≤ 48) : F_X4_waysBy t b (iI A) (iI f) (iI p) h = some (if n.testBit p = true ∧ ro_f (ro_w a.2 p) f < 48 then aG h (t + 3) ((A ||| 2 ^ p) * 49 + (ro_f (ro_w a.2 p) f + 1)) else iI 0, h) := by
  have hx := ro_or_lt A hA p hp
  unfold F_X4_waysBy
  simp (maxSteps := 3000000) (implicitDefEqProofs := false) (disch := omega) only [jl_e, jn_e, bd_e, gd_t, iI_add, iI_sub, iI_mul, iI_neg, if_true, if_false, not_true_eq_false, not_false_eq_true, Int.reduceEq, Nat.add_zero, Int.toNat_natCast, iI_cl, iI_lt, iI_eq, gd_in, bI_eq0, bI_eq1, bI_isB, isB_0, isB_1, il_0, il_1, il_2, il_3, il_4, il_5, il_6, il_7, il_8, il_9, il_10, il_12, il_16, il_18, il_24, il_27, il_30, il_31, il_32, il_40, il_47, il_48, il_49, il_55, il_56, il_57, il_59, il_63, il_64, il_96, il_97, il_98, il_99, il_101, il_103, il_104, il_105, il_108, il_109, il_110, il_111, il_112, il_114, il_115, il_116, il_117, il_119, il_122, il_127, il_128, il_200, il_225, il_255, il_256, il_999, il_1575, il_9999, il_65536, il_252645135, il_858993459, il_1431655765, hn, c_hasBit hn2 (show p < 8 by omega)]
  rw [if_neg (by omega), if_pos (by omega)]
  by_cases y : n.testBit p = true
  · rw [if_neg (fun w => w y), c_freeBehind q hnp (hpn y) hf, bd_e]
    by_cases c : ro_f (ro_w a.2 p) f < 48
    · rw [if_pos c, if_pos (show n.testBit p = true ∧ ro_f (ro_w a.2 p) f < 48 from ⟨y, c⟩)]
      simp (maxSteps := 3000000) (implicitDefEqProofs := false) (disch := omega) only [jl_e, jn_e, bd_e, gd_t, iI_add, iI_sub, iI_mul, iI_neg, if_true, if_false, not_true_eq_false, not_false_eq_true, Int.reduceEq, Nat.add_zero, Int.toNat_natCast, iI_cl, iI_lt, iI_eq, gd_in, bI_eq0, bI_eq1, bI_isB, isB_0, isB_1, il_0, il_1, il_2, il_3, il_4, il_5, il_6, il_7, il_8, il_9, il_10, il_12, il_16, il_18, il_24, il_27, il_30, il_31, il_32, il_40, il_47, il_48, il_49, il_55, il_56, il_57, il_59, il_63, il_64, il_96, il_97, il_98, il_99, il_101, il_103, il_104, il_105, il_108, il_109, il_110, il_111, il_112, il_114, il_115, il_116, il_117, il_119, il_122, il_127, il_128, il_200, il_225, il_255, il_256, il_999, il_1575, il_9999, il_65536, il_252645135, il_858993459, il_1431655765, ms_shl p (by omega), ms_or, c_waysFrom hx (show ro_f (ro_w a.2 p) f + 1 < 49 by omega)]
      rw [if_neg (by omega)]
    · rw [if_neg c, if_neg (show ¬ (n.testBit p = true ∧ ro_f (ro_w a.2 p) f < 48) from fun w => c w.2)]
      simp (maxSteps := 3000000) (implicitDefEqProofs := false) (disch := omega) only [jl_e, jn_e, bd_e, gd_t, iI_add, iI_sub, iI_mul, iI_neg, if_true, if_false, not_true_eq_false, not_false_eq_true, Int.reduceEq, Nat.add_zero, Int.toNat_natCast, iI_cl, iI_lt, iI_eq, gd_in, bI_eq0, bI_eq1, bI_isB, isB_0, isB_1, il_0, il_1, il_2, il_3, il_4, il_5, il_6, il_7, il_8, il_9, il_10, il_12, il_16, il_18, il_24, il_27, il_30, il_31, il_32, il_40, il_47, il_48, il_49, il_55, il_56, il_57, il_59, il_63, il_64, il_96, il_97, il_98, il_99, il_101, il_103, il_104, il_105, il_108, il_109, il_110, il_111, il_112, il_114, il_115, il_116, il_117, il_119, il_122, il_127, il_128, il_200, il_225, il_255, il_256, il_999, il_1575, il_9999, il_65536, il_252645135, il_858993459, il_1431655765]
  · rw [if_pos y, if_neg (show ¬ (n.testBit p = true ∧ ro_f (ro_w a.2 p) f < 48) from fun w => y w.1)]
