-- ===== the class's questions =====
theorem c_wordLetters {h : Hp} {a : Alb} (q : AlC 3 h a) {p : Nat} (hp : p < (al_w a).length) : F_X0_wordLetters 3 (iI p) h = some (iI ((al_w a).getD p []).length, h) := by
  have hnp := q.1.2.1
  have hw := q.1.2.2.2.1 p hp
  have hr := w5_rng hw
  obtain ⟨n, hn⟩ : ∃ n, ((al_w a).getD p []).length = n := ⟨_, rfl⟩
  rw [hn] at hr ⊢
  have h1 := hw.1
  have h2 := hw.2.1
  rw [hn] at h1 h2
  have hpw : ∀ i, i < 5 → (w5 ((al_w a).getD p []) / 2 ^ (5 * i) = 0 ↔ n ≤ i) := by
    intro i hi
    have e32 : ∀ k, (32 : Nat) ^ k = 2 ^ (5 * k) := fun k => by rw [Nat.pow_mul]
    rw [e32, e32] at hr
    rw [Nat.div_eq_zero_iff]
    have hpos : 0 < 2 ^ (5 * i) := Nat.two_pow_pos _
    constructor
    · intro w
      refine Nat.le_of_not_lt (fun c => ?_)
      have := Nat.pow_le_pow_right (n := 2) (by omega) (show 5 * i ≤ 5 * (n - 1) by omega)
      omega
    · intro w
      have := Nat.pow_le_pow_right (n := 2) (by omega) (show 5 * n ≤ 5 * i by omega)
      omega
  unfold F_X0_wordLetters
  simp (maxSteps := 3000000) (implicitDefEqProofs := false) (disch := omega) only [jl_e, jn_e, bd_e, gd_t, iI_add, iI_sub, iI_mul, iI_neg, if_true, if_false, not_true_eq_false, not_false_eq_true, Int.reduceEq, Nat.add_zero, Int.toNat_natCast, iI_cl, iI_lt, iI_eq, gd_in, bI_eq0, bI_eq1, bI_isB, isB_0, isB_1, il_0, il_1, il_2, il_3, il_4, il_5, il_6, il_7, il_8, il_9, il_10, il_12, il_16, il_18, il_24, il_27, il_30, il_31, il_32, il_40, il_47, il_48, il_49, il_55, il_56, il_57, il_59, il_63, il_64, il_96, il_97, il_98, il_99, il_101, il_103, il_104, il_105, il_108, il_109, il_110, il_111, il_112, il_114, il_115, il_116, il_117, il_119, il_122, il_127, il_128, il_200, il_225, il_255, il_256, il_999, il_1575, il_9999, il_65536, il_252645135, il_858993459, il_1431655765, c_hasPicture q (show -2147483648 ≤ (p : Int) ∧ (p : Int) < 2147483648 by omega)]
  rw [if_neg (fun w => w ⟨by omega, by omega⟩), if_pos (by omega)]
  refine lp_up (α := Int32 → Int32 → Hp → Option (Int32 × Hp)) (P := fun k c => ∀ (x y : Int32), x = iI (if k ≤ n then k else n : Nat) → y = iI k → c x y h = some (iI n, h)) 5 (by omega) (fun k c hk ih => ?_) _ _ (iI_cg (by rw [if_pos (Nat.zero_le _)]; rfl)) rfl
  intro x y hx hy
  subst hx hy
  by_cases z : k < 5
  · have es : iI ((w5 ((al_w a).getD p []) : Nat) : Int) >>> (iI (5 * (k : Int)) &&& iI 31) = iI ((w5 ((al_w a).getD p []) / 2 ^ (5 * k) : Nat) : Int) := by
      have hs : (((iI (5 * (k : Int)) &&& iI 31)).toBitVec.smod 32).toNat = 5 * k := by
        rcases (show k = 0 ∨ k = 1 ∨ k = 2 ∨ k = 3 ∨ k = 4 by omega) with e | e | e | e | e <;> subst e <;> decide
      rw [← nI_iI, ← nI_iI]
      exact pk_shrN (by omega) _ (5 * k) hs
    have hd : w5 ((al_w a).getD p []) / 2 ^ (5 * k) ≤ w5 ((al_w a).getD p []) := Nat.div_le_self _ _
    have hk5 := hpw k z
    obtain ⟨dd, ed⟩ : ∃ dd, w5 ((al_w a).getD p []) / 2 ^ (5 * k) = dd := ⟨_, rfl⟩
    rw [ed] at es hd hk5
    simp (maxSteps := 3000000) (implicitDefEqProofs := false) (disch := omega) only [jl_e, jn_e, bd_e, gd_t, iI_add, iI_sub, iI_mul, iI_neg, if_true, if_false, not_true_eq_false, not_false_eq_true, Int.reduceEq, Nat.add_zero, Int.toNat_natCast, iI_cl, iI_lt, iI_eq, gd_in, bI_eq0, bI_eq1, bI_isB, isB_0, isB_1, il_0, il_1, il_2, il_3, il_4, il_5, il_6, il_7, il_8, il_9, il_10, il_12, il_16, il_18, il_24, il_27, il_30, il_31, il_32, il_40, il_47, il_48, il_49, il_55, il_56, il_57, il_59, il_63, il_64, il_96, il_97, il_98, il_99, il_101, il_103, il_104, il_105, il_108, il_109, il_110, il_111, il_112, il_114, il_115, il_116, il_117, il_119, il_122, il_127, il_128, il_200, il_225, il_255, il_256, il_999, il_1575, il_9999, il_65536, il_252645135, il_858993459, il_1431655765, q.2.2.2.2.2.1 p hp, es]
    rw [if_pos (by omega)]
    by_cases w : n ≤ k
    · have w' := hk5.2 w
      rw [if_pos (by omega)]
      refine ih z _ _ (iI_cg ?_) (iI_cg (by omega))
      split <;> split <;> omega
    · have w' : ¬ dd = 0 := fun u => w (hk5.1 u)
      rw [if_neg (by omega)]
      refine ih z _ _ ?_ (iI_cg (by omega))
      apply iI_cg
      split <;> split <;> omega
  · simp (maxSteps := 3000000) (implicitDefEqProofs := false) (disch := omega) only [jl_e, jn_e, bd_e, gd_t, iI_add, iI_sub, iI_mul, iI_neg, if_true, if_false, not_true_eq_false, not_false_eq_true, Int.reduceEq, Nat.add_zero, Int.toNat_natCast, iI_cl, iI_lt, iI_eq, gd_in, bI_eq0, bI_eq1, bI_isB, isB_0, isB_1, il_0, il_1, il_2, il_3, il_4, il_5, il_6, il_7, il_8, il_9, il_10, il_12, il_16, il_18, il_24, il_27, il_30, il_31, il_32, il_40, il_47, il_48, il_49, il_55, il_56, il_57, il_59, il_63, il_64, il_96, il_97, il_98, il_99, il_101, il_103, il_104, il_105, il_108, il_109, il_110, il_111, il_112, il_114, il_115, il_116, il_117, il_119, il_122, il_127, il_128, il_200, il_225, il_255, il_256, il_999, il_1575, il_9999, il_65536, il_252645135, il_858993459, il_1431655765]
    rw [if_neg (by omega)]
    congr 2
    apply iI_cg
    split <;> omega
theorem rg_of {x : Int} (h : -2147483648 ≤ x ∧ x < 2147483648) {n : Nat} (c : 0 ≤ x ∧ x < n) : ∃ p : Nat, x = p ∧ p < n := ⟨x.toNat, by omega, by omega⟩
def A_picture (s : Sta) (x w : Int) : Int := if 0 ≤ x ∧ x < (al_w (st_a s)).length then (if w = 0 then (((al_w (st_a s)).getD x.toNat []).length : Int) else if w = 1 then (ro_sm (fun m => if pc_n (al_p (st_a s)) (8 * x.toNat + m) = -1 then 0 else 1) 8 : Int) else if w = 2 then (pcn 8 (bm (wd_b (st_a s) x.toNat) 48) : Int) else if w = 3 then (if ro_f (bm (wd_b (st_a s) x.toNat) 48).testBit 0 < 48 then (ro_f (bm (wd_b (st_a s) x.toNat) 48).testBit 0 : Int) else -1) else if w = 4 then (ro_l (bm (wd_b (st_a s) x.toNat) 48).testBit 48 : Int) - 1 else if w = 5 then (ro_ct (bm (fun k => bf_b (st_a s) k x.toNat) 7) : Int) else -3) else -2
theorem C_picture {h : Hp} {s : Sta} (q : JC h s) {x w : Int} (hx : -2147483648 ≤ x ∧ x < 2147483648) (hw : -2147483648 ≤ w ∧ w < 2147483648) : ∃ h', F_X11_picture (iI x) (iI w) h = some (iI (A_picture s x w), h') ∧ JC h' s := by
  have hA := q.2.2.1
  have hnp := hA.1.2.1
  unfold F_X11_picture A_picture
  rw [c_hasPicture hA hx, bd_e]
  by_cases c : 0 ≤ x ∧ x < (al_w (st_a s)).length
  · obtain ⟨p, e, hp⟩ := rg_of hx c
    subst e
    rw [if_neg (by rw [bI_zero]; exact fun z => z c), if_pos c, Int.toNat_natCast]
    have hb := bm_48 (wd_b (st_a s) p)
    obtain ⟨h1, e1, q1, rk⟩ := c_rulesNow q
    have rx : RuR 75 h1 (al_x (st_a s)) := rk.2.1
    have ewin : F_X7_windowOf 75 (iI p) h1 = some (lN (bm (wd_b (st_a s) p) 48), h1) := c_windowOf rx hnp hp
    by_cases w0 : w = 0
    · subst w0
      refine ⟨h, ?_, q⟩
      have := c_wordLetters hA hp
      simp (maxSteps := 3000000) (implicitDefEqProofs := false) (disch := omega) only [jl_e, jn_e, bd_e, gd_t, iI_add, iI_sub, iI_mul, iI_neg, if_true, if_false, not_true_eq_false, not_false_eq_true, Int.reduceEq, Nat.add_zero, Int.toNat_natCast, iI_cl, iI_lt, iI_eq, gd_in, bI_eq0, bI_eq1, bI_isB, isB_0, isB_1, il_0, il_1, il_2, il_3, il_4, il_5, il_6, il_7, il_8, il_9, il_10, il_12, il_16, il_18, il_24, il_27, il_30, il_31, il_32, il_40, il_47, il_48, il_49, il_55, il_56, il_57, il_59, il_63, il_64, il_96, il_97, il_98, il_99, il_101, il_103, il_104, il_105, il_108, il_109, il_110, il_111, il_112, il_114, il_115, il_116, il_117, il_119, il_122, il_127, il_128, il_200, il_225, il_255, il_256, il_999, il_1575, il_9999, il_65536, il_252645135, il_858993459, il_1431655765, this]
    by_cases w1 : w = 1
    · subst w1
      refine ⟨h, ?_, q⟩
      have := c_manyOf hA.2.2.2.2.1 (a := (p : Int)) (by omega)
      have e : (fun m : Nat => if pc_n (al_p (st_a s)) ((p : Int) * 8 + m).toNat = -1 then 0 else 1) = (fun m : Nat => if pc_n (al_p (st_a s)) (8 * p + m) = -1 then 0 else 1) := by
        funext m
        rw [show ((p : Int) * 8 + m).toNat = 8 * p + m by omega]
      rw [e] at this
      have this' : F_X5_manyOf 5 (iI p) h = _ := this
      simp (maxSteps := 3000000) (implicitDefEqProofs := false) (disch := omega) only [jl_e, jn_e, bd_e, gd_t, iI_add, iI_sub, iI_mul, iI_neg, if_true, if_false, not_true_eq_false, not_false_eq_true, Int.reduceEq, Nat.add_zero, Int.toNat_natCast, iI_cl, iI_lt, iI_eq, gd_in, bI_eq0, bI_eq1, bI_isB, isB_0, isB_1, il_0, il_1, il_2, il_3, il_4, il_5, il_6, il_7, il_8, il_9, il_10, il_12, il_16, il_18, il_24, il_27, il_30, il_31, il_32, il_40, il_47, il_48, il_49, il_55, il_56, il_57, il_59, il_63, il_64, il_96, il_97, il_98, il_99, il_101, il_103, il_104, il_105, il_108, il_109, il_110, il_111, il_112, il_114, il_115, il_116, il_117, il_119, il_122, il_127, il_128, il_200, il_225, il_255, il_256, il_999, il_1575, il_9999, il_65536, il_252645135, il_858993459, il_1431655765, this']
    by_cases w2 : w = 2
    · subst w2
      refine ⟨h1, ?_, q1⟩
      simp (maxSteps := 3000000) (implicitDefEqProofs := false) (disch := omega) only [jl_e, jn_e, bd_e, gd_t, iI_add, iI_sub, iI_mul, iI_neg, if_true, if_false, not_true_eq_false, not_false_eq_true, Int.reduceEq, Nat.add_zero, Int.toNat_natCast, iI_cl, iI_lt, iI_eq, gd_in, bI_eq0, bI_eq1, bI_isB, isB_0, isB_1, il_0, il_1, il_2, il_3, il_4, il_5, il_6, il_7, il_8, il_9, il_10, il_12, il_16, il_18, il_24, il_27, il_30, il_31, il_32, il_40, il_47, il_48, il_49, il_55, il_56, il_57, il_59, il_63, il_64, il_96, il_97, il_98, il_99, il_101, il_103, il_104, il_105, il_108, il_109, il_110, il_111, il_112, il_114, il_115, il_116, il_117, il_119, il_122, il_127, il_128, il_200, il_225, il_255, il_256, il_999, il_1575, il_9999, il_65536, il_252645135, il_858993459, il_1431655765, e1, ewin, c_bitCountL (show bm (wd_b (st_a s) p) 48 < 18446744073709551616 by omega)]
    by_cases w3 : w = 3
    · subst w3
      refine ⟨h1, ?_, q1⟩
      simp (maxSteps := 3000000) (implicitDefEqProofs := false) (disch := omega) only [jl_e, jn_e, bd_e, gd_t, iI_add, iI_sub, iI_mul, iI_neg, if_true, if_false, not_true_eq_false, not_false_eq_true, Int.reduceEq, Nat.add_zero, Int.toNat_natCast, iI_cl, iI_lt, iI_eq, gd_in, bI_eq0, bI_eq1, bI_isB, isB_0, isB_1, il_0, il_1, il_2, il_3, il_4, il_5, il_6, il_7, il_8, il_9, il_10, il_12, il_16, il_18, il_24, il_27, il_30, il_31, il_32, il_40, il_47, il_48, il_49, il_55, il_56, il_57, il_59, il_63, il_64, il_96, il_97, il_98, il_99, il_101, il_103, il_104, il_105, il_108, il_109, il_110, il_111, il_112, il_114, il_115, il_116, il_117, il_119, il_122, il_127, il_128, il_200, il_225, il_255, il_256, il_999, il_1575, il_9999, il_65536, il_252645135, il_858993459, il_1431655765, e1, ewin, c_firstSlot hb]
    by_cases w4 : w = 4
    · subst w4
      refine ⟨h1, ?_, q1⟩
      simp (maxSteps := 3000000) (implicitDefEqProofs := false) (disch := omega) only [jl_e, jn_e, bd_e, gd_t, iI_add, iI_sub, iI_mul, iI_neg, if_true, if_false, not_true_eq_false, not_false_eq_true, Int.reduceEq, Nat.add_zero, Int.toNat_natCast, iI_cl, iI_lt, iI_eq, gd_in, bI_eq0, bI_eq1, bI_isB, isB_0, isB_1, il_0, il_1, il_2, il_3, il_4, il_5, il_6, il_7, il_8, il_9, il_10, il_12, il_16, il_18, il_24, il_27, il_30, il_31, il_32, il_40, il_47, il_48, il_49, il_55, il_56, il_57, il_59, il_63, il_64, il_96, il_97, il_98, il_99, il_101, il_103, il_104, il_105, il_108, il_109, il_110, il_111, il_112, il_114, il_115, il_116, il_117, il_119, il_122, il_127, il_128, il_200, il_225, il_255, il_256, il_999, il_1575, il_9999, il_65536, il_252645135, il_858993459, il_1431655765, e1, ewin, c_lastSlot hb]
    by_cases w5 : w = 5
    · subst w5
      refine ⟨h1, ?_, q1⟩
      simp (maxSteps := 3000000) (implicitDefEqProofs := false) (disch := omega) only [jl_e, jn_e, bd_e, gd_t, iI_add, iI_sub, iI_mul, iI_neg, if_true, if_false, not_true_eq_false, not_false_eq_true, Int.reduceEq, Nat.add_zero, Int.toNat_natCast, iI_cl, iI_lt, iI_eq, gd_in, bI_eq0, bI_eq1, bI_isB, isB_0, isB_1, il_0, il_1, il_2, il_3, il_4, il_5, il_6, il_7, il_8, il_9, il_10, il_12, il_16, il_18, il_24, il_27, il_30, il_31, il_32, il_40, il_47, il_48, il_49, il_55, il_56, il_57, il_59, il_63, il_64, il_96, il_97, il_98, il_99, il_101, il_103, il_104, il_105, il_108, il_109, il_110, il_111, il_112, il_114, il_115, il_116, il_117, il_119, il_122, il_127, il_128, il_200, il_225, il_255, il_256, il_999, il_1575, il_9999, il_65536, il_252645135, il_858993459, il_1431655765, e1, c_earlierThan rk.2.2 (show p < 7 by omega), c_bitCount (bm_7 (fun k => bf_b (st_a s) k p))]
    refine ⟨h, ?_, q⟩
    simp (maxSteps := 3000000) (implicitDefEqProofs := false) (disch := omega) only [jl_e, jn_e, bd_e, gd_t, iI_add, iI_sub, iI_mul, iI_neg, if_true, if_false, not_true_eq_false, not_false_eq_true, Int.reduceEq, Nat.add_zero, Int.toNat_natCast, iI_cl, iI_lt, iI_eq, gd_in, bI_eq0, bI_eq1, bI_isB, isB_0, isB_1, il_0, il_1, il_2, il_3, il_4, il_5, il_6, il_7, il_8, il_9, il_10, il_12, il_16, il_18, il_24, il_27, il_30, il_31, il_32, il_40, il_47, il_48, il_49, il_55, il_56, il_57, il_59, il_63, il_64, il_96, il_97, il_98, il_99, il_101, il_103, il_104, il_105, il_108, il_109, il_110, il_111, il_112, il_114, il_115, il_116, il_117, il_119, il_122, il_127, il_128, il_200, il_225, il_255, il_256, il_999, il_1575, il_9999, il_65536, il_252645135, il_858993459, il_1431655765]
    rw [if_neg w0, if_neg w1, if_neg w2, if_neg w3, if_neg w4, if_neg w5, if_neg w0, if_neg w1, if_neg w2, if_neg w3, if_neg w4, if_neg w5]
  · rw [if_pos (by rw [bI_zero]; exact c), if_neg c]
    exact ⟨h, rfl, q⟩
def A_thing (s : Sta) (x w : Int) : Int := if 0 ≤ x ∧ x < (al_k (st_a s)).length then (if w = 0 then (al_kd (st_a s) x.toNat : Int) else if w = 1 then (sg_m (st_a s) x.toNat 0 : Int) else if w = 2 then (sg_m (st_a s) x.toNat 1 : Int) else -3) else -2
theorem C_thing {h : Hp} {s : Sta} (q : JC h s) {x w : Int} (hx : -2147483648 ≤ x ∧ x < 2147483648) (hw : -2147483648 ≤ w ∧ w < 2147483648) : ∃ h', F_X11_thing (iI x) (iI w) h = some (iI (A_thing s x w), h') ∧ JC h' s := by
  have hA := q.2.2.1
  have hnt := hA.1.2.2.1
  unfold F_X11_thing A_thing
  rw [c_hasThing hA hx, bd_e]
  by_cases c : 0 ≤ x ∧ x < (al_k (st_a s)).length
  · obtain ⟨p, e, hp⟩ := rg_of hx c
    subst e
    rw [if_neg (by rw [bI_zero]; exact fun z => z c), if_pos c, Int.toNat_natCast]
    refine ⟨h, ?_, q⟩
    have ek := c_kindOf hA (p := (p : Int)) (by omega)
    rw [if_pos c, Int.toNat_natCast] at ek
    have s0 : F_X0_picturesSeeing 3 (iI p) (iI 0) h = some (iI (sg_m (st_a s) p 0), h) := c_picturesSeeing hA (t := p) (v := 0) (by omega) (by omega)
    have s1 : F_X0_picturesSeeing 3 (iI p) (iI 1) h = some (iI (sg_m (st_a s) p 1), h) := c_picturesSeeing hA (t := p) (v := 1) (by omega) (by omega)
    simp (maxSteps := 3000000) (implicitDefEqProofs := false) (disch := omega) only [jl_e, jn_e, bd_e, gd_t, iI_add, iI_sub, iI_mul, iI_neg, if_true, if_false, not_true_eq_false, not_false_eq_true, Int.reduceEq, Nat.add_zero, Int.toNat_natCast, iI_cl, iI_lt, iI_eq, gd_in, bI_eq0, bI_eq1, bI_isB, isB_0, isB_1, il_0, il_1, il_2, il_3, il_4, il_5, il_6, il_7, il_8, il_9, il_10, il_12, il_16, il_18, il_24, il_27, il_30, il_31, il_32, il_40, il_47, il_48, il_49, il_55, il_56, il_57, il_59, il_63, il_64, il_96, il_97, il_98, il_99, il_101, il_103, il_104, il_105, il_108, il_109, il_110, il_111, il_112, il_114, il_115, il_116, il_117, il_119, il_122, il_127, il_128, il_200, il_225, il_255, il_256, il_999, il_1575, il_9999, il_65536, il_252645135, il_858993459, il_1431655765, ek, s0, s1]
    by_cases w0 : w = 0
    · rw [if_pos w0, if_pos w0]
    by_cases w1 : w = 1
    · rw [if_neg w0, if_neg w0, if_pos w1, if_pos w1]
    by_cases w2 : w = 2
    · rw [if_neg w0, if_neg w0, if_neg w1, if_neg w1, if_pos w2, if_pos w2]
    rw [if_neg w0, if_neg w0, if_neg w1, if_neg w1, if_neg w2, if_neg w2]
  · rw [if_pos (by rw [bI_zero]; exact c), if_neg c]
    exact ⟨h, rfl, q⟩
def A_piece (s : Sta) (x m w : Int) : Int := if 0 ≤ x ∧ x < (al_w (st_a s)).length then (if 0 ≤ m ∧ m < 2 + (al_k (st_a s)).length then (if w = 0 then pc_v (al_p (st_a s)) (x * 8 + m).toNat else if w = 1 then pc_s (al_p (st_a s)) (x * 8 + m).toNat else if w = 2 then pc_n (al_p (st_a s)) (x * 8 + m).toNat else -3) else -3) else -2
theorem C_piece {h : Hp} {s : Sta} (q : JC h s) {x m w : Int} (hx : -2147483648 ≤ x ∧ x < 2147483648) (hm : -2147483648 ≤ m ∧ m < 2147483648) (hw : -2147483648 ≤ w ∧ w < 2147483648) : ∃ h', F_X11_piece (iI x) (iI m) (iI w) h = some (iI (A_piece s x m w), h') ∧ JC h' s := by
  have hA := q.2.2.1
  have hnp := hA.1.2.1
  have hnt := hA.1.2.2.1
  have hP : PcC 5 h (al_p (st_a s)) := hA.2.2.2.2.1
  refine ⟨h, ?_, q⟩
  unfold F_X11_piece A_piece
  simp (maxSteps := 3000000) (implicitDefEqProofs := false) (disch := omega) only [jl_e, jn_e, bd_e, gd_t, iI_add, iI_sub, iI_mul, iI_neg, if_true, if_false, not_true_eq_false, not_false_eq_true, Int.reduceEq, Nat.add_zero, Int.toNat_natCast, iI_cl, iI_lt, iI_eq, gd_in, bI_eq0, bI_eq1, bI_isB, isB_0, isB_1, il_0, il_1, il_2, il_3, il_4, il_5, il_6, il_7, il_8, il_9, il_10, il_12, il_16, il_18, il_24, il_27, il_30, il_31, il_32, il_40, il_47, il_48, il_49, il_55, il_56, il_57, il_59, il_63, il_64, il_96, il_97, il_98, il_99, il_101, il_103, il_104, il_105, il_108, il_109, il_110, il_111, il_112, il_114, il_115, il_116, il_117, il_119, il_122, il_127, il_128, il_200, il_225, il_255, il_256, il_999, il_1575, il_9999, il_65536, il_252645135, il_858993459, il_1431655765, c_hasPicture hA hx, c_hasMatter hA hm, c_valueOf hP hx hm, c_slackOf hP hx hm, c_numberOf hP hx hm]
  by_cases c : 0 ≤ x ∧ x < (al_w (st_a s)).length
  · rw [if_neg (fun z => z c), if_pos c]
    by_cases d : 0 ≤ m ∧ m < 2 + (al_k (st_a s)).length
    · rw [if_neg (fun z => z d), if_pos d]
      have e : 0 ≤ x ∧ x < 7 ∧ 0 ≤ m ∧ m < 8 := by omega
      simp only [if_pos e]
      by_cases w0 : w = 0
      · rw [if_pos w0, if_pos w0]
      by_cases w1 : w = 1
      · rw [if_neg w0, if_neg w0, if_pos w1, if_pos w1]
      by_cases w2 : w = 2
      · rw [if_neg w0, if_neg w0, if_neg w1, if_neg w1, if_pos w2, if_pos w2]
      rw [if_neg w0, if_neg w0, if_neg w1, if_neg w1, if_neg w2, if_neg w2]
    · rw [if_pos d, if_neg d]
  · rw [if_pos c, if_neg c]
def A_told (s : Sta) (k w : Int) : Int := if k < 0 then -3 else if w = 0 then (if k < (al_p (st_a s)).length then ((pc_at (al_p (st_a s)) k.toNat).1 / 8 : Nat) else -1) else if w = 1 then (if k < (al_p (st_a s)).length then ((pc_at (al_p (st_a s)) k.toNat).1 % 8 : Nat) else -1) else -3
theorem C_told {h : Hp} {s : Sta} (q : JC h s) {k w : Int} (hk : -2147483648 ≤ k ∧ k < 2147483648) (hw : -2147483648 ≤ w ∧ w < 2147483648) : ∃ h', F_X11_told (iI k) (iI w) h = some (iI (A_told s k w), h') ∧ JC h' s := by
  have hA := q.2.2.1
  have hP : PcC 5 h (al_p (st_a s)) := hA.2.2.2.2.1
  refine ⟨h, ?_, q⟩
  unfold F_X11_told A_told
  simp (maxSteps := 3000000) (implicitDefEqProofs := false) (disch := omega) only [jl_e, jn_e, bd_e, gd_t, iI_add, iI_sub, iI_mul, iI_neg, if_true, if_false, not_true_eq_false, not_false_eq_true, Int.reduceEq, Nat.add_zero, Int.toNat_natCast, iI_cl, iI_lt, iI_eq, gd_in, bI_eq0, bI_eq1, bI_isB, isB_0, isB_1, il_0, il_1, il_2, il_3, il_4, il_5, il_6, il_7, il_8, il_9, il_10, il_12, il_16, il_18, il_24, il_27, il_30, il_31, il_32, il_40, il_47, il_48, il_49, il_55, il_56, il_57, il_59, il_63, il_64, il_96, il_97, il_98, il_99, il_101, il_103, il_104, il_105, il_108, il_109, il_110, il_111, il_112, il_114, il_115, il_116, il_117, il_119, il_122, il_127, il_128, il_200, il_225, il_255, il_256, il_999, il_1575, il_9999, il_65536, il_252645135, il_858993459, il_1431655765, c_pictureOf hP hk, c_matterOf hP hk]
  by_cases c : k < 0
  · rw [if_pos c, if_pos c]
  · rw [if_neg c, if_neg c]
    have e : (0 ≤ k ∧ k < (al_p (st_a s)).length) = (k < (al_p (st_a s)).length) := propext (by omega)
    simp only [e]
    by_cases w0 : w = 0
    · rw [if_pos w0, if_pos w0]
    by_cases w1 : w = 1
    · rw [if_neg w0, if_neg w0, if_pos w1, if_pos w1]
    rw [if_neg w0, if_neg w0, if_neg w1, if_neg w1]
def A_sun (s : Sta) (x w : Int) : Int := if 0 ≤ x ∧ x < 48 then (if w = 0 then (if x - 12 ≤ al_n (st_a s) ∧ al_n (st_a s) ≤ x + 12 then x - al_n (st_a s) + 12 else -1) else if w = 1 then (if x - 12 ≤ al_n (st_a s) ∧ al_n (st_a s) ≤ x + 12 then al_l (st_a s) + al_g (st_a s) * (x - al_n (st_a s)) * (x - al_n (st_a s)) / 4 else -1) else -3) else -3
theorem C_sun {h : Hp} {s : Sta} (q : JC h s) {x w : Int} (hx : -2147483648 ≤ x ∧ x < 2147483648) (hw : -2147483648 ≤ w ∧ w < 2147483648) : ∃ h', F_X11_sun (iI x) (iI w) h = some (iI (A_sun s x w), h') ∧ JC h' s := by
  have hS : SuC 4 h (al_n (st_a s)) (al_g (st_a s)) (al_l (st_a s)) := q.2.2.1.2.2.2.1
  refine ⟨h, ?_, q⟩
  unfold F_X11_sun A_sun
  by_cases c : 0 ≤ x ∧ x < 48
  · simp (maxSteps := 3000000) (implicitDefEqProofs := false) (disch := omega) only [jl_e, jn_e, bd_e, gd_t, iI_add, iI_sub, iI_mul, iI_neg, if_true, if_false, not_true_eq_false, not_false_eq_true, Int.reduceEq, Nat.add_zero, Int.toNat_natCast, iI_cl, iI_lt, iI_eq, gd_in, bI_eq0, bI_eq1, bI_isB, isB_0, isB_1, il_0, il_1, il_2, il_3, il_4, il_5, il_6, il_7, il_8, il_9, il_10, il_12, il_16, il_18, il_24, il_27, il_30, il_31, il_32, il_40, il_47, il_48, il_49, il_55, il_56, il_57, il_59, il_63, il_64, il_96, il_97, il_98, il_99, il_101, il_103, il_104, il_105, il_108, il_109, il_110, il_111, il_112, il_114, il_115, il_116, il_117, il_119, il_122, il_127, il_128, il_200, il_225, il_255, il_256, il_999, il_1575, il_9999, il_65536, il_252645135, il_858993459, il_1431655765, c_pointAt hS c, c_lengthAt hS c]
    rw [if_neg (by omega), if_pos (by omega), if_pos c]
    by_cases w0 : w = 0
    · rw [if_pos w0, if_pos w0]
    by_cases w1 : w = 1
    · rw [if_neg w0, if_neg w0, if_pos w1, if_pos w1]
    rw [if_neg w0, if_neg w0, if_neg w1, if_neg w1]
  · rw [if_neg c]
    simp (maxSteps := 3000000) (implicitDefEqProofs := false) (disch := omega) only [jl_e, jn_e, bd_e, gd_t, iI_add, iI_sub, iI_mul, iI_neg, if_true, if_false, not_true_eq_false, not_false_eq_true, Int.reduceEq, Nat.add_zero, Int.toNat_natCast, iI_cl, iI_lt, iI_eq, gd_in, bI_eq0, bI_eq1, bI_isB, isB_0, isB_1, il_0, il_1, il_2, il_3, il_4, il_5, il_6, il_7, il_8, il_9, il_10, il_12, il_16, il_18, il_24, il_27, il_30, il_31, il_32, il_40, il_47, il_48, il_49, il_55, il_56, il_57, il_59, il_63, il_64, il_96, il_97, il_98, il_99, il_101, il_103, il_104, il_105, il_108, il_109, il_110, il_111, il_112, il_114, il_115, il_116, il_117, il_119, il_122, il_127, il_128, il_200, il_225, il_255, il_256, il_999, il_1575, il_9999, il_65536, il_252645135, il_858993459, il_1431655765]
    by_cases d : x < 0
    · rw [if_pos d]
    · rw [if_neg d, if_neg (by omega)]
