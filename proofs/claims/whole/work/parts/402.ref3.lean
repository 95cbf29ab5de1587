-- ===== the reference: windows, who is ahead =====
theorem tn1 : (1 : Int).toNat = 1 := rfl
theorem tn2 : (2 : Int).toNat = 2 := rfl
theorem tn7 (i j : Nat) : ((7 : Int) * (i : Int) + (j : Int)).toNat = 7 * i + j := by omega
theorem nw_at {h : Hp} {L : List Pc} (q : NwC h L) (key : Nat) : (pc_n L key = -1 ∧ pc_v L key = -1 ∧ pc_s L key = -1) ∨ (∃ i : Nat, i < 56 ∧ pc_n L key = i ∧ aG h 124 (4 * i + 3) = iI (pc_v L key) ∧ aG h 124 (4 * i + 4) = iI (pc_s L key) ∧ (0 ≤ pc_v L key ∧ pc_v L key < 1000) ∧ 0 ≤ pc_s L key ∧ pc_s L key < 100) := by
  have hl := pc_len q.1
  have r := pc_n_rng q.1 key
  have s := pc_v_rng q.1 key
  have t := pc_s_rng q.1 key
  by_cases w : pc_ix L key < L.length
  · refine Or.inr ⟨pc_ix L key, by omega, r.2.2.2 w, ?_, ?_, ?_, ?_⟩
    · rw [(q.at w).2.2.1, pc_v, if_pos w]
    · rw [(q.at w).2.2.2, pc_s, if_pos w]
    · have : pc_v L key ≠ -1 := fun e => s.2.2.1 e w
      omega
    · have : pc_s L key ≠ -1 := fun e => t.2.2.1 e w
      omega
  · exact Or.inl ⟨r.2.2.1.2 w, s.2.2.2 w, t.2.2.2 w⟩
theorem m_off {a b : Int} (ha : -100000 ≤ a ∧ a < 100000) (hb : -100000 ≤ b ∧ b < 100000) (h : Hp) : F_X12_off (iI a) (iI b) h = some (iI (max (a - b) (b - a)), h) := by
  unfold F_X12_off
  simp (maxSteps := 3000000) (implicitDefEqProofs := false) (disch := omega) only [jl_e, jn_e, bd_e, gd_t, iI_add, iI_sub, iI_mul, iI_neg, if_true, if_false, not_true_eq_false, not_false_eq_true, Int.reduceEq, Nat.add_zero, Int.toNat_natCast, iI_cl, iI_lt, iI_eq, gd_in, bI_eq0, bI_eq1, bI_isB, isB_0, isB_1, il_0, il_1, il_2, il_3, il_4, il_5, il_6, il_7, il_8, il_9, il_10, il_12, il_16, il_18, il_24, il_27, il_30, il_31, il_32, il_40, il_47, il_48, il_49, il_55, il_56, il_57, il_59, il_63, il_64, il_96, il_97, il_98, il_99, il_101, il_103, il_104, il_105, il_108, il_109, il_110, il_111, il_112, il_114, il_115, il_116, il_117, il_119, il_122, il_127, il_128, il_200, il_225, il_255, il_256, il_999, il_1575, il_9999, il_65536, il_252645135, il_858993459, il_1431655765]
  by_cases c : a < b
  · rw [if_pos c]
    exact congrArg (fun z => some (iI z, h)) (by omega)
  · rw [if_neg c]
    exact congrArg (fun z => some (iI z, h)) (by omega)
theorem m_pointAt {h : Hp} {a : Alb} (q : AmC h a) (s : Int) : F_X12_pointAt (iI s) h = some (iI (s - al_n a + 12), h) := by
  unfold F_X12_pointAt
  rw [q.2.1.1, il_12, iI_sub, iI_add]
theorem m_lengthAt {h : Hp} {a : Alb} (q : AmC h a) {s : Nat} (hs : s < 48) : F_X12_lengthAt (iI s) h = some (iI (ln_at a s), h) := by
  have l := ln_rng q.1.1 hs
  have b := q.1.1.2.2.2.2
  unfold ln_at at l ⊢
  unfold F_X12_lengthAt
  rw [q.2.1.1, q.2.1.2.1, q.2.1.2.2, il_4, jl_e, iI_sub, iI_mul, iI_mul]
  have h0 : 0 ≤ (al_g a : Int) * ((s : Int) - al_n a) * ((s : Int) - al_n a) := by
    rw [Int.mul_assoc]
    exact Int.mul_nonneg (by omega) (by
      rcases Int.le_total 0 ((s : Int) - al_n a) with z | z
      · exact Int.mul_nonneg z z
      · exact Int.mul_nonneg_of_nonpos_of_nonpos z z)
  generalize (al_g a : Int) * ((s : Int) - al_n a) * ((s : Int) - al_n a) = w at l h0 ⊢
  rw [iI_div h0 (by omega) (by omega) (by omega), iI_add]
theorem m_isUp {h : Hp} {a : Alb} (q : AmC h a) {s : Int} (hs : 0 ≤ s ∧ s < 48) : F_X12_isUp (iI s) h = some (bI (s - 12 ≤ al_n a ∧ al_n a ≤ s + 12), h) := by
  have b := q.1.1
  unfold F_X12_isUp
  rw [m_pointAt q, bd_e, il_0, il_24, m_within (by have := b.1; have := b.2.1; omega) (by omega) (by omega), bd_e, bI_isB, gd_t]
  exact congrArg (fun z => some (z, h)) (bI_iff (by omega))
theorem m_isIn {h : Hp} {a : Alb} (q : AmC h a) {p s : Nat} (hp : p < 7) (hs : s < 48) : F_X12_isIn (iI p) (iI s) h = some (bI (wd_b a p s = true), h) := by
  have b := q.1.1
  have bn1 := b.1
  have bn2 := b.2.1
  have q1 := m_pieceAt q.nw (p := p) (m := 0) hp (by omega)
  have q2 := m_pieceAt q.nw (p := p) (m := 1) hp (by omega)
  rw [tn0, Nat.add_zero] at q1
  rw [tn1] at q2
  have c1 := nw_at q.nw (8 * p)
  have c2 := nw_at q.nw (8 * p + 1)
  have l := ln_rng b hs
  have ml := m_lengthAt q hs
  have mu := m_isUp q (s := (s : Int)) (by omega)
  have mp := m_pointAt q (s : Int)
  rw [bI_iff (wd_iff a p s)]
  unfold F_X12_isIn
  generalize pc_n (al_p a) (8 * p) = n1 at *
  generalize pc_n (al_p a) (8 * p + 1) = n2 at *
  generalize pc_v (al_p a) (8 * p) = v1 at *
  generalize pc_v (al_p a) (8 * p + 1) = v2 at *
  generalize pc_s (al_p a) (8 * p) = s1 at *
  generalize pc_s (al_p a) (8 * p + 1) = s2 at *
  rcases c1 with ⟨x1, x2, x3⟩ | ⟨i, hi, x1, x2, x3, x4, x5⟩
  · rcases c2 with ⟨y1, y2, y3⟩ | ⟨j, hj, y1, y2, y3, y4, y5⟩
    · subst x1 x2 x3 y1 y2 y3
      simp (maxSteps := 3000000) (implicitDefEqProofs := false) (disch := omega) only [jl_e, jn_e, bd_e, gd_t, iI_add, iI_sub, iI_mul, iI_neg, if_true, if_false, not_true_eq_false, not_false_eq_true, Int.reduceEq, Nat.add_zero, Int.toNat_natCast, iI_cl, iI_lt, iI_eq, gd_in, bI_eq0, bI_eq1, bI_isB, isB_0, isB_1, il_0, il_1, il_2, il_3, il_4, il_5, il_6, il_7, il_8, il_9, il_10, il_12, il_16, il_18, il_24, il_27, il_30, il_31, il_32, il_40, il_47, il_48, il_49, il_55, il_56, il_57, il_59, il_63, il_64, il_96, il_97, il_98, il_99, il_101, il_103, il_104, il_105, il_108, il_109, il_110, il_111, il_112, il_114, il_115, il_116, il_117, il_119, il_122, il_127, il_128, il_200, il_225, il_255, il_256, il_999, il_1575, il_9999, il_65536, il_252645135, il_858993459, il_1431655765, true_and, and_true, true_or, or_true, q1, q2, mu]
      (repeat' split) <;> first | (exfalso; omega) | rfl | (rw [bI_t (by omega)]) | (rw [bI_f (by omega)])
    · subst x1 x2 x3 y1
      have mo := m_off (a := ln_at a s) (b := v2) (by omega) (by omega) h
      simp (maxSteps := 3000000) (implicitDefEqProofs := false) (disch := omega) only [jl_e, jn_e, bd_e, gd_t, iI_add, iI_sub, iI_mul, iI_neg, if_true, if_false, not_true_eq_false, not_false_eq_true, Int.reduceEq, Nat.add_zero, Int.toNat_natCast, iI_cl, iI_lt, iI_eq, gd_in, bI_eq0, bI_eq1, bI_isB, isB_0, isB_1, il_0, il_1, il_2, il_3, il_4, il_5, il_6, il_7, il_8, il_9, il_10, il_12, il_16, il_18, il_24, il_27, il_30, il_31, il_32, il_40, il_47, il_48, il_49, il_55, il_56, il_57, il_59, il_63, il_64, il_96, il_97, il_98, il_99, il_101, il_103, il_104, il_105, il_108, il_109, il_110, il_111, il_112, il_114, il_115, il_116, il_117, il_119, il_122, il_127, il_128, il_200, il_225, il_255, il_256, il_999, il_1575, il_9999, il_65536, il_252645135, il_858993459, il_1431655765, true_and, and_true, true_or, or_true, q1, q2, mu, ml, mo, tn43, tn44, y2, y3]
      (repeat' split) <;> first | (exfalso; omega) | rfl | (rw [bI_t (by omega)]) | (rw [bI_f (by omega)])
  · rcases c2 with ⟨y1, y2, y3⟩ | ⟨j, hj, y1, y2, y3, y4, y5⟩
    · subst x1 y1 y2 y3
      have mo := m_off (a := (s : Int) - al_n a + 12) (b := v1) (by omega) (by omega) h
      simp (maxSteps := 3000000) (implicitDefEqProofs := false) (disch := omega) only [jl_e, jn_e, bd_e, gd_t, iI_add, iI_sub, iI_mul, iI_neg, if_true, if_false, not_true_eq_false, not_false_eq_true, Int.reduceEq, Nat.add_zero, Int.toNat_natCast, iI_cl, iI_lt, iI_eq, gd_in, bI_eq0, bI_eq1, bI_isB, isB_0, isB_1, il_0, il_1, il_2, il_3, il_4, il_5, il_6, il_7, il_8, il_9, il_10, il_12, il_16, il_18, il_24, il_27, il_30, il_31, il_32, il_40, il_47, il_48, il_49, il_55, il_56, il_57, il_59, il_63, il_64, il_96, il_97, il_98, il_99, il_101, il_103, il_104, il_105, il_108, il_109, il_110, il_111, il_112, il_114, il_115, il_116, il_117, il_119, il_122, il_127, il_128, il_200, il_225, il_255, il_256, il_999, il_1575, il_9999, il_65536, il_252645135, il_858993459, il_1431655765, true_and, and_true, true_or, or_true, q1, q2, mu, mp, mo, tn43, tn44, x2, x3]
      (repeat' split) <;> first | (exfalso; omega) | rfl | (rw [bI_t (by omega)]) | (rw [bI_f (by omega)])
    · subst x1 y1
      have mo := m_off (a := (s : Int) - al_n a + 12) (b := v1) (by omega) (by omega) h
      have mo2 := m_off (a := ln_at a s) (b := v2) (by omega) (by omega) h
      simp (maxSteps := 3000000) (implicitDefEqProofs := false) (disch := omega) only [jl_e, jn_e, bd_e, gd_t, iI_add, iI_sub, iI_mul, iI_neg, if_true, if_false, not_true_eq_false, not_false_eq_true, Int.reduceEq, Nat.add_zero, Int.toNat_natCast, iI_cl, iI_lt, iI_eq, gd_in, bI_eq0, bI_eq1, bI_isB, isB_0, isB_1, il_0, il_1, il_2, il_3, il_4, il_5, il_6, il_7, il_8, il_9, il_10, il_12, il_16, il_18, il_24, il_27, il_30, il_31, il_32, il_40, il_47, il_48, il_49, il_55, il_56, il_57, il_59, il_63, il_64, il_96, il_97, il_98, il_99, il_101, il_103, il_104, il_105, il_108, il_109, il_110, il_111, il_112, il_114, il_115, il_116, il_117, il_119, il_122, il_127, il_128, il_200, il_225, il_255, il_256, il_999, il_1575, il_9999, il_65536, il_252645135, il_858993459, il_1431655765, true_and, and_true, true_or, or_true, q1, q2, mu, mp, ml, mo, mo2, tn43, tn44, x2, x3, y2, y3]
      (repeat' split) <;> first | (exfalso; omega) | rfl | (rw [bI_t (by omega)]) | (rw [bI_f (by omega)])
theorem m_layWindow {h : Hp} {a : Alb} (q : AmC h a) {p : Nat} (hp : p < 7) : ∃ h', F_X12_layWindow (iI p) h = some ((), h') ∧ lG h' 129 p = lN (bm (wd_b a p) 48) ∧ ∀ i, i ≠ p → lG h' 129 i = lG h 129 i := by
  refine wp_u ?_
  unfold F_X12_layWindow
  rw [gd_in (by omega) (by omega) (by omega), jl_e, iI_cl (by omega) (by omega), Int.toNat_natCast]
  refine lp_up (α := Int32 → Hp → Option (Unit × Hp)) (P := fun k c => ∀ g, AmC g a → lG g 129 p = lN (bm (wd_b a p) k) → (∀ i, i ≠ p → lG g 129 i = lG h 129 i) → Wp (c (iI k) g) (fun _ h' => lG h' 129 p = lN (bm (wd_b a p) 48) ∧ ∀ i, i ≠ p → lG h' 129 i = lG h 129 i)) 48 (by omega) (fun k c hk ih g hg h1 h2 => ?_) _ ?_ ?_ ?_
  · by_cases z : k < 48
    · have eb : bm (wd_b a p) (k + 1) = bm (wd_b a p) k ||| (if wd_b a p k then 2 ^ k else 0) := rfl
      simp (maxSteps := 3000000) (implicitDefEqProofs := false) (disch := omega) only [jl_e, jn_e, bd_e, gd_t, iI_add, iI_sub, iI_mul, iI_neg, if_true, if_false, not_true_eq_false, not_false_eq_true, Int.reduceEq, Nat.add_zero, Int.toNat_natCast, iI_cl, iI_lt, iI_eq, gd_in, bI_eq0, bI_eq1, bI_isB, isB_0, isB_1, il_0, il_1, il_2, il_3, il_4, il_5, il_6, il_7, il_8, il_9, il_10, il_12, il_16, il_18, il_24, il_27, il_30, il_31, il_32, il_40, il_47, il_48, il_49, il_55, il_56, il_57, il_59, il_63, il_64, il_96, il_97, il_98, il_99, il_101, il_103, il_104, il_105, il_108, il_109, il_110, il_111, il_112, il_114, il_115, il_116, il_117, il_119, il_122, il_127, il_128, il_200, il_225, il_255, il_256, il_999, il_1575, il_9999, il_65536, il_252645135, il_858993459, il_1431655765, m_isIn hg hp z, lL_bit (show k < 64 by omega), h1]
      rw [if_pos (by omega)]
      have T : ∀ v, v = lN (bm (wd_b a p) (k + 1)) → Wp (c (iI ((k : Int) + 1)) (lS g 129 p v)) (fun _ h' => lG h' 129 p = lN (bm (wd_b a p) 48) ∧ ∀ i, i ≠ p → lG h' 129 i = lG h 129 i) := fun v hv => ih z _ hg ((lG_lS_s ..).trans hv) (fun i hi => (lG_lS_j hi ..).trans (h2 i hi))
      by_cases y : wd_b a p k = true
      · rw [if_neg (fun w => w y)]
        refine T _ ?_
        rw [eb, if_pos y, lL_or]
      · rw [if_pos y]
        refine T _ ?_
        rw [eb, if_neg y, Nat.or_zero]
        exact Int64.or_zero
    · simp (maxSteps := 3000000) (implicitDefEqProofs := false) (disch := omega) only [jl_e, jn_e, bd_e, gd_t, iI_add, iI_sub, iI_mul, iI_neg, if_true, if_false, not_true_eq_false, not_false_eq_true, Int.reduceEq, Nat.add_zero, Int.toNat_natCast, iI_cl, iI_lt, iI_eq, gd_in, bI_eq0, bI_eq1, bI_isB, isB_0, isB_1, il_0, il_1, il_2, il_3, il_4, il_5, il_6, il_7, il_8, il_9, il_10, il_12, il_16, il_18, il_24, il_27, il_30, il_31, il_32, il_40, il_47, il_48, il_49, il_55, il_56, il_57, il_59, il_63, il_64, il_96, il_97, il_98, il_99, il_101, il_103, il_104, il_105, il_108, il_109, il_110, il_111, il_112, il_114, il_115, il_116, il_117, il_119, il_122, il_127, il_128, il_200, il_225, il_255, il_256, il_999, il_1575, il_9999, il_65536, il_252645135, il_858993459, il_1431655765]
      rw [if_neg (by omega)]
      have : k = 48 := by omega
      subst this
      exact wp_s ⟨h1, h2⟩
  · exact q
  · exact lG_lS_s ..
  · exact fun i hi => lG_lS_j hi ..
theorem ah_b_iff (a : Alb) (t q p : Nat) : ah_b a t q p = true ↔ th_v a q t ≠ -1 ∧ th_v a p t ≠ -1 ∧ ((al_kd a t = 1 ∧ th_v a p t < th_v a q t) ∨ (al_kd a t ≠ 1 ∧ al_kd a t ≠ 2 ∧ th_v a q t < th_v a p t)) := by
  unfold ah_b
  rw [Bool.and_eq_true, Bool.and_eq_true, bne_iff_ne, bne_iff_ne, and_assoc]
  refine and_congr Iff.rfl (and_congr Iff.rfl ?_)
  by_cases c : al_kd a t = 1
  · rw [if_pos c, decide_eq_true_iff]
    omega
  · rw [if_neg c, Bool.and_eq_true, bne_iff_ne, decide_eq_true_iff]
    omega
theorem m_isAhead {h : Hp} {a : Alb} (q : AmC h a) {x y : Nat} (hx : x < 7) (hy : y < 7) : F_X12_isAhead (iI x) (iI y) h = some (bI (ah_n a (al_k a).length x y = true), h) := by
  have h6 := q.1.2.2.1
  unfold F_X12_isAhead
  refine lp_up (α := Int32 → Int32 → Hp → Option (Int32 × Hp)) (P := fun k c => ∀ v, v = bI (ah_n a k x y = true) → c v (iI k) h = some (bI (ah_n a (al_k a).length x y = true), h)) (al_k a).length (by omega) (fun k c hk ih v hv => ?_) _ (bI_f (fun w => Bool.noConfusion (show false = true from w))).symm
  subst hv
  by_cases z : k < (al_k a).length
  · have r1 := th_v_rng q.1 x k hx (by omega)
    have r2 := th_v_rng q.1 y k hy (by omega)
    have r3 := q.1.2.2.2.2.1 k z
    have S : ah_n a (k + 1) x y = true ↔ ah_n a k x y = true ∨ (th_v a x k ≠ -1 ∧ th_v a y k ≠ -1 ∧ ((al_kd a k = 1 ∧ th_v a y k < th_v a x k) ∨ (al_kd a k ≠ 1 ∧ al_kd a k ≠ 2 ∧ th_v a x k < th_v a y k))) := by
      rw [ah_n_succ, Bool.or_eq_true, ah_b_iff]
    have ih := ih z
    simp (maxSteps := 3000000) (implicitDefEqProofs := false) (disch := omega) only [jl_e, jn_e, bd_e, gd_t, iI_add, iI_sub, iI_mul, iI_neg, if_true, if_false, not_true_eq_false, not_false_eq_true, Int.reduceEq, Nat.add_zero, Int.toNat_natCast, iI_cl, iI_lt, iI_eq, gd_in, bI_eq0, bI_eq1, bI_isB, isB_0, isB_1, il_0, il_1, il_2, il_3, il_4, il_5, il_6, il_7, il_8, il_9, il_10, il_12, il_16, il_18, il_24, il_27, il_30, il_31, il_32, il_40, il_47, il_48, il_49, il_55, il_56, il_57, il_59, il_63, il_64, il_96, il_97, il_98, il_99, il_101, il_103, il_104, il_105, il_108, il_109, il_110, il_111, il_112, il_114, il_115, il_116, il_117, il_119, il_122, il_127, il_128, il_200, il_225, il_255, il_256, il_999, il_1575, il_9999, il_65536, il_252645135, il_858993459, il_1431655765, q.nt, m_thingV q hx (show k < 6 by omega), m_thingV q hy (show k < 6 by omega), q.kd z]
    rw [if_pos (by omega)]
    have T : ah_n a (k + 1) x y = true → c (iI 1) (iI ((k : Int) + 1)) h = some (bI (ah_n a (al_k a).length x y = true), h) := fun w => ih _ (bI_t w).symm
    have N : ¬ ah_n a (k + 1) x y = true → c (iI 0) (iI ((k : Int) + 1)) h = some (bI (ah_n a (al_k a).length x y = true), h) := fun w => ih _ (bI_f w).symm
    by_cases A : ah_n a k x y = true
    · have := T (S.2 (Or.inl A))
      simp only [A, not_true_eq_false, if_false]
      (repeat' split) <;> exact this
    · simp only [A, Bool.false_eq_true, not_false_eq_true, if_true]
      (repeat' split) <;> first | exact T (S.2 (Or.inr (by omega))) | exact N (fun w => (S.1 w).elim A (fun u => by omega)) | (exfalso; omega)
  · simp (maxSteps := 3000000) (implicitDefEqProofs := false) (disch := omega) only [jl_e, jn_e, bd_e, gd_t, iI_add, iI_sub, iI_mul, iI_neg, if_true, if_false, not_true_eq_false, not_false_eq_true, Int.reduceEq, Nat.add_zero, Int.toNat_natCast, iI_cl, iI_lt, iI_eq, gd_in, bI_eq0, bI_eq1, bI_isB, isB_0, isB_1, il_0, il_1, il_2, il_3, il_4, il_5, il_6, il_7, il_8, il_9, il_10, il_12, il_16, il_18, il_24, il_27, il_30, il_31, il_32, il_40, il_47, il_48, il_49, il_55, il_56, il_57, il_59, il_63, il_64, il_96, il_97, il_98, il_99, il_101, il_103, il_104, il_105, il_108, il_109, il_110, il_111, il_112, il_114, il_115, il_116, il_117, il_119, il_122, il_127, il_128, il_200, il_225, il_255, il_256, il_999, il_1575, il_9999, il_65536, il_252645135, il_858993459, il_1431655765, q.nt]
    rw [if_neg (by omega), show k = (al_k a).length by omega]
/-- windows and who is ahead, as they lie there for an album -/
def LaC (h : Hp) (a : Alb) : Prop := (∀ p, p < (al_w a).length → lG h 129 p = lN (bm (wd_b a p) 48)) ∧ ∀ p, p < (al_w a).length → ∀ r, r < (al_w a).length → aG h 130 (7 * p + r) = bI (ah_n a (al_k a).length p r = true)
theorem LaC.fr {h h' : Hp} {a : Alb} {S A : List Nat} (q : LaC h a) (f : FrX S A h h') (n0 : 129 ∉ A) (n1 : 130 ∉ A) : LaC h' a := ⟨fun p hp => (f.lg n0 p).trans (q.1 p hp), fun p hp r hr => (f.ag n1 _).trans (q.2 p hp r hr)⟩
theorem m_layAll {h : Hp} {a : Alb} (q : AmC h a) : ∃ h', F_X12_layAll h = some ((), h') ∧ LaC h' a := by
  have h7 := q.1.2.1
  refine wp_u ?_
  unfold F_X12_layAll
  refine lp_up (α := Int32 → Hp → Option (Unit × Hp)) (P := fun k c => ∀ g, AmC g a → (∀ p, p < k → lG g 129 p = lN (bm (wd_b a p) 48)) → (∀ p, p < k → ∀ r, r < (al_w a).length → aG g 130 (7 * p + r) = bI (ah_n a (al_k a).length p r = true)) → Wp (c (iI k) g) (fun _ h' => LaC h' a)) (al_w a).length (by omega) (fun k c hk ih g hg h1 h2 => ?_) h q (fun p hp => absurd hp (Nat.not_lt_zero p)) (fun p hp => absurd hp (Nat.not_lt_zero p))
  by_cases z : k < (al_w a).length
  · obtain ⟨g1, e1, e2, e3⟩ := m_layWindow hg (p := k) (by omega)
    have f := fr_X12_layWindow _ _ _ _ e1
    have hg1 : AmC g1 a := hg.fr f (by decide) (by decide)
    simp (maxSteps := 3000000) (implicitDefEqProofs := false) (disch := omega) only [jl_e, jn_e, bd_e, gd_t, iI_add, iI_sub, iI_mul, iI_neg, if_true, if_false, not_true_eq_false, not_false_eq_true, Int.reduceEq, Nat.add_zero, Int.toNat_natCast, iI_cl, iI_lt, iI_eq, gd_in, bI_eq0, bI_eq1, bI_isB, isB_0, isB_1, il_0, il_1, il_2, il_3, il_4, il_5, il_6, il_7, il_8, il_9, il_10, il_12, il_16, il_18, il_24, il_27, il_30, il_31, il_32, il_40, il_47, il_48, il_49, il_55, il_56, il_57, il_59, il_63, il_64, il_96, il_97, il_98, il_99, il_101, il_103, il_104, il_105, il_108, il_109, il_110, il_111, il_112, il_114, il_115, il_116, il_117, il_119, il_122, il_127, il_128, il_200, il_225, il_255, il_256, il_999, il_1575, il_9999, il_65536, il_252645135, il_858993459, il_1431655765, q.np, hg.np, e1]
    rw [if_pos (by omega)]
    refine lp_up (α := Int32 → Hp → Option (Unit × Hp)) (P := fun j d => ∀ u, AmC u a → (∀ p, p < k + 1 → lG u 129 p = lN (bm (wd_b a p) 48)) → (∀ p r, p < k ∨ (p = k ∧ r < j) → r < (al_w a).length → aG u 130 (7 * p + r) = bI (ah_n a (al_k a).length p r = true)) → Wp (d (iI j) u) (fun _ h' => LaC h' a)) (al_w a).length (by omega) (fun j d hj ih2 u hu w1 w2 => ?_) g1 hg1 (fun p hp => ?_) (fun p r hp hr => ?_)
    · by_cases y : j < (al_w a).length
      · have ih2 := ih2 y
        simp (maxSteps := 3000000) (implicitDefEqProofs := false) (disch := omega) only [jl_e, jn_e, bd_e, gd_t, iI_add, iI_sub, iI_mul, iI_neg, if_true, if_false, not_true_eq_false, not_false_eq_true, Int.reduceEq, Nat.add_zero, Int.toNat_natCast, iI_cl, iI_lt, iI_eq, gd_in, bI_eq0, bI_eq1, bI_isB, isB_0, isB_1, il_0, il_1, il_2, il_3, il_4, il_5, il_6, il_7, il_8, il_9, il_10, il_12, il_16, il_18, il_24, il_27, il_30, il_31, il_32, il_40, il_47, il_48, il_49, il_55, il_56, il_57, il_59, il_63, il_64, il_96, il_97, il_98, il_99, il_101, il_103, il_104, il_105, il_108, il_109, il_110, il_111, il_112, il_114, il_115, il_116, il_117, il_119, il_122, il_127, il_128, il_200, il_225, il_255, il_256, il_999, il_1575, il_9999, il_65536, il_252645135, il_858993459, il_1431655765, hu.np, m_isAhead hu (show k < 7 by omega) (show j < 7 by omega), bI_nar, tn7]
        rw [if_pos (by omega)]
        refine ih2 _ (hu.fr ((FrX.refl [] [130] u).aS (by decide) _ _) (by decide) (by decide)) (fun p hp => w1 p hp) (fun p r hp hr => ?_)
        by_cases e : p = k ∧ r = j
        · obtain ⟨rfl, rfl⟩ := e
          exact aG_aS_s ..
        · rw [aG_aS_j (by omega)]
          exact w2 p r (by omega) hr
      · have ih := ih z
        simp (maxSteps := 3000000) (implicitDefEqProofs := false) (disch := omega) only [jl_e, jn_e, bd_e, gd_t, iI_add, iI_sub, iI_mul, iI_neg, if_true, if_false, not_true_eq_false, not_false_eq_true, Int.reduceEq, Nat.add_zero, Int.toNat_natCast, iI_cl, iI_lt, iI_eq, gd_in, bI_eq0, bI_eq1, bI_isB, isB_0, isB_1, il_0, il_1, il_2, il_3, il_4, il_5, il_6, il_7, il_8, il_9, il_10, il_12, il_16, il_18, il_24, il_27, il_30, il_31, il_32, il_40, il_47, il_48, il_49, il_55, il_56, il_57, il_59, il_63, il_64, il_96, il_97, il_98, il_99, il_101, il_103, il_104, il_105, il_108, il_109, il_110, il_111, il_112, il_114, il_115, il_116, il_117, il_119, il_122, il_127, il_128, il_200, il_225, il_255, il_256, il_999, il_1575, il_9999, il_65536, il_252645135, il_858993459, il_1431655765, hu.np]
        rw [if_neg (by omega)]
        exact ih u hu w1 (fun p hp r hr => w2 p r (by omega) hr)
    · by_cases e : p = k
      · rw [e]; exact e2
      · rw [e3 p e]; exact h1 p (by omega)
    · rw [f.ag (by decide)]
      exact h2 p (by omega) r hr
  · simp (maxSteps := 3000000) (implicitDefEqProofs := false) (disch := omega) only [jl_e, jn_e, bd_e, gd_t, iI_add, iI_sub, iI_mul, iI_neg, if_true, if_false, not_true_eq_false, not_false_eq_true, Int.reduceEq, Nat.add_zero, Int.toNat_natCast, iI_cl, iI_lt, iI_eq, gd_in, bI_eq0, bI_eq1, bI_isB, isB_0, isB_1, il_0, il_1, il_2, il_3, il_4, il_5, il_6, il_7, il_8, il_9, il_10, il_12, il_16, il_18, il_24, il_27, il_30, il_31, il_32, il_40, il_47, il_48, il_49, il_55, il_56, il_57, il_59, il_63, il_64, il_96, il_97, il_98, il_99, il_101, il_103, il_104, il_105, il_108, il_109, il_110, il_111, il_112, il_114, il_115, il_116, il_117, il_119, il_122, il_127, il_128, il_200, il_225, il_255, il_256, il_999, il_1575, il_9999, il_65536, il_252645135, il_858993459, il_1431655765, hg.np]
    rw [if_neg (by omega)]
    exact wp_s ⟨fun p hp => h1 p (by omega), fun p hp r hr => h2 p (by omega) r hr⟩
