-- ===== questions to the rules =====
theorem bm_and (f : Nat → Bool) (n m : Nat) : bm f n &&& m = bm (fun i => f i && m.testBit i) n := by
  apply bm_eq
  intro i
  rw [Nat.testBit_and, bm_tb, Bool.and_assoc]
theorem bm_nd (f : Nat → Bool) (n m : Nat) : nd (bm f n) m = bm (fun i => f i && !m.testBit i) n := by
  apply bm_eq
  intro i
  rw [nd_tb, bm_tb, Bool.and_assoc]
theorem bm_0 {f : Nat → Bool} {n : Nat} : bm f n = 0 ↔ ∀ i, i < n → f i = false := by
  constructor
  · intro h i hi
    have := bm_tb f n i
    rw [h, Nat.zero_testBit, decide_eq_true hi, Bool.true_and] at this
    exact this.symm
  · intro h
    rw [bm_congr (g := fun _ => false) h, bm_f]
theorem bm_self {m n : Nat} (h : m < 2 ^ n) : m = bm m.testBit n := by
  apply bm_eq
  intro i
  by_cases c : i < n
  · simp [c]
  · rw [Nat.testBit_lt_two_pow (Nat.lt_of_lt_of_le h (Nat.pow_le_pow_right (by omega) (by omega)))]
    simp
theorem bm_range_any (f : Nat → Bool) (n : Nat) : (List.range n).any f = !decide (bm f n = 0) := by
  apply Bool.eq_iff_iff.2
  rw [List.any_eq_true, Bool.not_eq_true', decide_eq_false_iff_not, bm_0]
  constructor
  · rintro ⟨x, hx, hf⟩ h
    rw [h x (List.mem_range.1 hx)] at hf
    cases hf
  · intro h
    refine Classical.byContradiction fun c => h (fun i hi => ?_)
    cases e : f i with
    | false => rfl
    | true => exact absurd ⟨i, List.mem_range.2 hi, e⟩ c
theorem b_nf {b : Bool} (h : ¬ b = false) : b = true := by
  cases b
  · exact absurd rfl h
  · rfl
theorem b_nt {b : Bool} (h : ¬ b = true) : b = false := by
  cases b
  · rfl
  · exact absurd rfl h
theorem lg_cmpI (x y : Int64) : (lg_cmp x y = iI 0) = (x = y) := lg_cmp0 x y
theorem nc_0 (n : Nat) : ((n : Int) = 0) = (n = 0) := propext (by omega)
def hit_b (ρ : RD) (S A t : Nat) : Bool := (List.range 7).any (fun q => S.testBit q && A.testBit q && ro_t ρ t q) && (List.range 7).any (fun q => S.testBit q && !A.testBit q && ro_t ρ t q)
def nx_g (ρ : RD) (S A i p : Nat) : Bool := S.testBit p && !A.testBit p && (List.range i).all (fun t => !(hit_b ρ S A t && ro_y ρ t p))
theorem nx_g_succ (ρ : RD) (S A i p : Nat) : nx_g ρ S A (i + 1) p = (nx_g ρ S A i p && !(hit_b ρ S A i && ro_y ρ i p)) := by
  unfold nx_g
  rw [List.range_succ, List.all_append]
  simp [Bool.and_assoc]
def nx_a (ρ : RD) (S A p : Nat) : Bool := (List.range 7).all (fun q => !(S.testBit q && !A.testBit q && ro_a ρ q p))
theorem c_nextOnes {t : Nat} {h : Hp} {a : RA} (q : RuR t h a) (hnp : a.1 ≤ 7) {S A : Nat} (hS : S < 128) (hA : A < 128) (hSn : ∀ p, S.testBit p = true → p < a.1) : F_X7_nextOnes t (iI A) (iI S) h = some (iI (bm (fun p => ro_nx (a.2) S.testBit A.testBit p) 7), h) := by
  obtain ⟨ρ, eρ⟩ : ∃ ρ, a.2 = ρ := ⟨_, rfl⟩
  have q2 := q.2.2
  unfold ThR at q2
  rw [eρ] at q2 ⊢
  have e1 : nd S A = bm (fun p => S.testBit p && !A.testBit p) 7 := by
    rw [show nd S A = nd (bm S.testBit 7) A from by rw [← bm_self hS], bm_nd]
  unfold F_X7_nextOnes
  rw [show (-1 : Int32) = iI (-1) from rfl, ms_not, jl_e]
  have hx1 : nd S A < 128 := nd_128 hS A
  have fin : bm (fun p => ro_nx ρ S.testBit A.testBit p) 7 = bm (fun p => nx_g ρ S A 6 p && nx_a ρ S A p) 7 := by
    apply bm_congr
    intro p hp
    unfold ro_nx nx_g nx_a hit_b
    rw [Bool.and_assoc (S.testBit p && !A.testBit p), Bool.and_assoc (S.testBit p && !A.testBit p)]
    congr 1
    rw [Bool.and_comm]
  rw [fin]
  refine lp_up (α := Int32 → Int32 → Hp → Option (Int32 × Hp)) (P := fun i c => ∀ (x y : Int32), x = iI (bm (nx_g ρ S A i) 7) → y = iI i → c x y h = some (iI (bm (fun p => nx_g ρ S A 6 p && nx_a ρ S A p) 7), h)) 6 (by omega) (fun i c hi ih => ?_) _ _ ?_ rfl
  · intro x y hx hy
    subst hx hy
    by_cases z : i < 6
    · have et := (q2.2 i z).1
      have ey := (q2.2 i z).2
      have w1 : ((bm (ro_t ρ i) 7 &&& S) &&& A) < 128 := and_128 (and_128 (bm_7 _) _) _
      have w2 : (bm (ro_t ρ i) 7 &&& nd S A) < 128 := and_128 (bm_7 _) _
      simp (maxSteps := 3000000) (implicitDefEqProofs := false) (disch := omega) only [jl_e, jn_e, bd_e, gd_t, iI_add, iI_sub, iI_mul, iI_neg, if_true, if_false, not_true_eq_false, not_false_eq_true, Int.reduceEq, Nat.add_zero, Int.toNat_natCast, iI_cl, iI_lt, iI_eq, gd_in, bI_eq0, bI_eq1, bI_isB, isB_0, isB_1, il_0, il_1, il_2, il_3, il_4, il_5, il_6, il_7, il_8, il_9, il_10, il_12, il_16, il_18, il_24, il_27, il_30, il_31, il_32, il_40, il_47, il_48, il_49, il_55, il_56, il_57, il_59, il_63, il_64, il_96, il_97, il_98, il_99, il_101, il_103, il_104, il_105, il_108, il_109, il_110, il_111, il_112, il_114, il_115, il_116, il_117, il_119, il_122, il_127, il_128, il_200, il_225, il_255, il_256, il_999, il_1575, il_9999, il_65536, il_252645135, il_858993459, il_1431655765, et, ey, ms_and, ms_not, nc_0]
      rw [if_pos (by omega)]
      have h1 : ((bm (ro_t ρ i) 7 &&& S) &&& A = 0) = ((List.range 7).any (fun q => S.testBit q && A.testBit q && ro_t ρ i q) = false) := by
        rw [bm_and, bm_and, bm_range_any]
        have : bm (fun q => ro_t ρ i q && S.testBit q && A.testBit q) 7 = bm (fun q => S.testBit q && A.testBit q && ro_t ρ i q) 7 := by
          apply bm_congr
          intro p _
          cases ro_t ρ i p <;> cases S.testBit p <;> cases A.testBit p <;> rfl
        rw [this]
        simp
      have h2 : (bm (ro_t ρ i) 7 &&& nd S A = 0) = ((List.range 7).any (fun q => S.testBit q && !A.testBit q && ro_t ρ i q) = false) := by
        rw [bm_and, bm_range_any]
        have : bm (fun q => ro_t ρ i q && (nd S A).testBit q) 7 = bm (fun q => S.testBit q && !A.testBit q && ro_t ρ i q) 7 := by
          apply bm_congr
          intro p _
          rw [nd_tb]
          cases ro_t ρ i p <;> cases S.testBit p <;> cases A.testBit p <;> rfl
        rw [this]
        simp
      have hh : hit_b ρ S A i = ((List.range 7).any (fun q => S.testBit q && A.testBit q && ro_t ρ i q) && (List.range 7).any (fun q => S.testBit q && !A.testBit q && ro_t ρ i q)) := rfl
      simp only [h1, h2]
      have no : hit_b ρ S A i = false → bm (nx_g ρ S A (i + 1)) 7 = bm (nx_g ρ S A i) 7 := by
        intro u
        apply bm_congr
        intro p _
        rw [nx_g_succ, u]
        simp
      by_cases u1 : (List.range 7).any (fun q => S.testBit q && A.testBit q && ro_t ρ i q) = false
      · rw [if_pos u1]
        exact ih z _ _ (by rw [no (by rw [hh, u1]; rfl)]) (iI_cg (by omega))
      · rw [if_neg u1]
        by_cases u2 : (List.range 7).any (fun q => S.testBit q && !A.testBit q && ro_t ρ i q) = false
        · rw [if_pos u2]
          exact ih z _ _ (by rw [no (by rw [hh, u2]; simp)]) (iI_cg (by omega))
        · rw [if_neg u2]
          refine ih z _ _ ?_ (iI_cg (by omega))
          rw [bm_nd]
          congr 2
          apply bm_congr
          intro p hp
          have v1 : (List.range 7).any (fun q => S.testBit q && A.testBit q && ro_t ρ i q) = true := b_nf u1
          have v2 : (List.range 7).any (fun q => S.testBit q && !A.testBit q && ro_t ρ i q) = true := b_nf u2
          rw [nx_g_succ, hh, v1, v2, bm_tb, decide_eq_true hp]
          simp
    · have e6 : i = 6 := by omega
      subst e6
      simp (maxSteps := 3000000) (implicitDefEqProofs := false) (disch := omega) only [jl_e, jn_e, bd_e, gd_t, iI_add, iI_sub, iI_mul, iI_neg, if_true, if_false, not_true_eq_false, not_false_eq_true, Int.reduceEq, Nat.add_zero, Int.toNat_natCast, iI_cl, iI_lt, iI_eq, gd_in, bI_eq0, bI_eq1, bI_isB, isB_0, isB_1, il_0, il_1, il_2, il_3, il_4, il_5, il_6, il_7, il_8, il_9, il_10, il_12, il_16, il_18, il_24, il_27, il_30, il_31, il_32, il_40, il_47, il_48, il_49, il_55, il_56, il_57, il_59, il_63, il_64, il_96, il_97, il_98, il_99, il_101, il_103, il_104, il_105, il_108, il_109, il_110, il_111, il_112, il_114, il_115, il_116, il_117, il_119, il_122, il_127, il_128, il_200, il_225, il_255, il_256, il_999, il_1575, il_9999, il_65536, il_252645135, il_858993459, il_1431655765]
      rw [if_neg (by omega)]
      refine lp_up (α := Int32 → Int32 → Hp → Option (Int32 × Hp)) (P := fun j c => ∀ (x y : Int32), x = iI (bm (fun p => nx_g ρ S A 6 p && (!decide (p < j) || nx_a ρ S A p)) 7) → y = iI j → c x y h = some (iI (bm (fun p => nx_g ρ S A 6 p && nx_a ρ S A p) 7), h)) a.1 (by omega) (fun j c hj jh => ?_) _ _ ?_ rfl
      · intro x y hx hy
        subst hx hy
        by_cases y : j < a.1
        · have ea := q2.1 j (by omega)
          have w2 : (bm (fun q => ro_a ρ q j) 7 &&& nd S A) < 128 := and_128 (bm_7 _) _
          simp (maxSteps := 3000000) (implicitDefEqProofs := false) (disch := omega) only [jl_e, jn_e, bd_e, gd_t, iI_add, iI_sub, iI_mul, iI_neg, if_true, if_false, not_true_eq_false, not_false_eq_true, Int.reduceEq, Nat.add_zero, Int.toNat_natCast, iI_cl, iI_lt, iI_eq, gd_in, bI_eq0, bI_eq1, bI_isB, isB_0, isB_1, il_0, il_1, il_2, il_3, il_4, il_5, il_6, il_7, il_8, il_9, il_10, il_12, il_16, il_18, il_24, il_27, il_30, il_31, il_32, il_40, il_47, il_48, il_49, il_55, il_56, il_57, il_59, il_63, il_64, il_96, il_97, il_98, il_99, il_101, il_103, il_104, il_105, il_108, il_109, il_110, il_111, il_112, il_114, il_115, il_116, il_117, il_119, il_122, il_127, il_128, il_200, il_225, il_255, il_256, il_999, il_1575, il_9999, il_65536, il_252645135, il_858993459, il_1431655765, q.1, ea, ms_and, ms_shl j (by omega), ms_not, nc_0]
          rw [if_pos (by omega), if_pos (by omega)]
          have h2 : (bm (fun q => ro_a ρ q j) 7 &&& nd S A = 0) = (nx_a ρ S A j = true) := by
            rw [bm_and, bm_0]
            unfold nx_a
            rw [List.all_eq_true]
            apply propext
            constructor
            · intro u q hq
              have := u q (List.mem_range.1 hq)
              rw [nd_tb] at this
              revert this
              cases S.testBit q <;> cases A.testBit q <;> cases ro_a ρ q j <;> simp
            · intro u q hq
              have := u q (List.mem_range.2 hq)
              rw [nd_tb]
              revert this
              cases S.testBit q <;> cases A.testBit q <;> cases ro_a ρ q j <;> simp
          simp only [h2]
          by_cases u : nx_a ρ S A j = true
          · rw [if_pos u]
            refine jh y _ _ ?_ (iI_cg (by omega))
            congr 2
            apply bm_congr
            intro p hp
            by_cases v : p = j
            · subst v
              simp [u]
            · rw [show decide (p < j + 1) = decide (p < j) from decide_eq_decide.2 (by omega)]
          · rw [if_neg u]
            refine jh y _ _ ?_ (iI_cg (by omega))
            rw [bm_nd]
            congr 2
            apply bm_congr
            intro p hp
            rw [Nat.testBit_two_pow]
            by_cases v : p = j
            · subst v
              have u2 : nx_a ρ S A p = false := by simpa using u
              simp [u2]
            · rw [show decide (p < j + 1) = decide (p < j) from decide_eq_decide.2 (by omega), show decide (j = p) = false from decide_eq_false (fun w => v w.symm)]
              simp
        · simp (maxSteps := 3000000) (implicitDefEqProofs := false) (disch := omega) only [jl_e, jn_e, bd_e, gd_t, iI_add, iI_sub, iI_mul, iI_neg, if_true, if_false, not_true_eq_false, not_false_eq_true, Int.reduceEq, Nat.add_zero, Int.toNat_natCast, iI_cl, iI_lt, iI_eq, gd_in, bI_eq0, bI_eq1, bI_isB, isB_0, isB_1, il_0, il_1, il_2, il_3, il_4, il_5, il_6, il_7, il_8, il_9, il_10, il_12, il_16, il_18, il_24, il_27, il_30, il_31, il_32, il_40, il_47, il_48, il_49, il_55, il_56, il_57, il_59, il_63, il_64, il_96, il_97, il_98, il_99, il_101, il_103, il_104, il_105, il_108, il_109, il_110, il_111, il_112, il_114, il_115, il_116, il_117, il_119, il_122, il_127, il_128, il_200, il_225, il_255, il_256, il_999, il_1575, il_9999, il_65536, il_252645135, il_858993459, il_1431655765, q.1]
          rw [if_neg (by omega)]
          congr 2
          congr 1
          congr 1
          apply bm_congr
          intro p hp
          by_cases v : S.testBit p = true
          · have := hSn p v
            simp [show p < j by omega]
          · have v2 : S.testBit p = false := by simpa using v
            unfold nx_g
            simp [v2]
      · congr 2
        apply bm_congr
        intro p _
        simp
  · rw [e1]
    congr 2
    apply bm_congr
    intro p _
    unfold nx_g
    simp
theorem i_L {n : Nat} (h : n < 2147483648) : (iI (n : Int)).toInt64 = lN n := by
  rw [← nI_iI]
  exact nI_l h
theorem c_freeBehind {t : Nat} {h : Hp} {a : RA} (q : RuR t h a) (hnp : a.1 ≤ 7) {p f : Nat} (hp : p < a.1) (hf : f ≤ 48) : F_X7_freeBehind t (iI p) (iI f) h = some (iI (if ro_f (ro_w a.2 p) f < 48 then ((ro_f (ro_w a.2 p) f + 1 : Nat) : Int) else -1), h) := by
  have w48 := bm_48 (ro_w a.2 p)
  have hle := ro_f_le (ro_w a.2 p) f
  have eb : ∀ i, (bm (ro_w a.2 p) 48).testBit i = (decide (i < 48) && ro_w a.2 p i) := bm_tb _ 48
  unfold F_X7_freeBehind
  by_cases c48 : f < 48
  · have es : ((lN (bm (ro_w a.2 p) 48)).toUInt64 >>> ((iI (f : Int)).toInt64.toUInt64 &&& Int64.toUInt64 63)).toInt64 = lN (bm (ro_w a.2 p) 48 / 2 ^ f) := by
      rw [← nI_iI]
      exact wb_shr (by omega) (by omega)
    have hd : bm (ro_w a.2 p) 48 / 2 ^ f ≤ bm (ro_w a.2 p) 48 := Nat.div_le_self _ _
    simp (maxSteps := 3000000) (implicitDefEqProofs := false) (disch := omega) only [jl_e, jn_e, bd_e, gd_t, iI_add, iI_sub, iI_mul, iI_neg, if_true, if_false, not_true_eq_false, not_false_eq_true, Int.reduceEq, Nat.add_zero, Int.toNat_natCast, iI_cl, iI_lt, iI_eq, gd_in, bI_eq0, bI_eq1, bI_isB, isB_0, isB_1, il_0, il_1, il_2, il_3, il_4, il_5, il_6, il_7, il_8, il_9, il_10, il_12, il_16, il_18, il_24, il_27, il_30, il_31, il_32, il_40, il_47, il_48, il_49, il_55, il_56, il_57, il_59, il_63, il_64, il_96, il_97, il_98, il_99, il_101, il_103, il_104, il_105, il_108, il_109, il_110, il_111, il_112, il_114, il_115, il_116, il_117, il_119, il_122, il_127, il_128, il_200, il_225, il_255, il_256, il_999, il_1575, il_9999, il_65536, il_252645135, il_858993459, il_1431655765, q.2.1 p hp, es, lg_cmpI, lN_0 (show bm (ro_w a.2 p) 48 / 2 ^ f < 2 ^ 64 by omega)]
    rw [if_neg (by omega), if_pos (by omega), if_neg (by omega), if_pos (by omega)]
    by_cases c : ro_f (ro_w a.2 p) f < 48
    · have hy := ro_f_yes c
      have b1 : (bm (ro_w a.2 p) 48 / 2 ^ f).testBit (ro_f (ro_w a.2 p) f - f) = true := by
        rw [Nat.testBit_div_two_pow, eb, show ro_f (ro_w a.2 p) f - f + f = ro_f (ro_w a.2 p) f by omega, hy.2]
        simp [c]
      have b2 : ∀ j, j < ro_f (ro_w a.2 p) f - f → (bm (ro_w a.2 p) 48 / 2 ^ f).testBit j = false := by
        intro j hj
        rw [Nat.testBit_div_two_pow, eb]
        cases e : ro_w a.2 p (j + f) with
        | false => simp
        | true =>
          have := ro_f_min (w := ro_w a.2 p) (f := f) (s := j + f) (by omega) (by omega) e
          omega
      have c0 : ¬ bm (ro_w a.2 p) 48 / 2 ^ f = 0 := by
        intro z
        rw [z, Nat.zero_testBit] at b1
        cases b1
      rw [if_neg c0, if_pos c, z_ntz (by omega) (by omega) b1 b2, bd_e, nI_iI]
      simp (maxSteps := 3000000) (implicitDefEqProofs := false) (disch := omega) only [jl_e, jn_e, bd_e, gd_t, iI_add, iI_sub, iI_mul, iI_neg, if_true, if_false, not_true_eq_false, not_false_eq_true, Int.reduceEq, Nat.add_zero, Int.toNat_natCast, iI_cl, iI_lt, iI_eq, gd_in, bI_eq0, bI_eq1, bI_isB, isB_0, isB_1, il_0, il_1, il_2, il_3, il_4, il_5, il_6, il_7, il_8, il_9, il_10, il_12, il_16, il_18, il_24, il_27, il_30, il_31, il_32, il_40, il_47, il_48, il_49, il_55, il_56, il_57, il_59, il_63, il_64, il_96, il_97, il_98, il_99, il_101, il_103, il_104, il_105, il_108, il_109, il_110, il_111, il_112, il_114, il_115, il_116, il_117, il_119, il_122, il_127, il_128, il_200, il_225, il_255, il_256, il_999, il_1575, il_9999, il_65536, il_252645135, il_858993459, il_1431655765]
      exact congrArg (fun z => some (iI z, h)) (by omega)
    · have c0 : bm (ro_w a.2 p) 48 / 2 ^ f = 0 := by
        apply Nat.eq_of_testBit_eq
        intro j
        rw [Nat.testBit_div_two_pow, eb, Nat.zero_testBit]
        cases e : ro_w a.2 p (j + f) with
        | false => simp
        | true =>
          by_cases d : j + f < 48
          · have := ro_f_min (w := ro_w a.2 p) (f := f) (s := j + f) (by omega) (by omega) e
            omega
          · simp [d]
      rw [if_pos c0, if_neg c]
  · have e48 : f = 48 := by omega
    subst e48
    have c : ¬ ro_f (ro_w a.2 p) 48 < 48 := by
      intro z
      have := ro_f_yes z
      omega
    simp (maxSteps := 3000000) (implicitDefEqProofs := false) (disch := omega) only [jl_e, jn_e, bd_e, gd_t, iI_add, iI_sub, iI_mul, iI_neg, if_true, if_false, not_true_eq_false, not_false_eq_true, Int.reduceEq, Nat.add_zero, Int.toNat_natCast, iI_cl, iI_lt, iI_eq, gd_in, bI_eq0, bI_eq1, bI_isB, isB_0, isB_1, il_0, il_1, il_2, il_3, il_4, il_5, il_6, il_7, il_8, il_9, il_10, il_12, il_16, il_18, il_24, il_27, il_30, il_31, il_32, il_40, il_47, il_48, il_49, il_55, il_56, il_57, il_59, il_63, il_64, il_96, il_97, il_98, il_99, il_101, il_103, il_104, il_105, il_108, il_109, il_110, il_111, il_112, il_114, il_115, il_116, il_117, il_119, il_122, il_127, il_128, il_200, il_225, il_255, il_256, il_999, il_1575, il_9999, il_65536, il_252645135, il_858993459, il_1431655765]
    rw [if_neg (by omega), if_pos (by omega), if_neg (by omega), if_neg (by omega)]
    try rw [if_neg c]
theorem c_windowOf {t : Nat} {h : Hp} {a : RA} (q : RuR t h a) (hnp : a.1 ≤ 7) {p : Nat} (hp : p < a.1) : F_X7_windowOf t (iI p) h = some (lN (bm (ro_w a.2 p) 48), h) := by
  unfold F_X7_windowOf
  simp (maxSteps := 3000000) (implicitDefEqProofs := false) (disch := omega) only [jl_e, jn_e, bd_e, gd_t, iI_add, iI_sub, iI_mul, iI_neg, if_true, if_false, not_true_eq_false, not_false_eq_true, Int.reduceEq, Nat.add_zero, Int.toNat_natCast, iI_cl, iI_lt, iI_eq, gd_in, bI_eq0, bI_eq1, bI_isB, isB_0, isB_1, il_0, il_1, il_2, il_3, il_4, il_5, il_6, il_7, il_8, il_9, il_10, il_12, il_16, il_18, il_24, il_27, il_30, il_31, il_32, il_40, il_47, il_48, il_49, il_55, il_56, il_57, il_59, il_63, il_64, il_96, il_97, il_98, il_99, il_101, il_103, il_104, il_105, il_108, il_109, il_110, il_111, il_112, il_114, il_115, il_116, il_117, il_119, il_122, il_127, il_128, il_200, il_225, il_255, il_256, il_999, il_1575, il_9999, il_65536, il_252645135, il_858993459, il_1431655765, q.2.1 p hp]
  rw [if_neg (by omega), if_pos (by omega)]
theorem c_earlierThan {t : Nat} {h : Hp} {a : Alb} (q : EaC t h a) {p : Nat} (hp : p < 7) : F_X7_earlierThan t (iI p) h = some (iI (bm (fun k => bf_b a k p) 7), h) := by
  unfold F_X7_earlierThan
  simp (maxSteps := 3000000) (implicitDefEqProofs := false) (disch := omega) only [jl_e, jn_e, bd_e, gd_t, iI_add, iI_sub, iI_mul, iI_neg, if_true, if_false, not_true_eq_false, not_false_eq_true, Int.reduceEq, Nat.add_zero, Int.toNat_natCast, iI_cl, iI_lt, iI_eq, gd_in, bI_eq0, bI_eq1, bI_isB, isB_0, isB_1, il_0, il_1, il_2, il_3, il_4, il_5, il_6, il_7, il_8, il_9, il_10, il_12, il_16, il_18, il_24, il_27, il_30, il_31, il_32, il_40, il_47, il_48, il_49, il_55, il_56, il_57, il_59, il_63, il_64, il_96, il_97, il_98, il_99, il_101, il_103, il_104, il_105, il_108, il_109, il_110, il_111, il_112, il_114, il_115, il_116, il_117, il_119, il_122, il_127, il_128, il_200, il_225, il_255, il_256, il_999, il_1575, il_9999, il_65536, il_252645135, il_858993459, il_1431655765, q p hp]
  rw [if_neg (by omega), if_pos (by omega)]
theorem c_everyone {t : Nat} {h : Hp} {a : RA} (q : RuR t h a) (hnp : a.1 ≤ 7) : F_X7_everyone t h = some (iI (2 ^ a.1 - 1 : Nat), h) := by
  unfold F_X7_everyone
  have hp : 0 < 2 ^ a.1 := Nat.two_pow_pos _
  simp (maxSteps := 3000000) (implicitDefEqProofs := false) (disch := omega) only [jl_e, jn_e, bd_e, gd_t, iI_add, iI_sub, iI_mul, iI_neg, if_true, if_false, not_true_eq_false, not_false_eq_true, Int.reduceEq, Nat.add_zero, Int.toNat_natCast, iI_cl, iI_lt, iI_eq, gd_in, bI_eq0, bI_eq1, bI_isB, isB_0, isB_1, il_0, il_1, il_2, il_3, il_4, il_5, il_6, il_7, il_8, il_9, il_10, il_12, il_16, il_18, il_24, il_27, il_30, il_31, il_32, il_40, il_47, il_48, il_49, il_55, il_56, il_57, il_59, il_63, il_64, il_96, il_97, il_98, il_99, il_101, il_103, il_104, il_105, il_108, il_109, il_110, il_111, il_112, il_114, il_115, il_116, il_117, il_119, il_122, il_127, il_128, il_200, il_225, il_255, il_256, il_999, il_1575, il_9999, il_65536, il_252645135, il_858993459, il_1431655765, q.1, ms_shl _ (show a.1 < 31 by omega)]
  try exact congrArg (fun z => some (iI z, h)) (by omega)
theorem all_tb (n p : Nat) : (2 ^ n - 1).testBit p = decide (p < n) := Nat.testBit_two_pow_sub_one n p
theorem all_lt {n : Nat} (h : n ≤ 7) : 2 ^ n - 1 < 128 := by
  have := Nat.pow_le_pow_right (n := 2) (by omega) h
  have e : (2 : Nat) ^ 7 = 128 := by decide
  omega
-- first and last of long sets
theorem c_firstSlot {m : Nat} (hm : m < 281474976710656) (h : Hp) : F_X11_firstSlot (lN m) h = some (iI (if ro_f m.testBit 0 < 48 then (ro_f m.testBit 0 : Int) else -1), h) := by
  unfold F_X11_firstSlot
  simp (maxSteps := 3000000) (implicitDefEqProofs := false) (disch := omega) only [jl_e, jn_e, bd_e, gd_t, iI_add, iI_sub, iI_mul, iI_neg, if_true, if_false, not_true_eq_false, not_false_eq_true, Int.reduceEq, Nat.add_zero, Int.toNat_natCast, iI_cl, iI_lt, iI_eq, gd_in, bI_eq0, bI_eq1, bI_isB, isB_0, isB_1, il_0, il_1, il_2, il_3, il_4, il_5, il_6, il_7, il_8, il_9, il_10, il_12, il_16, il_18, il_24, il_27, il_30, il_31, il_32, il_40, il_47, il_48, il_49, il_55, il_56, il_57, il_59, il_63, il_64, il_96, il_97, il_98, il_99, il_101, il_103, il_104, il_105, il_108, il_109, il_110, il_111, il_112, il_114, il_115, il_116, il_117, il_119, il_122, il_127, il_128, il_200, il_225, il_255, il_256, il_999, il_1575, il_9999, il_65536, il_252645135, il_858993459, il_1431655765, lg_cmpI, lN_0 (show m < 2 ^ 64 by omega)]
  have hb : ∀ i, m.testBit i = true → i < 48 := by
    intro i hi
    refine Nat.lt_of_not_le (fun z => ?_)
    rw [Nat.testBit_lt_two_pow (Nat.lt_of_lt_of_le (show m < 2 ^ 48 by omega) (Nat.pow_le_pow_right (by omega) z))] at hi
    cases hi
  by_cases c : ro_f m.testBit 0 < 48
  · have hy := ro_f_yes c
    have c0 : ¬ m = 0 := by
      intro z
      rw [z] at hy
      have := hy.2
      rw [Nat.zero_testBit] at this
      cases this
    have b2 : ∀ j, j < ro_f m.testBit 0 → m.testBit j = false := by
      intro j hj
      cases e : m.testBit j with
      | false => rfl
      | true =>
        have := ro_f_min (w := m.testBit) (f := 0) (s := j) (by omega) (by omega) e
        omega
    rw [if_neg c0, if_pos c, z_ntz (by omega) (by omega) hy.2 b2, bd_e, nI_iI]
  · have c0 : m = 0 := by
      apply Nat.eq_of_testBit_eq
      intro j
      rw [Nat.zero_testBit]
      cases e : m.testBit j with
      | false => rfl
      | true =>
        have := ro_f_min (w := m.testBit) (f := 0) (s := j) (by omega) (hb j e) e
        have := hb j e
        omega
    rw [if_pos c0, if_neg c]
theorem c_lastSlot {m : Nat} (hm : m < 281474976710656) (h : Hp) : F_X11_lastSlot (lN m) h = some (iI ((ro_l m.testBit 48 : Int) - 1), h) := by
  unfold F_X11_lastSlot
  simp (maxSteps := 3000000) (implicitDefEqProofs := false) (disch := omega) only [jl_e, jn_e, bd_e, gd_t, iI_add, iI_sub, iI_mul, iI_neg, if_true, if_false, not_true_eq_false, not_false_eq_true, Int.reduceEq, Nat.add_zero, Int.toNat_natCast, iI_cl, iI_lt, iI_eq, gd_in, bI_eq0, bI_eq1, bI_isB, isB_0, isB_1, il_0, il_1, il_2, il_3, il_4, il_5, il_6, il_7, il_8, il_9, il_10, il_12, il_16, il_18, il_24, il_27, il_30, il_31, il_32, il_40, il_47, il_48, il_49, il_55, il_56, il_57, il_59, il_63, il_64, il_96, il_97, il_98, il_99, il_101, il_103, il_104, il_105, il_108, il_109, il_110, il_111, il_112, il_114, il_115, il_116, il_117, il_119, il_122, il_127, il_128, il_200, il_225, il_255, il_256, il_999, il_1575, il_9999, il_65536, il_252645135, il_858993459, il_1431655765, lg_cmpI, lN_0 (show m < 2 ^ 64 by omega)]
  have hb : ∀ i, m.testBit i = true → i < 48 := by
    intro i hi
    refine Nat.lt_of_not_le (fun z => ?_)
    rw [Nat.testBit_lt_two_pow (Nat.lt_of_lt_of_le (show m < 2 ^ 48 by omega) (Nat.pow_le_pow_right (by omega) z))] at hi
    cases hi
  by_cases c : m = 0
  · rw [if_pos c]
    have : ro_l m.testBit 48 = 0 := by
      rcases Nat.eq_zero_or_pos (ro_l m.testBit 48) with z | z
      · exact z
      · have := ro_l_yes _ _ z
        rw [c, Nat.zero_testBit] at this
        cases this
    rw [this]
    rfl
  · obtain ⟨r, h1, h2, h3⟩ := z_nlz (n := m) (by omega) (by omega) h
    rw [if_neg c, h3, bd_e, iI_sub]
    have ht := hb_top h2
    have e1 := ro_l_max m.testBit 48 r (hb r ht.1) ht.1
    have e2 : ro_l m.testBit 48 ≤ r + 1 := by
      refine Nat.le_of_not_lt (fun z => ?_)
      have := ro_l_yes m.testBit 48 (by omega)
      rw [ht.2 _ (by omega)] at this
      cases this
    exact congrArg (fun z => some (iI z, h)) (by omega)
