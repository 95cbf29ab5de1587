-- ===== the class's Hours: whether a set can be =====
def cb_I (ρ : RD) (S k : Nat) (lv : Nat → Nat) : Prop := lv 0 = 0 ∧ (∀ A, lv A ≤ 49) ∧ (∀ A, lv A ≠ 49 → ∃ r, ro_pt ρ S 0 r ∧ ro_m r = A ∧ ro_fr ρ 0 r = some (lv A)) ∧ (∀ r p f, ro_pt ρ S 0 (r ++ [p]) → ro_fr ρ 0 (r ++ [p]) = some f → ro_m r < k → lv (ro_m r ||| 2 ^ p) ≤ f)
def lm_ok (t : Nat) (h : Hp) (lv : Nat → Nat) : Prop := ∀ A, A < 128 → aG h (t + 1) A = iI (lv A)
theorem list_snoc {r : List Nat} (h : r ≠ []) : ∃ r' p, r = r' ++ [p] := ⟨r.dropLast, r.getLast h, (List.dropLast_concat_getLast h).symm⟩
/-- what is complete up to k is complete for the sets up to k -/
theorem cb_full {ρ : RD} {S k : Nat} {lv : Nat → Nat} (hS : S < 128) (I : cb_I ρ S k lv) {r : List Nat} {f : Nat} (hp : ro_pt ρ S 0 r) (hf : ro_fr ρ 0 r = some f) (hk : ro_m r ≤ k) : lv (ro_m r) ≤ f := by
  by_cases c : r = []
  · subst c
    have : ro_m [] = 0 := rfl
    rw [this, I.1]
    exact Nat.zero_le _
  · obtain ⟨r', p, e⟩ := list_snoc c
    subst e
    rw [ro_m_snoc]
    refine I.2.2.2 r' p f hp hf ?_
    rw [ro_pt_app, ro_m_fold] at hp
    obtain ⟨h1, h2, h3, -⟩ := hp
    have hr := ro_pt_end hS r' 0 (by omega) (by simp) h1
    rw [ro_m_fold] at hr
    have := ro_or_gt _ hr.1 p h3 (ro_nx_S h2).2
    rw [ro_m_snoc] at hk
    omega
theorem c_canBe {t b : Nat} {h : Hp} {a : RA} (hr : ro_ok a.2) (q : RuR b h a) (hnp : a.1 ≤ 7) (hd : b + 6 < t ∨ t + 1 < b) {S : Nat} (hS : S &&& al_S a = S) : ∃ h' lv, F_X3_canBe t b (iI S) h = some (bI (ro_rows (a.2) S ≠ []), h') ∧ cb_I (a.2) S S lv ∧ lm_ok t h' lv := by
  have hSl := al_S_le hS
  have hS128 : S < 128 := Nat.lt_of_le_of_lt hSl (al_S_lt hnp)
  have hSn : ∀ p, S.testBit p = true → p < a.1 := by
    intro p hp
    have := ro_sub_iff.1 hS p hp
    rw [al_S_tb] at this
    exact of_decide_eq_true this
  unfold F_X3_canBe
  have c1 : ¬ iI (S : Int) < (0 : Int32) := by
    rw [il_0, iI_lt (by omega) (by omega) (by omega) (by omega)]; omega
  have c2 : iI (S : Int) < (128 : Int32) := by
    rw [il_128, iI_lt (by omega) (by omega) (by omega) (by omega)]; omega
  have e0 : (0 : Int32).toNatClampNeg = 0 := by decide
  rw [jn_e, if_neg c1, if_pos c2, j_fill _ _ _ _ (by omega), bd_e, gd_e (by decide), jl_e, e0]
  obtain ⟨h4, e4⟩ : ∃ h4, aS (aV h (t + 1) (fun i => if i < 128 then (49 : Int32) else aG h (t + 1) i)) (t + 1) 0 (0 : Int32) = h4 := ⟨_, rfl⟩
  have f4 : FrX [] [t + 1] h h4 := by
    rw [← e4]
    exact ((FrX.refl _ _ h).aV (by simp) _).aS (by simp) _ _
  have m4 : lm_ok t h4 (fun A => if A = 0 then 0 else 49) := by
    intro A hA
    rw [← e4]
    by_cases c : A = 0
    · subst c
      rw [aG_aS_s]
      rfl
    · rw [aG_aS_j c, aG_aV_s, if_pos hA]
      try dsimp only
      rw [if_neg c]
      rfl
  have I4 : cb_I (a.2) S 0 (fun A => if A = 0 then 0 else 49) := by
    refine ⟨rfl, fun A => by dsimp only; split <;> omega, fun A hA => ?_, fun r p f _ _ hk => absurd hk (Nat.not_lt_zero _)⟩
    dsimp only at hA
    by_cases c : A = 0
    · subst c
      exact ⟨[], trivial, rfl, rfl⟩
    · rw [if_neg c] at hA
      exact absurd rfl hA
  rw [e4]
  refine lp_up (α := Int32 → Hp → Option (Int32 × Hp)) (P := fun k c => ∀ (v : Int32) (h1 : Hp) (lv : Nat → Nat), v = iI k → FrX [] [t + 1] h h1 → lm_ok t h1 lv → cb_I (a.2) S k lv → ∃ h' lv', c v h1 = some (bI (ro_rows (a.2) S ≠ []), h') ∧ cb_I (a.2) S S lv' ∧ lm_ok t h' lv') S (by omega) (fun k c hk ih => ?_) _ h4 _ rfl f4 m4 I4
  intro v h1 lv hv g0 g1 g2
  subst hv
  have q1 : RuR b h1 a := q.fr g0 (by simp) (by simp; omega) (by simp; omega) (by simp; omega) (by simp; omega)
  by_cases z : k < S
  · have nxt := ih z
    have hk128 : k < 128 := by omega
    have hlv := g2.2.1 k
    have nk : nd k S < 128 := nd_128 hk128 _
    simp (maxSteps := 3000000) (implicitDefEqProofs := false) (disch := omega) only [jl_e, jn_e, bd_e, gd_t, iI_add, iI_sub, iI_mul, iI_neg, if_true, if_false, not_true_eq_false, not_false_eq_true, Int.reduceEq, Nat.add_zero, Int.toNat_natCast, iI_cl, iI_lt, iI_eq, gd_in, bI_eq0, bI_eq1, bI_isB, isB_0, isB_1, il_0, il_1, il_2, il_3, il_4, il_5, il_6, il_7, il_8, il_9, il_10, il_12, il_16, il_18, il_24, il_27, il_30, il_31, il_32, il_40, il_47, il_48, il_49, il_55, il_56, il_57, il_59, il_63, il_64, il_96, il_97, il_98, il_99, il_101, il_103, il_104, il_105, il_108, il_109, il_110, il_111, il_112, il_114, il_115, il_116, il_117, il_119, il_122, il_127, il_128, il_200, il_225, il_255, il_256, il_999, il_1575, il_9999, il_65536, il_252645135, il_858993459, il_1431655765, ms_not, nc_0, g1 k hk128]
    rw [if_pos (by omega)]
    -- the step where nothing is done
    have skip : (∀ r p f, ro_pt (a.2) S 0 (r ++ [p]) → ro_fr (a.2) 0 (r ++ [p]) = some f → ro_m r = k → lv (ro_m r ||| 2 ^ p) ≤ f) → ∃ h' lv', c (iI ((k : Int) + 1)) h1 = some (bI (ro_rows (a.2) S ≠ []), h') ∧ cb_I (a.2) S S lv' ∧ lm_ok t h' lv' := by
      intro w
      refine nxt _ h1 lv (iI_cg (by omega)) g0 g1 ⟨g2.1, g2.2.1, g2.2.2.1, fun r p f w1 w2 w3 => ?_⟩
      by_cases u : ro_m r = k
      · exact w r p f w1 w2 u
      · exact g2.2.2.2 r p f w1 w2 (by omega)
    by_cases y : nd k S = 0
    · rw [if_pos y]
      have hkS : k &&& S = k := by
        rw [ro_sub_iff]
        intro i hi
        have := nd_tb k S i
        rw [y, Nat.zero_testBit, hi] at this
        simpa using this.symm
      by_cases x : (lv k : Int) = 49
      · rw [if_pos x]
        refine skip (fun r p f w1 w2 w3 => ?_)
        exfalso
        rw [ro_fr_app] at w2
        cases hf : ro_fr (a.2) 0 r with
        | none => rw [hf] at w2; cases w2
        | some f0 =>
          rw [ro_pt_app] at w1
          have := cb_full hS128 g2 w1.1 hf (by omega)
          have hf48 := ro_fr_le (a.2) r 0 f0 (by omega) hf
          rw [w3] at this
          omega
      · rw [if_neg x]
        have hlv48 : lv k ≤ 48 := by omega
        have hno := c_nextOnes q1 hnp hS128 hk128 hSn
        obtain ⟨n, en⟩ : ∃ n, bm (fun p => ro_nx (a.2) S.testBit k.testBit p) 7 = n := ⟨_, rfl⟩
        have hn : n < 128 := by rw [← en]; exact bm_7 _
        have hntb : ∀ p, p < 7 → n.testBit p = ro_nx (a.2) S.testBit k.testBit p := fun p hp => by rw [← en, bm_tb, decide_eq_true hp, Bool.true_and]
        rw [en] at hno
        rw [hno, bd_e]
        refine lp_up (α := Int32 → Hp → Option (Int32 × Hp)) (P := fun p c14 => ∀ (v : Int32) (h2 : Hp) (lv2 : Nat → Nat), v = iI p → FrX [] [t + 1] h h2 → lm_ok t h2 lv2 → cb_I (a.2) S k lv2 → lv2 k = lv k → (∀ p', p' < p → ro_nx (a.2) S.testBit k.testBit p' = true → ro_f (ro_w a.2 p') (lv k) < 48 → lv2 (k ||| 2 ^ p') ≤ ro_f (ro_w a.2 p') (lv k) + 1) → ∃ h' lv', c14 v h2 = some (bI (ro_rows (a.2) S ≠ []), h') ∧ cb_I (a.2) S S lv' ∧ lm_ok t h' lv') 7 (by omega) (fun p c14 hp jh => ?_) _ h1 lv rfl g0 g1 g2 rfl (fun p' hp' => absurd hp' (Nat.not_lt_zero _))
        intro v h2 lv2 hv j0 j1 j2 j3 j4
        subst hv
        have q2 : RuR b h2 a := q.fr j0 (by simp) (by simp; omega) (by simp; omega) (by simp; omega) (by simp; omega)
        by_cases zp : p < 7
        · have nx2 := jh zp
          simp (maxSteps := 3000000) (implicitDefEqProofs := false) (disch := omega) only [jl_e, jn_e, bd_e, gd_t, iI_add, iI_sub, iI_mul, iI_neg, if_true, if_false, not_true_eq_false, not_false_eq_true, Int.reduceEq, Nat.add_zero, Int.toNat_natCast, iI_cl, iI_lt, iI_eq, gd_in, bI_eq0, bI_eq1, bI_isB, isB_0, isB_1, il_0, il_1, il_2, il_3, il_4, il_5, il_6, il_7, il_8, il_9, il_10, il_12, il_16, il_18, il_24, il_27, il_30, il_31, il_32, il_40, il_47, il_48, il_49, il_55, il_56, il_57, il_59, il_63, il_64, il_96, il_97, il_98, il_99, il_101, il_103, il_104, il_105, il_108, il_109, il_110, il_111, il_112, il_114, il_115, il_116, il_117, il_119, il_122, il_127, il_128, il_200, il_225, il_255, il_256, il_999, il_1575, il_9999, il_65536, il_252645135, il_858993459, il_1431655765, c_hasBit hn (show p < 8 by omega), hntb p zp, j1 k hk128, j3]
          rw [if_pos (by omega)]
          by_cases y1 : ro_nx (a.2) S.testBit k.testBit p = true
          · rw [if_neg (fun w => w y1)]
            have hSp := (ro_nx_S y1).1
            have hkp := (ro_nx_S y1).2
            have hpn := hSn p hSp
            have hx := ro_or_lt k hk128 p zp
            have hgt := ro_or_gt k hk128 p zp hkp
            rw [c_freeBehind q2 hnp hpn hlv48, bd_e]
            by_cases y2 : ro_f (ro_w a.2 p) (lv k) < 48
            · have hl2 := j2.2.1 (k ||| 2 ^ p)
              rw [if_pos y2]
              simp (maxSteps := 3000000) (implicitDefEqProofs := false) (disch := omega) only [jl_e, jn_e, bd_e, gd_t, iI_add, iI_sub, iI_mul, iI_neg, if_true, if_false, not_true_eq_false, not_false_eq_true, Int.reduceEq, Nat.add_zero, Int.toNat_natCast, iI_cl, iI_lt, iI_eq, gd_in, bI_eq0, bI_eq1, bI_isB, isB_0, isB_1, il_0, il_1, il_2, il_3, il_4, il_5, il_6, il_7, il_8, il_9, il_10, il_12, il_16, il_18, il_24, il_27, il_30, il_31, il_32, il_40, il_47, il_48, il_49, il_55, il_56, il_57, il_59, il_63, il_64, il_96, il_97, il_98, il_99, il_101, il_103, il_104, il_105, il_108, il_109, il_110, il_111, il_112, il_114, il_115, il_116, il_117, il_119, il_122, il_127, il_128, il_200, il_225, il_255, il_256, il_999, il_1575, il_9999, il_65536, il_252645135, il_858993459, il_1431655765, ms_shl p (by omega), ms_or, j1 _ hx, c_min (show -2147483648 ≤ ((lv2 (k ||| 2 ^ p) : Nat) : Int) ∧ ((lv2 (k ||| 2 ^ p) : Nat) : Int) < 2147483648 by omega) (show -2147483648 ≤ ((ro_f (ro_w a.2 p) (lv k) + 1 : Nat) : Int) ∧ ((ro_f (ro_w a.2 p) (lv k) + 1 : Nat) : Int) < 2147483648 by omega)]
              rw [if_neg (by omega), if_pos (by omega)]
              refine nx2 _ _ (fun A => if A = k ||| 2 ^ p then (if lv2 (k ||| 2 ^ p) ≤ ro_f (ro_w a.2 p) (lv k) + 1 then lv2 (k ||| 2 ^ p) else ro_f (ro_w a.2 p) (lv k) + 1) else lv2 A) (iI_cg (by omega)) (j0.aS (by simp) _ _) (fun A hA => ?_) ⟨?_, fun A => ?_, fun A hA => ?_, fun r p2 f w1 w2 w3 => ?_⟩ ?_ (fun p' hp' w1 w2 => ?_)
              · try dsimp only
                by_cases u : A = k ||| 2 ^ p
                · subst u
                  rw [aG_aS_s, if_pos rfl]
                  apply iI_cg
                  by_cases u2 : lv2 (k ||| 2 ^ p) ≤ ro_f (ro_w a.2 p) (lv k) + 1
                  · rw [if_pos u2, if_pos (by omega)]
                  · rw [if_neg u2, if_neg (by omega)]
                · rw [aG_aS_j u, if_neg u]
                  exact j1 A hA
              · try dsimp only
                rw [if_neg (by omega)]; exact j2.1
              · try dsimp only
                have := j2.2.1 A
                split
                · split <;> omega
                · omega
              · dsimp only at hA ⊢
                by_cases u : A = k ||| 2 ^ p
                · rw [if_pos u] at hA ⊢
                  by_cases u2 : lv2 (k ||| 2 ^ p) ≤ ro_f (ro_w a.2 p) (lv k) + 1
                  · rw [if_pos u2] at hA ⊢
                    rw [u]
                    exact j2.2.2.1 _ hA
                  · rw [if_neg u2]
                    obtain ⟨r, r1, r2, r3⟩ := g2.2.2.1 k (by omega)
                    refine ⟨r ++ [p], ?_, ?_, ?_⟩
                    · rw [ro_pt_app, ro_m_fold, r2]
                      exact ⟨r1, y1, zp, trivial⟩
                    · rw [ro_m_snoc, r2, u]
                    · rw [ro_fr_snoc r3]
                      show (if ro_f (ro_w a.2 p) (lv k) < 48 then some (ro_f (ro_w a.2 p) (lv k) + 1) else none) = _
                      rw [if_pos y2]
                · rw [if_neg u] at hA ⊢
                  exact j2.2.2.1 A hA
              · try dsimp only
                have := j2.2.2.2 r p2 f w1 w2 w3
                by_cases u : ro_m r ||| 2 ^ p2 = k ||| 2 ^ p
                · rw [if_pos u]
                  rw [u] at this
                  split <;> omega
                · rw [if_neg u]; exact this
              · try dsimp only
                rw [if_neg (by omega)]; exact j3
              · try dsimp only
                by_cases u2 : p' = p
                · subst u2
                  rw [if_pos rfl]
                  split <;> omega
                · have := j4 p' (by omega) w1 w2
                  by_cases u : k ||| 2 ^ p' = k ||| 2 ^ p
                  · rw [if_pos u]
                    rw [u] at this
                    split <;> omega
                  · rw [if_neg u]; exact this
            · rw [if_neg y2]
              simp (maxSteps := 3000000) (implicitDefEqProofs := false) (disch := omega) only [jl_e, jn_e, bd_e, gd_t, iI_add, iI_sub, iI_mul, iI_neg, if_true, if_false, not_true_eq_false, not_false_eq_true, Int.reduceEq, Nat.add_zero, Int.toNat_natCast, iI_cl, iI_lt, iI_eq, gd_in, bI_eq0, bI_eq1, bI_isB, isB_0, isB_1, il_0, il_1, il_2, il_3, il_4, il_5, il_6, il_7, il_8, il_9, il_10, il_12, il_16, il_18, il_24, il_27, il_30, il_31, il_32, il_40, il_47, il_48, il_49, il_55, il_56, il_57, il_59, il_63, il_64, il_96, il_97, il_98, il_99, il_101, il_103, il_104, il_105, il_108, il_109, il_110, il_111, il_112, il_114, il_115, il_116, il_117, il_119, il_122, il_127, il_128, il_200, il_225, il_255, il_256, il_999, il_1575, il_9999, il_65536, il_252645135, il_858993459, il_1431655765, ms_shl p (by omega), ms_or]
              refine nx2 _ _ lv2 (iI_cg (by omega)) j0 j1 j2 j3 (fun p' hp' w1 w2 => ?_)
              by_cases u : p' = p
              · subst u; exact absurd w2 y2
              · exact j4 p' (by omega) w1 w2
          · rw [if_pos y1]
            refine nx2 _ _ lv2 (iI_cg (by omega)) j0 j1 j2 j3 (fun p' hp' w1 w2 => ?_)
            by_cases u : p' = p
            · subst u; exact absurd w1 y1
            · exact j4 p' (by omega) w1 w2
        · simp (maxSteps := 3000000) (implicitDefEqProofs := false) (disch := omega) only [jl_e, jn_e, bd_e, gd_t, iI_add, iI_sub, iI_mul, iI_neg, if_true, if_false, not_true_eq_false, not_false_eq_true, Int.reduceEq, Nat.add_zero, Int.toNat_natCast, iI_cl, iI_lt, iI_eq, gd_in, bI_eq0, bI_eq1, bI_isB, isB_0, isB_1, il_0, il_1, il_2, il_3, il_4, il_5, il_6, il_7, il_8, il_9, il_10, il_12, il_16, il_18, il_24, il_27, il_30, il_31, il_32, il_40, il_47, il_48, il_49, il_55, il_56, il_57, il_59, il_63, il_64, il_96, il_97, il_98, il_99, il_101, il_103, il_104, il_105, il_108, il_109, il_110, il_111, il_112, il_114, il_115, il_116, il_117, il_119, il_122, il_127, il_128, il_200, il_225, il_255, il_256, il_999, il_1575, il_9999, il_65536, il_252645135, il_858993459, il_1431655765]
          rw [if_neg (by omega)]
          refine nxt _ _ lv2 (iI_cg (by omega)) j0 j1 ⟨j2.1, j2.2.1, j2.2.2.1, fun r p2 f w1 w2 w3 => ?_⟩
          by_cases u : ro_m r = k
          · have w1' := w1
            rw [ro_pt_app, ro_m_fold, u] at w1'
            obtain ⟨b1, b2, b3, -⟩ := w1'
            cases hf : ro_fr (a.2) 0 r with
            | none => rw [ro_fr_app, hf] at w2; cases w2
            | some f0 =>
              have hle := cb_full hS128 g2 b1 hf (by omega)
              rw [u] at hle ⊢
              rw [ro_fr_snoc hf] at w2
              have w2' : (if ro_f (ro_w a.2 p2) f0 < 48 then some (ro_f (ro_w a.2 p2) f0 + 1) else none) = some f := w2
              by_cases u2 : ro_f (ro_w a.2 p2) f0 < 48
              · rw [if_pos u2] at w2'
                have hmono := ro_f_mono (w := ro_w a.2 p2) hle
                have := j4 p2 (by omega) b2 (by omega)
                have e := Option.some.inj w2'
                omega
              · rw [if_neg u2] at w2'
                cases w2'
          · exact j2.2.2.2 r p2 f w1 w2 (by omega)
    · rw [if_neg y]
      refine skip (fun r p f w1 _ w3 => ?_)
      exfalso
      rw [ro_pt_app] at w1
      have hr := ro_pt_end hS128 r 0 (by omega) (by simp) w1.1
      rw [ro_m_fold, w3] at hr
      apply y
      apply Nat.eq_of_testBit_eq
      intro i
      rw [nd_tb, Nat.zero_testBit]
      cases hi : k.testBit i with
      | false => rfl
      | true =>
        rw [ro_sub_iff.1 hr.2.1 i hi]
        rfl
  · have ek : k = S := by omega
    subst ek
    have hlv := g2.2.1 k
    simp (maxSteps := 3000000) (implicitDefEqProofs := false) (disch := omega) only [jl_e, jn_e, bd_e, gd_t, iI_add, iI_sub, iI_mul, iI_neg, if_true, if_false, not_true_eq_false, not_false_eq_true, Int.reduceEq, Nat.add_zero, Int.toNat_natCast, iI_cl, iI_lt, iI_eq, gd_in, bI_eq0, bI_eq1, bI_isB, isB_0, isB_1, il_0, il_1, il_2, il_3, il_4, il_5, il_6, il_7, il_8, il_9, il_10, il_12, il_16, il_18, il_24, il_27, il_30, il_31, il_32, il_40, il_47, il_48, il_49, il_55, il_56, il_57, il_59, il_63, il_64, il_96, il_97, il_98, il_99, il_101, il_103, il_104, il_105, il_108, il_109, il_110, il_111, il_112, il_114, il_115, il_116, il_117, il_119, il_122, il_127, il_128, il_200, il_225, il_255, il_256, il_999, il_1575, il_9999, il_65536, il_252645135, il_858993459, il_1431655765, g1 k hS128]
    rw [if_neg (by omega)]
    refine ⟨h1, lv, ?_, g2, g1⟩
    by_cases x : (lv k : Int) = 49
    · rw [if_pos x, bI_f]
      intro hne
      obtain ⟨l, hl⟩ := List.exists_mem_of_ne_nil _ hne
      obtain ⟨l1, l2, l3⟩ := (ro_rows_mem2 hS128 hr).1 hl
      obtain ⟨f, hf⟩ := Option.isSome_iff_exists.1 l3
      have := cb_full hS128 g2 l1 hf (by omega)
      have hf48 := ro_fr_le (a.2) l 0 f (by omega) hf
      rw [l2] at this
      omega
    · rw [if_neg x, bI_t]
      intro hnil
      obtain ⟨r, r1, r2, r3⟩ := g2.2.2.1 k (by omega)
      have : r ∈ ro_rows (a.2) k := (ro_rows_mem2 hS128 hr).2 ⟨r1, r2, by rw [r3]; rfl⟩
      rw [hnil] at this
      cases this
