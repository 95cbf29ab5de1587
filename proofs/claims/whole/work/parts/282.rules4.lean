-- ===== the class's rules, read whole =====
def al_set (a : Alb) (L : List Pc) : Alb := (a.1, a.2.1, a.2.2.1, L)
theorem al_set_self (a : Alb) : al_set a (al_p a) = a := rfl
/-- what the things ask, in the arrays of the rules at t -/
def ThR (t : Nat) (h : Hp) (a : Alb) : Prop := (∀ p, p < 7 → aG h (t + 2) p = iI (bm (fun q => ro_a (al_r a) q p) 7)) ∧ (∀ i, i < 6 → aG h (t + 4) i = iI (bm (ro_t (al_r a) i) 7) ∧ aG h (t + 5) i = iI (bm (ro_y (al_r a) i) 7))
theorem ah_n_succ (a : Alb) (i q p : Nat) : ah_n a (i + 1) q p = (ah_n a i q p || ah_b a i q p) := by
  unfold ah_n
  rw [List.range_succ, List.any_append]
  simp
theorem c_readThings {t c b : Nat} {h : Hp} {a0 : Alb} {L : List Pc} (hA : AlC c h a0) (hP : PcC b h L) (hok : al_ok (al_set a0 L)) (hn : sG h (64 * t + 1) = iI (al_w a0).length) (hc : c + 9 ≤ t ∨ t + 7 ≤ c) (hb : b + 5 ≤ t ∨ t + 7 ≤ b) : ∃ h', F_X7_readThings t c b h = some ((), h') ∧ ThR t h' (al_set a0 L) := by
  obtain ⟨a, ea⟩ : ∃ a, al_set a0 L = a := ⟨_, rfl⟩
  have ek : al_k a = al_k a0 := by rw [← ea]; rfl
  have ew : al_w a = al_w a0 := by rw [← ea]; rfl
  have ep : al_p a = L := by rw [← ea]; rfl
  have ekd : ∀ i, al_kd a i = al_kd a0 i := fun i => by unfold al_kd; rw [ek]
  rw [ea] at hok ⊢
  have hnp := hA.1.2.1
  have hnt := hA.1.2.2.1
  unfold F_X7_readThings
  rw [j_fill _ _ _ _ (by omega), bd_e, j_fill _ _ _ _ (by omega), bd_e, j_fill _ _ _ _ (by omega), bd_e]
  have f3 : FrX [] [t + 2, t + 4, t + 5] h (aV (aV (aV h (t + 2) (fun i => if i < 7 then (0 : Int32) else aG h (t + 2) i)) (t + 4) (fun i => if i < 6 then (0 : Int32) else aG (aV h (t + 2) (fun i => if i < 7 then (0 : Int32) else aG h (t + 2) i)) (t + 4) i)) (t + 5) (fun i => if i < 6 then (0 : Int32) else aG (aV (aV h (t + 2) (fun i => if i < 7 then (0 : Int32) else aG h (t + 2) i)) (t + 4) (fun i => if i < 6 then (0 : Int32) else aG (aV h (t + 2) (fun i => if i < 7 then (0 : Int32) else aG h (t + 2) i)) (t + 4) i)) (t + 5) i)) :=
    (((FrX.refl _ _ h).aV (by simp) _).aV (by simp) _).aV (by simp) _
  have nA : ∀ k, k ∈ [t + 2, t + 4, t + 5, t + 6] → (k < c ∨ c + 9 ≤ k) := by
    intro k hk
    simp only [List.mem_cons, List.not_mem_nil, or_false] at hk
    omega
  have nB : ∀ k, k ∈ [t + 2, t + 4, t + 5, t + 6] → (k < b ∨ b + 5 ≤ k) := by
    intro k hk
    simp only [List.mem_cons, List.not_mem_nil, or_false] at hk
    omega
  have keep : ∀ h1 h2 : Hp, FrX [] [t + 2, t + 4, t + 5, t + 6] h1 h2 → (AlC c h1 a0 ∧ PcC b h1 L ∧ sG h1 (64 * t + 1) = iI (al_w a0).length) → (AlC c h2 a0 ∧ PcC b h2 L ∧ sG h2 (64 * t + 1) = iI (al_w a0).length) := by
    rintro h1 h2 f ⟨x1, x2, x3⟩
    refine ⟨x1.fr f (fun v hv => absurd hv (by simp)) nA, x2.fr f (by simp) (fun z => by have := nB _ z; omega) (fun z => by have := nB _ z; omega) (fun z => by have := nB _ z; omega) (fun z => by have := nB _ z; omega), (f.sg (by simp)).trans x3⟩
  have f3' := f3.mono (S2 := []) (A2 := [t + 2, t + 4, t + 5, t + 6]) (by simp) (by simp only [List.mem_cons, List.not_mem_nil, or_false]; omega)
  refine lp_up (α := Int32 → Hp → Option (Unit × Hp)) (P := fun i c6 => ∀ h1, (AlC c h1 a0 ∧ PcC b h1 L ∧ sG h1 (64 * t + 1) = iI (al_w a0).length) → (∀ p, p < 7 → aG h1 (t + 2) p = iI (bm (fun q => ah_n a i q p) 7)) → (∀ j, j < 6 → aG h1 (t + 4) j = iI (bm (fun p => decide (j < i) && ro_t (al_r a) j p) 7) ∧ aG h1 (t + 5) j = iI (bm (fun p => decide (j < i) && ro_y (al_r a) j p) 7)) → ∃ h', c6 (iI i) h1 = some ((), h') ∧ ThR t h' a) (al_k a0).length (by omega) (fun i c6 hi ih => ?_) _ (keep _ _ f3' ⟨hA, hP, hn⟩) (fun p hp => ?_) (fun j hj => ?_)
  · intro h1 i0 i1 i2
    by_cases z : i < (al_k a0).length
    · simp (maxSteps := 3000000) (disch := omega) only [jl_e, jn_e, bd_e, gd_t, iI_add, iI_sub, iI_mul, iI_neg, if_true, if_false, not_true_eq_false, not_false_eq_true, Nat.add_zero, Int.toNat_natCast, iI_cl, iI_lt, iI_eq, gd_in, bI_eq0, bI_eq1, bI_isB, isB_0, isB_1, il_0, il_1, il_2, il_3, il_4, il_5, il_6, il_7, il_8, il_9, il_10, il_12, il_16, il_18, il_24, il_27, il_30, il_31, il_32, il_40, il_47, il_48, il_49, il_55, il_56, il_57, il_59, il_63, il_64, il_96, il_97, il_98, il_99, il_101, il_103, il_104, il_105, il_108, il_109, il_110, il_111, il_112, il_114, il_115, il_116, il_117, il_119, il_122, il_127, il_128, il_200, il_225, il_255, il_256, il_999, il_1575, il_9999, il_65536, il_252645135, il_858993459, il_1431655765, i0.1.2.2.1]
      rw [if_pos (by omega)]
      refine lp_up (α := Int32 → Hp → Option (Unit × Hp)) (P := fun k c9 => ∀ h2, FrX [] [t + 6] h1 h2 → (∀ p, p < k → aG h2 (t + 6) p = iI (th_v a p i)) → ∃ h', c9 (iI k) h2 = some ((), h') ∧ ThR t h' a) 7 (by omega) (fun k c9 hk jh => ?_) _ (FrX.refl _ _ _) (fun p hp => absurd hp (Nat.not_lt_zero p))
      intro h2 g0 g1
      have k0 := keep _ _ (g0.mono (S2 := []) (A2 := [t + 2, t + 4, t + 5, t + 6]) (by simp) (by simp)) i0
      by_cases y : k < 7
      · have e := c_valueOf k0.2.1 (a := (k : Int)) (b := 2 + (i : Int)) (by omega) (by omega)
        rw [if_pos (by omega), show ((k : Int) * 8 + (2 + (i : Int))).toNat = 8 * k + (2 + i) by omega] at e
        have e' : F_X5_valueOf b (iI k) (iI (2 + (i : Int))) h2 = some (iI (th_v a k i), h2) := by
          rw [e]
          unfold th_v
          rw [ep]
        simp (maxSteps := 3000000) (disch := omega) only [jl_e, jn_e, bd_e, gd_t, iI_add, iI_sub, iI_mul, iI_neg, if_true, if_false, not_true_eq_false, not_false_eq_true, Nat.add_zero, Int.toNat_natCast, iI_cl, iI_lt, iI_eq, gd_in, bI_eq0, bI_eq1, bI_isB, isB_0, isB_1, il_0, il_1, il_2, il_3, il_4, il_5, il_6, il_7, il_8, il_9, il_10, il_12, il_16, il_18, il_24, il_27, il_30, il_31, il_32, il_40, il_47, il_48, il_49, il_55, il_56, il_57, il_59, il_63, il_64, il_96, il_97, il_98, il_99, il_101, il_103, il_104, il_105, il_108, il_109, il_110, il_111, il_112, il_114, il_115, il_116, il_117, il_119, il_122, il_127, il_128, il_200, il_225, il_255, il_256, il_999, il_1575, il_9999, il_65536, il_252645135, il_858993459, il_1431655765, e']
        rw [if_pos (by omega)]
        refine jh y _ (g0.aS (by simp) _ _) (fun p hp => ?_)
        by_cases x : p = k
        · subst x; rw [aG_aS_s]
        · rw [aG_aS_j x]; exact g1 p (by omega)
      · have e7 : k = 7 := by omega
        subst e7
        have ekk := c_kindOf k0.1 (p := (i : Int)) (by omega)
        rw [if_pos (by omega), Int.toNat_natCast] at ekk
        have hk3 : al_kd a0 i ≤ 3 := hA.1.2.2.2.2.1 i z
        have hv : ∀ p, p < 7 → aG h2 (t + 6) p = iI (th_v a p i) ∧ -1 ≤ th_v a p i ∧ th_v a p i ≤ 9 := fun p hp => ⟨g1 p hp, (th_v_rng hok p i hp (by omega)).1, (th_v_rng hok p i hp (by omega)).2.1⟩
        have hf : ∀ p, p < 7 → aG h2 (t + 2) p = iI (bm (fun q => ah_n a i q p) 7) := fun p hp => (g0.ag (by simp) p).trans (i1 p hp)
        simp (maxSteps := 3000000) (disch := omega) only [jl_e, jn_e, bd_e, gd_t, iI_add, iI_sub, iI_mul, iI_neg, if_true, if_false, not_true_eq_false, not_false_eq_true, Nat.add_zero, Int.toNat_natCast, iI_cl, iI_lt, iI_eq, gd_in, bI_eq0, bI_eq1, bI_isB, isB_0, isB_1, il_0, il_1, il_2, il_3, il_4, il_5, il_6, il_7, il_8, il_9, il_10, il_12, il_16, il_18, il_24, il_27, il_30, il_31, il_32, il_40, il_47, il_48, il_49, il_55, il_56, il_57, il_59, il_63, il_64, il_96, il_97, il_98, il_99, il_101, il_103, il_104, il_105, il_108, il_109, il_110, il_111, il_112, il_114, il_115, il_116, il_117, il_119, il_122, il_127, il_128, il_200, il_225, il_255, il_256, il_999, il_1575, il_9999, il_65536, il_252645135, il_858993459, il_1431655765, ekk]
        rw [if_neg (by omega)]
        by_cases w : al_kd a0 i = 3
        · rw [if_pos (by omega)]
          obtain ⟨h3, e3, e4⟩ := c_readWear (t := t) (h := h2) (v := fun p => th_v a p i) hv hf
          have fr := fr_X7_readWear _ _ _ _ e3
          simp (maxSteps := 3000000) (disch := omega) only [jl_e, jn_e, bd_e, gd_t, iI_add, iI_sub, iI_mul, iI_neg, if_true, if_false, not_true_eq_false, not_false_eq_true, Nat.add_zero, Int.toNat_natCast, iI_cl, iI_lt, iI_eq, gd_in, bI_eq0, bI_eq1, bI_isB, isB_0, isB_1, il_0, il_1, il_2, il_3, il_4, il_5, il_6, il_7, il_8, il_9, il_10, il_12, il_16, il_18, il_24, il_27, il_30, il_31, il_32, il_40, il_47, il_48, il_49, il_55, il_56, il_57, il_59, il_63, il_64, il_96, il_97, il_98, il_99, il_101, il_103, il_104, il_105, il_108, il_109, il_110, il_111, il_112, il_114, il_115, il_116, il_117, il_119, il_122, il_127, il_128, il_200, il_225, il_255, il_256, il_999, il_1575, il_9999, il_65536, il_252645135, il_858993459, il_1431655765, e3]
          refine ih z h3 (keep _ _ (fr.mono (by simp) (by simp)) k0) (fun p hp => ?_) (fun j hj => ?_)
          · rw [e4 p hp]
            congr 2
            apply bm_congr
            intro q hq
            rw [ah_n_succ]
            congr 1
            unfold ah_b
            rw [ekd, w]
            have r1 := hv p hp
            have r2 := hv q hq
            by_cases x1 : th_v a q i = -1
            · simp [x1]
            · by_cases x2 : th_v a p i = -1
              · simp [x2]; omega
              · have b1 : (th_v a q i != -1) = true := bne_iff_ne.2 x1
                have b2 : (th_v a p i != -1) = true := bne_iff_ne.2 x2
                rw [b1, b2]
                simp
          · rw [fr.ag (by simp), fr.ag (by simp), g0.ag (by simp), g0.ag (by simp), (i2 j hj).1, (i2 j hj).2]
            have e5 : ∀ p, (decide (j < i) && ro_t (al_r a) j p) = (decide (j < i + 1) && ro_t (al_r a) j p) := by
              intro p
              by_cases x : j = i
              · subst x
                have : ro_t (al_r a) j p = false := by
                  show (decide _ && (al_kd a j == 2) && _) = false
                  rw [ekd, w]; simp
                rw [this]; simp
              · rw [show decide (j < i + 1) = decide (j < i) from decide_eq_decide.2 (by omega)]
            have e6 : ∀ p, (decide (j < i) && ro_y (al_r a) j p) = (decide (j < i + 1) && ro_y (al_r a) j p) := by
              intro p
              by_cases x : j = i
              · subst x
                have : ro_y (al_r a) j p = false := by
                  show (decide _ && (al_kd a j == 2) && _) = false
                  rw [ekd, w]; simp
                rw [this]; simp
              · rw [show decide (j < i + 1) = decide (j < i) from decide_eq_decide.2 (by omega)]
            simp only [e5, e6]
            exact ⟨trivial, trivial⟩
        · rw [if_neg (by omega)]
          have hv2 : ∀ p, p < 7 → aG h2 (t + 6) p = iI (th_v a p i) ∧ -1 ≤ th_v a p i ∧ th_v a p i ≤ 1 ∧ ((al_w a0).length ≤ p → th_v a p i = -1) := by
            intro p hp
            have r := th_v_rng hok p i hp (by omega)
            exact ⟨g1 p hp, r.1, r.2.2.1 (by rw [ekd]; exact w), by rw [← ew]; exact r.2.2.2.1⟩
          obtain ⟨h3, e3, e4, e5, e6⟩ := c_readThing (t := t) (h := h2) (np := (al_w a0).length) (k := al_kd a0 i) (i := i) (v := fun p => th_v a p i) k0.2.2 hnp (by omega) (by omega) hv2 hf
          have fr := fr_X7_readThing _ _ _ _ _ _ e3
          simp (maxSteps := 3000000) (disch := omega) only [jl_e, jn_e, bd_e, gd_t, iI_add, iI_sub, iI_mul, iI_neg, if_true, if_false, not_true_eq_false, not_false_eq_true, Nat.add_zero, Int.toNat_natCast, iI_cl, iI_lt, iI_eq, gd_in, bI_eq0, bI_eq1, bI_isB, isB_0, isB_1, il_0, il_1, il_2, il_3, il_4, il_5, il_6, il_7, il_8, il_9, il_10, il_12, il_16, il_18, il_24, il_27, il_30, il_31, il_32, il_40, il_47, il_48, il_49, il_55, il_56, il_57, il_59, il_63, il_64, il_96, il_97, il_98, il_99, il_101, il_103, il_104, il_105, il_108, il_109, il_110, il_111, il_112, il_114, il_115, il_116, il_117, il_119, il_122, il_127, il_128, il_200, il_225, il_255, il_256, il_999, il_1575, il_9999, il_65536, il_252645135, il_858993459, il_1431655765, e3]
          refine ih z h3 (keep _ _ (fr.mono (by simp) (by simp)) k0) (fun p hp => ?_) (fun j hj => ?_)
          · rw [e4 p hp]
            congr 2
            apply bm_congr
            intro q hq
            rw [ah_n_succ]
            congr 1
            unfold ah_b
            rw [ekd]
          · rw [e5 j hj, e6 j hj, g0.ag (by simp), g0.ag (by simp), (i2 j hj).1, (i2 j hj).2]
            have hro : ∀ p, ro_t (al_r a) j p = (decide (j < (al_k a0).length) && (al_kd a0 j == 2) && (th_v a p j == 1)) := fun p => by
              show (decide (j < (al_k a).length) && (al_kd a j == 2) && _) = _
              rw [ekd, ek]
            have hro2 : ∀ p, ro_y (al_r a) j p = (decide (j < (al_k a0).length) && (al_kd a0 j == 2) && (th_v a p j == 0)) := fun p => by
              show (decide (j < (al_k a).length) && (al_kd a j == 2) && _) = _
              rw [ekd, ek]
            simp only [hro, hro2]
            by_cases x : j = i
            · subst x
              by_cases y2 : al_kd a0 j = 2
              · rw [if_pos ⟨rfl, y2⟩, if_pos ⟨rfl, y2⟩]
                simp [y2, z]
              · rw [if_neg (fun u => y2 u.2), if_neg (fun u => y2 u.2)]
                have b1 : (al_kd a0 j == 2) = false := beq_eq_false_iff_ne.2 y2
                simp [b1]
            · rw [if_neg (fun u => x u.1), if_neg (fun u => x u.1), show decide (j < i + 1) = decide (j < i) from decide_eq_decide.2 (by omega)]
              refine ⟨?_, ?_⟩ <;> first | rfl | trivial
    · simp (maxSteps := 3000000) (disch := omega) only [jl_e, jn_e, bd_e, gd_t, iI_add, iI_sub, iI_mul, iI_neg, if_true, if_false, not_true_eq_false, not_false_eq_true, Nat.add_zero, Int.toNat_natCast, iI_cl, iI_lt, iI_eq, gd_in, bI_eq0, bI_eq1, bI_isB, isB_0, isB_1, il_0, il_1, il_2, il_3, il_4, il_5, il_6, il_7, il_8, il_9, il_10, il_12, il_16, il_18, il_24, il_27, il_30, il_31, il_32, il_40, il_47, il_48, il_49, il_55, il_56, il_57, il_59, il_63, il_64, il_96, il_97, il_98, il_99, il_101, il_103, il_104, il_105, il_108, il_109, il_110, il_111, il_112, il_114, il_115, il_116, il_117, il_119, il_122, il_127, il_128, il_200, il_225, il_255, il_256, il_999, il_1575, il_9999, il_65536, il_252645135, il_858993459, il_1431655765, i0.1.2.2.1]
      rw [if_neg (by omega)]
      have ei : i = (al_k a).length := by rw [ek]; omega
      refine ⟨_, rfl, fun p hp => ?_, fun j hj => ?_⟩
      · rw [i1 p hp, ei]
        rfl
      · rw [(i2 j hj).1, (i2 j hj).2, ei]
        have e5 : ∀ p, (decide (j < (al_k a).length) && ro_t (al_r a) j p) = ro_t (al_r a) j p := by
          intro p
          show (decide _ && (decide _ && _ && _)) = (decide _ && _ && _)
          cases decide (j < (al_k a).length) <;> simp
        have e6 : ∀ p, (decide (j < (al_k a).length) && ro_y (al_r a) j p) = ro_y (al_r a) j p := by
          intro p
          show (decide _ && (decide _ && _ && _)) = (decide _ && _ && _)
          cases decide (j < (al_k a).length) <;> simp
        simp only [e5, e6]
        refine ⟨?_, ?_⟩ <;> first | rfl | trivial
  · simp (maxSteps := 3000000) (disch := omega) only [jl_e, jn_e, bd_e, gd_t, iI_add, iI_sub, iI_mul, iI_neg, if_true, if_false, not_true_eq_false, not_false_eq_true, Nat.add_zero, Int.toNat_natCast, iI_cl, iI_lt, iI_eq, gd_in, bI_eq0, bI_eq1, bI_isB, isB_0, isB_1, il_0, il_1, il_2, il_3, il_4, il_5, il_6, il_7, il_8, il_9, il_10, il_12, il_16, il_18, il_24, il_27, il_30, il_31, il_32, il_40, il_47, il_48, il_49, il_55, il_56, il_57, il_59, il_63, il_64, il_96, il_97, il_98, il_99, il_101, il_103, il_104, il_105, il_108, il_109, il_110, il_111, il_112, il_114, il_115, il_116, il_117, il_119, il_122, il_127, il_128, il_200, il_225, il_255, il_256, il_999, il_1575, il_9999, il_65536, il_252645135, il_858993459, il_1431655765, aG_aS_s, aG_aS_j, aG_aS_k, aG_aV_s, aG_aV_k, aG_sS, aG_lS, aG_lV, aG_tS, aG_oS, sG_aS, sG_lS, sG_aV, sG_lV, sG_tS, sG_oS, sG_sS_s, sG_sS_n, lG_lS_s, lG_lS_j, lG_lS_k, lG_lV_s, lG_lV_k, lG_sS, lG_aS, lG_aV, lG_tS, lG_oS, tG_sS, tG_aS, tG_aV, tG_lS, tG_lV, tG_tS_s, tG_tS_n, oG_sS, oG_aS, oG_aV, oG_lS, oG_lV, oG_oS_s]
    simp only [hp, if_true]
    have : ∀ q, ah_n a 0 q p = false := fun q => rfl
    simp only [this, bm_f]
    rfl
  · simp (maxSteps := 3000000) (disch := omega) only [jl_e, jn_e, bd_e, gd_t, iI_add, iI_sub, iI_mul, iI_neg, if_true, if_false, not_true_eq_false, not_false_eq_true, Nat.add_zero, Int.toNat_natCast, iI_cl, iI_lt, iI_eq, gd_in, bI_eq0, bI_eq1, bI_isB, isB_0, isB_1, il_0, il_1, il_2, il_3, il_4, il_5, il_6, il_7, il_8, il_9, il_10, il_12, il_16, il_18, il_24, il_27, il_30, il_31, il_32, il_40, il_47, il_48, il_49, il_55, il_56, il_57, il_59, il_63, il_64, il_96, il_97, il_98, il_99, il_101, il_103, il_104, il_105, il_108, il_109, il_110, il_111, il_112, il_114, il_115, il_116, il_117, il_119, il_122, il_127, il_128, il_200, il_225, il_255, il_256, il_999, il_1575, il_9999, il_65536, il_252645135, il_858993459, il_1431655765, aG_aS_s, aG_aS_j, aG_aS_k, aG_aV_s, aG_aV_k, aG_sS, aG_lS, aG_lV, aG_tS, aG_oS, sG_aS, sG_lS, sG_aV, sG_lV, sG_tS, sG_oS, sG_sS_s, sG_sS_n, lG_lS_s, lG_lS_j, lG_lS_k, lG_lV_s, lG_lV_k, lG_sS, lG_aS, lG_aV, lG_tS, lG_oS, tG_sS, tG_aS, tG_aV, tG_lS, tG_lV, tG_tS_s, tG_tS_n, oG_sS, oG_aS, oG_aV, oG_lS, oG_lV, oG_oS_s]
    simp only [hj, if_true, Nat.not_lt_zero, decide_false, Bool.false_and, bm_f]
    refine ⟨?_, ?_⟩ <;> first | rfl | trivial
