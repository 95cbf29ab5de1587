-- ===== the class's Doubts: knot and loose =====
def kn_is (a : Alb) (z : Int) : Prop := (al_or a ≠ [] → z = -1) ∧ (al_or a = [] → ∃ s : Nat, z = s ∧ 1 ≤ s ∧ s ≤ al_N a ∧ ro_rows (al_r a) s = [] ∧ ∀ s', 1 ≤ s' → s' ≤ al_N a → ro_rows (al_r a) s' = [] → ro_ct s < ro_ct s' ∨ (ro_ct s = ro_ct s' ∧ s ≤ s'))
theorem kn_one {a : Alb} {z z' : Int} (h : kn_is a z) (h' : kn_is a z') : z = z' := by
  by_cases c : al_or a = []
  · obtain ⟨s, e, s1, s2, s3, s4⟩ := h.2 c
    obtain ⟨s', e', s1', s2', s3', s4'⟩ := h'.2 c
    have a1 := s4 s' s1' s2' s3'
    have a2 := s4' s s1 s2 s3
    omega
  · rw [h.1 c, h'.1 c]
theorem kn_rng {a : Alb} {z : Int} (hnp : (al_w a).length ≤ 7) (h : kn_is a z) : -1 ≤ z ∧ z < 128 ∧ (z = -1 ∨ 1 ≤ z) := by
  have hN := all_lt hnp
  by_cases c : al_or a = []
  · obtain ⟨s, e, s1, s2, -⟩ := h.2 c
    have : al_N a = 2 ^ (al_w a).length - 1 := rfl
    omega
  · have := h.1 c
    omega
theorem ro_rows_0 (ρ : RD) : ro_rows ρ 0 ≠ [] := by
  have h0 : ro_ct 0 = 0 := by decide +kernel
  unfold ro_rows
  rw [h0]
  show ([[]] : List (List Nat)) ≠ []
  simp
theorem bI_zero (c : Prop) [Decidable c] : (bI c = 0) = ¬ c := bI_eq0 c
theorem c_seekKnot {h : Hp} {a : Alb} (hnp : (al_w a).length ≤ 7) (q : RuC 75 h a) : ∃ h' z, F_X1_seekKnot 75 h = some (iI z, h') ∧ kn_is a z := by
  have hN : al_N a < 128 := all_lt hnp
  have qx : RuR 75 h (al_x a) := q
  have c1 : F_X7_everyone 75 h = some (iI (al_N a), h) := c_everyone qx hnp
  obtain ⟨h1, lv, e1, -, -⟩ := c_canBe (a := al_x a) al_r_ok qx hnp (t := 109) (by omega) (S := al_N a) (al_S_sub (a := al_x a) (Nat.le_refl _))
  have f1 := fr_X3_canBe _ _ _ _ _ _ e1
  unfold F_X1_seekKnot
  rw [c1, bd_e, e1, bd_e]
  have eor : ro_rows (al_x a).2 (al_N a) = al_or a := rfl
  rw [eor]
  by_cases c : al_or a ≠ []
  · rw [if_neg (by rw [bI_zero]; exact fun w => w c)]
    exact ⟨h1, -1, rfl, fun _ => rfl, fun w => absurd w c⟩
  · rw [if_pos (by rw [bI_zero]; exact c)]
    have hnil : al_or a = [] := Classical.byContradiction fun n => c n
    have q1 : RuC 75 h1 a := q.fr f1 (by decide) (by decide) (by decide) (by decide) (by decide)
    have hge : 1 ≤ al_N a := by
      refine Nat.pos_of_ne_zero (fun w => ?_)
      have := ro_rows_0 (al_r a)
      unfold al_or at hnil
      rw [w] at hnil
      exact this hnil
    refine lp_up (α := Int32 → Hp → Option (Int32 × Hp)) (P := fun i c7 => ∀ (v : Int32) (h2 : Hp), v = iI ((i : Int) + 1) → RuC 75 h2 a → (∀ s', 1 ≤ s' → s' ≤ al_N a → ro_rows (al_r a) s' = [] → i < ro_ct s') → ∃ h' z, c7 v h2 = some (iI z, h') ∧ kn_is a z) 7 (by omega) (fun i c7 hi ih => ?_) _ h1 rfl q1 (fun s' g1 g2 g3 => ?_)
    · intro v h2 hv q2 k1
      subst hv
      by_cases z : i < 7
      · simp (maxSteps := 3000000) (implicitDefEqProofs := false) (disch := omega) only [jl_e, jn_e, bd_e, gd_t, iI_add, iI_sub, iI_mul, iI_neg, if_true, if_false, not_true_eq_false, not_false_eq_true, Int.reduceEq, Nat.add_zero, Int.toNat_natCast, iI_cl, iI_lt, iI_eq, gd_in, bI_eq0, bI_eq1, bI_isB, isB_0, isB_1, il_0, il_1, il_2, il_3, il_4, il_5, il_6, il_7, il_8, il_9, il_10, il_12, il_16, il_18, il_24, il_27, il_30, il_31, il_32, il_40, il_47, il_48, il_49, il_55, il_56, il_57, il_59, il_63, il_64, il_96, il_97, il_98, il_99, il_101, il_103, il_104, il_105, il_108, il_109, il_110, il_111, il_112, il_114, il_115, il_116, il_117, il_119, il_122, il_127, il_128, il_200, il_225, il_255, il_256, il_999, il_1575, il_9999, il_65536, il_252645135, il_858993459, il_1431655765]
        rw [if_neg (by omega)]
        refine lp_up (α := Int32 → Hp → Option (Int32 × Hp)) (P := fun j c10 => ∀ (v : Int32) (h3 : Hp), v = iI ((j : Int) + 1) → RuC 75 h3 a → (∀ s', 1 ≤ s' → s' ≤ j → ro_rows (al_r a) s' = [] → i + 1 < ro_ct s') → ∃ h' z, c10 v h3 = some (iI z, h') ∧ kn_is a z) (al_N a) (by omega) (fun j c10 hj jh => ?_) _ h2 rfl q2 (fun s' g1 g2 => by omega)
        intro v h3 hv q3 k2
        subst hv
        by_cases y : j < al_N a
        · have nx2 := jh y
          have ebc := c_bitCount (a := j + 1) (by omega) h3
          rw [show (((j + 1 : Nat)) : Int) = (j : Int) + 1 by omega] at ebc
          have hct := ro_ct_le (j + 1) (by omega)
          simp (maxSteps := 3000000) (implicitDefEqProofs := false) (disch := omega) only [jl_e, jn_e, bd_e, gd_t, iI_add, iI_sub, iI_mul, iI_neg, if_true, if_false, not_true_eq_false, not_false_eq_true, Int.reduceEq, Nat.add_zero, Int.toNat_natCast, iI_cl, iI_lt, iI_eq, gd_in, bI_eq0, bI_eq1, bI_isB, isB_0, isB_1, il_0, il_1, il_2, il_3, il_4, il_5, il_6, il_7, il_8, il_9, il_10, il_12, il_16, il_18, il_24, il_27, il_30, il_31, il_32, il_40, il_47, il_48, il_49, il_55, il_56, il_57, il_59, il_63, il_64, il_96, il_97, il_98, il_99, il_101, il_103, il_104, il_105, il_108, il_109, il_110, il_111, il_112, il_114, il_115, il_116, il_117, il_119, il_122, il_127, il_128, il_200, il_225, il_255, il_256, il_999, il_1575, il_9999, il_65536, il_252645135, il_858993459, il_1431655765, ebc]
          rw [if_neg (by omega)]
          by_cases w : ro_ct (j + 1) = i + 1
          · rw [if_pos (by omega)]
            have qx3 : RuR 75 h3 (al_x a) := q3
            obtain ⟨h4, lv, e4, -, -⟩ := c_canBe (a := al_x a) al_r_ok qx3 hnp (t := 109) (by omega) (S := j + 1) (al_S_sub (a := al_x a) (show j + 1 ≤ al_N a by omega))
            have f4 := fr_X3_canBe _ _ _ _ _ _ e4
            rw [show (((j + 1 : Nat)) : Int) = (j : Int) + 1 by omega] at e4
            have eor2 : ro_rows (al_x a).2 (j + 1) = ro_rows (al_r a) (j + 1) := rfl
            rw [eor2] at e4
            simp (maxSteps := 3000000) (implicitDefEqProofs := false) (disch := omega) only [jl_e, jn_e, bd_e, gd_t, iI_add, iI_sub, iI_mul, iI_neg, if_true, if_false, not_true_eq_false, not_false_eq_true, Int.reduceEq, Nat.add_zero, Int.toNat_natCast, iI_cl, iI_lt, iI_eq, gd_in, bI_eq0, bI_eq1, bI_isB, isB_0, isB_1, il_0, il_1, il_2, il_3, il_4, il_5, il_6, il_7, il_8, il_9, il_10, il_12, il_16, il_18, il_24, il_27, il_30, il_31, il_32, il_40, il_47, il_48, il_49, il_55, il_56, il_57, il_59, il_63, il_64, il_96, il_97, il_98, il_99, il_101, il_103, il_104, il_105, il_108, il_109, il_110, il_111, il_112, il_114, il_115, il_116, il_117, il_119, il_122, il_127, il_128, il_200, il_225, il_255, il_256, il_999, il_1575, il_9999, il_65536, il_252645135, il_858993459, il_1431655765, e4]
            by_cases u : ro_rows (al_r a) (j + 1) ≠ []
            · rw [if_neg (fun w => w u)]
              refine nx2 _ h4 (iI_cg (by omega)) (q3.fr f4 (by decide) (by decide) (by decide) (by decide) (by decide)) (fun s' g1 g2 g3 => ?_)
              by_cases x : s' = j + 1
              · subst x; exact absurd g3 u
              · exact k2 s' g1 (by omega) g3
            · rw [if_pos u]
              have u2 : ro_rows (al_r a) (j + 1) = [] := Classical.byContradiction fun n => u n
              refine ⟨h4, (j : Int) + 1, rfl, fun w => absurd hnil w, fun _ => ⟨j + 1, by omega, by omega, by omega, u2, fun s' g1 g2 g3 => ?_⟩⟩
              have a1 := k1 s' g1 g2 g3
              by_cases x : s' ≤ j
              · have := k2 s' g1 x g3
                omega
              · omega
          · rw [if_neg (by omega)]
            refine nx2 _ h3 (iI_cg (by omega)) q3 (fun s' g1 g2 g3 => ?_)
            have a1 := k1 s' g1 (by omega) g3
            by_cases x : s' = j + 1
            · subst x; omega
            · exact k2 s' g1 (by omega) g3
        · simp (maxSteps := 3000000) (implicitDefEqProofs := false) (disch := omega) only [jl_e, jn_e, bd_e, gd_t, iI_add, iI_sub, iI_mul, iI_neg, if_true, if_false, not_true_eq_false, not_false_eq_true, Int.reduceEq, Nat.add_zero, Int.toNat_natCast, iI_cl, iI_lt, iI_eq, gd_in, bI_eq0, bI_eq1, bI_isB, isB_0, isB_1, il_0, il_1, il_2, il_3, il_4, il_5, il_6, il_7, il_8, il_9, il_10, il_12, il_16, il_18, il_24, il_27, il_30, il_31, il_32, il_40, il_47, il_48, il_49, il_55, il_56, il_57, il_59, il_63, il_64, il_96, il_97, il_98, il_99, il_101, il_103, il_104, il_105, il_108, il_109, il_110, il_111, il_112, il_114, il_115, il_116, il_117, il_119, il_122, il_127, il_128, il_200, il_225, il_255, il_256, il_999, il_1575, il_9999, il_65536, il_252645135, il_858993459, il_1431655765]
          rw [if_pos (by omega)]
          refine ih z _ h3 (iI_cg (by omega)) q3 (fun s' g1 g2 g3 => k2 s' g1 (by omega) g3)
      · exfalso
        have a1 := k1 (al_N a) hge (Nat.le_refl _) hnil
        have := ro_ct_le _ hN
        omega
    · have h0 : ∀ s', s' < 128 → 1 ≤ s' → 0 < ro_ct s' := by decide +kernel
      exact h0 s' (by omega) g1
/-- the numbers of the loose pieces -/
def lo_b (a : Alb) (i : Nat) : Bool := decide (al_or (al_set a (pc_rm (al_p a) (pc_at (al_p a) i).1)) ≠ [])
def lo_l (a : Alb) : List Nat := if al_or a ≠ [] then [] else (List.range (al_p a).length).filter (lo_b a)
def LoC (h : Hp) (l : List Nat) : Prop := sG h 5824 = iI l.length ∧ ∀ k, k < l.length → aG h 92 k = iI (l.getD k 0)
theorem lo_l_len (a : Alb) : (lo_l a).length ≤ (al_p a).length := by
  unfold lo_l
  split
  · simp
  · have := List.length_filter_le (lo_b a) (List.range (al_p a).length)
    rwa [List.length_range] at this
theorem c_seekLoose {h : Hp} {a : Alb} (hA : AlC 3 h a) (q : RuC 75 h a) (hz : sG h 5830 = iI 0) : ∃ h', F_X1_seekLoose 3 75 h = some ((), h') ∧ sG h' 5830 = iI 1 ∧ LoC h' (lo_l a) := by
  have hnp := hA.1.2.1
  have hlen := pc_len hA.1.hp
  have hN : al_N a < 128 := all_lt hnp
  unfold F_X1_seekLoose
  have hz' : sG h 5830 = 0 := hz
  rw [if_pos hz', jl_e, jl_e]
  obtain ⟨h2, e2⟩ : ∃ h2, sS (sS h 5830 (1 : Int32)) 5824 (0 : Int32) = h2 := ⟨_, rfl⟩
  have f2 : FrX [5824, 5830] [] h h2 := by
    rw [← e2]
    exact ((FrX.refl _ _ h).sS (by decide) _).sS (by decide) _
  have s2 : sG h2 5824 = iI 0 ∧ sG h2 5830 = iI 1 := by
    rw [← e2]
    simp (maxSteps := 3000000) (implicitDefEqProofs := false) (disch := omega) only [jl_e, jn_e, bd_e, gd_t, iI_add, iI_sub, iI_mul, iI_neg, if_true, if_false, not_true_eq_false, not_false_eq_true, Int.reduceEq, Nat.add_zero, Int.toNat_natCast, iI_cl, iI_lt, iI_eq, gd_in, bI_eq0, bI_eq1, bI_isB, isB_0, isB_1, il_0, il_1, il_2, il_3, il_4, il_5, il_6, il_7, il_8, il_9, il_10, il_12, il_16, il_18, il_24, il_27, il_30, il_31, il_32, il_40, il_47, il_48, il_49, il_55, il_56, il_57, il_59, il_63, il_64, il_96, il_97, il_98, il_99, il_101, il_103, il_104, il_105, il_108, il_109, il_110, il_111, il_112, il_114, il_115, il_116, il_117, il_119, il_122, il_127, il_128, il_200, il_225, il_255, il_256, il_999, il_1575, il_9999, il_65536, il_252645135, il_858993459, il_1431655765, aG_aS_s, aG_aS_j, aG_aS_k, aG_aV_s, aG_aV_k, aG_sS, aG_lS, aG_lV, aG_tS, aG_oS, sG_aS, sG_lS, sG_aV, sG_lV, sG_tS, sG_oS, sG_sS_s, sG_sS_n, lG_lS_s, lG_lS_j, lG_lS_k, lG_lV_s, lG_lV_k, lG_sS, lG_aS, lG_aV, lG_tS, lG_oS, tG_sS, tG_aS, tG_aV, tG_lS, tG_lV, tG_tS_s, tG_tS_n, oG_sS, oG_aS, oG_aV, oG_lS, oG_lV, oG_oS_s]
    exact ⟨trivial, trivial⟩
  rw [e2]
  have hA2 : AlC 3 h2 a := hA.fr f2 (by decide) (by decide)
  have q2 : RuC 75 h2 a := q.fr f2 (by decide) (by decide) (by decide) (by decide) (by decide)
  have qx : RuR 75 h2 (al_x a) := q2
  have c1 : F_X7_everyone 75 h2 = some (iI (al_N a), h2) := c_everyone qx hnp
  obtain ⟨h3, lv, e3, -, -⟩ := c_canBe (a := al_x a) al_r_ok qx hnp (t := 109) (by omega) (S := al_N a) (al_S_sub (a := al_x a) (Nat.le_refl _))
  have f3 := fr_X3_canBe _ _ _ _ _ _ e3
  rw [c1, bd_e, e3, bd_e]
  have eor : ro_rows (al_x a).2 (al_N a) = al_or a := rfl
  rw [eor]
  have s3 : sG h3 5824 = iI 0 ∧ sG h3 5830 = iI 1 := ⟨(f3.sg (by decide)).trans s2.1, (f3.sg (by decide)).trans s2.2⟩
  by_cases c : al_or a ≠ []
  · rw [if_neg (by rw [bI_zero]; exact fun w => w c)]
    refine ⟨h3, rfl, s3.2, ?_⟩
    unfold lo_l
    rw [if_pos c]
    exact ⟨s3.1, fun k hk => absurd hk (Nat.not_lt_zero _)⟩
  · rw [if_pos (by rw [bI_zero]; exact c)]
    have el : lo_l a = (List.range (al_p a).length).filter (lo_b a) := if_neg c
    have hA3 : AlC 3 h3 a := hA2.fr f3 (by decide) (by decide)
    have q3 : RuC 75 h3 a := q2.fr f3 (by decide) (by decide) (by decide) (by decide) (by decide)
    refine lp_up (α := Int32 → Hp → Option (Unit × Hp)) (P := fun i c9 => ∀ (v : Int32) (h4 : Hp), v = iI i → AlC 3 h4 a → RuC 75 h4 a → sG h4 5830 = iI 1 → LoC h4 ((List.range i).filter (lo_b a)) → ∃ h', c9 v h4 = some ((), h') ∧ sG h' 5830 = iI 1 ∧ LoC h' (lo_l a)) (al_p a).length (by omega) (fun i c9 hi ih => ?_) _ h3 rfl hA3 q3 s3.2 ⟨s3.1, fun k hk => absurd hk (Nat.not_lt_zero _)⟩
    intro v h4 hv k1 k2 k3 k4
    subst hv
    have hfl := List.length_filter_le (lo_b a) (List.range i)
    rw [List.length_range] at hfl
    have hpm : sG h4 (64 * (3 + 2)) = iI (al_p a).length := k1.2.2.2.2.1.2.1
    by_cases z : i < (al_p a).length
    · obtain ⟨h5, e5⟩ := c_isLoose k1 k2 z
      have f5 := fr_X1_isLoose _ _ _ _ _ _ e5
      have k1' : AlC 3 h5 a := k1.fr f5 (by decide) (by decide)
      have k2' : RuC 75 h5 a := k2.fr f5 (by decide) (by decide) (by decide) (by decide) (by decide)
      have t1 : sG h5 5824 = iI ((List.range i).filter (lo_b a)).length := (f5.sg (by decide)).trans k4.1
      have t2 : ∀ k, k < ((List.range i).filter (lo_b a)).length → aG h5 92 k = iI (((List.range i).filter (lo_b a)).getD k 0) := fun k hk => (f5.ag (by decide) k).trans (k4.2 k hk)
      have t3 : sG h5 5830 = iI 1 := (f5.sg (by decide)).trans k3
      simp (maxSteps := 3000000) (implicitDefEqProofs := false) (disch := omega) only [jl_e, jn_e, bd_e, gd_t, iI_add, iI_sub, iI_mul, iI_neg, if_true, if_false, not_true_eq_false, not_false_eq_true, Int.reduceEq, Nat.add_zero, Int.toNat_natCast, iI_cl, iI_lt, iI_eq, gd_in, bI_eq0, bI_eq1, bI_isB, isB_0, isB_1, il_0, il_1, il_2, il_3, il_4, il_5, il_6, il_7, il_8, il_9, il_10, il_12, il_16, il_18, il_24, il_27, il_30, il_31, il_32, il_40, il_47, il_48, il_49, il_55, il_56, il_57, il_59, il_63, il_64, il_96, il_97, il_98, il_99, il_101, il_103, il_104, il_105, il_108, il_109, il_110, il_111, il_112, il_114, il_115, il_116, il_117, il_119, il_122, il_127, il_128, il_200, il_225, il_255, il_256, il_999, il_1575, il_9999, il_65536, il_252645135, il_858993459, il_1431655765, hpm, k4.1, e5, t1]
      rw [if_pos (by omega), if_pos (by omega)]
      by_cases w : al_or (al_set a (pc_rm (al_p a) (pc_at (al_p a) i).1)) ≠ []
      · rw [if_neg (fun u => u w)]
        have eb : (List.range (i + 1)).filter (lo_b a) = (List.range i).filter (lo_b a) ++ [i] := by
          rw [List.range_succ, List.filter_append]
          have : lo_b a i = true := decide_eq_true w
          simp [this]
        refine ih z _ _ (iI_cg (by omega)) ?_ ?_ ?_ ⟨?_, fun k hk => ?_⟩
        · exact k1'.fr (((FrX.refl [5824] [92] h5).aS (by decide) _ _).sS (by decide) _) (by decide) (by decide)
        · exact k2'.fr (((FrX.refl [5824] [92] h5).aS (by decide) _ _).sS (by decide) _) (by decide) (by decide) (by decide) (by decide) (by decide)
        · simp (maxSteps := 3000000) (implicitDefEqProofs := false) (disch := omega) only [jl_e, jn_e, bd_e, gd_t, iI_add, iI_sub, iI_mul, iI_neg, if_true, if_false, not_true_eq_false, not_false_eq_true, Int.reduceEq, Nat.add_zero, Int.toNat_natCast, iI_cl, iI_lt, iI_eq, gd_in, bI_eq0, bI_eq1, bI_isB, isB_0, isB_1, il_0, il_1, il_2, il_3, il_4, il_5, il_6, il_7, il_8, il_9, il_10, il_12, il_16, il_18, il_24, il_27, il_30, il_31, il_32, il_40, il_47, il_48, il_49, il_55, il_56, il_57, il_59, il_63, il_64, il_96, il_97, il_98, il_99, il_101, il_103, il_104, il_105, il_108, il_109, il_110, il_111, il_112, il_114, il_115, il_116, il_117, il_119, il_122, il_127, il_128, il_200, il_225, il_255, il_256, il_999, il_1575, il_9999, il_65536, il_252645135, il_858993459, il_1431655765, aG_aS_s, aG_aS_j, aG_aS_k, aG_aV_s, aG_aV_k, aG_sS, aG_lS, aG_lV, aG_tS, aG_oS, sG_aS, sG_lS, sG_aV, sG_lV, sG_tS, sG_oS, sG_sS_s, sG_sS_n, lG_lS_s, lG_lS_j, lG_lS_k, lG_lV_s, lG_lV_k, lG_sS, lG_aS, lG_aV, lG_tS, lG_oS, tG_sS, tG_aS, tG_aV, tG_lS, tG_lV, tG_tS_s, tG_tS_n, oG_sS, oG_aS, oG_aV, oG_lS, oG_lV, oG_oS_s]
          exact t3
        · rw [eb, List.length_append, List.length_singleton]
          simp (maxSteps := 3000000) (implicitDefEqProofs := false) (disch := omega) only [jl_e, jn_e, bd_e, gd_t, iI_add, iI_sub, iI_mul, iI_neg, if_true, if_false, not_true_eq_false, not_false_eq_true, Int.reduceEq, Nat.add_zero, Int.toNat_natCast, iI_cl, iI_lt, iI_eq, gd_in, bI_eq0, bI_eq1, bI_isB, isB_0, isB_1, il_0, il_1, il_2, il_3, il_4, il_5, il_6, il_7, il_8, il_9, il_10, il_12, il_16, il_18, il_24, il_27, il_30, il_31, il_32, il_40, il_47, il_48, il_49, il_55, il_56, il_57, il_59, il_63, il_64, il_96, il_97, il_98, il_99, il_101, il_103, il_104, il_105, il_108, il_109, il_110, il_111, il_112, il_114, il_115, il_116, il_117, il_119, il_122, il_127, il_128, il_200, il_225, il_255, il_256, il_999, il_1575, il_9999, il_65536, il_252645135, il_858993459, il_1431655765, aG_aS_s, aG_aS_j, aG_aS_k, aG_aV_s, aG_aV_k, aG_sS, aG_lS, aG_lV, aG_tS, aG_oS, sG_aS, sG_lS, sG_aV, sG_lV, sG_tS, sG_oS, sG_sS_s, sG_sS_n, lG_lS_s, lG_lS_j, lG_lS_k, lG_lV_s, lG_lV_k, lG_sS, lG_aS, lG_aV, lG_tS, lG_oS, tG_sS, tG_aS, tG_aV, tG_lS, tG_lV, tG_tS_s, tG_tS_n, oG_sS, oG_aS, oG_aV, oG_lS, oG_lV, oG_oS_s, t1]
          try rfl
        · rw [eb] at hk ⊢
          rw [List.length_append] at hk
          have hk' : k < ((List.range i).filter (lo_b a)).length + 1 := by simpa using hk
          by_cases u : k = ((List.range i).filter (lo_b a)).length
          · subst u
            simp (maxSteps := 3000000) (implicitDefEqProofs := false) (disch := omega) only [jl_e, jn_e, bd_e, gd_t, iI_add, iI_sub, iI_mul, iI_neg, if_true, if_false, not_true_eq_false, not_false_eq_true, Int.reduceEq, Nat.add_zero, Int.toNat_natCast, iI_cl, iI_lt, iI_eq, gd_in, bI_eq0, bI_eq1, bI_isB, isB_0, isB_1, il_0, il_1, il_2, il_3, il_4, il_5, il_6, il_7, il_8, il_9, il_10, il_12, il_16, il_18, il_24, il_27, il_30, il_31, il_32, il_40, il_47, il_48, il_49, il_55, il_56, il_57, il_59, il_63, il_64, il_96, il_97, il_98, il_99, il_101, il_103, il_104, il_105, il_108, il_109, il_110, il_111, il_112, il_114, il_115, il_116, il_117, il_119, il_122, il_127, il_128, il_200, il_225, il_255, il_256, il_999, il_1575, il_9999, il_65536, il_252645135, il_858993459, il_1431655765, aG_aS_s, aG_aS_j, aG_aS_k, aG_aV_s, aG_aV_k, aG_sS, aG_lS, aG_lV, aG_tS, aG_oS, sG_aS, sG_lS, sG_aV, sG_lV, sG_tS, sG_oS, sG_sS_s, sG_sS_n, lG_lS_s, lG_lS_j, lG_lS_k, lG_lV_s, lG_lV_k, lG_sS, lG_aS, lG_aV, lG_tS, lG_oS, tG_sS, tG_aS, tG_aV, tG_lS, tG_lV, tG_tS_s, tG_tS_n, oG_sS, oG_aS, oG_aV, oG_lS, oG_lV, oG_oS_s]
            simp
          · simp (maxSteps := 3000000) (implicitDefEqProofs := false) (disch := omega) only [jl_e, jn_e, bd_e, gd_t, iI_add, iI_sub, iI_mul, iI_neg, if_true, if_false, not_true_eq_false, not_false_eq_true, Int.reduceEq, Nat.add_zero, Int.toNat_natCast, iI_cl, iI_lt, iI_eq, gd_in, bI_eq0, bI_eq1, bI_isB, isB_0, isB_1, il_0, il_1, il_2, il_3, il_4, il_5, il_6, il_7, il_8, il_9, il_10, il_12, il_16, il_18, il_24, il_27, il_30, il_31, il_32, il_40, il_47, il_48, il_49, il_55, il_56, il_57, il_59, il_63, il_64, il_96, il_97, il_98, il_99, il_101, il_103, il_104, il_105, il_108, il_109, il_110, il_111, il_112, il_114, il_115, il_116, il_117, il_119, il_122, il_127, il_128, il_200, il_225, il_255, il_256, il_999, il_1575, il_9999, il_65536, il_252645135, il_858993459, il_1431655765, aG_aS_s, aG_aS_j, aG_aS_k, aG_aV_s, aG_aV_k, aG_sS, aG_lS, aG_lV, aG_tS, aG_oS, sG_aS, sG_lS, sG_aV, sG_lV, sG_tS, sG_oS, sG_sS_s, sG_sS_n, lG_lS_s, lG_lS_j, lG_lS_k, lG_lV_s, lG_lV_k, lG_sS, lG_aS, lG_aV, lG_tS, lG_oS, tG_sS, tG_aS, tG_aV, tG_lS, tG_lV, tG_tS_s, tG_tS_n, oG_sS, oG_aS, oG_aV, oG_lS, oG_lV, oG_oS_s]
            rw [t2 k (by omega), List.getD_eq_getElem?_getD, List.getD_eq_getElem?_getD, List.getElem?_append_left (by omega)]
      · rw [if_pos w]
        have eb : (List.range (i + 1)).filter (lo_b a) = (List.range i).filter (lo_b a) := by
          rw [List.range_succ, List.filter_append]
          have : lo_b a i = false := decide_eq_false w
          simp [this]
        refine ih z _ _ (iI_cg (by omega)) k1' k2' t3 ?_
        rw [eb]
        exact ⟨t1, t2⟩
    · simp (maxSteps := 3000000) (implicitDefEqProofs := false) (disch := omega) only [jl_e, jn_e, bd_e, gd_t, iI_add, iI_sub, iI_mul, iI_neg, if_true, if_false, not_true_eq_false, not_false_eq_true, Int.reduceEq, Nat.add_zero, Int.toNat_natCast, iI_cl, iI_lt, iI_eq, gd_in, bI_eq0, bI_eq1, bI_isB, isB_0, isB_1, il_0, il_1, il_2, il_3, il_4, il_5, il_6, il_7, il_8, il_9, il_10, il_12, il_16, il_18, il_24, il_27, il_30, il_31, il_32, il_40, il_47, il_48, il_49, il_55, il_56, il_57, il_59, il_63, il_64, il_96, il_97, il_98, il_99, il_101, il_103, il_104, il_105, il_108, il_109, il_110, il_111, il_112, il_114, il_115, il_116, il_117, il_119, il_122, il_127, il_128, il_200, il_225, il_255, il_256, il_999, il_1575, il_9999, il_65536, il_252645135, il_858993459, il_1431655765, hpm]
      rw [if_neg (by omega)]
      refine ⟨_, rfl, k3, ?_⟩
      rw [el, show (al_p a).length = i by omega]
      exact k4
theorem c_looseNumber {h : Hp} {l : List Nat} (q : LoC h l) (hl : l.length ≤ 56) {k : Int} (hk : -2147483648 ≤ k ∧ k < 2147483648) : F_X1_looseNumber (iI k) h = some (iI (if 0 ≤ k ∧ k < l.length then (l.getD k.toNat 0 : Int) else -1), h) := by
  unfold F_X1_looseNumber
  simp (maxSteps := 3000000) (implicitDefEqProofs := false) (disch := omega) only [jl_e, jn_e, bd_e, gd_t, iI_add, iI_sub, iI_mul, iI_neg, if_true, if_false, not_true_eq_false, not_false_eq_true, Int.reduceEq, Nat.add_zero, Int.toNat_natCast, iI_cl, iI_lt, iI_eq, gd_in, bI_eq0, bI_eq1, bI_isB, isB_0, isB_1, il_0, il_1, il_2, il_3, il_4, il_5, il_6, il_7, il_8, il_9, il_10, il_12, il_16, il_18, il_24, il_27, il_30, il_31, il_32, il_40, il_47, il_48, il_49, il_55, il_56, il_57, il_59, il_63, il_64, il_96, il_97, il_98, il_99, il_101, il_103, il_104, il_105, il_108, il_109, il_110, il_111, il_112, il_114, il_115, il_116, il_117, il_119, il_122, il_127, il_128, il_200, il_225, il_255, il_256, il_999, il_1575, il_9999, il_65536, il_252645135, il_858993459, il_1431655765, q.1]
  by_cases c : 0 ≤ k ∧ k < l.length
  · rw [if_neg (by omega), if_pos (by omega), if_pos (by omega), if_pos c, q.2 _ (by omega)]
  · rw [if_neg c]
    (repeat' split) <;> (try (first | rfl | (rw [bI_t (by omega)]) | (rw [bI_f (by omega)]) | (exfalso; omega) | (exact congrArg (fun z => some (iI z, _)) (by omega))))
