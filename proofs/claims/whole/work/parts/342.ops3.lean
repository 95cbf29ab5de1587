-- ===== the class's doubts as calls =====
theorem CaC.fr2 {h h' : Hp} {a : Alb} {S A : List Nat} (q : CaC h a) (f : FrX S A h h') (n0 : ∀ v, v ∈ S → v ∉ [4800, 4801, 5248, 5249, 5250, 5504, 5824, 5825, 5826, 5828, 5829, 5830, 5831]) (n1 : ∀ k, k ∈ A → k ∉ [76, 77, 78, 79, 80, 83, 84, 85, 89, 90, 92]) : CaC h' a := by
  have s : ∀ v, v ∈ [4800, 4801, 5248, 5249, 5250, 5504, 5824, 5825, 5826, 5828, 5829, 5830, 5831] → v ∉ S := fun v h1 z => n0 v z h1
  have t : ∀ k, k ∈ [76, 77, 78, 79, 80, 83, 84, 85, 89, 90, 92] → k ∉ A := fun k h1 z => n1 k z h1
  have rk : RkC h a → RkC h' a := fun r => r.fr f (s _ (by decide)) (s _ (by decide)) (t _ (by decide)) (t _ (by decide)) (t _ (by decide)) (t _ (by decide)) (t _ (by decide))
  obtain ⟨q1, q2, q3, q4, q5, q6⟩ := q
  refine ⟨?_, ?_, ?_, ?_, ?_, ?_⟩
  · rcases q1 with w | w
    · exact Or.inl ((f.sg (s _ (by decide))).trans w)
    · exact Or.inr (rk w)
  · rcases q2 with w | ⟨w1, w2, w3⟩
    · exact Or.inl ((f.sg (s _ (by decide))).trans w)
    · exact Or.inr ⟨(f.sg (s _ (by decide))).trans w1, rk w2, w3.fr f (s _ (by decide)) (s _ (by decide)) (t _ (by decide)) (t _ (by decide)) (t _ (by decide))⟩
  · rcases q3 with w | ⟨w1, w2⟩
    · exact Or.inl ((f.sg (s _ (by decide))).trans w)
    · exact Or.inr ⟨(f.sg (s _ (by decide))).trans w1, w2.fr f (t _ (by decide)) (t _ (by decide))⟩
  · rcases q4 with w | ⟨w1, z, w2, w3⟩
    · exact Or.inl ((f.sg (s _ (by decide))).trans w)
    · exact Or.inr ⟨(f.sg (s _ (by decide))).trans w1, z, (f.sg (s _ (by decide))).trans w2, w3⟩
  · rcases q5 with w | ⟨w1, w2, w3⟩
    · exact Or.inl ((f.sg (s _ (by decide))).trans w)
    · exact Or.inr ⟨(f.sg (s _ (by decide))).trans w1, (f.sg (s _ (by decide))).trans w2, fun k hk => (f.ag (t _ (by decide)) k).trans (w3 k hk)⟩
  · rcases q6 with w | ⟨w1, w2, w3⟩
    · exact Or.inl ((f.sg (s _ (by decide))).trans w)
    · exact Or.inr ⟨(f.sg (s _ (by decide))).trans w1, (f.sg (s _ (by decide))).trans w2, (f.sg (s _ (by decide))).trans w3⟩
def A_knot (z w : Int) : Int := if w < 0 ∨ 1 < w then -3 else if z = -1 then -1 else if w = 0 then z else (ro_ct z.toNat : Int)
theorem sS_same {h : Hp} {n : Nat} {v : Int32} (e : sG h n = v) : sS h n v = h := by
  obtain ⟨ha, hb, hc, hd, he⟩ := h
  have e : ha n = v := e
  show (_, hb, hc, hd, he) = (ha, hb, hc, hd, he)
  congr 1
  funext u
  show (if u = n then v else ha u) = ha u
  by_cases w : u = n
  · rw [if_pos w, w]
    exact e.symm
  · rw [if_neg w]
theorem C_knot {h : Hp} {s : Sta} (q : JC h s) {w : Int} (hw : -2147483648 ≤ w ∧ w < 2147483648) : ∃ h' z, F_X11_knot (iI w) h = some (iI (A_knot z w), h') ∧ JC h' s ∧ kn_is (st_a s) z := by
  have hnp := q.2.2.1.1.2.1
  obtain ⟨h1, e1, q1, rk⟩ := c_rulesNow q
  have key : ∃ h2 z, F_X1_knotOf 75 h1 = some (iI z, h2) ∧ JC h2 s ∧ kn_is (st_a s) z := by
    have c := q1.2.2.2.2.2.2
    unfold F_X1_knotOf
    rw [jn_e]
    rcases c.2.2.2.1 with z0 | ⟨z1, z, z2, z3⟩
    · have z0' : sG h1 5829 = 0 := z0
      obtain ⟨h2, z, e2, k2⟩ := c_seekKnot hnp rk.2.1
      have f := fr_X1_seekKnot _ _ _ _ e2
      rw [if_pos z0', e2, bd_e, jl_e]
      dsimp only
      rw [jl_e]
      have ff : FrX [5828, 5829] [110] h1 (sS (sS h2 5828 (iI z)) 5829 (1 : Int32)) := ((f.mono (by decide) (by decide)).sS (by decide) _).sS (by decide) _
      have hz : sG (sS (sS h2 5828 (iI z)) 5829 (1 : Int32)) 5828 = iI z := by
        simp (maxSteps := 3000000) (implicitDefEqProofs := false) (disch := omega) only [jl_e, jn_e, bd_e, gd_t, iI_add, iI_sub, iI_mul, iI_neg, if_true, if_false, not_true_eq_false, not_false_eq_true, Int.reduceEq, Nat.add_zero, Int.toNat_natCast, iI_cl, iI_lt, iI_eq, gd_in, bI_eq0, bI_eq1, bI_isB, isB_0, isB_1, il_0, il_1, il_2, il_3, il_4, il_5, il_6, il_7, il_8, il_9, il_10, il_12, il_16, il_18, il_24, il_27, il_30, il_31, il_32, il_40, il_47, il_48, il_49, il_55, il_56, il_57, il_59, il_63, il_64, il_96, il_97, il_98, il_99, il_101, il_103, il_104, il_105, il_108, il_109, il_110, il_111, il_112, il_114, il_115, il_116, il_117, il_119, il_122, il_127, il_128, il_200, il_225, il_255, il_256, il_999, il_1575, il_9999, il_65536, il_252645135, il_858993459, il_1431655765, aG_aS_s, aG_aS_j, aG_aS_k, aG_aV_s, aG_aV_k, aG_sS, aG_lS, aG_lV, aG_tS, aG_oS, sG_aS, sG_lS, sG_aV, sG_lV, sG_tS, sG_oS, sG_sS_s, sG_sS_n, lG_lS_s, lG_lS_j, lG_lS_k, lG_lV_s, lG_lV_k, lG_sS, lG_aS, lG_aV, lG_tS, lG_oS, tG_sS, tG_aS, tG_aV, tG_lS, tG_lV, tG_tS_s, tG_tS_n, oG_sS, oG_aS, oG_aV, oG_lS, oG_lV, oG_oS_s]
      have hk : sG (sS (sS h2 5828 (iI z)) 5829 (1 : Int32)) 5829 = iI 1 := by
        simp (maxSteps := 3000000) (implicitDefEqProofs := false) (disch := omega) only [jl_e, jn_e, bd_e, gd_t, iI_add, iI_sub, iI_mul, iI_neg, if_true, if_false, not_true_eq_false, not_false_eq_true, Int.reduceEq, Nat.add_zero, Int.toNat_natCast, iI_cl, iI_lt, iI_eq, gd_in, bI_eq0, bI_eq1, bI_isB, isB_0, isB_1, il_0, il_1, il_2, il_3, il_4, il_5, il_6, il_7, il_8, il_9, il_10, il_12, il_16, il_18, il_24, il_27, il_30, il_31, il_32, il_40, il_47, il_48, il_49, il_55, il_56, il_57, il_59, il_63, il_64, il_96, il_97, il_98, il_99, il_101, il_103, il_104, il_105, il_108, il_109, il_110, il_111, il_112, il_114, il_115, il_116, il_117, il_119, il_122, il_127, il_128, il_200, il_225, il_255, il_256, il_999, il_1575, il_9999, il_65536, il_252645135, il_858993459, il_1431655765, aG_aS_s, aG_aS_j, aG_aS_k, aG_aV_s, aG_aV_k, aG_sS, aG_lS, aG_lV, aG_tS, aG_oS, sG_aS, sG_lS, sG_aV, sG_lV, sG_tS, sG_oS, sG_sS_s, sG_sS_n, lG_lS_s, lG_lS_j, lG_lS_k, lG_lV_s, lG_lV_k, lG_sS, lG_aS, lG_aV, lG_tS, lG_oS, tG_sS, tG_aS, tG_aV, tG_lS, tG_lV, tG_tS_s, tG_tS_n, oG_sS, oG_aS, oG_aV, oG_lS, oG_lV, oG_oS_s]
      refine ⟨_, z, by rw [hz], q1.ca ff (by decide) (by decide) ?_, k2⟩
      have rk2 := rk.fr ff (by decide) (by decide) (by decide) (by decide) (by decide) (by decide) (by decide)
      refine ⟨Or.inr rk2, ?_, ?_, Or.inr ⟨hk, z, hz, k2⟩, ?_, ?_⟩
      · rcases c.2.1 with z | ⟨z1, z2, z3⟩
        · exact Or.inl ((ff.sg (by decide)).trans z)
        · exact Or.inr ⟨(ff.sg (by decide)).trans z1, rk2, z3.fr ff (by decide) (by decide) (by decide) (by decide) (by decide)⟩
      · rcases c.2.2.1 with z | ⟨z1, z2⟩
        · exact Or.inl ((ff.sg (by decide)).trans z)
        · exact Or.inr ⟨(ff.sg (by decide)).trans z1, z2.fr ff (by decide) (by decide)⟩
      · rcases c.2.2.2.2.1 with z | ⟨z1, z2, z3⟩
        · exact Or.inl ((ff.sg (by decide)).trans z)
        · exact Or.inr ⟨(ff.sg (by decide)).trans z1, (ff.sg (by decide)).trans z2, fun k hk => (ff.ag (by decide) k).trans (z3 k hk)⟩
      · rcases c.2.2.2.2.2 with z | ⟨z1, z2, z3⟩
        · exact Or.inl ((ff.sg (by decide)).trans z)
        · exact Or.inr ⟨(ff.sg (by decide)).trans z1, (ff.sg (by decide)).trans z2, (ff.sg (by decide)).trans z3⟩
    · have z0' : ¬ sG h1 5829 = 0 := by rw [z1]; decide
      rw [if_neg z0']
      dsimp only
      rw [jl_e]
      have ff : FrX [5829] [] h1 (sS h1 5829 (1 : Int32)) := (FrX.refl _ _ h1).sS (by decide) _
      have hz : sG (sS h1 5829 (1 : Int32)) 5828 = iI z := by
        simp (maxSteps := 3000000) (implicitDefEqProofs := false) (disch := omega) only [jl_e, jn_e, bd_e, gd_t, iI_add, iI_sub, iI_mul, iI_neg, if_true, if_false, not_true_eq_false, not_false_eq_true, Int.reduceEq, Nat.add_zero, Int.toNat_natCast, iI_cl, iI_lt, iI_eq, gd_in, bI_eq0, bI_eq1, bI_isB, isB_0, isB_1, il_0, il_1, il_2, il_3, il_4, il_5, il_6, il_7, il_8, il_9, il_10, il_12, il_16, il_18, il_24, il_27, il_30, il_31, il_32, il_40, il_47, il_48, il_49, il_55, il_56, il_57, il_59, il_63, il_64, il_96, il_97, il_98, il_99, il_101, il_103, il_104, il_105, il_108, il_109, il_110, il_111, il_112, il_114, il_115, il_116, il_117, il_119, il_122, il_127, il_128, il_200, il_225, il_255, il_256, il_999, il_1575, il_9999, il_65536, il_252645135, il_858993459, il_1431655765, aG_aS_s, aG_aS_j, aG_aS_k, aG_aV_s, aG_aV_k, aG_sS, aG_lS, aG_lV, aG_tS, aG_oS, sG_aS, sG_lS, sG_aV, sG_lV, sG_tS, sG_oS, sG_sS_s, sG_sS_n, lG_lS_s, lG_lS_j, lG_lS_k, lG_lV_s, lG_lV_k, lG_sS, lG_aS, lG_aV, lG_tS, lG_oS, tG_sS, tG_aS, tG_aV, tG_lS, tG_lV, tG_tS_s, tG_tS_n, oG_sS, oG_aS, oG_aV, oG_lS, oG_lV, oG_oS_s]
        exact z2
      have es : sS h1 5829 (1 : Int32) = h1 := sS_same z1
      rw [es] at hz
      refine ⟨h1, z, ?_, q1, z3⟩
      rw [es, hz]
  obtain ⟨h2, z, e2, q2, k2⟩ := key
  have hz := kn_rng hnp k2
  unfold F_X11_knot A_knot
  by_cases c : w < 0 ∨ 1 < w
  · refine ⟨h, z, ?_, q, k2⟩
    rw [if_pos c]
    simp (maxSteps := 3000000) (implicitDefEqProofs := false) (disch := omega) only [jl_e, jn_e, bd_e, gd_t, iI_add, iI_sub, iI_mul, iI_neg, if_true, if_false, not_true_eq_false, not_false_eq_true, Int.reduceEq, Nat.add_zero, Int.toNat_natCast, iI_cl, iI_lt, iI_eq, gd_in, bI_eq0, bI_eq1, bI_isB, isB_0, isB_1, il_0, il_1, il_2, il_3, il_4, il_5, il_6, il_7, il_8, il_9, il_10, il_12, il_16, il_18, il_24, il_27, il_30, il_31, il_32, il_40, il_47, il_48, il_49, il_55, il_56, il_57, il_59, il_63, il_64, il_96, il_97, il_98, il_99, il_101, il_103, il_104, il_105, il_108, il_109, il_110, il_111, il_112, il_114, il_115, il_116, il_117, il_119, il_122, il_127, il_128, il_200, il_225, il_255, il_256, il_999, il_1575, il_9999, il_65536, il_252645135, il_858993459, il_1431655765]
    rcases c with d | d
    · rw [if_pos d]
    · rw [if_neg (by omega), if_pos d]
  · refine ⟨h2, z, ?_, q2, k2⟩
    rw [if_neg c]
    by_cases d : z = -1
    · subst d
      simp (maxSteps := 3000000) (implicitDefEqProofs := false) (disch := omega) only [jl_e, jn_e, bd_e, gd_t, iI_add, iI_sub, iI_mul, iI_neg, if_true, if_false, not_true_eq_false, not_false_eq_true, Int.reduceEq, Nat.add_zero, Int.toNat_natCast, iI_cl, iI_lt, iI_eq, gd_in, bI_eq0, bI_eq1, bI_isB, isB_0, isB_1, il_0, il_1, il_2, il_3, il_4, il_5, il_6, il_7, il_8, il_9, il_10, il_12, il_16, il_18, il_24, il_27, il_30, il_31, il_32, il_40, il_47, il_48, il_49, il_55, il_56, il_57, il_59, il_63, il_64, il_96, il_97, il_98, il_99, il_101, il_103, il_104, il_105, il_108, il_109, il_110, il_111, il_112, il_114, il_115, il_116, il_117, il_119, il_122, il_127, il_128, il_200, il_225, il_255, il_256, il_999, il_1575, il_9999, il_65536, il_252645135, il_858993459, il_1431655765, e1, e2]
      rw [if_neg (by omega), if_neg (by omega)]
    · obtain ⟨m, em⟩ : ∃ m : Nat, z = m := ⟨z.toNat, by omega⟩
      subst em
      simp (maxSteps := 3000000) (implicitDefEqProofs := false) (disch := omega) only [jl_e, jn_e, bd_e, gd_t, iI_add, iI_sub, iI_mul, iI_neg, if_true, if_false, not_true_eq_false, not_false_eq_true, Int.reduceEq, Nat.add_zero, Int.toNat_natCast, iI_cl, iI_lt, iI_eq, gd_in, bI_eq0, bI_eq1, bI_isB, isB_0, isB_1, il_0, il_1, il_2, il_3, il_4, il_5, il_6, il_7, il_8, il_9, il_10, il_12, il_16, il_18, il_24, il_27, il_30, il_31, il_32, il_40, il_47, il_48, il_49, il_55, il_56, il_57, il_59, il_63, il_64, il_96, il_97, il_98, il_99, il_101, il_103, il_104, il_105, il_108, il_109, il_110, il_111, il_112, il_114, il_115, il_116, il_117, il_119, il_122, il_127, il_128, il_200, il_225, il_255, il_256, il_999, il_1575, il_9999, il_65536, il_252645135, il_858993459, il_1431655765, e1, e2, c_bitCount (show m < 128 by omega)]
      rw [if_neg (by omega), if_neg (by omega), if_neg d, if_neg d]
      by_cases e : w = 0
      · rw [if_pos e, if_pos e]
      · rw [if_neg e, if_neg e]
def A_loose (s : Sta) (k : Int) : Int := if k < -1 then -3 else if k = -1 then ((lo_l (st_a s)).length : Int) else if k < (lo_l (st_a s)).length then ((lo_l (st_a s)).getD k.toNat 0 : Int) else -1
theorem C_loose {h : Hp} {s : Sta} (q : JC h s) {k : Int} (hk : -2147483648 ≤ k ∧ k < 2147483648) : ∃ h', F_X11_loose (iI k) h = some (iI (A_loose s k), h') ∧ JC h' s := by
  have hl := lo_l_len (st_a s)
  have hpl := pc_len q.2.2.1.1.hp
  unfold F_X11_loose A_loose
  by_cases c : k < -1
  · refine ⟨h, ?_, q⟩
    rw [if_pos c]
    simp (maxSteps := 3000000) (implicitDefEqProofs := false) (disch := omega) only [jl_e, jn_e, bd_e, gd_t, iI_add, iI_sub, iI_mul, iI_neg, if_true, if_false, not_true_eq_false, not_false_eq_true, Int.reduceEq, Nat.add_zero, Int.toNat_natCast, iI_cl, iI_lt, iI_eq, gd_in, bI_eq0, bI_eq1, bI_isB, isB_0, isB_1, il_0, il_1, il_2, il_3, il_4, il_5, il_6, il_7, il_8, il_9, il_10, il_12, il_16, il_18, il_24, il_27, il_30, il_31, il_32, il_40, il_47, il_48, il_49, il_55, il_56, il_57, il_59, il_63, il_64, il_96, il_97, il_98, il_99, il_101, il_103, il_104, il_105, il_108, il_109, il_110, il_111, il_112, il_114, il_115, il_116, il_117, il_119, il_122, il_127, il_128, il_200, il_225, il_255, il_256, il_999, il_1575, il_9999, il_65536, il_252645135, il_858993459, il_1431655765]
    rw [if_pos c]
  · obtain ⟨h1, e1, q1, rk⟩ := c_rulesNow q
    have key : ∃ h2, F_X1_seekLoose 3 75 h1 = some ((), h2) ∧ JC h2 s ∧ LoC h2 (lo_l (st_a s)) := by
      have c := q1.2.2.2.2.2.2
      rcases c.2.2.2.2.1 with z0 | ⟨z1, z2⟩
      · obtain ⟨h2, e2, k2, l2⟩ := c_seekLoose q1.2.2.1 rk.2.1 z0
        have f := fr_X1_seekLoose _ _ _ _ _ e2
        have rk2 := rk.fr f (by decide) (by decide) (by decide) (by decide) (by decide) (by decide) (by decide)
        refine ⟨h2, e2, q1.ca f (by decide) (by decide) ⟨Or.inr rk2, ?_, ?_, ?_, Or.inr ⟨k2, l2⟩, ?_⟩, l2⟩
        · rcases c.2.1 with z | ⟨z1, z2, z3⟩
          · exact Or.inl ((f.sg (by decide)).trans z)
          · exact Or.inr ⟨(f.sg (by decide)).trans z1, rk2, z3.fr f (by decide) (by decide) (by decide) (by decide) (by decide)⟩
        · rcases c.2.2.1 with z | ⟨z1, z2⟩
          · exact Or.inl ((f.sg (by decide)).trans z)
          · exact Or.inr ⟨(f.sg (by decide)).trans z1, z2.fr f (by decide) (by decide)⟩
        · rcases c.2.2.2.1 with z | ⟨z1, y, z2, z3⟩
          · exact Or.inl ((f.sg (by decide)).trans z)
          · exact Or.inr ⟨(f.sg (by decide)).trans z1, y, (f.sg (by decide)).trans z2, z3⟩
        · rcases c.2.2.2.2.2 with z | ⟨z1, z2, z3⟩
          · exact Or.inl ((f.sg (by decide)).trans z)
          · exact Or.inr ⟨(f.sg (by decide)).trans z1, (f.sg (by decide)).trans z2, (f.sg (by decide)).trans z3⟩
      · refine ⟨h1, ?_, q1, z2⟩
        unfold F_X1_seekLoose
        have z0' : ¬ sG h1 5830 = 0 := by rw [z1]; decide
        rw [if_neg z0']
    obtain ⟨h2, e2, q2, l2⟩ := key
    refine ⟨h2, ?_, q2⟩
    rw [if_neg c]
    simp (maxSteps := 3000000) (implicitDefEqProofs := false) (disch := omega) only [jl_e, jn_e, bd_e, gd_t, iI_add, iI_sub, iI_mul, iI_neg, if_true, if_false, not_true_eq_false, not_false_eq_true, Int.reduceEq, Nat.add_zero, Int.toNat_natCast, iI_cl, iI_lt, iI_eq, gd_in, bI_eq0, bI_eq1, bI_isB, isB_0, isB_1, il_0, il_1, il_2, il_3, il_4, il_5, il_6, il_7, il_8, il_9, il_10, il_12, il_16, il_18, il_24, il_27, il_30, il_31, il_32, il_40, il_47, il_48, il_49, il_55, il_56, il_57, il_59, il_63, il_64, il_96, il_97, il_98, il_99, il_101, il_103, il_104, il_105, il_108, il_109, il_110, il_111, il_112, il_114, il_115, il_116, il_117, il_119, il_122, il_127, il_128, il_200, il_225, il_255, il_256, il_999, il_1575, il_9999, il_65536, il_252645135, il_858993459, il_1431655765, e1, e2, l2.1, c_looseNumber l2 (by omega) hk]
    rw [if_neg c]
    by_cases d : k = -1
    · rw [if_pos d, if_pos d]
    · rw [if_neg d, if_neg d]
      have e : (0 ≤ k ∧ k < (lo_l (st_a s)).length) = (k < (lo_l (st_a s)).length) := propext (by omega)
      simp only [e]
def A_would (s : Sta) (x m v : Int) : Int := if 0 ≤ x ∧ x < (al_w (st_a s)).length then (if (0 ≤ m ∧ m < 2 + (al_k (st_a s)).length) ∧ 0 ≤ v ∧ v ≤ al_most (st_a s) m.toNat then ((al_or (al_set (st_a s) (pc_put (al_p (st_a s)) (8 * x.toNat + m.toNat) v.toNat 0))).length : Int) else -3) else -2
theorem C_would {h : Hp} {s : Sta} (q : JC h s) {x m v : Int} (hx : -2147483648 ≤ x ∧ x < 2147483648) (hm : -2147483648 ≤ m ∧ m < 2147483648) (hv : -2147483648 ≤ v ∧ v < 2147483648) : ∃ h', F_X11_would (iI x) (iI m) (iI v) h = some (iI (A_would s x m v), h') ∧ JC h' s := by
  have hA := q.2.2.1
  unfold F_X11_would A_would
  rw [c_hasPicture hA hx, bd_e]
  by_cases c : 0 ≤ x ∧ x < (al_w (st_a s)).length
  · obtain ⟨p, e, hp⟩ := rg_of hx c
    subst e
    rw [if_neg (by rw [bI_zero]; exact fun z => z c), if_pos c, c_takesValue hA hm hv, bd_e]
    by_cases d : (0 ≤ m ∧ m < 2 + (al_k (st_a s)).length) ∧ 0 ≤ v ∧ v ≤ al_most (st_a s) m.toNat
    · obtain ⟨m', em⟩ : ∃ m' : Nat, m = m' := ⟨m.toNat, by omega⟩
      obtain ⟨v', ev⟩ : ∃ v' : Nat, v = v' := ⟨v.toNat, by omega⟩
      subst em ev
      rw [if_neg (by rw [bI_zero]; exact fun z => z d), if_pos d]
      obtain ⟨h1, e1, q1, rk⟩ := c_rulesNow q
      rw [Int.toNat_natCast, Int.toNat_natCast, Int.toNat_natCast] at *
      obtain ⟨h2, e2⟩ := c_ordersWithPiece q1.2.2.1 rk.2.1 (p := p) (m := m') (v := v') hp (by omega) (by omega)
      have f := fr_X1_ordersWithPiece _ _ _ _ _ _ _ _ e2
      refine ⟨h2, ?_, q1.ca f (by decide) (by decide) (q1.2.2.2.2.2.2.fr2 f (by decide) (by decide))⟩
      rw [e1, bd_e, e2, bd_e]
    · rw [if_pos (by rw [bI_zero]; exact d), if_neg d]
      exact ⟨h, rfl, q⟩
  · rw [if_pos (by rw [bI_zero]; exact c), if_neg c]
    exact ⟨h, rfl, q⟩
def A_ask (s : Sta) (w : Int) : Int := if w < 0 ∨ 1 < w then -3 else if w = 0 then (ak_p (st_a s) (al_w (st_a s)).length).2 else (if (ak_p (st_a s) (al_w (st_a s)).length).2 = -1 then -1 else ((ak_p (st_a s) (al_w (st_a s)).length).1 : Int))
theorem C_ask {h : Hp} {s : Sta} (q : JC h s) {w : Int} (hw : -2147483648 ≤ w ∧ w < 2147483648) : ∃ h', F_X11_ask (iI w) h = some (iI (A_ask s w), h') ∧ JC h' s := by
  unfold F_X11_ask A_ask
  by_cases c : w < 0 ∨ 1 < w
  · refine ⟨h, ?_, q⟩
    rw [if_pos c]
    simp (maxSteps := 3000000) (implicitDefEqProofs := false) (disch := omega) only [jl_e, jn_e, bd_e, gd_t, iI_add, iI_sub, iI_mul, iI_neg, if_true, if_false, not_true_eq_false, not_false_eq_true, Int.reduceEq, Nat.add_zero, Int.toNat_natCast, iI_cl, iI_lt, iI_eq, gd_in, bI_eq0, bI_eq1, bI_isB, isB_0, isB_1, il_0, il_1, il_2, il_3, il_4, il_5, il_6, il_7, il_8, il_9, il_10, il_12, il_16, il_18, il_24, il_27, il_30, il_31, il_32, il_40, il_47, il_48, il_49, il_55, il_56, il_57, il_59, il_63, il_64, il_96, il_97, il_98, il_99, il_101, il_103, il_104, il_105, il_108, il_109, il_110, il_111, il_112, il_114, il_115, il_116, il_117, il_119, il_122, il_127, il_128, il_200, il_225, il_255, il_256, il_999, il_1575, il_9999, il_65536, il_252645135, il_858993459, il_1431655765]
    rcases c with d | d
    · rw [if_pos d]
    · rw [if_neg (by omega), if_pos d]
  · obtain ⟨h1, e1, q1, rk1⟩ := c_rulesNow q
    obtain ⟨h2, e2, q2, rk, o⟩ := c_ordersNow q1
    have o2 : sG h2 5249 = iI (al_or (st_a s)).length := o.2.1
    have key : ∃ h3, F_X1_seekAsk 3 75 (iI (al_or (st_a s)).length) h2 = some ((), h3) ∧ JC h3 s ∧ AsC h3 (ak_p (st_a s) (al_w (st_a s)).length) := by
      have c := q2.2.2.2.2.2.2
      rcases c.2.2.2.2.2 with z0 | ⟨z1, z2⟩
      · obtain ⟨h3, e3, k3, l3⟩ := c_seekAsk q2.2.2.1 rk.2.1 z0
        have f := fr_X1_seekAsk _ _ _ _ _ _ e3
        have rk2 := rk.fr f (by decide) (by decide) (by decide) (by decide) (by decide) (by decide) (by decide)
        refine ⟨h3, e3, q2.ca f (by decide) (by decide) ⟨Or.inr rk2, ?_, ?_, ?_, ?_, Or.inr ⟨k3, l3⟩⟩, l3⟩
        · rcases c.2.1 with z | ⟨z1, z2, z3⟩
          · exact Or.inl ((f.sg (by decide)).trans z)
          · exact Or.inr ⟨(f.sg (by decide)).trans z1, rk2, z3.fr f (by decide) (by decide) (by decide) (by decide) (by decide)⟩
        · rcases c.2.2.1 with z | ⟨z1, z2⟩
          · exact Or.inl ((f.sg (by decide)).trans z)
          · exact Or.inr ⟨(f.sg (by decide)).trans z1, z2.fr f (by decide) (by decide)⟩
        · rcases c.2.2.2.1 with z | ⟨z1, y, z2, z3⟩
          · exact Or.inl ((f.sg (by decide)).trans z)
          · exact Or.inr ⟨(f.sg (by decide)).trans z1, y, (f.sg (by decide)).trans z2, z3⟩
        · rcases c.2.2.2.2.1 with z | ⟨z1, z2, z3⟩
          · exact Or.inl ((f.sg (by decide)).trans z)
          · exact Or.inr ⟨(f.sg (by decide)).trans z1, (f.sg (by decide)).trans z2, fun k hk => (f.ag (by decide) k).trans (z3 k hk)⟩
      · refine ⟨h2, ?_, q2, z2⟩
        unfold F_X1_seekAsk
        have z0' : ¬ sG h2 5831 = 0 := by rw [z1]; decide
        rw [if_neg z0']
    obtain ⟨h3, e3, q3, l3⟩ := key
    refine ⟨h3, ?_, q3⟩
    rw [if_neg c]
    simp (maxSteps := 3000000) (implicitDefEqProofs := false) (disch := omega) only [jl_e, jn_e, bd_e, gd_t, iI_add, iI_sub, iI_mul, iI_neg, if_true, if_false, not_true_eq_false, not_false_eq_true, Int.reduceEq, Nat.add_zero, Int.toNat_natCast, iI_cl, iI_lt, iI_eq, gd_in, bI_eq0, bI_eq1, bI_isB, isB_0, isB_1, il_0, il_1, il_2, il_3, il_4, il_5, il_6, il_7, il_8, il_9, il_10, il_12, il_16, il_18, il_24, il_27, il_30, il_31, il_32, il_40, il_47, il_48, il_49, il_55, il_56, il_57, il_59, il_63, il_64, il_96, il_97, il_98, il_99, il_101, il_103, il_104, il_105, il_108, il_109, il_110, il_111, il_112, il_114, il_115, il_116, il_117, il_119, il_122, il_127, il_128, il_200, il_225, il_255, il_256, il_999, il_1575, il_9999, il_65536, il_252645135, il_858993459, il_1431655765, e1, e2, o2, e3, l3.1, l3.2]
    rw [if_neg (by omega), if_neg (by omega)]
    by_cases d : w = 0
    · rw [if_pos d, if_pos d]
    · rw [if_neg d, if_neg d]
