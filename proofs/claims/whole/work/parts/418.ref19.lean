-- ===== the reference reads a clause =====
abbrev Cl : Type := Nat × (Nat × Nat × Nat × Nat) × List Nat
def cl_do (a : Alb) (c : Cl) : Alb := if c.1 = 0 then al_0 else if c.1 = 1 then al_sun a c.2.1.1 c.2.1.2.1 c.2.1.2.2.1 else if c.1 = 2 then al_addW a c.2.2 else if c.1 = 3 then al_addK a c.2.1.1 else al_put a (8 * c.2.1.1 + c.2.1.2.1) c.2.1.2.2.1 c.2.1.2.2.2
def cl_ok (a : Alb) (c : Cl) : Prop := c.1 ≤ 4 ∧ (c.1 = 1 → su_ok c.2.1.1 c.2.1.2.1 c.2.1.2.2.1) ∧ (c.1 = 2 → (al_w a).length < 7 ∧ wo_ok c.2.2 ∧ c.2.1.1 = w27 c.2.2) ∧ (c.1 = 3 → (al_k a).length < 6 ∧ c.2.1.1 ≤ 3) ∧ (c.1 = 4 → c.2.1.1 < (al_w a).length ∧ c.2.1.2.1 < 2 + (al_k a).length ∧ c.2.1.2.2.1 ≤ al_most a c.2.1.2.1 ∧ c.2.1.2.2.2 ≤ al_msl c.2.1.2.1)
theorem cl_do_ok {a : Alb} (h : al_ok a) {c : Cl} (k : cl_ok a c) : al_ok (cl_do a c) := by
  obtain ⟨k0, k1, k2, k3, k4⟩ := k
  unfold cl_do
  by_cases c0 : c.1 = 0
  · rw [if_pos c0]; exact al_0_ok
  rw [if_neg c0]
  by_cases c1 : c.1 = 1
  · rw [if_pos c1]; exact al_sun_ok h (k1 c1)
  rw [if_neg c1]
  by_cases c2 : c.1 = 2
  · rw [if_pos c2]; exact al_addW_ok h (k2 c2).1 (k2 c2).2.1
  rw [if_neg c2]
  by_cases c3 : c.1 = 3
  · rw [if_pos c3]; exact al_addK_ok h (k3 c3).1 (k3 c3).2
  rw [if_neg c3]
  obtain ⟨p1, p2, p3, p4⟩ := k4 (by omega)
  exact al_ok_set h (pa_put h.2.2.2.2.2 p1 h.2.1 p2 h.2.2.1 p3 p4)
def ClM (h : Hp) (n : Nat) (c : Cl) : Prop := aG h 119 (5 * n) = iI (c.1 : Int) ∧ aG h 119 (5 * n + 1) = iI (c.2.1.1 : Int) ∧ aG h 119 (5 * n + 2) = iI (c.2.1.2.1 : Int) ∧ aG h 119 (5 * n + 3) = iI (c.2.1.2.2.1 : Int) ∧ aG h 119 (5 * n + 4) = iI (c.2.1.2.2.2 : Int)
def DrM (h : Hp) (a : Alb) : Prop := sG h 7497 = iI (al_w a).length ∧ sG h 7498 = iI (al_k a).length ∧ (∀ i, i < (al_w a).length → aG h 120 i = iI (w27 ((al_w a).getD i []))) ∧ (∀ i, i < (al_k a).length → aG h 121 i = iI (al_kd a i))
theorem DrM.fr {h h' : Hp} {a : Alb} {S A : List Nat} (q : DrM h a) (f : FrX S A h h') (n0 : 7497 ∉ S) (n1 : 7498 ∉ S) (n2 : 120 ∉ A) (n3 : 121 ∉ A) : DrM h' a := ⟨(f.sg n0).trans q.1, (f.sg n1).trans q.2.1, fun i hi => (f.ag n2 i).trans (q.2.2.1 i hi), fun i hi => (f.ag n3 i).trans (q.2.2.2 i hi)⟩
def RgM (h : Hp) (T : List Nat) (p n : Nat) (a : Alb) (b : Int) : Prop := TxM h T ∧ sG h 7490 = iI (p : Int) ∧ p ≤ T.length ∧ sG h 7495 = iI (n : Int) ∧ DrM h a ∧ sG h 7494 = iI b
theorem RgM.tk {h : Hp} {T : List Nat} (tb : TB T) {p n : Nat} {a : Alb} {b : Int} (g : RgM h T p n a b) : ∃ h', F_X12_take h = some ((), h') ∧ TkM h' T p ∧ RgM h' T (nx T p) n a b ∧ aF h' 119 = aF h 119 := by
  obtain ⟨g1, g2, g3, g4, g5, g6⟩ := g
  obtain ⟨h1, e1, k⟩ := m_take tb g1 g3 g2
  have f := fr_X12_take _ _ _ e1
  exact ⟨h1, e1, k, ⟨g1.fr f (by decide) (by decide), k.1, nx_le g3, (f.sg (by decide)).trans g4, g5.fr f (by decide) (by decide) (by decide) (by decide), (f.sg (by decide)).trans g6⟩, (f.2 119 (by decide)).1⟩
theorem m_num {h : Hp} {T : List Nat} (tb : TB T) {p n : Nat} {a : Alb} (g : RgM h T p n a (-1)) {lo hi : Int} (hlo : -1000 ≤ lo ∧ lo ≤ 1000) (hhi : -1000 ≤ hi ∧ hi ≤ 1000) : ∃ h', (nok T p lo hi = true → F_X12_number (iI lo) (iI hi) h = some (iI (nv T p : Int), h') ∧ RgM h' T (nx T p) n a (-1)) ∧ (¬ nok T p lo hi = true → F_X12_number (iI lo) (iI hi) h = some (iI 0, h') ∧ RgM h' T (nx T p) n a (tk_s T p : Int)) ∧ aF h' 119 = aF h 119 := by
  obtain ⟨g1, g2, g3, g4, g5, g6⟩ := g
  obtain ⟨h1, e1, k1, k2⟩ := m_number tb g1 g3 g2 g6 (by omega) hlo hhi
  have f := fr_X12_number _ _ _ _ _ e1
  refine ⟨h1, fun c => ?_, fun c => ?_, (f.2 119 (by decide)).1⟩
  · rw [if_pos ⟨rfl, c⟩] at e1
    rw [if_pos rfl, if_pos c] at k2
    exact ⟨e1, g1.fr f (by decide) (by decide), k1, nx_le g3, (f.sg (by decide)).trans g4, g5.fr f (by decide) (by decide) (by decide) (by decide), k2⟩
  · rw [if_neg (fun z => c z.2)] at e1
    rw [if_pos rfl, if_neg c] at k2
    exact ⟨e1, g1.fr f (by decide) (by decide), k1, nx_le g3, (f.sg (by decide)).trans g4, g5.fr f (by decide) (by decide) (by decide) (by decide), k2⟩
theorem m_numB {h : Hp} {T : List Nat} (tb : TB T) {p n f : Nat} {a : Alb} (g : RgM h T p n a (f : Int)) (hf : f ≤ 200) {lo hi : Int} (hlo : -1000 ≤ lo ∧ lo ≤ 1000) (hhi : -1000 ≤ hi ∧ hi ≤ 1000) : ∃ h', F_X12_number (iI lo) (iI hi) h = some (iI 0, h') ∧ RgM h' T (nx T p) n a (f : Int) ∧ aF h' 119 = aF h 119 := by
  obtain ⟨g1, g2, g3, g4, g5, g6⟩ := g
  obtain ⟨h1, e1, k1, k2⟩ := m_number tb g1 g3 g2 g6 (by omega) hlo hhi
  have fr := fr_X12_number _ _ _ _ _ e1
  rw [if_neg (fun z => by have := z.1; omega)] at e1
  rw [if_neg (by omega)] at k2
  exact ⟨h1, e1, ⟨g1.fr fr (by decide) (by decide), k1, nx_le g3, (fr.sg (by decide)).trans g4, g5.fr fr (by decide) (by decide) (by decide) (by decide), k2⟩, (fr.2 119 (by decide)).1⟩
theorem tn5 (n : Nat) : ((5 : Int) * (n : Int)).toNat = 5 * n ∧ ((5 : Int) * (n : Int) + 1).toNat = 5 * n + 1 ∧ ((5 : Int) * (n : Int) + 2).toNat = 5 * n + 2 ∧ ((5 : Int) * (n : Int) + 3).toNat = 5 * n + 3 ∧ ((5 : Int) * (n : Int) + 4).toNat = 5 * n + 4 := by omega
theorem m_lay {h : Hp} {T : List Nat} {p n : Nat} {a : Alb} (g : RgM h T p n a (-1)) (hn : n < 24) (w x y z u : Nat) (W : List Nat) : ∃ h', F_X12_lay (iI (w : Int)) (iI (x : Int)) (iI (y : Int)) (iI (z : Int)) (iI (u : Int)) h = some ((), h') ∧ RgM h' T p n a (-1) ∧ ClM h' n (w, (x, y, z, u), W) ∧ ∀ i, i < 5 * n → aG h' 119 i = aG h 119 i := by
  obtain ⟨g1, g2, g3, g4, g5, g6⟩ := g
  have t := tn5 n
  have key : ∃ h', F_X12_lay (iI (w : Int)) (iI (x : Int)) (iI (y : Int)) (iI (z : Int)) (iI (u : Int)) h = some ((), h') ∧ ClM h' n (w, (x, y, z, u), W) ∧ ∀ i, i < 5 * n → aG h' 119 i = aG h 119 i := by
    unfold F_X12_lay ClM
    simp (maxSteps := 3000000) (implicitDefEqProofs := false) (disch := omega) only [jl_e, jn_e, bd_e, gd_t, iI_add, iI_sub, iI_mul, iI_neg, if_true, if_false, not_true_eq_false, not_false_eq_true, Int.reduceEq, Nat.add_zero, Int.toNat_natCast, iI_cl, iI_lt, iI_eq, gd_in, bI_eq0, bI_eq1, bI_isB, isB_0, isB_1, il_0, il_1, il_2, il_3, il_4, il_5, il_6, il_7, il_8, il_9, il_10, il_12, il_16, il_18, il_24, il_27, il_30, il_31, il_32, il_40, il_47, il_48, il_49, il_55, il_56, il_57, il_59, il_63, il_64, il_96, il_97, il_98, il_99, il_101, il_103, il_104, il_105, il_108, il_109, il_110, il_111, il_112, il_114, il_115, il_116, il_117, il_119, il_122, il_127, il_128, il_200, il_225, il_255, il_256, il_999, il_1575, il_9999, il_65536, il_252645135, il_858993459, il_1431655765, g6, g4, t.1, t.2.1, t.2.2.1, t.2.2.2.1, t.2.2.2.2]
    refine ⟨_, rfl, ⟨?_, ?_, ?_, ?_, ?_⟩, fun i hi => ?_⟩
    · simp (maxSteps := 3000000) (implicitDefEqProofs := false) (disch := omega) only [jl_e, jn_e, bd_e, gd_t, iI_add, iI_sub, iI_mul, iI_neg, if_true, if_false, not_true_eq_false, not_false_eq_true, Int.reduceEq, Nat.add_zero, Int.toNat_natCast, iI_cl, iI_lt, iI_eq, gd_in, bI_eq0, bI_eq1, bI_isB, isB_0, isB_1, il_0, il_1, il_2, il_3, il_4, il_5, il_6, il_7, il_8, il_9, il_10, il_12, il_16, il_18, il_24, il_27, il_30, il_31, il_32, il_40, il_47, il_48, il_49, il_55, il_56, il_57, il_59, il_63, il_64, il_96, il_97, il_98, il_99, il_101, il_103, il_104, il_105, il_108, il_109, il_110, il_111, il_112, il_114, il_115, il_116, il_117, il_119, il_122, il_127, il_128, il_200, il_225, il_255, il_256, il_999, il_1575, il_9999, il_65536, il_252645135, il_858993459, il_1431655765, aG_aS_s, aG_aS_j, aG_aS_k, aG_aV_s, aG_aV_k, aG_sS, aG_lS, aG_lV, aG_tS, aG_oS, sG_aS, sG_lS, sG_aV, sG_lV, sG_tS, sG_oS, sG_sS_s, sG_sS_n, lG_lS_s, lG_lS_j, lG_lS_k, lG_lV_s, lG_lV_k, lG_sS, lG_aS, lG_aV, lG_tS, lG_oS, tG_sS, tG_aS, tG_aV, tG_lS, tG_lV, tG_tS_s, tG_tS_n, oG_sS, oG_aS, oG_aV, oG_lS, oG_lV, oG_oS_s]
    · simp (maxSteps := 3000000) (implicitDefEqProofs := false) (disch := omega) only [jl_e, jn_e, bd_e, gd_t, iI_add, iI_sub, iI_mul, iI_neg, if_true, if_false, not_true_eq_false, not_false_eq_true, Int.reduceEq, Nat.add_zero, Int.toNat_natCast, iI_cl, iI_lt, iI_eq, gd_in, bI_eq0, bI_eq1, bI_isB, isB_0, isB_1, il_0, il_1, il_2, il_3, il_4, il_5, il_6, il_7, il_8, il_9, il_10, il_12, il_16, il_18, il_24, il_27, il_30, il_31, il_32, il_40, il_47, il_48, il_49, il_55, il_56, il_57, il_59, il_63, il_64, il_96, il_97, il_98, il_99, il_101, il_103, il_104, il_105, il_108, il_109, il_110, il_111, il_112, il_114, il_115, il_116, il_117, il_119, il_122, il_127, il_128, il_200, il_225, il_255, il_256, il_999, il_1575, il_9999, il_65536, il_252645135, il_858993459, il_1431655765, aG_aS_s, aG_aS_j, aG_aS_k, aG_aV_s, aG_aV_k, aG_sS, aG_lS, aG_lV, aG_tS, aG_oS, sG_aS, sG_lS, sG_aV, sG_lV, sG_tS, sG_oS, sG_sS_s, sG_sS_n, lG_lS_s, lG_lS_j, lG_lS_k, lG_lV_s, lG_lV_k, lG_sS, lG_aS, lG_aV, lG_tS, lG_oS, tG_sS, tG_aS, tG_aV, tG_lS, tG_lV, tG_tS_s, tG_tS_n, oG_sS, oG_aS, oG_aV, oG_lS, oG_lV, oG_oS_s]
    · simp (maxSteps := 3000000) (implicitDefEqProofs := false) (disch := omega) only [jl_e, jn_e, bd_e, gd_t, iI_add, iI_sub, iI_mul, iI_neg, if_true, if_false, not_true_eq_false, not_false_eq_true, Int.reduceEq, Nat.add_zero, Int.toNat_natCast, iI_cl, iI_lt, iI_eq, gd_in, bI_eq0, bI_eq1, bI_isB, isB_0, isB_1, il_0, il_1, il_2, il_3, il_4, il_5, il_6, il_7, il_8, il_9, il_10, il_12, il_16, il_18, il_24, il_27, il_30, il_31, il_32, il_40, il_47, il_48, il_49, il_55, il_56, il_57, il_59, il_63, il_64, il_96, il_97, il_98, il_99, il_101, il_103, il_104, il_105, il_108, il_109, il_110, il_111, il_112, il_114, il_115, il_116, il_117, il_119, il_122, il_127, il_128, il_200, il_225, il_255, il_256, il_999, il_1575, il_9999, il_65536, il_252645135, il_858993459, il_1431655765, aG_aS_s, aG_aS_j, aG_aS_k, aG_aV_s, aG_aV_k, aG_sS, aG_lS, aG_lV, aG_tS, aG_oS, sG_aS, sG_lS, sG_aV, sG_lV, sG_tS, sG_oS, sG_sS_s, sG_sS_n, lG_lS_s, lG_lS_j, lG_lS_k, lG_lV_s, lG_lV_k, lG_sS, lG_aS, lG_aV, lG_tS, lG_oS, tG_sS, tG_aS, tG_aV, tG_lS, tG_lV, tG_tS_s, tG_tS_n, oG_sS, oG_aS, oG_aV, oG_lS, oG_lV, oG_oS_s]
    · simp (maxSteps := 3000000) (implicitDefEqProofs := false) (disch := omega) only [jl_e, jn_e, bd_e, gd_t, iI_add, iI_sub, iI_mul, iI_neg, if_true, if_false, not_true_eq_false, not_false_eq_true, Int.reduceEq, Nat.add_zero, Int.toNat_natCast, iI_cl, iI_lt, iI_eq, gd_in, bI_eq0, bI_eq1, bI_isB, isB_0, isB_1, il_0, il_1, il_2, il_3, il_4, il_5, il_6, il_7, il_8, il_9, il_10, il_12, il_16, il_18, il_24, il_27, il_30, il_31, il_32, il_40, il_47, il_48, il_49, il_55, il_56, il_57, il_59, il_63, il_64, il_96, il_97, il_98, il_99, il_101, il_103, il_104, il_105, il_108, il_109, il_110, il_111, il_112, il_114, il_115, il_116, il_117, il_119, il_122, il_127, il_128, il_200, il_225, il_255, il_256, il_999, il_1575, il_9999, il_65536, il_252645135, il_858993459, il_1431655765, aG_aS_s, aG_aS_j, aG_aS_k, aG_aV_s, aG_aV_k, aG_sS, aG_lS, aG_lV, aG_tS, aG_oS, sG_aS, sG_lS, sG_aV, sG_lV, sG_tS, sG_oS, sG_sS_s, sG_sS_n, lG_lS_s, lG_lS_j, lG_lS_k, lG_lV_s, lG_lV_k, lG_sS, lG_aS, lG_aV, lG_tS, lG_oS, tG_sS, tG_aS, tG_aV, tG_lS, tG_lV, tG_tS_s, tG_tS_n, oG_sS, oG_aS, oG_aV, oG_lS, oG_lV, oG_oS_s]
    · simp (maxSteps := 3000000) (implicitDefEqProofs := false) (disch := omega) only [jl_e, jn_e, bd_e, gd_t, iI_add, iI_sub, iI_mul, iI_neg, if_true, if_false, not_true_eq_false, not_false_eq_true, Int.reduceEq, Nat.add_zero, Int.toNat_natCast, iI_cl, iI_lt, iI_eq, gd_in, bI_eq0, bI_eq1, bI_isB, isB_0, isB_1, il_0, il_1, il_2, il_3, il_4, il_5, il_6, il_7, il_8, il_9, il_10, il_12, il_16, il_18, il_24, il_27, il_30, il_31, il_32, il_40, il_47, il_48, il_49, il_55, il_56, il_57, il_59, il_63, il_64, il_96, il_97, il_98, il_99, il_101, il_103, il_104, il_105, il_108, il_109, il_110, il_111, il_112, il_114, il_115, il_116, il_117, il_119, il_122, il_127, il_128, il_200, il_225, il_255, il_256, il_999, il_1575, il_9999, il_65536, il_252645135, il_858993459, il_1431655765, aG_aS_s, aG_aS_j, aG_aS_k, aG_aV_s, aG_aV_k, aG_sS, aG_lS, aG_lV, aG_tS, aG_oS, sG_aS, sG_lS, sG_aV, sG_lV, sG_tS, sG_oS, sG_sS_s, sG_sS_n, lG_lS_s, lG_lS_j, lG_lS_k, lG_lV_s, lG_lV_k, lG_sS, lG_aS, lG_aV, lG_tS, lG_oS, tG_sS, tG_aS, tG_aV, tG_lS, tG_lV, tG_tS_s, tG_tS_n, oG_sS, oG_aS, oG_aV, oG_lS, oG_lV, oG_oS_s]
    · simp (maxSteps := 3000000) (implicitDefEqProofs := false) (disch := omega) only [jl_e, jn_e, bd_e, gd_t, iI_add, iI_sub, iI_mul, iI_neg, if_true, if_false, not_true_eq_false, not_false_eq_true, Int.reduceEq, Nat.add_zero, Int.toNat_natCast, iI_cl, iI_lt, iI_eq, gd_in, bI_eq0, bI_eq1, bI_isB, isB_0, isB_1, il_0, il_1, il_2, il_3, il_4, il_5, il_6, il_7, il_8, il_9, il_10, il_12, il_16, il_18, il_24, il_27, il_30, il_31, il_32, il_40, il_47, il_48, il_49, il_55, il_56, il_57, il_59, il_63, il_64, il_96, il_97, il_98, il_99, il_101, il_103, il_104, il_105, il_108, il_109, il_110, il_111, il_112, il_114, il_115, il_116, il_117, il_119, il_122, il_127, il_128, il_200, il_225, il_255, il_256, il_999, il_1575, il_9999, il_65536, il_252645135, il_858993459, il_1431655765, aG_aS_s, aG_aS_j, aG_aS_k, aG_aV_s, aG_aV_k, aG_sS, aG_lS, aG_lV, aG_tS, aG_oS, sG_aS, sG_lS, sG_aV, sG_lV, sG_tS, sG_oS, sG_sS_s, sG_sS_n, lG_lS_s, lG_lS_j, lG_lS_k, lG_lV_s, lG_lV_k, lG_sS, lG_aS, lG_aV, lG_tS, lG_oS, tG_sS, tG_aS, tG_aV, tG_lS, tG_lV, tG_tS_s, tG_tS_n, oG_sS, oG_aS, oG_aV, oG_lS, oG_lV, oG_oS_s]
  obtain ⟨h1, e1, c1, c2⟩ := key
  have f := fr_X12_lay _ _ _ _ _ _ _ _ e1
  exact ⟨h1, e1, ⟨g1.fr f (by decide) (by decide), (f.sg (by decide)).trans g2, g3, (f.sg (by decide)).trans g4, g5.fr f (by decide) (by decide) (by decide) (by decide), (f.sg (by decide)).trans g6⟩, c1, c2⟩
theorem m_layB {h : Hp} {f : Nat} (e : sG h 7494 = iI (f : Int)) (hf : f ≤ 200) (w x y z u : Int32) : F_X12_lay w x y z u h = some ((), h) := by
  unfold F_X12_lay
  simp (maxSteps := 3000000) (implicitDefEqProofs := false) (disch := omega) only [jl_e, jn_e, bd_e, gd_t, iI_add, iI_sub, iI_mul, iI_neg, if_true, if_false, not_true_eq_false, not_false_eq_true, Int.reduceEq, Nat.add_zero, Int.toNat_natCast, iI_cl, iI_lt, iI_eq, gd_in, bI_eq0, bI_eq1, bI_isB, isB_0, isB_1, il_0, il_1, il_2, il_3, il_4, il_5, il_6, il_7, il_8, il_9, il_10, il_12, il_16, il_18, il_24, il_27, il_30, il_31, il_32, il_40, il_47, il_48, il_49, il_55, il_56, il_57, il_59, il_63, il_64, il_96, il_97, il_98, il_99, il_101, il_103, il_104, il_105, il_108, il_109, il_110, il_111, il_112, il_114, il_115, il_116, il_117, il_119, il_122, il_127, il_128, il_200, il_225, il_255, il_256, il_999, il_1575, il_9999, il_65536, il_252645135, il_858993459, il_1431655765, e]
  rw [if_neg (by omega)]
def ClR (h h' : Hp) (T : List Nat) (n : Nat) (a : Alb) (r : Bool × Nat × Alb) : Prop := (∀ i, i < 5 * n → aG h' 119 i = aG h 119 i) ∧ (r.1 = true → RgM h' T r.2.1 n r.2.2 (-1) ∧ ∃ c, cl_ok a c ∧ cl_do a c = r.2.2 ∧ ClM h' n c) ∧ (r.1 = false → sG h' 7494 = iI (tk_s T r.2.1 : Int) ∧ r.2.1 ≤ T.length)
/-- a fault -/
theorem ClR.bad {h h' : Hp} {T : List Nat} {n : Nat} {a b : Alb} {p : Nat} (e0 : aF h' 119 = aF h 119) (e1 : sG h' 7494 = iI (tk_s T p : Int)) (hp : p ≤ T.length) : ClR h h' T n a (false, p, b) := ⟨fun i _ => congrFun e0 i, fun z => (by cases z), fun _ => ⟨e1, hp⟩⟩
theorem m_rdSun {h : Hp} {T : List Nat} (tb : TB T) {p n : Nat} {a : Alb} (hp : p ≤ T.length) (g : RgM h T (nx T p) n a (-1)) (hn : n < 24) : ∃ h', F_X12_readSun h = some ((), h') ∧ ClR h h' T n a (rd_sun T p a) := by
  have hl := tb.1
  have p1 := nx_le hp
  have p2 := nx_le p1
  have p3 := nx_le p2
  have s1 := (tk_s_le p1).2
  have s2 := (tk_s_le p2).2
  have s3 := (tk_s_le p3).2
  unfold F_X12_readSun rd_sun
  rw [il_18, il_30, il_1, il_9, il_40, il_0]
  obtain ⟨h1, y1, n1, a1⟩ := m_num tb g (lo := 18) (hi := 30) (by omega) (by omega)
  by_cases c1 : nok T (nx T p) 18 30 = true
  · obtain ⟨e1, g1⟩ := y1 c1
    obtain ⟨h2, y2, n2, a2⟩ := m_num tb g1 (lo := 1) (hi := 9) (by omega) (by omega)
    rw [if_pos c1, e1, bd_e]
    by_cases c2 : nok T (nx T (nx T p)) 1 9 = true
    · obtain ⟨e2, g2⟩ := y2 c2
      obtain ⟨h3, y3, n3, a3⟩ := m_num tb g2 (lo := 1) (hi := 40) (by omega) (by omega)
      rw [if_pos c2, e2, bd_e]
      by_cases c3 : nok T (nx T (nx T (nx T p))) 1 40 = true
      · obtain ⟨e3, g3⟩ := y3 c3
        have b1 := nb_p c1
        have b2 := nb_p c2
        have b3 := nb_p c3
        rw [if_pos c3, e3, bd_e]
        obtain ⟨h4, e4, g4, k4, a4⟩ := m_lay g3 hn 1 (nv T (nx T p)) (nv T (nx T (nx T p))) (nv T (nx T (nx T (nx T p)))) 0 []
        have e4' : F_X12_lay (iI 1) (iI (nv T (nx T p) : Int)) (iI (nv T (nx T (nx T p)) : Int)) (iI (nv T (nx T (nx T (nx T p))) : Int)) (iI 0) h3 = some ((), h4) := e4
        rw [e4', bd_e]
        have suk : su_ok (nv T (nx T p)) (nv T (nx T (nx T p))) (nv T (nx T (nx T (nx T p)))) := by
          unfold su_ok nv
          omega
        refine ⟨h4, rfl, fun i hi => ?_, fun _ => ⟨g4, _, ⟨show (1 : Nat) ≤ 4 by omega, fun _ => suk, fun z => absurd z (show ¬ (1 : Nat) = 2 by omega), fun z => absurd z (show ¬ (1 : Nat) = 3 by omega), fun z => absurd z (show ¬ (1 : Nat) = 4 by omega)⟩, rfl, k4⟩, fun z => (by cases z)⟩
        rw [a4 i hi, aG_F, a3, a2, a1]
        rfl
      · obtain ⟨e3, g3⟩ := n3 c3
        rw [if_neg c3, e3, bd_e, m_layB g3.2.2.2.2.2 (by omega), bd_e]
        exact ⟨h3, rfl, ClR.bad (by rw [a3, a2, a1]) g3.2.2.2.2.2 p3⟩
    · obtain ⟨e2, g2⟩ := n2 c2
      obtain ⟨h3, e3, g3, a3⟩ := m_numB tb g2 (by omega) (lo := 1) (hi := 40) (by omega) (by omega)
      rw [if_neg c2, e2, bd_e, e3, bd_e, m_layB g3.2.2.2.2.2 (by omega), bd_e]
      exact ⟨h3, rfl, ClR.bad (by rw [a3, a2, a1]) g3.2.2.2.2.2 p2⟩
  · obtain ⟨e1, g1⟩ := n1 c1
    obtain ⟨h2, e2, g2, a2⟩ := m_numB tb g1 (by omega) (lo := 1) (hi := 9) (by omega) (by omega)
    obtain ⟨h3, e3, g3, a3⟩ := m_numB tb g2 (by omega) (lo := 1) (hi := 40) (by omega) (by omega)
    rw [if_neg c1, e1, bd_e, e2, bd_e, e3, bd_e, m_layB g3.2.2.2.2.2 (by omega), bd_e]
    exact ⟨h3, rfl, ClR.bad (by rw [a3, a2, a1]) g3.2.2.2.2.2 p1⟩
theorem m_rdShadow {h : Hp} {T : List Nat} (tb : TB T) {p n : Nat} {a : Alb} (ok : al_ok a) (hp : p ≤ T.length) (g : RgM h T (nx T p) n a (-1)) (hn : n < 24) {m : Nat} (hm : m < 2) : ∃ h', F_X12_readPiece (iI (m : Int)) h = some ((), h') ∧ ClR h h' T n a (rd_shadow m T p a) := by
  have hl := tb.1
  have hnp := ok.2.1
  have m1 := al_most_le a m
  have m2 := al_msl_le m
  have p1 := nx_le hp
  have p2 := nx_le p1
  have p3 := nx_le p2
  have s1 := (tk_s_le p1).2
  have s2 := (tk_s_le p2).2
  have s3 := (tk_s_le p3).2
  have w2 : sG h 7497 - (1 : Int32) = iI (((al_w a).length : Int) - 1) := by
    rw [g.2.2.2.2.1.1, il_1, iI_sub]
  have v1 : (if iI (m : Int) = 0 then (24 : Int32) else 999) = iI (al_most a m : Int) := by
    have : m = 0 ∨ m = 1 := by omega
    rcases this with e | e <;> subst e <;> rfl
  have v2 : (if iI (m : Int) = 0 then (9 : Int32) else 99) = iI (al_msl m : Int) := by
    have : m = 0 ∨ m = 1 := by omega
    rcases this with e | e <;> subst e <;> rfl
  unfold F_X12_readPiece rd_shadow
  simp only [jn_if, v1, v2, w2]
  rw [il_0]
  obtain ⟨h1, y1, n1, a1⟩ := m_num tb g (lo := 0) (hi := ((al_w a).length : Int) - 1) (by omega) (by omega)
  by_cases c1 : nok T (nx T p) 0 (((al_w a).length : Int) - 1) = true
  · obtain ⟨e1, g1⟩ := y1 c1
    obtain ⟨h2, y2, n2, a2⟩ := m_num tb g1 (lo := 0) (hi := (al_most a m : Int)) (by omega) (by omega)
    rw [if_pos c1, e1, bd_e]
    by_cases c2 : nok T (nx T (nx T p)) 0 (al_most a m : Int) = true
    · obtain ⟨e2, g2⟩ := y2 c2
      obtain ⟨h3, y3, n3, a3⟩ := m_num tb g2 (lo := 0) (hi := (al_msl m : Int)) (by omega) (by omega)
      rw [if_pos c2, e2, bd_e]
      by_cases c3 : nok T (nx T (nx T (nx T p))) 0 (al_msl m : Int) = true
      · obtain ⟨e3, g3⟩ := y3 c3
        have b1 := nb_p c1
        have b2 := nb_p c2
        have b3 := nb_p c3
        rw [if_pos c3, e3, bd_e]
        obtain ⟨h4, e4, g4, k4, a4⟩ := m_lay g3 hn 4 (nv T (nx T p)) m (nv T (nx T (nx T p))) (nv T (nx T (nx T (nx T p)))) []
        have e4' : F_X12_lay (4 : Int32) (iI (nv T (nx T p) : Int)) (iI (m : Int)) (iI (nv T (nx T (nx T p)) : Int)) (iI (nv T (nx T (nx T (nx T p))) : Int)) h3 = some ((), h4) := e4
        rw [e4', bd_e]
        have ck : nv T (nx T p) < (al_w a).length ∧ m < 2 + (al_k a).length ∧ nv T (nx T (nx T p)) ≤ al_most a m ∧ nv T (nx T (nx T (nx T p))) ≤ al_msl m := by
          unfold nv
          omega
        have okp : al_ok (al_put a (8 * nv T (nx T p) + m) (nv T (nx T (nx T p))) (nv T (nx T (nx T (nx T p))))) := al_ok_set ok (pa_put ok.2.2.2.2.2 ck.1 hnp ck.2.1 ok.2.2.1 ck.2.2.1 ck.2.2.2)
        refine ⟨h4, rfl, fun i hi => ?_, fun _ => ⟨g4, _, ⟨show (4 : Nat) ≤ 4 by omega, fun z => absurd z (show ¬ (4 : Nat) = 1 by omega), fun z => absurd z (show ¬ (4 : Nat) = 2 by omega), fun z => absurd z (show ¬ (4 : Nat) = 3 by omega), fun _ => ck⟩, rfl, k4⟩, fun z => (by cases z)⟩
        rw [a4 i hi, aG_F, a3, a2, a1]
        rfl
      · obtain ⟨e3, g3⟩ := n3 c3
        rw [if_neg c3, e3, bd_e, m_layB g3.2.2.2.2.2 (by omega), bd_e]
        exact ⟨h3, rfl, ClR.bad (by rw [a3, a2, a1]) g3.2.2.2.2.2 p3⟩
    · obtain ⟨e2, g2⟩ := n2 c2
      obtain ⟨h3, e3, g3, a3⟩ := m_numB tb g2 (by omega) (lo := 0) (hi := (al_msl m : Int)) (by omega) (by omega)
      rw [if_neg c2, e2, bd_e, e3, bd_e, m_layB g3.2.2.2.2.2 (by omega), bd_e]
      exact ⟨h3, rfl, ClR.bad (by rw [a3, a2, a1]) g3.2.2.2.2.2 p2⟩
  · obtain ⟨e1, g1⟩ := n1 c1
    obtain ⟨h2, e2, g2, a2⟩ := m_numB tb g1 (by omega) (lo := 0) (hi := (al_most a m : Int)) (by omega) (by omega)
    obtain ⟨h3, e3, g3, a3⟩ := m_numB tb g2 (by omega) (lo := 0) (hi := (al_msl m : Int)) (by omega) (by omega)
    rw [if_neg c1, e1, bd_e, e2, bd_e, e3, bd_e, m_layB g3.2.2.2.2.2 (by omega), bd_e]
    exact ⟨h3, rfl, ClR.bad (by rw [a3, a2, a1]) g3.2.2.2.2.2 p1⟩
theorem m_rdSee {h : Hp} {T : List Nat} (tb : TB T) {p n : Nat} {a : Alb} (ok : al_ok a) (hp : p ≤ T.length) (g : RgM h T (nx T p) n a (-1)) (hn : n < 24) : ∃ h', F_X12_readSee h = some ((), h') ∧ ClR h h' T n a (rd_see T p a) := by
  have hl := tb.1
  have hnp := ok.2.1
  have hnt := ok.2.2.1
  have p1 := nx_le hp
  have p2 := nx_le p1
  have p3 := nx_le p2
  have s1 := (tk_s_le p1).2
  have s2 := (tk_s_le p2).2
  have s3 := (tk_s_le p3).2
  have w1 : sG h 7497 - (1 : Int32) = iI (((al_w a).length : Int) - 1) := by
    rw [g.2.2.2.2.1.1, il_1, iI_sub]
  unfold F_X12_readSee rd_see
  rw [w1, il_0]
  obtain ⟨h1, y1, n1, a1⟩ := m_num tb g (lo := 0) (hi := ((al_w a).length : Int) - 1) (by omega) (by omega)
  by_cases c1 : nok T (nx T p) 0 (((al_w a).length : Int) - 1) = true
  · obtain ⟨e1, g1⟩ := y1 c1
    have w2 : sG h1 7498 - (1 : Int32) = iI (((al_k a).length : Int) - 1) := by
      rw [g1.2.2.2.2.1.2.1, il_1, iI_sub]
    obtain ⟨h2, y2, n2, a2⟩ := m_num tb g1 (lo := 0) (hi := ((al_k a).length : Int) - 1) (by omega) (by omega)
    rw [if_pos c1, e1, bd_e, w2]
    by_cases c2 : nok T (nx T (nx T p)) 0 (((al_k a).length : Int) - 1) = true
    · obtain ⟨e2, g2⟩ := y2 c2
      have b2 := nb_p c2
      have tlt : nv T (nx T (nx T p)) < (al_k a).length := by unfold nv; omega
      have kd := g2.2.2.2.2.1.2.2.2 _ tlt
      have k3 := ok.2.2.2.2.1 _ tlt
      have m1 := al_most_le a (2 + nv T (nx T (nx T p)))
      have mv : al_most a (2 + nv T (nx T (nx T p))) = if al_kd a (nv T (nx T (nx T p))) = 3 then 9 else 1 := by
        unfold al_most
        rw [if_neg (by omega), if_neg (by omega), show 2 + nv T (nx T (nx T p)) - 2 = nv T (nx T (nx T p)) by omega]
      have ei : (2 : Int32) + iI (nv T (nx T (nx T p)) : Int) = iI ((2 + nv T (nx T (nx T p)) : Nat) : Int) := by
        rw [il_2, iI_add]
        exact iI_cg (by omega)
      obtain ⟨h3, y3, n3, a3⟩ := m_num tb g2 (lo := 0) (hi := (al_most a (2 + nv T (nx T (nx T p))) : Int)) (by omega) (by omega)
      have tail : ∃ h', bd (F_X12_number (iI 0) (iI (al_most a (2 + nv T (nx T (nx T p))) : Int)) h2) (fun r8 h9 => bd (F_X12_lay (4 : Int32) (iI (nv T (nx T p) : Int)) (iI ((2 + nv T (nx T (nx T p)) : Nat) : Int)) r8 (iI 0) h9) (fun _ h10 => some ((), h10))) = some ((), h') ∧ ClR h h' T n a (if nok T (nx T (nx T (nx T p))) 0 (al_most a (2 + nv T (nx T (nx T p))) : Int) then (true, nx T (nx T (nx T (nx T p))), al_put a (8 * nv T (nx T p) + (2 + nv T (nx T (nx T p)))) (nv T (nx T (nx T (nx T p)))) 0) else (false, nx T (nx T (nx T p)), a)) := by
        by_cases c3 : nok T (nx T (nx T (nx T p))) 0 (al_most a (2 + nv T (nx T (nx T p))) : Int) = true
        · obtain ⟨e3, g3⟩ := y3 c3
          have b1 := nb_p c1
          have b3 := nb_p c3
          rw [if_pos c3, e3, bd_e]
          obtain ⟨h4, e4, g4, k4, a4⟩ := m_lay g3 hn 4 (nv T (nx T p)) (2 + nv T (nx T (nx T p))) (nv T (nx T (nx T (nx T p)))) 0 []
          have e4' : F_X12_lay (4 : Int32) (iI (nv T (nx T p) : Int)) (iI ((2 + nv T (nx T (nx T p)) : Nat) : Int)) (iI (nv T (nx T (nx T (nx T p))) : Int)) (iI 0) h3 = some ((), h4) := e4
          rw [e4', bd_e]
          have ck : nv T (nx T p) < (al_w a).length ∧ 2 + nv T (nx T (nx T p)) < 2 + (al_k a).length ∧ nv T (nx T (nx T (nx T p))) ≤ al_most a (2 + nv T (nx T (nx T p))) ∧ 0 ≤ al_msl (2 + nv T (nx T (nx T p))) := by
            refine ⟨?_, by omega, ?_, Nat.zero_le _⟩
            · show tk_n T (tk_s T (nx T p)) < _
              omega
            · show tk_n T (tk_s T (nx T (nx T (nx T p)))) ≤ _
              omega
          refine ⟨h4, rfl, fun i hi => ?_, fun _ => ⟨g4, _, ⟨show (4 : Nat) ≤ 4 by omega, fun z => absurd z (show ¬ (4 : Nat) = 1 by omega), fun z => absurd z (show ¬ (4 : Nat) = 2 by omega), fun z => absurd z (show ¬ (4 : Nat) = 3 by omega), fun _ => ck⟩, rfl, k4⟩, fun z => (by cases z)⟩
          rw [a4 i hi, aG_F, a3, a2, a1]
          rfl
        · obtain ⟨e3, g3⟩ := n3 c3
          rw [if_neg c3, e3, bd_e, m_layB g3.2.2.2.2.2 (by omega), bd_e]
          exact ⟨h3, rfl, ClR.bad (by rw [a3, a2, a1]) g3.2.2.2.2.2 p3⟩
      rw [if_pos c2, e2, bd_e, jn_e, jn_e, g2.2.2.2.2.2, if_pos (show iI (-1) = -1 from rfl), gd_in (by omega) (by omega) (by omega), iI_cl (by omega) (by omega), Int.toNat_natCast, kd, ei]
      by_cases k9 : al_kd a (nv T (nx T (nx T p))) = 3
      · rw [if_pos (by rw [k9]; rfl)]
        have : iI (al_most a (2 + nv T (nx T (nx T p))) : Int) = 9 := by rw [mv, if_pos k9]; rfl
        rw [this] at tail
        exact tail
      · rw [if_neg (by rw [il_3, iI_eq (by omega) (by omega) (by omega) (by omega)]; omega)]
        have : iI (al_most a (2 + nv T (nx T (nx T p))) : Int) = 1 := by rw [mv, if_neg k9]; rfl
        rw [this] at tail
        exact tail
    · obtain ⟨e2, g2⟩ := n2 c2
      have ne : ¬ sG h2 7494 = -1 := by
        rw [g2.2.2.2.2.2, show (-1 : Int32) = iI (-1) from rfl, iI_eq (by omega) (by omega) (by omega) (by omega)]
        omega
      obtain ⟨h3, e3, g3, a3⟩ := m_numB tb g2 (by omega) (lo := 0) (hi := 1) (by omega) (by omega)
      have e3' : F_X12_number (iI 0) (1 : Int32) h2 = some (iI 0, h3) := e3
      rw [if_neg c2, e2, bd_e, jn_e, jn_e, if_neg ne]
      dsimp only
      rw [e3', bd_e, m_layB g3.2.2.2.2.2 (by omega), bd_e]
      exact ⟨h3, rfl, ClR.bad (by rw [a3, a2, a1]) g3.2.2.2.2.2 p2⟩
  · obtain ⟨e1, g1⟩ := n1 c1
    have w2 : sG h1 7498 - (1 : Int32) = iI (((al_k a).length : Int) - 1) := by
      rw [g1.2.2.2.2.1.2.1, il_1, iI_sub]
    obtain ⟨h2, e2, g2, a2⟩ := m_numB tb g1 (by omega) (lo := 0) (hi := ((al_k a).length : Int) - 1) (by omega) (by omega)
    have ne : ¬ sG h2 7494 = -1 := by
      rw [g2.2.2.2.2.2, show (-1 : Int32) = iI (-1) from rfl, iI_eq (by omega) (by omega) (by omega) (by omega)]
      omega
    obtain ⟨h3, e3, g3, a3⟩ := m_numB tb g2 (by omega) (lo := 0) (hi := 1) (by omega) (by omega)
    have e3' : F_X12_number (iI 0) (1 : Int32) h2 = some (iI 0, h3) := e3
    rw [if_neg c1, e1, bd_e, w2, e2, bd_e, jn_e, jn_e, if_neg ne]
    dsimp only
    rw [e3', bd_e, m_layB g3.2.2.2.2.2 (by omega), bd_e]
    exact ⟨h3, rfl, ClR.bad (by rw [a3, a2, a1]) g3.2.2.2.2.2 p1⟩
