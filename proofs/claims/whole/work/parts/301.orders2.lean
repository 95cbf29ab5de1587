-- ===== the class's Orders: how many, and the k-th =====
def or_nx (t : Nat) (h : Hp) (a : RA) (rm : Nat → Nat) (A : Nat) : Prop := aG h (t + 1) A = iI (nx_v a A (rm A)) ∧ (∀ p f, p < 7 → ro_nx (a.2) (al_S a).testBit A.testBit p = true → (rm A).testBit f = true → ro_f (ro_w a.2 p) f < 48 → (rm (A ||| 2 ^ p)).testBit (ro_f (ro_w a.2 p) f + 1) = true)
def or_wy (t : Nat) (h : Hp) (a : RA) (rm : Nat → Nat) (A : Nat) : Prop := ∀ f, (rm A).testBit f = true → aG h (t + 3) (A * 49 + f) = iI (ro_W (a.2) (al_S a) (ro_ct (al_S a) - ro_ct A) A f)
theorem ro_W_lt (ρ : RD) (S k A f : Nat) (hk : k ≤ 7) : ro_W ρ S k A f ≤ 823543 := by
  have h1 := ro_W_le ρ S k A f
  have h2 := Nat.pow_le_pow_right (n := 7) (by omega) hk
  have h3 : (7 : Nat) ^ 7 = 823543 := by decide
  omega
theorem sm_W_lt (ρ : RD) (S k A f i : Nat) (hk : k ≤ 6) (hi : i ≤ 7) : ro_sm (ro_tm ρ S k A f) i ≤ 823543 := by
  have h1 := ro_W_lt ρ S (k + 1) A f (by omega)
  rw [ro_W_succ] at h1
  have h2 := ro_sm_mono (ro_tm ρ S k A f) i (7 - i)
  rw [show i + (7 - i) = 7 by omega] at h2
  omega
theorem or_tm {t b : Nat} {h : Hp} {a : RA} (q : RuR b h a) (hnp : a.1 ≤ 7) {rm : Nat → Nat} (hm : rm_ok t h rm) {A f p : Nat} (hA : A < al_S a) (hn : or_nx t h a rm A) (hw : ∀ B, A < B → B ≤ al_S a → or_wy t h a rm B) (hf : (rm A).testBit f = true) (hp : p < 7) : F_X4_waysBy t b (iI A) (iI f) (iI p) h = some (iI (ro_tm (a.2) (al_S a) (ro_ct (al_S a) - ro_ct A - 1) A f p), h) := by
  have hS := al_S_lt hnp
  have hv := nx_v_lt a A (rm A)
  have hf49 : f < 49 := lo_lt (hm A (by omega)).2 hf
  have hr0 : rm A ≠ 0 := by
    intro z
    rw [z, Nat.zero_testBit] at hf
    cases hf
  rw [c_waysBy q hnp (show A < 128 by omega) hn.1 hv hp (fun y => (nx_v_np hp y).2.2) (by omega)]
  have e1 : (nx_v a A (rm A)).testBit p = ro_nx (a.2) (al_S a).testBit A.testBit p := by
    unfold nx_v
    rw [if_neg hr0, nx_m_tb hp]
  have e2 : ro_w (a.2) p = ro_w a.2 p := rfl
  rw [e1]
  unfold ro_tm
  rw [e2]
  by_cases c : ro_nx (a.2) (al_S a).testBit A.testBit p = true ∧ ro_f (ro_w a.2 p) f < 48
  · rw [if_pos c, if_pos c]
    have hs := ro_nx_S c.1
    have hx := al_S_or (Nat.le_of_lt hA) hs.1
    have hgt := ro_or_gt A (by omega) p hp hs.2
    have hct := ro_ct_or A (by omega) p hp hs.2
    rw [hw _ hgt hx _ (hn.2 p f hp c.1 hf c.2), hct]
    rw [show ro_ct (al_S a) - (ro_ct A + 1) = ro_ct (al_S a) - ro_ct A - 1 by omega]
  · rw [if_neg c, if_neg c]
    rfl
theorem c_countOn {t b : Nat} {h : Hp} {a : RA} (q : RuR b h a) (hnp : a.1 ≤ 7) (hd : b + 6 < t ∨ t + 3 < b) {A : Nat} (hA : A ≤ al_S a) {rm : Nat → Nat} (hm : rm_ok t h rm) (hn : A < al_S a → or_nx t h a rm A) (hw : ∀ B, A < B → B ≤ al_S a → or_wy t h a rm B) : ∃ h', F_X4_countOn t b (iI A) (iI (al_S a)) h = some ((), h') ∧ or_wy t h' a rm A ∧ (∀ j, (j < A * 49 ∨ A * 49 + 49 ≤ j) → aG h' (t + 3) j = aG h (t + 3) j) := by
  have hS := al_S_lt hnp
  have hctS := ro_ct_le _ hS
  have hcl := ro_ct_sub A (by omega) _ hS (al_S_sub hA)
  have e0 := hm A (by omega)
  obtain ⟨m, em⟩ : ∃ m, rm A = m := ⟨_, rfl⟩
  rw [em] at e0
  have hN := pcn_le m
  unfold F_X4_countOn
  rw [jn_e]
  have c1 : ¬ iI (A : Int) < (0 : Int32) := by
    rw [il_0, iI_lt (by omega) (by omega) (by omega) (by omega)]; omega
  have c2 : iI (A : Int) < (128 : Int32) := by
    rw [il_128, iI_lt (by omega) (by omega) (by omega) (by omega)]; omega
  have c3 : inb (iI (A : Int)) 128 = true := iI_inb (by omega) (by omega) (by omega)
  have c4 : (iI (A : Int)).toNatClampNeg = A := by rw [iI_cl (by omega) (by omega)]; rfl
  rw [if_neg c1, if_pos c2, gd_e c3, jl_e, c4, e0.1, c_bitCountL (by omega), bd_e]
  refine lp_up (α := Int64 → Int32 → Hp → Option (Unit × Hp)) (P := fun i c => ∀ (y : Int64) (v : Int32) (h1 : Hp) (r : Nat), (∀ j, r.testBit j = true → m.testBit j = true) → r ≤ m → pcn 8 r + i = pcn 8 m → y = lN r → v = iI i → FrX [] [t + 3] h h1 → (∀ j, (j < A * 49 ∨ A * 49 + 49 ≤ j) → aG h1 (t + 3) j = aG h (t + 3) j) → (∀ f, (nd m r).testBit f = true → aG h1 (t + 3) (A * 49 + f) = iI (ro_W (a.2) (al_S a) (ro_ct (al_S a) - ro_ct A) A f)) → ∃ h', c y v h1 = some ((), h') ∧ or_wy t h' a rm A ∧ (∀ j, (j < A * 49 ∨ A * 49 + 49 ≤ j) → aG h' (t + 3) j = aG h (t + 3) j)) (pcn 8 m) (by omega) (fun i c hi ih => ?_) _ _ h m (fun _ z => z) (Nat.le_refl _) (by omega) rfl rfl (FrX.refl _ _ _) (fun _ _ => rfl) (fun f hf => ?_)
  · intro y v h1 r i1 i2 i3 hy hv g0 g1 g2
    subst hy hv
    by_cases z : i < pcn 8 m
    · obtain ⟨k, k1, k2, k3, k4, k5⟩ := lo_step (r := r) (by omega) i3 z
      have hkm := i1 k k2
      have hk : k < 49 := lo_lt e0.2 hkm
      have nxt := ih z
      have q1 : RuR b h1 a := q.fr g0 (by simp) (by simp; omega) (by simp; omega) (by simp; omega) (by simp; omega)
      have m1 : rm_ok t h1 rm := fun B hB => ⟨(g0.lg (by simp) B).trans (hm B hB).1, (hm B hB).2⟩
      have w1 : ∀ B, A < B → B ≤ al_S a → or_wy t h1 a rm B := by
        intro B hB hB2 f hf
        have hf49 : f < 49 := lo_lt (hm B (by omega)).2 hf
        rw [g1 _ (by omega)]
        exact hw B hB hB2 f hf
      have fin : ∀ h2 : Hp, FrX [] [t + 3] h h2 → (∀ j, j ≠ A * 49 + k → aG h2 (t + 3) j = aG h1 (t + 3) j) → aG h2 (t + 3) (A * 49 + k) = iI (ro_W (a.2) (al_S a) (ro_ct (al_S a) - ro_ct A) A k) → ∃ h', c (lN (nd r (2 ^ k))) (iI ((i : Int) + 1)) h2 = some ((), h') ∧ or_wy t h' a rm A ∧ (∀ j, (j < A * 49 ∨ A * 49 + 49 ≤ j) → aG h' (t + 3) j = aG h (t + 3) j) := by
        intro h2 f2 o2 v2
        refine nxt _ _ h2 (nd r (2 ^ k)) (nd_sub i1) (Nat.le_trans (nd_le _ _) i2) k5 rfl (iI_cg (by omega)) f2 (fun j hj => ?_) (fun f hf => ?_)
        · rw [o2 j (by omega)]; exact g1 j hj
        · by_cases u : f = k
          · subst u; exact v2
          · rw [o2 _ (by omega)]
            apply g2
            rw [nd_tb, nd_tb, Nat.testBit_two_pow, show decide (k = f) = false from decide_eq_false (fun w => u w.symm)] at hf
            rw [nd_tb]
            simpa using hf
      by_cases cA : A = al_S a
      · have eW : ro_W (a.2) (al_S a) (ro_ct (al_S a) - ro_ct A) A k = 1 := by
          rw [cA, Nat.sub_self]; rfl
        rw [eW] at fin
        subst cA
        simp (maxSteps := 3000000) (implicitDefEqProofs := false) (disch := omega) only [jl_e, jn_e, bd_e, gd_t, iI_add, iI_sub, iI_mul, iI_neg, if_true, if_false, not_true_eq_false, not_false_eq_true, Int.reduceEq, Nat.add_zero, Int.toNat_natCast, iI_cl, iI_lt, iI_eq, gd_in, bI_eq0, bI_eq1, bI_isB, isB_0, isB_1, il_0, il_1, il_2, il_3, il_4, il_5, il_6, il_7, il_8, il_9, il_10, il_12, il_16, il_18, il_24, il_27, il_30, il_31, il_32, il_40, il_47, il_48, il_49, il_55, il_56, il_57, il_59, il_63, il_64, il_96, il_97, il_98, il_99, il_101, il_103, il_104, il_105, il_108, il_109, il_110, il_111, il_112, il_114, il_115, il_116, il_117, il_119, il_122, il_127, il_128, il_200, il_225, il_255, il_256, il_999, il_1575, il_9999, il_65536, il_252645135, il_858993459, il_1431655765, k3 h1]
        rw [if_pos (by omega)]
        rw [show (4000000000 : Nat) = 3999999999 + 1 from rfl, lp_s]
        simp (maxSteps := 3000000) (implicitDefEqProofs := false) (disch := omega) only [jl_e, jn_e, bd_e, gd_t, iI_add, iI_sub, iI_mul, iI_neg, if_true, if_false, not_true_eq_false, not_false_eq_true, Int.reduceEq, Nat.add_zero, Int.toNat_natCast, iI_cl, iI_lt, iI_eq, gd_in, bI_eq0, bI_eq1, bI_isB, isB_0, isB_1, il_0, il_1, il_2, il_3, il_4, il_5, il_6, il_7, il_8, il_9, il_10, il_12, il_16, il_18, il_24, il_27, il_30, il_31, il_32, il_40, il_47, il_48, il_49, il_55, il_56, il_57, il_59, il_63, il_64, il_96, il_97, il_98, il_99, il_101, il_103, il_104, il_105, il_108, il_109, il_110, il_111, il_112, il_114, il_115, il_116, il_117, il_119, il_122, il_127, il_128, il_200, il_225, il_255, il_256, il_999, il_1575, il_9999, il_65536, il_252645135, il_858993459, il_1431655765, k4]
        rw [if_pos (by omega), if_pos (by omega), show (((al_S a : Nat) : Int) * 49 + (k : Int)).toNat = al_S a * 49 + k by omega]
        exact fin _ (g0.aS (by simp) _ _) (fun j hj => aG_aS_j hj _ _ _) (aG_aS_s _ _ _ _)
      · have hA3 : A < al_S a := by omega
        have hn1 : or_nx t h1 a rm A := ⟨(g0.ag (by simp) A).trans (hn hA3).1, (hn hA3).2⟩
        have hct1 : ro_ct A < ro_ct (al_S a) := by
          refine Nat.lt_of_not_le (fun z => cA ?_)
          exact ro_ct_eq A (by omega) _ hS (al_S_sub hA) z
        have eW : ro_W (a.2) (al_S a) (ro_ct (al_S a) - ro_ct A) A k = ro_sm (ro_tm (a.2) (al_S a) (ro_ct (al_S a) - ro_ct A - 1) A k) 7 := by
          rw [show ro_ct (al_S a) - ro_ct A = (ro_ct (al_S a) - ro_ct A - 1) + 1 by omega, ro_W_succ]
          rfl
        rw [eW] at fin
        simp (maxSteps := 3000000) (implicitDefEqProofs := false) (disch := omega) only [jl_e, jn_e, bd_e, gd_t, iI_add, iI_sub, iI_mul, iI_neg, if_true, if_false, not_true_eq_false, not_false_eq_true, Int.reduceEq, Nat.add_zero, Int.toNat_natCast, iI_cl, iI_lt, iI_eq, gd_in, bI_eq0, bI_eq1, bI_isB, isB_0, isB_1, il_0, il_1, il_2, il_3, il_4, il_5, il_6, il_7, il_8, il_9, il_10, il_12, il_16, il_18, il_24, il_27, il_30, il_31, il_32, il_40, il_47, il_48, il_49, il_55, il_56, il_57, il_59, il_63, il_64, il_96, il_97, il_98, il_99, il_101, il_103, il_104, il_105, il_108, il_109, il_110, il_111, il_112, il_114, il_115, il_116, il_117, il_119, il_122, il_127, il_128, il_200, il_225, il_255, il_256, il_999, il_1575, il_9999, il_65536, il_252645135, il_858993459, il_1431655765, k3 h1]
        rw [if_pos (by omega), if_neg (by omega)]
        refine lp_up (α := Int32 → Int32 → Hp → Option (Unit × Hp)) (P := fun p c18 => ∀ (x y : Int32), x = iI (ro_sm (ro_tm (a.2) (al_S a) (ro_ct (al_S a) - ro_ct A - 1) A k) p) → y = iI p → ∃ h', c18 x y h1 = some ((), h') ∧ or_wy t h' a rm A ∧ (∀ j, (j < A * 49 ∨ A * 49 + 49 ≤ j) → aG h' (t + 3) j = aG h (t + 3) j)) 7 (by omega) (fun p c18 hp jh => ?_) _ _ rfl rfl
        intro x y hx hy
        subst hx hy
        have hsm := sm_W_lt (a.2) (al_S a) (ro_ct (al_S a) - ro_ct A - 1) A k p (by omega) hp
        by_cases zp : p < 7
        · have nx2 := jh zp
          have hby := or_tm q1 hnp m1 hA3 hn1 w1 (em ▸ hkm : (rm A).testBit k = true) zp
          simp (maxSteps := 3000000) (implicitDefEqProofs := false) (disch := omega) only [jl_e, jn_e, bd_e, gd_t, iI_add, iI_sub, iI_mul, iI_neg, if_true, if_false, not_true_eq_false, not_false_eq_true, Int.reduceEq, Nat.add_zero, Int.toNat_natCast, iI_cl, iI_lt, iI_eq, gd_in, bI_eq0, bI_eq1, bI_isB, isB_0, isB_1, il_0, il_1, il_2, il_3, il_4, il_5, il_6, il_7, il_8, il_9, il_10, il_12, il_16, il_18, il_24, il_27, il_30, il_31, il_32, il_40, il_47, il_48, il_49, il_55, il_56, il_57, il_59, il_63, il_64, il_96, il_97, il_98, il_99, il_101, il_103, il_104, il_105, il_108, il_109, il_110, il_111, il_112, il_114, il_115, il_116, il_117, il_119, il_122, il_127, il_128, il_200, il_225, il_255, il_256, il_999, il_1575, il_9999, il_65536, il_252645135, il_858993459, il_1431655765, hby]
          rw [if_pos (by omega), if_neg (by omega)]
          refine nx2 _ _ ?_ (iI_cg (by omega))
          exact iI_cg (by show _ = ((ro_sm _ p + _ : Nat) : Int); omega)
        · have e7 : p = 7 := by omega
          subst e7
          simp (maxSteps := 3000000) (implicitDefEqProofs := false) (disch := omega) only [jl_e, jn_e, bd_e, gd_t, iI_add, iI_sub, iI_mul, iI_neg, if_true, if_false, not_true_eq_false, not_false_eq_true, Int.reduceEq, Nat.add_zero, Int.toNat_natCast, iI_cl, iI_lt, iI_eq, gd_in, bI_eq0, bI_eq1, bI_isB, isB_0, isB_1, il_0, il_1, il_2, il_3, il_4, il_5, il_6, il_7, il_8, il_9, il_10, il_12, il_16, il_18, il_24, il_27, il_30, il_31, il_32, il_40, il_47, il_48, il_49, il_55, il_56, il_57, il_59, il_63, il_64, il_96, il_97, il_98, il_99, il_101, il_103, il_104, il_105, il_108, il_109, il_110, il_111, il_112, il_114, il_115, il_116, il_117, il_119, il_122, il_127, il_128, il_200, il_225, il_255, il_256, il_999, il_1575, il_9999, il_65536, il_252645135, il_858993459, il_1431655765, k4]
          rw [if_neg (by omega), if_pos (by omega)]
          (try simp (maxSteps := 3000000) (implicitDefEqProofs := false) (disch := omega) only [jl_e, jn_e, bd_e, gd_t, iI_add, iI_sub, iI_mul, iI_neg, if_true, if_false, not_true_eq_false, not_false_eq_true, Int.reduceEq, Nat.add_zero, Int.toNat_natCast, iI_cl, iI_lt, iI_eq, gd_in, bI_eq0, bI_eq1, bI_isB, isB_0, isB_1, il_0, il_1, il_2, il_3, il_4, il_5, il_6, il_7, il_8, il_9, il_10, il_12, il_16, il_18, il_24, il_27, il_30, il_31, il_32, il_40, il_47, il_48, il_49, il_55, il_56, il_57, il_59, il_63, il_64, il_96, il_97, il_98, il_99, il_101, il_103, il_104, il_105, il_108, il_109, il_110, il_111, il_112, il_114, il_115, il_116, il_117, il_119, il_122, il_127, il_128, il_200, il_225, il_255, il_256, il_999, il_1575, il_9999, il_65536, il_252645135, il_858993459, il_1431655765, k4])
          rw [show ((A : Int) * 49 + (k : Int)).toNat = A * 49 + k by omega]
          exact fin _ (g0.aS (by simp) _ _) (fun j hj => aG_aS_j hj _ _ _) (aG_aS_s _ _ _ _)
    · simp (maxSteps := 3000000) (implicitDefEqProofs := false) (disch := omega) only [jl_e, jn_e, bd_e, gd_t, iI_add, iI_sub, iI_mul, iI_neg, if_true, if_false, not_true_eq_false, not_false_eq_true, Int.reduceEq, Nat.add_zero, Int.toNat_natCast, iI_cl, iI_lt, iI_eq, gd_in, bI_eq0, bI_eq1, bI_isB, isB_0, isB_1, il_0, il_1, il_2, il_3, il_4, il_5, il_6, il_7, il_8, il_9, il_10, il_12, il_16, il_18, il_24, il_27, il_30, il_31, il_32, il_40, il_47, il_48, il_49, il_55, il_56, il_57, il_59, il_63, il_64, il_96, il_97, il_98, il_99, il_101, il_103, il_104, il_105, il_108, il_109, il_110, il_111, il_112, il_114, il_115, il_116, il_117, il_119, il_122, il_127, il_128, il_200, il_225, il_255, il_256, il_999, il_1575, il_9999, il_65536, il_252645135, il_858993459, il_1431655765]
      rw [if_neg (by omega)]
      have r0 : r = 0 := by
        refine Classical.byContradiction fun n => ?_
        obtain ⟨k, h1, h2⟩ := lo_ex n
        have hk := lo_lt e0.2 (i1 k h1)
        have := pcn_clear (n := r) (k := k) (by omega) h1
        omega
      subst r0
      refine ⟨_, rfl, fun f hf => g2 f ?_, g1⟩
      rw [em] at hf
      rw [nd_tb, hf]
      simp
  · rw [nd_tb] at hf
    cases hb : m.testBit f with
    | false => rw [hb] at hf; cases hf
    | true => rw [hb] at hf; cases hf
