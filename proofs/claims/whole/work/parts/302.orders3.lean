-- ===== the class's Orders, sought =====
theorem j_fillL (a n : Nat) (x : Int64) (h : Hp) (hn : n < 1000000) : F_J7_fill_d0a16 a n x h = some ((), lV h a (fun i => if i < n then x else lG h a i)) := by
  unfold F_J7_fill_d0a16
  rw [jl_e]
  have key := lp_up (α := Int32 → Hp → Option (Unit × Hp)) (bot := fun _ _ => none) (body := fun (c4 : Int32 → Hp → Option (Unit × Hp)) (v2 : Int32) (h3 : Hp) =>
    if v2 < Int32.ofNat n then (gd (inb v2 n) (jl (lS h3 a v2.toNatClampNeg x) (fun h5 => c4 (v2 + (1 : Int32)) h5))) else (some ((), h3)))
    (P := fun k c => c (iI k) (lV h a (fun i => if i < k then x else lG h a i)) = some ((), lV h a (fun i => if i < n then x else lG h a i))) n (by omega) (fun k c hk ih => by
      have e : Int32.ofNat n = iI n := nI_iI n
      simp (maxSteps := 3000000) (implicitDefEqProofs := false) (disch := omega) only [jl_e, jn_e, bd_e, gd_t, iI_add, iI_sub, iI_mul, iI_neg, if_true, if_false, not_true_eq_false, not_false_eq_true, Int.reduceEq, Nat.add_zero, Int.toNat_natCast, iI_cl, iI_lt, iI_eq, gd_in, bI_eq0, bI_eq1, bI_isB, isB_0, isB_1, il_0, il_1, il_2, il_3, il_4, il_5, il_6, il_7, il_8, il_9, il_10, il_12, il_16, il_18, il_24, il_27, il_30, il_31, il_32, il_40, il_47, il_48, il_49, il_55, il_56, il_57, il_59, il_63, il_64, il_96, il_97, il_98, il_99, il_101, il_103, il_104, il_105, il_108, il_109, il_110, il_111, il_112, il_114, il_115, il_116, il_117, il_119, il_122, il_127, il_128, il_200, il_225, il_255, il_256, il_999, il_1575, il_9999, il_65536, il_252645135, il_858993459, il_1431655765, e]
      by_cases z : k < n
      · rw [if_pos (by omega)]
        rw [← ih z]
        congr 1
        · rw [lS_V, lV_lV]
          congr 1
          funext i
          rw [lF_lV_s]
          by_cases c : i = k
          · subst c; rw [updL_s, if_pos (by omega)]
          · rw [updL_n c]
            by_cases d : i < k
            · rw [if_pos d, if_pos (by omega)]
            · rw [if_neg d, if_neg (by omega)]
      · rw [if_neg (by omega), show k = n by omega])
  have e0 : lV h a (fun i => if i < 0 then x else lG h a i) = h := by
    have : (fun i => if i < 0 then x else lG h a i) = lF h a := by
      funext i
      rw [if_neg (by omega)]
      rfl
    rw [this, lV_self]
  rw [e0] at key
  exact key
/-- the orders at t stand for the album's, by the rules at b -/
def OrC (t b : Nat) (h : Hp) (a : RA) : Prop := oG h (64 * t + 2) = some b ∧ sG h (64 * t + 1) = iI (ro_rows (a.2) (al_S a)).length ∧ ∃ rm, rm_ok t h rm ∧ (rm 0).testBit 0 = true ∧ (∀ A, A < al_S a → or_nx t h a rm A) ∧ (∀ A, A ≤ al_S a → or_wy t h a rm A)
theorem c_seek {t b : Nat} {h : Hp} {a : RA} (hr : ro_ok a.2) (q : RuR b h a) (hnp : a.1 ≤ 7) (hd : b + 6 < t ∨ t + 3 < b) : ∃ h', F_X4_seek t b h = some ((), h') ∧ sG h' (64 * t) = iI 1 ∧ OrC t b h' a := by
  have hS := al_S_lt hnp
  have f0 : FrX [64 * t + 2] [] h (oS h (64 * t + 2) (some b)) := (FrX.refl _ _ h).oS (by simp) _
  have q0 : RuR b (oS h (64 * t + 2) (some b)) a := q.fr f0 (by simp; omega) (by simp) (by simp) (by simp) (by simp)
  unfold F_X4_seek
  rw [jl_e, c_everyone q0 hnp, bd_e, j_fillL _ _ _ _ (by omega), bd_e, gd_e (by decide), jl_e]
  have e0 : (0 : Int32).toNatClampNeg = 0 := by decide
  rw [e0]
  obtain ⟨h5, e5⟩ : ∃ h5, lS (lV (oS h (64 * t + 2) (some b)) (t + 2) (fun i => if i < 128 then (0 : Int64) else lG (oS h (64 * t + 2) (some b)) (t + 2) i)) (t + 2) 0 (1 : Int64) = h5 := ⟨_, rfl⟩
  have f5 : FrX [64 * t + 2] [t + 1, t + 2, t + 3] h h5 := by
    rw [← e5]
    exact (((FrX.refl _ _ h).oS (by simp) _).lV (by simp) _).lS (by simp) _ _
  have o5 : oG h5 (64 * t + 2) = some b := by rw [← e5]; exact oG_oS_s _ _ _
  have m5 : rm_ok t h5 (fun B => if B = 0 then 1 else 0) := by
    intro B hB
    rw [← e5]
    dsimp only
    by_cases c : B = 0
    · subst c
      rw [lG_lS_s, if_pos rfl]
      exact ⟨rfl, by decide⟩
    · rw [lG_lS_j c, lG_lV_s, if_pos hB, if_neg c]
      exact ⟨rfl, by decide⟩
  rw [e5]
  refine lp_up (α := Int32 → Hp → Option (Unit × Hp)) (P := fun k c => ∀ (v : Int32) (h1 : Hp) (rm : Nat → Nat), v = iI k → FrX [64 * t + 2] [t + 1, t + 2, t + 3] h h1 → oG h1 (64 * t + 2) = some b → rm_ok t h1 rm → (rm 0).testBit 0 = true → (∀ A, A < k → or_nx t h1 a rm A) → ∃ h', c v h1 = some ((), h') ∧ sG h' (64 * t) = iI 1 ∧ OrC t b h' a) (al_S a) (by omega) (fun k c hk ih => ?_) _ h5 _ rfl f5 o5 m5 (by decide) (fun A hA => absurd hA (Nat.not_lt_zero A))
  intro v h1 rm hv g0 g1 g2 g3 g4
  subst hv
  have q1 : RuR b h1 a := q.fr g0 (by simp; omega) (by simp; omega) (by simp; omega) (by simp; omega) (by simp; omega)
  have eS : ((2 ^ a.1 - 1 : Nat) : Int) = ((al_S a : Nat) : Int) := rfl
  rw [eS]
  by_cases z : k < al_S a
  · obtain ⟨h2, rm2, e1, r1, r2, r3, r4, r5, r6⟩ := c_reachOn q1 hnp (t := t) (by omega) z g2
    have fr := fr_X4_reachOn _ _ _ _ _ _ _ e1
    simp (maxSteps := 3000000) (implicitDefEqProofs := false) (disch := omega) only [jl_e, jn_e, bd_e, gd_t, iI_add, iI_sub, iI_mul, iI_neg, if_true, if_false, not_true_eq_false, not_false_eq_true, Int.reduceEq, Nat.add_zero, Int.toNat_natCast, iI_cl, iI_lt, iI_eq, gd_in, bI_eq0, bI_eq1, bI_isB, isB_0, isB_1, il_0, il_1, il_2, il_3, il_4, il_5, il_6, il_7, il_8, il_9, il_10, il_12, il_16, il_18, il_24, il_27, il_30, il_31, il_32, il_40, il_47, il_48, il_49, il_55, il_56, il_57, il_59, il_63, il_64, il_96, il_97, il_98, il_99, il_101, il_103, il_104, il_105, il_108, il_109, il_110, il_111, il_112, il_114, il_115, il_116, il_117, il_119, il_122, il_127, il_128, il_200, il_225, il_255, il_256, il_999, il_1575, il_9999, il_65536, il_252645135, il_858993459, il_1431655765, e1]
    rw [if_pos (by omega)]
    refine ih z _ h2 rm2 (iI_cg (by omega)) (g0.sub fr (by simp) (by simp)) ((fr.og (by simp)).trans g1) r1 (r2 _ _ g3) (fun A hA => ?_)
    by_cases u : A = k
    · subst u
      refine ⟨by rw [r4, r3 A (Nat.le_refl _)], fun p f hp w1 w2 w3 => ?_⟩
      rw [r3 A (Nat.le_refl _)] at w2
      exact r6 p f hp w1 w2 w3
    · have hA2 := g4 A (by omega)
      refine ⟨by rw [r5 A u, r3 A (by omega)]; exact hA2.1, fun p f hp w1 w2 w3 => ?_⟩
      rw [r3 A (by omega)] at w2
      exact r2 _ _ (hA2.2 p f hp w1 w2 w3)
  · have ek : k = al_S a := by omega
    simp (maxSteps := 3000000) (implicitDefEqProofs := false) (disch := omega) only [jl_e, jn_e, bd_e, gd_t, iI_add, iI_sub, iI_mul, iI_neg, if_true, if_false, not_true_eq_false, not_false_eq_true, Int.reduceEq, Nat.add_zero, Int.toNat_natCast, iI_cl, iI_lt, iI_eq, gd_in, bI_eq0, bI_eq1, bI_isB, isB_0, isB_1, il_0, il_1, il_2, il_3, il_4, il_5, il_6, il_7, il_8, il_9, il_10, il_12, il_16, il_18, il_24, il_27, il_30, il_31, il_32, il_40, il_47, il_48, il_49, il_55, il_56, il_57, il_59, il_63, il_64, il_96, il_97, il_98, il_99, il_101, il_103, il_104, il_105, il_108, il_109, il_110, il_111, il_112, il_114, il_115, il_116, il_117, il_119, il_122, il_127, il_128, il_200, il_225, il_255, il_256, il_999, il_1575, il_9999, il_65536, il_252645135, il_858993459, il_1431655765]
    rw [if_neg (by omega)]
    have g4' : ∀ A, A < al_S a → or_nx t h1 a rm A := fun A hA => g4 A (by omega)
    refine lp_up (α := Int32 → Hp → Option (Unit × Hp)) (P := fun i c => ∀ (v : Int32) (h2 : Hp), v = iI ((al_S a : Int) - i) → FrX [] [t + 3] h1 h2 → (∀ A, A ≤ al_S a → al_S a < A + i → or_wy t h2 a rm A) → ∃ h', c v h2 = some ((), h') ∧ sG h' (64 * t) = iI 1 ∧ OrC t b h' a) (al_S a + 1) (by omega) (fun i c12 hi jh => ?_) _ h1 (iI_cg (by omega)) (FrX.refl _ _ _) (fun A h1 h2 => absurd h2 (by omega))
    intro v h2 hv k0 k1
    subst hv
    have q2 : RuR b h2 a := q1.fr k0 (by simp) (by simp; omega) (by simp; omega) (by simp; omega) (by simp; omega)
    have m2 : rm_ok t h2 rm := fun B hB => ⟨(k0.lg (by simp) B).trans (g2 B hB).1, (g2 B hB).2⟩
    have n2 : ∀ A, A < al_S a → or_nx t h2 a rm A := fun A hA => ⟨(k0.ag (by simp) A).trans (g4' A hA).1, (g4' A hA).2⟩
    by_cases y : i < al_S a + 1
    · obtain ⟨A, hA⟩ : ∃ A, al_S a - i = A := ⟨_, rfl⟩
      have eA : (al_S a : Int) - i = (A : Int) := by omega
      obtain ⟨h3, e1, w1, w2⟩ := c_countOn q2 hnp (t := t) (by omega) (A := A) (by omega) m2 (fun z => n2 A z) (fun B hB hB2 => k1 B hB2 (by omega))
      have fr := fr_X4_countOn _ _ _ _ _ _ _ e1
      rw [eA]
      simp (maxSteps := 3000000) (implicitDefEqProofs := false) (disch := omega) only [jl_e, jn_e, bd_e, gd_t, iI_add, iI_sub, iI_mul, iI_neg, if_true, if_false, not_true_eq_false, not_false_eq_true, Int.reduceEq, Nat.add_zero, Int.toNat_natCast, iI_cl, iI_lt, iI_eq, gd_in, bI_eq0, bI_eq1, bI_isB, isB_0, isB_1, il_0, il_1, il_2, il_3, il_4, il_5, il_6, il_7, il_8, il_9, il_10, il_12, il_16, il_18, il_24, il_27, il_30, il_31, il_32, il_40, il_47, il_48, il_49, il_55, il_56, il_57, il_59, il_63, il_64, il_96, il_97, il_98, il_99, il_101, il_103, il_104, il_105, il_108, il_109, il_110, il_111, il_112, il_114, il_115, il_116, il_117, il_119, il_122, il_127, il_128, il_200, il_225, il_255, il_256, il_999, il_1575, il_9999, il_65536, il_252645135, il_858993459, il_1431655765, e1]
      rw [if_neg (by omega)]
      refine jh y _ h3 (iI_cg (by omega)) (k0.sub fr (by simp) (by simp)) (fun B hB hB2 => ?_)
      by_cases u : B = A
      · subst u; exact w1
      · intro f hf
        have hf49 : f < 49 := lo_lt (g2 B (by omega)).2 hf
        rw [w2 _ (by omega)]
        exact k1 B hB (by omega) f hf
    · have k1' : ∀ A, A ≤ al_S a → or_wy t h2 a rm A := fun A hA => k1 A hA (by omega)
      have hw0 := k1' 0 (by omega) 0 g3
      have h0 : ro_ct 0 = 0 := by decide +kernel
      rw [h0, Nat.sub_zero, ← ro_total hS hr] at hw0
      have cw := c_waysFrom (t := t) (B := 0) (f := 0) (by omega) (by omega) h2
      have cw' : F_X4_waysFrom t (iI 0) (iI 0) h2 = some (aG h2 (t + 3) (0 * 49 + 0), h2) := cw
      simp (maxSteps := 3000000) (implicitDefEqProofs := false) (disch := omega) only [jl_e, jn_e, bd_e, gd_t, iI_add, iI_sub, iI_mul, iI_neg, if_true, if_false, not_true_eq_false, not_false_eq_true, Int.reduceEq, Nat.add_zero, Int.toNat_natCast, iI_cl, iI_lt, iI_eq, gd_in, bI_eq0, bI_eq1, bI_isB, isB_0, isB_1, il_0, il_1, il_2, il_3, il_4, il_5, il_6, il_7, il_8, il_9, il_10, il_12, il_16, il_18, il_24, il_27, il_30, il_31, il_32, il_40, il_47, il_48, il_49, il_55, il_56, il_57, il_59, il_63, il_64, il_96, il_97, il_98, il_99, il_101, il_103, il_104, il_105, il_108, il_109, il_110, il_111, il_112, il_114, il_115, il_116, il_117, il_119, il_122, il_127, il_128, il_200, il_225, il_255, il_256, il_999, il_1575, il_9999, il_65536, il_252645135, il_858993459, il_1431655765, cw', hw0]
      rw [if_pos (by omega)]
      refine ⟨_, rfl, sG_sS_s _ _ _, ?_, ?_, rm, ?_, g3, ?_, ?_⟩
      · simp (maxSteps := 3000000) (implicitDefEqProofs := false) (disch := omega) only [jl_e, jn_e, bd_e, gd_t, iI_add, iI_sub, iI_mul, iI_neg, if_true, if_false, not_true_eq_false, not_false_eq_true, Int.reduceEq, Nat.add_zero, Int.toNat_natCast, iI_cl, iI_lt, iI_eq, gd_in, bI_eq0, bI_eq1, bI_isB, isB_0, isB_1, il_0, il_1, il_2, il_3, il_4, il_5, il_6, il_7, il_8, il_9, il_10, il_12, il_16, il_18, il_24, il_27, il_30, il_31, il_32, il_40, il_47, il_48, il_49, il_55, il_56, il_57, il_59, il_63, il_64, il_96, il_97, il_98, il_99, il_101, il_103, il_104, il_105, il_108, il_109, il_110, il_111, il_112, il_114, il_115, il_116, il_117, il_119, il_122, il_127, il_128, il_200, il_225, il_255, il_256, il_999, il_1575, il_9999, il_65536, il_252645135, il_858993459, il_1431655765, aG_aS_s, aG_aS_j, aG_aS_k, aG_aV_s, aG_aV_k, aG_sS, aG_lS, aG_lV, aG_tS, aG_oS, sG_aS, sG_lS, sG_aV, sG_lV, sG_tS, sG_oS, sG_sS_s, sG_sS_n, lG_lS_s, lG_lS_j, lG_lS_k, lG_lV_s, lG_lV_k, lG_sS, lG_aS, lG_aV, lG_tS, lG_oS, tG_sS, tG_aS, tG_aV, tG_lS, tG_lV, tG_tS_s, tG_tS_n, oG_sS, oG_aS, oG_aV, oG_lS, oG_lV, oG_oS_s]
        exact (k0.og (by simp)).trans g1
      · simp (maxSteps := 3000000) (implicitDefEqProofs := false) (disch := omega) only [jl_e, jn_e, bd_e, gd_t, iI_add, iI_sub, iI_mul, iI_neg, if_true, if_false, not_true_eq_false, not_false_eq_true, Int.reduceEq, Nat.add_zero, Int.toNat_natCast, iI_cl, iI_lt, iI_eq, gd_in, bI_eq0, bI_eq1, bI_isB, isB_0, isB_1, il_0, il_1, il_2, il_3, il_4, il_5, il_6, il_7, il_8, il_9, il_10, il_12, il_16, il_18, il_24, il_27, il_30, il_31, il_32, il_40, il_47, il_48, il_49, il_55, il_56, il_57, il_59, il_63, il_64, il_96, il_97, il_98, il_99, il_101, il_103, il_104, il_105, il_108, il_109, il_110, il_111, il_112, il_114, il_115, il_116, il_117, il_119, il_122, il_127, il_128, il_200, il_225, il_255, il_256, il_999, il_1575, il_9999, il_65536, il_252645135, il_858993459, il_1431655765, aG_aS_s, aG_aS_j, aG_aS_k, aG_aV_s, aG_aV_k, aG_sS, aG_lS, aG_lV, aG_tS, aG_oS, sG_aS, sG_lS, sG_aV, sG_lV, sG_tS, sG_oS, sG_sS_s, sG_sS_n, lG_lS_s, lG_lS_j, lG_lS_k, lG_lV_s, lG_lV_k, lG_sS, lG_aS, lG_aV, lG_tS, lG_oS, tG_sS, tG_aS, tG_aV, tG_lS, tG_lV, tG_tS_s, tG_tS_n, oG_sS, oG_aS, oG_aV, oG_lS, oG_lV, oG_oS_s]
      · intro B hB
        simp (maxSteps := 3000000) (implicitDefEqProofs := false) (disch := omega) only [jl_e, jn_e, bd_e, gd_t, iI_add, iI_sub, iI_mul, iI_neg, if_true, if_false, not_true_eq_false, not_false_eq_true, Int.reduceEq, Nat.add_zero, Int.toNat_natCast, iI_cl, iI_lt, iI_eq, gd_in, bI_eq0, bI_eq1, bI_isB, isB_0, isB_1, il_0, il_1, il_2, il_3, il_4, il_5, il_6, il_7, il_8, il_9, il_10, il_12, il_16, il_18, il_24, il_27, il_30, il_31, il_32, il_40, il_47, il_48, il_49, il_55, il_56, il_57, il_59, il_63, il_64, il_96, il_97, il_98, il_99, il_101, il_103, il_104, il_105, il_108, il_109, il_110, il_111, il_112, il_114, il_115, il_116, il_117, il_119, il_122, il_127, il_128, il_200, il_225, il_255, il_256, il_999, il_1575, il_9999, il_65536, il_252645135, il_858993459, il_1431655765, aG_aS_s, aG_aS_j, aG_aS_k, aG_aV_s, aG_aV_k, aG_sS, aG_lS, aG_lV, aG_tS, aG_oS, sG_aS, sG_lS, sG_aV, sG_lV, sG_tS, sG_oS, sG_sS_s, sG_sS_n, lG_lS_s, lG_lS_j, lG_lS_k, lG_lV_s, lG_lV_k, lG_sS, lG_aS, lG_aV, lG_tS, lG_oS, tG_sS, tG_aS, tG_aV, tG_lS, tG_lV, tG_tS_s, tG_tS_n, oG_sS, oG_aS, oG_aV, oG_lS, oG_lV, oG_oS_s]
        exact m2 B hB
      · intro A hA
        exact n2 A hA
      · intro A hA f hf
        simp (maxSteps := 3000000) (implicitDefEqProofs := false) (disch := omega) only [jl_e, jn_e, bd_e, gd_t, iI_add, iI_sub, iI_mul, iI_neg, if_true, if_false, not_true_eq_false, not_false_eq_true, Int.reduceEq, Nat.add_zero, Int.toNat_natCast, iI_cl, iI_lt, iI_eq, gd_in, bI_eq0, bI_eq1, bI_isB, isB_0, isB_1, il_0, il_1, il_2, il_3, il_4, il_5, il_6, il_7, il_8, il_9, il_10, il_12, il_16, il_18, il_24, il_27, il_30, il_31, il_32, il_40, il_47, il_48, il_49, il_55, il_56, il_57, il_59, il_63, il_64, il_96, il_97, il_98, il_99, il_101, il_103, il_104, il_105, il_108, il_109, il_110, il_111, il_112, il_114, il_115, il_116, il_117, il_119, il_122, il_127, il_128, il_200, il_225, il_255, il_256, il_999, il_1575, il_9999, il_65536, il_252645135, il_858993459, il_1431655765, aG_aS_s, aG_aS_j, aG_aS_k, aG_aV_s, aG_aV_k, aG_sS, aG_lS, aG_lV, aG_tS, aG_oS, sG_aS, sG_lS, sG_aV, sG_lV, sG_tS, sG_oS, sG_sS_s, sG_sS_n, lG_lS_s, lG_lS_j, lG_lS_k, lG_lV_s, lG_lV_k, lG_sS, lG_aS, lG_aV, lG_tS, lG_oS, tG_sS, tG_aS, tG_aV, tG_lS, tG_lV, tG_tS_s, tG_tS_n, oG_sS, oG_aS, oG_aV, oG_lS, oG_lV, oG_oS_s]
        exact k1' A hA f hf
