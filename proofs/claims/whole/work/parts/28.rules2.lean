-- ===== the class's rules: windows =====
/-- it ends, and then Q -/
def Wp {τ : Type} (o : Option (τ × Hp)) (Q : τ → Hp → Prop) : Prop := ∃ r h', o = some (r, h') ∧ Q r h'
theorem wp_u {o : Option (Unit × Hp)} {Q : Hp → Prop} (w : Wp o (fun _ h' => Q h')) : ∃ h', o = some ((), h') ∧ Q h' := by
  obtain ⟨r, h', e, q⟩ := w
  exact ⟨h', e, q⟩
theorem wp_v {τ : Type} {v : τ} {o : Option (τ × Hp)} {Q : Hp → Prop} (w : Wp o (fun r h' => r = v ∧ Q h')) : ∃ h', o = some (v, h') ∧ Q h' := by
  obtain ⟨r, h', e, e2, q⟩ := w
  exact ⟨h', by rw [e, e2], q⟩
theorem wp_s {τ : Type} {r : τ} {h : Hp} {Q : τ → Hp → Prop} (q : Q r h) : Wp (some (r, h)) Q := ⟨r, h, rfl, q⟩
theorem AlC.fr {t : Nat} {h h' : Hp} {a : Alb} {S A : List Nat} (q : AlC t h a) (f : FrX S A h h') (n0 : ∀ v, v ∈ S → v < 64 * t ∨ 64 * t + 576 ≤ v) (n1 : ∀ k, k ∈ A → k < t ∨ t + 9 ≤ k) : AlC t h' a := by
  obtain ⟨a0, a1, a2, ⟨s1, s2, s3, s4⟩, a4, a5, a6⟩ := q
  have g : ∀ v, 64 * t ≤ v → v < 64 * t + 576 → sG h' v = sG h v := fun v h1 h2 => f.sg (fun z => by have := n0 v z; omega)
  have g2 : ∀ k, t ≤ k → k < t + 9 → ∀ i, aG h' k i = aG h k i := fun k h1 h2 i => f.ag (fun z => by have := n1 k z; omega) i
  refine ⟨a0, by rw [g _ (by omega) (by omega)]; exact a1, by rw [g _ (by omega) (by omega)]; exact a2, ⟨by rw [g _ (by omega) (by omega)]; exact s1, by rw [g _ (by omega) (by omega)]; exact s2, by rw [g _ (by omega) (by omega)]; exact s3, s4⟩, ?_, fun i hi => by rw [g2 _ (by omega) (by omega)]; exact a5 i hi, fun i hi => by rw [g2 _ (by omega) (by omega)]; exact a6 i hi⟩
  exact a4.fr f (fun z => by have := n0 _ z; omega) (fun z => by have := n1 _ z; omega) (fun z => by have := n1 _ z; omega) (fun z => by have := n1 _ z; omega) (fun z => by have := n1 _ z; omega)
theorem c_isNear {x v s : Int} (hx : -2147480000 ≤ x ∧ x < 1000000) (hv : -1 ≤ v ∧ v < 1000) (hs : -1 ≤ s ∧ s < 1000) (h : Hp) : F_X7_isNear (iI x) (iI v) (iI s) h = some (bI (s = -1 ∨ (x - v ≤ s ∧ v - x ≤ s)), h) := by
  unfold F_X7_isNear
  simp (disch := omega) only [jl_e, jn_e, bd_e, gd_t, iI_add, iI_sub, iI_mul, iI_neg, if_true, if_false, not_true_eq_false, not_false_eq_true, Nat.add_zero, Int.toNat_natCast, iI_cl, iI_lt, iI_eq, gd_in, bI_eq0, bI_eq1, bI_isB, isB_0, isB_1, il_0, il_1, il_2, il_3, il_4, il_5, il_6, il_7, il_8, il_9, il_10, il_12, il_16, il_18, il_24, il_27, il_30, il_31, il_32, il_40, il_47, il_48, il_49, il_55, il_56, il_57, il_59, il_63, il_64, il_96, il_97, il_98, il_99, il_101, il_103, il_104, il_105, il_108, il_109, il_110, il_111, il_112, il_114, il_115, il_116, il_117, il_119, il_122, il_127, il_128, il_200, il_225, il_255, il_256, il_999, il_1575, il_9999, il_65536, il_252645135, il_858993459, il_1431655765, c_abs (show -2147483648 < x - v ∧ x - v < 2147483648 by omega)]
  (repeat' split) <;> (try (first | rfl | (rw [bI_t (by omega)]) | (rw [bI_f (by omega)]) | (exfalso; omega) | (exact congrArg (fun z => some (iI z, _)) (by omega))))
theorem ln_rng {a : Alb} (h : su_ok (al_n a) (al_g a) (al_l a)) {s : Nat} (hs : s < 48) : 0 ≤ ln_at a s ∧ ln_at a s < 10000 := by
  obtain ⟨h1, h2, h3, h4, h5, h6⟩ := h
  unfold ln_at
  have h1' : 0 ≤ (al_g a : Int) * ((s : Int) - al_n a) * ((s : Int) - al_n a) := by
    rw [Int.mul_assoc]
    exact Int.mul_nonneg (by omega) (by
      rcases Int.le_total 0 ((s : Int) - al_n a) with z | z
      · exact Int.mul_nonneg z z
      · exact Int.mul_nonneg_of_nonpos_of_nonpos z z)
  have h2' : (al_g a : Int) * ((s : Int) - al_n a) * ((s : Int) - al_n a) ≤ 9 * 900 := by
    rw [Int.mul_assoc]
    have : ((s : Int) - al_n a) * ((s : Int) - al_n a) ≤ 900 := by
      have h3 : ((s : Int) - al_n a).natAbs ≤ 30 := by omega
      have h4 : ((s : Int) - al_n a) * ((s : Int) - al_n a) = (((s : Int) - al_n a).natAbs * ((s : Int) - al_n a).natAbs : Nat) := by
        exact (Int.natAbs_mul_self (a := (s : Int) - al_n a)).symm
      rw [h4]
      have := Nat.mul_le_mul h3 h3
      omega
    have h5 : 0 ≤ ((s : Int) - al_n a) * ((s : Int) - al_n a) := by
      rcases Int.le_total 0 ((s : Int) - al_n a) with z | z
      · exact Int.mul_nonneg z z
      · exact Int.mul_nonneg_of_nonpos_of_nonpos z z
    exact Int.mul_le_mul (by omega) this h5 (by omega)
  omega
theorem wd_iff (a : Alb) (p s : Nat) : wd_b a p s = true ↔ (pc_s (al_p a) (8 * p) = -1 ∧ pc_s (al_p a) (8 * p + 1) = -1) ∨ (((s : Int) - 12 ≤ al_n a ∧ (al_n a : Int) ≤ s + 12) ∧ (pc_s (al_p a) (8 * p) = -1 ∨ ((s : Int) - al_n a + 12 - pc_v (al_p a) (8 * p) ≤ pc_s (al_p a) (8 * p) ∧ pc_v (al_p a) (8 * p) - ((s : Int) - al_n a + 12) ≤ pc_s (al_p a) (8 * p))) ∧ (pc_s (al_p a) (8 * p + 1) = -1 ∨ (ln_at a s - pc_v (al_p a) (8 * p + 1) ≤ pc_s (al_p a) (8 * p + 1) ∧ pc_v (al_p a) (8 * p + 1) - ln_at a s ≤ pc_s (al_p a) (8 * p + 1)))) := by
  unfold wd_b
  simp only [Bool.or_eq_true, Bool.and_eq_true, beq_iff_eq, decide_eq_true_iff]
  constructor
  · rintro (z | ⟨⟨z1, z2⟩, z3⟩)
    · exact Or.inl z
    · exact Or.inr ⟨z1, z2, z3⟩
  · rintro (z | ⟨z1, z2, z3⟩)
    · exact Or.inl z
    · exact Or.inr ⟨⟨z1, z2⟩, z3⟩
theorem ite_two {α : Type} {c d : Prop} {i1 : Decidable c} {i2 : Decidable d} {x y : α} (h : ¬ (c ∧ d)) : (if c then (if d then x else y) else y) = y := by
  by_cases z : c
  · rw [if_pos z, if_neg (fun w => h ⟨z, w⟩)]
  · rw [if_neg z]
theorem lL_bit {k : Nat} (hk : k < 64) : (1 : Int64) <<< ((iI (k : Int)).toInt64 &&& 63) = lN (2 ^ k) := by
  have e := wb_shl 1 (k := k) hk
  rw [nI_iI, Nat.one_mul] at e
  exact e
theorem lL_all : (281474976710655 : Int64) = lN (bm (fun _ => true) 48) := by decide +kernel
/-- a window is read (the pieces at the cell b may be others than the album's) -/
theorem c_readWindow {t c b : Nat} {h : Hp} {a : Alb} (hs : SuC (c + 1) h (al_n a) (al_g a) (al_l a)) (hP : PcC b h (al_p a)) {p : Nat} (hp : p < 7) : ∃ h', F_X7_readWindow t c b (iI p) h = some ((), h') ∧ lG h' (t + 1) p = lN (bm (wd_b a p) 48) ∧ ∀ i, i ≠ p → lG h' (t + 1) i = lG h (t + 1) i := by
  have r0 : -2147483648 ≤ (p : Int) ∧ (p : Int) < 2147483648 := by omega
  have r1 : -2147483648 ≤ (0 : Int) ∧ (0 : Int) < 2147483648 := by omega
  have r2 : -2147483648 ≤ (1 : Int) ∧ (1 : Int) < 2147483648 := by omega
  have v1 := pc_v_rng hP.1 (8 * p)
  have v2 := pc_v_rng hP.1 (8 * p + 1)
  have s1 := pc_s_rng hP.1 (8 * p)
  have s2 := pc_s_rng hP.1 (8 * p + 1)
  have e1 : ((p : Int) * 8 + 0).toNat = 8 * p := by omega
  have e2 : ((p : Int) * 8 + 1).toNat = 8 * p + 1 := by omega
  have f1 : 0 ≤ (p : Int) ∧ (p : Int) < 7 ∧ (0 : Int) ≤ 0 ∧ (0 : Int) < 8 := by omega
  have f2 : 0 ≤ (p : Int) ∧ (p : Int) < 7 ∧ (0 : Int) ≤ 1 ∧ (1 : Int) < 8 := by omega
  have g1 := c_valueOf hP r0 r1
  have g2 := c_slackOf hP r0 r1
  have g3 := c_valueOf hP r0 r2
  have g4 := c_slackOf hP r0 r2
  rw [if_pos f1, e1] at g1 g2
  rw [if_pos f2, e2] at g3 g4
  have hn := wd_iff a p
  generalize pc_v (al_p a) (8 * p) = pv at *
  generalize pc_v (al_p a) (8 * p + 1) = lv at *
  generalize pc_s (al_p a) (8 * p) = ps at *
  generalize pc_s (al_p a) (8 * p + 1) = ls at *
  refine wp_u ?_
  unfold F_X7_readWindow
  simp (maxSteps := 3000000) (disch := omega) only [jl_e, jn_e, bd_e, gd_t, iI_add, iI_sub, iI_mul, iI_neg, if_true, if_false, not_true_eq_false, not_false_eq_true, Nat.add_zero, Int.toNat_natCast, iI_cl, iI_lt, iI_eq, gd_in, bI_eq0, bI_eq1, bI_isB, isB_0, isB_1, il_0, il_1, il_2, il_3, il_4, il_5, il_6, il_7, il_8, il_9, il_10, il_12, il_16, il_18, il_24, il_27, il_30, il_31, il_32, il_40, il_47, il_48, il_49, il_55, il_56, il_57, il_59, il_63, il_64, il_96, il_97, il_98, il_99, il_101, il_103, il_104, il_105, il_108, il_109, il_110, il_111, il_112, il_114, il_115, il_116, il_117, il_119, il_122, il_127, il_128, il_200, il_225, il_255, il_256, il_999, il_1575, il_9999, il_65536, il_252645135, il_858993459, il_1431655765, g1, g2, g3, g4]
  rw [if_neg (by omega), if_pos (by omega)]
  by_cases no : ps = -1 ∧ ls = -1
  · rw [if_pos no.1, if_pos no.2]
    refine wp_s ⟨?_, fun i hi => by rw [lG_lS_j hi]⟩
    rw [lG_lS_s, lL_all]
    congr 1
    apply bm_congr
    intro s _
    exact ((hn s).2 (Or.inl no)).symm
  · have hw : ∀ s, s < 48 → (wd_b a p s = true ↔ (((s : Int) - 12 ≤ al_n a ∧ (al_n a : Int) ≤ s + 12) ∧ (ps = -1 ∨ ((s : Int) - al_n a + 12 - pv ≤ ps ∧ pv - ((s : Int) - al_n a + 12) ≤ ps)) ∧ (ls = -1 ∨ (ln_at a s - lv ≤ ls ∧ lv - ln_at a s ≤ ls)))) := by
      intro s _
      rw [hn s]
      exact ⟨fun z => z.resolve_left no, Or.inr⟩
    have hsu : su_ok (al_n a) (al_g a) (al_l a) := ⟨hs.2.2.2.1, hs.2.2.2.2.1, hs.2.2.2.2.2.1, hs.2.2.2.2.2.2.1, hs.2.2.2.2.2.2.2.1, hs.2.2.2.2.2.2.2.2⟩
    have hs0 : SuC (c + 1) (lS h (t + 1) p 281474976710655) (al_n a) (al_g a) (al_l a) := ⟨hs.1, hs.2.1, hs.2.2.1, hs.2.2.2⟩
    rw [ite_two no]
    refine lp_up (α := Int64 → Int32 → Hp → Option (Unit × Hp)) (P := fun k c => Wp (c (lN (bm (wd_b a p) k)) (iI k) (lS h (t + 1) p 281474976710655)) (fun _ h' => lG h' (t + 1) p = lN (bm (wd_b a p) 48) ∧ ∀ i, i ≠ p → lG h' (t + 1) i = lG h (t + 1) i)) 48 (by omega) (fun k cc hk ih => ?_)
    by_cases z : k < 48
    · have hk2 : (0 : Int) ≤ (k : Int) ∧ (k : Int) < 48 := by omega
      have i2 := ih z
      have hw2 := hw k z
      have hl2 := ln_rng hsu z
      have eb : bm (wd_b a p) (k + 1) = bm (wd_b a p) k ||| (if wd_b a p k then 2 ^ k else 0) := rfl
      rw [eb, show ((k + 1 : Nat) : Int) = (k : Int) + 1 by omega] at i2
      have u1 := c_isUp hs0 hk2
      have u2 := c_pointAt hs0 hk2
      have u3 := c_lengthAt hs0 hk2
      by_cases up : (k : Int) - 12 ≤ al_n a ∧ (al_n a : Int) ≤ k + 12
      · rw [if_pos up] at u2 u3
        have u3' : F_X9_lengthAt (c + 1) (iI k) (lS h (t + 1) p 281474976710655) = some (iI (ln_at a k), (lS h (t + 1) p 281474976710655)) := u3
        have n1 := c_isNear (x := (k : Int) - al_n a + 12) (v := pv) (s := ps) (by omega) (by omega) (by omega) (lS h (t + 1) p 281474976710655)
        have n2 := c_isNear (x := ln_at a k) (v := lv) (s := ls) (by omega) (by omega) (by omega) (lS h (t + 1) p 281474976710655)
        simp (maxSteps := 3000000) (disch := omega) only [jl_e, jn_e, bd_e, gd_t, iI_add, iI_sub, iI_mul, iI_neg, if_true, if_false, not_true_eq_false, not_false_eq_true, Nat.add_zero, Int.toNat_natCast, iI_cl, iI_lt, iI_eq, gd_in, bI_eq0, bI_eq1, bI_isB, isB_0, isB_1, il_0, il_1, il_2, il_3, il_4, il_5, il_6, il_7, il_8, il_9, il_10, il_12, il_16, il_18, il_24, il_27, il_30, il_31, il_32, il_40, il_47, il_48, il_49, il_55, il_56, il_57, il_59, il_63, il_64, il_96, il_97, il_98, il_99, il_101, il_103, il_104, il_105, il_108, il_109, il_110, il_111, il_112, il_114, il_115, il_116, il_117, il_119, il_122, il_127, il_128, il_200, il_225, il_255, il_256, il_999, il_1575, il_9999, il_65536, il_252645135, il_858993459, il_1431655765, u1, u2, u3', n1, n2, lL_bit (show k < 64 by omega), lL_or]
        rw [if_pos (by omega), if_neg (fun q => q up)]
        by_cases y1 : ps = -1 ∨ ((k : Int) - al_n a + 12 - pv ≤ ps ∧ pv - ((k : Int) - al_n a + 12) ≤ ps)
        · rw [if_neg (fun q => q y1)]
          by_cases y2 : ls = -1 ∨ (ln_at a k - lv ≤ ls ∧ lv - ln_at a k ≤ ls)
          · rw [if_neg (fun q => q y2)]
            rw [if_pos (hw2.2 ⟨up, y1, y2⟩)] at i2
            exact i2
          · rw [if_pos y2]
            rw [if_neg (fun q => y2 (hw2.1 q).2.2), Nat.or_zero] at i2
            exact i2
        · rw [if_pos y1]
          rw [if_neg (fun q => y1 (hw2.1 q).2.1), Nat.or_zero] at i2
          exact i2
      · simp (maxSteps := 3000000) (disch := omega) only [jl_e, jn_e, bd_e, gd_t, iI_add, iI_sub, iI_mul, iI_neg, if_true, if_false, not_true_eq_false, not_false_eq_true, Nat.add_zero, Int.toNat_natCast, iI_cl, iI_lt, iI_eq, gd_in, bI_eq0, bI_eq1, bI_isB, isB_0, isB_1, il_0, il_1, il_2, il_3, il_4, il_5, il_6, il_7, il_8, il_9, il_10, il_12, il_16, il_18, il_24, il_27, il_30, il_31, il_32, il_40, il_47, il_48, il_49, il_55, il_56, il_57, il_59, il_63, il_64, il_96, il_97, il_98, il_99, il_101, il_103, il_104, il_105, il_108, il_109, il_110, il_111, il_112, il_114, il_115, il_116, il_117, il_119, il_122, il_127, il_128, il_200, il_225, il_255, il_256, il_999, il_1575, il_9999, il_65536, il_252645135, il_858993459, il_1431655765, u1]
        rw [if_pos (by omega), if_pos up]
        rw [if_neg (fun q => up (hw2.1 q).1), Nat.or_zero] at i2
        exact i2
    · simp (maxSteps := 3000000) (disch := omega) only [jl_e, jn_e, bd_e, gd_t, iI_add, iI_sub, iI_mul, iI_neg, if_true, if_false, not_true_eq_false, not_false_eq_true, Nat.add_zero, Int.toNat_natCast, iI_cl, iI_lt, iI_eq, gd_in, bI_eq0, bI_eq1, bI_isB, isB_0, isB_1, il_0, il_1, il_2, il_3, il_4, il_5, il_6, il_7, il_8, il_9, il_10, il_12, il_16, il_18, il_24, il_27, il_30, il_31, il_32, il_40, il_47, il_48, il_49, il_55, il_56, il_57, il_59, il_63, il_64, il_96, il_97, il_98, il_99, il_101, il_103, il_104, il_105, il_108, il_109, il_110, il_111, il_112, il_114, il_115, il_116, il_117, il_119, il_122, il_127, il_128, il_200, il_225, il_255, il_256, il_999, il_1575, il_9999, il_65536, il_252645135, il_858993459, il_1431655765]
      rw [if_neg (by omega), show k = 48 by omega]
      exact wp_s ⟨lG_lS_s _ _ _ _, fun i hi => by rw [lG_lS_j hi, lG_lS_j hi]⟩
