-- ===== the reference: whether one may stand there =====
/-- a row as it lies there; its first free slots -/
def RwC (h : Hp) (r : List Nat) : Prop := ∀ i, i < r.length → aG h 131 i = iI (r.getD i 0)
def ErC (h : Hp) (ρ : RD) (r : List Nat) : Prop := ∀ i, i < r.length → ∃ f : Nat, ro_fr ρ 0 (r.take (i + 1)) = some (f + 1) ∧ f < 48 ∧ aG h 132 i = iI f
theorem RwC.fr {h h' : Hp} {r : List Nat} {S A : List Nat} (q : RwC h r) (f : FrX S A h h') (n : 131 ∉ A) : RwC h' r := fun i hi => (f.ag n i).trans (q i hi)
theorem ErC.fr {h h' : Hp} {ρ : RD} {r : List Nat} {S A : List Nat} (q : ErC h ρ r) (f : FrX S A h h') (n : 132 ∉ A) : ErC h' ρ r := fun i hi => by
  obtain ⟨g, g1, g2, g3⟩ := q i hi
  exact ⟨g, g1, g2, (f.ag n i).trans g3⟩
/-- it was away since it was there -/
def aw_b (ρ : RD) (t : Nat) (r : List Nat) (k : Nat) : Bool := (List.range k).any (fun j => ro_y ρ t (r.getD j 0) && (r.take j).any (fun q => ro_t ρ t q))
theorem aw_s (ρ : RD) (t : Nat) (r : List Nat) (k : Nat) : aw_b ρ t r (k + 1) = (aw_b ρ t r k || (ro_y ρ t (r.getD k 0) && (r.take k).any (fun q => ro_t ρ t q))) := by
  unfold aw_b
  rw [List.range_succ, List.any_append, List.any_cons, List.any_nil, Bool.or_false]
theorem aw_wh (ρ : RD) (t : Nat) (r : List Nat) : ro_wh ρ t r = !aw_b ρ t r r.length := by
  unfold ro_wh aw_b
  rw [List.not_any_eq_all_not]
theorem any_take_s (f : Nat → Bool) {r : List Nat} {k : Nat} (hk : k < r.length) : (r.take (k + 1)).any f = ((r.take k).any f || f (r.getD k 0)) := by
  rw [take_snoc hk, List.any_append, List.any_cons, List.any_nil, Bool.or_false]
theorem all_take_s (f : Nat → Bool) {r : List Nat} {k : Nat} (hk : k < r.length) : (r.take (k + 1)).all f = ((r.take k).all f && f (r.getD k 0)) := by
  rw [take_snoc hk, List.all_append, List.all_cons, List.all_nil, Bool.and_true]
theorem al_rt {a : Alb} {t : Nat} (ht : t < (al_k a).length) (hk : al_kd a t = 2) (p : Nat) : (ro_t (al_r a) t p = true ↔ th_v a p t = 1) ∧ (ro_y (al_r a) t p = true ↔ th_v a p t = 0) := by
  constructor
  · show (decide (t < (al_k a).length) && (al_kd a t == 2) && (th_v a p t == 1)) = true ↔ _
    simp [ht, hk]
  · show (decide (t < (al_k a).length) && (al_kd a t == 2) && (th_v a p t == 0)) = true ↔ _
    simp [ht, hk]
theorem al_rt_no {a : Alb} {t : Nat} (h : ¬ (t < (al_k a).length ∧ al_kd a t = 2)) (p : Nat) : ro_t (al_r a) t p = false := by
  show (decide (t < (al_k a).length) && (al_kd a t == 2) && (th_v a p t == 1)) = false
  by_cases c : t < (al_k a).length
  · have : ¬ al_kd a t = 2 := fun z => h ⟨c, z⟩
    simp [this]
  · simp [c]
theorem m_isWhole {h : Hp} {a : Alb} (q : AmC h a) {r : List Nat} (hr : RwC h r) (hl : r.length ≤ 7) (h7 : ∀ p ∈ r, p < 7) {t : Nat} (ht : t < (al_k a).length) (hk : al_kd a t = 2) : F_X12_isWhole (iI (r.length + 1 : Nat)) (iI t) h = some (bI (ro_wh (al_r a) t r = true), h) := by
  have h6 := q.1.2.2.1
  unfold F_X12_isWhole
  refine lp_up (α := Int32 → Int32 → Int32 → Hp → Option (Int32 × Hp)) (P := fun k c => ∀ v w, v = bI ((r.take k).any (fun p => ro_t (al_r a) t p) = true) → w = bI (aw_b (al_r a) t r k = true) → c v w (iI k) h = some (bI (ro_wh (al_r a) t r = true), h)) r.length (by omega) (fun k c hk1 ih v w hv hw => ?_) _ _ (by rw [List.take_zero, List.any_nil, bI_f (by decide)]; rfl) (by unfold aw_b; rw [List.range_zero, List.any_nil, bI_f (by decide)]; rfl)
  subst hv hw
  by_cases z : k < r.length
  · have ih := ih z
    have p7 := h7 _ (ro_get_mem.2 ⟨k, z, rfl⟩)
    have rg := th_v_rng q.1 (r.getD k 0) t p7 (by omega)
    have al := al_rt ht hk (r.getD k 0)
    rw [any_take_s _ z, aw_s] at ih
    simp (maxSteps := 3000000) (implicitDefEqProofs := false) (disch := omega) only [jl_e, jn_e, bd_e, gd_t, iI_add, iI_sub, iI_mul, iI_neg, if_true, if_false, not_true_eq_false, not_false_eq_true, Int.reduceEq, Nat.add_zero, Int.toNat_natCast, iI_cl, iI_lt, iI_eq, gd_in, bI_eq0, bI_eq1, bI_isB, isB_0, isB_1, il_0, il_1, il_2, il_3, il_4, il_5, il_6, il_7, il_8, il_9, il_10, il_12, il_16, il_18, il_24, il_27, il_30, il_31, il_32, il_40, il_47, il_48, il_49, il_55, il_56, il_57, il_59, il_63, il_64, il_96, il_97, il_98, il_99, il_101, il_103, il_104, il_105, il_108, il_109, il_110, il_111, il_112, il_114, il_115, il_116, il_117, il_119, il_122, il_127, il_128, il_200, il_225, il_255, il_256, il_999, il_1575, il_9999, il_65536, il_252645135, il_858993459, il_1431655765, hr k z, m_thingV q p7 (show t < 6 by omega)]
    rw [if_pos (by omega)]
    by_cases A : (r.take k).any (fun p => ro_t (al_r a) t p) = true
    · rw [if_neg (fun u => u A)]
      (try simp (maxSteps := 3000000) (implicitDefEqProofs := false) (disch := omega) only [jl_e, jn_e, bd_e, gd_t, iI_add, iI_sub, iI_mul, iI_neg, if_true, if_false, not_true_eq_false, not_false_eq_true, Int.reduceEq, Nat.add_zero, Int.toNat_natCast, iI_cl, iI_lt, iI_eq, gd_in, bI_eq0, bI_eq1, bI_isB, isB_0, isB_1, il_0, il_1, il_2, il_3, il_4, il_5, il_6, il_7, il_8, il_9, il_10, il_12, il_16, il_18, il_24, il_27, il_30, il_31, il_32, il_40, il_47, il_48, il_49, il_55, il_56, il_57, il_59, il_63, il_64, il_96, il_97, il_98, il_99, il_101, il_103, il_104, il_105, il_108, il_109, il_110, il_111, il_112, il_114, il_115, il_116, il_117, il_119, il_122, il_127, il_128, il_200, il_225, il_255, il_256, il_999, il_1575, il_9999, il_65536, il_252645135, il_858993459, il_1431655765])
      by_cases B : aw_b (al_r a) t r k = true
      · rw [if_neg (fun u => u B)]
        refine ih _ _ ?_ ?_
        · rw [bI_t (by rw [A]; rfl)]
        · rw [bI_t (by rw [B]; rfl)]
      · rw [if_pos B]
        by_cases C : th_v a (r.getD k 0) t = 0
        · rw [if_pos C]
          refine ih _ _ ?_ ?_
          · rw [bI_t (by rw [A]; rfl)]
          · rw [bI_t (by rw [al.2.2 C, A, Bool.and_true, Bool.or_true])]
        · rw [if_neg C]
          have D : ro_y (al_r a) t (r.getD k 0) = false := by
            cases e : ro_y (al_r a) t (r.getD k 0) with
            | false => rfl
            | true => exact absurd (al.2.1 e) C
          refine ih _ _ ?_ ?_
          · rw [bI_t (by rw [A]; rfl)]
          · rw [bI_f (by rw [D, Bool.false_and, Bool.or_false]; exact B)]
    · rw [if_pos A]
      have A' : (r.take k).any (fun p => ro_t (al_r a) t p) = false := b_nt A
      by_cases E : th_v a (r.getD k 0) t = 1
      · rw [if_pos E]
        (try simp (maxSteps := 3000000) (implicitDefEqProofs := false) (disch := omega) only [jl_e, jn_e, bd_e, gd_t, iI_add, iI_sub, iI_mul, iI_neg, if_true, if_false, not_true_eq_false, not_false_eq_true, Int.reduceEq, Nat.add_zero, Int.toNat_natCast, iI_cl, iI_lt, iI_eq, gd_in, bI_eq0, bI_eq1, bI_isB, isB_0, isB_1, il_0, il_1, il_2, il_3, il_4, il_5, il_6, il_7, il_8, il_9, il_10, il_12, il_16, il_18, il_24, il_27, il_30, il_31, il_32, il_40, il_47, il_48, il_49, il_55, il_56, il_57, il_59, il_63, il_64, il_96, il_97, il_98, il_99, il_101, il_103, il_104, il_105, il_108, il_109, il_110, il_111, il_112, il_114, il_115, il_116, il_117, il_119, il_122, il_127, il_128, il_200, il_225, il_255, il_256, il_999, il_1575, il_9999, il_65536, il_252645135, il_858993459, il_1431655765])
        have V : ∀ v, v = iI 1 → v = bI (((r.take k).any (fun p => ro_t (al_r a) t p) || ro_t (al_r a) t (r.getD k 0)) = true) := fun v hv => by rw [bI_t (by rw [al.1.2 E, Bool.or_true])]; exact hv
        by_cases B : aw_b (al_r a) t r k = true
        · rw [if_neg (fun u => u B)]
          refine ih _ _ (V _ rfl) ?_
          rw [bI_t (by rw [B]; rfl)]
        · rw [if_pos B, if_neg (by omega)]
          refine ih _ _ (V _ rfl) ?_
          rw [bI_f (by rw [A', Bool.and_false, Bool.or_false]; exact B)]
      · rw [if_neg E]
        (try simp (maxSteps := 3000000) (implicitDefEqProofs := false) (disch := omega) only [jl_e, jn_e, bd_e, gd_t, iI_add, iI_sub, iI_mul, iI_neg, if_true, if_false, not_true_eq_false, not_false_eq_true, Int.reduceEq, Nat.add_zero, Int.toNat_natCast, iI_cl, iI_lt, iI_eq, gd_in, bI_eq0, bI_eq1, bI_isB, isB_0, isB_1, il_0, il_1, il_2, il_3, il_4, il_5, il_6, il_7, il_8, il_9, il_10, il_12, il_16, il_18, il_24, il_27, il_30, il_31, il_32, il_40, il_47, il_48, il_49, il_55, il_56, il_57, il_59, il_63, il_64, il_96, il_97, il_98, il_99, il_101, il_103, il_104, il_105, il_108, il_109, il_110, il_111, il_112, il_114, il_115, il_116, il_117, il_119, il_122, il_127, il_128, il_200, il_225, il_255, il_256, il_999, il_1575, il_9999, il_65536, il_252645135, il_858993459, il_1431655765])
        have D : ro_t (al_r a) t (r.getD k 0) = false := by
          cases e : ro_t (al_r a) t (r.getD k 0) with
          | false => rfl
          | true => exact absurd (al.1.1 e) E
        have V : ∀ v, v = iI 0 → v = bI (((r.take k).any (fun p => ro_t (al_r a) t p) || ro_t (al_r a) t (r.getD k 0)) = true) := fun v hv => by rw [bI_f (by rw [D, A']; decide)]; exact hv
        by_cases B : aw_b (al_r a) t r k = true
        · rw [if_neg (fun u => u B)]
          refine ih _ _ (V _ rfl) ?_
          rw [bI_t (by rw [B]; rfl)]
        · rw [if_pos B]
          refine ih _ _ (V _ rfl) ?_
          rw [bI_f (by rw [A', Bool.and_false, Bool.or_false]; exact B)]
  · have ek : k = r.length := by omega
    subst ek
    simp (maxSteps := 3000000) (implicitDefEqProofs := false) (disch := omega) only [jl_e, jn_e, bd_e, gd_t, iI_add, iI_sub, iI_mul, iI_neg, if_true, if_false, not_true_eq_false, not_false_eq_true, Int.reduceEq, Nat.add_zero, Int.toNat_natCast, iI_cl, iI_lt, iI_eq, gd_in, bI_eq0, bI_eq1, bI_isB, isB_0, isB_1, il_0, il_1, il_2, il_3, il_4, il_5, il_6, il_7, il_8, il_9, il_10, il_12, il_16, il_18, il_24, il_27, il_30, il_31, il_32, il_40, il_47, il_48, il_49, il_55, il_56, il_57, il_59, il_63, il_64, il_96, il_97, il_98, il_99, il_101, il_103, il_104, il_105, il_108, il_109, il_110, il_111, il_112, il_114, il_115, il_116, il_117, il_119, il_122, il_127, il_128, il_200, il_225, il_255, il_256, il_999, il_1575, il_9999, il_65536, il_252645135, il_858993459, il_1431655765]
    rw [if_neg (by omega), aw_wh]
    by_cases B : aw_b (al_r a) t r r.length = true
    · rw [if_neg (fun u => u B), bI_f (by rw [B]; decide)]
    · rw [if_pos B, bI_t (by rw [b_nt B]; rfl)]
/-- what isLast asks -/
def ro_Q (ρ : RD) (r : List Nat) (p : Nat) : Bool := (r.all (fun q => !ro_a ρ p q)) && ((List.range 6).all (fun t => !ro_t ρ t p || ro_wh ρ t r))
theorem range_all_s (f : Nat → Bool) (k : Nat) : (List.range (k + 1)).all f = ((List.range k).all f && f k) := by
  rw [List.range_succ, List.all_append, List.all_cons, List.all_nil, Bool.and_true]
theorem range_all_more {f : Nat → Bool} {k : Nat} : ∀ d, (∀ i, k ≤ i → i < k + d → f i = true) → (List.range (k + d)).all f = (List.range k).all f
  | 0, _ => rfl
  | d + 1, h => by
    rw [← Nat.add_assoc, range_all_s, range_all_more d (fun i h1 h2 => h i h1 (by omega)), h (k + d) (by omega) (by omega), Bool.and_true]
theorem m_isLast {h : Hp} {a : Alb} (q : AmC h a) (la : LaC h a) {r : List Nat} (hr : RwC h r) (hl : r.length ≤ 6) (hw : ∀ p ∈ r, p < (al_w a).length) {p : Nat} (hp : p < (al_w a).length) (e : aG h 131 r.length = iI p) : F_X12_isLast (iI (r.length + 1 : Nat)) h = some (bI (ro_Q (al_r a) r p = true), h) := by
  have h6 := q.1.2.2.1
  have h7 := q.1.2.1
  unfold F_X12_isLast
  have g : iI ((r.length + 1 : Nat) : Int) - 1 = iI (r.length : Int) := by rw [il_1, iI_sub]; exact iI_cg (by omega)
  rw [g, gd_in (by omega) (by omega) (by omega), jl_e, iI_cl (by omega) (by omega), Int.toNat_natCast, e]
  refine lp_up (α := Int32 → Int32 → Hp → Option (Int32 × Hp)) (P := fun k c => ∀ v, v = bI ((r.take k).all (fun x => !ro_a (al_r a) p x) = true) → c v (iI k) h = some (bI (ro_Q (al_r a) r p = true), h)) r.length (by omega) (fun k c hk1 ih v hv => ?_) _ (by rw [List.take_zero, List.all_nil, bI_t rfl]; rfl)
  subst hv
  by_cases z : k < r.length
  · have ih := ih z
    have rk := hw _ (ro_get_mem.2 ⟨k, z, rfl⟩)
    have ea := la.2 p hp _ rk
    have rng : 7 * p + r.getD k 0 < 49 := by omega
    rw [all_take_s _ z] at ih
    simp (maxSteps := 3000000) (implicitDefEqProofs := false) (disch := omega) only [jl_e, jn_e, bd_e, gd_t, iI_add, iI_sub, iI_mul, iI_neg, if_true, if_false, not_true_eq_false, not_false_eq_true, Int.reduceEq, Nat.add_zero, Int.toNat_natCast, iI_cl, iI_lt, iI_eq, gd_in, bI_eq0, bI_eq1, bI_isB, isB_0, isB_1, il_0, il_1, il_2, il_3, il_4, il_5, il_6, il_7, il_8, il_9, il_10, il_12, il_16, il_18, il_24, il_27, il_30, il_31, il_32, il_40, il_47, il_48, il_49, il_55, il_56, il_57, il_59, il_63, il_64, il_96, il_97, il_98, il_99, il_101, il_103, il_104, il_105, il_108, il_109, il_110, il_111, il_112, il_114, il_115, il_116, il_117, il_119, il_122, il_127, il_128, il_200, il_225, il_255, il_256, il_999, il_1575, il_9999, il_65536, il_252645135, il_858993459, il_1431655765, hr k z, tn7, ea]
    rw [if_pos (by omega)]
    have ra : ro_a (al_r a) p (r.getD k 0) = ah_n a (al_k a).length p (r.getD k 0) := rfl
    rw [ra] at ih
    by_cases A : (r.take k).all (fun x => !ro_a (al_r a) p x) = true
    · rw [if_neg (fun u => u A)]
      by_cases B : ah_n a (al_k a).length p (r.getD k 0) = true
      · rw [if_neg (fun u => u B)]
        refine ih _ ?_
        rw [bI_f (by rw [B, Bool.not_true, Bool.and_false]; decide)]
      · rw [if_pos B]
        refine ih _ ?_
        rw [bI_t (by rw [A, b_nt B]; rfl)]
    · rw [if_pos A]
      refine ih _ ?_
      rw [bI_f (by rw [b_nt A, Bool.false_and]; decide)]
  · have ek : k = r.length := by omega
    subst ek
    rw [List.take_length]
    simp (maxSteps := 3000000) (implicitDefEqProofs := false) (disch := omega) only [jl_e, jn_e, bd_e, gd_t, iI_add, iI_sub, iI_mul, iI_neg, if_true, if_false, not_true_eq_false, not_false_eq_true, Int.reduceEq, Nat.add_zero, Int.toNat_natCast, iI_cl, iI_lt, iI_eq, gd_in, bI_eq0, bI_eq1, bI_isB, isB_0, isB_1, il_0, il_1, il_2, il_3, il_4, il_5, il_6, il_7, il_8, il_9, il_10, il_12, il_16, il_18, il_24, il_27, il_30, il_31, il_32, il_40, il_47, il_48, il_49, il_55, il_56, il_57, il_59, il_63, il_64, il_96, il_97, il_98, il_99, il_101, il_103, il_104, il_105, il_108, il_109, il_110, il_111, il_112, il_114, il_115, il_116, il_117, il_119, il_122, il_127, il_128, il_200, il_225, il_255, il_256, il_999, il_1575, il_9999, il_65536, il_252645135, il_858993459, il_1431655765]
    rw [if_neg (by omega)]
    have EQ : ∀ k, k = (al_k a).length → ro_Q (al_r a) r p = ((r.all (fun x => !ro_a (al_r a) p x)) && ((List.range k).all (fun t => !ro_t (al_r a) t p || ro_wh (al_r a) t r))) := fun k hk => by
      unfold ro_Q
      congr 1
      obtain ⟨d, hd⟩ : ∃ d, 6 = k + d := ⟨6 - k, by omega⟩
      rw [hd]
      refine range_all_more d (fun i h1 _ => ?_)
      rw [al_rt_no (by omega) p]
      rfl
    refine lp_up (α := Int32 → Int32 → Hp → Option (Int32 × Hp)) (P := fun k c => ∀ v, v = bI (((r.all (fun x => !ro_a (al_r a) p x)) && ((List.range k).all (fun t => !ro_t (al_r a) t p || ro_wh (al_r a) t r))) = true) → c v (iI k) h = some (bI (ro_Q (al_r a) r p = true), h)) (al_k a).length (by omega) (fun k c hk1 ih v hv => ?_) _ (by rw [List.range_zero, List.all_nil, Bool.and_true])
    subst hv
    by_cases y : k < (al_k a).length
    · have ih := ih y
      have k3 := q.1.2.2.2.2.1 k y
      have p7 : p < 7 := by omega
      have rg := th_v_rng q.1 p k p7 (by omega)
      rw [range_all_s, ← Bool.and_assoc] at ih
      by_cases A : ((r.all (fun x => !ro_a (al_r a) p x)) && ((List.range k).all (fun t => !ro_t (al_r a) t p || ro_wh (al_r a) t r))) = true
      · by_cases K : al_kd a k = 2
        · have al := al_rt y K p
          have wh := m_isWhole q hr (by omega) (fun x hx => by have := hw x hx; omega) y K
          simp (maxSteps := 3000000) (implicitDefEqProofs := false) (disch := omega) only [jl_e, jn_e, bd_e, gd_t, iI_add, iI_sub, iI_mul, iI_neg, if_true, if_false, not_true_eq_false, not_false_eq_true, Int.reduceEq, Nat.add_zero, Int.toNat_natCast, iI_cl, iI_lt, iI_eq, gd_in, bI_eq0, bI_eq1, bI_isB, isB_0, isB_1, il_0, il_1, il_2, il_3, il_4, il_5, il_6, il_7, il_8, il_9, il_10, il_12, il_16, il_18, il_24, il_27, il_30, il_31, il_32, il_40, il_47, il_48, il_49, il_55, il_56, il_57, il_59, il_63, il_64, il_96, il_97, il_98, il_99, il_101, il_103, il_104, il_105, il_108, il_109, il_110, il_111, il_112, il_114, il_115, il_116, il_117, il_119, il_122, il_127, il_128, il_200, il_225, il_255, il_256, il_999, il_1575, il_9999, il_65536, il_252645135, il_858993459, il_1431655765, q.nt, q.kd y, m_thingV q p7 (show k < 6 by omega), show (r.length : Int) + 1 = ((r.length + 1 : Nat) : Int) by omega, wh]
          rw [if_pos (by omega), if_neg (fun u => u A), if_pos (by omega)]
          by_cases B : th_v a p k = 1
          · rw [if_pos B]
            by_cases C : ro_wh (al_r a) k r = true
            · rw [if_neg (fun u => u C)]
              refine ih _ ?_
              rw [bI_t (by rw [A, C, Bool.or_true]; rfl)]
            · rw [if_pos C]
              refine ih _ ?_
              rw [bI_f (by rw [al.1.2 B, b_nt C, Bool.not_true, Bool.or_false, Bool.and_false]; decide)]
          · rw [if_neg B]
            refine ih _ ?_
            have D : ro_t (al_r a) k p = false := by
              cases e : ro_t (al_r a) k p with
              | false => rfl
              | true => exact absurd (al.1.1 e) B
            rw [bI_t (by rw [A, D]; rfl)]
        · have D := al_rt_no (a := a) (t := k) (by omega) p
          simp (maxSteps := 3000000) (implicitDefEqProofs := false) (disch := omega) only [jl_e, jn_e, bd_e, gd_t, iI_add, iI_sub, iI_mul, iI_neg, if_true, if_false, not_true_eq_false, not_false_eq_true, Int.reduceEq, Nat.add_zero, Int.toNat_natCast, iI_cl, iI_lt, iI_eq, gd_in, bI_eq0, bI_eq1, bI_isB, isB_0, isB_1, il_0, il_1, il_2, il_3, il_4, il_5, il_6, il_7, il_8, il_9, il_10, il_12, il_16, il_18, il_24, il_27, il_30, il_31, il_32, il_40, il_47, il_48, il_49, il_55, il_56, il_57, il_59, il_63, il_64, il_96, il_97, il_98, il_99, il_101, il_103, il_104, il_105, il_108, il_109, il_110, il_111, il_112, il_114, il_115, il_116, il_117, il_119, il_122, il_127, il_128, il_200, il_225, il_255, il_256, il_999, il_1575, il_9999, il_65536, il_252645135, il_858993459, il_1431655765, q.nt, q.kd y]
          rw [if_pos (by omega), if_neg (fun u => u A), if_neg (by omega)]
          refine ih _ ?_
          rw [bI_t (by rw [A, D]; rfl)]
      · simp (maxSteps := 3000000) (implicitDefEqProofs := false) (disch := omega) only [jl_e, jn_e, bd_e, gd_t, iI_add, iI_sub, iI_mul, iI_neg, if_true, if_false, not_true_eq_false, not_false_eq_true, Int.reduceEq, Nat.add_zero, Int.toNat_natCast, iI_cl, iI_lt, iI_eq, gd_in, bI_eq0, bI_eq1, bI_isB, isB_0, isB_1, il_0, il_1, il_2, il_3, il_4, il_5, il_6, il_7, il_8, il_9, il_10, il_12, il_16, il_18, il_24, il_27, il_30, il_31, il_32, il_40, il_47, il_48, il_49, il_55, il_56, il_57, il_59, il_63, il_64, il_96, il_97, il_98, il_99, il_101, il_103, il_104, il_105, il_108, il_109, il_110, il_111, il_112, il_114, il_115, il_116, il_117, il_119, il_122, il_127, il_128, il_200, il_225, il_255, il_256, il_999, il_1575, il_9999, il_65536, il_252645135, il_858993459, il_1431655765, q.nt]
        rw [if_pos (by omega), if_pos A]
        rw [bI_f A, bI_f]
        intro u
        apply A
        obtain ⟨d, hd⟩ : ∃ d, 6 = k + d := ⟨6 - k, by omega⟩
        unfold ro_Q at u
        rw [Bool.and_eq_true] at u
        rw [Bool.and_eq_true]
        refine ⟨u.1, ?_⟩
        rw [List.all_eq_true]
        intro x hx
        exact (List.all_eq_true.1 u.2) x (List.mem_range.2 (by have := List.mem_range.1 hx; omega))
    · simp (maxSteps := 3000000) (implicitDefEqProofs := false) (disch := omega) only [jl_e, jn_e, bd_e, gd_t, iI_add, iI_sub, iI_mul, iI_neg, if_true, if_false, not_true_eq_false, not_false_eq_true, Int.reduceEq, Nat.add_zero, Int.toNat_natCast, iI_cl, iI_lt, iI_eq, gd_in, bI_eq0, bI_eq1, bI_isB, isB_0, isB_1, il_0, il_1, il_2, il_3, il_4, il_5, il_6, il_7, il_8, il_9, il_10, il_12, il_16, il_18, il_24, il_27, il_30, il_31, il_32, il_40, il_47, il_48, il_49, il_55, il_56, il_57, il_59, il_63, il_64, il_96, il_97, il_98, il_99, il_101, il_103, il_104, il_105, il_108, il_109, il_110, il_111, il_112, il_114, il_115, il_116, il_117, il_119, il_122, il_127, il_128, il_200, il_225, il_255, il_256, il_999, il_1575, il_9999, il_65536, il_252645135, il_858993459, il_1431655765, q.nt]
      rw [if_neg (by omega), EQ k (by omega)]
theorem ro_f_bm (w : Nat → Bool) (f : Nat) : ro_f (bm w 48).testBit f = ro_f w f := by
  have : ∀ d, d ≤ 48 → ro_g (bm w 48).testBit d = ro_g w d := by
    intro d
    induction d with
    | zero => intro _; rfl
    | succ d ih =>
      intro hd
      unfold ro_g
      rw [bm_tb, decide_eq_true (by omega), Bool.true_and, ih (by omega)]
  unfold ro_f
  exact this _ (by omega)
theorem ro_l_bm (w : Nat → Bool) {e : Nat} (he : e ≤ 48) : ro_l (bm w 48).testBit e = ro_l w e := by
  refine ro_l_congr (fun s hs => ?_)
  rw [bm_tb, decide_eq_true (by omega), Bool.true_and]
theorem ro_fr_all {ρ : RD} {h : Hp} {r : List Nat} (er : ErC h ρ r) : ∃ f, ro_fr ρ 0 r = some f ∧ f ≤ 48 := by
  cases r with
  | nil => exact ⟨0, rfl, by omega⟩
  | cons x r =>
    obtain ⟨f, f1, f2, -⟩ := er r.length (by rw [List.length_cons]; omega)
    rw [List.take_of_length_le (by rw [List.length_cons]; omega)] at f1
    exact ⟨f + 1, f1, by omega⟩
theorem m_isGiven {h : Hp} {a : Alb} (q : AmC h a) (la : LaC h a) {r : List Nat} (er : ErC h (al_r a) r) (hl : r.length ≤ 6) {p f : Nat} (hp : p < (al_w a).length) (e : aG h 131 r.length = iI p) (hf : ro_fr (al_r a) 0 r = some f) (f48 : f ≤ 48) : ∃ h', F_X12_isGiven (iI (r.length + 1 : Nat)) h = some (bI (ro_sl (al_r a) r p = true), h') ∧ ErC h' (al_r a) r ∧ aG h' 132 r.length = iI (ro_f (ro_w (al_r a) p) f) := by
  have h7 := q.1.2.1
  unfold F_X12_isGiven
  have g : iI ((r.length + 1 : Nat) : Int) - 1 = iI (r.length : Int) := by rw [il_1, iI_sub]; exact iI_cg (by omega)
  rw [g, gd_in (by omega) (by omega) (by omega), jl_e, iI_cl (by omega) (by omega), Int.toNat_natCast, e, gd_in (by omega) (by omega) (by omega), jn_e, iI_cl (by omega) (by omega), Int.toNat_natCast, la.1 p hp]
  have hb := bm_48 (wd_b a p)
  have first : ∀ x, x = iI ((f : Int) - 1) → F_X12_firstOf (lN (bm (wd_b a p) 48)) x h = some (iI (ro_f (ro_w (al_r a) p) f), h) := fun x hx => by
    rw [hx, m_firstOf (by omega) f48, ro_f_bm]
    rfl
  have le := ro_f_le (ro_w (al_r a) p) f
  have sl : ro_sl (al_r a) r p = decide (ro_f (ro_w (al_r a) p) f < 48) := by
    unfold ro_sl
    rw [hf]
  have fin : ∀ x, x = iI ((f : Int) - 1) → ∃ h', bd (F_X12_firstOf (lN (bm (wd_b a p) 48)) x h) (fun r5 h6 => gd (inb (iI (r.length : Int)) 8) (jl (aS h6 132 r.length r5) (fun h7 => gd (inb (iI (r.length : Int)) 8) (jn (fun (s8 : Int32) (h9 : Hp) => gd (isB s8) (some (s8, h9))) (fun j10 => if (aG h7 132 r.length) < (48 : Int32) then (j10 (1 : Int32) h7) else (j10 (0 : Int32) h7)))))) = some (bI (ro_sl (al_r a) r p = true), h') ∧ ErC h' (al_r a) r ∧ aG h' 132 r.length = iI (ro_f (ro_w (al_r a) p) f) := fun x hx => by
    rw [first x hx, bd_e, gd_in (by omega) (by omega) (by omega), jl_e, gd_in (by omega) (by omega) (by omega), jn_e, aG_aS_s]
    have fin2 : ErC (aS h 132 r.length (iI (ro_f (ro_w (al_r a) p) f))) (al_r a) r := fun i hi => by
      obtain ⟨w, w1, w2, w3⟩ := er i hi
      exact ⟨w, w1, w2, by rw [aG_aS_j (by omega)]; exact w3⟩
    simp (maxSteps := 3000000) (implicitDefEqProofs := false) (disch := omega) only [jl_e, jn_e, bd_e, gd_t, iI_add, iI_sub, iI_mul, iI_neg, if_true, if_false, not_true_eq_false, not_false_eq_true, Int.reduceEq, Nat.add_zero, Int.toNat_natCast, iI_cl, iI_lt, iI_eq, gd_in, bI_eq0, bI_eq1, bI_isB, isB_0, isB_1, il_0, il_1, il_2, il_3, il_4, il_5, il_6, il_7, il_8, il_9, il_10, il_12, il_16, il_18, il_24, il_27, il_30, il_31, il_32, il_40, il_47, il_48, il_49, il_55, il_56, il_57, il_59, il_63, il_64, il_96, il_97, il_98, il_99, il_101, il_103, il_104, il_105, il_108, il_109, il_110, il_111, il_112, il_114, il_115, il_116, il_117, il_119, il_122, il_127, il_128, il_200, il_225, il_255, il_256, il_999, il_1575, il_9999, il_65536, il_252645135, il_858993459, il_1431655765]
    by_cases c : ro_f (ro_w (al_r a) p) f < 48
    · rw [if_pos (by omega)]
      refine ⟨_, ?_, fin2, aG_aS_s ..⟩
      rw [sl, bI_t (decide_eq_true c)]
    · rw [if_neg (by omega)]
      refine ⟨_, ?_, fin2, aG_aS_s ..⟩
      rw [sl, bI_f (by rw [decide_eq_true_iff]; exact c)]
  have tail : ∀ x, x = iI ((f : Int) - 1) → ∃ h', bd (F_X12_firstOf (lN (bm (wd_b a p) 48)) x h) (fun r5 h6 => gd (inb (iI (r.length : Int)) 8) (jl (aS h6 132 (iI (r.length : Int)).toNatClampNeg r5) (fun h7 => gd (inb (iI (r.length : Int)) 8) (jn (fun (s8 : Int32) (h9 : Hp) => gd (isB s8) (some (s8, h9))) (fun j10 => if (aG h7 132 (iI (r.length : Int)).toNatClampNeg) < (48 : Int32) then (j10 (1 : Int32) h7) else (j10 (0 : Int32) h7)))))) = some (bI (ro_sl (al_r a) r p = true), h') ∧ ErC h' (al_r a) r ∧ aG h' 132 r.length = iI (ro_f (ro_w (al_r a) p) f) := fun x hx => by
    rw [iI_cl (by omega) (by omega), Int.toNat_natCast]
    exact fin x hx
  by_cases n0 : r = []
  · subst n0
    have : f = 0 := by cases hf; rfl
    subst this
    rw [if_pos (by rfl)]
    exact tail _ rfl
  · have lp : 0 < r.length := List.length_pos_iff.2 n0
    rw [if_neg (by rw [il_1, iI_eq (by omega) (by omega) (by omega) (by omega)]; omega)]
    have g2 : iI ((r.length + 1 : Nat) : Int) - 2 = iI ((r.length - 1 : Nat) : Int) := by rw [il_2, iI_sub]; exact iI_cg (by omega)
    rw [g2, gd_in (by omega) (by omega) (by omega), iI_cl (by omega) (by omega), Int.toNat_natCast]
    obtain ⟨w, w1, w2, w3⟩ := er (r.length - 1) (by omega)
    rw [List.take_of_length_le (by omega), hf] at w1
    have : f = w + 1 := Option.some.inj w1
    rw [w3]
    exact fin _ (iI_cg (show (w : Int) = (f : Int) - 1 by omega))
