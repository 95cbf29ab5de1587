-- ===== the reference: what one order leaves =====
theorem tnm1 (k : Nat) : ((k : Int) - 1).toNat = k - 1 := by omega
theorem tnp1 (k : Nat) : ((k : Int) + 1).toNat = k + 1 := by omega
def nt_K (ρ : RD) (l : List Nat) (i s : Nat) : Prop := ro_w ρ (l.getD i 0) s = true ∧ (∃ f, ro_fr ρ 0 (l.take i) = some f ∧ f ≤ s) ∧ s + 2 ≤ ro_la ρ (l.drop (i + 1))
def LtC (h : Hp) (ρ : RD) (l : List Nat) (k : Nat) : Prop := ∀ i, k ≤ i → i < l.length → aG h 133 i = iI ((ro_la ρ (l.drop i) : Int) - 1)
def NtB (g : Hp) (a : Alb) (l : List Nat) (F : Nat) : Prop := AmC g a ∧ LaC g a ∧ RwC g l ∧ ErC g (al_r a) l ∧ sG g 7522 = iI F
theorem NtB.fr {g g' : Hp} {a : Alb} {l : List Nat} {F : Nat} {A : List Nat} (q : NtB g a l F) (f : FrX [] A g g') (n : ∀ k, k ∈ A → 133 ≤ k) : NtB g' a l F :=
  ⟨q.1.fr f (by simp) (fun k z => by have := n k z; omega), q.2.1.fr f (fun z => by have := n _ z; omega) (fun z => by have := n _ z; omega), q.2.2.1.fr f (fun z => by have := n _ z; omega), q.2.2.2.1.fr f (fun z => by have := n _ z; omega), (f.sg (by simp)).trans q.2.2.2.2⟩
/-- what stands behind the first ones can be given slots -/
theorem er_la {ρ : RD} {h : Hp} {l : List Nat} (er : ErC h ρ l) {i : Nat} (hi : i ≤ l.length) : 1 ≤ ro_la ρ (l.drop i) ∧ ∃ f, ro_fr ρ 0 (l.take i) = some f ∧ f ≤ 48 ∧ f + 1 ≤ ro_la ρ (l.drop i) := by
  obtain ⟨f, f1, f2⟩ := ro_fr_all er
  rw [← List.take_append_drop i l, ro_fr_app] at f1
  cases e : ro_fr ρ 0 (l.take i) with
  | none => rw [e] at f1; cases f1
  | some g =>
    rw [e] at f1
    have f1 : ro_fr ρ g (l.drop i) = some f := f1
    have g48 := (ro_fr_le ρ _ 0 g (by omega) e).1
    have := (ro_la_iff ρ (l.drop i) g g48).1 (by rw [f1]; rfl)
    exact ⟨by omega, g, rfl, g48, this⟩
theorem drop_cons {l : List Nat} {i : Nat} (hi : i < l.length) : l.drop i = l.getD i 0 :: l.drop (i + 1) := by
  rw [List.drop_eq_getElem_cons hi, List.getD_eq_getElem?_getD, List.getElem?_eq_getElem hi]
  rfl
def NtC (h h' : Hp) (ρ : RD) (l : List Nat) (lf : Nat → Nat) (F : Nat) : Prop := (∀ p, p < 7 → ∃ n, lG h' 134 p = lN n ∧ n < 281474976710656 ∧ ∀ s, (n.testBit s = true ↔ (lf p).testBit s = true ∨ ∃ i, i < l.length ∧ l.getD i 0 = p ∧ nt_K ρ l i s)) ∧ ∀ k, k < l.length → aG h' 135 (l.getD k 0) = (if F = 0 ∨ iI (k : Int) < aG h 135 (l.getD k 0) then iI (k : Int) else aG h 135 (l.getD k 0)) ∧ aG h' 136 (l.getD k 0) = (if F = 0 ∨ aG h 136 (l.getD k 0) < iI (k : Int) then iI (k : Int) else aG h 136 (l.getD k 0))
theorem m_note {h : Hp} {a : Alb} {l : List Nat} {F : Nat} (B : NtB h a l F) (hl : l.length ≤ 7) (hw : ∀ p ∈ l, p < (al_w a).length) (hn : l.Nodup) (F4 : F < 10000) {lf : Nat → Nat} (hlf : ∀ p, p < 7 → lG h 134 p = lN (lf p) ∧ lf p < 281474976710656) : ∃ h', F_X12_note (iI l.length) h = some ((), h') ∧ NtC h h' (al_r a) l lf F := by
  have h7 := B.1.1.2.1
  have LA := fun i hi => er_la B.2.2.2.1 (i := i) hi
  refine wp_u ?_
  unfold F_X12_note
  rw [il_1, iI_sub, jl_e]
  refine lp_up (α := Int32 → Hp → Option (Unit × Hp)) (P := fun k c => ∀ v g, v = iI ((l.length : Int) - 1 - k) → NtB g a l F → LtC g (al_r a) l (l.length - k) → lF g 134 = lF h 134 → aF g 135 = aF h 135 → aF g 136 = aF h 136 → Wp (c v g) (fun _ h' => NtC h h' (al_r a) l lf F)) l.length (by omega) (fun k c hk ih v g hv bg lt k1 k2 k3 => ?_) _ h (iI_cg (by omega)) B (fun i h1 h2 => by omega) rfl rfl rfl
  subst hv
  by_cases z : k < l.length
  · have ih := ih z
    obtain ⟨j, hj⟩ : ∃ j, j = l.length - 1 - k := ⟨_, rfl⟩
    have jl : j < l.length := by omega
    have pj := hw _ (ro_get_mem.2 ⟨j, jl, rfl⟩)
    have ej : (l.length : Int) - 1 - k = (j : Int) := by omega
    have laj := (LA j (by omega)).1
    have laj1 := (LA (j + 1) (by omega)).1
    have le1 := ro_la_le (al_r a) (l.drop (j + 1))
    have hb := bm_48 (wd_b a (l.getD j 0))
    have last : ∀ x, x = iI ((ro_la (al_r a) (l.drop (j + 1)) - 1 : Nat) : Int) → F_X12_lastOf (lN (bm (wd_b a (l.getD j 0)) 48)) x g = some (iI ((ro_la (al_r a) (l.drop j) : Int) - 1), g) := fun x hx => by
      rw [hx, m_lastOf (by omega) (by omega), ro_l_bm _ (by omega), drop_cons jl]
      rfl
    have go : ∀ x, x = iI ((ro_la (al_r a) (l.drop j) : Int) - 1) → Wp (c (iI ((j : Int) + -1)) (aS g 133 j x)) (fun _ h' => NtC h h' (al_r a) l lf F) := fun x hx => by
      have f : FrX [] [133] g (aS g 133 j x) := (FrX.refl _ _ g).aS (by decide) _ _
      refine ih _ _ (iI_cg (by omega)) (bg.fr f (by decide)) (fun i h1 h2 => ?_) (by rw [← k1]; exact (f.2 134 (by decide)).2) (by rw [← k2]; exact (f.2 135 (by decide)).1) (by rw [← k3]; exact (f.2 136 (by decide)).1)
      by_cases e : i = j
      · subst e
        rw [aG_aS_s, hx]
      · rw [aG_aS_j e]
        exact lt i (by omega) h2
    rw [ej]
    simp (maxSteps := 3000000) (implicitDefEqProofs := false) (disch := omega) only [jl_e, jn_e, bd_e, gd_t, iI_add, iI_sub, iI_mul, iI_neg, if_true, if_false, not_true_eq_false, not_false_eq_true, Int.reduceEq, Nat.add_zero, Int.toNat_natCast, iI_cl, iI_lt, iI_eq, gd_in, bI_eq0, bI_eq1, bI_isB, isB_0, isB_1, il_0, il_1, il_2, il_3, il_4, il_5, il_6, il_7, il_8, il_9, il_10, il_12, il_16, il_18, il_24, il_27, il_30, il_31, il_32, il_40, il_47, il_48, il_49, il_55, il_56, il_57, il_59, il_63, il_64, il_96, il_97, il_98, il_99, il_101, il_103, il_104, il_105, il_108, il_109, il_110, il_111, il_112, il_114, il_115, il_116, il_117, il_119, il_122, il_127, il_128, il_200, il_225, il_255, il_256, il_999, il_1575, il_9999, il_65536, il_252645135, il_858993459, il_1431655765, bg.2.2.1 j jl, bg.2.1.1 _ pj]
    rw [if_neg (by omega)]
    by_cases e0 : j + 1 = l.length
    · rw [if_pos (by omega)]
      rw [last _ (by rw [e0, List.drop_length]; rfl), bd_e]
      exact go _ rfl
    · have := lt (j + 1) (by omega) (by omega)
      rw [if_neg (by omega)]
      (try simp (maxSteps := 3000000) (implicitDefEqProofs := false) (disch := omega) only [jl_e, jn_e, bd_e, gd_t, iI_add, iI_sub, iI_mul, iI_neg, if_true, if_false, not_true_eq_false, not_false_eq_true, Int.reduceEq, Nat.add_zero, Int.toNat_natCast, iI_cl, iI_lt, iI_eq, gd_in, bI_eq0, bI_eq1, bI_isB, isB_0, isB_1, il_0, il_1, il_2, il_3, il_4, il_5, il_6, il_7, il_8, il_9, il_10, il_12, il_16, il_18, il_24, il_27, il_30, il_31, il_32, il_40, il_47, il_48, il_49, il_55, il_56, il_57, il_59, il_63, il_64, il_96, il_97, il_98, il_99, il_101, il_103, il_104, il_105, il_108, il_109, il_110, il_111, il_112, il_114, il_115, il_116, il_117, il_119, il_122, il_127, il_128, il_200, il_225, il_255, il_256, il_999, il_1575, il_9999, il_65536, il_252645135, il_858993459, il_1431655765, tnp1, this])
      rw [last _ (iI_cg (by omega)), bd_e]
      exact go _ rfl
  · have ek : k = l.length := by omega
    subst ek
    simp (maxSteps := 3000000) (implicitDefEqProofs := false) (disch := omega) only [jl_e, jn_e, bd_e, gd_t, iI_add, iI_sub, iI_mul, iI_neg, if_true, if_false, not_true_eq_false, not_false_eq_true, Int.reduceEq, Nat.add_zero, Int.toNat_natCast, iI_cl, iI_lt, iI_eq, gd_in, bI_eq0, bI_eq1, bI_isB, isB_0, isB_1, il_0, il_1, il_2, il_3, il_4, il_5, il_6, il_7, il_8, il_9, il_10, il_12, il_16, il_18, il_24, il_27, il_30, il_31, il_32, il_40, il_47, il_48, il_49, il_55, il_56, il_57, il_59, il_63, il_64, il_96, il_97, il_98, il_99, il_101, il_103, il_104, il_105, il_108, il_109, il_110, il_111, il_112, il_114, il_115, il_116, il_117, il_119, il_122, il_127, il_128, il_200, il_225, il_255, il_256, il_999, il_1575, il_9999, il_65536, il_252645135, il_858993459, il_1431655765]
    rw [if_pos (by omega)]
    have lt : LtC g (al_r a) l 0 := fun i h1 h2 => lt i (by omega) h2
    refine lp_up (α := Int32 → Hp → Option (Unit × Hp)) (P := fun k c => ∀ u, NtB u a l F → LtC u (al_r a) l 0 → (∀ p, p < 7 → ∃ n, lG u 134 p = lN n ∧ n < 281474976710656 ∧ ∀ s, (n.testBit s = true ↔ (lf p).testBit s = true ∨ ∃ i, i < k ∧ l.getD i 0 = p ∧ nt_K (al_r a) l i s)) → (∀ i, i < k → aG u 135 (l.getD i 0) = (if F = 0 ∨ iI (i : Int) < aG h 135 (l.getD i 0) then iI (i : Int) else aG h 135 (l.getD i 0)) ∧ aG u 136 (l.getD i 0) = (if F = 0 ∨ aG h 136 (l.getD i 0) < iI (i : Int) then iI (i : Int) else aG h 136 (l.getD i 0))) → (∀ i, k ≤ i → i < l.length → aG u 135 (l.getD i 0) = aG h 135 (l.getD i 0) ∧ aG u 136 (l.getD i 0) = aG h 136 (l.getD i 0)) → Wp (c (iI k) u) (fun _ h' => NtC h h' (al_r a) l lf F)) l.length (by omega) (fun k c hk ih u bu lu i1 i2 i3 => ?_) g bg lt (fun p hp => ⟨lf p, by rw [lG_F, k1]; exact (hlf p hp).1, (hlf p hp).2, fun s => ⟨Or.inl, fun w => w.elim id (fun ⟨i, hi, _⟩ => absurd hi (Nat.not_lt_zero i))⟩⟩) (fun i hi => absurd hi (Nat.not_lt_zero i)) (fun i _ hi => ⟨congrFun k2 _, congrFun k3 _⟩)
    by_cases z : k < l.length
    · have ih := ih z
      have pk := hw _ (ro_get_mem.2 ⟨k, z, rfl⟩)
      have pk7 : l.getD k 0 < 7 := by omega
      have rk := bu.2.2.1 k z
      have wk := bu.2.1.1 _ pk
      have le1 := ro_la_le (al_r a) (l.drop (k + 1))
      obtain ⟨-, f, f1, f2, -⟩ := LA k (by omega)
      have la1 := (LA (k + 1) (by omega)).1
      obtain ⟨E, hE⟩ : ∃ E : Nat, ro_la (al_r a) (l.drop (k + 1)) = E + 1 := ⟨ro_la (al_r a) (l.drop (k + 1)) - 1, by omega⟩
      have c2v : k + 1 = l.length → E = 48 := fun e => by
        rw [e, List.drop_length] at hE
        have : (49 : Nat) = E + 1 := hE
        omega
      have c1v : k = 0 → f = 0 := fun e => by
        rw [e, List.take_zero] at f1
        cases f1
        rfl
      have e132 : k ≠ 0 → aG u 132 (k - 1) = iI ((f : Int) - 1) := fun e => by
        obtain ⟨w, w1, w2, w3⟩ := bu.2.2.2.1 (k - 1) (by omega)
        rw [show k - 1 + 1 = k by omega, f1] at w1
        have := Option.some.inj w1
        rw [w3]
        exact iI_cg (by omega)
      have e133 : k + 1 ≠ l.length → aG u 133 (k + 1) = iI (E : Int) := fun e => by
        rw [lu (k + 1) (by omega) (by omega), hE]
        exact iI_cg (by omega)
      have KK : ∀ s, nt_K (al_r a) l k s ↔ ro_w (al_r a) (l.getD k 0) s = true ∧ f ≤ s ∧ s < E := fun s => by
        unfold nt_K
        rw [f1, hE]
        refine and_congr Iff.rfl (and_congr ⟨fun ⟨x, hx, hs⟩ => ?_, fun hs => ⟨f, rfl, hs⟩⟩ (by omega))
        have := Option.some.inj hx
        omega
      have rc : (k = 0 ∨ k ≠ 0) ∧ (k + 1 = l.length ∨ k + 1 ≠ l.length) := ⟨by omega, by omega⟩
      have low : ∀ i, i ≠ k → i < l.length → l.getD i 0 ≠ l.getD k 0 := fun i hi hil e => hi (ro_get_inj hn hil z e)
      have i1z : ∀ p, p < 7 → ∃ n, lG u 134 p = lN n ∧ n < 281474976710656 ∧ ∀ s, (n.testBit s = true ↔ (lf p).testBit s = true ∨ (∃ i, i < k ∧ l.getD i 0 = p ∧ nt_K (al_r a) l i s) ∨ (p = l.getD k 0 ∧ f ≤ s ∧ s < f + 0 ∧ ro_w (al_r a) (l.getD k 0) s = true)) := fun p hp => by
        obtain ⟨n, n1, n2, n3⟩ := i1 p hp
        refine ⟨n, n1, n2, fun s => ?_⟩
        rw [n3 s]
        constructor
        · rintro (x | x)
          · exact Or.inl x
          · exact Or.inr (Or.inl x)
        · rintro (x | x | x)
          · exact Or.inl x
          · exact Or.inr x
          · omega
      simp (maxSteps := 3000000) (implicitDefEqProofs := false) (disch := omega) only [jl_e, jn_e, bd_e, gd_t, iI_add, iI_sub, iI_mul, iI_neg, if_true, if_false, not_true_eq_false, not_false_eq_true, Int.reduceEq, Nat.add_zero, Int.toNat_natCast, iI_cl, iI_lt, iI_eq, gd_in, bI_eq0, bI_eq1, bI_isB, isB_0, isB_1, il_0, il_1, il_2, il_3, il_4, il_5, il_6, il_7, il_8, il_9, il_10, il_12, il_16, il_18, il_24, il_27, il_30, il_31, il_32, il_40, il_47, il_48, il_49, il_55, il_56, il_57, il_59, il_63, il_64, il_96, il_97, il_98, il_99, il_101, il_103, il_104, il_105, il_108, il_109, il_110, il_111, il_112, il_114, il_115, il_116, il_117, il_119, il_122, il_127, il_128, il_200, il_225, il_255, il_256, il_999, il_1575, il_9999, il_65536, il_252645135, il_858993459, il_1431655765, rk, wk]
      rw [if_pos (by omega)]
      rcases rc with ⟨r1 | r1, r2 | r2⟩
      · rw [if_pos (by omega)]
        (try simp (maxSteps := 3000000) (implicitDefEqProofs := false) (disch := omega) only [jl_e, jn_e, bd_e, gd_t, iI_add, iI_sub, iI_mul, iI_neg, if_true, if_false, not_true_eq_false, not_false_eq_true, Int.reduceEq, Nat.add_zero, Int.toNat_natCast, iI_cl, iI_lt, iI_eq, gd_in, bI_eq0, bI_eq1, bI_isB, isB_0, isB_1, il_0, il_1, il_2, il_3, il_4, il_5, il_6, il_7, il_8, il_9, il_10, il_12, il_16, il_18, il_24, il_27, il_30, il_31, il_32, il_40, il_47, il_48, il_49, il_55, il_56, il_57, il_59, il_63, il_64, il_96, il_97, il_98, il_99, il_101, il_103, il_104, il_105, il_108, il_109, il_110, il_111, il_112, il_114, il_115, il_116, il_117, il_119, il_122, il_127, il_128, il_200, il_225, il_255, il_256, il_999, il_1575, il_9999, il_65536, il_252645135, il_858993459, il_1431655765])
        rw [if_pos (by omega)]
        have to : (47 : Int) = (E : Int) - 1 := by have := c2v r2; omega
        have from' : (0 : Int) = (f : Int) := by have := c1v r1; omega
        rw [to, from']
        refine lp_up (α := Int32 → Hp → Option (Unit × Hp)) (P := fun k' c => ∀ v y, v = iI ((f : Int) + k') → NtB y a l F → LtC y (al_r a) l 0 → (∀ p, p < 7 → ∃ n, lG y 134 p = lN n ∧ n < 281474976710656 ∧ ∀ s, (n.testBit s = true ↔ (lf p).testBit s = true ∨ (∃ i, i < k ∧ l.getD i 0 = p ∧ nt_K (al_r a) l i s) ∨ (p = l.getD k 0 ∧ f ≤ s ∧ s < f + k' ∧ ro_w (al_r a) (l.getD k 0) s = true))) → aF y 135 = aF u 135 → aF y 136 = aF u 136 → Wp (c v y) (fun _ h' => NtC h h' (al_r a) l lf F)) (E - f) (by omega) (fun k' c' hk' ih' v y hv by' ly j1 j2 j3 => ?_) _ u (iI_cg (by omega)) bu lu i1z rfl rfl
        subst hv
        by_cases z' : k' < E - f
        · have ih' := ih' z'
          obtain ⟨n, n1, n2, n3⟩ := j1 _ pk7
          obtain ⟨s0, hs0⟩ : ∃ s0 : Nat, s0 = f + k' := ⟨_, rfl⟩
          have s48 : s0 < 48 := by omega
          rw [show (f : Int) + (k' : Int) = (s0 : Int) by omega]
          simp (maxSteps := 3000000) (implicitDefEqProofs := false) (disch := omega) only [jl_e, jn_e, bd_e, gd_t, iI_add, iI_sub, iI_mul, iI_neg, if_true, if_false, not_true_eq_false, not_false_eq_true, Int.reduceEq, Nat.add_zero, Int.toNat_natCast, iI_cl, iI_lt, iI_eq, gd_in, bI_eq0, bI_eq1, bI_isB, isB_0, isB_1, il_0, il_1, il_2, il_3, il_4, il_5, il_6, il_7, il_8, il_9, il_10, il_12, il_16, il_18, il_24, il_27, il_30, il_31, il_32, il_40, il_47, il_48, il_49, il_55, il_56, il_57, il_59, il_63, il_64, il_96, il_97, il_98, il_99, il_101, il_103, il_104, il_105, il_108, il_109, il_110, il_111, il_112, il_114, il_115, il_116, il_117, il_119, il_122, il_127, il_128, il_200, il_225, il_255, il_256, il_999, il_1575, il_9999, il_65536, il_252645135, il_858993459, il_1431655765, by'.2.1.1 _ pk, n1, lL_bit (show s0 < 64 by omega), lL_and, lL_or]
          rw [if_neg (by omega)]
          have f' : FrX [] [134] y (lS y 134 (l.getD k 0) (lN (n ||| (bm (wd_b a (l.getD k 0)) 48 &&& 2 ^ s0)))) := (FrX.refl _ _ y).lS (by decide) _ _
          refine ih' _ _ (iI_cg (by omega)) (by'.fr f' (by decide)) (fun i h1 h2 => (f'.ag (by decide) _).trans (ly i h1 h2)) (fun p hp => ?_) ((f'.2 135 (by decide)).1.trans j2) ((f'.2 136 (by decide)).1.trans j3)
          by_cases ep : p = l.getD k 0
          · subst ep
            refine ⟨_, lG_lS_s .., Nat.or_lt_two_pow (n := 48) n2 (Nat.lt_of_le_of_lt Nat.and_le_left (bm_48 _)), fun s => ?_⟩
            have W : ro_w (al_r a) (l.getD k 0) s = wd_b a (l.getD k 0) s := rfl
            rw [Nat.testBit_or, Nat.testBit_and, Nat.testBit_two_pow, bm_tb, Bool.or_eq_true, n3 s, Bool.and_eq_true, Bool.and_eq_true, decide_eq_true_iff, decide_eq_true_iff, W]
            constructor
            · rintro ((x | x | ⟨x1, x2, x3, x4⟩) | ⟨⟨x1, x2⟩, x3⟩)
              · exact Or.inl x
              · exact Or.inr (Or.inl x)
              · exact Or.inr (Or.inr ⟨x1, x2, by omega, x4⟩)
              · exact Or.inr (Or.inr ⟨rfl, by omega, by omega, x2⟩)
            · rintro (x | x | ⟨x1, x2, x3, x4⟩)
              · exact Or.inl (Or.inl x)
              · exact Or.inl (Or.inr (Or.inl x))
              · by_cases es : s = s0
                · exact Or.inr ⟨⟨by omega, x4⟩, es.symm⟩
                · exact Or.inl (Or.inr (Or.inr ⟨x1, x2, by omega, x4⟩))
          · obtain ⟨n', m1, m2, m3⟩ := j1 p hp
            refine ⟨n', (lG_lS_j ep ..).trans m1, m2, fun s => ?_⟩
            rw [m3 s]
            constructor
            · rintro (x | x | x)
              · exact Or.inl x
              · exact Or.inr (Or.inl x)
              · exact absurd x.1 ep
            · rintro (x | x | x)
              · exact Or.inl x
              · exact Or.inr (Or.inl x)
              · exact absurd x.1 ep
        · simp (maxSteps := 3000000) (implicitDefEqProofs := false) (disch := omega) only [jl_e, jn_e, bd_e, gd_t, iI_add, iI_sub, iI_mul, iI_neg, if_true, if_false, not_true_eq_false, not_false_eq_true, Int.reduceEq, Nat.add_zero, Int.toNat_natCast, iI_cl, iI_lt, iI_eq, gd_in, bI_eq0, bI_eq1, bI_isB, isB_0, isB_1, il_0, il_1, il_2, il_3, il_4, il_5, il_6, il_7, il_8, il_9, il_10, il_12, il_16, il_18, il_24, il_27, il_30, il_31, il_32, il_40, il_47, il_48, il_49, il_55, il_56, il_57, il_59, il_63, il_64, il_96, il_97, il_98, il_99, il_101, il_103, il_104, il_105, il_108, il_109, il_110, il_111, il_112, il_114, il_115, il_116, il_117, il_119, il_122, il_127, il_128, il_200, il_225, il_255, il_256, il_999, il_1575, il_9999, il_65536, il_252645135, il_858993459, il_1431655765, by'.2.2.2.2, sG_aS]
          rw [if_pos (by omega)]
          have o1 : aG y 135 (l.getD k 0) = aG h 135 (l.getD k 0) := (congrFun j2 _).trans (i3 k (by omega) z).1
          have o2 : aG y 136 (l.getD k 0) = aG h 136 (l.getD k 0) := (congrFun j3 _).trans (i3 k (by omega) z).2
          have fin : ∀ x1 x2, x1 = (if F = 0 ∨ iI (k : Int) < aG h 135 (l.getD k 0) then iI (k : Int) else aG h 135 (l.getD k 0)) → x2 = (if F = 0 ∨ aG h 136 (l.getD k 0) < iI (k : Int) then iI (k : Int) else aG h 136 (l.getD k 0)) → Wp (c (iI ((k : Int) + 1)) (aS (aS y 135 (l.getD k 0) x1) 136 (l.getD k 0) x2)) (fun _ h' => NtC h h' (al_r a) l lf F) := fun x1 x2 v1 v2 => by
            have f' : FrX [] [135, 136] y (aS (aS y 135 (l.getD k 0) x1) 136 (l.getD k 0) x2) := ((FrX.refl _ _ y).aS (by decide) _ _).aS (by decide) _ _
            refine ih _ (by'.fr f' (by decide)) (fun i h1 h2 => (f'.ag (by decide) _).trans (ly i h1 h2)) (fun p hp => ?_) (fun i hi => ?_) (fun i h1 h2 => ?_)
            · obtain ⟨n, n1, n2, n3⟩ := j1 p hp
              refine ⟨n, (f'.lg (by decide) _).trans n1, n2, fun s => ?_⟩
              rw [n3 s]
              constructor
              · rintro (x | ⟨i, x1, x2, x3⟩ | ⟨x1, x2, x3, x4⟩)
                · exact Or.inl x
                · exact Or.inr ⟨i, by omega, x2, x3⟩
                · exact Or.inr ⟨k, by omega, x1.symm, (KK s).2 ⟨x4, x2, by omega⟩⟩
              · rintro (x | ⟨i, x1, x2, x3⟩)
                · exact Or.inl x
                · by_cases ei : i = k
                  · subst ei
                    have := (KK s).1 x3
                    exact Or.inr (Or.inr ⟨x2.symm, this.2.1, by omega, this.1⟩)
                  · exact Or.inr (Or.inl ⟨i, by omega, x2, x3⟩)
            · by_cases ei : i = k
              · subst ei
                rw [aG_aS_k (by decide), aG_aS_s, aG_aS_s]
                exact ⟨v1, v2⟩
              · have ne := low i ei (by omega)
                rw [aG_aS_k (by decide), aG_aS_j ne, aG_aS_j ne, aG_aS_k (by decide), aG_F y, aG_F y, j2, j3]
                exact i2 i (by omega)
            · have ne := low i (by omega) h2
              rw [aG_aS_k (by decide), aG_aS_j ne, aG_aS_j ne, aG_aS_k (by decide), aG_F y, aG_F y, j2, j3]
              exact i3 i (by omega) h2
          have q2 : ∀ x1, aG (aS y 135 (l.getD k 0) x1) 136 (l.getD k 0) = aG h 136 (l.getD k 0) := fun x1 => (aG_aS_k (by decide) ..).trans o2
          by_cases F0 : F = 0
          · rw [if_pos (by omega), if_pos (by omega)]
            exact fin _ _ (by rw [if_pos (Or.inl F0)]) (by rw [if_pos (Or.inl F0)])
          · rw [if_neg (by omega), o1]
            by_cases w1 : iI (k : Int) < aG h 135 (l.getD k 0)
            · rw [if_pos w1, if_neg (by omega), q2]
              by_cases w2 : aG h 136 (l.getD k 0) < iI (k : Int)
              · rw [if_pos w2]
                exact fin _ _ (by rw [if_pos (Or.inr w1)]) (by rw [if_pos (Or.inr w2)])
              · rw [if_neg w2]
                exact fin _ _ (by rw [if_pos (Or.inr w1)]) (by rw [if_neg (fun z => z.elim F0 w2)])
            · rw [if_neg w1, if_neg (by omega), q2]
              by_cases w2 : aG h 136 (l.getD k 0) < iI (k : Int)
              · rw [if_pos w2]
                exact fin _ _ (by rw [if_neg (fun z => z.elim F0 w1)]) (by rw [if_pos (Or.inr w2)])
              · rw [if_neg w2]
                exact fin _ _ (by rw [if_neg (fun z => z.elim F0 w1)]) (by rw [if_neg (fun z => z.elim F0 w2)])
      · rw [if_pos (by omega)]
        (try simp (maxSteps := 3000000) (implicitDefEqProofs := false) (disch := omega) only [jl_e, jn_e, bd_e, gd_t, iI_add, iI_sub, iI_mul, iI_neg, if_true, if_false, not_true_eq_false, not_false_eq_true, Int.reduceEq, Nat.add_zero, Int.toNat_natCast, iI_cl, iI_lt, iI_eq, gd_in, bI_eq0, bI_eq1, bI_isB, isB_0, isB_1, il_0, il_1, il_2, il_3, il_4, il_5, il_6, il_7, il_8, il_9, il_10, il_12, il_16, il_18, il_24, il_27, il_30, il_31, il_32, il_40, il_47, il_48, il_49, il_55, il_56, il_57, il_59, il_63, il_64, il_96, il_97, il_98, il_99, il_101, il_103, il_104, il_105, il_108, il_109, il_110, il_111, il_112, il_114, il_115, il_116, il_117, il_119, il_122, il_127, il_128, il_200, il_225, il_255, il_256, il_999, il_1575, il_9999, il_65536, il_252645135, il_858993459, il_1431655765])
        rw [if_neg (by omega)]
        (try simp (maxSteps := 3000000) (implicitDefEqProofs := false) (disch := omega) only [jl_e, jn_e, bd_e, gd_t, iI_add, iI_sub, iI_mul, iI_neg, if_true, if_false, not_true_eq_false, not_false_eq_true, Int.reduceEq, Nat.add_zero, Int.toNat_natCast, iI_cl, iI_lt, iI_eq, gd_in, bI_eq0, bI_eq1, bI_isB, isB_0, isB_1, il_0, il_1, il_2, il_3, il_4, il_5, il_6, il_7, il_8, il_9, il_10, il_12, il_16, il_18, il_24, il_27, il_30, il_31, il_32, il_40, il_47, il_48, il_49, il_55, il_56, il_57, il_59, il_63, il_64, il_96, il_97, il_98, il_99, il_101, il_103, il_104, il_105, il_108, il_109, il_110, il_111, il_112, il_114, il_115, il_116, il_117, il_119, il_122, il_127, il_128, il_200, il_225, il_255, il_256, il_999, il_1575, il_9999, il_65536, il_252645135, il_858993459, il_1431655765, tnp1, e133 r2])
        have from' : (0 : Int) = (f : Int) := by have := c1v r1; omega
        rw [from']
        refine lp_up (α := Int32 → Hp → Option (Unit × Hp)) (P := fun k' c => ∀ v y, v = iI ((f : Int) + k') → NtB y a l F → LtC y (al_r a) l 0 → (∀ p, p < 7 → ∃ n, lG y 134 p = lN n ∧ n < 281474976710656 ∧ ∀ s, (n.testBit s = true ↔ (lf p).testBit s = true ∨ (∃ i, i < k ∧ l.getD i 0 = p ∧ nt_K (al_r a) l i s) ∨ (p = l.getD k 0 ∧ f ≤ s ∧ s < f + k' ∧ ro_w (al_r a) (l.getD k 0) s = true))) → aF y 135 = aF u 135 → aF y 136 = aF u 136 → Wp (c v y) (fun _ h' => NtC h h' (al_r a) l lf F)) (E - f) (by omega) (fun k' c' hk' ih' v y hv by' ly j1 j2 j3 => ?_) _ u (iI_cg (by omega)) bu lu i1z rfl rfl
        subst hv
        by_cases z' : k' < E - f
        · have ih' := ih' z'
          obtain ⟨n, n1, n2, n3⟩ := j1 _ pk7
          obtain ⟨s0, hs0⟩ : ∃ s0 : Nat, s0 = f + k' := ⟨_, rfl⟩
          have s48 : s0 < 48 := by omega
          rw [show (f : Int) + (k' : Int) = (s0 : Int) by omega]
          simp (maxSteps := 3000000) (implicitDefEqProofs := false) (disch := omega) only [jl_e, jn_e, bd_e, gd_t, iI_add, iI_sub, iI_mul, iI_neg, if_true, if_false, not_true_eq_false, not_false_eq_true, Int.reduceEq, Nat.add_zero, Int.toNat_natCast, iI_cl, iI_lt, iI_eq, gd_in, bI_eq0, bI_eq1, bI_isB, isB_0, isB_1, il_0, il_1, il_2, il_3, il_4, il_5, il_6, il_7, il_8, il_9, il_10, il_12, il_16, il_18, il_24, il_27, il_30, il_31, il_32, il_40, il_47, il_48, il_49, il_55, il_56, il_57, il_59, il_63, il_64, il_96, il_97, il_98, il_99, il_101, il_103, il_104, il_105, il_108, il_109, il_110, il_111, il_112, il_114, il_115, il_116, il_117, il_119, il_122, il_127, il_128, il_200, il_225, il_255, il_256, il_999, il_1575, il_9999, il_65536, il_252645135, il_858993459, il_1431655765, by'.2.1.1 _ pk, n1, lL_bit (show s0 < 64 by omega), lL_and, lL_or]
          rw [if_neg (by omega)]
          have f' : FrX [] [134] y (lS y 134 (l.getD k 0) (lN (n ||| (bm (wd_b a (l.getD k 0)) 48 &&& 2 ^ s0)))) := (FrX.refl _ _ y).lS (by decide) _ _
          refine ih' _ _ (iI_cg (by omega)) (by'.fr f' (by decide)) (fun i h1 h2 => (f'.ag (by decide) _).trans (ly i h1 h2)) (fun p hp => ?_) ((f'.2 135 (by decide)).1.trans j2) ((f'.2 136 (by decide)).1.trans j3)
          by_cases ep : p = l.getD k 0
          · subst ep
            refine ⟨_, lG_lS_s .., Nat.or_lt_two_pow (n := 48) n2 (Nat.lt_of_le_of_lt Nat.and_le_left (bm_48 _)), fun s => ?_⟩
            have W : ro_w (al_r a) (l.getD k 0) s = wd_b a (l.getD k 0) s := rfl
            rw [Nat.testBit_or, Nat.testBit_and, Nat.testBit_two_pow, bm_tb, Bool.or_eq_true, n3 s, Bool.and_eq_true, Bool.and_eq_true, decide_eq_true_iff, decide_eq_true_iff, W]
            constructor
            · rintro ((x | x | ⟨x1, x2, x3, x4⟩) | ⟨⟨x1, x2⟩, x3⟩)
              · exact Or.inl x
              · exact Or.inr (Or.inl x)
              · exact Or.inr (Or.inr ⟨x1, x2, by omega, x4⟩)
              · exact Or.inr (Or.inr ⟨rfl, by omega, by omega, x2⟩)
            · rintro (x | x | ⟨x1, x2, x3, x4⟩)
              · exact Or.inl (Or.inl x)
              · exact Or.inl (Or.inr (Or.inl x))
              · by_cases es : s = s0
                · exact Or.inr ⟨⟨by omega, x4⟩, es.symm⟩
                · exact Or.inl (Or.inr (Or.inr ⟨x1, x2, by omega, x4⟩))
          · obtain ⟨n', m1, m2, m3⟩ := j1 p hp
            refine ⟨n', (lG_lS_j ep ..).trans m1, m2, fun s => ?_⟩
            rw [m3 s]
            constructor
            · rintro (x | x | x)
              · exact Or.inl x
              · exact Or.inr (Or.inl x)
              · exact absurd x.1 ep
            · rintro (x | x | x)
              · exact Or.inl x
              · exact Or.inr (Or.inl x)
              · exact absurd x.1 ep
        · simp (maxSteps := 3000000) (implicitDefEqProofs := false) (disch := omega) only [jl_e, jn_e, bd_e, gd_t, iI_add, iI_sub, iI_mul, iI_neg, if_true, if_false, not_true_eq_false, not_false_eq_true, Int.reduceEq, Nat.add_zero, Int.toNat_natCast, iI_cl, iI_lt, iI_eq, gd_in, bI_eq0, bI_eq1, bI_isB, isB_0, isB_1, il_0, il_1, il_2, il_3, il_4, il_5, il_6, il_7, il_8, il_9, il_10, il_12, il_16, il_18, il_24, il_27, il_30, il_31, il_32, il_40, il_47, il_48, il_49, il_55, il_56, il_57, il_59, il_63, il_64, il_96, il_97, il_98, il_99, il_101, il_103, il_104, il_105, il_108, il_109, il_110, il_111, il_112, il_114, il_115, il_116, il_117, il_119, il_122, il_127, il_128, il_200, il_225, il_255, il_256, il_999, il_1575, il_9999, il_65536, il_252645135, il_858993459, il_1431655765, by'.2.2.2.2, sG_aS]
          rw [if_pos (by omega)]
          have o1 : aG y 135 (l.getD k 0) = aG h 135 (l.getD k 0) := (congrFun j2 _).trans (i3 k (by omega) z).1
          have o2 : aG y 136 (l.getD k 0) = aG h 136 (l.getD k 0) := (congrFun j3 _).trans (i3 k (by omega) z).2
          have fin : ∀ x1 x2, x1 = (if F = 0 ∨ iI (k : Int) < aG h 135 (l.getD k 0) then iI (k : Int) else aG h 135 (l.getD k 0)) → x2 = (if F = 0 ∨ aG h 136 (l.getD k 0) < iI (k : Int) then iI (k : Int) else aG h 136 (l.getD k 0)) → Wp (c (iI ((k : Int) + 1)) (aS (aS y 135 (l.getD k 0) x1) 136 (l.getD k 0) x2)) (fun _ h' => NtC h h' (al_r a) l lf F) := fun x1 x2 v1 v2 => by
            have f' : FrX [] [135, 136] y (aS (aS y 135 (l.getD k 0) x1) 136 (l.getD k 0) x2) := ((FrX.refl _ _ y).aS (by decide) _ _).aS (by decide) _ _
            refine ih _ (by'.fr f' (by decide)) (fun i h1 h2 => (f'.ag (by decide) _).trans (ly i h1 h2)) (fun p hp => ?_) (fun i hi => ?_) (fun i h1 h2 => ?_)
            · obtain ⟨n, n1, n2, n3⟩ := j1 p hp
              refine ⟨n, (f'.lg (by decide) _).trans n1, n2, fun s => ?_⟩
              rw [n3 s]
              constructor
              · rintro (x | ⟨i, x1, x2, x3⟩ | ⟨x1, x2, x3, x4⟩)
                · exact Or.inl x
                · exact Or.inr ⟨i, by omega, x2, x3⟩
                · exact Or.inr ⟨k, by omega, x1.symm, (KK s).2 ⟨x4, x2, by omega⟩⟩
              · rintro (x | ⟨i, x1, x2, x3⟩)
                · exact Or.inl x
                · by_cases ei : i = k
                  · subst ei
                    have := (KK s).1 x3
                    exact Or.inr (Or.inr ⟨x2.symm, this.2.1, by omega, this.1⟩)
                  · exact Or.inr (Or.inl ⟨i, by omega, x2, x3⟩)
            · by_cases ei : i = k
              · subst ei
                rw [aG_aS_k (by decide), aG_aS_s, aG_aS_s]
                exact ⟨v1, v2⟩
              · have ne := low i ei (by omega)
                rw [aG_aS_k (by decide), aG_aS_j ne, aG_aS_j ne, aG_aS_k (by decide), aG_F y, aG_F y, j2, j3]
                exact i2 i (by omega)
            · have ne := low i (by omega) h2
              rw [aG_aS_k (by decide), aG_aS_j ne, aG_aS_j ne, aG_aS_k (by decide), aG_F y, aG_F y, j2, j3]
              exact i3 i (by omega) h2
          have q2 : ∀ x1, aG (aS y 135 (l.getD k 0) x1) 136 (l.getD k 0) = aG h 136 (l.getD k 0) := fun x1 => (aG_aS_k (by decide) ..).trans o2
          by_cases F0 : F = 0
          · rw [if_pos (by omega), if_pos (by omega)]
            exact fin _ _ (by rw [if_pos (Or.inl F0)]) (by rw [if_pos (Or.inl F0)])
          · rw [if_neg (by omega), o1]
            by_cases w1 : iI (k : Int) < aG h 135 (l.getD k 0)
            · rw [if_pos w1, if_neg (by omega), q2]
              by_cases w2 : aG h 136 (l.getD k 0) < iI (k : Int)
              · rw [if_pos w2]
                exact fin _ _ (by rw [if_pos (Or.inr w1)]) (by rw [if_pos (Or.inr w2)])
              · rw [if_neg w2]
                exact fin _ _ (by rw [if_pos (Or.inr w1)]) (by rw [if_neg (fun z => z.elim F0 w2)])
            · rw [if_neg w1, if_neg (by omega), q2]
              by_cases w2 : aG h 136 (l.getD k 0) < iI (k : Int)
              · rw [if_pos w2]
                exact fin _ _ (by rw [if_neg (fun z => z.elim F0 w1)]) (by rw [if_pos (Or.inr w2)])
              · rw [if_neg w2]
                exact fin _ _ (by rw [if_neg (fun z => z.elim F0 w1)]) (by rw [if_neg (fun z => z.elim F0 w2)])
      · rw [if_neg (by omega)]
        (try simp (maxSteps := 3000000) (implicitDefEqProofs := false) (disch := omega) only [jl_e, jn_e, bd_e, gd_t, iI_add, iI_sub, iI_mul, iI_neg, if_true, if_false, not_true_eq_false, not_false_eq_true, Int.reduceEq, Nat.add_zero, Int.toNat_natCast, iI_cl, iI_lt, iI_eq, gd_in, bI_eq0, bI_eq1, bI_isB, isB_0, isB_1, il_0, il_1, il_2, il_3, il_4, il_5, il_6, il_7, il_8, il_9, il_10, il_12, il_16, il_18, il_24, il_27, il_30, il_31, il_32, il_40, il_47, il_48, il_49, il_55, il_56, il_57, il_59, il_63, il_64, il_96, il_97, il_98, il_99, il_101, il_103, il_104, il_105, il_108, il_109, il_110, il_111, il_112, il_114, il_115, il_116, il_117, il_119, il_122, il_127, il_128, il_200, il_225, il_255, il_256, il_999, il_1575, il_9999, il_65536, il_252645135, il_858993459, il_1431655765, tnm1, e132 r1])
        rw [if_pos (by omega)]
        have to : (47 : Int) = (E : Int) - 1 := by have := c2v r2; omega
        rw [to, show (f : Int) - 1 + 1 = (f : Int) by omega]
        refine lp_up (α := Int32 → Hp → Option (Unit × Hp)) (P := fun k' c => ∀ v y, v = iI ((f : Int) + k') → NtB y a l F → LtC y (al_r a) l 0 → (∀ p, p < 7 → ∃ n, lG y 134 p = lN n ∧ n < 281474976710656 ∧ ∀ s, (n.testBit s = true ↔ (lf p).testBit s = true ∨ (∃ i, i < k ∧ l.getD i 0 = p ∧ nt_K (al_r a) l i s) ∨ (p = l.getD k 0 ∧ f ≤ s ∧ s < f + k' ∧ ro_w (al_r a) (l.getD k 0) s = true))) → aF y 135 = aF u 135 → aF y 136 = aF u 136 → Wp (c v y) (fun _ h' => NtC h h' (al_r a) l lf F)) (E - f) (by omega) (fun k' c' hk' ih' v y hv by' ly j1 j2 j3 => ?_) _ u (iI_cg (by omega)) bu lu i1z rfl rfl
        subst hv
        by_cases z' : k' < E - f
        · have ih' := ih' z'
          obtain ⟨n, n1, n2, n3⟩ := j1 _ pk7
          obtain ⟨s0, hs0⟩ : ∃ s0 : Nat, s0 = f + k' := ⟨_, rfl⟩
          have s48 : s0 < 48 := by omega
          rw [show (f : Int) + (k' : Int) = (s0 : Int) by omega]
          simp (maxSteps := 3000000) (implicitDefEqProofs := false) (disch := omega) only [jl_e, jn_e, bd_e, gd_t, iI_add, iI_sub, iI_mul, iI_neg, if_true, if_false, not_true_eq_false, not_false_eq_true, Int.reduceEq, Nat.add_zero, Int.toNat_natCast, iI_cl, iI_lt, iI_eq, gd_in, bI_eq0, bI_eq1, bI_isB, isB_0, isB_1, il_0, il_1, il_2, il_3, il_4, il_5, il_6, il_7, il_8, il_9, il_10, il_12, il_16, il_18, il_24, il_27, il_30, il_31, il_32, il_40, il_47, il_48, il_49, il_55, il_56, il_57, il_59, il_63, il_64, il_96, il_97, il_98, il_99, il_101, il_103, il_104, il_105, il_108, il_109, il_110, il_111, il_112, il_114, il_115, il_116, il_117, il_119, il_122, il_127, il_128, il_200, il_225, il_255, il_256, il_999, il_1575, il_9999, il_65536, il_252645135, il_858993459, il_1431655765, by'.2.1.1 _ pk, n1, lL_bit (show s0 < 64 by omega), lL_and, lL_or]
          rw [if_neg (by omega)]
          have f' : FrX [] [134] y (lS y 134 (l.getD k 0) (lN (n ||| (bm (wd_b a (l.getD k 0)) 48 &&& 2 ^ s0)))) := (FrX.refl _ _ y).lS (by decide) _ _
          refine ih' _ _ (iI_cg (by omega)) (by'.fr f' (by decide)) (fun i h1 h2 => (f'.ag (by decide) _).trans (ly i h1 h2)) (fun p hp => ?_) ((f'.2 135 (by decide)).1.trans j2) ((f'.2 136 (by decide)).1.trans j3)
          by_cases ep : p = l.getD k 0
          · subst ep
            refine ⟨_, lG_lS_s .., Nat.or_lt_two_pow (n := 48) n2 (Nat.lt_of_le_of_lt Nat.and_le_left (bm_48 _)), fun s => ?_⟩
            have W : ro_w (al_r a) (l.getD k 0) s = wd_b a (l.getD k 0) s := rfl
            rw [Nat.testBit_or, Nat.testBit_and, Nat.testBit_two_pow, bm_tb, Bool.or_eq_true, n3 s, Bool.and_eq_true, Bool.and_eq_true, decide_eq_true_iff, decide_eq_true_iff, W]
            constructor
            · rintro ((x | x | ⟨x1, x2, x3, x4⟩) | ⟨⟨x1, x2⟩, x3⟩)
              · exact Or.inl x
              · exact Or.inr (Or.inl x)
              · exact Or.inr (Or.inr ⟨x1, x2, by omega, x4⟩)
              · exact Or.inr (Or.inr ⟨rfl, by omega, by omega, x2⟩)
            · rintro (x | x | ⟨x1, x2, x3, x4⟩)
              · exact Or.inl (Or.inl x)
              · exact Or.inl (Or.inr (Or.inl x))
              · by_cases es : s = s0
                · exact Or.inr ⟨⟨by omega, x4⟩, es.symm⟩
                · exact Or.inl (Or.inr (Or.inr ⟨x1, x2, by omega, x4⟩))
          · obtain ⟨n', m1, m2, m3⟩ := j1 p hp
            refine ⟨n', (lG_lS_j ep ..).trans m1, m2, fun s => ?_⟩
            rw [m3 s]
            constructor
            · rintro (x | x | x)
              · exact Or.inl x
              · exact Or.inr (Or.inl x)
              · exact absurd x.1 ep
            · rintro (x | x | x)
              · exact Or.inl x
              · exact Or.inr (Or.inl x)
              · exact absurd x.1 ep
        · simp (maxSteps := 3000000) (implicitDefEqProofs := false) (disch := omega) only [jl_e, jn_e, bd_e, gd_t, iI_add, iI_sub, iI_mul, iI_neg, if_true, if_false, not_true_eq_false, not_false_eq_true, Int.reduceEq, Nat.add_zero, Int.toNat_natCast, iI_cl, iI_lt, iI_eq, gd_in, bI_eq0, bI_eq1, bI_isB, isB_0, isB_1, il_0, il_1, il_2, il_3, il_4, il_5, il_6, il_7, il_8, il_9, il_10, il_12, il_16, il_18, il_24, il_27, il_30, il_31, il_32, il_40, il_47, il_48, il_49, il_55, il_56, il_57, il_59, il_63, il_64, il_96, il_97, il_98, il_99, il_101, il_103, il_104, il_105, il_108, il_109, il_110, il_111, il_112, il_114, il_115, il_116, il_117, il_119, il_122, il_127, il_128, il_200, il_225, il_255, il_256, il_999, il_1575, il_9999, il_65536, il_252645135, il_858993459, il_1431655765, by'.2.2.2.2, sG_aS]
          rw [if_pos (by omega)]
          have o1 : aG y 135 (l.getD k 0) = aG h 135 (l.getD k 0) := (congrFun j2 _).trans (i3 k (by omega) z).1
          have o2 : aG y 136 (l.getD k 0) = aG h 136 (l.getD k 0) := (congrFun j3 _).trans (i3 k (by omega) z).2
          have fin : ∀ x1 x2, x1 = (if F = 0 ∨ iI (k : Int) < aG h 135 (l.getD k 0) then iI (k : Int) else aG h 135 (l.getD k 0)) → x2 = (if F = 0 ∨ aG h 136 (l.getD k 0) < iI (k : Int) then iI (k : Int) else aG h 136 (l.getD k 0)) → Wp (c (iI ((k : Int) + 1)) (aS (aS y 135 (l.getD k 0) x1) 136 (l.getD k 0) x2)) (fun _ h' => NtC h h' (al_r a) l lf F) := fun x1 x2 v1 v2 => by
            have f' : FrX [] [135, 136] y (aS (aS y 135 (l.getD k 0) x1) 136 (l.getD k 0) x2) := ((FrX.refl _ _ y).aS (by decide) _ _).aS (by decide) _ _
            refine ih _ (by'.fr f' (by decide)) (fun i h1 h2 => (f'.ag (by decide) _).trans (ly i h1 h2)) (fun p hp => ?_) (fun i hi => ?_) (fun i h1 h2 => ?_)
            · obtain ⟨n, n1, n2, n3⟩ := j1 p hp
              refine ⟨n, (f'.lg (by decide) _).trans n1, n2, fun s => ?_⟩
              rw [n3 s]
              constructor
              · rintro (x | ⟨i, x1, x2, x3⟩ | ⟨x1, x2, x3, x4⟩)
                · exact Or.inl x
                · exact Or.inr ⟨i, by omega, x2, x3⟩
                · exact Or.inr ⟨k, by omega, x1.symm, (KK s).2 ⟨x4, x2, by omega⟩⟩
              · rintro (x | ⟨i, x1, x2, x3⟩)
                · exact Or.inl x
                · by_cases ei : i = k
                  · subst ei
                    have := (KK s).1 x3
                    exact Or.inr (Or.inr ⟨x2.symm, this.2.1, by omega, this.1⟩)
                  · exact Or.inr (Or.inl ⟨i, by omega, x2, x3⟩)
            · by_cases ei : i = k
              · subst ei
                rw [aG_aS_k (by decide), aG_aS_s, aG_aS_s]
                exact ⟨v1, v2⟩
              · have ne := low i ei (by omega)
                rw [aG_aS_k (by decide), aG_aS_j ne, aG_aS_j ne, aG_aS_k (by decide), aG_F y, aG_F y, j2, j3]
                exact i2 i (by omega)
            · have ne := low i (by omega) h2
              rw [aG_aS_k (by decide), aG_aS_j ne, aG_aS_j ne, aG_aS_k (by decide), aG_F y, aG_F y, j2, j3]
              exact i3 i (by omega) h2
          have q2 : ∀ x1, aG (aS y 135 (l.getD k 0) x1) 136 (l.getD k 0) = aG h 136 (l.getD k 0) := fun x1 => (aG_aS_k (by decide) ..).trans o2
          by_cases F0 : F = 0
          · rw [if_pos (by omega), if_pos (by omega)]
            exact fin _ _ (by rw [if_pos (Or.inl F0)]) (by rw [if_pos (Or.inl F0)])
          · rw [if_neg (by omega), o1]
            by_cases w1 : iI (k : Int) < aG h 135 (l.getD k 0)
            · rw [if_pos w1, if_neg (by omega), q2]
              by_cases w2 : aG h 136 (l.getD k 0) < iI (k : Int)
              · rw [if_pos w2]
                exact fin _ _ (by rw [if_pos (Or.inr w1)]) (by rw [if_pos (Or.inr w2)])
              · rw [if_neg w2]
                exact fin _ _ (by rw [if_pos (Or.inr w1)]) (by rw [if_neg (fun z => z.elim F0 w2)])
            · rw [if_neg w1, if_neg (by omega), q2]
              by_cases w2 : aG h 136 (l.getD k 0) < iI (k : Int)
              · rw [if_pos w2]
                exact fin _ _ (by rw [if_neg (fun z => z.elim F0 w1)]) (by rw [if_pos (Or.inr w2)])
              · rw [if_neg w2]
                exact fin _ _ (by rw [if_neg (fun z => z.elim F0 w1)]) (by rw [if_neg (fun z => z.elim F0 w2)])
      · rw [if_neg (by omega)]
        (try simp (maxSteps := 3000000) (implicitDefEqProofs := false) (disch := omega) only [jl_e, jn_e, bd_e, gd_t, iI_add, iI_sub, iI_mul, iI_neg, if_true, if_false, not_true_eq_false, not_false_eq_true, Int.reduceEq, Nat.add_zero, Int.toNat_natCast, iI_cl, iI_lt, iI_eq, gd_in, bI_eq0, bI_eq1, bI_isB, isB_0, isB_1, il_0, il_1, il_2, il_3, il_4, il_5, il_6, il_7, il_8, il_9, il_10, il_12, il_16, il_18, il_24, il_27, il_30, il_31, il_32, il_40, il_47, il_48, il_49, il_55, il_56, il_57, il_59, il_63, il_64, il_96, il_97, il_98, il_99, il_101, il_103, il_104, il_105, il_108, il_109, il_110, il_111, il_112, il_114, il_115, il_116, il_117, il_119, il_122, il_127, il_128, il_200, il_225, il_255, il_256, il_999, il_1575, il_9999, il_65536, il_252645135, il_858993459, il_1431655765, tnm1, e132 r1])
        rw [if_neg (by omega)]
        (try simp (maxSteps := 3000000) (implicitDefEqProofs := false) (disch := omega) only [jl_e, jn_e, bd_e, gd_t, iI_add, iI_sub, iI_mul, iI_neg, if_true, if_false, not_true_eq_false, not_false_eq_true, Int.reduceEq, Nat.add_zero, Int.toNat_natCast, iI_cl, iI_lt, iI_eq, gd_in, bI_eq0, bI_eq1, bI_isB, isB_0, isB_1, il_0, il_1, il_2, il_3, il_4, il_5, il_6, il_7, il_8, il_9, il_10, il_12, il_16, il_18, il_24, il_27, il_30, il_31, il_32, il_40, il_47, il_48, il_49, il_55, il_56, il_57, il_59, il_63, il_64, il_96, il_97, il_98, il_99, il_101, il_103, il_104, il_105, il_108, il_109, il_110, il_111, il_112, il_114, il_115, il_116, il_117, il_119, il_122, il_127, il_128, il_200, il_225, il_255, il_256, il_999, il_1575, il_9999, il_65536, il_252645135, il_858993459, il_1431655765, tnp1, e133 r2])
        rw [show (f : Int) - 1 + 1 = (f : Int) by omega]
        refine lp_up (α := Int32 → Hp → Option (Unit × Hp)) (P := fun k' c => ∀ v y, v = iI ((f : Int) + k') → NtB y a l F → LtC y (al_r a) l 0 → (∀ p, p < 7 → ∃ n, lG y 134 p = lN n ∧ n < 281474976710656 ∧ ∀ s, (n.testBit s = true ↔ (lf p).testBit s = true ∨ (∃ i, i < k ∧ l.getD i 0 = p ∧ nt_K (al_r a) l i s) ∨ (p = l.getD k 0 ∧ f ≤ s ∧ s < f + k' ∧ ro_w (al_r a) (l.getD k 0) s = true))) → aF y 135 = aF u 135 → aF y 136 = aF u 136 → Wp (c v y) (fun _ h' => NtC h h' (al_r a) l lf F)) (E - f) (by omega) (fun k' c' hk' ih' v y hv by' ly j1 j2 j3 => ?_) _ u (iI_cg (by omega)) bu lu i1z rfl rfl
        subst hv
        by_cases z' : k' < E - f
        · have ih' := ih' z'
          obtain ⟨n, n1, n2, n3⟩ := j1 _ pk7
          obtain ⟨s0, hs0⟩ : ∃ s0 : Nat, s0 = f + k' := ⟨_, rfl⟩
          have s48 : s0 < 48 := by omega
          rw [show (f : Int) + (k' : Int) = (s0 : Int) by omega]
          simp (maxSteps := 3000000) (implicitDefEqProofs := false) (disch := omega) only [jl_e, jn_e, bd_e, gd_t, iI_add, iI_sub, iI_mul, iI_neg, if_true, if_false, not_true_eq_false, not_false_eq_true, Int.reduceEq, Nat.add_zero, Int.toNat_natCast, iI_cl, iI_lt, iI_eq, gd_in, bI_eq0, bI_eq1, bI_isB, isB_0, isB_1, il_0, il_1, il_2, il_3, il_4, il_5, il_6, il_7, il_8, il_9, il_10, il_12, il_16, il_18, il_24, il_27, il_30, il_31, il_32, il_40, il_47, il_48, il_49, il_55, il_56, il_57, il_59, il_63, il_64, il_96, il_97, il_98, il_99, il_101, il_103, il_104, il_105, il_108, il_109, il_110, il_111, il_112, il_114, il_115, il_116, il_117, il_119, il_122, il_127, il_128, il_200, il_225, il_255, il_256, il_999, il_1575, il_9999, il_65536, il_252645135, il_858993459, il_1431655765, by'.2.1.1 _ pk, n1, lL_bit (show s0 < 64 by omega), lL_and, lL_or]
          rw [if_neg (by omega)]
          have f' : FrX [] [134] y (lS y 134 (l.getD k 0) (lN (n ||| (bm (wd_b a (l.getD k 0)) 48 &&& 2 ^ s0)))) := (FrX.refl _ _ y).lS (by decide) _ _
          refine ih' _ _ (iI_cg (by omega)) (by'.fr f' (by decide)) (fun i h1 h2 => (f'.ag (by decide) _).trans (ly i h1 h2)) (fun p hp => ?_) ((f'.2 135 (by decide)).1.trans j2) ((f'.2 136 (by decide)).1.trans j3)
          by_cases ep : p = l.getD k 0
          · subst ep
            refine ⟨_, lG_lS_s .., Nat.or_lt_two_pow (n := 48) n2 (Nat.lt_of_le_of_lt Nat.and_le_left (bm_48 _)), fun s => ?_⟩
            have W : ro_w (al_r a) (l.getD k 0) s = wd_b a (l.getD k 0) s := rfl
            rw [Nat.testBit_or, Nat.testBit_and, Nat.testBit_two_pow, bm_tb, Bool.or_eq_true, n3 s, Bool.and_eq_true, Bool.and_eq_true, decide_eq_true_iff, decide_eq_true_iff, W]
            constructor
            · rintro ((x | x | ⟨x1, x2, x3, x4⟩) | ⟨⟨x1, x2⟩, x3⟩)
              · exact Or.inl x
              · exact Or.inr (Or.inl x)
              · exact Or.inr (Or.inr ⟨x1, x2, by omega, x4⟩)
              · exact Or.inr (Or.inr ⟨rfl, by omega, by omega, x2⟩)
            · rintro (x | x | ⟨x1, x2, x3, x4⟩)
              · exact Or.inl (Or.inl x)
              · exact Or.inl (Or.inr (Or.inl x))
              · by_cases es : s = s0
                · exact Or.inr ⟨⟨by omega, x4⟩, es.symm⟩
                · exact Or.inl (Or.inr (Or.inr ⟨x1, x2, by omega, x4⟩))
          · obtain ⟨n', m1, m2, m3⟩ := j1 p hp
            refine ⟨n', (lG_lS_j ep ..).trans m1, m2, fun s => ?_⟩
            rw [m3 s]
            constructor
            · rintro (x | x | x)
              · exact Or.inl x
              · exact Or.inr (Or.inl x)
              · exact absurd x.1 ep
            · rintro (x | x | x)
              · exact Or.inl x
              · exact Or.inr (Or.inl x)
              · exact absurd x.1 ep
        · simp (maxSteps := 3000000) (implicitDefEqProofs := false) (disch := omega) only [jl_e, jn_e, bd_e, gd_t, iI_add, iI_sub, iI_mul, iI_neg, if_true, if_false, not_true_eq_false, not_false_eq_true, Int.reduceEq, Nat.add_zero, Int.toNat_natCast, iI_cl, iI_lt, iI_eq, gd_in, bI_eq0, bI_eq1, bI_isB, isB_0, isB_1, il_0, il_1, il_2, il_3, il_4, il_5, il_6, il_7, il_8, il_9, il_10, il_12, il_16, il_18, il_24, il_27, il_30, il_31, il_32, il_40, il_47, il_48, il_49, il_55, il_56, il_57, il_59, il_63, il_64, il_96, il_97, il_98, il_99, il_101, il_103, il_104, il_105, il_108, il_109, il_110, il_111, il_112, il_114, il_115, il_116, il_117, il_119, il_122, il_127, il_128, il_200, il_225, il_255, il_256, il_999, il_1575, il_9999, il_65536, il_252645135, il_858993459, il_1431655765, by'.2.2.2.2, sG_aS]
          rw [if_pos (by omega)]
          have o1 : aG y 135 (l.getD k 0) = aG h 135 (l.getD k 0) := (congrFun j2 _).trans (i3 k (by omega) z).1
          have o2 : aG y 136 (l.getD k 0) = aG h 136 (l.getD k 0) := (congrFun j3 _).trans (i3 k (by omega) z).2
          have fin : ∀ x1 x2, x1 = (if F = 0 ∨ iI (k : Int) < aG h 135 (l.getD k 0) then iI (k : Int) else aG h 135 (l.getD k 0)) → x2 = (if F = 0 ∨ aG h 136 (l.getD k 0) < iI (k : Int) then iI (k : Int) else aG h 136 (l.getD k 0)) → Wp (c (iI ((k : Int) + 1)) (aS (aS y 135 (l.getD k 0) x1) 136 (l.getD k 0) x2)) (fun _ h' => NtC h h' (al_r a) l lf F) := fun x1 x2 v1 v2 => by
            have f' : FrX [] [135, 136] y (aS (aS y 135 (l.getD k 0) x1) 136 (l.getD k 0) x2) := ((FrX.refl _ _ y).aS (by decide) _ _).aS (by decide) _ _
            refine ih _ (by'.fr f' (by decide)) (fun i h1 h2 => (f'.ag (by decide) _).trans (ly i h1 h2)) (fun p hp => ?_) (fun i hi => ?_) (fun i h1 h2 => ?_)
            · obtain ⟨n, n1, n2, n3⟩ := j1 p hp
              refine ⟨n, (f'.lg (by decide) _).trans n1, n2, fun s => ?_⟩
              rw [n3 s]
              constructor
              · rintro (x | ⟨i, x1, x2, x3⟩ | ⟨x1, x2, x3, x4⟩)
                · exact Or.inl x
                · exact Or.inr ⟨i, by omega, x2, x3⟩
                · exact Or.inr ⟨k, by omega, x1.symm, (KK s).2 ⟨x4, x2, by omega⟩⟩
              · rintro (x | ⟨i, x1, x2, x3⟩)
                · exact Or.inl x
                · by_cases ei : i = k
                  · subst ei
                    have := (KK s).1 x3
                    exact Or.inr (Or.inr ⟨x2.symm, this.2.1, by omega, this.1⟩)
                  · exact Or.inr (Or.inl ⟨i, by omega, x2, x3⟩)
            · by_cases ei : i = k
              · subst ei
                rw [aG_aS_k (by decide), aG_aS_s, aG_aS_s]
                exact ⟨v1, v2⟩
              · have ne := low i ei (by omega)
                rw [aG_aS_k (by decide), aG_aS_j ne, aG_aS_j ne, aG_aS_k (by decide), aG_F y, aG_F y, j2, j3]
                exact i2 i (by omega)
            · have ne := low i (by omega) h2
              rw [aG_aS_k (by decide), aG_aS_j ne, aG_aS_j ne, aG_aS_k (by decide), aG_F y, aG_F y, j2, j3]
              exact i3 i (by omega) h2
          have q2 : ∀ x1, aG (aS y 135 (l.getD k 0) x1) 136 (l.getD k 0) = aG h 136 (l.getD k 0) := fun x1 => (aG_aS_k (by decide) ..).trans o2
          by_cases F0 : F = 0
          · rw [if_pos (by omega), if_pos (by omega)]
            exact fin _ _ (by rw [if_pos (Or.inl F0)]) (by rw [if_pos (Or.inl F0)])
          · rw [if_neg (by omega), o1]
            by_cases w1 : iI (k : Int) < aG h 135 (l.getD k 0)
            · rw [if_pos w1, if_neg (by omega), q2]
              by_cases w2 : aG h 136 (l.getD k 0) < iI (k : Int)
              · rw [if_pos w2]
                exact fin _ _ (by rw [if_pos (Or.inr w1)]) (by rw [if_pos (Or.inr w2)])
              · rw [if_neg w2]
                exact fin _ _ (by rw [if_pos (Or.inr w1)]) (by rw [if_neg (fun z => z.elim F0 w2)])
            · rw [if_neg w1, if_neg (by omega), q2]
              by_cases w2 : aG h 136 (l.getD k 0) < iI (k : Int)
              · rw [if_pos w2]
                exact fin _ _ (by rw [if_neg (fun z => z.elim F0 w1)]) (by rw [if_pos (Or.inr w2)])
              · rw [if_neg w2]
                exact fin _ _ (by rw [if_neg (fun z => z.elim F0 w1)]) (by rw [if_neg (fun z => z.elim F0 w2)])
    · have ek : k = l.length := by omega
      subst ek
      simp (maxSteps := 3000000) (implicitDefEqProofs := false) (disch := omega) only [jl_e, jn_e, bd_e, gd_t, iI_add, iI_sub, iI_mul, iI_neg, if_true, if_false, not_true_eq_false, not_false_eq_true, Int.reduceEq, Nat.add_zero, Int.toNat_natCast, iI_cl, iI_lt, iI_eq, gd_in, bI_eq0, bI_eq1, bI_isB, isB_0, isB_1, il_0, il_1, il_2, il_3, il_4, il_5, il_6, il_7, il_8, il_9, il_10, il_12, il_16, il_18, il_24, il_27, il_30, il_31, il_32, il_40, il_47, il_48, il_49, il_55, il_56, il_57, il_59, il_63, il_64, il_96, il_97, il_98, il_99, il_101, il_103, il_104, il_105, il_108, il_109, il_110, il_111, il_112, il_114, il_115, il_116, il_117, il_119, il_122, il_127, il_128, il_200, il_225, il_255, il_256, il_999, il_1575, il_9999, il_65536, il_252645135, il_858993459, il_1431655765]
      rw [if_neg (by omega)]
      exact wp_s ⟨i1, i2⟩
