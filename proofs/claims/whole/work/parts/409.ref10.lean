-- ===== the reference: how many orders, what cannot be, what would be =====
theorem pcn_ct {b : Nat} (hb : b < 128) : pcn 8 b = ro_ct b := by
  unfold pcn ro_ct
  exact sm_zero 57 (fun i h1 _ => if_neg (fun z => by
    have := Nat.ge_two_pow_of_testBit z
    have h2 : 2 ^ 7 ≤ 2 ^ i := Nat.pow_le_pow_right (by decide) h1
    omega))
theorem al_N_lt {h : Hp} {a : Alb} (q : AmC h a) : al_N a < 128 := al_S_lt (a := al_x a) q.1.2.1
theorem al_N_tb (a : Alb) (p : Nat) : (al_N a).testBit p = decide (p < (al_w a).length) := al_S_tb (al_x a) p
theorem m_whole {h : Hp} {a : Alb} (q : AmC h a) : F_X12_whole h = some (iI (al_N a : Int), h) := by
  have h7 := q.1.2.1
  have : 1 ≤ 2 ^ (al_w a).length := Nat.pow_pos (by decide)
  unfold F_X12_whole
  rw [q.np, il_1, il_31, ms_shl _ (by omega), iI_sub]
  exact congrArg (fun z => some (z, h)) (iI_cg (by unfold al_N; omega))
def LoW (h' : Hp) (a : Alb) (w x y : Int) : Prop := AcC h' (al_r a) (al_N a) (al_w a).length w x y (al_or a) ∧ LaC h' a
theorem al_or_5040 {h : Hp} {a : Alb} (q : AmC h a) : (al_or a).length ≤ 5040 := ro_rows_5040 (al_N_lt q)
theorem m_layAllOrders {h : Hp} {a : Alb} (q : AmC h a) {w x y : Int} (hw : -1 ≤ w ∧ w < 2147483648) (hxy : wg_ok (al_N a) x y) : ∃ h', F_X12_layOrders (iI (al_N a : Int)) (iI 9999) (iI w) (iI x) (iI y) h = some (iI (al_or a).length, h') ∧ LoW h' a w x y := by
  obtain ⟨h', e, l1, l2⟩ := m_layOrders q (S := al_N a) (A := 9999) (fun p hp => by rw [al_N_tb, decide_eq_true_iff] at hp; exact hp) (al_N_lt q) (by omega) hw hxy
  have t : (ro_rows (al_r a) (al_N a)).take 9999 = al_or a := List.take_of_length_le (by have := al_or_5040 q; unfold al_or at this; omega)
  rw [t] at e l1
  have ct : ro_ct (al_N a) = (al_w a).length := ct_all _ q.1.2.1
  rw [ct] at l1
  exact ⟨h', e, l1, l2⟩
theorem wg_no (S : Nat) : wg_ok S (-1) (-1) := Or.inl ⟨rfl, rfl⟩
theorem m_many {h : Hp} {a : Alb} (q : AmC h a) : ∃ h', F_X12_many h = some (iI (al_or a).length, h') ∧ LoW h' a (-1) (-1) (-1) := by
  obtain ⟨h', e, l⟩ := m_layAllOrders q (w := -1) (by omega) (wg_no _)
  unfold F_X12_many
  rw [m_whole q, bd_e, il_9999, show (-1 : Int32) = iI (-1) from rfl, e, bd_e]
  exact ⟨h', rfl, l⟩
theorem AmC.lay {h h' : Hp} {a : Alb} (q : AmC h a) {S A : List Nat} (f : FrX S A h h') (n0 : ∀ v, v ∈ S → v = 7522 ∨ v = 7527) (n1 : ∀ k, k ∈ A → 129 ≤ k) : AmC h' a := q.fr f (fun v z => by have := n0 v z; omega) (fun k z => by have := n1 k z; omega)
theorem m_isAny {h : Hp} {a : Alb} (q : AmC h a) {S : Nat} (hS : S ≤ al_N a) : ∃ h', F_X12_isAny (iI (S : Int)) h = some (bI (ro_rows (al_r a) S ≠ []), h') ∧ AmC h' a := by
  have hN := al_N_lt q
  have sub : S &&& al_N a = S := al_S_sub (a := al_x a) hS
  obtain ⟨h', e, -⟩ := m_layOrders q (S := S) (A := 1) (fun p hp => by
    have := ro_sub_iff.1 sub p hp
    rw [al_N_tb, decide_eq_true_iff] at this
    exact this) (by omega) (by omega) (w := -1) (x := -1) (y := -1) (by omega) (wg_no _)
  have f := fr_X12_layOrders _ _ _ _ _ _ _ _ e
  have q' : AmC h' a := q.lay f (by decide) (by decide)
  unfold F_X12_isAny
  rw [show (-1 : Int32) = iI (-1) from rfl, il_1]
  have e' : F_X12_layOrders (iI (S : Int)) (iI 1) (iI (-1)) (iI (-1)) (iI (-1)) h = some (iI ((ro_rows (al_r a) S).take 1).length, h') := e
  rw [e', bd_e]
  refine ⟨h', ?_, q'⟩
  have l1 : ((ro_rows (al_r a) S).take 1).length ≤ 1 := by rw [List.length_take]; omega
  have l2 : 0 < ((ro_rows (al_r a) S).take 1).length ↔ ro_rows (al_r a) S ≠ [] := by
    cases ro_rows (al_r a) S with
    | nil => simp
    | cons x l => simp
  simp (maxSteps := 3000000) (implicitDefEqProofs := false) (disch := omega) only [jl_e, jn_e, bd_e, gd_t, iI_add, iI_sub, iI_mul, iI_neg, if_true, if_false, not_true_eq_false, not_false_eq_true, Int.reduceEq, Nat.add_zero, Int.toNat_natCast, iI_cl, iI_lt, iI_eq, gd_in, bI_eq0, bI_eq1, bI_isB, isB_0, isB_1, il_0, il_1, il_2, il_3, il_4, il_5, il_6, il_7, il_8, il_9, il_10, il_12, il_16, il_18, il_24, il_27, il_30, il_31, il_32, il_40, il_47, il_48, il_49, il_55, il_56, il_57, il_59, il_63, il_64, il_96, il_97, il_98, il_99, il_101, il_103, il_104, il_105, il_108, il_109, il_110, il_111, il_112, il_114, il_115, il_116, il_117, il_119, il_122, il_127, il_128, il_200, il_225, il_255, il_256, il_999, il_1575, il_9999, il_65536, il_252645135, il_858993459, il_1431655765]
  by_cases c : ro_rows (al_r a) S ≠ []
  · rw [if_pos (by have := l2.2 c; omega), bI_t c]
  · have n0 : ¬ 0 < ((ro_rows (al_r a) S).take 1).length := fun z => c (l2.1 z)
    rw [if_neg (by omega), bI_f c]
theorem m_knotOf {h : Hp} {a : Alb} (q : AmC h a) : ∃ h' z, F_X12_knotOf h = some (iI z, h') ∧ kn_is a z := by
  have hN := al_N_lt q
  obtain ⟨h1, e1, q1⟩ := m_isAny q (Nat.le_refl (al_N a))
  unfold F_X12_knotOf
  rw [m_whole q, bd_e, e1, bd_e]
  by_cases c : ro_rows (al_r a) (al_N a) = []
  · have c' : al_or a = [] := c
    rw [bI_f (fun z => z c), if_pos (show iI 0 = 0 from rfl), m_whole q1, bd_e]
    have Np : 0 < al_N a := by
      rcases Nat.eq_zero_or_pos (al_N a) with z | z
      · rw [z] at c
        exact absurd c (ro_rows_0 _)
      · exact z
    suffices w : Wp (F_X12_knotOf h) (fun v _ => ∃ z, v = iI z ∧ kn_is a z) by
      obtain ⟨v, h', e, z, ez, kz⟩ := w
      unfold F_X12_knotOf at e
      rw [m_whole q, bd_e, e1, bd_e, bI_f (fun z => z c), if_pos (show iI 0 = 0 from rfl), m_whole q1, bd_e] at e
      rw [ez] at e
      exact ⟨h', z, e, kz⟩
    unfold F_X12_knotOf
    rw [m_whole q, bd_e, e1, bd_e, bI_f (fun z => z c), if_pos (show iI 0 = 0 from rfl), m_whole q1, bd_e]
    refine lp_up (α := Int32 → Int32 → Hp → Option (Int32 × Hp)) (P := fun k t => ∀ (b : Nat) (v : Int32) (g : Hp), v = iI ((k : Int) + 1) → AmC g a → 1 ≤ b → b ≤ al_N a → ro_rows (al_r a) b = [] → (b = al_N a ∨ b < k + 1) → (∀ s', (1 ≤ s' ∧ s' < k + 1) ∨ s' = al_N a → ro_rows (al_r a) s' = [] → ro_ct b < ro_ct s' ∨ (ro_ct b = ro_ct s' ∧ b ≤ s')) → Wp (t (iI (b : Int)) v g) (fun v _ => ∃ z, v = iI z ∧ kn_is a z)) (al_N a - 1) (by omega) (fun k t hk ih b v g hv qg b1 b2 b3 b4 b5 => ?_) (al_N a) _ h1 rfl q1 Np (Nat.le_refl _) c (Or.inl rfl) (fun s' hs _ => ?_)
    · subst hv
      by_cases z : k < al_N a - 1
      · have ih := ih z
        obtain ⟨j, hj⟩ : ∃ j, j = k + 1 := ⟨_, rfl⟩
        have ej : (k : Int) + 1 = (j : Int) := by omega
        have ct1 : F_X12_ones (lN j) g = some (iI (ro_ct j), g) := by rw [m_ones (by omega), pcn_ct (by omega)]
        have ct2 : F_X12_ones (lN b) g = some (iI (ro_ct b), g) := by rw [m_ones (by omega), pcn_ct (by omega)]
        have cj := ro_ct_le j (by omega)
        have cb := ro_ct_le b (by omega)
        obtain ⟨g2, e2, q2⟩ := m_isAny qg (S := j) (by omega)
        have sub : j &&& al_N a = j := al_S_sub (a := al_x a) (show j ≤ al_N a by omega)
        have cjN := ro_ct_sub j (by omega) (al_N a) hN sub
        have cjN2 : ro_ct j < ro_ct (al_N a) := by
          rcases Nat.lt_or_ge (ro_ct j) (ro_ct (al_N a)) with w | w
          · exact w
          · have := ro_ct_eq j (by omega) (al_N a) hN sub w
            omega
        have keep : ∀ g', AmC g' a → ¬ (ro_ct j < ro_ct b ∧ ro_rows (al_r a) j = []) → Wp (t (iI (b : Int)) (iI ((j : Int) + 1)) g') (fun v _ => ∃ z, v = iI z ∧ kn_is a z) := fun g' q' nl => by
          refine ih b _ g' (iI_cg (by omega)) q' b1 b2 b3 (by omega) (fun s' hs r' => ?_)
          by_cases es : s' = j
          · subst es
            have this : ¬ ro_ct s' < ro_ct b := fun w => nl ⟨w, r'⟩
            rcases b4 with b4 | b4
            · rw [b4] at this ⊢
              omega
            · omega
          · exact b5 s' (by omega) r'
        rw [ej]
        simp (maxSteps := 3000000) (implicitDefEqProofs := false) (disch := omega) only [jl_e, jn_e, bd_e, gd_t, iI_add, iI_sub, iI_mul, iI_neg, if_true, if_false, not_true_eq_false, not_false_eq_true, Int.reduceEq, Nat.add_zero, Int.toNat_natCast, iI_cl, iI_lt, iI_eq, gd_in, bI_eq0, bI_eq1, bI_isB, isB_0, isB_1, il_0, il_1, il_2, il_3, il_4, il_5, il_6, il_7, il_8, il_9, il_10, il_12, il_16, il_18, il_24, il_27, il_30, il_31, il_32, il_40, il_47, il_48, il_49, il_55, il_56, il_57, il_59, il_63, il_64, il_96, il_97, il_98, il_99, il_101, il_103, il_104, il_105, il_108, il_109, il_110, il_111, il_112, il_114, il_115, il_116, il_117, il_119, il_122, il_127, il_128, il_200, il_225, il_255, il_256, il_999, il_1575, il_9999, il_65536, il_252645135, il_858993459, il_1431655765, m_whole qg, i_L (show j < 2147483648 by omega), i_L (show b < 2147483648 by omega), ct1, ct2]
        rw [if_pos (by omega)]
        by_cases le : ro_ct j < ro_ct b
        · rw [if_pos (by omega)]
          (try simp (maxSteps := 3000000) (implicitDefEqProofs := false) (disch := omega) only [jl_e, jn_e, bd_e, gd_t, iI_add, iI_sub, iI_mul, iI_neg, if_true, if_false, not_true_eq_false, not_false_eq_true, Int.reduceEq, Nat.add_zero, Int.toNat_natCast, iI_cl, iI_lt, iI_eq, gd_in, bI_eq0, bI_eq1, bI_isB, isB_0, isB_1, il_0, il_1, il_2, il_3, il_4, il_5, il_6, il_7, il_8, il_9, il_10, il_12, il_16, il_18, il_24, il_27, il_30, il_31, il_32, il_40, il_47, il_48, il_49, il_55, il_56, il_57, il_59, il_63, il_64, il_96, il_97, il_98, il_99, il_101, il_103, il_104, il_105, il_108, il_109, il_110, il_111, il_112, il_114, il_115, il_116, il_117, il_119, il_122, il_127, il_128, il_200, il_225, il_255, il_256, il_999, il_1575, il_9999, il_65536, il_252645135, il_858993459, il_1431655765, e2])
          by_cases r0 : ro_rows (al_r a) j = []
          · rw [if_pos (fun w => w r0)]
            refine ih j _ g2 (iI_cg (by omega)) q2 (by omega) (by omega) r0 (Or.inr (by omega)) (fun s' hs r' => ?_)
            by_cases es : s' = j
            · subst es
              omega
            · have := b5 s' (by omega) r'
              omega
          · rw [if_neg (fun w => w r0)]
            exact keep g2 q2 (fun w => r0 w.2)
        · rw [if_neg (by omega)]
          (try simp (maxSteps := 3000000) (implicitDefEqProofs := false) (disch := omega) only [jl_e, jn_e, bd_e, gd_t, iI_add, iI_sub, iI_mul, iI_neg, if_true, if_false, not_true_eq_false, not_false_eq_true, Int.reduceEq, Nat.add_zero, Int.toNat_natCast, iI_cl, iI_lt, iI_eq, gd_in, bI_eq0, bI_eq1, bI_isB, isB_0, isB_1, il_0, il_1, il_2, il_3, il_4, il_5, il_6, il_7, il_8, il_9, il_10, il_12, il_16, il_18, il_24, il_27, il_30, il_31, il_32, il_40, il_47, il_48, il_49, il_55, il_56, il_57, il_59, il_63, il_64, il_96, il_97, il_98, il_99, il_101, il_103, il_104, il_105, il_108, il_109, il_110, il_111, il_112, il_114, il_115, il_116, il_117, il_119, il_122, il_127, il_128, il_200, il_225, il_255, il_256, il_999, il_1575, il_9999, il_65536, il_252645135, il_858993459, il_1431655765])
          exact keep g qg (fun w => le w.1)
      · simp (maxSteps := 3000000) (implicitDefEqProofs := false) (disch := omega) only [jl_e, jn_e, bd_e, gd_t, iI_add, iI_sub, iI_mul, iI_neg, if_true, if_false, not_true_eq_false, not_false_eq_true, Int.reduceEq, Nat.add_zero, Int.toNat_natCast, iI_cl, iI_lt, iI_eq, gd_in, bI_eq0, bI_eq1, bI_isB, isB_0, isB_1, il_0, il_1, il_2, il_3, il_4, il_5, il_6, il_7, il_8, il_9, il_10, il_12, il_16, il_18, il_24, il_27, il_30, il_31, il_32, il_40, il_47, il_48, il_49, il_55, il_56, il_57, il_59, il_63, il_64, il_96, il_97, il_98, il_99, il_101, il_103, il_104, il_105, il_108, il_109, il_110, il_111, il_112, il_114, il_115, il_116, il_117, il_119, il_122, il_127, il_128, il_200, il_225, il_255, il_256, il_999, il_1575, il_9999, il_65536, il_252645135, il_858993459, il_1431655765, m_whole qg]
        rw [if_neg (by omega)]
        refine wp_s ⟨(b : Int), rfl, fun w => absurd c' w, fun _ => ⟨b, rfl, b1, b2, b3, fun s' h1 h2 r' => b5 s' (by omega) r'⟩⟩
    · rcases hs with hs | hs
      · omega
      · subst hs
        omega
  · rw [bI_t c, if_neg (by decide)]
    exact ⟨h1, -1, rfl, fun _ => rfl, fun w => absurd w c⟩
theorem NwC.was {h h' : Hp} {L : List Pc} (q : NwC h L) (e : ∀ i, aG h' 125 i = if 0 ≤ i ∧ i < 0 + 225 then aG h 124 (0 + (i - 0)) else aG h 125 i) : PmC 125 0 h' L := PmC.bring (o := 0) q e
theorem NwC.back {h h' : Hp} {L : List Pc} (q : PmC 125 0 h L) (e : ∀ i, aG h' 124 i = if 0 ≤ i ∧ i < 0 + 225 then aG h 125 (0 + (i - 0)) else aG h 124 i) : NwC h' L := PmC.bring (o := 0) q e
theorem AmC.same {h h' : Hp} {a : Alb} (q : AmC h (al_set a (al_p a))) : AmC h a := q
/-- put aside, put back -/
theorem m_aside {h : Hp} {a : Alb} (q : AmC h a) : ∃ h', F_X12_bring 124 225 (0 : Int32) 125 225 (0 : Int32) (225 : Int32) h = some ((), h') ∧ AmC h' a ∧ PmC 125 0 h' (al_p a) := by
  obtain ⟨h1, e1, b1⟩ := m_bring (c := 124) (d := 125) (n1 := 225) (n2 := 225) (x := 0) (y := 0) (n := 225) h (by omega) (by omega) (by omega) (by omega) (Or.inl (by decide))
  have f := fr_X12_bring _ _ _ _ _ _ _ _ _ _ e1
  exact ⟨h1, e1, q.fr f (by decide) (by decide), q.nw.was b1⟩
theorem m_again {h : Hp} {a : Alb} {L : List Pc} (q : AmC h (al_set a L)) (ok : al_ok a) (w : PmC 125 0 h (al_p a)) : ∃ h', F_X12_bring 125 225 (0 : Int32) 124 225 (0 : Int32) (225 : Int32) h = some ((), h') ∧ AmC h' a ∧ PmC 125 0 h' (al_p a) := by
  obtain ⟨h1, e1, b1⟩ := m_bring (c := 125) (d := 124) (n1 := 225) (n2 := 225) (x := 0) (y := 0) (n := 225) h (by omega) (by omega) (by omega) (by omega) (Or.inl (by decide))
  have f := fr_X12_bring _ _ _ _ _ _ _ _ _ _ e1
  have := q.set (L := al_p a) f (by decide) (by decide) ok.2.2.2.2.2 (NwC.back w b1)
  exact ⟨h1, e1, this, w.fr f (by decide)⟩
theorem m_wouldBe {h : Hp} {a : Alb} (q : AmC h a) {p v : Nat} {m : Int} (hp : p < (al_w a).length) (hm : 0 ≤ m ∧ m < 2 + (al_k a).length) (hv : v ≤ al_most a m.toNat) : ∃ h', F_X12_wouldBe (iI p) (iI m) (iI v) h = some (iI (al_or (al_set a (pc_put (al_p a) (8 * p + m.toNat) v 0))).length, h') ∧ AmC h' a := by
  have h7 := q.1.2.1
  have h6 := q.1.2.2.1
  have h999 := al_most_le a m.toNat
  obtain ⟨h1, e1, q1, w1⟩ := m_aside q
  obtain ⟨h2, e2, n2⟩ := m_become q1.nw (p := p) (m := m) (v := v) (s := 0) (by omega) (by omega) (by omega) (by omega)
  have f2 := fr_X12_become _ _ _ _ _ _ _ e2
  have okp : pa_ok a (pc_put (al_p a) (8 * p + m.toNat) v 0) := pa_put q.1.2.2.2.2.2 hp h7 (by omega) h6 hv (Nat.zero_le _)
  have q2 : AmC h2 (al_set a (pc_put (al_p a) (8 * p + m.toNat) v 0)) := q1.set f2 (by decide) (by decide) okp n2
  have w2 : PmC 125 0 h2 (al_p a) := w1.fr f2 (by decide)
  obtain ⟨h3, e3, -⟩ := m_many q2
  have f3 := fr_X12_many _ _ _ e3
  have q3 := q2.lay f3 (by decide) (by decide)
  have w3 : PmC 125 0 h3 (al_p a) := w2.fr f3 (by decide)
  obtain ⟨h4, e4, q4, -⟩ := m_again q3 q.1 w3
  unfold F_X12_wouldBe
  have e2' : F_X12_become (iI p) (iI m) (iI v) (0 : Int32) h1 = some ((), h2) := e2
  rw [e1, bd_e, e2', bd_e, e3, bd_e, e4, bd_e]
  exact ⟨h4, rfl, q4⟩
