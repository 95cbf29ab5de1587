-- ===== the reference: loose, ask =====
def lo_k (a : Alb) (i : Nat) : List Nat := (List.range i).filter (lo_b a)
theorem lo_k_s (a : Alb) (i : Nat) : lo_k a (i + 1) = lo_k a i ++ (if lo_b a i = true then [i] else []) := by
  unfold lo_k
  rw [List.range_succ, List.filter_append]
  congr 1
  by_cases c : lo_b a i = true
  · rw [if_pos c, List.filter_cons_of_pos c]; rfl
  · rw [if_neg c, List.filter_cons_of_neg c]; rfl
theorem lo_k_le (a : Alb) : ∀ i, (lo_k a i).length ≤ i
  | 0 => Nat.le_refl _
  | i + 1 => by
    have := lo_k_le a i
    rw [lo_k_s, List.length_append]
    split
    · rw [List.length_singleton]; omega
    · rw [List.length_nil]; omega
def lo_at (l : List Nat) (k : Int) : Int := if 0 ≤ k ∧ k < l.length then (l.getD k.toNat 0 : Int) else -1
theorem m_loose {h : Hp} {a : Alb} (q : AmC h a) {k : Int} (hk : -2147483648 ≤ k ∧ k < 2147483648) : ∃ h', F_X12_loose (iI k) h = some (iI (if k < -1 then -3 else if k = -1 then ((lo_l a).length : Int) else if k < (lo_l a).length then ((lo_l a).getD k.toNat 0 : Int) else -1), h') ∧ AmC h' a := by
  have hl := pc_len q.1.hp
  have ans : ¬ k < -1 → (if k < -1 then (-3 : Int) else if k = -1 then ((lo_l a).length : Int) else if k < (lo_l a).length then ((lo_l a).getD k.toNat 0 : Int) else -1) = if k = -1 then ((lo_l a).length : Int) else lo_at (lo_l a) k := fun c => by
    rw [if_neg c]
    unfold lo_at
    by_cases d : k = -1
    · rw [if_pos d, if_pos d]
    · rw [if_neg d, if_neg d]
      by_cases e : k < (lo_l a).length
      · rw [if_pos e, if_pos ⟨by omega, e⟩]
      · rw [if_neg e, if_neg (fun z => e z.2)]
  refine wp_v ?_
  unfold F_X12_loose
  by_cases c : k < -1
  · simp (maxSteps := 3000000) (implicitDefEqProofs := false) (disch := omega) only [jl_e, jn_e, bd_e, gd_t, iI_add, iI_sub, iI_mul, iI_neg, if_true, if_false, not_true_eq_false, not_false_eq_true, Int.reduceEq, Nat.add_zero, Int.toNat_natCast, iI_cl, iI_lt, iI_eq, gd_in, bI_eq0, bI_eq1, bI_isB, isB_0, isB_1, il_0, il_1, il_2, il_3, il_4, il_5, il_6, il_7, il_8, il_9, il_10, il_12, il_16, il_18, il_24, il_27, il_30, il_31, il_32, il_40, il_47, il_48, il_49, il_55, il_56, il_57, il_59, il_63, il_64, il_96, il_97, il_98, il_99, il_101, il_103, il_104, il_105, il_108, il_109, il_110, il_111, il_112, il_114, il_115, il_116, il_117, il_119, il_122, il_127, il_128, il_200, il_225, il_255, il_256, il_999, il_1575, il_9999, il_65536, il_252645135, il_858993459, il_1431655765]
    rw [if_pos c, if_pos c]
    exact wp_s ⟨rfl, q⟩
  · rw [ans c]
    obtain ⟨h1, e1, q1⟩ := m_isAny q (Nat.le_refl (al_N a))
    obtain ⟨h2, e2, q2, w2⟩ := m_aside q1
    have c' : ¬ iI k < (-1 : Int32) := by
      rw [show (-1 : Int32) = iI (-1) from rfl, iI_lt (by omega) (by omega) (by omega) (by omega)]
      exact c
    rw [if_neg c', m_whole q, bd_e, e1, bd_e, e2, bd_e]
    have fin : ∀ (n kept : Int) (g : Hp), AmC g a → n = (lo_l a).length → kept = lo_at (lo_l a) k → Wp (if k = -1 then some (iI n, g) else some (iI kept, g)) (fun v h' => v = iI (if k = -1 then ((lo_l a).length : Int) else lo_at (lo_l a) k) ∧ AmC h' a) := fun n kept g qg e1 e2 => by
      subst e1 e2
      by_cases d : k = -1
      · rw [if_pos d, if_pos d]; exact wp_s ⟨rfl, qg⟩
      · rw [if_neg d, if_neg d]; exact wp_s ⟨rfl, qg⟩
    by_cases any : ro_rows (al_r a) (al_N a) ≠ []
    · have l0 : lo_l a = [] := if_pos any
      refine lp_up (α := Int32 → Int32 → Int32 → Hp → Option (Int32 × Hp)) (P := fun i t => t (0 : Int32) (-1 : Int32) (iI i) h2 |> fun o => Wp o (fun v h' => v = iI (if k = -1 then ((lo_l a).length : Int) else lo_at (lo_l a) k) ∧ AmC h' a)) 0 (by omega) (fun i t hi ih => ?_)
      have := fin 0 (-1) h2 q2 (by rw [l0]; rfl) (by rw [l0]; unfold lo_at; rw [if_neg (by rw [List.length_nil]; omega)])
      have i0 : i = 0 := by omega
      subst i0
      simp (maxSteps := 3000000) (implicitDefEqProofs := false) (disch := omega) only [jl_e, jn_e, bd_e, gd_t, iI_add, iI_sub, iI_mul, iI_neg, if_true, if_false, not_true_eq_false, not_false_eq_true, Int.reduceEq, Nat.add_zero, Int.toNat_natCast, iI_cl, iI_lt, iI_eq, gd_in, bI_eq0, bI_eq1, bI_isB, isB_0, isB_1, il_0, il_1, il_2, il_3, il_4, il_5, il_6, il_7, il_8, il_9, il_10, il_12, il_16, il_18, il_24, il_27, il_30, il_31, il_32, il_40, il_47, il_48, il_49, il_55, il_56, il_57, il_59, il_63, il_64, il_96, il_97, il_98, il_99, il_101, il_103, il_104, il_105, il_108, il_109, il_110, il_111, il_112, il_114, il_115, il_116, il_117, il_119, il_122, il_127, il_128, il_200, il_225, il_255, il_256, il_999, il_1575, il_9999, il_65536, il_252645135, il_858993459, il_1431655765, bI_t any, tn0, w2.2.1]
      split
      · exact this
      · exact this
    · have or0 : al_or a = [] := Decidable.of_not_not any
      have l0 : lo_l a = lo_k a (al_p a).length := if_neg (fun z => z or0)
      refine lp_up (α := Int32 → Int32 → Int32 → Hp → Option (Int32 × Hp)) (P := fun i t => ∀ (n kept : Int) (vn vk : Int32) (g : Hp), vn = iI n → vk = iI kept → n = (lo_k a i).length → kept = lo_at (lo_k a i) k → AmC g a → PmC 125 0 g (al_p a) → Wp (t vn vk (iI i) g) (fun v h' => v = iI (if k = -1 then ((lo_l a).length : Int) else lo_at (lo_l a) k) ∧ AmC h' a)) (al_p a).length (by omega) (fun i t hi ih n kept vn vk g hvn hvk hn hkept qg wg => ?_) 0 (-1) _ _ h2 rfl rfl rfl (by unfold lo_at; rw [if_neg (by show ¬ (0 ≤ k ∧ k < ((0 : Nat) : Int)); omega)]) q2 w2
      subst hvn hvk
      have lki := lo_k_le a i
      by_cases z : i < (al_p a).length
      · have ih := ih z
        have ix : pc_ix (al_p a) (pc_at (al_p a) i).1 = i := pc_ix_eq q.1.hp z rfl
        obtain ⟨g1, r1, n1⟩ := m_remove qg.nw z
        have f1 := fr_X12_remove _ _ _ _ r1
        have rm : (al_p a).eraseIdx i = pc_rm (al_p a) (pc_at (al_p a) i).1 := by unfold pc_rm; rw [ix]
        rw [rm] at n1
        have ok1 : pa_ok a (pc_rm (al_p a) (pc_at (al_p a) i).1) := pa_rm q.1.2.2.2.2.2 (by omega)
        have q1' : AmC g1 (al_set a (pc_rm (al_p a) (pc_at (al_p a) i).1)) := qg.set f1 (by decide) (by decide) ok1 n1
        have w1' : PmC 125 0 g1 (al_p a) := wg.fr f1 (by decide)
        obtain ⟨g2, r2, q2'⟩ := m_isAny q1' (Nat.le_refl (al_N (al_set a (pc_rm (al_p a) (pc_at (al_p a) i).1))))
        have f2 := fr_X12_isAny _ _ _ _ r2
        have w2' : PmC 125 0 g2 (al_p a) := w1'.fr f2 (by decide)
        obtain ⟨g3, r3, q3', w3'⟩ := m_again q2' q.1 w2'
        have lb : lo_b a i = true ↔ ro_rows (al_r (al_set a (pc_rm (al_p a) (pc_at (al_p a) i).1))) (al_N (al_set a (pc_rm (al_p a) (pc_at (al_p a) i).1))) ≠ [] := by
          unfold lo_b al_or
          rw [decide_eq_true_iff]
        have w0 : aG g 125 0 = iI (al_p a).length := wg.2.1
        rw [bI_f any]
        simp (maxSteps := 3000000) (implicitDefEqProofs := false) (disch := omega) only [jl_e, jn_e, bd_e, gd_t, iI_add, iI_sub, iI_mul, iI_neg, if_true, if_false, not_true_eq_false, not_false_eq_true, Int.reduceEq, Nat.add_zero, Int.toNat_natCast, iI_cl, iI_lt, iI_eq, gd_in, bI_eq0, bI_eq1, bI_isB, isB_0, isB_1, il_0, il_1, il_2, il_3, il_4, il_5, il_6, il_7, il_8, il_9, il_10, il_12, il_16, il_18, il_24, il_27, il_30, il_31, il_32, il_40, il_47, il_48, il_49, il_55, il_56, il_57, il_59, il_63, il_64, il_96, il_97, il_98, il_99, il_101, il_103, il_104, il_105, il_108, il_109, il_110, il_111, il_112, il_114, il_115, il_116, il_117, il_119, il_122, il_127, il_128, il_200, il_225, il_255, il_256, il_999, il_1575, il_9999, il_65536, il_252645135, il_858993459, il_1431655765, tn0, w0]
        rw [if_pos (by omega), r1, bd_e, m_whole q1', bd_e, r2, bd_e]
        by_cases b : lo_b a i = true
        · rw [bI_t (lb.1 b), if_neg (by decide)]
          have lks : lo_k a (i + 1) = lo_k a i ++ [i] := by rw [lo_k_s, if_pos b]
          have ll : (lo_k a (i + 1)).length = (lo_k a i).length + 1 := by rw [lks, List.length_append]; rfl
          rw [il_225, il_0] at r3
          have go : ∀ vk', vk' = (if n = k then iI (i : Int) else iI kept) → Wp (t (iI (n + 1)) vk' (iI ((i : Int) + 1)) g3) (fun v h' => v = iI (if k = -1 then ((lo_l a).length : Int) else lo_at (lo_l a) k) ∧ AmC h' a) := fun vk' hv => by
            refine ih (n + 1) (if n = k then (i : Int) else kept) _ _ g3 rfl ?_ (by omega) ?_ q3' w3'
            · rw [hv]
              split <;> rfl
            · unfold lo_at at hkept ⊢
              rw [ll, lks, getD_app]
              by_cases e : n = k
              · rw [if_pos e, if_pos ⟨by omega, by omega⟩, if_neg (by omega), if_pos (by omega)]
              · rw [if_neg e, hkept]
                by_cases d : 0 ≤ k ∧ k < (lo_k a i).length
                · rw [if_pos d, if_pos ⟨d.1, by omega⟩, if_pos (by omega)]
                · rw [if_neg d, if_neg (by omega)]
          by_cases e : n = k
          · rw [if_pos (by omega), r3, bd_e]
            exact go _ (if_pos e).symm
          · rw [if_neg (by omega), r3, bd_e]
            exact go _ (if_neg e).symm
        · rw [bI_f (fun z => b (lb.2 z)), if_pos rfl]
          rw [il_225, il_0] at r3
          have lks : lo_k a (i + 1) = lo_k a i := by rw [lo_k_s, if_neg b, List.append_nil]
          rw [r3, bd_e]
          exact ih n kept _ _ g3 rfl rfl (by rw [lks]; exact hn) (by rw [lks]; exact hkept) q3' w3'
      · have ei : i = (al_p a).length := by omega
        subst ei
        have := fin n kept g qg (by rw [l0]; exact hn) (by rw [l0]; exact hkept)
        rw [bI_f any]
        simp (maxSteps := 3000000) (implicitDefEqProofs := false) (disch := omega) only [jl_e, jn_e, bd_e, gd_t, iI_add, iI_sub, iI_mul, iI_neg, if_true, if_false, not_true_eq_false, not_false_eq_true, Int.reduceEq, Nat.add_zero, Int.toNat_natCast, iI_cl, iI_lt, iI_eq, gd_in, bI_eq0, bI_eq1, bI_isB, isB_0, isB_1, il_0, il_1, il_2, il_3, il_4, il_5, il_6, il_7, il_8, il_9, il_10, il_12, il_16, il_18, il_24, il_27, il_30, il_31, il_32, il_40, il_47, il_48, il_49, il_55, il_56, il_57, il_59, il_63, il_64, il_96, il_97, il_98, il_99, il_101, il_103, il_104, il_105, il_108, il_109, il_110, il_111, il_112, il_114, il_115, il_116, il_117, il_119, il_122, il_127, il_128, il_200, il_225, il_255, il_256, il_999, il_1575, il_9999, il_65536, il_252645135, il_858993459, il_1431655765, tn0, show aG g 125 0 = iI (al_p a).length from wg.2.1]
        rw [if_neg (by omega)]
        exact this
theorem ak_2 (a : Alb) (p : Nat) (hp : p ≤ 6) : ∀ n, n ≤ 6 → ∀ st : Nat × Int, st.2 ≤ 100 → (ak_t a p n st).2 ≤ 100
  | 0, _, st, h => h
  | n + 1, hn, st, h => by
    have ih := ak_2 a p hp n (by omega) st h
    show (ak_1 a p n (ak_t a p n st)).2 ≤ 100
    unfold ak_1
    split
    · show ((10 * p + (2 + n) : Nat) : Int) ≤ 100
      omega
    · exact ih
theorem ak_p2 (a : Alb) (hk : (al_k a).length ≤ 6) : ∀ n, n ≤ 7 → (ak_p a n).2 ≤ 100
  | 0, _ => by show (-1 : Int) ≤ 100; omega
  | n + 1, hn => ak_2 a n (by omega) _ hk _ (ak_p2 a hk n (by omega))
theorem m_ask {h : Hp} {a : Alb} (q : AmC h a) {w : Int} (hw : -2147483648 ≤ w ∧ w < 2147483648) : ∃ h', F_X12_ask (iI w) h = some (iI (if w < 0 ∨ 1 < w then -3 else if w = 0 then (ak_p a (al_w a).length).2 else if (ak_p a (al_w a).length).2 = -1 then -1 else ((ak_p a (al_w a).length).1 : Int)), h') ∧ AmC h' a := by
  have h7 := q.1.2.1
  have h6 := q.1.2.2.1
  have o5 := al_or_len h7
  refine wp_v ?_
  unfold F_X12_ask
  by_cases c : 0 ≤ w ∧ w ≤ 1
  · obtain ⟨h1, e1, -⟩ := m_many q
    have f1 := fr_X12_many _ _ _ e1
    have q1 : AmC h1 a := q.lay f1 (by decide) (by decide)
    simp (maxSteps := 3000000) (implicitDefEqProofs := false) (disch := omega) only [jl_e, jn_e, bd_e, gd_t, iI_add, iI_sub, iI_mul, iI_neg, if_true, if_false, not_true_eq_false, not_false_eq_true, Int.reduceEq, Nat.add_zero, Int.toNat_natCast, iI_cl, iI_lt, iI_eq, gd_in, bI_eq0, bI_eq1, bI_isB, isB_0, isB_1, il_0, il_1, il_2, il_3, il_4, il_5, il_6, il_7, il_8, il_9, il_10, il_12, il_16, il_18, il_24, il_27, il_30, il_31, il_32, il_40, il_47, il_48, il_49, il_55, il_56, il_57, il_59, il_63, il_64, il_96, il_97, il_98, il_99, il_101, il_103, il_104, il_105, il_108, il_109, il_110, il_111, il_112, il_114, il_115, il_116, il_117, il_119, il_122, il_127, il_128, il_200, il_225, il_255, il_256, il_999, il_1575, il_9999, il_65536, il_252645135, il_858993459, il_1431655765, m_within hw]
    rw [if_neg (fun z => z c), e1, bd_e, if_neg (show ¬ (w < 0 ∨ 1 < w) by omega)]
    refine lp_up (α := Int32 → Int32 → Int32 → Hp → Option (Int32 × Hp)) (P := fun p t => ∀ (v5 v6 : Int32) (g : Hp), v5 = iI ((ak_p a p).1 : Int) → v6 = iI (ak_p a p).2 → AmC g a → Wp (t v5 v6 (iI p) g) (fun v h' => v = iI (if w = 0 then (ak_p a (al_w a).length).2 else if (ak_p a (al_w a).length).2 = -1 then -1 else ((ak_p a (al_w a).length).1 : Int)) ∧ AmC h' a)) (al_w a).length (by omega) (fun p t hp ih v5 v6 g hv5 hv6 qg => ?_) _ _ h1 rfl rfl q1
    subst hv5 hv6
    have l1 := ak_p_le a p
    have l2 := ak_p2 a h6 p (by omega)
    have l3 := ak_p_pos a p
    by_cases z : p < (al_w a).length
    · have ih := ih z
      simp (maxSteps := 3000000) (implicitDefEqProofs := false) (disch := omega) only [jl_e, jn_e, bd_e, gd_t, iI_add, iI_sub, iI_mul, iI_neg, if_true, if_false, not_true_eq_false, not_false_eq_true, Int.reduceEq, Nat.add_zero, Int.toNat_natCast, iI_cl, iI_lt, iI_eq, gd_in, bI_eq0, bI_eq1, bI_isB, isB_0, isB_1, il_0, il_1, il_2, il_3, il_4, il_5, il_6, il_7, il_8, il_9, il_10, il_12, il_16, il_18, il_24, il_27, il_30, il_31, il_32, il_40, il_47, il_48, il_49, il_55, il_56, il_57, il_59, il_63, il_64, il_96, il_97, il_98, il_99, il_101, il_103, il_104, il_105, il_108, il_109, il_110, il_111, il_112, il_114, il_115, il_116, il_117, il_119, il_122, il_127, il_128, il_200, il_225, il_255, il_256, il_999, il_1575, il_9999, il_65536, il_252645135, il_858993459, il_1431655765, qg.np]
      rw [if_pos (by omega)]
      refine lp_up (α := Int32 → Int32 → Int32 → Hp → Option (Int32 × Hp)) (P := fun i d => ∀ (v5 v6 : Int32) (u : Hp), v5 = iI ((ak_t a p i (ak_p a p)).1 : Int) → v6 = iI (ak_t a p i (ak_p a p)).2 → AmC u a → Wp (d v5 v6 (iI i) u) (fun v h' => v = iI (if w = 0 then (ak_p a (al_w a).length).2 else if (ak_p a (al_w a).length).2 = -1 then -1 else ((ak_p a (al_w a).length).1 : Int)) ∧ AmC h' a)) (al_k a).length (by omega) (fun i d hi ih2 v5 v6 u hv5 hv6 qu => ?_) _ _ g rfl rfl qg
      subst hv5 hv6
      have m1 := Nat.le_trans (ak_t_le a p i (ak_p a p)) l1
      have m2 := ak_2 a p (by omega) i (by omega) _ l2
      have m3 := ak_t_pos a p i _ l3
      by_cases y : i < (al_k a).length
      · have ih2 := ih2 y
        have k3 := q.1.2.2.2.2.1 i y
        have step : ak_t a p (i + 1) (ak_p a p) = ak_1 a p i (ak_t a p i (ak_p a p)) := rfl
        rw [step] at ih2
        generalize ak_t a p i (ak_p a p) = st at *
        have keep : ∀ u', AmC u' a → ¬ ((al_kd a i ≠ 3 ∧ th_v a p i = -1) ∧ wo_n a p i 0 < st.1 ∧ wo_n a p i 1 < st.1) → Wp (d (iI (st.1 : Int)) (iI st.2) (iI ((i : Int) + 1)) u') (fun v h' => v = iI (if w = 0 then (ak_p a (al_w a).length).2 else if (ak_p a (al_w a).length).2 = -1 then -1 else ((ak_p a (al_w a).length).1 : Int)) ∧ AmC h' a) := fun u' qu' no => by
          refine ih2 _ _ u' ?_ ?_ qu'
          · unfold ak_1; rw [if_neg no]
          · unfold ak_1; rw [if_neg no]
        simp (maxSteps := 3000000) (implicitDefEqProofs := false) (disch := omega) only [jl_e, jn_e, bd_e, gd_t, iI_add, iI_sub, iI_mul, iI_neg, if_true, if_false, not_true_eq_false, not_false_eq_true, Int.reduceEq, Nat.add_zero, Int.toNat_natCast, iI_cl, iI_lt, iI_eq, gd_in, bI_eq0, bI_eq1, bI_isB, isB_0, isB_1, il_0, il_1, il_2, il_3, il_4, il_5, il_6, il_7, il_8, il_9, il_10, il_12, il_16, il_18, il_24, il_27, il_30, il_31, il_32, il_40, il_47, il_48, il_49, il_55, il_56, il_57, il_59, il_63, il_64, il_96, il_97, il_98, il_99, il_101, il_103, il_104, il_105, il_108, il_109, il_110, il_111, il_112, il_114, il_115, il_116, il_117, il_119, il_122, il_127, il_128, il_200, il_225, il_255, il_256, il_999, il_1575, il_9999, il_65536, il_252645135, il_858993459, il_1431655765, qu.nt, qu.kd y]
        rw [if_pos (by omega)]
        by_cases kd : al_kd a i = 3
        · rw [if_pos (by omega)]
          exact keep u qu (fun n => n.1.1 kd)
        · rw [if_neg (by omega)]
          have pa := m_pieceAt qu.nw (p := p) (m := 2 + (i : Int)) (by omega) (by omega)
          rw [show (2 + (i : Int)).toNat = 2 + i by omega] at pa
          have rn := pc_n_rng q.1.hp (8 * p + (2 + i))
          have rv := pc_v_rng q.1.hp (8 * p + (2 + i))
          have tv : th_v a p i = pc_v (al_p a) (8 * p + (2 + i)) := rfl
          (try simp (maxSteps := 3000000) (implicitDefEqProofs := false) (disch := omega) only [jl_e, jn_e, bd_e, gd_t, iI_add, iI_sub, iI_mul, iI_neg, if_true, if_false, not_true_eq_false, not_false_eq_true, Int.reduceEq, Nat.add_zero, Int.toNat_natCast, iI_cl, iI_lt, iI_eq, gd_in, bI_eq0, bI_eq1, bI_isB, isB_0, isB_1, il_0, il_1, il_2, il_3, il_4, il_5, il_6, il_7, il_8, il_9, il_10, il_12, il_16, il_18, il_24, il_27, il_30, il_31, il_32, il_40, il_47, il_48, il_49, il_55, il_56, il_57, il_59, il_63, il_64, il_96, il_97, il_98, il_99, il_101, il_103, il_104, il_105, il_108, il_109, il_110, il_111, il_112, il_114, il_115, il_116, il_117, il_119, il_122, il_127, il_128, il_200, il_225, il_255, il_256, il_999, il_1575, il_9999, il_65536, il_252645135, il_858993459, il_1431655765, pa])
          by_cases nn : pc_n (al_p a) (8 * p + (2 + i)) = -1
          · rw [if_pos nn]
            have tn : th_v a p i = -1 := by rw [tv, rv.2.2, ← rn.2.2.1]; exact nn
            have mo : 1 ≤ al_most a (2 + i) := by
              unfold al_most
              rw [if_neg (by omega), if_neg (by omega)]
              split <;> omega
            obtain ⟨u1, x1, q1'⟩ := m_wouldBe qu (p := p) (v := 0) (m := 2 + (i : Int)) z (by omega) (Nat.zero_le _)
            obtain ⟨u2, x2, q2'⟩ := m_wouldBe q1' (p := p) (v := 1) (m := 2 + (i : Int)) z (by omega) (by rw [show (2 + (i : Int)).toNat = 2 + i by omega]; exact mo)
            rw [show (2 + (i : Int)).toNat = 2 + i by omega] at x1 x2
            have x1' : F_X12_wouldBe (iI p) (iI (2 + (i : Int))) (iI 0) u = some (iI (wo_n a p i 0 : Int), u1) := x1
            have x2' : F_X12_wouldBe (iI p) (iI (2 + (i : Int))) (iI 1) u1 = some (iI (wo_n a p i 1 : Int), u2) := x2
            have w0 := wo_len q.1 p i 0
            have w1 := wo_len q.1 p i 1
            (try simp (maxSteps := 3000000) (implicitDefEqProofs := false) (disch := omega) only [jl_e, jn_e, bd_e, gd_t, iI_add, iI_sub, iI_mul, iI_neg, if_true, if_false, not_true_eq_false, not_false_eq_true, Int.reduceEq, Nat.add_zero, Int.toNat_natCast, iI_cl, iI_lt, iI_eq, gd_in, bI_eq0, bI_eq1, bI_isB, isB_0, isB_1, il_0, il_1, il_2, il_3, il_4, il_5, il_6, il_7, il_8, il_9, il_10, il_12, il_16, il_18, il_24, il_27, il_30, il_31, il_32, il_40, il_47, il_48, il_49, il_55, il_56, il_57, il_59, il_63, il_64, il_96, il_97, il_98, il_99, il_101, il_103, il_104, il_105, il_108, il_109, il_110, il_111, il_112, il_114, il_115, il_116, il_117, il_119, il_122, il_127, il_128, il_200, il_225, il_255, il_256, il_999, il_1575, il_9999, il_65536, il_252645135, il_858993459, il_1431655765, x1', x2'])
            generalize hy0 : wo_n a p i 0 = y0 at *
            generalize hy1 : wo_n a p i 1 = y1 at *
            have win : y0 < st.1 → y1 < st.1 → ∀ b : Nat, b = (if y0 ≤ y1 then y1 else y0) → Wp (d (iI (b : Int)) (iI (10 * (p : Int) + 2 + (i : Int))) (iI ((i : Int) + 1)) u2) (fun v h' => v = iI (if w = 0 then (ak_p a (al_w a).length).2 else if (ak_p a (al_w a).length).2 = -1 then -1 else ((ak_p a (al_w a).length).1 : Int)) ∧ AmC h' a) := fun a1 a2 b hb => by
              have cc : (al_kd a i ≠ 3 ∧ th_v a p i = -1) ∧ wo_n a p i 0 < st.1 ∧ wo_n a p i 1 < st.1 := ⟨⟨kd, tn⟩, by omega, by omega⟩
              refine ih2 _ _ u2 ?_ ?_ q2'
              · unfold ak_1; rw [if_pos cc, hy0, hy1, hb]
              · unfold ak_1; rw [if_pos cc]; exact iI_cg (by show _ = ((10 * p + (2 + i) : Nat) : Int); omega)
            have lose : ¬ (y0 < st.1 ∧ y1 < st.1) → Wp (d (iI (st.1 : Int)) (iI st.2) (iI ((i : Int) + 1)) u2) (fun v h' => v = iI (if w = 0 then (ak_p a (al_w a).length).2 else if (ak_p a (al_w a).length).2 = -1 then -1 else ((ak_p a (al_w a).length).1 : Int)) ∧ AmC h' a) := fun no => keep u2 q2' (fun n => no ⟨by omega, by omega⟩)
            by_cases c1 : y1 < y0
            · rw [if_pos (by omega)]
              by_cases c2 : y0 < st.1
              · rw [if_pos (by omega), if_pos (by omega)]
                exact win c2 (by omega) y0 (by rw [if_neg (by omega)])
              · rw [if_neg (by omega), if_neg (by omega)]
                exact lose (by omega)
            · rw [if_neg (by omega)]
              by_cases c2 : y1 < st.1
              · rw [if_pos (by omega), if_pos (by omega)]
                exact win (by omega) c2 y1 (by rw [if_pos (by omega)])
              · rw [if_neg (by omega), if_neg (by omega)]
                exact lose (by omega)
          · rw [if_neg nn]
            have tn : th_v a p i ≠ -1 := fun e => nn (by rw [rn.2.2.1, ← rv.2.2]; exact e)
            exact keep u qu (fun n => tn n.1.2)
      · have ei : i = (al_k a).length := by omega
        subst ei
        simp (maxSteps := 3000000) (implicitDefEqProofs := false) (disch := omega) only [jl_e, jn_e, bd_e, gd_t, iI_add, iI_sub, iI_mul, iI_neg, if_true, if_false, not_true_eq_false, not_false_eq_true, Int.reduceEq, Nat.add_zero, Int.toNat_natCast, iI_cl, iI_lt, iI_eq, gd_in, bI_eq0, bI_eq1, bI_isB, isB_0, isB_1, il_0, il_1, il_2, il_3, il_4, il_5, il_6, il_7, il_8, il_9, il_10, il_12, il_16, il_18, il_24, il_27, il_30, il_31, il_32, il_40, il_47, il_48, il_49, il_55, il_56, il_57, il_59, il_63, il_64, il_96, il_97, il_98, il_99, il_101, il_103, il_104, il_105, il_108, il_109, il_110, il_111, il_112, il_114, il_115, il_116, il_117, il_119, il_122, il_127, il_128, il_200, il_225, il_255, il_256, il_999, il_1575, il_9999, il_65536, il_252645135, il_858993459, il_1431655765, qu.nt]
        rw [if_neg (by omega)]
        exact ih _ _ u rfl rfl qu
    · have ep : p = (al_w a).length := by omega
      subst ep
      simp (maxSteps := 3000000) (implicitDefEqProofs := false) (disch := omega) only [jl_e, jn_e, bd_e, gd_t, iI_add, iI_sub, iI_mul, iI_neg, if_true, if_false, not_true_eq_false, not_false_eq_true, Int.reduceEq, Nat.add_zero, Int.toNat_natCast, iI_cl, iI_lt, iI_eq, gd_in, bI_eq0, bI_eq1, bI_isB, isB_0, isB_1, il_0, il_1, il_2, il_3, il_4, il_5, il_6, il_7, il_8, il_9, il_10, il_12, il_16, il_18, il_24, il_27, il_30, il_31, il_32, il_40, il_47, il_48, il_49, il_55, il_56, il_57, il_59, il_63, il_64, il_96, il_97, il_98, il_99, il_101, il_103, il_104, il_105, il_108, il_109, il_110, il_111, il_112, il_114, il_115, il_116, il_117, il_119, il_122, il_127, il_128, il_200, il_225, il_255, il_256, il_999, il_1575, il_9999, il_65536, il_252645135, il_858993459, il_1431655765, qg.np]
      rw [if_neg (by omega)]
      by_cases d : (ak_p a (al_w a).length).2 = -1
      · rw [if_pos d]
        refine wp_s ⟨?_, qg⟩
        apply iI_cg
        split
        · rfl
        · first | exact d | (rw [if_pos d]; exact d)
      · rw [if_neg d]
        by_cases e : w = 0
        · rw [if_pos e, if_pos e]
          exact wp_s ⟨rfl, qg⟩
        · rw [if_neg e, if_neg e, if_neg d]
          exact wp_s ⟨rfl, qg⟩
  · simp (maxSteps := 3000000) (implicitDefEqProofs := false) (disch := omega) only [jl_e, jn_e, bd_e, gd_t, iI_add, iI_sub, iI_mul, iI_neg, if_true, if_false, not_true_eq_false, not_false_eq_true, Int.reduceEq, Nat.add_zero, Int.toNat_natCast, iI_cl, iI_lt, iI_eq, gd_in, bI_eq0, bI_eq1, bI_isB, isB_0, isB_1, il_0, il_1, il_2, il_3, il_4, il_5, il_6, il_7, il_8, il_9, il_10, il_12, il_16, il_18, il_24, il_27, il_30, il_31, il_32, il_40, il_47, il_48, il_49, il_55, il_56, il_57, il_59, il_63, il_64, il_96, il_97, il_98, il_99, il_101, il_103, il_104, il_105, il_108, il_109, il_110, il_111, il_112, il_114, il_115, il_116, il_117, il_119, il_122, il_127, il_128, il_200, il_225, il_255, il_256, il_999, il_1575, il_9999, il_65536, il_252645135, il_858993459, il_1431655765, m_within hw]
    rw [if_pos c, if_pos (show w < 0 ∨ 1 < w by omega)]
    exact wp_s ⟨rfl, q⟩
