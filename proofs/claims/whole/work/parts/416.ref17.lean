-- ===== the reference reads a token =====
theorem jn_if {β : Type} {c : Prop} [Decidable c] (K : Int32 → Hp → β) (x y : Int32) (h : Hp) : jn K (fun j => if c then j x h else j y h) = K (if c then x else y) h := by
  show (if c then K x h else K y h) = _
  split <;> rfl
theorem tw_stop {f : Nat → Bool} : ∀ (l : List Nat), (l.takeWhile f).length < l.length → f (l.getD (l.takeWhile f).length 0) = false
  | [], h => absurd h (Nat.not_lt_zero _)
  | a :: l, h => by
    by_cases c : f a = true
    · rw [List.takeWhile_cons_of_pos c, List.length_cons, List.length_cons] at h
      rw [List.takeWhile_cons_of_pos c, List.length_cons]
      exact tw_stop l (Nat.lt_of_succ_lt_succ h)
    · rw [List.takeWhile_cons_of_neg c]
      exact b_nt c
def tk_j (T : List Nat) (s : Nat) : Nat := if tk_at T s = 3 then 0 else tk_at T s
theorem tk_m_k (c : Nat) : tk_m c = if tk_k c = 3 then 0 else tk_k c := by
  unfold tk_m tk_k
  by_cases c1 : 97 ≤ c ∧ c ≤ 122
  · rw [if_pos c1, if_pos c1]; rfl
  · rw [if_neg c1, if_neg c1]
    by_cases c2 : 48 ≤ c ∧ c ≤ 57
    · rw [if_pos c2, if_pos c2]; rfl
    · rw [if_neg c2, if_neg c2]; rfl
theorem tk_k_rng (c : Nat) : 1 ≤ tk_k c ∧ tk_k c ≤ 3 := by
  unfold tk_k
  repeat' split
  all_goals omega
theorem tk_at_lt {T : List Nat} {s : Nat} (h : s < T.length) : tk_at T s = tk_k (T.getD s 0) := if_pos h
theorem tk_at_ge {T : List Nat} {s : Nat} (h : ¬ s < T.length) : tk_at T s = 0 := if_neg h
theorem tk_j_lt {T : List Nat} {s : Nat} (h : s < T.length) : tk_j T s = tk_m (T.getD s 0) := by
  unfold tk_j
  rw [tk_at_lt h, tk_m_k]
theorem tk_j_le (T : List Nat) (s : Nat) : tk_j T s ≤ 2 := by
  have := tk_at_le T s
  unfold tk_j
  split <;> omega
theorem tk_run {T : List Nat} {s k : Nat} (hs : s ≤ T.length) (hk : k < tk_e T s - s) : s + k < T.length ∧ (k ≠ 0 → 0 < tk_j T s ∧ tk_m (T.getD (s + k) 0) = tk_j T s) := by
  have hle := tk_e_le hs
  refine ⟨by omega, fun k0 => ?_⟩
  have k12 : tk_at T s = 1 ∨ tk_at T s = 2 := by
    have a3 := tk_at_le T s
    unfold tk_e at hk
    by_cases c0 : tk_at T s = 0
    · rw [if_pos c0] at hk; omega
    · rw [if_neg c0] at hk
      by_cases c3 : tk_at T s = 3
      · rw [if_pos c3] at hk; omega
      · omega
  have e := tk_in k12 (i := s + k) (by omega) (by omega)
  rw [tk_m_k, e]
  unfold tk_j
  rw [if_neg (by omega)]
  exact ⟨by omega, rfl⟩
theorem tk_stop {T : List Nat} {s : Nat} (hs : s ≤ T.length) : tk_e T s = T.length ∨ (s < tk_e T s ∧ tk_e T s < T.length ∧ (tk_j T s = 0 ∨ tk_m (T.getD (tk_e T s) 0) ≠ tk_j T s)) := by
  have hle := tk_e_le hs
  have a3 := tk_at_le T s
  by_cases c0 : tk_at T s = 0
  · left
    have : tk_e T s = s := if_pos c0
    by_cases c : s < T.length
    · rw [tk_at_lt c] at c0
      have := (tk_k_rng (T.getD s 0)).1
      omega
    · omega
  · by_cases c3 : tk_at T s = 3
    · have e : tk_e T s = s + 1 := by
        unfold tk_e
        rw [if_neg c0, if_pos c3]
      have j0 : tk_j T s = 0 := if_pos c3
      omega
    · have e : tk_e T s = s + 1 + ((T.drop (s + 1)).takeWhile (fun c => tk_k c == tk_at T s)).length := by
        unfold tk_e
        rw [if_neg c0, if_neg c3]
      have j0 : tk_j T s = tk_at T s := if_neg c3
      by_cases w : tk_e T s = T.length
      · exact Or.inl w
      · have st := tw_stop (f := fun c => tk_k c == tk_at T s) (T.drop (s + 1)) (by rw [List.length_drop]; omega)
        rw [drop_getD, ← e] at st
        refine Or.inr ⟨by omega, by omega, Or.inr (fun z => ?_)⟩
        rw [tk_m_k, j0] at z
        have kr := tk_k_rng (T.getD (tk_e T s) 0)
        by_cases k3 : tk_k (T.getD (tk_e T s) 0) = 3
        · rw [if_pos k3] at z; omega
        · rw [if_neg k3] at z
          rw [z] at st
          simp at st
theorem tk_m_le (c : Nat) : tk_m c ≤ 2 := by
  unfold tk_m
  repeat' split
  all_goals omega
def TkM (h : Hp) (T : List Nat) (p : Nat) : Prop := sG h 7490 = iI (nx T p : Int) ∧ sG h 7491 = iI (tk_s T p : Int) ∧ sG h 7492 = iI ((tk_e T (tk_s T p) - tk_s T p : Nat) : Int) ∧ sG h 7493 = iI (tk_j T (tk_s T p) : Int)
theorem TxM.tb {h h' : Hp} {T : List Nat} (q : TxM h T) (e1 : sG h' 7489 = sG h 7489) (e2 : aF h' 118 = aF h 118) : TxM h' T := ⟨e1.trans q.1, fun i hi => (congrFun e2 i).trans (q.2 i hi)⟩
theorem m_take {h : Hp} {T : List Nat} (tb : TB T) (q : TxM h T) {p : Nat} (hp : p ≤ T.length) (e0 : sG h 7490 = iI (p : Int)) : ∃ h', F_X12_take h = some ((), h') ∧ TkM h' T p := by
  have hl := tb.1
  refine wp_u ?_
  unfold F_X12_take
  refine lp_up (α := Hp → Option (Unit × Hp)) (P := fun k c => ∀ g, TxM g T → sG g 7490 = iI ((p + k : Nat) : Int) → (∀ i, i < k → T.getD (p + i) 0 = 32) → p + k ≤ T.length → Wp (c g) (fun _ h' => TkM h' T p)) (T.length - p) (by omega) (fun k c hk ih g qg g0 g1 g2 => ?_) h q e0 (fun i hi => absurd hi (Nat.not_lt_zero i)) hp
  obtain ⟨s, hs⟩ : ∃ s, s = p + k := ⟨_, rfl⟩
  rw [← hs] at g0 g2
  have es : (s < T.length → T.getD s 0 ≠ 32) → tk_s T p = s := fun hno => by
    unfold tk_s
    rw [tw_len (T.drop p) k (by rw [List.length_drop]; omega) (fun i hi => by rw [drop_getD, g1 i hi]; rfl) (fun hi => by rw [List.length_drop] at hi; rw [drop_getD, ← hs]; have := hno (by omega); simpa using this)]
    omega
  by_cases z : s < T.length
  · have ec := qg.2 s z
    by_cases b : T.getD s 0 = 32
    · simp (maxSteps := 3000000) (implicitDefEqProofs := false) (disch := omega) only [jl_e, jn_e, bd_e, gd_t, iI_add, iI_sub, iI_mul, iI_neg, if_true, if_false, not_true_eq_false, not_false_eq_true, Int.reduceEq, Nat.add_zero, Int.toNat_natCast, iI_cl, iI_lt, iI_eq, gd_in, bI_eq0, bI_eq1, bI_isB, isB_0, isB_1, il_0, il_1, il_2, il_3, il_4, il_5, il_6, il_7, il_8, il_9, il_10, il_12, il_16, il_18, il_24, il_27, il_30, il_31, il_32, il_40, il_47, il_48, il_49, il_55, il_56, il_57, il_59, il_63, il_64, il_96, il_97, il_98, il_99, il_101, il_103, il_104, il_105, il_108, il_109, il_110, il_111, il_112, il_114, il_115, il_116, il_117, il_119, il_122, il_127, il_128, il_200, il_225, il_255, il_256, il_999, il_1575, il_9999, il_65536, il_252645135, il_858993459, il_1431655765, qg.1, g0, ec]
      rw [if_pos (by omega), if_pos (by omega)]
      refine ih (by omega) _ (qg.tb rfl rfl) ?_ (fun i hi => ?_) (by omega)
      · rw [sG_sS_s]
        exact iI_cg (by omega)
      · by_cases e : i = k
        · rw [e, ← hs]; exact b
        · exact g1 i (by omega)
    · have es := es (fun _ => b)
      have kj := tk_j_lt z
      have b255 := tb.2 s z
      simp (maxSteps := 3000000) (implicitDefEqProofs := false) (disch := omega) only [jl_e, jn_e, bd_e, gd_t, iI_add, iI_sub, iI_mul, iI_neg, if_true, if_false, not_true_eq_false, not_false_eq_true, Int.reduceEq, Nat.add_zero, Int.toNat_natCast, iI_cl, iI_lt, iI_eq, gd_in, bI_eq0, bI_eq1, bI_isB, isB_0, isB_1, il_0, il_1, il_2, il_3, il_4, il_5, il_6, il_7, il_8, il_9, il_10, il_12, il_16, il_18, il_24, il_27, il_30, il_31, il_32, il_40, il_47, il_48, il_49, il_55, il_56, il_57, il_59, il_63, il_64, il_96, il_97, il_98, il_99, il_101, il_103, il_104, il_105, il_108, il_109, il_110, il_111, il_112, il_114, il_115, il_116, il_117, il_119, il_122, il_127, il_128, il_200, il_225, il_255, il_256, il_999, il_1575, il_9999, il_65536, il_252645135, il_858993459, il_1431655765, qg.1, g0, ec, aG_aS_s, aG_aS_j, aG_aS_k, aG_aV_s, aG_aV_k, aG_sS, aG_lS, aG_lV, aG_tS, aG_oS, sG_aS, sG_lS, sG_aV, sG_lV, sG_tS, sG_oS, sG_sS_s, sG_sS_n, lG_lS_s, lG_lS_j, lG_lS_k, lG_lV_s, lG_lV_k, lG_sS, lG_aS, lG_aV, lG_tS, lG_oS, tG_sS, tG_aS, tG_aV, tG_lS, tG_lV, tG_tS_s, tG_tS_n, oG_sS, oG_aS, oG_aV, oG_lS, oG_lV, oG_oS_s, m_kindOf b255]
      rw [if_pos (by omega), if_neg (by omega), if_pos (by omega), ← kj]
      have j2 := tk_j_le T s
      have stop := tk_stop g2
      have hle := tk_e_le g2
      refine lp_up (α := Hp → Option (Unit × Hp)) (P := fun n c => ∀ u, TxM u T → sG u 7490 = iI ((s + n : Nat) : Int) → sG u 7491 = iI (s : Int) → sG u 7492 = iI (n : Int) → sG u 7493 = iI (tk_j T s : Int) → Wp (c u) (fun _ h' => TkM h' T p)) (tk_e T s - s) (by omega) (fun n c hn ih2 u qu u0 u1 u2 u3 => ?_) _ (qg.tb rfl rfl) g0 rfl rfl (by first | rfl | exact (sG_sS_s ..).trans (iI_cg (by omega)))
      by_cases y : n < tk_e T s - s
      · have ih2 := ih2 y
        obtain ⟨r1, r2⟩ := tk_run g2 y
        have go : ∀ a b : Int32, a = iI ((s + (n + 1) : Nat) : Int) → b = iI ((n + 1 : Nat) : Int) → Wp (c (sS (sS u 7490 a) 7492 b)) (fun _ h' => TkM h' T p) := fun a b ha hb => ih2 _ (qu.tb rfl rfl) ((sG_sS_n (by decide) ..).trans ((sG_sS_s ..).trans ha)) u1 ((sG_sS_s ..).trans hb) u3
        simp (maxSteps := 3000000) (implicitDefEqProofs := false) (disch := omega) only [jl_e, jn_e, bd_e, gd_t, iI_add, iI_sub, iI_mul, iI_neg, if_true, if_false, not_true_eq_false, not_false_eq_true, Int.reduceEq, Nat.add_zero, Int.toNat_natCast, iI_cl, iI_lt, iI_eq, gd_in, bI_eq0, bI_eq1, bI_isB, isB_0, isB_1, il_0, il_1, il_2, il_3, il_4, il_5, il_6, il_7, il_8, il_9, il_10, il_12, il_16, il_18, il_24, il_27, il_30, il_31, il_32, il_40, il_47, il_48, il_49, il_55, il_56, il_57, il_59, il_63, il_64, il_96, il_97, il_98, il_99, il_101, il_103, il_104, il_105, il_108, il_109, il_110, il_111, il_112, il_114, il_115, il_116, il_117, il_119, il_122, il_127, il_128, il_200, il_225, il_255, il_256, il_999, il_1575, il_9999, il_65536, il_252645135, il_858993459, il_1431655765, qu.1, u0, u2, u3, aG_aS_s, aG_aS_j, aG_aS_k, aG_aV_s, aG_aV_k, aG_sS, aG_lS, aG_lV, aG_tS, aG_oS, sG_aS, sG_lS, sG_aV, sG_lV, sG_tS, sG_oS, sG_sS_s, sG_sS_n, lG_lS_s, lG_lS_j, lG_lS_k, lG_lV_s, lG_lV_k, lG_sS, lG_aS, lG_aV, lG_tS, lG_oS, tG_sS, tG_aS, tG_aV, tG_lS, tG_lV, tG_tS_s, tG_tS_n, oG_sS, oG_aS, oG_aV, oG_lS, oG_lV, oG_oS_s, qu.2 _ r1, m_kindOf (tb.2 _ r1)]
        rw [if_pos (by omega)]
        by_cases n0 : n = 0
        · rw [if_pos (by omega)]
          exact go _ _ (iI_cg (by omega)) (iI_cg (by omega))
        · obtain ⟨r3, r4⟩ := r2 n0
          rw [if_neg (by omega), if_pos (by omega), if_pos (by omega)]
          exact go _ _ (iI_cg (by omega)) (iI_cg (by omega))
      · have en : n = tk_e T s - s := by omega
        have fin : TkM u T p := by
          unfold TkM nx
          rw [es]
          exact ⟨u0.trans (iI_cg (by omega)), u1, u2.trans (by rw [en]), u3⟩
        rcases stop with w | ⟨w1, w2, w3⟩
        · simp (maxSteps := 3000000) (implicitDefEqProofs := false) (disch := omega) only [jl_e, jn_e, bd_e, gd_t, iI_add, iI_sub, iI_mul, iI_neg, if_true, if_false, not_true_eq_false, not_false_eq_true, Int.reduceEq, Nat.add_zero, Int.toNat_natCast, iI_cl, iI_lt, iI_eq, gd_in, bI_eq0, bI_eq1, bI_isB, isB_0, isB_1, il_0, il_1, il_2, il_3, il_4, il_5, il_6, il_7, il_8, il_9, il_10, il_12, il_16, il_18, il_24, il_27, il_30, il_31, il_32, il_40, il_47, il_48, il_49, il_55, il_56, il_57, il_59, il_63, il_64, il_96, il_97, il_98, il_99, il_101, il_103, il_104, il_105, il_108, il_109, il_110, il_111, il_112, il_114, il_115, il_116, il_117, il_119, il_122, il_127, il_128, il_200, il_225, il_255, il_256, il_999, il_1575, il_9999, il_65536, il_252645135, il_858993459, il_1431655765, qu.1, u0]
          rw [if_neg (by omega)]
          exact wp_s fin
        · have r1 : s + n < T.length := by omega
          have er : s + n = tk_e T s := by omega
          have mb := tk_m_le (T.getD (s + n) 0)
          simp (maxSteps := 3000000) (implicitDefEqProofs := false) (disch := omega) only [jl_e, jn_e, bd_e, gd_t, iI_add, iI_sub, iI_mul, iI_neg, if_true, if_false, not_true_eq_false, not_false_eq_true, Int.reduceEq, Nat.add_zero, Int.toNat_natCast, iI_cl, iI_lt, iI_eq, gd_in, bI_eq0, bI_eq1, bI_isB, isB_0, isB_1, il_0, il_1, il_2, il_3, il_4, il_5, il_6, il_7, il_8, il_9, il_10, il_12, il_16, il_18, il_24, il_27, il_30, il_31, il_32, il_40, il_47, il_48, il_49, il_55, il_56, il_57, il_59, il_63, il_64, il_96, il_97, il_98, il_99, il_101, il_103, il_104, il_105, il_108, il_109, il_110, il_111, il_112, il_114, il_115, il_116, il_117, il_119, il_122, il_127, il_128, il_200, il_225, il_255, il_256, il_999, il_1575, il_9999, il_65536, il_252645135, il_858993459, il_1431655765, qu.1, u0, u2, u3, qu.2 _ r1, m_kindOf (tb.2 _ r1)]
          rw [if_pos (by omega), if_neg (by omega)]
          by_cases j0 : tk_j T s = 0
          · rw [if_neg (by omega)]
            exact wp_s fin
          · rw [if_pos (by omega), if_neg (by rw [er]; omega)]
            exact wp_s fin
  · have es := es (fun w => absurd w z)
    have kj : 0 = tk_j T s := by
      unfold tk_j
      rw [tk_at_ge z]
      rfl
    simp (maxSteps := 3000000) (implicitDefEqProofs := false) (disch := omega) only [jl_e, jn_e, bd_e, gd_t, iI_add, iI_sub, iI_mul, iI_neg, if_true, if_false, not_true_eq_false, not_false_eq_true, Int.reduceEq, Nat.add_zero, Int.toNat_natCast, iI_cl, iI_lt, iI_eq, gd_in, bI_eq0, bI_eq1, bI_isB, isB_0, isB_1, il_0, il_1, il_2, il_3, il_4, il_5, il_6, il_7, il_8, il_9, il_10, il_12, il_16, il_18, il_24, il_27, il_30, il_31, il_32, il_40, il_47, il_48, il_49, il_55, il_56, il_57, il_59, il_63, il_64, il_96, il_97, il_98, il_99, il_101, il_103, il_104, il_105, il_108, il_109, il_110, il_111, il_112, il_114, il_115, il_116, il_117, il_119, il_122, il_127, il_128, il_200, il_225, il_255, il_256, il_999, il_1575, il_9999, il_65536, il_252645135, il_858993459, il_1431655765, qg.1, g0, aG_aS_s, aG_aS_j, aG_aS_k, aG_aV_s, aG_aV_k, aG_sS, aG_lS, aG_lV, aG_tS, aG_oS, sG_aS, sG_lS, sG_aV, sG_lV, sG_tS, sG_oS, sG_sS_s, sG_sS_n, lG_lS_s, lG_lS_j, lG_lS_k, lG_lV_s, lG_lV_k, lG_sS, lG_aS, lG_aV, lG_tS, lG_oS, tG_sS, tG_aS, tG_aV, tG_lS, tG_lV, tG_tS_s, tG_tS_n, oG_sS, oG_aS, oG_aV, oG_lS, oG_lV, oG_oS_s]
    rw [if_neg (by omega), if_neg (by omega)]
    have j2 := tk_j_le T s
    have stop := tk_stop g2
    have hle := tk_e_le g2
    refine lp_up (α := Hp → Option (Unit × Hp)) (P := fun n c => ∀ u, TxM u T → sG u 7490 = iI ((s + n : Nat) : Int) → sG u 7491 = iI (s : Int) → sG u 7492 = iI (n : Int) → sG u 7493 = iI (tk_j T s : Int) → Wp (c u) (fun _ h' => TkM h' T p)) (tk_e T s - s) (by omega) (fun n c hn ih2 u qu u0 u1 u2 u3 => ?_) _ (qg.tb rfl rfl) g0 rfl rfl (by first | rfl | exact (sG_sS_s ..).trans (iI_cg (by omega)))
    by_cases y : n < tk_e T s - s
    · have ih2 := ih2 y
      obtain ⟨r1, r2⟩ := tk_run g2 y
      have go : ∀ a b : Int32, a = iI ((s + (n + 1) : Nat) : Int) → b = iI ((n + 1 : Nat) : Int) → Wp (c (sS (sS u 7490 a) 7492 b)) (fun _ h' => TkM h' T p) := fun a b ha hb => ih2 _ (qu.tb rfl rfl) ((sG_sS_n (by decide) ..).trans ((sG_sS_s ..).trans ha)) u1 ((sG_sS_s ..).trans hb) u3
      simp (maxSteps := 3000000) (implicitDefEqProofs := false) (disch := omega) only [jl_e, jn_e, bd_e, gd_t, iI_add, iI_sub, iI_mul, iI_neg, if_true, if_false, not_true_eq_false, not_false_eq_true, Int.reduceEq, Nat.add_zero, Int.toNat_natCast, iI_cl, iI_lt, iI_eq, gd_in, bI_eq0, bI_eq1, bI_isB, isB_0, isB_1, il_0, il_1, il_2, il_3, il_4, il_5, il_6, il_7, il_8, il_9, il_10, il_12, il_16, il_18, il_24, il_27, il_30, il_31, il_32, il_40, il_47, il_48, il_49, il_55, il_56, il_57, il_59, il_63, il_64, il_96, il_97, il_98, il_99, il_101, il_103, il_104, il_105, il_108, il_109, il_110, il_111, il_112, il_114, il_115, il_116, il_117, il_119, il_122, il_127, il_128, il_200, il_225, il_255, il_256, il_999, il_1575, il_9999, il_65536, il_252645135, il_858993459, il_1431655765, qu.1, u0, u2, u3, aG_aS_s, aG_aS_j, aG_aS_k, aG_aV_s, aG_aV_k, aG_sS, aG_lS, aG_lV, aG_tS, aG_oS, sG_aS, sG_lS, sG_aV, sG_lV, sG_tS, sG_oS, sG_sS_s, sG_sS_n, lG_lS_s, lG_lS_j, lG_lS_k, lG_lV_s, lG_lV_k, lG_sS, lG_aS, lG_aV, lG_tS, lG_oS, tG_sS, tG_aS, tG_aV, tG_lS, tG_lV, tG_tS_s, tG_tS_n, oG_sS, oG_aS, oG_aV, oG_lS, oG_lV, oG_oS_s, qu.2 _ r1, m_kindOf (tb.2 _ r1)]
      rw [if_pos (by omega)]
      by_cases n0 : n = 0
      · rw [if_pos (by omega)]
        exact go _ _ (iI_cg (by omega)) (iI_cg (by omega))
      · obtain ⟨r3, r4⟩ := r2 n0
        rw [if_neg (by omega), if_pos (by omega), if_pos (by omega)]
        exact go _ _ (iI_cg (by omega)) (iI_cg (by omega))
    · have en : n = tk_e T s - s := by omega
      have fin : TkM u T p := by
        unfold TkM nx
        rw [es]
        exact ⟨u0.trans (iI_cg (by omega)), u1, u2.trans (by rw [en]), u3⟩
      rcases stop with w | ⟨w1, w2, w3⟩
      · simp (maxSteps := 3000000) (implicitDefEqProofs := false) (disch := omega) only [jl_e, jn_e, bd_e, gd_t, iI_add, iI_sub, iI_mul, iI_neg, if_true, if_false, not_true_eq_false, not_false_eq_true, Int.reduceEq, Nat.add_zero, Int.toNat_natCast, iI_cl, iI_lt, iI_eq, gd_in, bI_eq0, bI_eq1, bI_isB, isB_0, isB_1, il_0, il_1, il_2, il_3, il_4, il_5, il_6, il_7, il_8, il_9, il_10, il_12, il_16, il_18, il_24, il_27, il_30, il_31, il_32, il_40, il_47, il_48, il_49, il_55, il_56, il_57, il_59, il_63, il_64, il_96, il_97, il_98, il_99, il_101, il_103, il_104, il_105, il_108, il_109, il_110, il_111, il_112, il_114, il_115, il_116, il_117, il_119, il_122, il_127, il_128, il_200, il_225, il_255, il_256, il_999, il_1575, il_9999, il_65536, il_252645135, il_858993459, il_1431655765, qu.1, u0]
        rw [if_neg (by omega)]
        exact wp_s fin
      · have r1 : s + n < T.length := by omega
        have er : s + n = tk_e T s := by omega
        have mb := tk_m_le (T.getD (s + n) 0)
        simp (maxSteps := 3000000) (implicitDefEqProofs := false) (disch := omega) only [jl_e, jn_e, bd_e, gd_t, iI_add, iI_sub, iI_mul, iI_neg, if_true, if_false, not_true_eq_false, not_false_eq_true, Int.reduceEq, Nat.add_zero, Int.toNat_natCast, iI_cl, iI_lt, iI_eq, gd_in, bI_eq0, bI_eq1, bI_isB, isB_0, isB_1, il_0, il_1, il_2, il_3, il_4, il_5, il_6, il_7, il_8, il_9, il_10, il_12, il_16, il_18, il_24, il_27, il_30, il_31, il_32, il_40, il_47, il_48, il_49, il_55, il_56, il_57, il_59, il_63, il_64, il_96, il_97, il_98, il_99, il_101, il_103, il_104, il_105, il_108, il_109, il_110, il_111, il_112, il_114, il_115, il_116, il_117, il_119, il_122, il_127, il_128, il_200, il_225, il_255, il_256, il_999, il_1575, il_9999, il_65536, il_252645135, il_858993459, il_1431655765, qu.1, u0, u2, u3, qu.2 _ r1, m_kindOf (tb.2 _ r1)]
        rw [if_pos (by omega), if_neg (by omega)]
        by_cases j0 : tk_j T s = 0
        · rw [if_neg (by omega)]
          exact wp_s fin
        · rw [if_pos (by omega), if_neg (by rw [er]; omega)]
          exact wp_s fin
