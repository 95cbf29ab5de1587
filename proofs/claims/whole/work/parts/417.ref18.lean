-- ===== the reference: words and numbers =====
theorem m_want_t (h : Hp) : F_X12_want (iI 1) h = some (iI 1, h) := by
  unfold F_X12_want
  simp (maxSteps := 3000000) (implicitDefEqProofs := false) (disch := omega) only [jl_e, jn_e, bd_e, gd_t, iI_add, iI_sub, iI_mul, iI_neg, if_true, if_false, not_true_eq_false, not_false_eq_true, Int.reduceEq, Nat.add_zero, Int.toNat_natCast, iI_cl, iI_lt, iI_eq, gd_in, bI_eq0, bI_eq1, bI_isB, isB_0, isB_1, il_0, il_1, il_2, il_3, il_4, il_5, il_6, il_7, il_8, il_9, il_10, il_12, il_16, il_18, il_24, il_27, il_30, il_31, il_32, il_40, il_47, il_48, il_49, il_55, il_56, il_57, il_59, il_63, il_64, il_96, il_97, il_98, il_99, il_101, il_103, il_104, il_105, il_108, il_109, il_110, il_111, il_112, il_114, il_115, il_116, il_117, il_119, il_122, il_127, il_128, il_200, il_225, il_255, il_256, il_999, il_1575, il_9999, il_65536, il_252645135, il_858993459, il_1431655765]
theorem m_want_f {h : Hp} (e : sG h 7494 = iI (-1)) : F_X12_want (iI 0) h = some (iI 0, sS h 7494 (sG h 7491)) := by
  unfold F_X12_want
  simp (maxSteps := 3000000) (implicitDefEqProofs := false) (disch := omega) only [jl_e, jn_e, bd_e, gd_t, iI_add, iI_sub, iI_mul, iI_neg, if_true, if_false, not_true_eq_false, not_false_eq_true, Int.reduceEq, Nat.add_zero, Int.toNat_natCast, iI_cl, iI_lt, iI_eq, gd_in, bI_eq0, bI_eq1, bI_isB, isB_0, isB_1, il_0, il_1, il_2, il_3, il_4, il_5, il_6, il_7, il_8, il_9, il_10, il_12, il_16, il_18, il_24, il_27, il_30, il_31, il_32, il_40, il_47, il_48, il_49, il_55, il_56, il_57, il_59, il_63, il_64, il_96, il_97, il_98, il_99, il_101, il_103, il_104, il_105, il_108, il_109, il_110, il_111, il_112, il_114, il_115, il_116, il_117, il_119, il_122, il_127, il_128, il_200, il_225, il_255, il_256, il_999, il_1575, il_9999, il_65536, il_252645135, il_858993459, il_1431655765, e]
theorem m_want_b {h : Hp} {b : Int} (e : sG h 7494 = iI b) (hb : 0 ≤ b ∧ b < 1000) : F_X12_want (iI 0) h = some (iI 0, h) := by
  unfold F_X12_want
  simp (maxSteps := 3000000) (implicitDefEqProofs := false) (disch := omega) only [jl_e, jn_e, bd_e, gd_t, iI_add, iI_sub, iI_mul, iI_neg, if_true, if_false, not_true_eq_false, not_false_eq_true, Int.reduceEq, Nat.add_zero, Int.toNat_natCast, iI_cl, iI_lt, iI_eq, gd_in, bI_eq0, bI_eq1, bI_isB, isB_0, isB_1, il_0, il_1, il_2, il_3, il_4, il_5, il_6, il_7, il_8, il_9, il_10, il_12, il_16, il_18, il_24, il_27, il_30, il_31, il_32, il_40, il_47, il_48, il_49, il_55, il_56, il_57, il_59, il_63, il_64, il_96, il_97, il_98, il_99, il_101, il_103, il_104, il_105, il_108, il_109, il_110, il_111, il_112, il_114, il_115, il_116, il_117, il_119, il_122, il_127, il_128, il_200, il_225, il_255, il_256, il_999, il_1575, il_9999, il_65536, il_252645135, il_858993459, il_1431655765, e]
  rw [if_neg (by omega)]
theorem m_at {h : Hp} {T : List Nat} (tb : TB T) (q : TxM h T) {s k c : Nat} (e : sG h 7491 = iI (s : Int)) (hc : c ≤ 255) (hk : k < 7) (hs : c ≠ 0 → s + k < T.length) : F_X12_at (iI (k : Int)) (iI (c : Int)) h = some (bI (c = 0 ∨ T.getD (s + k) 0 = c), h) := by
  have hl := tb.1
  unfold F_X12_at
  by_cases c0 : c = 0
  · simp (maxSteps := 3000000) (implicitDefEqProofs := false) (disch := omega) only [jl_e, jn_e, bd_e, gd_t, iI_add, iI_sub, iI_mul, iI_neg, if_true, if_false, not_true_eq_false, not_false_eq_true, Int.reduceEq, Nat.add_zero, Int.toNat_natCast, iI_cl, iI_lt, iI_eq, gd_in, bI_eq0, bI_eq1, bI_isB, isB_0, isB_1, il_0, il_1, il_2, il_3, il_4, il_5, il_6, il_7, il_8, il_9, il_10, il_12, il_16, il_18, il_24, il_27, il_30, il_31, il_32, il_40, il_47, il_48, il_49, il_55, il_56, il_57, il_59, il_63, il_64, il_96, il_97, il_98, il_99, il_101, il_103, il_104, il_105, il_108, il_109, il_110, il_111, il_112, il_114, il_115, il_116, il_117, il_119, il_122, il_127, il_128, il_200, il_225, il_255, il_256, il_999, il_1575, il_9999, il_65536, il_252645135, il_858993459, il_1431655765]
    rw [if_pos (by omega), bI_t (Or.inl c0)]
  · have h1 := hs c0
    have h2 := tb.2 _ h1
    simp (maxSteps := 3000000) (implicitDefEqProofs := false) (disch := omega) only [jl_e, jn_e, bd_e, gd_t, iI_add, iI_sub, iI_mul, iI_neg, if_true, if_false, not_true_eq_false, not_false_eq_true, Int.reduceEq, Nat.add_zero, Int.toNat_natCast, iI_cl, iI_lt, iI_eq, gd_in, bI_eq0, bI_eq1, bI_isB, isB_0, isB_1, il_0, il_1, il_2, il_3, il_4, il_5, il_6, il_7, il_8, il_9, il_10, il_12, il_16, il_18, il_24, il_27, il_30, il_31, il_32, il_40, il_47, il_48, il_49, il_55, il_56, il_57, il_59, il_63, il_64, il_96, il_97, il_98, il_99, il_101, il_103, il_104, il_105, il_108, il_109, il_110, il_111, il_112, il_114, il_115, il_116, il_117, il_119, il_122, il_127, il_128, il_200, il_225, il_255, il_256, il_999, il_1575, il_9999, il_65536, il_252645135, il_858993459, il_1431655765, e, tnA, q.2 _ h1]
    rw [if_neg (by omega)]
    by_cases c1 : T.getD (s + k) 0 = c
    · rw [if_pos (by omega), bI_t (Or.inr c1)]
    · rw [if_neg (by omega), bI_f (by omega)]
theorem wa_pad : ∀ a, a < 11 → (1 ≤ (wd_a a).length ∧ (wd_a a).length ≤ 7) ∧ ∀ i : Nat, i < 7 → (i < (wd_a a).length → 97 ≤ (wd_a a).getD i 0 ∧ (wd_a a).getD i 0 ≤ 122) ∧ ((wd_a a).length ≤ i → (wd_a a).getD i 0 = 0) := by decide
theorem wa_sum : ∀ a, a < 11 → ((((((if (0 : Int32) < iI ((wd_a a).getD 0 0 : Nat) then (1 : Int32) else 0) + (if (0 : Int32) < iI ((wd_a a).getD 1 0 : Nat) then 1 else 0)) + (if (0 : Int32) < iI ((wd_a a).getD 2 0 : Nat) then 1 else 0)) + (if (0 : Int32) < iI ((wd_a a).getD 3 0 : Nat) then 1 else 0)) + (if (0 : Int32) < iI ((wd_a a).getD 4 0 : Nat) then 1 else 0)) + (if (0 : Int32) < iI ((wd_a a).getD 5 0 : Nat) then 1 else 0)) + (if (0 : Int32) < iI ((wd_a a).getD 6 0 : Nat) then 1 else 0) = iI ((wd_a a).length : Nat) := by decide +kernel
theorem tk_is_iff {T : List Nat} {s a : Nat} (hs : s ≤ T.length) (ha : a < 11) : tk_is T s a = true ↔ tk_at T s = 1 ∧ tk_e T s - s = (wd_a a).length ∧ ∀ i, i < 7 → ((wd_a a).getD i 0 = 0 ∨ T.getD (s + i) 0 = (wd_a a).getD i 0) := by
  have p := wa_pad a ha
  unfold tk_is
  rw [Bool.and_eq_true, decide_eq_true_iff, beq_iff_eq]
  refine and_congr Iff.rfl ⟨fun e => ?_, fun ⟨e1, e2⟩ => ?_⟩
  · have l := tk_l_len hs
    rw [e] at l
    refine ⟨l.symm, fun i hi => ?_⟩
    by_cases c : i < (wd_a a).length
    · right
      rw [← e, tk_l_getD (by omega)]
    · exact Or.inl ((p.2 i hi).2 (by omega))
  · refine list_eq (by rw [tk_l_len hs, e1]) (fun i hi => ?_)
    rw [tk_l_len hs] at hi
    rw [tk_l_getD hi]
    rcases e2 i (by omega) with w | w
    · have := (p.2 i (by omega)).1 (by omega)
      omega
    · exact w
theorem m_isWord {h : Hp} {T : List Nat} (tb : TB T) (q : TxM h T) {p : Nat} (hp : p ≤ T.length) (k : TkM h T p) {a : Nat} (ha : a < 11) : F_X12_isWord (iI ((wd_a a).getD 0 0 : Nat)) (iI ((wd_a a).getD 1 0 : Nat)) (iI ((wd_a a).getD 2 0 : Nat)) (iI ((wd_a a).getD 3 0 : Nat)) (iI ((wd_a a).getD 4 0 : Nat)) (iI ((wd_a a).getD 5 0 : Nat)) (iI ((wd_a a).getD 6 0 : Nat)) h = some (bI (tk_is T (tk_s T p) a = true), h) := by
  have hl := tb.1
  obtain ⟨k0, k1, k2, k3⟩ := k
  have hs := (tk_s_le hp).2
  obtain ⟨s, es⟩ : ∃ s, s = tk_s T p := ⟨_, rfl⟩
  rw [← es] at k1 k2 k3 hs ⊢
  have hle := tk_e_le hs
  have j2 := tk_j_le T s
  have j1 : tk_j T s = 1 ↔ tk_at T s = 1 := by
    unfold tk_j
    split <;> omega
  have pd := wa_pad a ha
  rw [bI_iff (tk_is_iff hs ha)]
  unfold F_X12_isWord
  simp only [jn_if]
  rw [wa_sum a ha, jl_e, jn_e, jn_e, k3, k2]
  by_cases c1 : tk_at T s = 1
  · rw [if_pos (show iI (tk_j T s : Int) = 1 by rw [j1.2 c1]; rfl)]
    by_cases c2 : tk_e T s - s = (wd_a a).length
    · rw [if_pos (by rw [c2])]
      have A : ∀ i : Nat, i < 7 → F_X12_at (iI (i : Int)) (iI ((wd_a a).getD i 0 : Nat)) h = some (bI ((wd_a a).getD i 0 = 0 ∨ T.getD (s + i) 0 = (wd_a a).getD i 0), h) := fun i hi => by
        refine m_at tb q k1 ?_ hi (fun n0 => ?_)
        · by_cases c : i < (wd_a a).length
          · have := ((pd.2 i hi).1 c).2; omega
          · have := (pd.2 i hi).2 (by omega); omega
        · by_cases c : i < (wd_a a).length
          · omega
          · exact absurd ((pd.2 i hi).2 (by omega)) n0
      have a0 : F_X12_at (0 : Int32) (iI ((wd_a a).getD 0 0 : Nat)) h = some (bI ((wd_a a).getD 0 0 = 0 ∨ T.getD (s + 0) 0 = (wd_a a).getD 0 0), h) := A 0 (by omega)
      have a1 : F_X12_at (1 : Int32) (iI ((wd_a a).getD 1 0 : Nat)) h = some (bI ((wd_a a).getD 1 0 = 0 ∨ T.getD (s + 1) 0 = (wd_a a).getD 1 0), h) := A 1 (by omega)
      have a2 : F_X12_at (2 : Int32) (iI ((wd_a a).getD 2 0 : Nat)) h = some (bI ((wd_a a).getD 2 0 = 0 ∨ T.getD (s + 2) 0 = (wd_a a).getD 2 0), h) := A 2 (by omega)
      have a3 : F_X12_at (3 : Int32) (iI ((wd_a a).getD 3 0 : Nat)) h = some (bI ((wd_a a).getD 3 0 = 0 ∨ T.getD (s + 3) 0 = (wd_a a).getD 3 0), h) := A 3 (by omega)
      have a4 : F_X12_at (4 : Int32) (iI ((wd_a a).getD 4 0 : Nat)) h = some (bI ((wd_a a).getD 4 0 = 0 ∨ T.getD (s + 4) 0 = (wd_a a).getD 4 0), h) := A 4 (by omega)
      have a5 : F_X12_at (5 : Int32) (iI ((wd_a a).getD 5 0 : Nat)) h = some (bI ((wd_a a).getD 5 0 = 0 ∨ T.getD (s + 5) 0 = (wd_a a).getD 5 0), h) := A 5 (by omega)
      have a6 : F_X12_at (6 : Int32) (iI ((wd_a a).getD 6 0 : Nat)) h = some (bI ((wd_a a).getD 6 0 = 0 ∨ T.getD (s + 6) 0 = (wd_a a).getD 6 0), h) := A 6 (by omega)
      have R : (tk_at T s = 1 ∧ tk_e T s - s = (wd_a a).length ∧ ∀ i, i < 7 → ((wd_a a).getD i 0 = 0 ∨ T.getD (s + i) 0 = (wd_a a).getD i 0)) ↔ (((wd_a a).getD 0 0 = 0 ∨ T.getD (s + 0) 0 = (wd_a a).getD 0 0) ∧ ((wd_a a).getD 1 0 = 0 ∨ T.getD (s + 1) 0 = (wd_a a).getD 1 0) ∧ ((wd_a a).getD 2 0 = 0 ∨ T.getD (s + 2) 0 = (wd_a a).getD 2 0) ∧ ((wd_a a).getD 3 0 = 0 ∨ T.getD (s + 3) 0 = (wd_a a).getD 3 0) ∧ ((wd_a a).getD 4 0 = 0 ∨ T.getD (s + 4) 0 = (wd_a a).getD 4 0) ∧ ((wd_a a).getD 5 0 = 0 ∨ T.getD (s + 5) 0 = (wd_a a).getD 5 0) ∧ ((wd_a a).getD 6 0 = 0 ∨ T.getD (s + 6) 0 = (wd_a a).getD 6 0)) := by
        refine ⟨fun z => ⟨z.2.2 0 (by omega), z.2.2 1 (by omega), z.2.2 2 (by omega), z.2.2 3 (by omega), z.2.2 4 (by omega), z.2.2 5 (by omega), z.2.2 6 (by omega)⟩, fun ⟨z0, z1, z2, z3, z4, z5, z6⟩ => ⟨c1, c2, fun i hi => ?_⟩⟩
        have : i = 0 ∨ i = 1 ∨ i = 2 ∨ i = 3 ∨ i = 4 ∨ i = 5 ∨ i = 6 := by omega
        rcases this with w | w | w | w | w | w | w <;> subst w <;> assumption
      rw [bI_iff R]
      rw [a0, bd_e]
      by_cases p0 : (wd_a a).getD 0 0 = 0 ∨ T.getD (s + 0) 0 = (wd_a a).getD 0 0
      · rw [bI_t p0, if_neg (by decide)]
        rw [a1, bd_e]
        by_cases p1 : (wd_a a).getD 1 0 = 0 ∨ T.getD (s + 1) 0 = (wd_a a).getD 1 0
        · rw [bI_t p1, if_neg (by decide)]
          rw [a2, bd_e]
          by_cases p2 : (wd_a a).getD 2 0 = 0 ∨ T.getD (s + 2) 0 = (wd_a a).getD 2 0
          · rw [bI_t p2, if_neg (by decide)]
            rw [a3, bd_e]
            by_cases p3 : (wd_a a).getD 3 0 = 0 ∨ T.getD (s + 3) 0 = (wd_a a).getD 3 0
            · rw [bI_t p3, if_neg (by decide)]
              rw [a4, bd_e]
              by_cases p4 : (wd_a a).getD 4 0 = 0 ∨ T.getD (s + 4) 0 = (wd_a a).getD 4 0
              · rw [bI_t p4, if_neg (by decide)]
                rw [a5, bd_e]
                by_cases p5 : (wd_a a).getD 5 0 = 0 ∨ T.getD (s + 5) 0 = (wd_a a).getD 5 0
                · rw [bI_t p5, if_neg (by decide)]
                  rw [a6, bd_e]
                  by_cases p6 : (wd_a a).getD 6 0 = 0 ∨ T.getD (s + 6) 0 = (wd_a a).getD 6 0
                  · rw [bI_t p6, if_neg (by decide)]
                    rw [bI_t ⟨p0, p1, p2, p3, p4, p5, p6⟩]
                    rfl
                  · rw [bI_f p6, if_pos (show iI 0 = 0 from rfl), bI_f (fun z => p6 z.2.2.2.2.2.2)]
                    rfl
                · rw [bI_f p5, if_pos (show iI 0 = 0 from rfl), bI_f (fun z => p5 z.2.2.2.2.2.1)]
                  rfl
              · rw [bI_f p4, if_pos (show iI 0 = 0 from rfl), bI_f (fun z => p4 z.2.2.2.2.1)]
                rfl
            · rw [bI_f p3, if_pos (show iI 0 = 0 from rfl), bI_f (fun z => p3 z.2.2.2.1)]
              rfl
          · rw [bI_f p2, if_pos (show iI 0 = 0 from rfl), bI_f (fun z => p2 z.2.2.1)]
            rfl
        · rw [bI_f p1, if_pos (show iI 0 = 0 from rfl), bI_f (fun z => p1 z.2.1)]
          rfl
      · rw [bI_f p0, if_pos (show iI 0 = 0 from rfl), bI_f (fun z => p0 z.1)]
        rfl
    · rw [if_neg (show ¬ iI ((tk_e T s - s : Nat) : Int) = iI ((wd_a a).length : Nat) by rw [iI_eq (by omega) (by omega) (by omega) (by omega)]; omega), bI_f (fun z => c2 z.2.1)]
      rfl
  · rw [if_neg (show ¬ iI (tk_j T s : Int) = 1 by rw [il_1, iI_eq (by omega) (by omega) (by omega) (by omega)]; omega), bI_f (fun z => c1 z.1)]
    rfl
theorem tk_num {T : List Nat} {s : Nat} (k : Nat) (k2 : tk_at T s = 2) (hk : k < tk_e T s - s) : 48 ≤ T.getD (s + k) 0 ∧ T.getD (s + k) 0 ≤ 57 := tk_dig k2 (by omega) (by omega)
theorem m_number {h : Hp} {T : List Nat} (tb : TB T) (q : TxM h T) {p : Nat} (hp : p ≤ T.length) (e0 : sG h 7490 = iI (p : Int)) {b : Int} (eb : sG h 7494 = iI b) (hb : -1 ≤ b ∧ b < 1000) {lo hi : Int} (hlo : -1000 ≤ lo ∧ lo ≤ 1000) (hhi : -1000 ≤ hi ∧ hi ≤ 1000) : ∃ h', F_X12_number (iI lo) (iI hi) h = some (iI (if b = -1 ∧ nok T p lo hi = true then (nv T p : Int) else 0), h') ∧ sG h' 7490 = iI (nx T p : Int) ∧ sG h' 7494 = iI (if b = -1 then (if nok T p lo hi = true then -1 else (tk_s T p : Int)) else b) := by
  have hl := tb.1
  obtain ⟨h1, e1, k0, k1, k2, k3⟩ := m_take tb q hp e0
  have f := fr_X12_take _ _ _ e1
  have eb1 : sG h1 7494 = iI b := (f.sg (by decide)).trans eb
  have q1 : TxM h1 T := q.fr f (by decide) (by decide)
  have hs := (tk_s_le hp).2
  have nkd : nok T p lo hi = true ↔ (tk_at T (tk_s T p) = 2 ∧ tk_e T (tk_s T p) - tk_s T p ≤ 3 ∧ lo ≤ tk_n T (tk_s T p) ∧ tk_n T (tk_s T p) ≤ hi) := by
    unfold nok nb_ok
    rw [decide_eq_true_iff]
  have nvd : nv T p = tk_n T (tk_s T p) := rfl
  obtain ⟨s, es⟩ : ∃ s, s = tk_s T p := ⟨_, rfl⟩
  rw [← es] at k1 k2 k3 hs nkd nvd ⊢
  have hle := tk_e_le hs
  have j2 := tk_j_le T s
  have jat : tk_j T s = 2 ↔ tk_at T s = 2 := by
    unfold tk_j
    split <;> omega
  have nlt := tk_n_lt hs
  refine (fun (w : Wp (F_X12_number (iI lo) (iI hi) h) (fun v h' => v = iI (if b = -1 ∧ nok T p lo hi = true then (nv T p : Int) else 0) ∧ (sG h' 7490 = iI (nx T p : Int) ∧ sG h' 7494 = iI (if b = -1 then (if nok T p lo hi = true then -1 else (s : Int)) else b)))) => wp_v w) ?_
  unfold F_X12_number
  rw [e1, bd_e, k1, jl_e]
  refine lp_up (α := Int32 → Int32 → Hp → Option (Int32 × Hp)) (P := fun k c => ∀ v x, x = iI ((s + k : Nat) : Int) → (tk_at T s = 2 → v = iI (nb_f (tk_l T s) k : Int)) → Wp (c v x h1) (fun v h' => v = iI (if b = -1 ∧ nok T p lo hi = true then (nv T p : Int) else 0) ∧ (sG h' 7490 = iI (nx T p : Int) ∧ sG h' 7494 = iI (if b = -1 then (if nok T p lo hi = true then -1 else (s : Int)) else b)))) (min (tk_e T s - s) 3) (by omega) (fun k c hk ih v x hx hv => ?_) _ _ rfl (fun _ => rfl)
  subst hx
  by_cases z : k < min (tk_e T s - s) 3
  · have ih := ih z
    have zl : s + k < T.length := by omega
    have b255 := tb.2 _ zl
    simp (maxSteps := 3000000) (implicitDefEqProofs := false) (disch := omega) only [jl_e, jn_e, bd_e, gd_t, iI_add, iI_sub, iI_mul, iI_neg, if_true, if_false, not_true_eq_false, not_false_eq_true, Int.reduceEq, Nat.add_zero, Int.toNat_natCast, iI_cl, iI_lt, iI_eq, gd_in, bI_eq0, bI_eq1, bI_isB, isB_0, isB_1, il_0, il_1, il_2, il_3, il_4, il_5, il_6, il_7, il_8, il_9, il_10, il_12, il_16, il_18, il_24, il_27, il_30, il_31, il_32, il_40, il_47, il_48, il_49, il_55, il_56, il_57, il_59, il_63, il_64, il_96, il_97, il_98, il_99, il_101, il_103, il_104, il_105, il_108, il_109, il_110, il_111, il_112, il_114, il_115, il_116, il_117, il_119, il_122, il_127, il_128, il_200, il_225, il_255, il_256, il_999, il_1575, il_9999, il_65536, il_252645135, il_858993459, il_1431655765, k1, k2, q1.2 _ zl]
    rw [if_pos (by omega), if_pos (by omega)]
    refine ih _ _ (iI_cg (by omega)) (fun w => ?_)
    have dg := tk_num k w (by omega)
    have nl := nb_lt (L := tk_l T s) (fun i hi => by rw [tk_l_len hs] at hi; rw [tk_l_getD hi]; exact tk_num i w hi) k (by rw [tk_l_len hs]; omega)
    have p3 : 10 ^ k ≤ 10 ^ 3 := Nat.pow_le_pow_right (by decide) (by omega)
    rw [hv w, nb_s (by rw [tk_l_len hs]; omega), tk_l_getD (by omega), iI_mul, iI_add, iI_sub]
    exact iI_cg (by omega)
  · have hv2 : tk_at T s = 2 → tk_e T s - s ≤ 3 → v = iI (tk_n T s : Int) := fun w1 w2 => by
      rw [hv w1]
      unfold tk_n
      rw [show k = tk_e T s - s by omega]
    have w0 := m_want_t h1
    clear ih hv
    simp (maxSteps := 3000000) (implicitDefEqProofs := false) (disch := omega) only [jl_e, jn_e, bd_e, gd_t, iI_add, iI_sub, iI_mul, iI_neg, if_true, if_false, not_true_eq_false, not_false_eq_true, Int.reduceEq, Nat.add_zero, Int.toNat_natCast, iI_cl, iI_lt, iI_eq, gd_in, bI_eq0, bI_eq1, bI_isB, isB_0, isB_1, il_0, il_1, il_2, il_3, il_4, il_5, il_6, il_7, il_8, il_9, il_10, il_12, il_16, il_18, il_24, il_27, il_30, il_31, il_32, il_40, il_47, il_48, il_49, il_55, il_56, il_57, il_59, il_63, il_64, il_96, il_97, il_98, il_99, il_101, il_103, il_104, il_105, il_108, il_109, il_110, il_111, il_112, il_114, il_115, il_116, il_117, il_119, il_122, il_127, il_128, il_200, il_225, il_255, il_256, il_999, il_1575, il_9999, il_65536, il_252645135, il_858993459, il_1431655765, k1, k2, k3, eb1, w0]
    rw [ite_two (by omega)]
    by_cases b0 : b = -1
    · have wf := m_want_f (h := h1) (by rw [eb1, b0])
      have no : ¬ nok T p lo hi = true → Wp (bd (F_X12_want (iI 0) h1) (fun r12 h13 => if r12 = iI 0 then some (iI 0, h13) else some (v, h13))) (fun v h' => v = iI (if b = -1 ∧ nok T p lo hi = true then (nv T p : Int) else 0) ∧ (sG h' 7490 = iI (nx T p : Int) ∧ sG h' 7494 = iI (if b = -1 then (if nok T p lo hi = true then -1 else (s : Int)) else b))) := fun nn => by
        rw [wf, bd_e, if_pos rfl, if_pos b0, if_neg (fun z => nn z.2), if_neg nn]
        refine wp_s ⟨rfl, (sG_sS_n (by decide) ..).trans k0, ?_⟩
        rw [sG_sS_s, k1]
      rw [if_pos b0]
      by_cases kd : tk_at T s = 2
      · rw [if_pos (show (tk_j T s : Int) = 2 by have := jat.2 kd; omega)]
        by_cases s3 : tk_e T s - s ≤ 3
        · rw [if_neg (by omega), hv2 kd s3]
          have nl := nlt kd s3
          rw [m_within (by omega) (by omega) (by omega), bd_e]
          by_cases g : lo ≤ (tk_n T s : Int) ∧ (tk_n T s : Int) ≤ hi
          · have yes := nkd.2 ⟨kd, s3, g⟩
            rw [bI_t g, if_neg (by decide), if_pos ⟨b0, yes⟩, if_pos b0, if_pos yes, nvd]
            exact wp_s ⟨rfl, k0, by rw [eb1, b0]⟩
          · rw [bI_f g, if_pos rfl]
            have := no (fun z => g (nkd.1 z).2.2)
            rw [hv2 kd s3] at this
            exact this
        · rw [if_pos (by omega)]
          exact no (fun z => s3 (nkd.1 z).2.1)
      · rw [if_neg (show ¬ (tk_j T s : Int) = 2 by have := fun z => kd (jat.1 z); omega)]
        exact no (fun z => kd (nkd.1 z).1)
    · have wb := m_want_b (h := h1) eb1 (by omega)
      rw [if_neg b0, wb, bd_e, if_pos rfl, if_neg (fun z => b0 z.1), if_neg b0]
      exact wp_s ⟨rfl, k0, eb1⟩
theorem m_wordOf {h : Hp} {T : List Nat} (tb : TB T) (q : TxM h T) {p : Nat} (hp : p ≤ T.length) (k : TkM h T p) (k1 : tk_at T (tk_s T p) = 1) (h5 : tk_e T (tk_s T p) - tk_s T p ≤ 5) : F_X12_wordOf h = some (iI (w27 (tk_l T (tk_s T p)) : Int), h) := by
  have hl := tb.1
  obtain ⟨k0, ka, kb, kc⟩ := k
  have hs := (tk_s_le hp).2
  obtain ⟨s, es⟩ : ∃ s, s = tk_s T p := ⟨_, rfl⟩
  rw [← es] at ka kb kc hs k1 h5 ⊢
  have hle := tk_e_le hs
  have ll := tk_l_len hs
  unfold F_X12_wordOf
  rw [ka, jl_e]
  refine lp_up (α := Int32 → Int32 → Hp → Option (Int32 × Hp)) (P := fun k c => ∀ v x, v = iI (w27 ((tk_l T s).take k) : Int) → x = iI ((s + k : Nat) : Int) → c v x h = some (iI (w27 (tk_l T s) : Int), h)) (tk_e T s - s) (by omega) (fun k c hk ih v x hv hx => ?_) _ _ (by rw [List.take_zero]; rfl) rfl
  subst hv hx
  by_cases z : k < tk_e T s - s
  · have ih := ih z
    have zl : s + k < T.length := by omega
    have lt := tk_let (T := T) (s := s) (i := s + k) k1 (by omega) (by omega)
    simp (maxSteps := 3000000) (implicitDefEqProofs := false) (disch := omega) only [jl_e, jn_e, bd_e, gd_t, iI_add, iI_sub, iI_mul, iI_neg, if_true, if_false, not_true_eq_false, not_false_eq_true, Int.reduceEq, Nat.add_zero, Int.toNat_natCast, iI_cl, iI_lt, iI_eq, gd_in, bI_eq0, bI_eq1, bI_isB, isB_0, isB_1, il_0, il_1, il_2, il_3, il_4, il_5, il_6, il_7, il_8, il_9, il_10, il_12, il_16, il_18, il_24, il_27, il_30, il_31, il_32, il_40, il_47, il_48, il_49, il_55, il_56, il_57, il_59, il_63, il_64, il_96, il_97, il_98, il_99, il_101, il_103, il_104, il_105, il_108, il_109, il_110, il_111, il_112, il_114, il_115, il_116, il_117, il_119, il_122, il_127, il_128, il_200, il_225, il_255, il_256, il_999, il_1575, il_9999, il_65536, il_252645135, il_858993459, il_1431655765, ka, kb, q.2 _ zl]
    rw [if_pos (by omega), if_pos (by omega), if_pos (by omega)]
    refine ih _ _ ?_ (iI_cg (by omega))
    unfold w27
    rw [take_snoc (by omega), wx_snoc, tk_l_getD z]
    exact iI_cg (by omega)
  · simp (maxSteps := 3000000) (implicitDefEqProofs := false) (disch := omega) only [jl_e, jn_e, bd_e, gd_t, iI_add, iI_sub, iI_mul, iI_neg, if_true, if_false, not_true_eq_false, not_false_eq_true, Int.reduceEq, Nat.add_zero, Int.toNat_natCast, iI_cl, iI_lt, iI_eq, gd_in, bI_eq0, bI_eq1, bI_isB, isB_0, isB_1, il_0, il_1, il_2, il_3, il_4, il_5, il_6, il_7, il_8, il_9, il_10, il_12, il_16, il_18, il_24, il_27, il_30, il_31, il_32, il_40, il_47, il_48, il_49, il_55, il_56, il_57, il_59, il_63, il_64, il_96, il_97, il_98, il_99, il_101, il_103, il_104, il_105, il_108, il_109, il_110, il_111, il_112, il_114, il_115, il_116, il_117, il_119, il_122, il_127, il_128, il_200, il_225, il_255, il_256, il_999, il_1575, il_9999, il_65536, il_252645135, il_858993459, il_1431655765, ka, kb]
    rw [if_neg (by omega), List.take_of_length_le (by omega)]
