-- ===== the k-th order =====
theorem ct_all : ∀ n, n ≤ 7 → ro_ct (2 ^ n - 1) = n := by decide +kernel
theorem al_S_ct {a : RA} (h : a.1 ≤ 7) : ro_ct (al_S a) = a.1 := ct_all _ h
theorem jo_s {ρ : Type} {o : Option Nat} {b : Nat} (e : o = some b) (f0 : ρ) (f1 : Nat → ρ) : jo o f0 f1 = f1 b := by rw [e]; rfl
theorem jo_b {ρ : Type} (b : Nat) (f0 : ρ) (f1 : Nat → ρ) : jo (some b) f0 f1 = f1 b := rfl
theorem c_pictureAt {t b : Nat} {h : Hp} {a : RA} (hr : ro_ok a.2) (q : RuR b h a) (hnp : a.1 ≤ 7) (o : OrC t b h a) (hsh : shB b 0 7 = true) {k i : Nat} (hk : k < 2147483648) (hi : i < 2147483648) : F_X4_pictureAt t (iI k) (iI i) h = some (iI (if k < (ro_rows (a.2) (al_S a)).length ∧ i < a.1 then (((ro_rows (a.2) (al_S a)).getD k []).getD i 0 : Int) else -1), h) := by
  obtain ⟨o1, o2, rm, m0, m1, m2, m3⟩ := o
  have hS := al_S_lt hnp
  have hct := al_S_ct hnp
  have h0 : ro_ct 0 = 0 := by decide +kernel
  have htot := ro_total hS hr
  have htl := ro_W_lt (a.2) (al_S a) (ro_ct (al_S a)) 0 0 (by omega)
  unfold F_X4_pictureAt
  rw [jl_e, jn_e, jo_s o1]
  simp (maxSteps := 3000000) (implicitDefEqProofs := false) (disch := omega) only [jl_e, jn_e, bd_e, gd_t, iI_add, iI_sub, iI_mul, iI_neg, if_true, if_false, not_true_eq_false, not_false_eq_true, Int.reduceEq, Nat.add_zero, Int.toNat_natCast, iI_cl, iI_lt, iI_eq, gd_in, bI_eq0, bI_eq1, bI_isB, isB_0, isB_1, il_0, il_1, il_2, il_3, il_4, il_5, il_6, il_7, il_8, il_9, il_10, il_12, il_16, il_18, il_24, il_27, il_30, il_31, il_32, il_40, il_47, il_48, il_49, il_55, il_56, il_57, il_59, il_63, il_64, il_96, il_97, il_98, il_99, il_101, il_103, il_104, il_105, il_108, il_109, il_110, il_111, il_112, il_114, il_115, il_116, il_117, il_119, il_122, il_127, il_128, il_200, il_225, il_255, il_256, il_999, il_1575, il_9999, il_65536, il_252645135, il_858993459, il_1431655765, o1, o2, jo_b, gd_e hsh, q.1]
  rw [if_neg (by omega)]
  by_cases c1 : k < (ro_rows (a.2) (al_S a)).length
  · rw [if_pos (by omega), if_neg (by omega)]
    by_cases c2 : i < a.1
    · rw [if_pos (by omega), if_pos (show k < (ro_rows (a.2) (al_S a)).length ∧ i < a.1 from ⟨c1, c2⟩)]
      have hrow : (ro_rows (a.2) (al_S a))[k]? = some ((ro_rows (a.2) (al_S a)).getD k []) := by
        rw [List.getD_eq_getElem?_getD, List.getElem?_eq_getElem c1]; rfl
      obtain ⟨row, erow⟩ : ∃ row, (ro_rows (a.2) (al_S a)).getD k [] = row := ⟨_, rfl⟩
      rw [erow] at hrow ⊢
      rw [ro_RC hS hr] at hrow
      have hW0 : k < ro_W (a.2) (al_S a) (ro_ct (al_S a)) 0 0 := by omega
      refine lp_up (α := Int32 → Int32 → Int32 → Int32 → Int32 → Hp → Option (Int32 × Hp)) (P := fun j c13 => ∀ (x1 x2 x3 x4 x5 : Int32) (r : List Nat) (f bb : Nat), r.length = j → x1 = iI (ro_m r) → x2 = iI f → (0 < j → x3 = iI (r.getD (j - 1) 0)) → x4 = iI bb → x5 = iI j → ro_pt (a.2) (al_S a) 0 r → ro_fr (a.2) 0 r = some f → (rm (ro_m r)).testBit f = true → bb < ro_W (a.2) (al_S a) (ro_ct (al_S a) - j) (ro_m r) f → (ro_en (al_S a).testBit (ro_C (a.2) (al_S a).testBit) (ro_ct (al_S a) - j) r)[bb]? = some row → c13 x1 x2 x3 x4 x5 h = some (iI (row.getD i 0), h)) (i + 1) (by omega) (fun j c13 hj ih => ?_) _ _ _ _ _ [] 0 k rfl rfl rfl (fun z => absurd z (by omega)) rfl rfl trivial rfl m1 (by rw [Nat.sub_zero]; exact hW0) (by rw [Nat.sub_zero]; exact hrow)
      intro x1 x2 x3 x4 x5 r f bb i1 i2 i3 i4 i5 i6 i7 i8 i9 i10 i11
      have hpe := ro_pt_end hS r 0 (by omega) (by simp) i7
      rw [ro_m_fold, h0, Nat.zero_add, i1] at hpe
      obtain ⟨p1, p2, p3⟩ := hpe
      have hf48 := ro_fr_le (a.2) r 0 f (by omega) i8
      by_cases z : j < i + 1
      · have nxt := ih z
        subst i2 i3 i5 i6
        obtain ⟨d, hd⟩ : ∃ d, ro_ct (al_S a) - j = d + 1 := ⟨ro_ct (al_S a) - j - 1, by omega⟩
        rw [hd] at i10 i11
        have hml : ro_m r < al_S a := by
          have := al_S_le p2
          refine Nat.lt_of_le_of_ne this (fun z2 => ?_)
          rw [z2] at p3
          omega
        rw [ro_W_succ] at i10
        have hWd : ∀ p, p ≤ 7 → ro_sm (ro_tm (a.2) (al_S a) d (ro_m r) f) p ≤ 823543 := fun p hp => sm_W_lt _ _ d _ _ p (by omega) hp
        have hby : ∀ p : Nat, p < 7 → F_X4_waysBy t b (iI (ro_m r)) (iI f) (iI p) h = some (iI (ro_tm (a.2) (al_S a) d (ro_m r) f p), h) := by
          intro p hp
          have := or_tm q hnp m0 (A := ro_m r) (f := f) (p := p) hml (m2 _ hml) (fun B _ hB2 => m3 B hB2) i9 hp
          rw [this, p3, show ro_ct (al_S a) - j - 1 = d by omega]
        -- what follows a picture that fits
        have go : ∀ p : Nat, p < 7 → ro_sm (ro_tm (a.2) (al_S a) d (ro_m r) f) p ≤ bb → bb < ro_sm (ro_tm (a.2) (al_S a) d (ro_m r) f) (p + 1) → F_X7_freeBehind b (iI p) (iI f) h = some (iI ((ro_f (ro_w a.2 p) f + 1 : Nat) : Int), h) ∧ c13 (iI (ro_m r ||| 2 ^ p : Nat)) (iI ((ro_f (ro_w a.2 p) f + 1 : Nat) : Int)) (iI p) (iI ((bb : Int) - ro_sm (ro_tm (a.2) (al_S a) d (ro_m r) f) p)) (iI ((j : Int) + 1)) h = some (iI (row.getD i 0), h) := by
          intro p hp g1 g2
          obtain ⟨k1, k2, k3⟩ := ro_pick (S := al_S a) (k := d) hp i8 g1 g2
          have k3' : ro_f (ro_w a.2 p) f < 48 := k3
          have hpn : p < a.1 := by
            have := (ro_nx_S k2).1
            rw [al_S_tb] at this
            exact of_decide_eq_true this
          have hfb := c_freeBehind q hnp (p := p) (f := f) hpn (by omega)
          rw [if_pos k3'] at hfb
          refine ⟨hfb, ?_⟩
          rw [k1] at i11
          refine nxt _ _ _ _ _ (r ++ [p]) (ro_f (ro_w a.2 p) f + 1) (bb - ro_sm (ro_tm (a.2) (al_S a) d (ro_m r) f) p) (by simp [i1]) (by rw [ro_m_snoc]) rfl (fun _ => ?_) (iI_cg (by omega)) (iI_cg (by omega)) ?_ ?_ ?_ ?_ ?_
          · rw [show j + 1 - 1 = r.length by omega]
            simp
          · rw [ro_pt_app, ro_m_fold]
            exact ⟨i7, k2, hp, trivial⟩
          · rw [ro_fr_snoc i8]
            show (if ro_f (ro_w a.2 p) f < 48 then some (ro_f (ro_w a.2 p) f + 1) else none) = _
            rw [if_pos k3']
          · rw [ro_m_snoc]
            exact (m2 _ hml).2 p f hp k2 i9 k3'
          · rw [ro_m_snoc, show ro_ct (al_S a) - (j + 1) = d by omega]
            have e : ro_sm (ro_tm (a.2) (al_S a) d (ro_m r) f) (p + 1) = ro_sm (ro_tm (a.2) (al_S a) d (ro_m r) f) p + ro_tm (a.2) (al_S a) d (ro_m r) f p := rfl
            have e2 : ro_tm (a.2) (al_S a) d (ro_m r) f p = ro_W (a.2) (al_S a) d (ro_m r ||| 2 ^ p) (ro_f (ro_w a.2 p) f + 1) := by
              unfold ro_tm
              rw [if_pos ⟨k2, k3⟩]
              try rfl
            omega
          · rw [show ro_ct (al_S a) - (j + 1) = d by omega]
            exact i11
        simp (maxSteps := 3000000) (implicitDefEqProofs := false) (disch := omega) only [jl_e, jn_e, bd_e, gd_t, iI_add, iI_sub, iI_mul, iI_neg, if_true, if_false, not_true_eq_false, not_false_eq_true, Int.reduceEq, Nat.add_zero, Int.toNat_natCast, iI_cl, iI_lt, iI_eq, gd_in, bI_eq0, bI_eq1, bI_isB, isB_0, isB_1, il_0, il_1, il_2, il_3, il_4, il_5, il_6, il_7, il_8, il_9, il_10, il_12, il_16, il_18, il_24, il_27, il_30, il_31, il_32, il_40, il_47, il_48, il_49, il_55, il_56, il_57, il_59, il_63, il_64, il_96, il_97, il_98, il_99, il_101, il_103, il_104, il_105, il_108, il_109, il_110, il_111, il_112, il_114, il_115, il_116, il_117, il_119, il_122, il_127, il_128, il_200, il_225, il_255, il_256, il_999, il_1575, il_9999, il_65536, il_252645135, il_858993459, il_1431655765]
        rw [if_neg (by omega), if_pos (by omega)]
        refine lp_up (α := Int32 → Int32 → Hp → Option (Int32 × Hp)) (P := fun p c19 => ∀ (y1 y2 : Int32), y1 = iI p → y2 = iI ((bb : Int) - ro_sm (ro_tm (a.2) (al_S a) d (ro_m r) f) p) → ro_sm (ro_tm (a.2) (al_S a) d (ro_m r) f) p ≤ bb → c19 y1 y2 h = some (iI (row.getD i 0), h)) 6 (by omega) (fun p c19 hp jh => ?_) _ _ rfl (iI_cg (by show _ = (bb : Int) - ((0 : Nat) : Int); omega)) (Nat.zero_le _)
        intro y1 y2 hy1 hy2 hle
        subst hy1 hy2
        have hwp := hWd p (by omega)
        have hw7 := hWd 7 (by omega)
        have es : ro_sm (ro_tm (a.2) (al_S a) d (ro_m r) f) (p + 1) = ro_sm (ro_tm (a.2) (al_S a) d (ro_m r) f) p + ro_tm (a.2) (al_S a) d (ro_m r) f p := rfl
        have hwp1 := hWd (p + 1) (by omega)
        by_cases zp : p < 6
        · simp (maxSteps := 3000000) (implicitDefEqProofs := false) (disch := omega) only [jl_e, jn_e, bd_e, gd_t, iI_add, iI_sub, iI_mul, iI_neg, if_true, if_false, not_true_eq_false, not_false_eq_true, Int.reduceEq, Nat.add_zero, Int.toNat_natCast, iI_cl, iI_lt, iI_eq, gd_in, bI_eq0, bI_eq1, bI_isB, isB_0, isB_1, il_0, il_1, il_2, il_3, il_4, il_5, il_6, il_7, il_8, il_9, il_10, il_12, il_16, il_18, il_24, il_27, il_30, il_31, il_32, il_40, il_47, il_48, il_49, il_55, il_56, il_57, il_59, il_63, il_64, il_96, il_97, il_98, il_99, il_101, il_103, il_104, il_105, il_108, il_109, il_110, il_111, il_112, il_114, il_115, il_116, il_117, il_119, il_122, il_127, il_128, il_200, il_225, il_255, il_256, il_999, il_1575, il_9999, il_65536, il_252645135, il_858993459, il_1431655765, o1, jo_b, gd_e hsh, hby p (by omega)]
          rw [if_pos (by omega)]
          by_cases w : bb < ro_sm (ro_tm (a.2) (al_S a) d (ro_m r) f) (p + 1)
          · rw [if_pos (by omega)]
            obtain ⟨g1, g2⟩ := go p (by omega) hle w
            simp (maxSteps := 3000000) (implicitDefEqProofs := false) (disch := omega) only [jl_e, jn_e, bd_e, gd_t, iI_add, iI_sub, iI_mul, iI_neg, if_true, if_false, not_true_eq_false, not_false_eq_true, Int.reduceEq, Nat.add_zero, Int.toNat_natCast, iI_cl, iI_lt, iI_eq, gd_in, bI_eq0, bI_eq1, bI_isB, isB_0, isB_1, il_0, il_1, il_2, il_3, il_4, il_5, il_6, il_7, il_8, il_9, il_10, il_12, il_16, il_18, il_24, il_27, il_30, il_31, il_32, il_40, il_47, il_48, il_49, il_55, il_56, il_57, il_59, il_63, il_64, il_96, il_97, il_98, il_99, il_101, il_103, il_104, il_105, il_108, il_109, il_110, il_111, il_112, il_114, il_115, il_116, il_117, il_119, il_122, il_127, il_128, il_200, il_225, il_255, il_256, il_999, il_1575, il_9999, il_65536, il_252645135, il_858993459, il_1431655765, o1, jo_b, gd_e hsh, g1, ms_shl p (by omega), ms_or]
            exact g2
          · rw [if_neg (by omega)]
            exact jh zp _ _ (iI_cg (by omega)) (iI_cg (by omega)) (by omega)
        · have e6 : p = 6 := by omega
          subst e6
          obtain ⟨g1, g2⟩ := go 6 (by omega) hle i10
          simp (maxSteps := 3000000) (implicitDefEqProofs := false) (disch := omega) only [jl_e, jn_e, bd_e, gd_t, iI_add, iI_sub, iI_mul, iI_neg, if_true, if_false, not_true_eq_false, not_false_eq_true, Int.reduceEq, Nat.add_zero, Int.toNat_natCast, iI_cl, iI_lt, iI_eq, gd_in, bI_eq0, bI_eq1, bI_isB, isB_0, isB_1, il_0, il_1, il_2, il_3, il_4, il_5, il_6, il_7, il_8, il_9, il_10, il_12, il_16, il_18, il_24, il_27, il_30, il_31, il_32, il_40, il_47, il_48, il_49, il_55, il_56, il_57, il_59, il_63, il_64, il_96, il_97, il_98, il_99, il_101, il_103, il_104, il_105, il_108, il_109, il_110, il_111, il_112, il_114, il_115, il_116, il_117, il_119, il_122, il_127, il_128, il_200, il_225, il_255, il_256, il_999, il_1575, il_9999, il_65536, il_252645135, il_858993459, il_1431655765]
          rw [if_neg (by omega)]
          (try simp (maxSteps := 3000000) (implicitDefEqProofs := false) (disch := omega) only [jl_e, jn_e, bd_e, gd_t, iI_add, iI_sub, iI_mul, iI_neg, if_true, if_false, not_true_eq_false, not_false_eq_true, Int.reduceEq, Nat.add_zero, Int.toNat_natCast, iI_cl, iI_lt, iI_eq, gd_in, bI_eq0, bI_eq1, bI_isB, isB_0, isB_1, il_0, il_1, il_2, il_3, il_4, il_5, il_6, il_7, il_8, il_9, il_10, il_12, il_16, il_18, il_24, il_27, il_30, il_31, il_32, il_40, il_47, il_48, il_49, il_55, il_56, il_57, il_59, il_63, il_64, il_96, il_97, il_98, il_99, il_101, il_103, il_104, il_105, il_108, il_109, il_110, il_111, il_112, il_114, il_115, il_116, il_117, il_119, il_122, il_127, il_128, il_200, il_225, il_255, il_256, il_999, il_1575, il_9999, il_65536, il_252645135, il_858993459, il_1431655765, o1, jo_b, gd_e hsh])
          have g1' : F_X7_freeBehind b (iI ((6 : Nat) : Int)) (iI f) h = some (iI ((ro_f (ro_w a.2 6) f + 1 : Nat) : Int), h) := g1
          rw [g1', bd_e, ← ms_or, ← ms_shl 6 (by omega)] at *
          exact g2
      · have ej : j = i + 1 := by omega
        subst i3 i6
        have i4' := i4 (by omega)
        subst i4'
        simp (maxSteps := 3000000) (implicitDefEqProofs := false) (disch := omega) only [jl_e, jn_e, bd_e, gd_t, iI_add, iI_sub, iI_mul, iI_neg, if_true, if_false, not_true_eq_false, not_false_eq_true, Int.reduceEq, Nat.add_zero, Int.toNat_natCast, iI_cl, iI_lt, iI_eq, gd_in, bI_eq0, bI_eq1, bI_isB, isB_0, isB_1, il_0, il_1, il_2, il_3, il_4, il_5, il_6, il_7, il_8, il_9, il_10, il_12, il_16, il_18, il_24, il_27, il_30, il_31, il_32, il_40, il_47, il_48, il_49, il_55, il_56, il_57, il_59, il_63, il_64, il_96, il_97, il_98, il_99, il_101, il_103, il_104, il_105, il_108, il_109, il_110, il_111, il_112, il_114, il_115, il_116, il_117, il_119, il_122, il_127, il_128, il_200, il_225, il_255, il_256, il_999, il_1575, il_9999, il_65536, il_252645135, il_858993459, il_1431655765]
        rw [if_pos (by omega)]
        have hmem : row ∈ ro_en (al_S a).testBit (ro_C (a.2) (al_S a).testBit) (ro_ct (al_S a) - j) r := List.mem_of_getElem? i11
        obtain ⟨u, e1, -⟩ := (ro_en_C (ro_ct (al_S a) - j) r row (by rw [i8]; rfl)).1 hmem
        rw [e1, show j - 1 = i by omega]
        have : (r ++ u).getD i 0 = r.getD i 0 := by
          rw [List.getD_eq_getElem?_getD, List.getD_eq_getElem?_getD, List.getElem?_append_left (by omega)]
        rw [this]
    · rw [if_neg (by omega), if_neg (show ¬ (k < (ro_rows (a.2) (al_S a)).length ∧ i < a.1) from fun w => c2 w.2)]
  · rw [if_neg (by omega), if_neg (show ¬ (k < (ro_rows (a.2) (al_S a)).length ∧ i < a.1) from fun w => c1 w.1)]
