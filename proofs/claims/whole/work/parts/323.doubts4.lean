-- ===== the class's Doubts: ask =====
def AsC (h : Hp) (st : Nat × Int) : Prop := sG h 5825 = iI st.2 ∧ sG h 5826 = iI (if st.2 = -1 then -1 else (st.1 : Int))
theorem al_or_len {a : Alb} (hnp : (al_w a).length ≤ 7) : (al_or a).length ≤ 823543 := by
  have hN : al_N a < 128 := all_lt hnp
  have := ro_total (ρ := al_r a) (S := al_N a) hN al_r_ok
  unfold al_or
  rw [this]
  exact ro_W_lt _ _ _ _ _ (ro_ct_le _ hN)
theorem wo_len {a : Alb} (h : al_ok a) (p t v : Nat) : wo_n a p t v ≤ 823543 := al_or_len (a := al_set a (pc_put (al_p a) (8 * p + (2 + t)) v 0)) h.2.1
theorem ak_t_pos (a : Alb) (p : Nat) : ∀ n st, -1 ≤ st.2 → -1 ≤ (ak_t a p n st).2
  | 0, st, h => h
  | n + 1, st, h => by
    have ih := ak_t_pos a p n st h
    show -1 ≤ (ak_1 a p n (ak_t a p n st)).2
    unfold ak_1
    split
    · dsimp only; omega
    · exact ih
theorem ak_p_pos (a : Alb) : ∀ n, -1 ≤ (ak_p a n).2
  | 0 => by show (-1 : Int) ≤ -1; omega
  | n + 1 => ak_t_pos a n _ _ (ak_p_pos a n)
theorem c_seekAsk {h : Hp} {a : Alb} (hA : AlC 3 h a) (q : RuC 75 h a) (hz : sG h 5831 = iI 0) : ∃ h', F_X1_seekAsk 3 75 (iI (al_or a).length) h = some ((), h') ∧ sG h' 5831 = iI 1 ∧ AsC h' (ak_p a (al_w a).length) := by
  have hnp := hA.1.2.1
  have hnt := hA.1.2.2.1
  have hol := al_or_len hnp
  unfold F_X1_seekAsk
  have hz' : sG h 5831 = 0 := hz
  rw [if_pos hz', jl_e, jl_e, jl_e]
  obtain ⟨h3, e3⟩ : ∃ h3, sS (sS (sS h 5831 (1 : Int32)) 5825 (-1 : Int32)) 5826 (-1 : Int32) = h3 := ⟨_, rfl⟩
  have f3 : FrX [5825, 5826, 5831] [] h h3 := by
    rw [← e3]
    exact (((FrX.refl _ _ h).sS (by decide) _).sS (by decide) _).sS (by decide) _
  have s3 : sG h3 5831 = iI 1 ∧ AsC h3 (ak_p a 0) := by
    rw [← e3]
    unfold AsC ak_p
    simp (maxSteps := 3000000) (implicitDefEqProofs := false) (disch := omega) only [jl_e, jn_e, bd_e, gd_t, iI_add, iI_sub, iI_mul, iI_neg, if_true, if_false, not_true_eq_false, not_false_eq_true, Int.reduceEq, Nat.add_zero, Int.toNat_natCast, iI_cl, iI_lt, iI_eq, gd_in, bI_eq0, bI_eq1, bI_isB, isB_0, isB_1, il_0, il_1, il_2, il_3, il_4, il_5, il_6, il_7, il_8, il_9, il_10, il_12, il_16, il_18, il_24, il_27, il_30, il_31, il_32, il_40, il_47, il_48, il_49, il_55, il_56, il_57, il_59, il_63, il_64, il_96, il_97, il_98, il_99, il_101, il_103, il_104, il_105, il_108, il_109, il_110, il_111, il_112, il_114, il_115, il_116, il_117, il_119, il_122, il_127, il_128, il_200, il_225, il_255, il_256, il_999, il_1575, il_9999, il_65536, il_252645135, il_858993459, il_1431655765, aG_aS_s, aG_aS_j, aG_aS_k, aG_aV_s, aG_aV_k, aG_sS, aG_lS, aG_lV, aG_tS, aG_oS, sG_aS, sG_lS, sG_aV, sG_lV, sG_tS, sG_oS, sG_sS_s, sG_sS_n, lG_lS_s, lG_lS_j, lG_lS_k, lG_lV_s, lG_lV_k, lG_sS, lG_aS, lG_aV, lG_tS, lG_oS, tG_sS, tG_aS, tG_aV, tG_lS, tG_lV, tG_tS_s, tG_tS_n, oG_sS, oG_aS, oG_aV, oG_lS, oG_lV, oG_oS_s]
    exact ⟨trivial, trivial, trivial⟩
  rw [e3]
  refine lp_up (α := Int32 → Int32 → Hp → Option (Unit × Hp)) (P := fun p c7 => ∀ (x y : Int32) (h4 : Hp), x = iI (ak_p a p).1 → y = iI p → AlC 3 h4 a → RuC 75 h4 a → sG h4 5831 = iI 1 → AsC h4 (ak_p a p) → ∃ h', c7 x y h4 = some ((), h') ∧ sG h' 5831 = iI 1 ∧ AsC h' (ak_p a (al_w a).length)) (al_w a).length (by omega) (fun p c7 hp ih => ?_) _ _ h3 rfl rfl (hA.fr f3 (by decide) (by decide)) (q.fr f3 (by decide) (by decide) (by decide) (by decide) (by decide)) s3.1 s3.2
  intro x y h4 hx hy k1 k2 k3 k4
  subst hx hy
  have hlp := ak_p_le a p
  have e192 : sG h4 (64 * 3) = iI (al_w a).length := k1.2.1
  by_cases z : p < (al_w a).length
  · simp (maxSteps := 3000000) (implicitDefEqProofs := false) (disch := omega) only [jl_e, jn_e, bd_e, gd_t, iI_add, iI_sub, iI_mul, iI_neg, if_true, if_false, not_true_eq_false, not_false_eq_true, Int.reduceEq, Nat.add_zero, Int.toNat_natCast, iI_cl, iI_lt, iI_eq, gd_in, bI_eq0, bI_eq1, bI_isB, isB_0, isB_1, il_0, il_1, il_2, il_3, il_4, il_5, il_6, il_7, il_8, il_9, il_10, il_12, il_16, il_18, il_24, il_27, il_30, il_31, il_32, il_40, il_47, il_48, il_49, il_55, il_56, il_57, il_59, il_63, il_64, il_96, il_97, il_98, il_99, il_101, il_103, il_104, il_105, il_108, il_109, il_110, il_111, il_112, il_114, il_115, il_116, il_117, il_119, il_122, il_127, il_128, il_200, il_225, il_255, il_256, il_999, il_1575, il_9999, il_65536, il_252645135, il_858993459, il_1431655765, e192]
    rw [if_pos (by omega)]
    refine lp_up (α := Int32 → Int32 → Hp → Option (Unit × Hp)) (P := fun t c11 => ∀ (x y : Int32) (h5 : Hp), x = iI (ak_t a p t (ak_p a p)).1 → y = iI t → AlC 3 h5 a → RuC 75 h5 a → sG h5 5831 = iI 1 → AsC h5 (ak_t a p t (ak_p a p)) → ∃ h', c11 x y h5 = some ((), h') ∧ sG h' 5831 = iI 1 ∧ AsC h' (ak_p a (al_w a).length)) (al_k a).length (by omega) (fun t c11 ht jh => ?_) _ _ h4 rfl rfl k1 k2 k3 k4
    intro x y h5 hx hy j1 j2 j3 j4
    subst hx hy
    have hlt := ak_t_le a p t (ak_p a p)
    have e193 : sG h5 (64 * 3 + 1) = iI (al_k a).length := j1.2.2.1
    obtain ⟨st, est⟩ : ∃ st, ak_t a p t (ak_p a p) = st := ⟨_, rfl⟩
    rw [est] at hlt j4
    by_cases y : t < (al_k a).length
    · have nxt := jh y
      have es : ak_t a p (t + 1) (ak_p a p) = ak_1 a p t st := by rw [← est]; rfl
      rw [es] at nxt
      have hk3 := j1.1.2.2.2.2.1 t y
      have l0 := wo_len j1.1 p t 0
      have l1 := wo_len j1.1 p t 1
      -- nothing is found here
      have skip : ∀ h6 : Hp, ¬ ((al_kd a t ≠ 3 ∧ th_v a p t = -1) ∧ wo_n a p t 0 < st.1 ∧ wo_n a p t 1 < st.1) → AlC 3 h6 a → RuC 75 h6 a → sG h6 5831 = iI 1 → AsC h6 st → ∃ h', c11 (iI st.1) (iI ((t : Int) + 1)) h6 = some ((), h') ∧ sG h' 5831 = iI 1 ∧ AsC h' (ak_p a (al_w a).length) := by
        intro h6 w i1 i2 i3 i4
        have e1 : ak_1 a p t st = st := if_neg w
        rw [e1] at nxt
        exact nxt _ _ h6 rfl (iI_cg (by omega)) i1 i2 i3 i4
      rw [est]
      rcases c_canNarrow j1 z y with ⟨cn, cp⟩ | ⟨cn, cp⟩
      · have hth : al_kd a t ≠ 3 ∧ th_v a p t = -1 := by
          refine ⟨cp.1, ?_⟩
          have r := th_v_rng j1.1 p t (by omega) (by omega)
          have := cp.2.1
          unfold sg_m at this
          rw [bm_tb, decide_eq_true z, Bool.true_and, decide_eq_true_iff] at this
          omega
        have hmost : al_most a (2 + t) = 1 := by
          unfold al_most
          rw [if_neg (by omega), if_neg (by omega), show 2 + t - 2 = t by omega, if_neg cp.1]
        obtain ⟨h6, c6⟩ := c_ordersWithPiece j1 j2 (p := p) (m := 2 + t) (v := 0) z (by omega) (by omega)
        have f6 := fr_X1_ordersWithPiece _ _ _ _ _ _ _ _ c6
        have c6' : F_X1_ordersWithPiece 3 75 (iI p) (iI (2 + (t : Int))) (iI 0) h5 = some (iI (wo_n a p t 0), h6) := by
          rw [show (2 : Int) + (t : Int) = ((2 + t : Nat) : Int) by omega]
          exact c6
        have i1 : AlC 3 h6 a := j1.fr f6 (by decide) (by decide)
        have i2 : RuC 75 h6 a := j2.fr f6 (by decide) (by decide) (by decide) (by decide) (by decide)
        have i3 : sG h6 5831 = iI 1 := (f6.sg (by decide)).trans j3
        have i4 : AsC h6 st := ⟨(f6.sg (by decide)).trans j4.1, (f6.sg (by decide)).trans j4.2⟩
        simp (maxSteps := 3000000) (implicitDefEqProofs := false) (disch := omega) only [jl_e, jn_e, bd_e, gd_t, iI_add, iI_sub, iI_mul, iI_neg, if_true, if_false, not_true_eq_false, not_false_eq_true, Int.reduceEq, Nat.add_zero, Int.toNat_natCast, iI_cl, iI_lt, iI_eq, gd_in, bI_eq0, bI_eq1, bI_isB, isB_0, isB_1, il_0, il_1, il_2, il_3, il_4, il_5, il_6, il_7, il_8, il_9, il_10, il_12, il_16, il_18, il_24, il_27, il_30, il_31, il_32, il_40, il_47, il_48, il_49, il_55, il_56, il_57, il_59, il_63, il_64, il_96, il_97, il_98, il_99, il_101, il_103, il_104, il_105, il_108, il_109, il_110, il_111, il_112, il_114, il_115, il_116, il_117, il_119, il_122, il_127, il_128, il_200, il_225, il_255, il_256, il_999, il_1575, il_9999, il_65536, il_252645135, il_858993459, il_1431655765, e193, cn, c6']
        rw [if_pos (by omega)]
        by_cases w0 : wo_n a p t 0 < st.1
        · obtain ⟨h7, c7'⟩ := c_ordersWithPiece i1 i2 (p := p) (m := 2 + t) (v := 1) z (by omega) (by omega)
          have f7 := fr_X1_ordersWithPiece _ _ _ _ _ _ _ _ c7'
          have c7'' : F_X1_ordersWithPiece 3 75 (iI p) (iI (2 + (t : Int))) (iI 1) h6 = some (iI (wo_n a p t 1), h7) := by
            rw [show (2 : Int) + (t : Int) = ((2 + t : Nat) : Int) by omega]
            exact c7'
          have m1 : AlC 3 h7 a := i1.fr f7 (by decide) (by decide)
          have m2 : RuC 75 h7 a := i2.fr f7 (by decide) (by decide) (by decide) (by decide) (by decide)
          have m3 : sG h7 5831 = iI 1 := (f7.sg (by decide)).trans i3
          have m4 : AsC h7 st := ⟨(f7.sg (by decide)).trans i4.1, (f7.sg (by decide)).trans i4.2⟩
          have cmx := c_max (x := ((wo_n a p t 0 : Nat) : Int)) (y := ((wo_n a p t 1 : Nat) : Int)) (by omega) (by omega) h7
          have emx : (if ((wo_n a p t 0 : Nat) : Int) ≤ ((wo_n a p t 1 : Nat) : Int) then ((wo_n a p t 1 : Nat) : Int) else ((wo_n a p t 0 : Nat) : Int)) = ((if wo_n a p t 0 ≤ wo_n a p t 1 then wo_n a p t 1 else wo_n a p t 0 : Nat) : Int) := by
            split <;> split <;> omega
          rw [emx] at cmx
          obtain ⟨mx, hmx⟩ : ∃ mx, (if wo_n a p t 0 ≤ wo_n a p t 1 then wo_n a p t 1 else wo_n a p t 0) = mx := ⟨_, rfl⟩
          have hmx2 : mx ≤ 823543 ∧ wo_n a p t 0 ≤ mx ∧ wo_n a p t 1 ≤ mx ∧ (mx = wo_n a p t 0 ∨ mx = wo_n a p t 1) := by
            rw [← hmx]
            split <;> omega
          rw [hmx] at cmx
          simp (maxSteps := 3000000) (implicitDefEqProofs := false) (disch := omega) only [jl_e, jn_e, bd_e, gd_t, iI_add, iI_sub, iI_mul, iI_neg, if_true, if_false, not_true_eq_false, not_false_eq_true, Int.reduceEq, Nat.add_zero, Int.toNat_natCast, iI_cl, iI_lt, iI_eq, gd_in, bI_eq0, bI_eq1, bI_isB, isB_0, isB_1, il_0, il_1, il_2, il_3, il_4, il_5, il_6, il_7, il_8, il_9, il_10, il_12, il_16, il_18, il_24, il_27, il_30, il_31, il_32, il_40, il_47, il_48, il_49, il_55, il_56, il_57, il_59, il_63, il_64, il_96, il_97, il_98, il_99, il_101, il_103, il_104, il_105, il_108, il_109, il_110, il_111, il_112, il_114, il_115, il_116, il_117, il_119, il_122, il_127, il_128, il_200, il_225, il_255, il_256, il_999, il_1575, il_9999, il_65536, il_252645135, il_858993459, il_1431655765, c7'', cmx]
          rw [if_pos (by omega)]
          by_cases w1 : mx < st.1
          · rw [if_pos (by omega)]
            have e1 : ak_1 a p t st = (mx, ((10 * p + (2 + t) : Nat) : Int)) := by
              unfold ak_1
              rw [if_pos ⟨hth, by omega, by omega⟩, hmx]
            rw [e1] at nxt
            refine nxt _ _ _ rfl (iI_cg (by omega)) ?_ ?_ ?_ ?_
            · exact m1.fr (((FrX.refl [5825, 5826] [] h7).sS (by decide) _).sS (by decide) _) (by decide) (by decide)
            · exact m2.fr (((FrX.refl [5825, 5826] [] h7).sS (by decide) _).sS (by decide) _) (by decide) (by decide) (by decide) (by decide) (by decide)
            · simp (maxSteps := 3000000) (implicitDefEqProofs := false) (disch := omega) only [jl_e, jn_e, bd_e, gd_t, iI_add, iI_sub, iI_mul, iI_neg, if_true, if_false, not_true_eq_false, not_false_eq_true, Int.reduceEq, Nat.add_zero, Int.toNat_natCast, iI_cl, iI_lt, iI_eq, gd_in, bI_eq0, bI_eq1, bI_isB, isB_0, isB_1, il_0, il_1, il_2, il_3, il_4, il_5, il_6, il_7, il_8, il_9, il_10, il_12, il_16, il_18, il_24, il_27, il_30, il_31, il_32, il_40, il_47, il_48, il_49, il_55, il_56, il_57, il_59, il_63, il_64, il_96, il_97, il_98, il_99, il_101, il_103, il_104, il_105, il_108, il_109, il_110, il_111, il_112, il_114, il_115, il_116, il_117, il_119, il_122, il_127, il_128, il_200, il_225, il_255, il_256, il_999, il_1575, il_9999, il_65536, il_252645135, il_858993459, il_1431655765, aG_aS_s, aG_aS_j, aG_aS_k, aG_aV_s, aG_aV_k, aG_sS, aG_lS, aG_lV, aG_tS, aG_oS, sG_aS, sG_lS, sG_aV, sG_lV, sG_tS, sG_oS, sG_sS_s, sG_sS_n, lG_lS_s, lG_lS_j, lG_lS_k, lG_lV_s, lG_lV_k, lG_sS, lG_aS, lG_aV, lG_tS, lG_oS, tG_sS, tG_aS, tG_aV, tG_lS, tG_lV, tG_tS_s, tG_tS_n, oG_sS, oG_aS, oG_aV, oG_lS, oG_lV, oG_oS_s]
              exact m3
            · unfold AsC
              dsimp only
              simp (maxSteps := 3000000) (implicitDefEqProofs := false) (disch := omega) only [jl_e, jn_e, bd_e, gd_t, iI_add, iI_sub, iI_mul, iI_neg, if_true, if_false, not_true_eq_false, not_false_eq_true, Int.reduceEq, Nat.add_zero, Int.toNat_natCast, iI_cl, iI_lt, iI_eq, gd_in, bI_eq0, bI_eq1, bI_isB, isB_0, isB_1, il_0, il_1, il_2, il_3, il_4, il_5, il_6, il_7, il_8, il_9, il_10, il_12, il_16, il_18, il_24, il_27, il_30, il_31, il_32, il_40, il_47, il_48, il_49, il_55, il_56, il_57, il_59, il_63, il_64, il_96, il_97, il_98, il_99, il_101, il_103, il_104, il_105, il_108, il_109, il_110, il_111, il_112, il_114, il_115, il_116, il_117, il_119, il_122, il_127, il_128, il_200, il_225, il_255, il_256, il_999, il_1575, il_9999, il_65536, il_252645135, il_858993459, il_1431655765, aG_aS_s, aG_aS_j, aG_aS_k, aG_aV_s, aG_aV_k, aG_sS, aG_lS, aG_lV, aG_tS, aG_oS, sG_aS, sG_lS, sG_aV, sG_lV, sG_tS, sG_oS, sG_sS_s, sG_sS_n, lG_lS_s, lG_lS_j, lG_lS_k, lG_lV_s, lG_lV_k, lG_sS, lG_aS, lG_aV, lG_tS, lG_oS, tG_sS, tG_aS, tG_aV, tG_lS, tG_lV, tG_tS_s, tG_tS_n, oG_sS, oG_aS, oG_aV, oG_lS, oG_lV, oG_oS_s]
              rw [if_neg (by omega)]
              refine ⟨?_, ?_⟩
              · first | omega | exact iI_cg (by omega)
              · first | rfl | trivial
          · rw [if_neg (by omega)]
            exact skip h7 (fun w => by omega) m1 m2 m3 m4
        · rw [if_neg (by omega)]
          exact skip h6 (fun w => w0 w.2.1) i1 i2 i3 i4
      · simp (maxSteps := 3000000) (implicitDefEqProofs := false) (disch := omega) only [jl_e, jn_e, bd_e, gd_t, iI_add, iI_sub, iI_mul, iI_neg, if_true, if_false, not_true_eq_false, not_false_eq_true, Int.reduceEq, Nat.add_zero, Int.toNat_natCast, iI_cl, iI_lt, iI_eq, gd_in, bI_eq0, bI_eq1, bI_isB, isB_0, isB_1, il_0, il_1, il_2, il_3, il_4, il_5, il_6, il_7, il_8, il_9, il_10, il_12, il_16, il_18, il_24, il_27, il_30, il_31, il_32, il_40, il_47, il_48, il_49, il_55, il_56, il_57, il_59, il_63, il_64, il_96, il_97, il_98, il_99, il_101, il_103, il_104, il_105, il_108, il_109, il_110, il_111, il_112, il_114, il_115, il_116, il_117, il_119, il_122, il_127, il_128, il_200, il_225, il_255, il_256, il_999, il_1575, il_9999, il_65536, il_252645135, il_858993459, il_1431655765, e193, cn]
        rw [if_pos (by omega)]
        exact skip h5 (cn_skip j1.1 z y (by omega) cp) j1 j2 j3 j4
    · simp (maxSteps := 3000000) (implicitDefEqProofs := false) (disch := omega) only [jl_e, jn_e, bd_e, gd_t, iI_add, iI_sub, iI_mul, iI_neg, if_true, if_false, not_true_eq_false, not_false_eq_true, Int.reduceEq, Nat.add_zero, Int.toNat_natCast, iI_cl, iI_lt, iI_eq, gd_in, bI_eq0, bI_eq1, bI_isB, isB_0, isB_1, il_0, il_1, il_2, il_3, il_4, il_5, il_6, il_7, il_8, il_9, il_10, il_12, il_16, il_18, il_24, il_27, il_30, il_31, il_32, il_40, il_47, il_48, il_49, il_55, il_56, il_57, il_59, il_63, il_64, il_96, il_97, il_98, il_99, il_101, il_103, il_104, il_105, il_108, il_109, il_110, il_111, il_112, il_114, il_115, il_116, il_117, il_119, il_122, il_127, il_128, il_200, il_225, il_255, il_256, il_999, il_1575, il_9999, il_65536, il_252645135, il_858993459, il_1431655765, e193]
      rw [if_neg (by omega)]
      have et : t = (al_k a).length := by omega
      have es : ak_p a (p + 1) = st := by rw [← est, et]; rfl
      have nxt := ih z
      rw [es] at nxt
      rw [est]
      exact nxt _ _ h5 rfl (iI_cg (by omega)) j1 j2 j3 j4
  · simp (maxSteps := 3000000) (implicitDefEqProofs := false) (disch := omega) only [jl_e, jn_e, bd_e, gd_t, iI_add, iI_sub, iI_mul, iI_neg, if_true, if_false, not_true_eq_false, not_false_eq_true, Int.reduceEq, Nat.add_zero, Int.toNat_natCast, iI_cl, iI_lt, iI_eq, gd_in, bI_eq0, bI_eq1, bI_isB, isB_0, isB_1, il_0, il_1, il_2, il_3, il_4, il_5, il_6, il_7, il_8, il_9, il_10, il_12, il_16, il_18, il_24, il_27, il_30, il_31, il_32, il_40, il_47, il_48, il_49, il_55, il_56, il_57, il_59, il_63, il_64, il_96, il_97, il_98, il_99, il_101, il_103, il_104, il_105, il_108, il_109, il_110, il_111, il_112, il_114, il_115, il_116, il_117, il_119, il_122, il_127, il_128, il_200, il_225, il_255, il_256, il_999, il_1575, il_9999, il_65536, il_252645135, il_858993459, il_1431655765, e192]
    rw [if_neg (by omega)]
    refine ⟨_, rfl, k3, ?_⟩
    rw [show (al_w a).length = p by omega]
    exact k4
