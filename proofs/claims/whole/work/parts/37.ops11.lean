-- ===== the class's album =====
def A_album (s : Sta) : Int := if (rd_R s).1 = -1 then ((rd_R s).2.1 : Int) else -4
def N_album (s : Sta) : Sta := if (rd_R s).1 = -1 then ([], (rd_R s).2.2, [], fun _ => none, (fun _ => -1, (st_z s).2.1, (st_z s).2.2)) else s
theorem c_zclear (h : Hp) : ∃ h', F_X8_clear h = some ((), h') ∧ ∀ i : Nat, i < 3 → aG h' 115 i = iI (-1) := by
  unfold F_X8_clear
  simp (maxSteps := 3000000) (implicitDefEqProofs := false) (disch := omega) only [jl_e, jn_e, bd_e, gd_t, iI_add, iI_sub, iI_mul, iI_neg, if_true, if_false, not_true_eq_false, not_false_eq_true, Int.reduceEq, Nat.add_zero, Int.toNat_natCast, iI_cl, iI_lt, iI_eq, gd_in, bI_eq0, bI_eq1, bI_isB, isB_0, isB_1, il_0, il_1, il_2, il_3, il_4, il_5, il_6, il_7, il_8, il_9, il_10, il_12, il_16, il_18, il_24, il_27, il_30, il_31, il_32, il_40, il_47, il_48, il_49, il_55, il_56, il_57, il_59, il_63, il_64, il_96, il_97, il_98, il_99, il_101, il_103, il_104, il_105, il_108, il_109, il_110, il_111, il_112, il_114, il_115, il_116, il_117, il_119, il_122, il_127, il_128, il_200, il_225, il_255, il_256, il_999, il_1575, il_9999, il_65536, il_252645135, il_858993459, il_1431655765, j_fill]
  refine ⟨_, rfl, fun i hi => ?_⟩
  simp (maxSteps := 3000000) (implicitDefEqProofs := false) (disch := omega) only [jl_e, jn_e, bd_e, gd_t, iI_add, iI_sub, iI_mul, iI_neg, if_true, if_false, not_true_eq_false, not_false_eq_true, Int.reduceEq, Nat.add_zero, Int.toNat_natCast, iI_cl, iI_lt, iI_eq, gd_in, bI_eq0, bI_eq1, bI_isB, isB_0, isB_1, il_0, il_1, il_2, il_3, il_4, il_5, il_6, il_7, il_8, il_9, il_10, il_12, il_16, il_18, il_24, il_27, il_30, il_31, il_32, il_40, il_47, il_48, il_49, il_55, il_56, il_57, il_59, il_63, il_64, il_96, il_97, il_98, il_99, il_101, il_103, il_104, il_105, il_108, il_109, il_110, il_111, il_112, il_114, il_115, il_116, il_117, il_119, il_122, il_127, il_128, il_200, il_225, il_255, il_256, il_999, il_1575, il_9999, il_65536, il_252645135, il_858993459, il_1431655765, aG_aS_s, aG_aS_j, aG_aS_k, aG_aV_s, aG_aV_k, aG_sS, aG_lS, aG_lV, aG_tS, aG_oS, sG_aS, sG_lS, sG_aV, sG_lV, sG_tS, sG_oS, sG_sS_s, sG_sS_n, lG_lS_s, lG_lS_j, lG_lS_k, lG_lV_s, lG_lV_k, lG_sS, lG_aS, lG_aV, lG_tS, lG_oS, tG_sS, tG_aS, tG_aV, tG_lS, tG_lV, tG_tS_s, tG_tS_n, oG_sS, oG_aS, oG_aV, oG_lS, oG_lV, oG_oS_s]
  simp only [hi, if_true]
theorem rd_rng (T : List Nat) (hl : T.length ≤ 200) : ∀ (k d p : Nat) (a : Alb), -1 ≤ (rd_go T k d p a).1
  | 0, d, p, a => by
    show (-1 : Int) ≤ (tk_s T p : Int)
    omega
  | k + 1, d, p, a => by
    unfold rd_go
    split
    · split
      · exact Int.le_refl _
      · split
        · exact rd_rng T hl k _ _ _
        · show (-1 : Int) ≤ ((_ : Nat) : Int)
          omega
    · show (-1 : Int) ≤ ((_ : Nat) : Int)
      omega
theorem rd_ite {c : Prop} [Decidable c] {x y : Bool × Nat × Alb} {n : Nat} (hx : x.2.1 ≤ n) (hy : y.2.1 ≤ n) : (if c then x else y).2.1 ≤ n := by
  by_cases h : c
  · rw [if_pos h]; exact hx
  · rw [if_neg h]; exact hy
theorem rd_cl_le {T : List Nat} {p : Nat} (hp : p ≤ T.length) (a : Alb) : (rd_clause T p a).2.1 ≤ T.length := by
  unfold rd_clause rd_sun rd_picture rd_thing rd_shadow rd_see
  repeat' (refine rd_ite ?_ ?_)
  all_goals first | exact hp | exact nx_le hp | exact nx_le (nx_le hp) | exact nx_le (nx_le (nx_le hp)) | exact nx_le (nx_le (nx_le (nx_le hp)))
theorem rd_le (T : List Nat) : ∀ (k d p : Nat) (a : Alb), p ≤ T.length → (rd_go T k d p a).1 ≤ T.length
  | 0, d, p, a, hp => by
    have := tk_s_le hp
    show (tk_s T p : Int) ≤ T.length
    omega
  | k + 1, d, p, a, hp => by
    have h1 := rd_cl_le hp a
    have h2 := tk_s_le h1
    unfold rd_go
    split
    · split
      · show (-1 : Int) ≤ T.length
        omega
      · split
        · exact rd_le T k _ _ _ (nx_le h1)
        · show (tk_s T (rd_clause T p a).2.1 : Int) ≤ T.length
          omega
    · show (tk_s T (rd_clause T p a).2.1 : Int) ≤ T.length
      omega
theorem C_album {h : Hp} {s : Sta} (q : JC h s) : ∃ h', F_X11_album h = some (iI (A_album s), h') ∧ JC h' (N_album s) := by
  obtain ⟨h1, e1, k⟩ := c_rdAll q.1.1 q.2.1 q.2.2.1
  have f1 := fr_X6_read _ _ _ _ e1
  have lo := rd_rng (st_t s) q.1.1.1 24 0 0 (st_a s)
  have up : (rd_R s).1 ≤ (st_t s).length := rd_le (st_t s) 24 0 0 (st_a s) (Nat.zero_le _)
  have l2 := q.1.1.1
  have ie : (iI (rd_R s).1 = (-1 : Int32)) = ((rd_R s).1 = -1) := by
    show (iI (rd_R s).1 = iI (-1)) = _
    have lo' : -1 ≤ (rd_R s).1 := lo
    exact iI_eq (by omega) (by omega) (by omega) (by omega)
  have e1' : F_X6_read 3 h = some (iI (rd_R s).1, h1) := e1
  unfold F_X11_album A_album N_album
  rw [e1', bd_e]
  by_cases c : (rd_R s).1 = -1
  · obtain ⟨a13, n1⟩ := k c
    have a13 : AlC 13 h1 (rd_R s).2.2 := a13
    have n1 : sG h1 769 = iI (rd_R s).2.1 := n1
    obtain ⟨h2, e2, a3⟩ := c_acopy (t := 3) a13 (Or.inr (by omega))
    have f2 := fr_X0_copyFrom _ _ _ _ _ e2
    have e3 : F_X10_clear h2 = some (sG h2 64, sS h2 64 0) := rfl
    have f3 := fr_X10_clear _ _ _ e3
    have e4 : F_X2_clear (sS h2 64 0) = some ((), sS (sS (sS h2 64 0) 1408 0) 1412 0) := rfl
    have f4 := fr_X2_clear _ _ _ e4
    obtain ⟨h5, e5, z5⟩ := c_zclear (sS (sS (sS h2 64 0) 1408 0) 1412 0)
    have f5 := fr_X8_clear _ _ _ e5
    obtain ⟨h6, e6, ca⟩ := c_forget h5
    have f6 := fr_X11_forgetFindings _ _ _ e6
    rw [if_pos (by rw [ie]; exact c), if_pos c, if_pos c, e2, bd_e, e3, bd_e, e4, bd_e, e5, bd_e, e6, bd_e]
    have n6 : sG h6 769 = iI (rd_R s).2.1 := (f6.sg (by decide)).trans ((f5.sg (by decide)).trans ((f4.sg (by decide)).trans ((f3.sg (by decide)).trans ((f2.sg (by decide)).trans n1))))
    rw [n6]
    obtain ⟨-, f, hf, hh, -⟩ := q.2.2.2.1
    refine ⟨h6, rfl, ⟨⟨Nat.zero_le _, fun i hi => absurd hi (Nat.not_lt_zero i)⟩, a13.1, ⟨Nat.zero_le _, fun i hi => absurd hi (Nat.not_lt_zero i)⟩, fun k L z => (by cases z), fun i hi => ⟨show (-1 : Int) ≤ -1 by decide, show (-1 : Int) ≤ 8 by decide⟩⟩, ⟨?_, fun i hi => absurd hi (Nat.not_lt_zero i)⟩, ?_, ⟨?_, f, hf, ?_, fun i hi => absurd hi (Nat.not_lt_zero i)⟩, ⟨0, by omega, ?_, fun k hk => ⟨fun _ => Nat.zero_testBit k, fun L z => (by cases z)⟩⟩, ⟨fun i hi => ?_, fun i j hi hj hk => ?_, ?_⟩, ca _⟩
    · exact (f6.sg (by decide)).trans ((f5.sg (by decide)).trans rfl)
    · exact (((a3.fr f3 (by decide) (by decide)).fr f4 (by decide) (by decide)).fr f5 (by decide) (by decide)).fr f6 (by decide) (by decide)
    · exact (f6.sg (by decide)).trans ((f5.sg (by decide)).trans rfl)
    · exact (f6.sg (by decide)).trans ((f5.sg (by decide)).trans ((f4.sg (by decide)).trans ((f3.sg (by decide)).trans ((f2.sg (by decide)).trans ((f1.sg (by decide)).trans hh)))))
    · exact (f6.sg (by decide)).trans ((f5.sg (by decide)).trans rfl)
    · exact (f6.ag (by decide) i).trans (z5 i hi)
    · have hk : (j : Int) < -1 := hk
      omega
    · exact (f6.tg (by decide)).trans ((f5.tg (by decide)).trans ((f4.tg (by decide)).trans ((f3.tg (by decide)).trans ((f2.tg (by decide)).trans ((f1.tg (by decide)).trans q.2.2.2.2.2.1.2.2)))))
  · rw [if_neg (by rw [ie]; exact c), if_neg c, if_neg c]
    exact ⟨h1, rfl, q.rd f1 (by decide) (by decide)⟩
