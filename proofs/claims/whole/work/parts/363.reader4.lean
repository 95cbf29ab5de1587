-- ===== the class's reader: the draft =====
def al_0 : Alb := ((24, 4, 5), [], [], [])
theorem al_0_ok : al_ok al_0 := ⟨by unfold su_ok; decide, Nat.zero_le _, Nat.zero_le _, fun i hi => absurd hi (Nat.not_lt_zero i), fun i hi => absurd hi (Nat.not_lt_zero i), ⟨⟨fun i j hi => absurd hi (Nat.not_lt_zero i), fun i hi => absurd hi (Nat.not_lt_zero i)⟩, fun i hi => absurd hi (Nat.not_lt_zero i)⟩⟩
theorem c_aclear (h : Hp) : ∃ h', F_X0_clear 13 h = some ((), h') ∧ AlC 13 h' al_0 := by
  obtain ⟨h1, e1, p1⟩ := c_pclear 15 (sS (sS (sS (sS (sS h 832 0) 833 0) 896 24) 897 4) 898 5)
  have f := fr_X5_clear _ _ _ _ e1
  refine ⟨h1, ?_, al_0_ok, ?_, ?_, ⟨?_, ?_, ?_, by decide⟩, p1, fun i hi => absurd hi (Nat.not_lt_zero i), fun i hi => absurd hi (Nat.not_lt_zero i)⟩
  · unfold F_X0_clear F_X9_clear F_X9_become
    rw [jl_e, jl_e, jl_e, jl_e, jl_e, bd_e, bd_e]
    show bd (F_X5_clear 15 (sS (sS (sS (sS (sS h 832 0) 833 0) 896 24) 897 4) 898 5)) _ = _
    rw [e1]
    rfl
  · exact (f.sg (by decide)).trans rfl
  · exact (f.sg (by decide)).trans rfl
  · exact (f.sg (by decide)).trans rfl
  · exact (f.sg (by decide)).trans rfl
  · exact (f.sg (by decide)).trans rfl
theorem c_acopy {t a : Nat} {h : Hp} {x : Alb} (q : AlC a h x) (n : a + 9 ≤ t ∨ t + 9 ≤ a) : ∃ h', F_X0_copyFrom t a h = some ((), h') ∧ AlC t h' x := by
  obtain ⟨a0, a1, a2, ⟨s1, s2, s3, s4⟩, p, w, kd⟩ := q
  have e7 : cpB (0 : Int32) (0 : Int32) (7 : Int32) 7 7 = true := by decide
  have e6 : cpB (0 : Int32) (0 : Int32) (6 : Int32) 6 6 = true := by decide
  have z0 : (0 : Int32).toNatClampNeg = 0 := by decide
  have z7 : (7 : Int32).toNatClampNeg = 7 := by decide
  have z6 : (6 : Int32).toNatClampNeg = 6 := by decide
  have hw := a0.2.1
  have hk := a0.2.2.1
  unfold F_X0_copyFrom F_X9_become
  simp (disch := omega) only [jl_e, bd_e, gd_e e7, gd_e e6, z0, z7, z6, Nat.add_zero, sG_sS_s, sG_sS_n, a1, a2, s1, s2, s3]
  have f4 : FrX [64 * t, 64 * t + 1, 64 * (t + 1), 64 * (t + 1) + 1, 64 * (t + 1) + 2] [] h (sS (sS (sS (sS (sS h (64 * t) (iI (al_w x).length)) (64 * t + 1) (iI (al_k x).length)) (64 * (t + 1)) (iI (al_n x))) (64 * (t + 1) + 1) (iI (al_g x))) (64 * (t + 1) + 2) (iI (al_l x))) := (((((FrX.refl _ _ h).sS (by simp) _).sS (by simp) _).sS (by simp) _).sS (by simp) _).sS (by simp) _
  have p4 := p.fr f4 (by simp only [List.mem_cons, List.not_mem_nil, or_false]; omega) (by simp) (by simp) (by simp) (by simp)
  have r0 : sG (sS (sS (sS (sS (sS h (64 * t) (iI (al_w x).length)) (64 * t + 1) (iI (al_k x).length)) (64 * (t + 1)) (iI (al_n x))) (64 * (t + 1) + 1) (iI (al_g x))) (64 * (t + 1) + 2) (iI (al_l x))) (64 * t) = iI (al_w x).length := by simp (disch := omega) only [sG_sS_s, sG_sS_n]
  have r1 : sG (sS (sS (sS (sS (sS h (64 * t) (iI (al_w x).length)) (64 * t + 1) (iI (al_k x).length)) (64 * (t + 1)) (iI (al_n x))) (64 * (t + 1) + 1) (iI (al_g x))) (64 * (t + 1) + 2) (iI (al_l x))) (64 * t + 1) = iI (al_k x).length := by simp (disch := omega) only [sG_sS_s, sG_sS_n]
  have r2 : sG (sS (sS (sS (sS (sS h (64 * t) (iI (al_w x).length)) (64 * t + 1) (iI (al_k x).length)) (64 * (t + 1)) (iI (al_n x))) (64 * (t + 1) + 1) (iI (al_g x))) (64 * (t + 1) + 2) (iI (al_l x))) (64 * (t + 1)) = iI (al_n x) := by simp (disch := omega) only [sG_sS_s, sG_sS_n]
  have r3 : sG (sS (sS (sS (sS (sS h (64 * t) (iI (al_w x).length)) (64 * t + 1) (iI (al_k x).length)) (64 * (t + 1)) (iI (al_n x))) (64 * (t + 1) + 1) (iI (al_g x))) (64 * (t + 1) + 2) (iI (al_l x))) (64 * (t + 1) + 1) = iI (al_g x) := by simp (disch := omega) only [sG_sS_s, sG_sS_n]
  have r4 : sG (sS (sS (sS (sS (sS h (64 * t) (iI (al_w x).length)) (64 * t + 1) (iI (al_k x).length)) (64 * (t + 1)) (iI (al_n x))) (64 * (t + 1) + 1) (iI (al_g x))) (64 * (t + 1) + 2) (iI (al_l x))) (64 * (t + 1) + 2) = iI (al_l x) := sG_sS_s ..
  generalize sS (sS (sS (sS (sS h (64 * t) (iI (al_w x).length)) (64 * t + 1) (iI (al_k x).length)) (64 * (t + 1)) (iI (al_n x))) (64 * (t + 1) + 1) (iI (al_g x))) (64 * (t + 1) + 2) (iI (al_l x)) = h4 at f4 p4 r0 r1 r2 r3 r4 ⊢
  obtain ⟨h5, e5, p5⟩ := c_pcopy (t := t + 2) (a := a + 2) p4 (by omega)
  have f5 := fr_X5_copyFrom _ _ _ _ _ e5
  rw [e5, bd_e]
  have g : ∀ v, v ≠ 64 * (t + 2) → sG h5 v = sG h4 v := fun v z => f5.sg (by simpa using z)
  have f6 : FrX [] [t + 7, t + 8] h5 (aV (aV h5 (t + 7) (va_cpy (aF h5 (a + 7)) (aF h5 (t + 7)) 0 0 7)) (t + 8) (va_cpy (aF (aV h5 (t + 7) (va_cpy (aF h5 (a + 7)) (aF h5 (t + 7)) 0 0 7)) (a + 8)) (aF (aV h5 (t + 7) (va_cpy (aF h5 (a + 7)) (aF h5 (t + 7)) 0 0 7)) (t + 8)) 0 0 6)) := ((FrX.refl _ _ h5).aV (by simp) _).aV (by simp) _
  have aw : ∀ i, aG h5 (a + 7) i = aG h (a + 7) i := fun i => (f5.ag (by simp only [List.mem_cons, List.not_mem_nil, or_false]; omega) i).trans (f4.ag (by simp) i)
  have ak : ∀ i, aG h5 (a + 8) i = aG h (a + 8) i := fun i => (f5.ag (by simp only [List.mem_cons, List.not_mem_nil, or_false]; omega) i).trans (f4.ag (by simp) i)
  refine ⟨_, rfl, a0, ?_, ?_, ⟨?_, ?_, ?_, s4⟩, ?_, fun i hi => ?_, fun i hi => ?_⟩
  · exact (f6.sg (by simp)).trans ((g _ (by omega)).trans r0)
  · exact (f6.sg (by simp)).trans ((g _ (by omega)).trans r1)
  · exact (f6.sg (by simp)).trans ((g _ (by omega)).trans r2)
  · exact (f6.sg (by simp)).trans ((g _ (by omega)).trans r3)
  · exact (f6.sg (by simp)).trans ((g _ (by omega)).trans r4)
  · exact p5.fr f6 (by simp) (by simp) (by simp) (by simp) (by simp)
  · rw [← w i hi, ← aw i]
    simp (disch := omega) only [aG_aS_s, aG_aS_j, aG_aS_k, aG_aV_s, aG_aV_k, aG_sS, aG_lS, aG_lV, aG_tS, aG_oS, sG_aS, sG_lS, sG_aV, sG_lV, sG_tS, sG_oS, sG_sS_s, sG_sS_n, lG_lS_s, lG_lS_j, lG_lS_k, lG_lV_s, lG_lV_k, lG_sS, lG_aS, lG_aV, lG_tS, lG_oS, tG_sS, tG_aS, tG_aV, tG_lS, tG_lV, tG_tS_s, tG_tS_n, oG_sS, oG_aS, oG_aV, oG_lS, oG_lV, oG_oS_s, pk_cpy_in, Nat.zero_add, Nat.sub_zero, aF_aV_n, aF_sS]
    rfl
  · rw [← kd i hi, ← ak i]
    simp (disch := omega) only [aG_aS_s, aG_aS_j, aG_aS_k, aG_aV_s, aG_aV_k, aG_sS, aG_lS, aG_lV, aG_tS, aG_oS, sG_aS, sG_lS, sG_aV, sG_lV, sG_tS, sG_oS, sG_sS_s, sG_sS_n, lG_lS_s, lG_lS_j, lG_lS_k, lG_lV_s, lG_lV_k, lG_sS, lG_aS, lG_aV, lG_tS, lG_oS, tG_sS, tG_aS, tG_aV, tG_lS, tG_lV, tG_tS_s, tG_tS_n, oG_sS, oG_aS, oG_aV, oG_lS, oG_lV, oG_oS_s, pk_cpy_in, Nat.zero_add, Nat.sub_zero, aF_aV_n, aF_sS]
    rfl
