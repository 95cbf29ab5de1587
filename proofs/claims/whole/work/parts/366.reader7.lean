-- ===== the class's reader: the pieces =====
def al_put (a : Alb) (k v s : Nat) : Alb := al_set a (pc_put (al_p a) k v s)
theorem c_dput {h : Hp} {T : List Nat} {p : Nat} {a : Alb} (q : RdC h T p a) {b m v s : Nat} (hb : b < (al_w a).length) (hm : m < 2 + (al_k a).length) (hv : v ≤ al_most a m) (hs : s ≤ al_msl m) : ∃ h', F_X5_put 15 (iI b) (iI m) (iI v) (iI s) h = some ((), h') ∧ RdC h' T p (al_put a (8 * b + m) v s) := by
  obtain ⟨t1, t2, ⟨a0, a1, a2, ⟨s1, s2, s3, s4⟩, a4, a5, a6⟩, hp⟩ := q
  have hnp := a0.2.1
  have hnt := a0.2.2.1
  have m1 := al_most_le a m
  have m2 := al_msl_le m
  obtain ⟨h1, e1, p1⟩ := c_put a4 (a := (b : Int)) (b := (m : Int)) (v := v) (s := s) (by omega) (by omega) (by omega) (by omega)
  have f := fr_X5_put _ _ _ _ _ _ _ _ e1
  rw [show ((b : Int) * 8 + (m : Int)).toNat = 8 * b + m by omega] at p1
  refine ⟨h1, e1, t1.fr f (by decide) (by decide), t2.fr f (by decide) (by decide) (by decide), ⟨al_ok_set a0 (pa_put a0.2.2.2.2.2 hb hnp hm hnt hv hs), ?_, ?_, ⟨?_, ?_, ?_, s4⟩, p1, fun i hi => ?_, fun i hi => ?_⟩, hp⟩
  · exact (f.sg (by decide)).trans a1
  · exact (f.sg (by decide)).trans a2
  · exact (f.sg (by decide)).trans s1
  · exact (f.sg (by decide)).trans s2
  · exact (f.sg (by decide)).trans s3
  · exact (f.ag (by decide) i).trans (a5 i hi)
  · exact (f.ag (by decide) i).trans (a6 i hi)
def rd_shadow (m : Nat) (T : List Nat) (p : Nat) (a : Alb) : Bool × Nat × Alb :=
  if nok T (nx T p) 0 ((al_w a).length - 1) then (if nok T (nx T (nx T p)) 0 (al_most a m) then (if nok T (nx T (nx T (nx T p))) 0 (al_msl m) then (true, nx T (nx T (nx T (nx T p))), al_put a (8 * nv T (nx T p) + m) (nv T (nx T (nx T p))) (nv T (nx T (nx T (nx T p))))) else (false, nx T (nx T (nx T p)), a)) else (false, nx T (nx T p), a)) else (false, nx T p, a)
theorem c_rdShadow {h : Hp} {T : List Nat} (tb : TB T) {p : Nat} {a : Alb} (q : RdC h T p a) {m : Nat} (hm : m < 2) : ∃ h', F_X6_readShadow (iI m) h = some (bI ((rd_shadow m T p a).1 = true), h') ∧ RdC h' T (rd_shadow m T p a).2.1 (rd_shadow m T p a).2.2 := by
  have hnp := q.2.2.1.1.2.1
  have m1 := al_most_le a m
  have m2 := al_msl_le m
  unfold F_X6_readShadow rd_shadow
  obtain ⟨h1, e1, q1⟩ := c_stepR tb q
  have w1 : sG h1 832 = iI (al_w a).length := q1.2.2.1.2.1
  have w2 : iI ((al_w a).length : Int) - (1 : Int32) = iI (((al_w a).length : Int) - 1) := by
    show _ - iI 1 = _
    rw [iI_sub]
  rw [e1, bd_e, w1, w2]
  have n1 := c_numR tb q1 (lo := 0) (hi := ((al_w a).length : Int) - 1) (by omega) (by omega)
  by_cases c1 : nok T (nx T p) 0 (((al_w a).length : Int) - 1) = true
  · obtain ⟨h2, e2, v2, q2⟩ := n1.1 c1
    have e2' : F_X6_readNumber (0 : Int32) (iI (((al_w a).length : Int) - 1)) h1 = some (1, h2) := e2
    have mv := c_mostValue q2.2.2.1 (m := (m : Int)) (by omega)
    rw [Int.toNat_natCast] at mv
    rw [e2', bd_e, if_neg (by decide), jl_e, if_pos c1, v2, mv, bd_e]
    have n2 := c_numR tb q2 (lo := 0) (hi := (al_most a m : Int)) (by omega) (by omega)
    by_cases c2 : nok T (nx T (nx T p)) 0 (al_most a m : Int) = true
    · obtain ⟨h3, e3, v3, q3⟩ := n2.1 c2
      have e3' : F_X6_readNumber (0 : Int32) (iI (al_most a m : Int)) h2 = some (1, h3) := e3
      rw [e3', bd_e, if_neg (by decide), jl_e, if_pos c2, v3, c_mostSlack (by omega), bd_e]
      have n3 := c_numR tb q3 (lo := 0) (hi := (al_msl m : Int)) (by omega) (by omega)
      by_cases c3 : nok T (nx T (nx T (nx T p))) 0 (al_msl m : Int) = true
      · obtain ⟨h4, e4, v4, q4⟩ := n3.1 c3
        have e4' : F_X6_readNumber (0 : Int32) (iI (al_msl m : Int)) h3 = some (1, h4) := e4
        have b1 := nb_p c1
        have b2 := nb_p c2
        have b3 := nb_p c3
        rw [e4', bd_e, if_neg (by decide), v4, if_pos c3]
        obtain ⟨h5, e5, q5⟩ := c_dput q4 (b := tk_n T (tk_s T (nx T p))) (m := m) (v := tk_n T (tk_s T (nx T (nx T p)))) (s := tk_n T (tk_s T (nx T (nx T (nx T p))))) (by omega) (by omega) (by omega) (by omega)
        rw [e5, bd_e]
        exact ⟨h5, rfl, q5⟩
      · obtain ⟨h4, e4, q4⟩ := n3.2 c3
        have e4' : F_X6_readNumber (0 : Int32) (iI (al_msl m : Int)) h3 = some (0, h4) := e4
        rw [e4', bd_e, if_pos rfl, if_neg c3]
        exact ⟨h4, rfl, q4⟩
    · obtain ⟨h3, e3, q3⟩ := n2.2 c2
      have e3' : F_X6_readNumber (0 : Int32) (iI (al_most a m : Int)) h2 = some (0, h3) := e3
      rw [e3', bd_e, if_pos rfl, if_neg c2]
      exact ⟨h3, rfl, q3⟩
  · obtain ⟨h2, e2, q2⟩ := n1.2 c1
    have e2' : F_X6_readNumber (0 : Int32) (iI (((al_w a).length : Int) - 1)) h1 = some (0, h2) := e2
    rw [e2', bd_e, if_pos rfl, if_neg c1]
    exact ⟨h2, rfl, q2⟩
def rd_see (T : List Nat) (p : Nat) (a : Alb) : Bool × Nat × Alb :=
  if nok T (nx T p) 0 ((al_w a).length - 1) then (if nok T (nx T (nx T p)) 0 ((al_k a).length - 1) then (if nok T (nx T (nx T (nx T p))) 0 (al_most a (2 + nv T (nx T (nx T p)))) then (true, nx T (nx T (nx T (nx T p))), al_put a (8 * nv T (nx T p) + (2 + nv T (nx T (nx T p)))) (nv T (nx T (nx T (nx T p)))) 0) else (false, nx T (nx T (nx T p)), a)) else (false, nx T (nx T p), a)) else (false, nx T p, a)
theorem c_rdSee {h : Hp} {T : List Nat} (tb : TB T) {p : Nat} {a : Alb} (q : RdC h T p a) : ∃ h', F_X6_readSight h = some (bI ((rd_see T p a).1 = true), h') ∧ RdC h' T (rd_see T p a).2.1 (rd_see T p a).2.2 := by
  have hnp := q.2.2.1.1.2.1
  have hnt := q.2.2.1.1.2.2.1
  unfold F_X6_readSight rd_see
  obtain ⟨h1, e1, q1⟩ := c_stepR tb q
  have w1 : sG h1 832 = iI (al_w a).length := q1.2.2.1.2.1
  have w2 : ∀ n : Nat, iI (n : Int) - (1 : Int32) = iI ((n : Int) - 1) := fun n => by
    show _ - iI 1 = _
    rw [iI_sub]
  rw [e1, bd_e, w1, w2]
  have n1 := c_numR tb q1 (lo := 0) (hi := ((al_w a).length : Int) - 1) (by omega) (by omega)
  by_cases c1 : nok T (nx T p) 0 (((al_w a).length : Int) - 1) = true
  · obtain ⟨h2, e2, v2, q2⟩ := n1.1 c1
    have e2' : F_X6_readNumber (0 : Int32) (iI (((al_w a).length : Int) - 1)) h1 = some (1, h2) := e2
    have w3 : sG h2 833 = iI (al_k a).length := q2.2.2.1.2.2.1
    rw [e2', bd_e, if_neg (by decide), jl_e, if_pos c1, v2, w3, w2]
    have n2 := c_numR tb q2 (lo := 0) (hi := ((al_k a).length : Int) - 1) (by omega) (by omega)
    by_cases c2 : nok T (nx T (nx T p)) 0 (((al_k a).length : Int) - 1) = true
    · obtain ⟨h3, e3, v3, q3⟩ := n2.1 c2
      have e3' : F_X6_readNumber (0 : Int32) (iI (((al_k a).length : Int) - 1)) h2 = some (1, h3) := e3
      have b2 := nb_p c2
      have m1 := al_most_le a (2 + nv T (nx T (nx T p)))
      have ei : (2 : Int32) + iI (tk_n T (tk_s T (nx T (nx T p))) : Int) = iI ((2 + nv T (nx T (nx T p)) : Nat) : Int) := by
        show iI 2 + _ = _
        rw [iI_add]
        exact iI_cg (by unfold nv; omega)
      have mv := c_mostValue q3.2.2.1 (m := ((2 + nv T (nx T (nx T p)) : Nat) : Int)) (by unfold nv; omega)
      rw [Int.toNat_natCast] at mv
      rw [e3', bd_e, if_neg (by decide), v3, ei, jl_e, if_pos c2, mv, bd_e]
      have n3 := c_numR tb q3 (lo := 0) (hi := (al_most a (2 + nv T (nx T (nx T p))) : Int)) (by omega) (by omega)
      by_cases c3 : nok T (nx T (nx T (nx T p))) 0 (al_most a (2 + nv T (nx T (nx T p))) : Int) = true
      · obtain ⟨h4, e4, v4, q4⟩ := n3.1 c3
        have e4' : F_X6_readNumber (0 : Int32) (iI (al_most a (2 + nv T (nx T (nx T p))) : Int)) h3 = some (1, h4) := e4
        have b1 := nb_p c1
        have b3 := nb_p c3
        rw [e4', bd_e, if_neg (by decide), v4, if_pos c3]
        obtain ⟨h5, e5, q5⟩ := c_dput q4 (b := tk_n T (tk_s T (nx T p))) (m := 2 + nv T (nx T (nx T p))) (v := tk_n T (tk_s T (nx T (nx T (nx T p))))) (s := 0) (by omega) (by unfold nv; omega) (by omega) (Nat.zero_le _)
        have e5' : F_X5_put 15 (iI (tk_n T (tk_s T (nx T p)))) (iI ((2 + nv T (nx T (nx T p)) : Nat) : Int)) (iI (tk_n T (tk_s T (nx T (nx T (nx T p)))))) (0 : Int32) h4 = some ((), h5) := e5
        rw [e5', bd_e]
        exact ⟨h5, rfl, q5⟩
      · obtain ⟨h4, e4, q4⟩ := n3.2 c3
        have e4' : F_X6_readNumber (0 : Int32) (iI (al_most a (2 + nv T (nx T (nx T p))) : Int)) h3 = some (0, h4) := e4
        rw [e4', bd_e, if_pos rfl, if_neg c3]
        exact ⟨h4, rfl, q4⟩
    · obtain ⟨h3, e3, q3⟩ := n2.2 c2
      have e3' : F_X6_readNumber (0 : Int32) (iI (((al_k a).length : Int) - 1)) h2 = some (0, h3) := e3
      rw [e3', bd_e, if_pos rfl, if_neg c2]
      exact ⟨h3, rfl, q3⟩
  · obtain ⟨h2, e2, q2⟩ := n1.2 c1
    have e2' : F_X6_readNumber (0 : Int32) (iI (((al_w a).length : Int) - 1)) h1 = some (0, h2) := e2
    rw [e2', bd_e, if_pos rfl, if_neg c1]
    exact ⟨h2, rfl, q2⟩
