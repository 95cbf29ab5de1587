-- ===== the class's reader: the clauses =====
def nx (T : List Nat) (p : Nat) : Nat := tk_e T (tk_s T p)
def TB (T : List Nat) : Prop := T.length ≤ 200 ∧ ∀ i, i < T.length → T.getD i 0 ≤ 255
def RdC (h : Hp) (T : List Nat) (p : Nat) (a : Alb) : Prop := TxC h T ∧ TkC h T p ∧ AlC 13 h a ∧ p ≤ T.length
theorem nx_le {T : List Nat} {p : Nat} (hp : p ≤ T.length) : nx T p ≤ T.length := (tk_e_le (tk_s_le hp).2).2
theorem c_stepR {h : Hp} {T : List Nat} (tb : TB T) {p : Nat} {a : Alb} (q : RdC h T p a) : ∃ h', F_X6_step h = some ((), h') ∧ RdC h' T (nx T p) a := by
  obtain ⟨q1, q2, q3, hp⟩ := q
  obtain ⟨h', e, k⟩ := c_step q1 tb.1 tb.2 (nx_le hp) q2.2.2
  have f := fr_X6_step _ _ _ e
  exact ⟨h', e, q1.fr f (by decide) (by decide), k, q3.fr f (by decide) (by decide), nx_le hp⟩
theorem c_numR {h : Hp} {T : List Nat} (tb : TB T) {p : Nat} {a : Alb} (q : RdC h T p a) {lo hi : Int} (hlo : -1000 ≤ lo ∧ lo ≤ 1000) (hhi : -1000 ≤ hi ∧ hi ≤ 1000) : (nb_ok T (tk_s T p) lo hi = true → ∃ h', F_X6_readNumber (iI lo) (iI hi) h = some (1, h') ∧ sG h' 774 = iI (tk_n T (tk_s T p)) ∧ RdC h' T (nx T p) a) ∧ (¬ nb_ok T (tk_s T p) lo hi = true → ∃ h', F_X6_readNumber (iI lo) (iI hi) h = some (0, h') ∧ RdC h' T p a) := by
  obtain ⟨q1, q2, q3, hp⟩ := q
  obtain ⟨y, n⟩ := c_readNumber q1 tb.1 tb.2 hp q2 hlo hhi
  refine ⟨fun z => ?_, fun z => ?_⟩
  · obtain ⟨h', e, v, k⟩ := y z
    have f := fr_X6_readNumber _ _ _ _ _ e
    exact ⟨h', e, v, q1.fr f (by decide) (by decide), k, q3.fr f (by decide) (by decide), nx_le hp⟩
  · obtain ⟨h', e, k⟩ := n z
    have f := fr_X6_readNumber _ _ _ _ _ e
    exact ⟨h', e, q1.fr f (by decide) (by decide), k, q3.fr f (by decide) (by decide), hp⟩
/-- the value of the number at p -/
def nv (T : List Nat) (p : Nat) : Nat := tk_n T (tk_s T p)
def nok (T : List Nat) (p : Nat) (lo hi : Int) : Bool := nb_ok T (tk_s T p) lo hi
def al_sun (a : Alb) (n g l : Nat) : Alb := ((n, g, l), a.2)
def rd_sun (T : List Nat) (p : Nat) (a : Alb) : Bool × Nat × Alb :=
  if nok T (nx T p) 18 30 then (if nok T (nx T (nx T p)) 1 9 then (if nok T (nx T (nx T (nx T p))) 1 40 then (true, nx T (nx T (nx T (nx T p))), al_sun a (nv T (nx T p)) (nv T (nx T (nx T p))) (nv T (nx T (nx T (nx T p))))) else (false, nx T (nx T (nx T p)), a)) else (false, nx T (nx T p), a)) else (false, nx T p, a)
theorem al_sun_ok {a : Alb} (h : al_ok a) {n g l : Nat} (s : su_ok n g l) : al_ok (al_sun a n g l) := ⟨s, h.2.1, h.2.2.1, h.2.2.2.1, h.2.2.2.2.1, h.2.2.2.2.2⟩
theorem c_readSun {h : Hp} {T : List Nat} (tb : TB T) {p : Nat} {a : Alb} (q : RdC h T p a) : ∃ h', F_X6_readSun h = some (bI ((rd_sun T p a).1 = true), h') ∧ RdC h' T (rd_sun T p a).2.1 (rd_sun T p a).2.2 := by
  unfold F_X6_readSun rd_sun
  obtain ⟨h1, e1, q1⟩ := c_stepR tb q
  rw [e1, bd_e]
  have n1 := c_numR tb q1 (lo := 18) (hi := 30) (by omega) (by omega)
  by_cases c1 : nok T (nx T p) 18 30 = true
  · obtain ⟨h2, e2, v2, q2⟩ := n1.1 c1
    have e2' : F_X6_readNumber (18 : Int32) (30 : Int32) h1 = some (1, h2) := e2
    rw [e2', bd_e, if_neg (by decide), jl_e, if_pos c1, v2]
    have n2 := c_numR tb q2 (lo := 1) (hi := 9) (by omega) (by omega)
    by_cases c2 : nok T (nx T (nx T p)) 1 9 = true
    · obtain ⟨h3, e3, v3, q3⟩ := n2.1 c2
      have e3' : F_X6_readNumber (1 : Int32) (9 : Int32) h2 = some (1, h3) := e3
      rw [e3', bd_e, if_neg (by decide), jl_e, if_pos c2, v3]
      have n3 := c_numR tb q3 (lo := 1) (hi := 40) (by omega) (by omega)
      by_cases c3 : nok T (nx T (nx T (nx T p))) 1 40 = true
      · obtain ⟨h4, e4, v4, q4⟩ := n3.1 c3
        have e4' : F_X6_readNumber (1 : Int32) (40 : Int32) h3 = some (1, h4) := e4
        have b1 := nb_p c1
        have b2 := nb_p c2
        have b3 := nb_p c3
        have e5 : F_X9_become 14 (iI (tk_n T (tk_s T (nx T p)))) (iI (tk_n T (tk_s T (nx T (nx T p))))) (iI (tk_n T (tk_s T (nx T (nx T (nx T p)))))) h4 = some ((), sS (sS (sS h4 896 (iI (tk_n T (tk_s T (nx T p))))) 897 (iI (tk_n T (tk_s T (nx T (nx T p)))))) 898 (iI (tk_n T (tk_s T (nx T (nx T (nx T p))))))) := rfl
        have f := fr_X9_become _ _ _ _ _ _ _ e5
        obtain ⟨t1, t2, ⟨a0, a1, a2, a3, a4, a5, a6⟩, hp⟩ := q4
        have su : su_ok (nv T (nx T p)) (nv T (nx T (nx T p))) (nv T (nx T (nx T (nx T p)))) := by
          unfold su_ok nv
          omega
        rw [e4', bd_e, if_neg (by decide), v4, e5, bd_e, if_pos c3]
        refine ⟨_, rfl, t1.fr f (by decide) (by decide), t2.fr f (by decide) (by decide) (by decide), ⟨al_sun_ok a0 su, ?_, ?_, ⟨?_, ?_, ?_, su⟩, ?_, fun i hi => ?_, fun i hi => ?_⟩, hp⟩
        · exact (f.sg (by decide)).trans a1
        · exact (f.sg (by decide)).trans a2
        · rfl
        · rfl
        · rfl
        · exact a4.fr f (by decide) (by decide) (by decide) (by decide) (by decide)
        · exact (f.ag (by decide) i).trans (a5 i hi)
        · exact (f.ag (by decide) i).trans (a6 i hi)
      · obtain ⟨h4, e4, q4⟩ := n3.2 c3
        have e4' : F_X6_readNumber (1 : Int32) (40 : Int32) h3 = some (0, h4) := e4
        rw [e4', bd_e, if_pos rfl, if_neg c3]
        exact ⟨h4, rfl, q4⟩
    · obtain ⟨h3, e3, q3⟩ := n2.2 c2
      have e3' : F_X6_readNumber (1 : Int32) (9 : Int32) h2 = some (0, h3) := e3
      rw [e3', bd_e, if_pos rfl, if_neg c2]
      exact ⟨h3, rfl, q3⟩
  · obtain ⟨h2, e2, q2⟩ := n1.2 c1
    have e2' : F_X6_readNumber (18 : Int32) (30 : Int32) h1 = some (0, h2) := e2
    rw [e2', bd_e, if_pos rfl, if_neg c1]
    exact ⟨h2, rfl, q2⟩
theorem c_readAlbum {h : Hp} {T : List Nat} (tb : TB T) {p : Nat} {a : Alb} (q : RdC h T p a) : ∃ h', F_X6_readAlbum h = some (1, h') ∧ RdC h' T (nx T p) al_0 := by
  obtain ⟨q1, q2, q3, hp⟩ := q
  obtain ⟨h1, e1, a1⟩ := c_aclear h
  have f := fr_X0_clear _ _ _ _ e1
  obtain ⟨h2, e2, r2⟩ := c_stepR tb (h := h1) (a := al_0) ⟨q1.fr f (by decide) (by decide), q2.fr f (by decide) (by decide) (by decide), a1, hp⟩
  unfold F_X6_readAlbum
  rw [e1, bd_e, e2, bd_e]
  exact ⟨h2, rfl, r2⟩
