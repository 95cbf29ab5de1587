-- ===== the reference reads the text =====
theorem ClR.pre {h h1 h' : Hp} {T : List Nat} {n : Nat} {a : Alb} {r : Bool × Nat × Alb} (e : aF h1 119 = aF h 119) (q : ClR h1 h' T n a r) : ClR h h' T n a r := ⟨fun i hi => (q.1 i hi).trans (congrFun e i), q.2⟩
theorem m_rdClause {h : Hp} {T : List Nat} (tb : TB T) {p n : Nat} {a : Alb} (ok : al_ok a) (hp : p ≤ T.length) (g : RgM h T p n a (-1)) (hn : n < 24) : ∃ h', F_X12_readClause h = some ((), h') ∧ ClR h h' T n a (rd_clause T p a) := by
  obtain ⟨h1, e1, k1, g1, a1⟩ := g.tk tb
  unfold F_X12_readClause rd_clause
  rw [e1, bd_e]
  have i0 : F_X12_isWord (97 : Int32) (108 : Int32) (98 : Int32) (117 : Int32) (109 : Int32) (0 : Int32) (0 : Int32) h1 = some (bI (tk_is T (tk_s T p) 0 = true), h1) := m_isWord tb g1.1 hp k1 (a := 0) (by omega)
  have i1 : F_X12_isWord (115 : Int32) (117 : Int32) (110 : Int32) (0 : Int32) (0 : Int32) (0 : Int32) (0 : Int32) h1 = some (bI (tk_is T (tk_s T p) 1 = true), h1) := m_isWord tb g1.1 hp k1 (a := 1) (by omega)
  have i2 : F_X12_isWord (112 : Int32) (105 : Int32) (99 : Int32) (116 : Int32) (117 : Int32) (114 : Int32) (101 : Int32) h1 = some (bI (tk_is T (tk_s T p) 2 = true), h1) := m_isWord tb g1.1 hp k1 (a := 2) (by omega)
  have i3 : F_X12_isWord (116 : Int32) (104 : Int32) (105 : Int32) (110 : Int32) (103 : Int32) (0 : Int32) (0 : Int32) h1 = some (bI (tk_is T (tk_s T p) 3 = true), h1) := m_isWord tb g1.1 hp k1 (a := 3) (by omega)
  have i8 : F_X12_isWord (112 : Int32) (111 : Int32) (105 : Int32) (110 : Int32) (116 : Int32) (0 : Int32) (0 : Int32) h1 = some (bI (tk_is T (tk_s T p) 8 = true), h1) := m_isWord tb g1.1 hp k1 (a := 8) (by omega)
  have i9 : F_X12_isWord (108 : Int32) (111 : Int32) (110 : Int32) (103 : Int32) (0 : Int32) (0 : Int32) (0 : Int32) h1 = some (bI (tk_is T (tk_s T p) 9 = true), h1) := m_isWord tb g1.1 hp k1 (a := 9) (by omega)
  have i10 : F_X12_isWord (115 : Int32) (101 : Int32) (101 : Int32) (0 : Int32) (0 : Int32) (0 : Int32) (0 : Int32) h1 = some (bI (tk_is T (tk_s T p) 10 = true), h1) := m_isWord tb g1.1 hp k1 (a := 10) (by omega)
  rw [i0, bd_e, jn_e]
  by_cases b0 : tk_is T (tk_s T p) 0 = true
  · rw [bI_t b0, if_neg (by decide), if_pos b0, jl_e, jl_e]
    obtain ⟨r1, r2, r3, r4, r5, r6⟩ := g1
    have fz : FrX [7497, 7498] [] h1 (sS (sS h1 7497 0) 7498 0) := ((FrX.refl _ _ h1).sS (by decide) _).sS (by decide) _
    have gz : RgM (sS (sS h1 7497 0) 7498 0) T (nx T p) n al_0 (-1) := ⟨r1.fr fz (by decide) (by decide), (fz.sg (by decide)).trans r2, r3, (fz.sg (by decide)).trans r4, ⟨rfl, rfl, fun j hj => absurd hj (Nat.not_lt_zero j), fun j hj => absurd hj (Nat.not_lt_zero j)⟩, (fz.sg (by decide)).trans r6⟩
    obtain ⟨h4, e4, g4, k4, a4⟩ := m_lay gz hn 0 0 0 0 0 []
    have e4' : F_X12_lay (0 : Int32) (0 : Int32) (0 : Int32) (0 : Int32) (0 : Int32) (sS (sS h1 7497 0) 7498 0) = some ((), h4) := e4
    rw [e4', bd_e]
    refine ⟨h4, rfl, fun j hj => ?_, fun _ => ⟨g4, _, ⟨show (0 : Nat) ≤ 4 by omega, fun z => absurd z (show ¬ (0 : Nat) = 1 by omega), fun z => absurd z (show ¬ (0 : Nat) = 2 by omega), fun z => absurd z (show ¬ (0 : Nat) = 3 by omega), fun z => absurd z (show ¬ (0 : Nat) = 4 by omega)⟩, rfl, k4⟩, fun z => (by cases z)⟩
    rw [a4 j hj, aG_sS, aG_sS, aG_F, a1]
    rfl
  rw [bI_f b0, if_pos (show iI 0 = 0 from rfl), if_neg b0, i1, bd_e]
  by_cases b1 : tk_is T (tk_s T p) 1 = true
  · obtain ⟨h2, e2, c2⟩ := m_rdSun tb hp g1 hn
    rw [bI_t b1, if_neg (by decide), if_pos b1, e2, bd_e]
    exact ⟨h2, rfl, c2.pre a1⟩
  rw [bI_f b1, if_pos (show iI 0 = 0 from rfl), if_neg b1, i2, bd_e]
  by_cases b2 : tk_is T (tk_s T p) 2 = true
  · obtain ⟨h2, e2, c2⟩ := m_rdPicture tb ok hp k1 g1 hn
    rw [bI_t b2, if_neg (by decide), if_pos b2, e2, bd_e]
    exact ⟨h2, rfl, c2.pre a1⟩
  rw [bI_f b2, if_pos (show iI 0 = 0 from rfl), if_neg b2, i3, bd_e]
  by_cases b3 : tk_is T (tk_s T p) 3 = true
  · obtain ⟨h2, e2, c2⟩ := m_rdThing tb ok hp k1 g1 hn
    rw [bI_t b3, if_neg (by decide), if_pos b3, e2, bd_e]
    exact ⟨h2, rfl, c2.pre a1⟩
  rw [bI_f b3, if_pos (show iI 0 = 0 from rfl), if_neg b3, i8, bd_e]
  by_cases b8 : tk_is T (tk_s T p) 8 = true
  · obtain ⟨h2, e2, c2⟩ := m_rdShadow tb ok hp g1 hn (m := 0) (by omega)
    have e2' : F_X12_readPiece (0 : Int32) h1 = some ((), h2) := e2
    rw [bI_t b8, if_neg (by decide), if_pos b8, e2', bd_e]
    exact ⟨h2, rfl, c2.pre a1⟩
  rw [bI_f b8, if_pos (show iI 0 = 0 from rfl), if_neg b8, i9, bd_e]
  by_cases b9 : tk_is T (tk_s T p) 9 = true
  · obtain ⟨h2, e2, c2⟩ := m_rdShadow tb ok hp g1 hn (m := 1) (by omega)
    have e2' : F_X12_readPiece (1 : Int32) h1 = some ((), h2) := e2
    rw [bI_t b9, if_neg (by decide), if_pos b9, e2', bd_e]
    exact ⟨h2, rfl, c2.pre a1⟩
  rw [bI_f b9, if_pos (show iI 0 = 0 from rfl), if_neg b9, i10, bd_e]
  by_cases b10 : tk_is T (tk_s T p) 10 = true
  · obtain ⟨h2, e2, c2⟩ := m_rdSee tb ok hp g1 hn
    rw [bI_t b10, if_neg (by decide), if_pos b10, e2, bd_e]
    exact ⟨h2, rfl, c2.pre a1⟩
  have w0 : F_X12_want (0 : Int32) h1 = some (iI 0, sS h1 7494 (sG h1 7491)) := m_want_f g1.2.2.2.2.2
  rw [bI_f b10, if_pos (show iI 0 = 0 from rfl), if_neg b10, w0, bd_e]
  exact ⟨_, rfl, ClR.bad (by exact a1) ((sG_sS_s ..).trans k1.2.1) hp⟩
def tl_ok : List Cl → Alb → Prop
  | [], _ => True
  | c :: l, a => cl_ok a c ∧ tl_ok l (cl_do a c)
def tl_run (l : List Cl) (a : Alb) : Alb := l.foldl cl_do a
theorem tl_ok_snoc {c : Cl} : ∀ (l : List Cl) (a : Alb), tl_ok l a → cl_ok (tl_run l a) c → tl_ok (l ++ [c]) a
  | [], a, _, h => ⟨h, trivial⟩
  | b :: l, a, h1, h2 => ⟨h1.1, tl_ok_snoc l (cl_do a b) h1.2 h2⟩
theorem tl_run_snoc (l : List Cl) (c : Cl) (a : Alb) : tl_run (l ++ [c]) a = cl_do (tl_run l a) c := by
  unfold tl_run
  rw [List.foldl_append]
  rfl
theorem tl_run_ok : ∀ (l : List Cl) (a : Alb), al_ok a → tl_ok l a → al_ok (tl_run l a)
  | [], a, h, _ => h
  | c :: l, a, h, k => tl_run_ok l (cl_do a c) (cl_do_ok h k.1) k.2
def cl_z : Cl := (0, (0, 0, 0, 0), [])
/-- the clauses lie there, and make the album b of a -/
def ClsM (h : Hp) (a b : Alb) (n : Nat) : Prop := ∃ cs : List Cl, cs.length = n ∧ tl_ok cs a ∧ tl_run cs a = b ∧ ∀ i, i < n → ClM h i (cs.getD i cl_z)
theorem ClM.same {h h' : Hp} {n : Nat} {c : Cl} (q : ClM h n c) (e : ∀ i, i < 5 * n + 5 → aG h' 119 i = aG h 119 i) : ClM h' n c := ⟨(e _ (by omega)).trans q.1, (e _ (by omega)).trans q.2.1, (e _ (by omega)).trans q.2.2.1, (e _ (by omega)).trans q.2.2.2.1, (e _ (by omega)).trans q.2.2.2.2⟩
theorem getD_clapp {l : List Cl} {c : Cl} {i : Nat} : (l ++ [c]).getD i cl_z = if i < l.length then l.getD i cl_z else if i = l.length then c else cl_z := getD_app
theorem tk_at_59 {T : List Nat} {s : Nat} (h : s < T.length) (e : T.getD s 0 = 59) : tk_at T s = 3 ∧ tk_e T s = s + 1 := by
  have a3 : tk_at T s = 3 := by
    rw [tk_at_lt h, e]
    rfl
  refine ⟨a3, ?_⟩
  unfold tk_e
  rw [if_neg (by omega), if_pos a3]
theorem m_read {h : Hp} {T : List Nat} (tb : TB T) (q : TxM h T) {a : Alb} (qa : AmC h a) : ∃ h', F_X12_read h = some ((), h') ∧ sG h' 7494 = iI (rd_go T 24 0 0 a).1 ∧ ((rd_go T 24 0 0 a).1 = -1 → sG h' 7495 = iI ((rd_go T 24 0 0 a).2.1 : Int) ∧ ClsM h' a (rd_go T 24 0 0 a).2.2 (rd_go T 24 0 0 a).2.1 ∧ (rd_go T 24 0 0 a).2.1 ≤ 24) := by
  have hl := tb.1
  have h7 := qa.1.2.1
  have h6 := qa.1.2.2.1
  refine wp_u ?_
  unfold F_X12_read
  rw [jl_e, jl_e, jl_e, jl_e, jl_e]
  have f0 : FrX [7490, 7494, 7495, 7497, 7498] [] h (sS (sS (sS (sS (sS h 7490 0) 7494 (-1)) 7495 0) 7497 (sG (sS (sS (sS h 7490 0) 7494 (-1)) 7495 0) 7504)) 7498 (sG (sS (sS (sS (sS h 7490 0) 7494 (-1)) 7495 0) 7497 (sG (sS (sS (sS h 7490 0) 7494 (-1)) 7495 0) 7504)) 7506)) := (((((FrX.refl _ _ h).sS (by decide) _).sS (by decide) _).sS (by decide) _).sS (by decide) _).sS (by decide) _
  have x0 : sG (sS (sS (sS (sS (sS h 7490 0) 7494 (-1)) 7495 0) 7497 (sG (sS (sS (sS h 7490 0) 7494 (-1)) 7495 0) 7504)) 7498 (sG (sS (sS (sS (sS h 7490 0) 7494 (-1)) 7495 0) 7497 (sG (sS (sS (sS h 7490 0) 7494 (-1)) 7495 0) 7504)) 7506)) 7497 = iI (al_w a).length := qa.np
  have x1 : sG (sS (sS (sS (sS (sS h 7490 0) 7494 (-1)) 7495 0) 7497 (sG (sS (sS (sS h 7490 0) 7494 (-1)) 7495 0) 7504)) 7498 (sG (sS (sS (sS (sS h 7490 0) 7494 (-1)) 7495 0) 7497 (sG (sS (sS (sS h 7490 0) 7494 (-1)) 7495 0) 7504)) 7506)) 7498 = iI (al_k a).length := qa.nt
  have x2 : sG (sS (sS (sS (sS (sS h 7490 0) 7494 (-1)) 7495 0) 7497 (sG (sS (sS (sS h 7490 0) 7494 (-1)) 7495 0) 7504)) 7498 (sG (sS (sS (sS (sS h 7490 0) 7494 (-1)) 7495 0) 7497 (sG (sS (sS (sS h 7490 0) 7494 (-1)) 7495 0) 7504)) 7506)) 7490 = iI 0 := rfl
  have x3 : sG (sS (sS (sS (sS (sS h 7490 0) 7494 (-1)) 7495 0) 7497 (sG (sS (sS (sS h 7490 0) 7494 (-1)) 7495 0) 7504)) 7498 (sG (sS (sS (sS (sS h 7490 0) 7494 (-1)) 7495 0) 7497 (sG (sS (sS (sS h 7490 0) 7494 (-1)) 7495 0) 7504)) 7506)) 7495 = iI 0 := rfl
  have x4 : sG (sS (sS (sS (sS (sS h 7490 0) 7494 (-1)) 7495 0) 7497 (sG (sS (sS (sS h 7490 0) 7494 (-1)) 7495 0) 7504)) 7498 (sG (sS (sS (sS (sS h 7490 0) 7494 (-1)) 7495 0) 7497 (sG (sS (sS (sS h 7490 0) 7494 (-1)) 7495 0) 7504)) 7506)) 7494 = iI (-1) := rfl
  generalize sS (sS (sS (sS (sS h 7490 0) 7494 (-1)) 7495 0) 7497 (sG (sS (sS (sS h 7490 0) 7494 (-1)) 7495 0) 7504)) 7498 (sG (sS (sS (sS (sS h 7490 0) 7494 (-1)) 7495 0) 7497 (sG (sS (sS (sS h 7490 0) 7494 (-1)) 7495 0) 7504)) 7506) = g0 at f0 x0 x1 x2 x3 x4 ⊢
  have qa0 : AmC g0 a := qa.fr f0 (by decide) (by decide)
  obtain ⟨g1, e1, b1⟩ := m_bring (c := 122) (d := 120) (n1 := 7) (n2 := 7) (x := 0) (y := 0) (n := (al_w a).length) g0 (by omega) (by omega) (by omega) (by omega) (Or.inl (by decide))
  have f1 := fr_X12_bring _ _ _ _ _ _ _ _ _ _ e1
  have e1' : F_X12_bring 122 7 (0 : Int32) 120 7 (0 : Int32) (sG g0 7504) g0 = some ((), g1) := by rw [qa0.np]; exact e1
  have qa1 : AmC g1 a := qa0.fr f1 (by decide) (by decide)
  obtain ⟨g2, e2, b2⟩ := m_bring (c := 123) (d := 121) (n1 := 6) (n2 := 6) (x := 0) (y := 0) (n := (al_k a).length) g1 (by omega) (by omega) (by omega) (by omega) (Or.inl (by decide))
  have f2 := fr_X12_bring _ _ _ _ _ _ _ _ _ _ e2
  have e2' : F_X12_bring 123 6 (0 : Int32) 121 6 (0 : Int32) (sG g1 7506) g1 = some ((), g2) := by rw [qa1.nt]; exact e2
  rw [e1', bd_e, e2', bd_e]
  have start : RgM g2 T 0 0 a (-1) := by
    refine ⟨((q.fr f0 (by decide) (by decide)).fr f1 (by decide) (by decide)).fr f2 (by decide) (by decide), (f2.sg (by decide)).trans ((f1.sg (by decide)).trans x2), Nat.zero_le _, (f2.sg (by decide)).trans ((f1.sg (by decide)).trans x3), ⟨(f2.sg (by decide)).trans ((f1.sg (by decide)).trans x0), (f2.sg (by decide)).trans ((f1.sg (by decide)).trans x1), fun i hi => ?_, fun i hi => ?_⟩, (f2.sg (by decide)).trans ((f1.sg (by decide)).trans x4)⟩
    · rw [f2.ag (by decide), b1, if_pos (by omega), show 0 + (i - 0) = i by omega]
      exact qa0.2.2.2.2.1 i hi
    · rw [b2, if_pos (by omega), show 0 + (i - 0) = i by omega]
      exact qa1.kd hi
  refine (lp_up (α := Int32 → Hp → Option (Unit × Hp)) (P := fun n c => (∀ (v : Int32) (u : Hp), (v = 0 ∨ ¬ sG u 7494 = -1) → (sG u 7494 = iI (rd_go T 24 0 0 a).1 ∧ ((rd_go T 24 0 0 a).1 = -1 → sG u 7495 = iI ((rd_go T 24 0 0 a).2.1 : Int) ∧ ClsM u a (rd_go T 24 0 0 a).2.2 (rd_go T 24 0 0 a).2.1 ∧ (rd_go T 24 0 0 a).2.1 ≤ 24)) → Wp (c v u) (fun _ h' => sG h' 7494 = iI (rd_go T 24 0 0 a).1 ∧ ((rd_go T 24 0 0 a).1 = -1 → sG h' 7495 = iI ((rd_go T 24 0 0 a).2.1 : Int) ∧ ClsM h' a (rd_go T 24 0 0 a).2.2 (rd_go T 24 0 0 a).2.1 ∧ (rd_go T 24 0 0 a).2.1 ≤ 24))) ∧ (n < 24 → ∀ (u : Hp) (p : Nat) (b : Alb), RgM u T p n b (-1) → al_ok b → ClsM u a b n → rd_go T 24 0 0 a = rd_go T (24 - n) n p b → Wp (c (1 : Int32) u) (fun _ h' => sG h' 7494 = iI (rd_go T 24 0 0 a).1 ∧ ((rd_go T 24 0 0 a).1 = -1 → sG h' 7495 = iI ((rd_go T 24 0 0 a).2.1 : Int) ∧ ClsM h' a (rd_go T 24 0 0 a).2.2 (rd_go T 24 0 0 a).2.1 ∧ (rd_go T 24 0 0 a).2.1 ≤ 24)))) 24 (by omega) (fun n c hn ih => ⟨fun v u hv hu => ?_, fun hn2 u p b gu okb cu er => ?_⟩)).2 (by omega) g2 0 a start qa.1 ⟨[], rfl, trivial, rfl, fun i hi => absurd hi (Nat.not_lt_zero i)⟩ rfl
  · show Wp (if v = 0 then some ((), u) else (if sG u 7494 = (-1 : Int32) then _ else some ((), u))) _
    by_cases v0 : v = 0
    · rw [if_pos v0]
      exact wp_s hu
    · rw [if_neg v0, if_neg (hv.resolve_left v0)]
      exact wp_s hu
  · have ih := ih hn2
    have hp := gu.2.2.1
    obtain ⟨u1, c1, r0, r1, r2⟩ := m_rdClause tb okb hp gu hn2
    have unf : rd_go T (24 - n) n p b = if (rd_clause T p b).1 then (if tk_at T (tk_s T (rd_clause T p b).2.1) = 0 then (-1, n + 1, (rd_clause T p b).2.2) else if (tk_at T (tk_s T (rd_clause T p b).2.1) = 3 ∧ T.getD (tk_s T (rd_clause T p b).2.1) 0 = 59) ∧ 24 - (n + 1) ≠ 0 then rd_go T (24 - (n + 1)) (n + 1) (nx T (rd_clause T p b).2.1) (rd_clause T p b).2.2 else ((tk_s T (rd_clause T p b).2.1 : Int), n + 1, (rd_clause T p b).2.2)) else ((tk_s T (rd_clause T p b).2.1 : Int), n, (rd_clause T p b).2.2) := by
      obtain ⟨m, hm⟩ : ∃ m, 24 - n = m + 1 := ⟨24 - n - 1, by omega⟩
      rw [hm, show 24 - (n + 1) = m by omega]
      rfl
    rw [unf] at er
    have iso : sG u 7494 = -1 := gu.2.2.2.2.2
    show Wp (if sG u 7494 = (-1 : Int32) then _ else _) _
    rw [if_pos iso, c1, bd_e]
    generalize hR : rd_clause T p b = R at *
    cases hR1 : R.1 with
    | false =>
      obtain ⟨s1, s2⟩ := r2 hR1
      have sl := (tk_s_le s2).2
      rw [hR1, if_neg (by decide)] at er
      have ne : ¬ sG u1 7494 = -1 := by
        rw [s1, show (-1 : Int32) = iI (-1) from rfl, iI_eq (by omega) (by omega) (by omega) (by omega)]
        omega
      rw [if_neg ne]
      refine ih.1 _ u1 (Or.inr ne) ?_
      rw [er]
      refine ⟨s1, fun z => ?_⟩
      have z : (tk_s T R.2.1 : Int) = -1 := z
      omega
    | true =>
      obtain ⟨gu1, cl, k1, k2, k3⟩ := r1 hR1
      rw [hR1, if_pos rfl] at er
      have okR : al_ok R.2.2 := k2 ▸ cl_do_ok okb k1
      have iso1 : sG u1 7494 = -1 := gu1.2.2.2.2.2
      rw [if_pos iso1, jl_e, gu1.2.2.2.1, show iI (n : Int) + (1 : Int32) = iI ((n + 1 : Nat) : Int) by rw [il_1, iI_add]; exact iI_cg (by omega)]
      have fz : FrX [7495] [] u1 (sS u1 7495 (iI ((n + 1 : Nat) : Int))) := (FrX.refl _ _ u1).sS (by decide) _
      have gz : RgM (sS u1 7495 (iI ((n + 1 : Nat) : Int))) T R.2.1 (n + 1) R.2.2 (-1) := by
        obtain ⟨t1, t2, t3, t4, t5, t6⟩ := gu1
        exact ⟨t1.fr fz (by decide) (by decide), (fz.sg (by decide)).trans t2, t3, sG_sS_s .., t5.fr fz (by decide) (by decide) (by decide) (by decide), (fz.sg (by decide)).trans t6⟩
      obtain ⟨u2, c2, k4, gu2, a2⟩ := gz.tk tb
      have cls2 : ClsM u2 a R.2.2 (n + 1) := by
        obtain ⟨cs, l1, l2, l3, l4⟩ := cu
        have a2' : ∀ i, aG u2 119 i = aG u1 119 i := fun i => congrFun a2 i
        refine ⟨cs ++ [cl], by rw [List.length_append, List.length_singleton, l1], tl_ok_snoc cs a l2 (by rw [l3]; exact k1), by rw [tl_run_snoc, l3, k2], fun i hi => ?_⟩
        rw [getD_clapp, l1]
        by_cases ei : i < n
        · rw [if_pos ei]
          exact (l4 i ei).same (fun j hj => (a2' j).trans (r0 j (by omega)))
        · rw [if_neg ei, if_pos (by omega), show i = n by omega]
          exact k3.same (fun j _ => a2' j)
      rw [c2, bd_e]
      obtain ⟨ka, kb, kc, kd⟩ := k4
      have s2 := gu1.2.2.1
      obtain ⟨s, es⟩ : ∃ s, s = tk_s T R.2.1 := ⟨_, rfl⟩
      have sl := (tk_s_le s2).2
      rw [← es] at kb kc kd sl er
      have hle := tk_e_le sl
      have b24 : sG u2 7495 = iI ((n + 1 : Nat) : Int) := gu2.2.2.2.1
      have want0 : F_X12_want (0 : Int32) u2 = some (iI 0, sS u2 7494 (sG u2 7491)) := m_want_f gu2.2.2.2.2.2
      have want1 : F_X12_want (1 : Int32) u2 = some (iI 1, u2) := m_want_t u2
      have nend : tk_at T s = 0 → tk_e T s = s := fun e => if_pos e
      have nend2 : tk_at T s ≠ 0 → s < tk_e T s := fun e => tk_e_gt e
      have fin0 : sG u2 7494 = -1 := gu2.2.2.2.2.2
      have stopping : tk_at T s ≠ 0 → ¬ ((tk_at T s = 3 ∧ T.getD s 0 = 59) ∧ 24 - (n + 1) ≠ 0) → Wp (c (0 : Int32) (sS u2 7494 (sG u2 7491))) (fun _ h' => sG h' 7494 = iI (rd_go T 24 0 0 a).1 ∧ ((rd_go T 24 0 0 a).1 = -1 → sG h' 7495 = iI ((rd_go T 24 0 0 a).2.1 : Int) ∧ ClsM h' a (rd_go T 24 0 0 a).2.2 (rd_go T 24 0 0 a).2.1 ∧ (rd_go T 24 0 0 a).2.1 ≤ 24)) := fun t1 t2 => by
        rw [if_neg t1, if_neg t2] at er
        refine ih.1 _ _ (Or.inl rfl) ?_
        rw [er]
        refine ⟨(sG_sS_s ..).trans kb, fun z => ?_⟩
        have z : (s : Int) = -1 := z
        omega
      have less : (iI ((n + 1 : Nat) : Int) < (24 : Int32)) = (n + 1 < 24) := by
        rw [il_24, iI_lt (by omega) (by omega) (by omega) (by omega)]
        exact propext (by omega)
      have size1 : (iI ((tk_e T s - s : Nat) : Int) = (1 : Int32)) = (tk_e T s - s = 1) := by
        rw [il_1, iI_eq (by omega) (by omega) (by omega) (by omega)]
        exact propext (by omega)
      have size0 : (iI ((tk_e T s - s : Nat) : Int) = (0 : Int32)) = (tk_e T s - s = 0) := by
        rw [il_0, iI_eq (by omega) (by omega) (by omega) (by omega)]
        exact propext (by omega)
      rw [jn_e, jn_e, kc, kb, b24]
      by_cases z1 : tk_e T s - s = 1
      · have slt : s < T.length := by omega
        have t0 : tk_at T s ≠ 0 := fun e => by have := nend e; omega
        have b255 := tb.2 s slt
        rw [if_pos (size1 ▸ z1), gd_in (by omega) (by omega) (by omega), iI_cl (by omega) (by omega), Int.toNat_natCast, gu2.1.2 s slt]
        by_cases c59 : T.getD s 0 = 59
        · rw [if_pos (by rw [c59]; rfl)]
          have t3 := (tk_at_59 slt c59).1
          by_cases lt : n + 1 < 24
          · rw [if_pos (less ▸ lt)]
            try dsimp only
            rw [jn_e, jn_e, if_neg (by decide)]
            try dsimp only
            rw [want1, bd_e]
            rw [if_neg t0, if_pos ⟨⟨t3, c59⟩, by omega⟩] at er
            exact ih.2 lt u2 _ _ gu2 okR cls2 er
          · rw [if_neg (fun w => lt (less ▸ w))]
            try dsimp only
            rw [jn_e, jn_e, if_pos rfl, kc, if_neg (fun w => by rw [size0] at w; omega)]
            try dsimp only
            rw [want0, bd_e]
            exact stopping t0 (fun w => by have := w.2; omega)
        · rw [if_neg (by rw [il_59, iI_eq (by omega) (by omega) (by omega) (by omega)]; omega)]
          try dsimp only
          rw [jn_e, jn_e, if_pos rfl, kc, if_neg (fun w => by rw [size0] at w; omega)]
          try dsimp only
          rw [want0, bd_e]
          exact stopping t0 (fun w => c59 w.1.2)
      · rw [if_neg (fun w => z1 (size1 ▸ w))]
        try dsimp only
        rw [jn_e, jn_e, if_pos rfl, kc]
        by_cases z0 : tk_e T s - s = 0
        · rw [if_pos (size0 ▸ z0)]
          try dsimp only
          rw [want1, bd_e]
          have t0 : tk_at T s = 0 := Decidable.byContradiction (fun e => by have := nend2 e; omega)
          rw [if_pos t0] at er
          refine ih.1 _ u2 (Or.inl rfl) ?_
          rw [er]
          exact ⟨fin0, fun _ => ⟨b24, cls2, by show n + 1 ≤ 24; omega⟩⟩
        · rw [if_neg (fun w => z0 (size0 ▸ w))]
          try dsimp only
          rw [want0, bd_e]
          have t0 : tk_at T s ≠ 0 := fun e => by have := nend e; omega
          refine stopping t0 (fun w => ?_)
          have slt : s < T.length := by have := nend2 t0; omega
          have := (tk_at_59 slt w.1.2).2
          omega
theorem M_fault {h : Hp} {s : Sta} (q : JM h s) : ∃ h', F_X12_fault h = some (iI (rd_R s).1, h') ∧ JM h' s := by
  obtain ⟨h1, e1, e2, -⟩ := m_read q.1.1 q.2.1 q.2.2.1
  have f := fr_X12_read _ _ _ e1
  unfold F_X12_fault
  rw [e1, bd_e, e2]
  exact ⟨h1, rfl, q.sc f (by decide) (by decide)⟩
