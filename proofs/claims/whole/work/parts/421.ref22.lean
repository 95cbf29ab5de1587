-- ===== the reference does the clauses =====
theorem m_clause {h : Hp} {x : Alb} (q : AmC h x) {k : Nat} (hk : k < 24) {c : Cl} (cm : ClM h k c) (ck : cl_ok x c) : ∃ h', F_X12_tell (iI ((5 * k : Nat) : Int)) h = some ((), h') ∧ AmC h' (cl_do x c) := by
  have okd := cl_do_ok q.1 ck
  obtain ⟨m0, m1, m2, m3, m4⟩ := cm
  obtain ⟨k0, k1, k2, k3, k4⟩ := ck
  have h7 := q.1.2.1
  have h6 := q.1.2.2.1
  have b1 : iI ((5 * k : Nat) : Int) + (1 : Int32) = iI ((5 * k + 1 : Nat) : Int) := by rw [il_1, iI_add]; exact iI_cg (by omega)
  have b2 : iI ((5 * k : Nat) : Int) + (2 : Int32) = iI ((5 * k + 2 : Nat) : Int) := by rw [il_2, iI_add]; exact iI_cg (by omega)
  have b3 : iI ((5 * k : Nat) : Int) + (3 : Int32) = iI ((5 * k + 3 : Nat) : Int) := by rw [il_3, iI_add]; exact iI_cg (by omega)
  have b4 : iI ((5 * k : Nat) : Int) + (4 : Int32) = iI ((5 * k + 4 : Nat) : Int) := by rw [il_4, iI_add]; exact iI_cg (by omega)
  have rd : ∀ j : Nat, j < 120 → (iI (j : Int)).toNatClampNeg = j := fun j hj => by rw [iI_cl (by omega) (by omega), Int.toNat_natCast]
  have cn : ∀ n : Nat, n ≤ 4 → (iI (c.1 : Int) = iI (n : Int)) = (c.1 = n) := fun n hn => by
    rw [iI_eq (by omega) (by omega) (by omega) (by omega)]
    exact propext (by omega)
  have c0' : (iI (c.1 : Int) = (0 : Int32)) = (c.1 = 0) := cn 0 (by omega)
  have c1' : (iI (c.1 : Int) = (1 : Int32)) = (c.1 = 1) := cn 1 (by omega)
  have c2' : (iI (c.1 : Int) = (2 : Int32)) = (c.1 = 2) := cn 2 (by omega)
  have c3' : (iI (c.1 : Int) = (3 : Int32)) = (c.1 = 3) := cn 3 (by omega)
  unfold F_X12_tell
  rw [b1, gd_in (by omega) (by omega) (by omega), jl_e, rd (5 * k + 1) (by omega), m1, b2, gd_in (by omega) (by omega) (by omega), jl_e, rd (5 * k + 2) (by omega), m2, b3, gd_in (by omega) (by omega) (by omega), jl_e, rd (5 * k + 3) (by omega), m3, gd_in (by omega) (by omega) (by omega), jl_e, rd (5 * k) (by omega), m0, jn_e]
  unfold cl_do at okd ⊢
  by_cases c0 : c.1 = 0
  · rw [if_pos c0] at okd ⊢
    rw [if_pos (c0' ▸ c0), jl_e, jl_e, jl_e, jl_e, jl_e, show inb (0 : Int32) 225 = true from rfl, gd_t, jl_e, show (0 : Int32).toNatClampNeg = 0 from rfl]
    exact ⟨_, rfl, okd, ⟨rfl, rfl, rfl⟩, rfl, rfl, fun j hj => absurd hj (Nat.not_lt_zero j), fun j hj => absurd hj (Nat.not_lt_zero j), pc_nil_ok, aG_aS_s .., fun j hj => absurd hj (Nat.not_lt_zero j)⟩
  rw [if_neg c0] at okd ⊢
  rw [if_neg (fun w => c0 (c0' ▸ w))]
  by_cases c1 : c.1 = 1
  · rw [if_pos c1] at okd ⊢
    rw [if_pos (c1' ▸ c1), jl_e, jl_e, jl_e]
    exact ⟨_, rfl, okd, ⟨rfl, rfl, rfl⟩, q.2.2.1, q.2.2.2.1, q.2.2.2.2.1, q.2.2.2.2.2.1, q.2.2.2.2.2.2⟩
  rw [if_neg c1] at okd ⊢
  rw [if_neg (fun w => c1 (c1' ▸ w))]
  by_cases c2 : c.1 = 2
  · obtain ⟨p1, p2, p3⟩ := k2 c2
    rw [if_pos c2] at okd ⊢
    rw [if_pos (c2' ▸ c2), q.np, gd_in (by omega) (by omega) (by omega), jl_e, jl_e, iI_cl (by omega) (by omega), Int.toNat_natCast, sG_aS, q.np, show iI ((al_w x).length : Int) + (1 : Int32) = iI ((al_w x ++ [c.2.2]).length : Int) by rw [il_1, iI_add, List.length_append, List.length_singleton]; exact iI_cg (by omega)]
    refine ⟨_, rfl, okd, q.2.1, sG_sS_s .., q.2.2.2.1, fun j hj => ?_, q.2.2.2.2.2.1, q.2.2.2.2.2.2⟩
    have hj : j < (al_w x ++ [c.2.2]).length := hj
    show aG _ 122 j = iI (w27 ((al_w x ++ [c.2.2]).getD j []) : Int)
    rw [List.length_append, List.length_singleton] at hj
    rw [getD_app, aG_sS]
    by_cases e : j < (al_w x).length
    · rw [if_pos e, aG_aS_j (by omega)]
      exact q.2.2.2.2.1 j e
    · rw [if_neg e, if_pos (by omega), show j = (al_w x).length by omega, aG_aS_s, p3]
  rw [if_neg c2] at okd ⊢
  rw [if_neg (fun w => c2 (c2' ▸ w))]
  by_cases c3 : c.1 = 3
  · obtain ⟨p1, p2⟩ := k3 c3
    rw [if_pos c3] at okd ⊢
    rw [if_pos (c3' ▸ c3), q.nt, gd_in (by omega) (by omega) (by omega), jl_e, jl_e, iI_cl (by omega) (by omega), Int.toNat_natCast, sG_aS, q.nt, show iI ((al_k x).length : Int) + (1 : Int32) = iI ((al_k x ++ [c.2.1.1]).length : Int) by rw [il_1, iI_add, List.length_append, List.length_singleton]; exact iI_cg (by omega)]
    refine ⟨_, rfl, okd, q.2.1, q.2.2.1, sG_sS_s .., q.2.2.2.2.1, fun j hj => ?_, q.2.2.2.2.2.2⟩
    have hj : j < (al_k x ++ [c.2.1.1]).length := hj
    show aG _ 123 j = iI ((al_k x ++ [c.2.1.1]).getD j 0 : Int)
    rw [List.length_append, List.length_singleton] at hj
    rw [getD_app, aG_sS]
    by_cases e : j < (al_k x).length
    · rw [if_pos e, aG_aS_j (by omega)]
      exact q.kd e
    · rw [if_neg e, if_pos (by omega), show j = (al_k x).length by omega, aG_aS_s]
  rw [if_neg c3]
  rw [if_neg (fun w => c3 (c3' ▸ w))]
  obtain ⟨p1, p2, p3, p4⟩ := k4 (by omega)
  have l9 := al_most_le x c.2.1.2.1
  have s9 := al_msl_le c.2.1.2.1
  obtain ⟨h1, e1, n1⟩ := m_become q.nw (p := c.2.1.1) (m := (c.2.1.2.1 : Int)) (v := c.2.1.2.2.1) (s := c.2.1.2.2.2) (by omega) (by omega) (by omega) (by omega)
  have f1 := fr_X12_become _ _ _ _ _ _ _ e1
  rw [Int.toNat_natCast] at n1
  rw [b4, gd_in (by omega) (by omega) (by omega), rd (5 * k + 4) (by omega), m4, e1, bd_e]
  exact ⟨h1, rfl, q.set f1 (by decide) (by decide) (pa_put q.1.2.2.2.2.2 p1 h7 p2 h6 p3 p4) n1⟩
theorem tl_ok_at : ∀ (cs : List Cl) (a : Alb), tl_ok cs a → ∀ k, k < cs.length → cl_ok (tl_run (cs.take k) a) (cs.getD k cl_z) ∧ tl_run (cs.take (k + 1)) a = cl_do (tl_run (cs.take k) a) (cs.getD k cl_z)
  | [], a, _, k, hk => absurd hk (Nat.not_lt_zero k)
  | c :: cs, a, h, 0, _ => ⟨h.1, rfl⟩
  | c :: cs, a, h, k + 1, hk => tl_ok_at cs (cl_do a c) h.2 k (Nat.lt_of_succ_lt_succ hk)
theorem M_album {h : Hp} {s : Sta} (q : JM h s) : ∃ h', F_X12_album h = some (iI (A_album s), h') ∧ JM h' (N_album s) := by
  obtain ⟨h1, e1, e2, e3⟩ := m_read q.1.1 q.2.1 q.2.2.1
  have f1 := fr_X12_read _ _ _ e1
  have q1 : JM h1 s := q.sc f1 (by decide) (by decide)
  have rg := rd_rng (st_t s) q.1.1.1 24 0 0 (st_a s)
  have rl := rd_le (st_t s) 24 0 0 (st_a s) (Nat.zero_le _)
  have hl := q.1.1.1
  unfold A_album N_album
  have dR : rd_R s = rd_go (st_t s) 24 0 0 (st_a s) := rfl
  rw [dR]
  generalize rd_go (st_t s) 24 0 0 (st_a s) = R at *
  have bad : (sG h1 7494 = -1) = (R.1 = -1) := by
    rw [e2, show (-1 : Int32) = iI (-1) from rfl, iI_eq (by omega) (by omega) (by omega) (by omega)]
  by_cases r1 : R.1 = -1
  · obtain ⟨d1, ⟨cs, l1, l2, l3, l4⟩, d3⟩ := e3 r1
    rw [if_pos r1, if_pos r1]
    refine wp_v ?_
    unfold F_X12_album
    rw [e1, bd_e, if_pos (bad ▸ r1)]
    refine lp_up (α := Int32 → Hp → Option (Int32 × Hp)) (P := fun k c => ∀ g, AmC g (tl_run (cs.take k) (st_a s)) → FrX [7501, 7502, 7503, 7504, 7506] [122, 123, 124] h1 g → Wp (c (iI k) g) (fun v h' => v = iI (R.2.1 : Int) ∧ JM h' ([], R.2.2, [], fun _ => none, (fun _ => -1, (st_z s).2.1, (st_z s).2.2)))) R.2.1 (by omega) (fun k c hk ih g qg fg => ?_) h1 (by rw [List.take_zero]; exact q1.2.2.1) (FrX.refl _ _ _)
    have d1' : sG g 7495 = iI (R.2.1 : Int) := (fg.sg (by decide)).trans d1
    by_cases z : k < R.2.1
    · have ih := ih z
      obtain ⟨ck, tr⟩ := tl_ok_at cs (st_a s) l2 k (by omega)
      obtain ⟨g1, t1, t2⟩ := m_clause qg (k := k) (by omega) ((l4 k z).same (fun i _ => fg.ag (by decide) i)) ck
      have ft := fr_X12_tell _ _ _ _ t1
      have lt : iI (k : Int) < sG g 7495 := by
        rw [d1', iI_lt (by omega) (by omega) (by omega) (by omega)]
        omega
      show Wp (if iI (k : Int) < sG g 7495 then _ else _) _
      rw [if_pos lt, show (5 : Int32) * iI (k : Int) = iI ((5 * k : Nat) : Int) by rw [il_5, iI_mul]; exact iI_cg (by omega), t1, bd_e, show iI (k : Int) + (1 : Int32) = iI ((k + 1 : Nat) : Int) by rw [il_1, iI_add]; exact iI_cg (by omega)]
      exact ih g1 (by rw [tr]; exact t2) (fg.sub ft (by decide) (by decide))
    · have ek : k = R.2.1 := by omega
      have lt : ¬ iI (k : Int) < sG g 7495 := by
        rw [d1', iI_lt (by omega) (by omega) (by omega) (by omega)]
        omega
      rw [List.take_of_length_le (by omega), l3] at qg
      show Wp (if iI (k : Int) < sG g 7495 then _ else _) _
      rw [if_neg lt, jl_e, jl_e, show inb (0 : Int32) 2 = true from rfl, gd_t, jl_e, show inb (1 : Int32) 2 = true from rfl, gd_t, jl_e, show (0 : Int32).toNatClampNeg = 0 from rfl, show (1 : Int32).toNatClampNeg = 1 from rfl, show vp_nar .boolean (0 : Int32) = iI 0 from rfl]
      have fz : FrX [7489, 7510] [128] g (aS (aS (sS (sS g 7489 0) 7510 0) 128 0 (iI 0)) 128 1 (iI 0)) := ((((FrX.refl _ _ g).sS (by decide) _).sS (by decide) _).aS (by decide) _ _).aS (by decide) _ _
      have y0 : sG (aS (aS (sS (sS g 7489 0) 7510 0) 128 0 (iI 0)) 128 1 (iI 0)) 7489 = iI 0 := rfl
      have y1 : sG (aS (aS (sS (sS g 7489 0) 7510 0) 128 0 (iI 0)) 128 1 (iI 0)) 7510 = iI 0 := rfl
      have y2 : ∀ j, j < 2 → aG (aS (aS (sS (sS g 7489 0) 7510 0) 128 0 (iI 0)) 128 1 (iI 0)) 128 j = iI 0 := fun j hj => by
        have : j = 0 ∨ j = 1 := by omega
        rcases this with e | e
        · subst e; rw [aG_aS_j (by omega), aG_aS_s]
        · subst e; rw [aG_aS_s]
      generalize aS (aS (sS (sS g 7489 0) 7510 0) 128 0 (iI 0)) 128 1 (iI 0) = g2 at fz y0 y1 y2 ⊢
      have qg2 : AmC g2 R.2.2 := qg.fr fz (by decide) (by decide)
      refine lp_up (α := Int32 → Hp → Option (Int32 × Hp)) (P := fun i d => ∀ u, FrX [] [138] g2 u → (∀ j, j < i → aG u 138 j = iI (-1)) → Wp (d (iI i) u) (fun v h' => v = iI (R.2.1 : Int) ∧ JM h' ([], R.2.2, [], fun _ => none, (fun _ => -1, (st_z s).2.1, (st_z s).2.2)))) 3 (by omega) (fun i d hi ih2 u fu hu => ?_) g2 (FrX.refl _ _ _) (fun j hj => absurd hj (Nat.not_lt_zero j))
      by_cases y : i < 3
      · have ih2 := ih2 y
        simp (maxSteps := 3000000) (implicitDefEqProofs := false) (disch := omega) only [jl_e, jn_e, bd_e, gd_t, iI_add, iI_sub, iI_mul, iI_neg, if_true, if_false, not_true_eq_false, not_false_eq_true, Int.reduceEq, Nat.add_zero, Int.toNat_natCast, iI_cl, iI_lt, iI_eq, gd_in, bI_eq0, bI_eq1, bI_isB, isB_0, isB_1, il_0, il_1, il_2, il_3, il_4, il_5, il_6, il_7, il_8, il_9, il_10, il_12, il_16, il_18, il_24, il_27, il_30, il_31, il_32, il_40, il_47, il_48, il_49, il_55, il_56, il_57, il_59, il_63, il_64, il_96, il_97, il_98, il_99, il_101, il_103, il_104, il_105, il_108, il_109, il_110, il_111, il_112, il_114, il_115, il_116, il_117, il_119, il_122, il_127, il_128, il_200, il_225, il_255, il_256, il_999, il_1575, il_9999, il_65536, il_252645135, il_858993459, il_1431655765]
        rw [if_pos (by omega)]
        refine ih2 _ (fu.aS (by decide) _ _) (fun j hj => ?_)
        by_cases e : j = i
        · subst e; exact aG_aS_s ..
        · rw [aG_aS_j e]; exact hu j (by omega)
      · have ei : i = 3 := by omega
        subst ei
        have d1u : sG u 7495 = iI (R.2.1 : Int) := (fu.sg (by decide)).trans ((fz.sg (by decide)).trans d1')
        simp (maxSteps := 3000000) (implicitDefEqProofs := false) (disch := omega) only [jl_e, jn_e, bd_e, gd_t, iI_add, iI_sub, iI_mul, iI_neg, if_true, if_false, not_true_eq_false, not_false_eq_true, Int.reduceEq, Nat.add_zero, Int.toNat_natCast, iI_cl, iI_lt, iI_eq, gd_in, bI_eq0, bI_eq1, bI_isB, isB_0, isB_1, il_0, il_1, il_2, il_3, il_4, il_5, il_6, il_7, il_8, il_9, il_10, il_12, il_16, il_18, il_24, il_27, il_30, il_31, il_32, il_40, il_47, il_48, il_49, il_55, il_56, il_57, il_59, il_63, il_64, il_96, il_97, il_98, il_99, il_101, il_103, il_104, il_105, il_108, il_109, il_110, il_111, il_112, il_114, il_115, il_116, il_117, il_119, il_122, il_127, il_128, il_200, il_225, il_255, il_256, il_999, il_1575, il_9999, il_65536, il_252645135, il_858993459, il_1431655765, d1u]
        rw [if_neg (by omega)]
        refine wp_s ⟨rfl, ⟨⟨Nat.zero_le _, fun i hi => absurd hi (Nat.not_lt_zero i)⟩, qg.1, ⟨Nat.zero_le _, fun i hi => absurd hi (Nat.not_lt_zero i)⟩, fun k L e => (by cases e), fun i hi => ⟨by show (-1 : Int) ≤ -1; omega, by show (-1 : Int) ≤ 8; omega⟩⟩, ⟨(fu.sg (by simp)).trans y0, fun i hi => absurd hi (Nat.not_lt_zero i)⟩, qg2.fr fu (by decide) (by decide), ⟨(fu.sg (by simp)).trans y1, fun i hi => absurd hi (Nat.not_lt_zero i)⟩, fun k hk => ⟨fun _ => (fu.ag (by decide) k).trans (y2 k hk), fun L e => (by cases e)⟩, hu, fun i j _ _ hij => ?_, ?_⟩
        · have hij : (j : Int) < -1 := hij
          omega
        · exact (fu.tg (by simp)).trans ((fz.tg (by decide)).trans ((fg.tg (by decide)).trans q1.2.2.2.2.2.2.2))
  · rw [if_neg r1, if_neg r1]
    unfold F_X12_album
    rw [e1, bd_e, if_neg (fun w => r1 (bad ▸ w))]
    exact ⟨h1, rfl, q1⟩
