-- ===== the reference reads pictures, things, clauses =====
theorem fi_no {l : List (List Nat)} {w : List Nat} : ¬ l.findIdx (fun x => x == w) < l.length ↔ ∀ i, i < l.length → l.getD i [] ≠ w := by
  constructor
  · intro h i hi e
    apply h
    rw [List.findIdx_lt_length]
    refine ⟨l[i], List.getElem_mem hi, ?_⟩
    rw [List.getD_eq_getElem?_getD, List.getElem?_eq_getElem hi] at e
    simpa using e
  · intro h c
    have hg := List.findIdx_getElem (p := fun x => x == w) (xs := l) (w := c)
    have := h _ c
    rw [List.getD_eq_getElem?_getD, List.getElem?_eq_getElem c] at this
    exact this (by simpa using hg)
theorem m_rdPicture {h : Hp} {T : List Nat} (tb : TB T) {p n : Nat} {a : Alb} (ok : al_ok a) (hp : p ≤ T.length) (k : TkM h T p) (g : RgM h T (nx T p) n a (-1)) (hn : n < 24) : ∃ h', F_X12_readPicture h = some ((), h') ∧ ClR h h' T n a (rd_picture T p a) := by
  have hl := tb.1
  have hnp := ok.2.1
  have p1 := nx_le hp
  have s1 := (tk_s_le p1).2
  have w7 : (sG h 7497 < (7 : Int32)) = ((al_w a).length < 7) := by
    rw [g.2.2.2.2.1.1, il_7, iI_lt (by omega) (by omega) (by omega) (by omega)]
    exact propext (by omega)
  unfold F_X12_readPicture rd_picture
  rw [jn_if]
  by_cases c0 : (al_w a).length < 7
  · rw [if_pos (w7 ▸ c0), if_pos c0]
    have t1 : F_X12_want (1 : Int32) h = some (iI 1, h) := m_want_t h
    obtain ⟨h1, e1, k1, g1, a1⟩ := g.tk tb
    try dsimp only
    rw [t1, bd_e, if_neg (by decide), e1, bd_e]
    obtain ⟨q, hq⟩ : ∃ q, q = nx T p := ⟨_, rfl⟩
    rw [← hq] at k1 g1 p1 s1 ⊢
    obtain ⟨s, es⟩ : ∃ s, s = tk_s T q := ⟨_, rfl⟩
    have k1' := k1
    obtain ⟨ka, kb, kc, kd⟩ := k1'
    rw [← es] at kb kc kd s1 ⊢
    have hle := tk_e_le s1
    have j2 := tk_j_le T s
    have j1 : tk_j T s = 1 ↔ tk_at T s = 1 := by
      unfold tk_j
      split <;> omega
    have bad : sG (sS h1 7494 (sG h1 7491)) 7494 = iI (tk_s T q : Int) := by
      rw [sG_sS_s, kb, es]
    have fault : ClR h (sS h1 7494 (sG h1 7491)) T n a (false, q, a) := ClR.bad (by exact a1) bad p1
    have want0 := m_want_f g1.2.2.2.2.2
    have pwd : pw_ok T s a = true ↔ tk_at T s = 1 ∧ tk_e T s - s ≤ 5 ∧ ¬ (al_w a).findIdx (fun x => x == tk_l T s) < (al_w a).length := by
      unfold pw_ok
      rw [decide_eq_true_iff]
    by_cases c1 : tk_at T s = 1 ∧ tk_e T s - s ≤ 5
    · obtain ⟨at1, sz⟩ := c1
      have sne : s < tk_e T s := tk_e_gt (by omega)
      have wok : wo_ok (tk_l T s) := ⟨by rw [tk_l_len s1]; omega, by rw [tk_l_len s1]; omega, tk_l_mem s1 at1⟩
      have wr := w27_rng wok
      have mw := m_wordOf tb g1.1 p1 k1 (by rw [← es]; exact at1) (by rw [← es]; exact sz)
      rw [← es] at mw
      rw [jn_e, jn_e, kd, if_pos (show iI (tk_j T s : Int) = 1 by rw [j1.2 at1]; rfl), kc, if_neg (show ¬ (5 : Int32) < iI ((tk_e T s - s : Nat) : Int) by rw [il_5, iI_lt (by omega) (by omega) (by omega) (by omega)]; omega)]
      try dsimp only
      rw [jn_e, if_neg (by decide), mw, bd_e]
      refine lp_up (α := Int32 → Int32 → Hp → Option (Unit × Hp)) (P := fun i c => ∀ v, v = bI (∀ j, j < i → (al_w a).getD j [] ≠ tk_l T s) → ∃ h', c v (iI i) h1 = some ((), h') ∧ ClR h h' T n a (if pw_ok T s a then (true, nx T q, al_addW a (tk_l T s)) else (false, q, a))) (al_w a).length (by omega) (fun i c hi ih v hv => ?_) _ (bI_t (fun j hj => absurd hj (Nat.not_lt_zero j))).symm
      subst hv
      by_cases z : i < (al_w a).length
      · have ih := ih z
        have ew := g1.2.2.2.2.1.2.2.1 i z
        have iw := w27_rng (ok.2.2.2.1 i z)
        have we : (iI (w27 ((al_w a).getD i []) : Int) = iI (w27 (tk_l T s) : Int)) = ((al_w a).getD i [] = tk_l T s) := by
          rw [iI_eq (by omega) (by omega) (by omega) (by omega)]
          apply propext
          rw [← wx_eq (b := 27) (by omega) (ok.2.2.2.1 i z) wok]
          unfold w27
          omega
        have st : (∀ j, j < i + 1 → (al_w a).getD j [] ≠ tk_l T s) ↔ (∀ j, j < i → (al_w a).getD j [] ≠ tk_l T s) ∧ (al_w a).getD i [] ≠ tk_l T s := ⟨fun w => ⟨fun j hj => w j (by omega), w i (by omega)⟩, fun w j hj => by
          by_cases e : j = i
          · subst e; exact w.2
          · exact w.1 j (by omega)⟩
        have lt : iI (i : Int) < sG h1 7497 := by
          rw [g1.2.2.2.2.1.1, iI_lt (by omega) (by omega) (by omega) (by omega)]
          omega
        show ∃ h', (if iI (i : Int) < sG h1 7497 then _ else _) = some ((), h') ∧ _
        rw [if_pos lt, jn_e, jn_e]
        have i1 : iI (i : Int) + 1 = iI ((i + 1 : Nat) : Int) := by rw [il_1, iI_add]; exact iI_cg (by omega)
        by_cases A : ∀ j, j < i → (al_w a).getD j [] ≠ tk_l T s
        · rw [bI_t A, if_neg (by decide), gd_in (by omega) (by omega) (by omega), iI_cl (by omega) (by omega), Int.toNat_natCast, ew, i1]
          by_cases E : (al_w a).getD i [] = tk_l T s
          · rw [if_pos (we ▸ E)]
            exact ih _ (bI_f (fun w => (st.1 w).2 E)).symm
          · rw [if_neg (fun w => E (we ▸ w))]
            exact ih _ (bI_t (st.2 ⟨A, E⟩)).symm
        · rw [bI_f A, if_pos (show iI 0 = 0 from rfl), i1]
          exact ih _ (bI_f (fun w => A (st.1 w).1)).symm
      · have ei : i = (al_w a).length := by omega
        subst ei
        clear ih
        have lt : ¬ iI ((al_w a).length : Int) < sG h1 7497 := by
          rw [g1.2.2.2.2.1.1, iI_lt (by omega) (by omega) (by omega) (by omega)]
          omega
        show ∃ h', (if iI ((al_w a).length : Int) < sG h1 7497 then _ else _) = some ((), h') ∧ _
        rw [if_neg lt]
        by_cases A : ∀ j, j < (al_w a).length → (al_w a).getD j [] ≠ tk_l T s
        · have yes : pw_ok T s a = true := pwd.2 ⟨at1, sz, fi_no.2 A⟩
          rw [bI_t A, m_want_t, bd_e, jn_e, if_neg (by decide), if_pos yes, g1.2.2.2.2.1.1, gd_in (by omega) (by omega) (by omega), jl_e, iI_cl (by omega) (by omega), Int.toNat_natCast, jl_e, il_1, il_0, il_2]
          obtain ⟨r1, r2, r3, r4, r5, r6⟩ := g1
          have fz : FrX [7497] [120] h1 (sS (aS h1 120 (al_w a).length (iI (w27 (tk_l T s) : Int))) 7497 (sG (aS h1 120 (al_w a).length (iI (w27 (tk_l T s) : Int))) 7497 + iI 1)) := ((FrX.refl _ _ h1).aS (by decide) _ _).sS (by decide) _
          have gz : RgM (sS (aS h1 120 (al_w a).length (iI (w27 (tk_l T s) : Int))) 7497 (sG (aS h1 120 (al_w a).length (iI (w27 (tk_l T s) : Int))) 7497 + iI 1)) T (nx T q) n (al_addW a (tk_l T s)) (-1) := by
            refine ⟨r1.fr fz (by decide) (by decide), (fz.sg (by decide)).trans r2, r3, (fz.sg (by decide)).trans r4, ⟨?_, (fz.sg (by decide)).trans r5.2.1, fun j hj => ?_, fun j hj => (fz.ag (by decide) j).trans (r5.2.2.2 j hj)⟩, (fz.sg (by decide)).trans r6⟩
            · show sG _ 7497 = iI ((al_w a ++ [tk_l T s]).length : Int)
              rw [sG_sS_s, sG_aS, r5.1, iI_add, List.length_append, List.length_singleton]
              exact iI_cg (by omega)
            · show aG _ 120 j = iI (w27 ((al_w a ++ [tk_l T s]).getD j []) : Int)
              have hj : j < (al_w a ++ [tk_l T s]).length := hj
              rw [List.length_append, List.length_singleton] at hj
              rw [getD_app, aG_sS]
              by_cases e : j < (al_w a).length
              · rw [if_pos e, aG_aS_j (by omega)]
                exact r5.2.2.1 j e
              · rw [if_neg e, if_pos (by omega), show j = (al_w a).length by omega, aG_aS_s]
          obtain ⟨h4, e4, g4, k4, a4⟩ := m_lay gz hn 2 (w27 (tk_l T s)) 0 0 0 (tk_l T s)
          have e4' : F_X12_lay (iI 2) (iI (w27 (tk_l T s) : Int)) (iI 0) (iI 0) (iI 0) (sS (aS h1 120 (al_w a).length (iI (w27 (tk_l T s) : Int))) 7497 (sG (aS h1 120 (al_w a).length (iI (w27 (tk_l T s) : Int))) 7497 + iI 1)) = some ((), h4) := e4
          rw [e4', bd_e]
          refine ⟨h4, rfl, fun j hj => ?_, fun _ => ⟨g4, _, ⟨show (2 : Nat) ≤ 4 by omega, fun z => absurd z (show ¬ (2 : Nat) = 1 by omega), fun _ => ⟨c0, wok, rfl⟩, fun z => absurd z (show ¬ (2 : Nat) = 3 by omega), fun z => absurd z (show ¬ (2 : Nat) = 4 by omega)⟩, rfl, k4⟩, fun z => (by cases z)⟩
          rw [a4 j hj, aG_sS, aG_aS_k (by decide), aG_F, a1]
          rfl
        · have no : ¬ pw_ok T s a = true := fun w => A (fi_no.1 (pwd.1 w).2.2)
          rw [bI_f A, want0, bd_e, jn_e, if_pos (show iI 0 = 0 from rfl), if_neg no]
          exact ⟨_, rfl, fault⟩
    · have no : ¬ pw_ok T s a = true := fun w => c1 ⟨(pwd.1 w).1, (pwd.1 w).2.1⟩
      rw [if_neg no]
      have go : ∀ x : Int32, ∃ h', (lp 4000000000 (fun (c16 : Int32 → Int32 → Hp → Option (Unit × Hp)) (v13 : Int32) (v14 : Int32) (h15 : Hp) =>
          if v14 < (sG h15 7497) then (
          jn (fun (s17 : Int32) (h18 : Hp) =>
          c16 s17 (v14 + (1 : Int32)) h18) (fun j19 => jn (fun (h20 : Hp) =>
          j19 (0 : Int32) h20) (fun j21 => if v13 = 0 then (
          j21 h15) else (
          gd (inb v14 7) ( if (aG h15 120 v14.toNatClampNeg) = x then (
          j21 h15) else (
          j19 (1 : Int32) h15)))))) else (
          bd (F_X12_want v13 h15) (fun r22 h23 => jn (fun (h24 : Hp) =>
          some ((), h24)) (fun j25 => if r22 = 0 then (
          j25 h23) else (
          gd (inb (sG h23 7497) 7) ( jl (aS h23 120 (sG h23 7497).toNatClampNeg x) (fun h26 => jl (sS h26 7497 ((sG h26 7497) + (1 : Int32))) (fun h27 => bd (F_X12_lay (2 : Int32) x (0 : Int32) (0 : Int32) (0 : Int32) h27) (fun _ h28 => j25 h28))))))))) (fun _ _ _ => none)) (0 : Int32) (0 : Int32) h1 = some ((), h') ∧ ClR h h' T n a (false, q, a) := fun x => by
        refine lp_up (α := Int32 → Int32 → Hp → Option (Unit × Hp)) (P := fun i c => ∃ h', c (0 : Int32) (iI i) h1 = some ((), h') ∧ ClR h h' T n a (false, q, a)) (al_w a).length (by omega) (fun i c hi ih => ?_)
        by_cases z : i < (al_w a).length
        · have ih := ih z
          have lt : iI (i : Int) < sG h1 7497 := by
            rw [g1.2.2.2.2.1.1, iI_lt (by omega) (by omega) (by omega) (by omega)]
            omega
          have i1 : iI (i : Int) + 1 = iI ((i + 1 : Nat) : Int) := by rw [il_1, iI_add]; exact iI_cg (by omega)
          rw [if_pos lt, jn_e, jn_e, if_pos rfl, i1]
          exact ih
        · have lt : ¬ iI (i : Int) < sG h1 7497 := by
            rw [g1.2.2.2.2.1.1, iI_lt (by omega) (by omega) (by omega) (by omega)]
            omega
          have w0 : F_X12_want (0 : Int32) h1 = some (iI 0, sS h1 7494 (sG h1 7491)) := want0
          rw [if_neg lt, w0, bd_e, jn_e, if_pos (show iI 0 = 0 from rfl)]
          exact ⟨_, rfl, fault⟩
      rw [jn_e, jn_e, kd, kc]
      by_cases at1 : tk_at T s = 1
      · rw [if_pos (show iI (tk_j T s : Int) = 1 by rw [j1.2 at1]; rfl), if_pos (show (5 : Int32) < iI ((tk_e T s - s : Nat) : Int) by rw [il_5, iI_lt (by omega) (by omega) (by omega) (by omega)]; omega)]
        try dsimp only
        rw [jn_e, if_pos rfl]
        exact go 0
      · rw [if_neg (show ¬ iI (tk_j T s : Int) = 1 by rw [il_1, iI_eq (by omega) (by omega) (by omega) (by omega)]; omega)]
        try dsimp only
        rw [jn_e, if_pos rfl]
        exact go 0
  · rw [if_neg (fun w => c0 (w7 ▸ w)), if_neg c0]
    have t0 : F_X12_want (0 : Int32) h = some (iI 0, sS h 7494 (sG h 7491)) := m_want_f g.2.2.2.2.2
    try dsimp only
    rw [t0, bd_e, if_pos (show iI 0 = 0 from rfl)]
    exact ⟨_, rfl, ClR.bad (by rfl) ((sG_sS_s ..).trans k.2.1) hp⟩
theorem m_rdThing {h : Hp} {T : List Nat} (tb : TB T) {p n : Nat} {a : Alb} (ok : al_ok a) (hp : p ≤ T.length) (k : TkM h T p) (g : RgM h T (nx T p) n a (-1)) (hn : n < 24) : ∃ h', F_X12_readThing h = some ((), h') ∧ ClR h h' T n a (rd_thing T p a) := by
  have hl := tb.1
  have hnt := ok.2.2.1
  have p1 := nx_le hp
  have s1 := (tk_s_le p1).2
  have w7 : (sG h 7498 < (6 : Int32)) = ((al_k a).length < 6) := by
    rw [g.2.2.2.2.1.2.1, il_6, iI_lt (by omega) (by omega) (by omega) (by omega)]
    exact propext (by omega)
  unfold F_X12_readThing rd_thing
  rw [jn_if]
  by_cases c0 : (al_k a).length < 6
  · rw [if_pos (w7 ▸ c0), if_pos c0]
    have t1 : F_X12_want (1 : Int32) h = some (iI 1, h) := m_want_t h
    obtain ⟨h1, e1, k1, g1, a1⟩ := g.tk tb
    try dsimp only
    rw [t1, bd_e, if_neg (by decide), e1, bd_e]
    have i4 : F_X12_isWord (99 : Int32) (111 : Int32) (109 : Int32) (101 : Int32) (115 : Int32) (0 : Int32) (0 : Int32) h1 = some (bI (tk_is T (tk_s T (nx T p)) 4 = true), h1) := m_isWord tb g1.1 p1 k1 (a := 4) (by omega)
    have i5 : F_X12_isWord (103 : Int32) (111 : Int32) (101 : Int32) (115 : Int32) (0 : Int32) (0 : Int32) (0 : Int32) h1 = some (bI (tk_is T (tk_s T (nx T p)) 5 = true), h1) := m_isWord tb g1.1 p1 k1 (a := 5) (by omega)
    have i6 : F_X12_isWord (112 : Int32) (97 : Int32) (115 : Int32) (115 : Int32) (101 : Int32) (115 : Int32) (0 : Int32) h1 = some (bI (tk_is T (tk_s T (nx T p)) 6 = true), h1) := m_isWord tb g1.1 p1 k1 (a := 6) (by omega)
    have i7 : F_X12_isWord (119 : Int32) (101 : Int32) (97 : Int32) (114 : Int32) (115 : Int32) (0 : Int32) (0 : Int32) h1 = some (bI (tk_is T (tk_s T (nx T p)) 7 = true), h1) := m_isWord tb g1.1 p1 k1 (a := 7) (by omega)
    obtain ⟨q, hq⟩ : ∃ q, q = nx T p := ⟨_, rfl⟩
    rw [← hq] at k1 g1 p1 s1 i4 i5 i6 i7 ⊢
    have fault : ClR h (sS h1 7494 (sG h1 7491)) T n a (false, q, a) := ClR.bad (by exact a1) ((sG_sS_s ..).trans k1.2.1) p1
    have kr := th_k_rng T (tk_s T q)
    have tail : ∀ x : Int32, x = iI (th_k T (tk_s T q)) → ∃ h', jn (fun (s12 : Int32) (h13 : Hp) =>
        bd (F_X12_want s12 h13) (fun r15 h16 => jn (fun (h17 : Hp) =>
        some ((), h17)) (fun j18 => if r15 = 0 then (
        j18 h16) else (
        gd (inb (sG h16 7498) 6) ( jl (aS h16 121 (sG h16 7498).toNatClampNeg x) (fun h19 => jl (sS h19 7498 ((sG h19 7498) + (1 : Int32))) (fun h20 => bd (F_X12_lay (3 : Int32) x (0 : Int32) (0 : Int32) (0 : Int32) h20) (fun _ h21 => j18 h21)))))))) (fun j14 => if x = (-1 : Int32) then (
        j14 (0 : Int32) h1) else (
        j14 (1 : Int32) h1)) = some ((), h') ∧ ClR h h' T n a (if th_k T (tk_s T q) = -1 then (false, q, a) else (true, nx T q, al_addK a (th_k T (tk_s T q)).toNat)) := fun x hx => by
      subst hx
      have xe : (iI (th_k T (tk_s T q)) = (-1 : Int32)) = (th_k T (tk_s T q) = -1) := by rw [show (-1 : Int32) = iI (-1) from rfl, iI_eq (by omega) (by omega) (by omega) (by omega)]
      rw [jn_e]
      by_cases c1 : th_k T (tk_s T q) = -1
      · have w0 : F_X12_want (0 : Int32) h1 = some (iI 0, sS h1 7494 (sG h1 7491)) := m_want_f g1.2.2.2.2.2
        rw [if_pos (xe ▸ c1), if_pos c1]
        try dsimp only
        rw [w0, bd_e, jn_e, if_pos (show iI 0 = 0 from rfl)]
        exact ⟨_, rfl, fault⟩
      · have w1 : F_X12_want (1 : Int32) h1 = some (iI 1, h1) := m_want_t h1
        rw [if_neg (fun w => c1 (xe ▸ w)), if_neg c1]
        try dsimp only
        rw [w1, bd_e, jn_e, if_neg (by decide), g1.2.2.2.2.1.2.1, gd_in (by omega) (by omega) (by omega), jl_e, iI_cl (by omega) (by omega), Int.toNat_natCast, jl_e, il_1, il_0, il_3]
        obtain ⟨kd, ekd⟩ : ∃ kd : Nat, th_k T (tk_s T q) = kd := ⟨(th_k T (tk_s T q)).toNat, by omega⟩
        rw [ekd, Int.toNat_natCast]
        obtain ⟨r1, r2, r3, r4, r5, r6⟩ := g1
        have fz : FrX [7498] [121] h1 (sS (aS h1 121 (al_k a).length (iI (kd : Int))) 7498 (sG (aS h1 121 (al_k a).length (iI (kd : Int))) 7498 + iI 1)) := ((FrX.refl _ _ h1).aS (by decide) _ _).sS (by decide) _
        have gz : RgM (sS (aS h1 121 (al_k a).length (iI (kd : Int))) 7498 (sG (aS h1 121 (al_k a).length (iI (kd : Int))) 7498 + iI 1)) T (nx T q) n (al_addK a kd) (-1) := by
          refine ⟨r1.fr fz (by decide) (by decide), (fz.sg (by decide)).trans r2, r3, (fz.sg (by decide)).trans r4, ⟨(fz.sg (by decide)).trans r5.1, ?_, fun j hj => (fz.ag (by decide) j).trans (r5.2.2.1 j hj), fun j hj => ?_⟩, (fz.sg (by decide)).trans r6⟩
          · show sG _ 7498 = iI ((al_k a ++ [kd]).length : Int)
            rw [sG_sS_s, sG_aS, r5.2.1, iI_add, List.length_append, List.length_singleton]
            exact iI_cg (by omega)
          · show aG _ 121 j = iI ((al_k a ++ [kd]).getD j 0 : Int)
            have hj : j < (al_k a ++ [kd]).length := hj
            rw [List.length_append, List.length_singleton] at hj
            rw [getD_app, aG_sS]
            by_cases e : j < (al_k a).length
            · rw [if_pos e, aG_aS_j (by omega)]
              exact r5.2.2.2 j e
            · rw [if_neg e, if_pos (by omega), show j = (al_k a).length by omega, aG_aS_s]
        obtain ⟨h4, e4, g4, k4, a4⟩ := m_lay gz hn 3 kd 0 0 0 []
        have e4' : F_X12_lay (iI 3) (iI (kd : Int)) (iI 0) (iI 0) (iI 0) (sS (aS h1 121 (al_k a).length (iI (kd : Int))) 7498 (sG (aS h1 121 (al_k a).length (iI (kd : Int))) 7498 + iI 1)) = some ((), h4) := e4
        rw [e4', bd_e]
        refine ⟨h4, rfl, fun j hj => ?_, fun _ => ⟨g4, _, ⟨show (3 : Nat) ≤ 4 by omega, fun z => absurd z (show ¬ (3 : Nat) = 1 by omega), fun z => absurd z (show ¬ (3 : Nat) = 2 by omega), fun _ => ⟨c0, show kd ≤ 3 by omega⟩, fun z => absurd z (show ¬ (3 : Nat) = 4 by omega)⟩, rfl, k4⟩, fun z => (by cases z)⟩
        rw [a4 j hj, aG_sS, aG_aS_k (by decide), aG_F, a1]
        rfl
    have td : th_k T (tk_s T q) = if tk_is T (tk_s T q) 4 then 0 else if tk_is T (tk_s T q) 5 then 1 else if tk_is T (tk_s T q) 6 then 2 else if tk_is T (tk_s T q) 7 then 3 else -1 := rfl
    rw [i4, bd_e, jn_e]
    by_cases b4 : tk_is T (tk_s T q) 4 = true
    · rw [bI_t b4, if_neg (by decide)]
      exact tail 0 (by rw [td, if_pos b4]; rfl)
    · rw [bI_f b4, if_pos (show iI 0 = 0 from rfl), i5, bd_e]
      by_cases b5 : tk_is T (tk_s T q) 5 = true
      · rw [bI_t b5, if_neg (by decide)]
        exact tail 1 (by rw [td, if_neg b4, if_pos b5]; rfl)
      · rw [bI_f b5, if_pos (show iI 0 = 0 from rfl), i6, bd_e]
        by_cases b6 : tk_is T (tk_s T q) 6 = true
        · rw [bI_t b6, if_neg (by decide)]
          exact tail 2 (by rw [td, if_neg b4, if_neg b5, if_pos b6]; rfl)
        · rw [bI_f b6, if_pos (show iI 0 = 0 from rfl), i7, bd_e]
          by_cases b7 : tk_is T (tk_s T q) 7 = true
          · rw [bI_t b7, if_neg (by decide)]
            exact tail 3 (by rw [td, if_neg b4, if_neg b5, if_neg b6, if_pos b7]; rfl)
          · rw [bI_f b7, if_pos (show iI 0 = 0 from rfl)]
            exact tail (-1) (by rw [td, if_neg b4, if_neg b5, if_neg b6, if_neg b7]; rfl)
  · rw [if_neg (fun w => c0 (w7 ▸ w)), if_neg c0]
    have t0 : F_X12_want (0 : Int32) h = some (iI 0, sS h 7494 (sG h 7491)) := m_want_f g.2.2.2.2.2
    try dsimp only
    rw [t0, bd_e, if_pos (show iI 0 = 0 from rfl)]
    exact ⟨_, rfl, ClR.bad (by rfl) ((sG_sS_s ..).trans k.2.1) hp⟩
