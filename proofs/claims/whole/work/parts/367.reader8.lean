-- ===== the class's reader: a picture =====
def pw_ok (T : List Nat) (s : Nat) (a : Alb) : Bool := decide (tk_at T s = 1 ∧ tk_e T s - s ≤ 5 ∧ ¬ (al_w a).findIdx (fun x => x == tk_l T s) < (al_w a).length)
def rd_picture (T : List Nat) (p : Nat) (a : Alb) : Bool × Nat × Alb := if (al_w a).length < 7 then (if pw_ok T (tk_s T (nx T p)) a then (true, nx T (nx T p), al_addW a (tk_l T (tk_s T (nx T p)))) else (false, nx T p, a)) else (false, p, a)
theorem tk_l_mem {T : List Nat} {s : Nat} (hs : s ≤ T.length) (k1 : tk_at T s = 1) : ∀ c ∈ tk_l T s, 97 ≤ c ∧ c ≤ 122 := by
  intro c hc
  obtain ⟨i, hi, e⟩ := List.getElem_of_mem hc
  have hl := tk_l_len hs
  have e2 : (tk_l T s).getD i 0 = c := by
    rw [List.getD_eq_getElem?_getD, List.getElem?_eq_getElem hi, e]
    rfl
  rw [← e2, tk_l_getD (by omega)]
  exact tk_let k1 (by omega) (by omega)
theorem tk_e_gt {T : List Nat} {s : Nat} (k : tk_at T s ≠ 0) : s < tk_e T s := by
  unfold tk_e
  rw [if_neg k]
  split <;> omega
theorem c_rdPicture {h : Hp} {T : List Nat} (tb : TB T) {p : Nat} {a : Alb} (q : RdC h T p a) : ∃ h', F_X6_readPicture h = some (bI ((rd_picture T p a).1 = true), h') ∧ RdC h' T (rd_picture T p a).2.1 (rd_picture T p a).2.2 := by
  have a1 : sG h 832 = iI (al_w a).length := q.2.2.1.2.1
  have hw := q.2.2.1.1.2.1
  unfold F_X6_readPicture rd_picture
  rw [a1]
  by_cases c : (al_w a).length < 7
  · rw [if_pos (by show _ < iI 7; rw [iI_lt (by omega) (by omega) (by omega) (by omega)]; omega), if_pos c]
    obtain ⟨h1, e1, q1⟩ := c_stepR tb q
    have qq := q1
    obtain ⟨t1, ⟨k1, k2, k3⟩, t3, t4⟩ := q1
    have hs := tk_s_le t4
    have he := tk_e_le hs.2
    have hK := tk_at_le T (tk_s T (nx T p))
    have hl := tb.1
    rw [e1, bd_e, jn_e, k1, k2, k3]
    generalize hS : tk_s T (nx T p) = s at k1 k2 k3 hs he hK ⊢
    by_cases d1 : tk_at T s = 1
    · rw [if_pos (by rw [d1]; rfl)]
      by_cases d2 : tk_e T s - s ≤ 5
      · rw [if_neg (by show ¬ iI 5 < _; rw [iI_sub, iI_lt (by omega) (by omega) (by omega) (by omega)]; omega), jl_e]
        have hm := tk_l_mem hs.2 d1
        have hlen := tk_l_len hs.2
        have gt := tk_e_gt (T := T) (s := s) (by omega)
        have wo : wo_ok (tk_l T s) := ⟨by omega, by omega, hm⟩
        refine lp_up (α := Int32 → Int32 → Hp → Option (Int32 × Hp)) (P := fun j c8 => ∀ v1 v2 : Int32, v1 = iI (w5 ((tk_l T s).take j)) → v2 = iI (s + j : Nat) → ∃ h', c8 v1 v2 h1 = some (bI ((if pw_ok T s a = true then (true, nx T (nx T p), al_addW a (tk_l T s)) else (false, nx T p, a)).1 = true), h') ∧ RdC h' T (if pw_ok T s a = true then (true, nx T (nx T p), al_addW a (tk_l T s)) else (false, nx T p, a)).2.1 (if pw_ok T s a = true then (true, nx T (nx T p), al_addW a (tk_l T s)) else (false, nx T p, a)).2.2) (tk_e T s - s) (by omega) (fun j c8 hj ih => ?_) _ _ rfl rfl
        intro v1 v2 h1' h2'
        subst h1' h2'
        rw [k3]
        by_cases e : j < tk_e T s - s
        · have lt := tk_let d1 (show s ≤ s + j by omega) (by omega)
          have w4 : w5 ((tk_l T s).take j) < 1048576 := w5_lt4 (fun x hx => hm x (List.mem_of_mem_take hx)) (by rw [List.length_take]; omega)
          rw [if_pos (by rw [iI_lt (by omega) (by omega) (by omega) (by omega)]; omega), c_letterAt t1 hl (by omega), bd_e, c_lengthened (by omega) lt, bd_e]
          refine ih e _ _ ?_ ?_
          · rw [take_snoc (by omega), tk_l_getD e]
            unfold w5
            rw [wx_snoc]
          · show _ + iI 1 = _
            rw [iI_add]
            exact iI_cg (by omega)
        · have ej : (tk_l T s).take j = tk_l T s := List.take_of_length_le (by omega)
          rw [if_neg (by rw [iI_lt (by omega) (by omega) (by omega) (by omega)]; omega), ej, c_pictureNamed t3 wo, bd_e]
          by_cases f : (al_w a).findIdx (fun x => x == tk_l T s) < (al_w a).length
          · have no : ¬ pw_ok T s a = true := fun z => (of_decide_eq_true z).2.2 f
            rw [if_pos f, if_neg no, if_neg (by show ¬ _ = iI (-1); rw [iI_eq (by omega) (by omega) (by omega) (by omega)]; omega)]
            exact ⟨h1, rfl, qq⟩
          · have yes : pw_ok T s a = true := decide_eq_true ⟨d1, d2, f⟩
            rw [if_neg f, if_pos yes, if_pos (show iI (-1) = (-1 : Int32) from rfl)]
            obtain ⟨h2, e2, a3⟩ := c_addPicture t3 c wo
            have g := fr_X0_addPicture _ _ _ _ _ e2
            obtain ⟨h3, e3, q3⟩ := c_stepR tb (h := h2) (p := nx T p) (a := al_addW a (tk_l T s)) ⟨t1.fr g (by decide) (by decide), qq.2.1.fr g (by decide) (by decide) (by decide), a3, t4⟩
            rw [e2, bd_e, e3, bd_e]
            exact ⟨h3, rfl, q3⟩
      · have no : ¬ pw_ok T s a = true := fun z => d2 (of_decide_eq_true z).2.1
        rw [if_pos (by show iI 5 < _; rw [iI_sub, iI_lt (by omega) (by omega) (by omega) (by omega)]; omega), if_neg no]
        exact ⟨h1, rfl, qq⟩
    · have no : ¬ pw_ok T s a = true := fun z => d1 (of_decide_eq_true z).1
      rw [if_neg (by show ¬ _ = iI 1; rw [iI_eq (by omega) (by omega) (by omega) (by omega)]; omega), if_neg no]
      exact ⟨h1, rfl, qq⟩
  · rw [if_neg (by show ¬ _ < iI 7; rw [iI_lt (by omega) (by omega) (by omega) (by omega)]; omega), if_neg c]
    exact ⟨h, rfl, q⟩
def rd_clause (T : List Nat) (p : Nat) (a : Alb) : Bool × Nat × Alb := if tk_is T (tk_s T p) 0 then (true, nx T p, al_0) else if tk_is T (tk_s T p) 1 then rd_sun T p a else if tk_is T (tk_s T p) 2 then rd_picture T p a else if tk_is T (tk_s T p) 3 then rd_thing T p a else if tk_is T (tk_s T p) 8 then rd_shadow 0 T p a else if tk_is T (tk_s T p) 9 then rd_shadow 1 T p a else if tk_is T (tk_s T p) 10 then rd_see T p a else (false, p, a)
theorem bI_isB2 (b : Bool) : isB (bI (b = true)) = true := by cases b <;> rfl
theorem c_rdClause {h : Hp} {T : List Nat} (tb : TB T) {p : Nat} {a : Alb} (q : RdC h T p a) : ∃ h', F_X6_readClause h = some (bI ((rd_clause T p a).1 = true), h') ∧ RdC h' T (rd_clause T p a).2.1 (rd_clause T p a).2.2 := by
  have w := fun (n : Nat) (hn : n < 11) => c_is q.1 tb.1 tb.2 q.2.2.2 q.2.1 hn
  unfold F_X6_readClause rd_clause
  rw [w 0 (by omega), bd_e]
  by_cases c0 : tk_is T (tk_s T p) 0 = true
  · obtain ⟨h', e, r⟩ := c_readAlbum tb q
    rw [if_neg (by rw [bI_zero]; exact fun z => z c0), if_pos c0, e, bd_e]
    exact ⟨h', rfl, r⟩
  rw [if_pos (by rw [bI_zero]; exact c0), if_neg c0, w 1 (by omega), bd_e]
  by_cases c1 : tk_is T (tk_s T p) 1 = true
  · obtain ⟨h', e, r⟩ := c_readSun tb q
    rw [if_neg (by rw [bI_zero]; exact fun z => z c1), if_pos c1, e, bd_e, bI_isB2, gd_t]
    exact ⟨h', rfl, r⟩
  rw [if_pos (by rw [bI_zero]; exact c1), if_neg c1, w 2 (by omega), bd_e]
  by_cases c2 : tk_is T (tk_s T p) 2 = true
  · obtain ⟨h', e, r⟩ := c_rdPicture tb q
    rw [if_neg (by rw [bI_zero]; exact fun z => z c2), if_pos c2, e, bd_e, bI_isB2, gd_t]
    exact ⟨h', rfl, r⟩
  rw [if_pos (by rw [bI_zero]; exact c2), if_neg c2, w 3 (by omega), bd_e]
  by_cases c3 : tk_is T (tk_s T p) 3 = true
  · obtain ⟨h', e, r⟩ := c_rdThing tb q
    rw [if_neg (by rw [bI_zero]; exact fun z => z c3), if_pos c3, e, bd_e, bI_isB2, gd_t]
    exact ⟨h', rfl, r⟩
  rw [if_pos (by rw [bI_zero]; exact c3), if_neg c3, w 8 (by omega), bd_e]
  by_cases c8 : tk_is T (tk_s T p) 8 = true
  · obtain ⟨h', e, r⟩ := c_rdShadow tb q (m := 0) (by omega)
    have e' : F_X6_readShadow (0 : Int32) h = some (bI ((rd_shadow 0 T p a).1 = true), h') := e
    rw [if_neg (by rw [bI_zero]; exact fun z => z c8), if_pos c8, e', bd_e, bI_isB2, gd_t]
    exact ⟨h', rfl, r⟩
  rw [if_pos (by rw [bI_zero]; exact c8), if_neg c8, w 9 (by omega), bd_e]
  by_cases c9 : tk_is T (tk_s T p) 9 = true
  · obtain ⟨h', e, r⟩ := c_rdShadow tb q (m := 1) (by omega)
    have e' : F_X6_readShadow (1 : Int32) h = some (bI ((rd_shadow 1 T p a).1 = true), h') := e
    rw [if_neg (by rw [bI_zero]; exact fun z => z c9), if_pos c9, e', bd_e, bI_isB2, gd_t]
    exact ⟨h', rfl, r⟩
  rw [if_pos (by rw [bI_zero]; exact c9), if_neg c9, w 10 (by omega), bd_e, jn_e, jn_e]
  by_cases c10 : tk_is T (tk_s T p) 10 = true
  · obtain ⟨h', e, r⟩ := c_rdSee tb q
    rw [if_neg (by rw [bI_zero]; exact fun z => z c10), if_pos c10, e, bd_e]
    refine ⟨h', ?_, r⟩
    by_cases z : (rd_see T p a).1 = true
    · rw [if_neg (by rw [bI_zero]; exact fun y => y z), bI_t z]
      rfl
    · rw [if_pos (by rw [bI_zero]; exact z), bI_f z]
      rfl
  · rw [if_pos (by rw [bI_zero]; exact c10), if_neg c10]
    exact ⟨h, rfl, q⟩
