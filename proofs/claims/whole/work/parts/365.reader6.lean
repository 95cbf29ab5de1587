-- ===== the class's reader: things =====
theorem getD_app {α : Type} {l : List α} {a d : α} {i : Nat} : (l ++ [a]).getD i d = if i < l.length then l.getD i d else if i = l.length then a else d := by
  by_cases c : i < l.length
  · rw [if_pos c, List.getD_eq_getElem?_getD, List.getElem?_append_left c, ← List.getD_eq_getElem?_getD]
  · rw [if_neg c, List.getD_eq_getElem?_getD, List.getElem?_append_right (by omega)]
    by_cases e : i = l.length
    · rw [if_pos e, e, Nat.sub_self]
      rfl
    · rw [if_neg e, List.getElem?_eq_none (by show 1 ≤ _; omega)]
      rfl
def al_addW (a : Alb) (w : List Nat) : Alb := (a.1, al_w a ++ [w], al_k a, al_p a)
def al_addK (a : Alb) (k : Nat) : Alb := (a.1, al_w a, al_k a ++ [k], al_p a)
theorem al_addW_ok {a : Alb} (h : al_ok a) {w : List Nat} (hl : (al_w a).length < 7) (hw : wo_ok w) : al_ok (al_addW a w) := by
  obtain ⟨h1, h2, h3, h4, h5, h6, h7⟩ := h
  have el : (al_w (al_addW a w)).length = (al_w a).length + 1 := by
    show (al_w a ++ [w]).length = _
    rw [List.length_append]
    rfl
  refine ⟨h1, by omega, h3, fun i hi => ?_, h5, h6, fun i hi => ?_⟩
  · show wo_ok ((al_w a ++ [w]).getD i [])
    rw [getD_app]
    by_cases c : i < (al_w a).length
    · rw [if_pos c]
      exact h4 i c
    · rw [if_neg c, if_pos (by omega)]
      exact hw
  · obtain ⟨x1, x2, x3, x4⟩ := h7 i hi
    exact ⟨Nat.lt_of_lt_of_le x1 (by omega), x2, x3, x4⟩
theorem al_addK_ok {a : Alb} (h : al_ok a) {k : Nat} (hl : (al_k a).length < 6) (hk : k ≤ 3) : al_ok (al_addK a k) := by
  obtain ⟨h1, h2, h3, h4, h5, h6, h7⟩ := h
  have el : (al_k (al_addK a k)).length = (al_k a).length + 1 := by
    show (al_k a ++ [k]).length = _
    rw [List.length_append]
    rfl
  have ek : ∀ t, t < (al_k a).length → al_kd (al_addK a k) t = al_kd a t := fun t ht => by
    show (al_k a ++ [k]).getD t 0 = _
    rw [getD_app, if_pos ht]
    rfl
  refine ⟨h1, h2, by omega, h4, fun t ht => ?_, h6, fun i hi => ?_⟩
  · show (al_k a ++ [k]).getD t 0 ≤ 3
    rw [getD_app]
    by_cases c : t < (al_k a).length
    · rw [if_pos c]
      exact h5 t c
    · rw [if_neg c, if_pos (by omega)]
      exact hk
  · obtain ⟨x1, x2, x3, x4⟩ := h7 i hi
    refine ⟨x1, Nat.lt_of_lt_of_le x2 (by omega), ?_, x4⟩
    have em : al_most (al_addK a k) ((pc_at (al_p a) i).1 % 8) = al_most a ((pc_at (al_p a) i).1 % 8) := by
      unfold al_most
      by_cases c0 : (pc_at (al_p a) i).1 % 8 = 0
      · rw [if_pos c0, if_pos c0]
      · by_cases c1 : (pc_at (al_p a) i).1 % 8 = 1
        · rw [if_neg c0, if_neg c0, if_pos c1, if_pos c1]
        · rw [if_neg c0, if_neg c0, if_neg c1, if_neg c1, ek _ (by omega)]
    show (pc_at (al_p a) i).2.1 ≤ al_most (al_addK a k) ((pc_at (al_p a) i).1 % 8)
    rw [em]
    exact x3
theorem c_addPicture {h : Hp} {a : Alb} (q : AlC 13 h a) {w : List Nat} (hl : (al_w a).length < 7) (hw : wo_ok w) : ∃ h', F_X0_addPicture 13 (iI (w5 w)) h = some ((), h') ∧ AlC 13 h' (al_addW a w) := by
  obtain ⟨a0, a1, a2, ⟨s1, s2, s3, s4⟩, a4, a5, a6⟩ := q
  have a1' : sG h 832 = iI (al_w a).length := a1
  have e1 : F_X0_addPicture 13 (iI (w5 w)) h = some ((), sS (aS h 20 (al_w a).length (iI (w5 w))) 832 (iI ((al_w a).length + 1 : Nat))) := by
    unfold F_X0_addPicture
    show (if sG h 832 < 0 then _ else if sG h 832 < 7 then gd (inb (sG h 832) 7) _ else _) = _
    rw [a1', if_neg (by show ¬ _ < iI 0; rw [iI_lt (by omega) (by omega) (by omega) (by omega)]; omega), if_pos (by show _ < iI 7; rw [iI_lt (by omega) (by omega) (by omega) (by omega)]; omega), gd_in (by omega) (by omega) (by omega), iI_cl (by omega) (by omega), jl_e, jl_e, sG_aS, a1', Int.toNat_natCast]
    have : iI ((al_w a).length : Int) + 1 = iI ((al_w a).length + 1 : Nat) := by
      show _ + iI 1 = _
      rw [iI_add]
      exact iI_cg (by omega)
    rw [this]
  have f := fr_X0_addPicture _ _ _ _ _ e1
  refine ⟨_, e1, al_addW_ok a0 hl hw, ?_, ?_, ⟨?_, ?_, ?_, s4⟩, ?_, fun i hi => ?_, fun i hi => ?_⟩
  · show _ = iI ((al_w a ++ [w]).length : Nat)
    rw [List.length_append]
    rfl
  · exact (f.sg (by decide)).trans a2
  · exact (f.sg (by decide)).trans s1
  · exact (f.sg (by decide)).trans s2
  · exact (f.sg (by decide)).trans s3
  · exact a4.fr f (by decide) (by decide) (by decide) (by decide) (by decide)
  · have hi : i < (al_w a ++ [w]).length := hi
    rw [List.length_append] at hi
    have hi : i < (al_w a).length + 1 := hi
    show aG (sS (aS h 20 (al_w a).length (iI (w5 w))) 832 _) 20 i = iI (w5 ((al_w a ++ [w]).getD i []))
    rw [getD_app, aG_sS]
    by_cases c : i < (al_w a).length
    · rw [if_pos c, aG_aS_j (by omega)]
      exact a5 i c
    · rw [if_neg c, if_pos (by omega), show i = (al_w a).length by omega, aG_aS_s]
  · exact (f.ag (by decide) i).trans (a6 i hi)
theorem c_addThing {h : Hp} {a : Alb} (q : AlC 13 h a) {k : Nat} (hl : (al_k a).length < 6) (hk : k ≤ 3) : ∃ h', F_X0_addThing 13 (iI k) h = some ((), h') ∧ AlC 13 h' (al_addK a k) := by
  obtain ⟨a0, a1, a2, ⟨s1, s2, s3, s4⟩, a4, a5, a6⟩ := q
  have a2' : sG h 833 = iI (al_k a).length := a2
  have e1 : F_X0_addThing 13 (iI k) h = some ((), sS (aS h 21 (al_k a).length (iI k)) 833 (iI ((al_k a).length + 1 : Nat))) := by
    unfold F_X0_addThing
    show (if sG h 833 < 0 then _ else if sG h 833 < 6 then gd (inb (sG h 833) 6) _ else _) = _
    rw [a2', if_neg (by show ¬ _ < iI 0; rw [iI_lt (by omega) (by omega) (by omega) (by omega)]; omega), if_pos (by show _ < iI 6; rw [iI_lt (by omega) (by omega) (by omega) (by omega)]; omega), gd_in (by omega) (by omega) (by omega), iI_cl (by omega) (by omega), jl_e, jl_e, sG_aS, a2', Int.toNat_natCast]
    have : iI ((al_k a).length : Int) + 1 = iI ((al_k a).length + 1 : Nat) := by
      show _ + iI 1 = _
      rw [iI_add]
      exact iI_cg (by omega)
    rw [this]
  have f := fr_X0_addThing _ _ _ _ _ e1
  refine ⟨_, e1, al_addK_ok a0 hl hk, ?_, ?_, ⟨?_, ?_, ?_, s4⟩, ?_, fun i hi => ?_, fun i hi => ?_⟩
  · exact (f.sg (by decide)).trans a1
  · show _ = iI ((al_k a ++ [k]).length : Nat)
    rw [List.length_append]
    rfl
  · exact (f.sg (by decide)).trans s1
  · exact (f.sg (by decide)).trans s2
  · exact (f.sg (by decide)).trans s3
  · exact a4.fr f (by decide) (by decide) (by decide) (by decide) (by decide)
  · exact (f.ag (by decide) i).trans (a5 i hi)
  · have hi : i < (al_k a ++ [k]).length := hi
    rw [List.length_append] at hi
    have hi : i < (al_k a).length + 1 := hi
    show aG (sS (aS h 21 (al_k a).length (iI k)) 833 _) 21 i = iI ((al_k a ++ [k]).getD i 0 : Nat)
    rw [getD_app, aG_sS]
    by_cases c : i < (al_k a).length
    · rw [if_pos c, aG_aS_j (by omega)]
      exact a6 i c
    · rw [if_neg c, if_pos (by omega), show i = (al_k a).length by omega, aG_aS_s]
def th_k (T : List Nat) (s : Nat) : Int := if tk_is T s 4 then 0 else if tk_is T s 5 then 1 else if tk_is T s 6 then 2 else if tk_is T s 7 then 3 else -1
theorem c_thingKind {h : Hp} {T : List Nat} (tb : TB T) {p : Nat} {a : Alb} (q : RdC h T p a) : F_X6_thingKindNamed h = some (iI (th_k T (tk_s T p)), h) := by
  obtain ⟨q1, q2, q3, hp⟩ := q
  have w := fun (n : Nat) (hn : n < 11) => c_is q1 tb.1 tb.2 hp q2 hn
  unfold F_X6_thingKindNamed th_k
  rw [w 4 (by omega), bd_e]
  by_cases c4 : tk_is T (tk_s T p) 4 = true
  · rw [if_neg (by rw [bI_zero]; exact fun z => z c4), if_pos c4]
    rfl
  rw [if_pos (by rw [bI_zero]; exact c4), if_neg c4, w 5 (by omega), bd_e]
  by_cases c5 : tk_is T (tk_s T p) 5 = true
  · rw [if_neg (by rw [bI_zero]; exact fun z => z c5), if_pos c5]
    rfl
  rw [if_pos (by rw [bI_zero]; exact c5), if_neg c5, w 6 (by omega), bd_e]
  by_cases c6 : tk_is T (tk_s T p) 6 = true
  · rw [if_neg (by rw [bI_zero]; exact fun z => z c6), if_pos c6]
    rfl
  rw [if_pos (by rw [bI_zero]; exact c6), if_neg c6, w 7 (by omega), bd_e, jn_e]
  by_cases c7 : tk_is T (tk_s T p) 7 = true
  · rw [if_neg (by rw [bI_zero]; exact fun z => z c7), if_pos c7]
    rfl
  · rw [if_pos (by rw [bI_zero]; exact c7), if_neg c7]
    rfl
theorem th_k_rng (T : List Nat) (s : Nat) : -1 ≤ th_k T s ∧ th_k T s ≤ 3 := by
  unfold th_k
  repeat' split
  all_goals omega
def rd_thing (T : List Nat) (p : Nat) (a : Alb) : Bool × Nat × Alb := if (al_k a).length < 6 then (if th_k T (tk_s T (nx T p)) = -1 then (false, nx T p, a) else (true, nx T (nx T p), al_addK a (th_k T (tk_s T (nx T p))).toNat)) else (false, p, a)
theorem c_rdThing {h : Hp} {T : List Nat} (tb : TB T) {p : Nat} {a : Alb} (q : RdC h T p a) : ∃ h', F_X6_readThing h = some (bI ((rd_thing T p a).1 = true), h') ∧ RdC h' T (rd_thing T p a).2.1 (rd_thing T p a).2.2 := by
  have a2 : sG h 833 = iI (al_k a).length := q.2.2.1.2.2.1
  have hk := q.2.2.1.1.2.2.1
  unfold F_X6_readThing rd_thing
  rw [a2]
  by_cases c : (al_k a).length < 6
  · rw [if_pos (by show _ < iI 6; rw [iI_lt (by omega) (by omega) (by omega) (by omega)]; omega), if_pos c]
    obtain ⟨h1, e1, q1⟩ := c_stepR tb q
    have r := th_k_rng T (tk_s T (nx T p))
    rw [e1, bd_e, c_thingKind tb q1, bd_e]
    by_cases d : th_k T (tk_s T (nx T p)) = -1
    · rw [if_pos (by rw [d]; rfl), if_pos d]
      exact ⟨h1, rfl, q1⟩
    · rw [if_neg (by show ¬ _ = iI (-1); rw [iI_eq (by omega) (by omega) (by omega) (by omega)]; exact d), if_neg d]
      obtain ⟨k, ek⟩ : ∃ k : Nat, th_k T (tk_s T (nx T p)) = k := ⟨(th_k T (tk_s T (nx T p))).toNat, by omega⟩
      rw [ek, Int.toNat_natCast]
      obtain ⟨t1, t2, t3, t4⟩ := q1
      obtain ⟨h2, e2, a3⟩ := c_addThing t3 c (k := k) (by omega)
      have f := fr_X0_addThing _ _ _ _ _ e2
      obtain ⟨h3, e3, q3⟩ := c_stepR tb (h := h2) (a := al_addK a k) ⟨t1.fr f (by decide) (by decide), t2.fr f (by decide) (by decide) (by decide), a3, t4⟩
      rw [e2, bd_e, e3, bd_e]
      exact ⟨h3, rfl, q3⟩
  · rw [if_neg (by show ¬ _ < iI 6; rw [iI_lt (by omega) (by omega) (by omega) (by omega)]; omega), if_neg c]
    exact ⟨h, rfl, q⟩
