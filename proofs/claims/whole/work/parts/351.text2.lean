-- ===== the class's text: the whole word, find =====
def tx_w (T : List Nat) : List Nat := T.filter (fun c => c != 32)
def wo_b (l : List Nat) : Bool := decide (1 ≤ l.length) && decide (l.length ≤ 5) && l.all (fun c => decide (97 ≤ c) && decide (c ≤ 122))
theorem wo_p {l : List Nat} : wo_b l = true ↔ wo_ok l := by
  unfold wo_b wo_ok
  simp only [Bool.and_eq_true, decide_eq_true_eq, List.all_eq_true]
  exact ⟨fun z => ⟨z.1.1, z.1.2, z.2⟩, fun z => ⟨⟨z.1, z.2.1⟩, z.2.2⟩⟩
theorem take_snoc {T : List Nat} {k : Nat} (hk : k < T.length) : T.take (k + 1) = T.take k ++ [T.getD k 0] := by
  rw [List.take_succ, List.getD_eq_getElem?_getD, List.getElem?_eq_getElem hk]
  rfl
theorem tx_pre (T : List Nat) (k : Nat) : tx_w T = tx_w (T.take k) ++ tx_w (T.drop k) := by
  unfold tx_w
  rw [← List.filter_append, List.take_append_drop]
theorem tx_snoc {T : List Nat} {k : Nat} (hk : k < T.length) : tx_w (T.take (k + 1)) = tx_w (T.take k) ++ (if T.getD k 0 = 32 then [] else [T.getD k 0]) := by
  rw [take_snoc hk]
  unfold tx_w
  rw [List.filter_append]
  by_cases c : T.getD k 0 = 32
  · rw [if_pos c, c]
    rfl
  · rw [if_neg c]
    congr 1
    rw [List.filter_cons_of_pos (by simpa using c)]
    rfl
def tx_r (T : List Nat) : Int := if wo_b (tx_w T) then (w5 (tx_w T) : Int) else -1
theorem w5_lt4 {l : List Nat} (h : ∀ c ∈ l, 97 ≤ c ∧ c ≤ 122) (hl : l.length ≤ 4) : w5 l < 1048576 := by
  have := (wx_rng (b := 32) (by omega) l.length l rfl h).1
  have h2 : 32 ^ l.length ≤ 32 ^ 4 := Nat.pow_le_pow_right (by omega) hl
  have h3 : w5 l < 32 ^ l.length := this
  omega
theorem w5_lt5 {l : List Nat} (h : ∀ c ∈ l, 97 ≤ c ∧ c ≤ 122) (hl : l.length ≤ 5) : w5 l < 33554432 := by
  have := (wx_rng (b := 32) (by omega) l.length l rfl h).1
  have h2 : 32 ^ l.length ≤ 32 ^ 5 := Nat.pow_le_pow_right (by omega) hl
  have h3 : w5 l < 32 ^ l.length := this
  omega
theorem c_wholeWord {h : Hp} {T : List Nat} (q : TxC h T) (hl : T.length ≤ 200) (hb : ∀ i, i < T.length → T.getD i 0 ≤ 255) : F_X10_wholeWord h = some (iI (tx_r T), h) := by
  have e0 : sG h 64 = iI T.length := q.1
  unfold F_X10_wholeWord
  refine lp_up (α := Int32 → Int32 → Int32 → Hp → Option (Int32 × Hp)) (P := fun k c8 => ∀ v1 v2 v3 : Int32, v1 = iI (w5 (tx_w (T.take k))) → v2 = iI (tx_w (T.take k)).length → v3 = iI k → (tx_w (T.take k)).length ≤ 5 → (∀ c ∈ tx_w (T.take k), 97 ≤ c ∧ c ≤ 122) → c8 v1 v2 v3 h = some (iI (tx_r T), h)) T.length (by omega) (fun k c8 hk ih => ?_) _ _ _ rfl rfl rfl (Nat.zero_le _) (fun c hc => absurd hc (by simp [tx_w]))
  intro v1 v2 v3 h1 h2 h3 i1 i2
  subst h1 h2 h3
  by_cases c : k < T.length
  · have lt : iI (k : Int) < sG h 64 := by
      rw [e0, iI_lt (by omega) (by omega) (by omega) (by omega)]
      omega
    have hc := hb k c
    rw [if_pos lt, c_letterAt q hl c, bd_e, jn_e]
    have nx := tx_snoc c
    have k1 : iI (k : Int) + 1 = iI ((k + 1 : Nat) : Int) := by
      show iI (k : Int) + iI 1 = _
      rw [iI_add]
      exact iI_cg (by omega)
    by_cases d : T.getD k 0 = 32
    · rw [if_pos d, List.append_nil] at nx
      rw [if_pos (by rw [d]; rfl), k1]
      exact ih c _ _ _ (by rw [nx]) (by rw [nx]) rfl (by rw [nx]; exact i1) (by rw [nx]; exact i2)
    · rw [if_neg d] at nx
      have hne : ¬ iI (T.getD k 0 : Int) = 32 := by
        show ¬ iI (T.getD k 0 : Int) = iI 32
        rw [iI_eq (by omega) (by omega) (by omega) (by omega)]
        omega
      have full : tx_w T = tx_w (T.take k) ++ [T.getD k 0] ++ tx_w (T.drop (k + 1)) := by rw [← nx, ← tx_pre]
      rw [if_neg hne, c_letterKind hc, bd_e, jn_e]
      by_cases e : 97 ≤ T.getD k 0 ∧ T.getD k 0 ≤ 122
      · have ek : tk_k (T.getD k 0) = 1 := if_pos e
        rw [ek, if_pos (show iI ((1 : Nat) : Int) = 1 from rfl)]
        by_cases g : (tx_w (T.take k)).length = 5
        · rw [if_pos (by rw [g]; rfl)]
          have no : ¬ wo_b (tx_w T) = true := by
            rw [wo_p]
            intro z
            have := z.2.1
            rw [full, List.length_append, List.length_append, List.length_singleton] at this
            omega
          unfold tx_r
          rw [if_neg no]
          rfl
        · have hg : ¬ iI ((tx_w (T.take k)).length : Int) = 5 := by
            show ¬ iI ((tx_w (T.take k)).length : Int) = iI 5
            rw [iI_eq (by omega) (by omega) (by omega) (by omega)]
            omega
          have lt4 := w5_lt4 i2 (by omega)
          rw [if_neg hg, c_lengthened (by omega) e, bd_e, k1]
          have l1 : iI ((tx_w (T.take k)).length : Int) + 1 = iI (((tx_w (T.take k)).length + 1 : Nat) : Int) := by
            show iI ((tx_w (T.take k)).length : Int) + iI 1 = _
            rw [iI_add]
            exact iI_cg (by omega)
          rw [l1]
          refine ih c _ _ _ ?_ ?_ rfl ?_ ?_
          · rw [nx]
            unfold w5
            rw [wx_snoc]
          · rw [nx, List.length_append, List.length_singleton]
          · rw [nx, List.length_append, List.length_singleton]
            omega
          · intro x hx
            rw [nx, List.mem_append, List.mem_singleton] at hx
            rcases hx with hx | hx
            · exact i2 x hx
            · rw [hx]; exact e
      · have ek : ¬ iI (tk_k (T.getD k 0) : Int) = 1 := by
          show ¬ iI (tk_k (T.getD k 0) : Int) = iI 1
          have : tk_k (T.getD k 0) ≠ 1 ∧ tk_k (T.getD k 0) ≤ 3 := by
            unfold tk_k
            rw [if_neg e]
            split <;> omega
          rw [iI_eq (by omega) (by omega) (by omega) (by omega)]
          omega
        rw [if_neg ek]
        have no : ¬ wo_b (tx_w T) = true := by
          rw [wo_p]
          intro z
          exact e (z.2.2 _ (by rw [full]; simp))
        unfold tx_r
        rw [if_neg no]
        rfl
  · have ek : k = T.length := by omega
    have lt : ¬ iI (k : Int) < sG h 64 := by
      rw [e0, iI_lt (by omega) (by omega) (by omega) (by omega)]
      omega
    have et : T.take k = T := by rw [ek, List.take_length]
    rw [et] at i1 i2
    rw [if_neg lt, jn_e, et]
    unfold tx_r
    by_cases g : (tx_w T).length = 0
    · rw [if_pos (by rw [g]; rfl), if_neg (by rw [wo_p]; intro z; have := z.1; omega)]
      rfl
    · rw [if_neg (by show ¬ iI ((tx_w T).length : Int) = iI 0; rw [iI_eq (by omega) (by omega) (by omega) (by omega)]; omega), if_pos (wo_p.2 ⟨by omega, i1, i2⟩)]
theorem c_namedNone {t : Nat} {h : Hp} {a : Alb} (q : AlC t h a) : F_X0_pictureNamed t (iI (-1)) h = some (iI (-1), h) := by
  have h1 := q.1.2.1
  unfold F_X0_pictureNamed
  refine lp_up (α := Int32 → Hp → Option (Int32 × Hp)) (P := fun k c => c (iI k) h = some (iI (-1), h)) (al_w a).length (by omega) (fun k c hk ih => ?_)
  by_cases z : k < (al_w a).length
  · have w := w5_rng (q.1.2.2.2.1 k z)
    simp (maxSteps := 3000000) (implicitDefEqProofs := false) (disch := omega) only [jl_e, jn_e, bd_e, gd_t, iI_add, iI_sub, iI_mul, iI_neg, if_true, if_false, not_true_eq_false, not_false_eq_true, Int.reduceEq, Nat.add_zero, Int.toNat_natCast, iI_cl, iI_lt, iI_eq, gd_in, bI_eq0, bI_eq1, bI_isB, isB_0, isB_1, il_0, il_1, il_2, il_3, il_4, il_5, il_6, il_7, il_8, il_9, il_10, il_12, il_16, il_18, il_24, il_27, il_30, il_31, il_32, il_40, il_47, il_48, il_49, il_55, il_56, il_57, il_59, il_63, il_64, il_96, il_97, il_98, il_99, il_101, il_103, il_104, il_105, il_108, il_109, il_110, il_111, il_112, il_114, il_115, il_116, il_117, il_119, il_122, il_127, il_128, il_200, il_225, il_255, il_256, il_999, il_1575, il_9999, il_65536, il_252645135, il_858993459, il_1431655765, q.2.1, q.2.2.2.2.2.1 k z]
    rw [if_pos (by omega), if_pos (by omega)]
    (try simp (maxSteps := 3000000) (implicitDefEqProofs := false) (disch := omega) only [jl_e, jn_e, bd_e, gd_t, iI_add, iI_sub, iI_mul, iI_neg, if_true, if_false, not_true_eq_false, not_false_eq_true, Int.reduceEq, Nat.add_zero, Int.toNat_natCast, iI_cl, iI_lt, iI_eq, gd_in, bI_eq0, bI_eq1, bI_isB, isB_0, isB_1, il_0, il_1, il_2, il_3, il_4, il_5, il_6, il_7, il_8, il_9, il_10, il_12, il_16, il_18, il_24, il_27, il_30, il_31, il_32, il_40, il_47, il_48, il_49, il_55, il_56, il_57, il_59, il_63, il_64, il_96, il_97, il_98, il_99, il_101, il_103, il_104, il_105, il_108, il_109, il_110, il_111, il_112, il_114, il_115, il_116, il_117, il_119, il_122, il_127, il_128, il_200, il_225, il_255, il_256, il_999, il_1575, il_9999, il_65536, il_252645135, il_858993459, il_1431655765])
    rw [if_neg (by omega)]
    exact ih z
  · simp (maxSteps := 3000000) (implicitDefEqProofs := false) (disch := omega) only [jl_e, jn_e, bd_e, gd_t, iI_add, iI_sub, iI_mul, iI_neg, if_true, if_false, not_true_eq_false, not_false_eq_true, Int.reduceEq, Nat.add_zero, Int.toNat_natCast, iI_cl, iI_lt, iI_eq, gd_in, bI_eq0, bI_eq1, bI_isB, isB_0, isB_1, il_0, il_1, il_2, il_3, il_4, il_5, il_6, il_7, il_8, il_9, il_10, il_12, il_16, il_18, il_24, il_27, il_30, il_31, il_32, il_40, il_47, il_48, il_49, il_55, il_56, il_57, il_59, il_63, il_64, il_96, il_97, il_98, il_99, il_101, il_103, il_104, il_105, il_108, il_109, il_110, il_111, il_112, il_114, il_115, il_116, il_117, il_119, il_122, il_127, il_128, il_200, il_225, il_255, il_256, il_999, il_1575, il_9999, il_65536, il_252645135, il_858993459, il_1431655765, q.2.1]
    rw [if_neg (by omega)]
def A_find (s : Sta) : Int := if wo_b (tx_w (st_t s)) then (if (al_w (st_a s)).findIdx (fun x => x == tx_w (st_t s)) < (al_w (st_a s)).length then ((al_w (st_a s)).findIdx (fun x => x == tx_w (st_t s)) : Int) else -1) else -1
theorem C_find {h : Hp} {s : Sta} (q : JC h s) : ∃ h', F_X11_find h = some (iI (A_find s), h') ∧ JC h' s := by
  unfold F_X11_find A_find
  rw [c_wholeWord q.2.1 q.1.1.1 q.1.1.2, bd_e]
  unfold tx_r
  by_cases c : wo_b (tx_w (st_t s)) = true
  · rw [if_pos c, if_pos c, c_pictureNamed q.2.2.1 (wo_p.1 c), bd_e]
    exact ⟨h, rfl, q⟩
  · rw [if_neg c, if_neg c, c_namedNone q.2.2.1, bd_e]
    exact ⟨h, rfl, q⟩
