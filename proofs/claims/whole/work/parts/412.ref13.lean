-- ===== the reference's questions =====
theorem sm_add (f g : Nat → Nat) : ∀ n, ro_sm (fun i => f i + g i) n = ro_sm f n + ro_sm g n
  | 0 => rfl
  | n + 1 => by
    show ro_sm (fun i => f i + g i) n + (f n + g n) = (ro_sm f n + f n) + (ro_sm g n + g n)
    rw [sm_add f g n]
    omega
theorem sm_0 : ∀ n, ro_sm (fun _ => 0) n = 0
  | 0 => rfl
  | n + 1 => by
    show ro_sm (fun _ => 0) n + 0 = 0
    rw [sm_0 n]
theorem sm_swap (g : Nat → Nat → Nat) (N : Nat) : ∀ M, ro_sm (fun i => ro_sm (fun m => g i m) M) N = ro_sm (fun m => ro_sm (fun i => g i m) N) M
  | 0 => sm_0 N
  | M + 1 => by
    show ro_sm (fun i => ro_sm (fun m => g i m) M + g i M) N = ro_sm (fun m => ro_sm (fun i => g i m) N) M + ro_sm (fun i => g i M) N
    rw [sm_add, sm_swap g N M]
theorem sm_one {f : Nat → Nat} {j : Nat} : ∀ n, (∀ i, i < n → i ≠ j → f i = 0) → ro_sm f n = if j < n then f j else 0
  | 0, _ => rfl
  | n + 1, h => by
    show ro_sm f n + f n = _
    rw [sm_one n (fun i hi => h i (by omega))]
    by_cases e : n = j
    · subst e
      rw [if_neg (by omega), if_pos (by omega), Nat.zero_add]
    · rw [h n (by omega) e, Nat.add_zero]
      by_cases c : j < n
      · rw [if_pos c, if_pos (by omega)]
      · rw [if_neg c, if_neg (by omega)]
theorem sm_none {f : Nat → Nat} {n : Nat} (h : ∀ i, i < n → f i = 0) : ro_sm f n = 0 := by
  rw [ro_sm_congr h, sm_0]
/-- so many pieces of a picture, by their keys -/
theorem pc_many {L : List Pc} (ok : pc_ok L) (p : Nat) : ro_sm (fun i => if (pc_at L i).1 / 8 = p then 1 else 0) L.length = ro_sm (fun m => if pc_n L (8 * p + m) = -1 then 0 else 1) 8 := by
  have e1 : ∀ i, i < L.length → (if (pc_at L i).1 / 8 = p then 1 else 0) = ro_sm (fun m => if (pc_at L i).1 = 8 * p + m then 1 else 0) 8 := fun i _ => by
    by_cases c : (pc_at L i).1 / 8 = p
    · rw [if_pos c, sm_one (j := (pc_at L i).1 % 8) 8 (fun m _ hm => by rw [if_neg (by omega)]), if_pos (by omega), if_pos (by omega)]
    · rw [if_neg c]
      exact (sm_none (fun m hm => by rw [if_neg (by omega)])).symm
  rw [ro_sm_congr e1, sm_swap]
  refine ro_sm_congr (fun m _ => ?_)
  have r := pc_n_rng ok (8 * p + m)
  by_cases w : pc_ix L (8 * p + m) < L.length
  · have k := pc_ix_key w
    rw [if_neg (by have := r.2.2.2 w; omega), sm_one (j := pc_ix L (8 * p + m)) L.length (fun i il hi => if_neg (fun c => hi (pc_ix_eq ok il c).symm)), if_pos w, if_pos k]
  · rw [if_pos (r.2.2.1.2 w)]
    exact sm_none (fun i hi => if_neg (fun e => w (by rw [pc_ix_eq ok hi e]; exact hi)))
theorem take_pre {l : List Nat} {n : Nat} (h : n < l.length) : l.take (n + 1) = l.take n ++ [l.getD n 0] := take_snoc h
theorem m_lettersOf {h : Hp} {a : Alb} (q : AmC h a) {p : Nat} (hp : p < (al_w a).length) : F_X12_lettersOf (iI p) h = some (iI (((al_w a).getD p []).length : Int), h) := by
  have h7 := q.1.2.1
  have ew := q.2.2.2.2.1 p hp
  have ok := q.1.2.2.2.1 p hp
  generalize (al_w a).getD p [] = W at *
  have rng : ∀ n, n ≤ W.length → w27 (W.take n) < 14348907 := fun n hn => w27_lt (fun c hc => ok.2.2 c (List.mem_of_mem_take hc)) (by rw [List.length_take]; have := ok.2.1; omega)
  have pos : ∀ n, n < W.length → 0 < w27 (W.take (n + 1)) ∧ w27 (W.take (n + 1)) / 27 = w27 (W.take n) := fun n hn => by
    have m := ok.2.2 _ (ro_get_mem.2 ⟨n, hn, rfl⟩)
    unfold w27
    rw [take_pre hn, wx_snoc]
    omega
  have len5 := ok.2.1
  unfold F_X12_lettersOf
  rw [gd_in (by omega) (by omega) (by omega), jl_e, iI_cl (by omega) (by omega), Int.toNat_natCast, ew]
  refine lp_up (α := Int32 → Int32 → Hp → Option (Int32 × Hp)) (P := fun k c => ∀ v, v = iI (w27 (W.take (W.length - k)) : Int) → c (iI k) v h = some (iI (W.length : Int), h)) W.length (by omega) (fun k c hk ih v hv => ?_) _ (by rw [Nat.sub_zero, List.take_length])
  subst hv
  by_cases z : k < W.length
  · have ih := ih z
    have ps := pos (W.length - k - 1) (by omega)
    have rg := rng (W.length - k) (by omega)
    rw [show W.length - k - 1 + 1 = W.length - k by omega] at ps
    simp (maxSteps := 3000000) (implicitDefEqProofs := false) (disch := omega) only [jl_e, jn_e, bd_e, gd_t, iI_add, iI_sub, iI_mul, iI_neg, if_true, if_false, not_true_eq_false, not_false_eq_true, Int.reduceEq, Nat.add_zero, Int.toNat_natCast, iI_cl, iI_lt, iI_eq, gd_in, bI_eq0, bI_eq1, bI_isB, isB_0, isB_1, il_0, il_1, il_2, il_3, il_4, il_5, il_6, il_7, il_8, il_9, il_10, il_12, il_16, il_18, il_24, il_27, il_30, il_31, il_32, il_40, il_47, il_48, il_49, il_55, il_56, il_57, il_59, il_63, il_64, il_96, il_97, il_98, il_99, il_101, il_103, il_104, il_105, il_108, il_109, il_110, il_111, il_112, il_114, il_115, il_116, il_117, il_119, il_122, il_127, il_128, il_200, il_225, il_255, il_256, il_999, il_1575, il_9999, il_65536, il_252645135, il_858993459, il_1431655765]
    rw [if_pos (by omega), iI_div (by omega) (by omega) (by omega) (by omega)]
    refine ih _ ?_
    rw [show W.length - (k + 1) = W.length - k - 1 by omega, ← ps.2]
    exact iI_cg (by omega)
  · have e0 : w27 (W.take (W.length - k)) = 0 := by
      rw [show W.length - k = 0 by omega, List.take_zero]
      rfl
    rw [e0]
    simp (maxSteps := 3000000) (implicitDefEqProofs := false) (disch := omega) only [jl_e, jn_e, bd_e, gd_t, iI_add, iI_sub, iI_mul, iI_neg, if_true, if_false, not_true_eq_false, not_false_eq_true, Int.reduceEq, Nat.add_zero, Int.toNat_natCast, iI_cl, iI_lt, iI_eq, gd_in, bI_eq0, bI_eq1, bI_isB, isB_0, isB_1, il_0, il_1, il_2, il_3, il_4, il_5, il_6, il_7, il_8, il_9, il_10, il_12, il_16, il_18, il_24, il_27, il_30, il_31, il_32, il_40, il_47, il_48, il_49, il_55, il_56, il_57, il_59, il_63, il_64, il_96, il_97, il_98, il_99, il_101, il_103, il_104, il_105, il_108, il_109, il_110, il_111, il_112, il_114, il_115, il_116, il_117, il_119, il_122, il_127, il_128, il_200, il_225, il_255, il_256, il_999, il_1575, il_9999, il_65536, il_252645135, il_858993459, il_1431655765]
    rw [if_neg (by omega), show k = W.length by omega]
theorem bf_np {a : Alb} (h : al_ok a) {q p : Nat} (e : bf_b a q p = true) : q < (al_w a).length := by
  have key : ∀ k p, wa_b (ah_n a (al_k a).length) k q p = true → q < (al_w a).length := by
    intro k
    induction k with
    | zero => intro p e; exact (ah_np h _ h.2.2.1 q p e).1
    | succ k ih =>
      intro p e
      rcases (wa_s _ k q p).1 e with c | c
      · exact ih p c
      · exact ih k c.2
  exact key 7 p e
theorem ct_bm (f : Nat → Bool) : ro_ct (bm f 7) = ro_sm (fun i => if f i = true then 1 else 0) 7 := by
  unfold ro_ct
  refine ro_sm_congr (fun i hi => ?_)
  rw [bm_tb, decide_eq_true hi, Bool.true_and]
theorem sm_np {f : Nat → Nat} {n : Nat} (hn : n ≤ 7) (h : ∀ i, n ≤ i → f i = 0) : ro_sm f 7 = ro_sm f n := by
  obtain ⟨d, hd⟩ : ∃ d, 7 = n + d := ⟨7 - n, by omega⟩
  rw [hd]
  exact sm_zero d (fun i h1 _ => h i h1)
theorem sm_le1 {f : Nat → Prop} [∀ i, Decidable (f i)] (n : Nat) : ro_sm (fun i => if f i then 1 else 0) n ≤ n := by
  have := ro_sm_le (f := fun i => if f i then 1 else 0) (c := 1) (n := n) (fun m _ => by show (if _ then 1 else 0) ≤ 1; split <;> omega)
  omega
theorem m_countOf1 {h : Hp} {a : Alb} (q : AmC h a) {p : Nat} (hp : p < 7) : F_X12_countOf (iI p) (iI 1) h = some (iI (ro_sm (fun m => if pc_n (al_p a) (8 * p + m) = -1 then 0 else 1) 8 : Int), h) := by
  have hl := pc_len q.1.hp
  rw [← pc_many q.1.hp]
  unfold F_X12_countOf
  refine lp_up (α := Int32 → Int32 → Hp → Option (Int32 × Hp)) (P := fun k c => c (iI (ro_sm (fun i => if (pc_at (al_p a) i).1 / 8 = p then 1 else 0) k : Int)) (iI k) h = some (iI (ro_sm (fun i => if (pc_at (al_p a) i).1 / 8 = p then 1 else 0) (al_p a).length : Int), h)) (al_p a).length (by omega) (fun k c hk ih => ?_)
  by_cases z : k < (al_p a).length
  · have ih := ih z
    obtain ⟨a1, -⟩ := q.nw.at z
    have e : ro_sm (fun i => if (pc_at (al_p a) i).1 / 8 = p then 1 else 0) (k + 1) = ro_sm (fun i => if (pc_at (al_p a) i).1 / 8 = p then 1 else 0) k + if (pc_at (al_p a) k).1 / 8 = p then 1 else 0 := rfl
    rw [e] at ih
    have k56 := (q.1.hp.2 k z).1
    simp (maxSteps := 3000000) (implicitDefEqProofs := false) (disch := omega) only [jl_e, jn_e, bd_e, gd_t, iI_add, iI_sub, iI_mul, iI_neg, if_true, if_false, not_true_eq_false, not_false_eq_true, Int.reduceEq, Nat.add_zero, Int.toNat_natCast, iI_cl, iI_lt, iI_eq, gd_in, bI_eq0, bI_eq1, bI_isB, isB_0, isB_1, il_0, il_1, il_2, il_3, il_4, il_5, il_6, il_7, il_8, il_9, il_10, il_12, il_16, il_18, il_24, il_27, il_30, il_31, il_32, il_40, il_47, il_48, il_49, il_55, il_56, il_57, il_59, il_63, il_64, il_96, il_97, il_98, il_99, il_101, il_103, il_104, il_105, il_108, il_109, il_110, il_111, il_112, il_114, il_115, il_116, il_117, il_119, il_122, il_127, il_128, il_200, il_225, il_255, il_256, il_999, il_1575, il_9999, il_65536, il_252645135, il_858993459, il_1431655765, tn0, tn41, q.nw.l, a1]
    rw [if_pos (by omega)]
    by_cases c1 : (pc_at (al_p a) k).1 / 8 = p
    · rw [if_pos c1] at ih
      rw [if_pos (by omega)]
      exact ih
    · rw [if_neg c1] at ih
      rw [if_neg (by omega)]
      exact ih
  · simp (maxSteps := 3000000) (implicitDefEqProofs := false) (disch := omega) only [jl_e, jn_e, bd_e, gd_t, iI_add, iI_sub, iI_mul, iI_neg, if_true, if_false, not_true_eq_false, not_false_eq_true, Int.reduceEq, Nat.add_zero, Int.toNat_natCast, iI_cl, iI_lt, iI_eq, gd_in, bI_eq0, bI_eq1, bI_isB, isB_0, isB_1, il_0, il_1, il_2, il_3, il_4, il_5, il_6, il_7, il_8, il_9, il_10, il_12, il_16, il_18, il_24, il_27, il_30, il_31, il_32, il_40, il_47, il_48, il_49, il_55, il_56, il_57, il_59, il_63, il_64, il_96, il_97, il_98, il_99, il_101, il_103, il_104, il_105, il_108, il_109, il_110, il_111, il_112, il_114, il_115, il_116, il_117, il_119, il_122, il_127, il_128, il_200, il_225, il_255, il_256, il_999, il_1575, il_9999, il_65536, il_252645135, il_858993459, il_1431655765, tn0, q.nw.l]
    rw [if_neg (by omega), show k = (al_p a).length by omega]
theorem m_countOf0 {h : Hp} {a : Alb} (q : AmC h a) {p : Nat} (hp : p < 7) : F_X12_countOf (iI p) (iI 0) h = some (iI (ro_ct (bm (fun k => bf_b a k p) 7) : Int), h) := by
  have h7 := q.1.2.1
  rw [ct_bm, sm_np h7 (fun i hi => if_neg (fun e => by have := bf_np q.1 e; omega))]
  unfold F_X12_countOf
  refine lp_up (α := Int32 → Int32 → Hp → Option (Int32 × Hp)) (P := fun k c => c (iI (ro_sm (fun i => if bf_b a i p = true then 1 else 0) k : Int)) (iI k) h = some (iI (ro_sm (fun i => if bf_b a i p = true then 1 else 0) (al_w a).length : Int), h)) (al_w a).length (by omega) (fun k c hk ih => ?_)
  by_cases z : k < (al_w a).length
  · have ih := ih z
    have e : ro_sm (fun i => if bf_b a i p = true then 1 else 0) (k + 1) = ro_sm (fun i => if bf_b a i p = true then 1 else 0) k + if bf_b a k p = true then 1 else 0 := rfl
    rw [e] at ih
    simp (maxSteps := 3000000) (implicitDefEqProofs := false) (disch := omega) only [jl_e, jn_e, bd_e, gd_t, iI_add, iI_sub, iI_mul, iI_neg, if_true, if_false, not_true_eq_false, not_false_eq_true, Int.reduceEq, Nat.add_zero, Int.toNat_natCast, iI_cl, iI_lt, iI_eq, gd_in, bI_eq0, bI_eq1, bI_isB, isB_0, isB_1, il_0, il_1, il_2, il_3, il_4, il_5, il_6, il_7, il_8, il_9, il_10, il_12, il_16, il_18, il_24, il_27, il_30, il_31, il_32, il_40, il_47, il_48, il_49, il_55, il_56, il_57, il_59, il_63, il_64, il_96, il_97, il_98, il_99, il_101, il_103, il_104, il_105, il_108, il_109, il_110, il_111, il_112, il_114, il_115, il_116, il_117, il_119, il_122, il_127, il_128, il_200, il_225, il_255, il_256, il_999, il_1575, il_9999, il_65536, il_252645135, il_858993459, il_1431655765, q.np, m_isBefore q (show k < 7 by omega) hp]
    rw [if_pos (by omega)]
    by_cases c1 : bf_b a k p = true
    · rw [if_pos c1] at ih
      rw [if_neg (fun u => u c1)]
      exact ih
    · rw [if_neg c1] at ih
      rw [if_pos c1]
      exact ih
  · simp (maxSteps := 3000000) (implicitDefEqProofs := false) (disch := omega) only [jl_e, jn_e, bd_e, gd_t, iI_add, iI_sub, iI_mul, iI_neg, if_true, if_false, not_true_eq_false, not_false_eq_true, Int.reduceEq, Nat.add_zero, Int.toNat_natCast, iI_cl, iI_lt, iI_eq, gd_in, bI_eq0, bI_eq1, bI_isB, isB_0, isB_1, il_0, il_1, il_2, il_3, il_4, il_5, il_6, il_7, il_8, il_9, il_10, il_12, il_16, il_18, il_24, il_27, il_30, il_31, il_32, il_40, il_47, il_48, il_49, il_55, il_56, il_57, il_59, il_63, il_64, il_96, il_97, il_98, il_99, il_101, il_103, il_104, il_105, il_108, il_109, il_110, il_111, il_112, il_114, il_115, il_116, il_117, il_119, il_122, il_127, il_128, il_200, il_225, il_255, il_256, il_999, il_1575, il_9999, il_65536, il_252645135, il_858993459, il_1431655765, q.np]
    rw [if_neg (by omega), show k = (al_w a).length by omega]
theorem m_shown {n : Nat} (hn : n < 281474976710656) {w : Int} (hw : 0 ≤ w ∧ w ≤ 2) (h : Hp) : F_X12_shown (lN n) (iI w) h = some (iI (if w = 0 then (pcn 8 n : Int) else if w = 1 then (if ro_f n.testBit 0 < 48 then (ro_f n.testBit 0 : Int) else -1) else (ro_l n.testBit 48 : Int) - 1), h) := by
  have f1 := ro_f_le n.testBit 0
  have l1 := ro_l_le n.testBit 48
  have m1 : F_X12_firstOf (lN n) (iI (-1)) h = some (iI (ro_f n.testBit 0), h) := m_firstOf (f := 0) (by omega) (by omega) h
  have m2 : F_X12_lastOf (lN n) (iI 48) h = some (iI ((ro_l n.testBit 48 : Int) - 1), h) := m_lastOf (e := 48) (by omega) (by omega) h
  unfold F_X12_shown
  simp (maxSteps := 3000000) (implicitDefEqProofs := false) (disch := omega) only [jl_e, jn_e, bd_e, gd_t, iI_add, iI_sub, iI_mul, iI_neg, if_true, if_false, not_true_eq_false, not_false_eq_true, Int.reduceEq, Nat.add_zero, Int.toNat_natCast, iI_cl, iI_lt, iI_eq, gd_in, bI_eq0, bI_eq1, bI_isB, isB_0, isB_1, il_0, il_1, il_2, il_3, il_4, il_5, il_6, il_7, il_8, il_9, il_10, il_12, il_16, il_18, il_24, il_27, il_30, il_31, il_32, il_40, il_47, il_48, il_49, il_55, il_56, il_57, il_59, il_63, il_64, il_96, il_97, il_98, il_99, il_101, il_103, il_104, il_105, il_108, il_109, il_110, il_111, il_112, il_114, il_115, il_116, il_117, il_119, il_122, il_127, il_128, il_200, il_225, il_255, il_256, il_999, il_1575, il_9999, il_65536, il_252645135, il_858993459, il_1431655765, m_ones (show n < 18446744073709551616 by omega), m1, m2]
  by_cases c0 : w = 0
  · rw [if_pos c0, if_pos c0]
  · rw [if_neg c0, if_neg c0]
    by_cases c1 : w = 1
    · rw [if_pos c1, if_pos c1, m_within (by omega) (by omega) (by omega), bd_e]
      by_cases c2 : ro_f n.testBit 0 < 48
      · rw [bI_t (by omega), if_neg (by decide), if_pos c2]
      · rw [bI_f (by omega), if_pos rfl, if_neg c2]
    · rw [if_neg c1, if_neg c1, m_within (by omega) (by omega) (by omega), bd_e]
      by_cases c2 : 0 ≤ (ro_l n.testBit 48 : Int) - 1
      · rw [bI_t (by omega), if_neg (by decide)]
      · rw [bI_f (by omega), if_pos rfl]
        exact congrArg (fun z => some (iI z, h)) (by omega)
theorem M_picture {h : Hp} {s : Sta} (q : JM h s) {x w : Int} (hx : -2147483648 ≤ x ∧ x < 2147483648) (hw : -2147483648 ≤ w ∧ w < 2147483648) : ∃ h', F_X12_picture (iI x) (iI w) h = some (iI (A_picture s x w), h') ∧ JM h' s := by
  have qa := q.2.2.1
  have h7 := qa.1.2.1
  unfold F_X12_picture A_picture
  rw [m_isPicture qa hx, bd_e]
  by_cases c : 0 ≤ x ∧ x < (al_w (st_a s)).length
  · obtain ⟨p, rfl, hp⟩ := rg_of hx c
    rw [bI_t c, if_neg (by decide), if_pos c, Int.toNat_natCast]
    obtain ⟨h1, e1, e2, -⟩ := m_layWindow qa (p := p) (by omega)
    have f := fr_X12_layWindow _ _ _ _ e1
    have q1 : JM h1 s := q.sc f (by decide) (by decide)
    have qa1 := q1.2.2.1
    have wb := bm_48 (wd_b (st_a s) p)
    rw [e1, bd_e]
    simp (maxSteps := 3000000) (implicitDefEqProofs := false) (disch := omega) only [jl_e, jn_e, bd_e, gd_t, iI_add, iI_sub, iI_mul, iI_neg, if_true, if_false, not_true_eq_false, not_false_eq_true, Int.reduceEq, Nat.add_zero, Int.toNat_natCast, iI_cl, iI_lt, iI_eq, gd_in, bI_eq0, bI_eq1, bI_isB, isB_0, isB_1, il_0, il_1, il_2, il_3, il_4, il_5, il_6, il_7, il_8, il_9, il_10, il_12, il_16, il_18, il_24, il_27, il_30, il_31, il_32, il_40, il_47, il_48, il_49, il_55, il_56, il_57, il_59, il_63, il_64, il_96, il_97, il_98, il_99, il_101, il_103, il_104, il_105, il_108, il_109, il_110, il_111, il_112, il_114, il_115, il_116, il_117, il_119, il_122, il_127, il_128, il_200, il_225, il_255, il_256, il_999, il_1575, il_9999, il_65536, il_252645135, il_858993459, il_1431655765, m_lettersOf qa1 hp, e2]
    by_cases w0 : w = 0
    · rw [if_pos w0, if_pos w0]
      exact ⟨h1, rfl, q1⟩
    · simp only [if_neg w0]
      by_cases w1 : w = 1
      · rw [if_pos w1, if_pos w1, if_pos w1, m_countOf1 qa1 (by omega), bd_e]
        exact ⟨h1, rfl, q1⟩
      · simp only [if_neg w1]
        by_cases w2 : w = 2
        · rw [if_pos w2, if_pos w2, m_shown wb (by omega), bd_e, if_pos (by omega)]
          exact ⟨h1, rfl, q1⟩
        · simp only [if_neg w2]
          by_cases w3 : w = 3
          · rw [if_pos w3, if_pos w3, m_shown wb (by omega), bd_e, if_neg (by omega), if_pos (by omega)]
            exact ⟨h1, rfl, q1⟩
          · simp only [if_neg w3]
            by_cases w4 : w = 4
            · rw [if_pos w4, if_pos w4, m_shown wb (by omega), bd_e, if_neg (by omega), if_neg (by omega)]
              exact ⟨h1, rfl, q1⟩
            · simp only [if_neg w4]
              by_cases w5 : w = 5
              · rw [if_pos w5, if_pos w5, m_countOf0 qa1 (by omega), bd_e]
                exact ⟨h1, rfl, q1⟩
              · simp only [if_neg w5]
                exact ⟨h1, rfl, q1⟩
  · rw [bI_f c, if_pos (show iI 0 = 0 from rfl), if_neg c]
    exact ⟨h, rfl, q⟩
theorem M_thing {h : Hp} {s : Sta} (q : JM h s) {x w : Int} (hx : -2147483648 ≤ x ∧ x < 2147483648) (hw : -2147483648 ≤ w ∧ w < 2147483648) : ∃ h', F_X12_thing (iI x) (iI w) h = some (iI (A_thing s x w), h') ∧ JM h' s := by
  have qa := q.2.2.1
  have h7 := qa.1.2.1
  have h6 := qa.1.2.2.1
  suffices v : F_X12_thing (iI x) (iI w) h = some (iI (A_thing s x w), h) from ⟨h, v, q⟩
  unfold F_X12_thing A_thing
  simp (maxSteps := 3000000) (implicitDefEqProofs := false) (disch := omega) only [jl_e, jn_e, bd_e, gd_t, iI_add, iI_sub, iI_mul, iI_neg, if_true, if_false, not_true_eq_false, not_false_eq_true, Int.reduceEq, Nat.add_zero, Int.toNat_natCast, iI_cl, iI_lt, iI_eq, gd_in, bI_eq0, bI_eq1, bI_isB, isB_0, isB_1, il_0, il_1, il_2, il_3, il_4, il_5, il_6, il_7, il_8, il_9, il_10, il_12, il_16, il_18, il_24, il_27, il_30, il_31, il_32, il_40, il_47, il_48, il_49, il_55, il_56, il_57, il_59, il_63, il_64, il_96, il_97, il_98, il_99, il_101, il_103, il_104, il_105, il_108, il_109, il_110, il_111, il_112, il_114, il_115, il_116, il_117, il_119, il_122, il_127, il_128, il_200, il_225, il_255, il_256, il_999, il_1575, il_9999, il_65536, il_252645135, il_858993459, il_1431655765, m_within hx, m_within hw, qa.nt]
  by_cases c : 0 ≤ x ∧ x < (al_k (st_a s)).length
  · obtain ⟨t, rfl, ht⟩ := rg_of hx c
    rw [if_neg (by omega), if_pos c, Int.toNat_natCast]
    by_cases d : 0 ≤ w ∧ w ≤ 2
    · rw [if_neg (by omega)]
      obtain ⟨V, hV⟩ : ∃ V : Nat, V = if w = 2 then 1 else 0 := ⟨_, rfl⟩
      have V2 : (w = 2 → V = 1) ∧ (w ≠ 2 → V = 0) := ⟨fun e => by rw [hV, if_pos e], fun e => by rw [hV, if_neg e]⟩
      refine lp_up (α := Int32 → Int32 → Hp → Option (Int32 × Hp)) (P := fun k c => ∀ v, v = iI (bm (fun p => decide ((V : Int) ≤ th_v (st_a s) p t)) k : Int) → c v (iI k) h = some (iI (if w = 0 then (al_kd (st_a s) t : Int) else if w = 1 then (sg_m (st_a s) t 0 : Int) else if w = 2 then (sg_m (st_a s) t 1 : Int) else -3), h)) (al_w (st_a s)).length (by omega) (fun k c hk ih v hv => ?_) _ rfl
      subst hv
      by_cases z : k < (al_w (st_a s)).length
      · have ih := ih z
        have rg := th_v_rng qa.1 k t (by omega) (by omega)
        have e : bm (fun p => decide ((V : Int) ≤ th_v (st_a s) p t)) (k + 1) = bm (fun p => decide ((V : Int) ≤ th_v (st_a s) p t)) k ||| (if decide ((V : Int) ≤ th_v (st_a s) k t) then 2 ^ k else 0) := rfl
        rw [e] at ih
        simp (maxSteps := 3000000) (implicitDefEqProofs := false) (disch := omega) only [jl_e, jn_e, bd_e, gd_t, iI_add, iI_sub, iI_mul, iI_neg, if_true, if_false, not_true_eq_false, not_false_eq_true, Int.reduceEq, Nat.add_zero, Int.toNat_natCast, iI_cl, iI_lt, iI_eq, gd_in, bI_eq0, bI_eq1, bI_isB, isB_0, isB_1, il_0, il_1, il_2, il_3, il_4, il_5, il_6, il_7, il_8, il_9, il_10, il_12, il_16, il_18, il_24, il_27, il_30, il_31, il_32, il_40, il_47, il_48, il_49, il_55, il_56, il_57, il_59, il_63, il_64, il_96, il_97, il_98, il_99, il_101, il_103, il_104, il_105, il_108, il_109, il_110, il_111, il_112, il_114, il_115, il_116, il_117, il_119, il_122, il_127, il_128, il_200, il_225, il_255, il_256, il_999, il_1575, il_9999, il_65536, il_252645135, il_858993459, il_1431655765, qa.np, m_thingV qa (show k < 7 by omega) (show t < 6 by omega), ms_shl k (by omega)]
        rw [if_pos (by omega)]
        have yes : (V : Int) ≤ th_v (st_a s) k t → c (iI (bm (fun p => decide ((V : Int) ≤ th_v (st_a s) p t)) k : Int) ||| iI ((2 ^ k : Nat) : Int)) (iI ((k : Int) + 1)) h = some (iI (if w = 0 then (al_kd (st_a s) t : Int) else if w = 1 then (sg_m (st_a s) t 0 : Int) else if w = 2 then (sg_m (st_a s) t 1 : Int) else -3), h) := fun g => ih _ (by rw [ms_or, if_pos (decide_eq_true g)])
        have no : ¬ (V : Int) ≤ th_v (st_a s) k t → c (iI (bm (fun p => decide ((V : Int) ≤ th_v (st_a s) p t)) k : Int) ||| iI 0) (iI ((k : Int) + 1)) h = some (iI (if w = 0 then (al_kd (st_a s) t : Int) else if w = 1 then (sg_m (st_a s) t 0 : Int) else if w = 2 then (sg_m (st_a s) t 1 : Int) else -3), h) := fun g => ih _ (by rw [show iI (0 : Int) = iI ((0 : Nat) : Int) from rfl, ms_or, if_neg (by rw [decide_eq_true_iff]; exact g)])
        by_cases g1 : th_v (st_a s) k t < w - 1
        · rw [if_pos g1]
          exact no (by omega)
        · rw [if_neg g1]
          by_cases g2 : th_v (st_a s) k t = -1
          · rw [if_pos g2]
            exact no (by omega)
          · rw [if_neg g2]
            exact yes (by omega)
      · have ek : k = (al_w (st_a s)).length := by omega
        subst ek
        simp (maxSteps := 3000000) (implicitDefEqProofs := false) (disch := omega) only [jl_e, jn_e, bd_e, gd_t, iI_add, iI_sub, iI_mul, iI_neg, if_true, if_false, not_true_eq_false, not_false_eq_true, Int.reduceEq, Nat.add_zero, Int.toNat_natCast, iI_cl, iI_lt, iI_eq, gd_in, bI_eq0, bI_eq1, bI_isB, isB_0, isB_1, il_0, il_1, il_2, il_3, il_4, il_5, il_6, il_7, il_8, il_9, il_10, il_12, il_16, il_18, il_24, il_27, il_30, il_31, il_32, il_40, il_47, il_48, il_49, il_55, il_56, il_57, il_59, il_63, il_64, il_96, il_97, il_98, il_99, il_101, il_103, il_104, il_105, il_108, il_109, il_110, il_111, il_112, il_114, il_115, il_116, il_117, il_119, il_122, il_127, il_128, il_200, il_225, il_255, il_256, il_999, il_1575, il_9999, il_65536, il_252645135, il_858993459, il_1431655765, qa.np, qa.kd ht]
        rw [if_neg (by omega)]
        by_cases w0 : w = 0
        · rw [if_pos w0, if_pos w0]
        · rw [if_neg w0, if_neg w0]
          by_cases w1 : w = 1
          · rw [if_pos w1, V2.2 (by omega)]
            rfl
          · rw [if_neg w1, if_pos (by omega), V2.1 (by omega)]
            rfl
    · rw [if_pos (by omega), if_neg (by omega), if_neg (by omega), if_neg (by omega)]
  · rw [if_pos (by omega), if_neg c]
theorem M_piece {h : Hp} {s : Sta} (q : JM h s) {x m w : Int} (hx : -2147483648 ≤ x ∧ x < 2147483648) (hm : -2147483648 ≤ m ∧ m < 2147483648) (hw : -2147483648 ≤ w ∧ w < 2147483648) : ∃ h', F_X12_piece (iI x) (iI m) (iI w) h = some (iI (A_piece s x m w), h') ∧ JM h' s := by
  have qa := q.2.2.1
  have h7 := qa.1.2.1
  have h6 := qa.1.2.2.1
  suffices v : F_X12_piece (iI x) (iI m) (iI w) h = some (iI (A_piece s x m w), h) from ⟨h, v, q⟩
  unfold F_X12_piece A_piece
  rw [m_isPicture qa hx, bd_e]
  by_cases c : 0 ≤ x ∧ x < (al_w (st_a s)).length
  · obtain ⟨p, rfl, hp⟩ := rg_of hx c
    rw [bI_t c, if_neg (by decide), if_pos c, m_isMatter qa hm, bd_e]
    by_cases d : 0 ≤ m ∧ m < 2 + (al_k (st_a s)).length
    · have ek : ((p : Int) * 8 + m).toNat = 8 * p + m.toNat := by omega
      rw [bI_t d, jn_e, if_neg (by decide), if_pos d, ek]
      simp (maxSteps := 3000000) (implicitDefEqProofs := false) (disch := omega) only [jl_e, jn_e, bd_e, gd_t, iI_add, iI_sub, iI_mul, iI_neg, if_true, if_false, not_true_eq_false, not_false_eq_true, Int.reduceEq, Nat.add_zero, Int.toNat_natCast, iI_cl, iI_lt, iI_eq, gd_in, bI_eq0, bI_eq1, bI_isB, isB_0, isB_1, il_0, il_1, il_2, il_3, il_4, il_5, il_6, il_7, il_8, il_9, il_10, il_12, il_16, il_18, il_24, il_27, il_30, il_31, il_32, il_40, il_47, il_48, il_49, il_55, il_56, il_57, il_59, il_63, il_64, il_96, il_97, il_98, il_99, il_101, il_103, il_104, il_105, il_108, il_109, il_110, il_111, il_112, il_114, il_115, il_116, il_117, il_119, il_122, il_127, il_128, il_200, il_225, il_255, il_256, il_999, il_1575, il_9999, il_65536, il_252645135, il_858993459, il_1431655765, m_within hw, m_pieceAt qa.nw (show p < 7 by omega) (show 0 ≤ m ∧ m < 8 by omega)]
      by_cases e : 0 ≤ w ∧ w ≤ 2
      · rw [if_neg (by omega)]
        have rn := pc_n_rng qa.1.hp (8 * p + m.toNat)
        have rv := pc_v_rng qa.1.hp (8 * p + m.toNat)
        have rs := pc_s_rng qa.1.hp (8 * p + m.toNat)
        rcases nw_at qa.nw (8 * p + m.toNat) with ⟨n1, n2, n3⟩ | ⟨i, hi, n1, n2, n3, -, -⟩
        · rw [n1, n2, n3, if_pos rfl]
          by_cases w0 : w = 0
          · rw [if_pos w0]
          · rw [if_neg w0]
            by_cases w1 : w = 1
            · rw [if_pos w1]
            · rw [if_neg w1, if_pos (by omega)]
        · rw [n1, if_neg (show ¬ iI (i : Int) = iI (-1) by rw [iI_eq (by omega) (by omega) (by omega) (by omega)]; omega)]
          by_cases w0 : w = 0
          · rw [if_pos w0, if_neg (by omega), w0]
            (try simp (maxSteps := 3000000) (implicitDefEqProofs := false) (disch := omega) only [jl_e, jn_e, bd_e, gd_t, iI_add, iI_sub, iI_mul, iI_neg, if_true, if_false, not_true_eq_false, not_false_eq_true, Int.reduceEq, Nat.add_zero, Int.toNat_natCast, iI_cl, iI_lt, iI_eq, gd_in, bI_eq0, bI_eq1, bI_isB, isB_0, isB_1, il_0, il_1, il_2, il_3, il_4, il_5, il_6, il_7, il_8, il_9, il_10, il_12, il_16, il_18, il_24, il_27, il_30, il_31, il_32, il_40, il_47, il_48, il_49, il_55, il_56, il_57, il_59, il_63, il_64, il_96, il_97, il_98, il_99, il_101, il_103, il_104, il_105, il_108, il_109, il_110, il_111, il_112, il_114, il_115, il_116, il_117, il_119, il_122, il_127, il_128, il_200, il_225, il_255, il_256, il_999, il_1575, il_9999, il_65536, il_252645135, il_858993459, il_1431655765, Int.add_zero, tn43, n2])
          · rw [if_neg w0]
            by_cases w1 : w = 1
            · rw [if_pos w1, if_neg (by omega), w1]
              (try simp (maxSteps := 3000000) (implicitDefEqProofs := false) (disch := omega) only [jl_e, jn_e, bd_e, gd_t, iI_add, iI_sub, iI_mul, iI_neg, if_true, if_false, not_true_eq_false, not_false_eq_true, Int.reduceEq, Nat.add_zero, Int.toNat_natCast, iI_cl, iI_lt, iI_eq, gd_in, bI_eq0, bI_eq1, bI_isB, isB_0, isB_1, il_0, il_1, il_2, il_3, il_4, il_5, il_6, il_7, il_8, il_9, il_10, il_12, il_16, il_18, il_24, il_27, il_30, il_31, il_32, il_40, il_47, il_48, il_49, il_55, il_56, il_57, il_59, il_63, il_64, il_96, il_97, il_98, il_99, il_101, il_103, il_104, il_105, il_108, il_109, il_110, il_111, il_112, il_114, il_115, il_116, il_117, il_119, il_122, il_127, il_128, il_200, il_225, il_255, il_256, il_999, il_1575, il_9999, il_65536, il_252645135, il_858993459, il_1431655765])
              rw [show ((4 : Int) * (i : Int) + 3 + 1).toNat = 4 * i + 4 by omega, n3]
            · rw [if_neg w1, if_pos (by omega), if_pos (by omega)]
      · rw [if_pos (by omega), if_neg (by omega), if_neg (by omega), if_neg (by omega)]
    · rw [bI_f d, jn_e, if_pos (show iI 0 = 0 from rfl), if_neg d]
      rfl
  · rw [bI_f c, if_pos (show iI 0 = 0 from rfl), if_neg c]
    rfl
theorem M_told {h : Hp} {s : Sta} (q : JM h s) {k w : Int} (hk : -2147483648 ≤ k ∧ k < 2147483648) (hw : -2147483648 ≤ w ∧ w < 2147483648) : ∃ h', F_X12_told (iI k) (iI w) h = some (iI (A_told s k w), h') ∧ JM h' s := by
  have qa := q.2.2.1
  have hl := pc_len qa.1.hp
  suffices v : F_X12_told (iI k) (iI w) h = some (iI (A_told s k w), h) from ⟨h, v, q⟩
  unfold F_X12_told A_told
  simp (maxSteps := 3000000) (implicitDefEqProofs := false) (disch := omega) only [jl_e, jn_e, bd_e, gd_t, iI_add, iI_sub, iI_mul, iI_neg, if_true, if_false, not_true_eq_false, not_false_eq_true, Int.reduceEq, Nat.add_zero, Int.toNat_natCast, iI_cl, iI_lt, iI_eq, gd_in, bI_eq0, bI_eq1, bI_isB, isB_0, isB_1, il_0, il_1, il_2, il_3, il_4, il_5, il_6, il_7, il_8, il_9, il_10, il_12, il_16, il_18, il_24, il_27, il_30, il_31, il_32, il_40, il_47, il_48, il_49, il_55, il_56, il_57, il_59, il_63, il_64, il_96, il_97, il_98, il_99, il_101, il_103, il_104, il_105, il_108, il_109, il_110, il_111, il_112, il_114, il_115, il_116, il_117, il_119, il_122, il_127, il_128, il_200, il_225, il_255, il_256, il_999, il_1575, il_9999, il_65536, il_252645135, il_858993459, il_1431655765, m_within hw, tn0, qa.nw.l]
  by_cases c : k < 0
  · rw [if_pos c, if_pos c]
  · rw [if_neg c, if_neg c]
    by_cases d : 0 ≤ w ∧ w ≤ 1
    · rw [if_neg (by omega)]
      by_cases e : k < (al_p (st_a s)).length
      · obtain ⟨i, hi⟩ : ∃ i : Nat, k = i := ⟨k.toNat, by omega⟩
        subst hi
        have z : i < (al_p (st_a s)).length := by omega
        obtain ⟨a1, a2, -⟩ := qa.nw.at z
        rw [if_pos e, if_pos e, if_pos e, Int.toNat_natCast]
        by_cases w0 : w = 0
        · rw [if_pos w0, w0]
          (try simp (maxSteps := 3000000) (implicitDefEqProofs := false) (disch := omega) only [jl_e, jn_e, bd_e, gd_t, iI_add, iI_sub, iI_mul, iI_neg, if_true, if_false, not_true_eq_false, not_false_eq_true, Int.reduceEq, Nat.add_zero, Int.toNat_natCast, iI_cl, iI_lt, iI_eq, gd_in, bI_eq0, bI_eq1, bI_isB, isB_0, isB_1, il_0, il_1, il_2, il_3, il_4, il_5, il_6, il_7, il_8, il_9, il_10, il_12, il_16, il_18, il_24, il_27, il_30, il_31, il_32, il_40, il_47, il_48, il_49, il_55, il_56, il_57, il_59, il_63, il_64, il_96, il_97, il_98, il_99, il_101, il_103, il_104, il_105, il_108, il_109, il_110, il_111, il_112, il_114, il_115, il_116, il_117, il_119, il_122, il_127, il_128, il_200, il_225, il_255, il_256, il_999, il_1575, il_9999, il_65536, il_252645135, il_858993459, il_1431655765, Int.add_zero, tn41, a1])
        · rw [if_neg w0, if_pos (by omega), show w = 1 by omega]
          (try simp (maxSteps := 3000000) (implicitDefEqProofs := false) (disch := omega) only [jl_e, jn_e, bd_e, gd_t, iI_add, iI_sub, iI_mul, iI_neg, if_true, if_false, not_true_eq_false, not_false_eq_true, Int.reduceEq, Nat.add_zero, Int.toNat_natCast, iI_cl, iI_lt, iI_eq, gd_in, bI_eq0, bI_eq1, bI_isB, isB_0, isB_1, il_0, il_1, il_2, il_3, il_4, il_5, il_6, il_7, il_8, il_9, il_10, il_12, il_16, il_18, il_24, il_27, il_30, il_31, il_32, il_40, il_47, il_48, il_49, il_55, il_56, il_57, il_59, il_63, il_64, il_96, il_97, il_98, il_99, il_101, il_103, il_104, il_105, il_108, il_109, il_110, il_111, il_112, il_114, il_115, il_116, il_117, il_119, il_122, il_127, il_128, il_200, il_225, il_255, il_256, il_999, il_1575, il_9999, il_65536, il_252645135, il_858993459, il_1431655765])
          rw [show ((4 : Int) * (i : Int) + 1 + 1).toNat = 4 * i + 2 by omega, a2]
      · rw [if_neg e, if_neg e, if_neg e]
        by_cases w0 : w = 0
        · rw [if_pos w0]
        · rw [if_neg w0, if_pos (by omega)]
    · rw [if_pos (by omega), if_neg (by omega), if_neg (by omega)]
theorem M_sun {h : Hp} {s : Sta} (q : JM h s) {x w : Int} (hx : -2147483648 ≤ x ∧ x < 2147483648) (hw : -2147483648 ≤ w ∧ w < 2147483648) : ∃ h', F_X12_sun (iI x) (iI w) h = some (iI (A_sun s x w), h') ∧ JM h' s := by
  have qa := q.2.2.1
  suffices v : F_X12_sun (iI x) (iI w) h = some (iI (A_sun s x w), h) from ⟨h, v, q⟩
  unfold F_X12_sun A_sun
  simp (maxSteps := 3000000) (implicitDefEqProofs := false) (disch := omega) only [jl_e, jn_e, bd_e, gd_t, iI_add, iI_sub, iI_mul, iI_neg, if_true, if_false, not_true_eq_false, not_false_eq_true, Int.reduceEq, Nat.add_zero, Int.toNat_natCast, iI_cl, iI_lt, iI_eq, gd_in, bI_eq0, bI_eq1, bI_isB, isB_0, isB_1, il_0, il_1, il_2, il_3, il_4, il_5, il_6, il_7, il_8, il_9, il_10, il_12, il_16, il_18, il_24, il_27, il_30, il_31, il_32, il_40, il_47, il_48, il_49, il_55, il_56, il_57, il_59, il_63, il_64, il_96, il_97, il_98, il_99, il_101, il_103, il_104, il_105, il_108, il_109, il_110, il_111, il_112, il_114, il_115, il_116, il_117, il_119, il_122, il_127, il_128, il_200, il_225, il_255, il_256, il_999, il_1575, il_9999, il_65536, il_252645135, il_858993459, il_1431655765, m_within hx, m_within hw]
  by_cases c : 0 ≤ x ∧ x < 48
  · obtain ⟨t, rfl, ht⟩ := rg_of hx (n := 48) c
    have mu := m_isUp qa (s := (t : Int)) (by omega)
    have mp := m_pointAt qa (t : Int)
    have ml := m_lengthAt qa ht
    unfold ln_at at ml
    rw [if_neg (by omega), if_pos c]
    by_cases d : 0 ≤ w ∧ w ≤ 1
    · rw [if_neg (by omega)]
      (try simp (maxSteps := 3000000) (implicitDefEqProofs := false) (disch := omega) only [jl_e, jn_e, bd_e, gd_t, iI_add, iI_sub, iI_mul, iI_neg, if_true, if_false, not_true_eq_false, not_false_eq_true, Int.reduceEq, Nat.add_zero, Int.toNat_natCast, iI_cl, iI_lt, iI_eq, gd_in, bI_eq0, bI_eq1, bI_isB, isB_0, isB_1, il_0, il_1, il_2, il_3, il_4, il_5, il_6, il_7, il_8, il_9, il_10, il_12, il_16, il_18, il_24, il_27, il_30, il_31, il_32, il_40, il_47, il_48, il_49, il_55, il_56, il_57, il_59, il_63, il_64, il_96, il_97, il_98, il_99, il_101, il_103, il_104, il_105, il_108, il_109, il_110, il_111, il_112, il_114, il_115, il_116, il_117, il_119, il_122, il_127, il_128, il_200, il_225, il_255, il_256, il_999, il_1575, il_9999, il_65536, il_252645135, il_858993459, il_1431655765, mu, mp, ml])
      by_cases up : (t : Int) - 12 ≤ al_n (st_a s) ∧ (al_n (st_a s) : Int) ≤ t + 12
      · rw [if_neg (fun z => z up), if_pos up, if_pos up]
        by_cases w0 : w = 0
        · rw [if_pos w0, if_pos w0]
        · rw [if_neg w0, if_neg w0, if_pos (by omega)]
      · rw [if_pos up, if_neg up, if_neg up]
        by_cases w0 : w = 0
        · rw [if_pos w0]
        · rw [if_neg w0, if_pos (by omega)]
    · rw [if_pos (by omega), if_neg (by omega), if_neg (by omega)]
  · rw [if_pos (by omega), if_neg c]
