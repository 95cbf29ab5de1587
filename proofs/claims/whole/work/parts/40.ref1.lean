-- ===== the reference: its pieces =====
theorem tn41 (i : Nat) : ((4 : Int) * (i : Int) + 1).toNat = 4 * i + 1 := by omega
theorem tn42 (i : Nat) : ((4 : Int) * (i : Int) + 2).toNat = 4 * i + 2 := by omega
theorem tn43 (i : Nat) : ((4 : Int) * (i : Int) + 3).toNat = 4 * i + 3 := by omega
theorem tn44 (i : Nat) : ((4 : Int) * (i : Int) + 4).toNat = 4 * i + 4 := by omega
theorem tnA (i j : Nat) : ((i : Int) + (j : Int)).toNat = i + j := by omega
theorem tn0 : (0 : Int).toNat = 0 := rfl
theorem m_within {a lo hi : Int} (ha : -2147483648 ≤ a ∧ a < 2147483648) (h1 : -2147483648 ≤ lo ∧ lo < 2147483648) (h2 : -2147483648 ≤ hi ∧ hi < 2147483648) (h : Hp) : F_X12_within (iI a) (iI lo) (iI hi) h = some (bI (lo ≤ a ∧ a ≤ hi), h) := by
  unfold F_X12_within
  simp (maxSteps := 3000000) (implicitDefEqProofs := false) (disch := omega) only [jl_e, jn_e, bd_e, gd_t, iI_add, iI_sub, iI_mul, iI_neg, if_true, if_false, not_true_eq_false, not_false_eq_true, Int.reduceEq, Nat.add_zero, Int.toNat_natCast, iI_cl, iI_lt, iI_eq, gd_in, bI_eq0, bI_eq1, bI_isB, isB_0, isB_1, il_0, il_1, il_2, il_3, il_4, il_5, il_6, il_7, il_8, il_9, il_10, il_12, il_16, il_18, il_24, il_27, il_30, il_31, il_32, il_40, il_47, il_48, il_49, il_55, il_56, il_57, il_59, il_63, il_64, il_96, il_97, il_98, il_99, il_101, il_103, il_104, il_105, il_108, il_109, il_110, il_111, il_112, il_114, il_115, il_116, il_117, il_119, il_122, il_127, il_128, il_200, il_225, il_255, il_256, il_999, il_1575, il_9999, il_65536, il_252645135, il_858993459, il_1431655765]
  by_cases c : a < lo
  · rw [if_pos c, bI_f (by omega)]
  · rw [if_neg c]
    by_cases d : hi < a
    · rw [if_pos d, bI_f (by omega)]
    · rw [if_neg d, bI_t (by omega)]
theorem m_bring {c d n1 n2 : Nat} {x y n : Nat} (h : Hp) (hn1 : x + n ≤ n1) (hn2 : y + n ≤ n2) (b1 : n1 < 100000) (b2 : n2 < 100000) (hd : c ≠ d ∨ y ≤ x) : ∃ h', F_X12_bring c n1 (iI x) d n2 (iI y) (iI n) h = some ((), h') ∧ ∀ i, aG h' d i = if y ≤ i ∧ i < y + n then aG h c (x + (i - y)) else aG h d i := by
  refine ⟨aV h d (fun i => if y ≤ i ∧ i < y + n then aG h c (x + (i - y)) else aG h d i), ?_, fun i => aG_aV_s ..⟩
  unfold F_X12_bring
  have e0 : aV h d (fun i => if y ≤ i ∧ i < y + 0 then aG h c (x + (i - y)) else aG h d i) = h := by
    have : (fun i => if y ≤ i ∧ i < y + 0 then aG h c (x + (i - y)) else aG h d i) = aF h d := by
      funext i
      rw [if_neg (by omega)]
      rfl
    rw [this, aV_self]
  refine lp_up (α := Int32 → Hp → Option (Unit × Hp)) (P := fun k t => ∀ g, g = aV h d (fun i => if y ≤ i ∧ i < y + k then aG h c (x + (i - y)) else aG h d i) → t (iI k) g = some ((), aV h d (fun i => if y ≤ i ∧ i < y + n then aG h c (x + (i - y)) else aG h d i))) n (by omega) (fun k t hk ih g hg => ?_) h e0.symm
  by_cases z : k < n
  · have er : aG g c (x + k) = aG h c (x + k) := by
      rw [hg]
      by_cases e : c = d
      · subst e
        rw [aG_aV_s, if_neg (by omega)]
      · rw [aG_aV_k e]
    simp (maxSteps := 3000000) (implicitDefEqProofs := false) (disch := omega) only [jl_e, jn_e, bd_e, gd_t, iI_add, iI_sub, iI_mul, iI_neg, if_true, if_false, not_true_eq_false, not_false_eq_true, Int.reduceEq, Nat.add_zero, Int.toNat_natCast, iI_cl, iI_lt, iI_eq, gd_in, bI_eq0, bI_eq1, bI_isB, isB_0, isB_1, il_0, il_1, il_2, il_3, il_4, il_5, il_6, il_7, il_8, il_9, il_10, il_12, il_16, il_18, il_24, il_27, il_30, il_31, il_32, il_40, il_47, il_48, il_49, il_55, il_56, il_57, il_59, il_63, il_64, il_96, il_97, il_98, il_99, il_101, il_103, il_104, il_105, il_108, il_109, il_110, il_111, il_112, il_114, il_115, il_116, il_117, il_119, il_122, il_127, il_128, il_200, il_225, il_255, il_256, il_999, il_1575, il_9999, il_65536, il_252645135, il_858993459, il_1431655765, tnA, er]
    rw [if_pos (by omega)]
    apply ih z
    rw [hg, aS_V, aV_aV]
    congr 1
    funext i
    rw [aF_aV_s]
    by_cases u : i = y + k
    · subst u
      rw [upd_s, if_pos (by omega), show x + (y + k - y) = x + k by omega]
    · rw [upd_n u]
      by_cases v : y ≤ i ∧ i < y + k
      · rw [if_pos v, if_pos (by omega)]
      · rw [if_neg v, if_neg (by omega)]
  · simp (maxSteps := 3000000) (implicitDefEqProofs := false) (disch := omega) only [jl_e, jn_e, bd_e, gd_t, iI_add, iI_sub, iI_mul, iI_neg, if_true, if_false, not_true_eq_false, not_false_eq_true, Int.reduceEq, Nat.add_zero, Int.toNat_natCast, iI_cl, iI_lt, iI_eq, gd_in, bI_eq0, bI_eq1, bI_isB, isB_0, isB_1, il_0, il_1, il_2, il_3, il_4, il_5, il_6, il_7, il_8, il_9, il_10, il_12, il_16, il_18, il_24, il_27, il_30, il_31, il_32, il_40, il_47, il_48, il_49, il_55, il_56, il_57, il_59, il_63, il_64, il_96, il_97, il_98, il_99, il_101, il_103, il_104, il_105, il_108, il_109, il_110, il_111, il_112, il_114, il_115, il_116, il_117, il_119, il_122, il_127, il_128, il_200, il_225, il_255, il_256, il_999, il_1575, il_9999, il_65536, il_252645135, il_858993459, il_1431655765]
    rw [if_neg (by omega), hg, show k = n by omega]
/-- so many pieces laid in the array c from o on -/
def PmC (c o : Nat) (h : Hp) (L : List Pc) : Prop := pc_ok L ∧ aG h c o = iI L.length ∧ ∀ i, i < L.length → aG h c (o + (4 * i + 1)) = iI ((pc_at L i).1 / 8 : Nat) ∧ aG h c (o + (4 * i + 2)) = iI ((pc_at L i).1 % 8 : Nat) ∧ aG h c (o + (4 * i + 3)) = iI (pc_at L i).2.1 ∧ aG h c (o + (4 * i + 4)) = iI (pc_at L i).2.2
theorem PmC.bring {c o d p : Nat} {h h' : Hp} {L : List Pc} (q : PmC c o h L) (e : ∀ i, aG h' d i = if p ≤ i ∧ i < p + 225 then aG h c (o + (i - p)) else aG h d i) : PmC d p h' L := by
  have hl := pc_len q.1
  refine ⟨q.1, ?_, fun i hi => ?_⟩
  · rw [e, if_pos (by omega), Nat.sub_self]
    exact q.2.1
  · obtain ⟨a1, a2, a3, a4⟩ := q.2.2 i hi
    refine ⟨?_, ?_, ?_, ?_⟩
    · rw [e, if_pos (by omega), Nat.add_sub_cancel_left]; exact a1
    · rw [e, if_pos (by omega), Nat.add_sub_cancel_left]; exact a2
    · rw [e, if_pos (by omega), Nat.add_sub_cancel_left]; exact a3
    · rw [e, if_pos (by omega), Nat.add_sub_cancel_left]; exact a4
/-- only the cells from o to o + 224 count -/
theorem PmC.same {c o : Nat} {h h' : Hp} {L : List Pc} (q : PmC c o h L) (e : ∀ i, o ≤ i → i < o + 225 → aG h' c i = aG h c i) : PmC c o h' L := by
  have hl := pc_len q.1
  refine ⟨q.1, (e _ (by omega) (by omega)).trans q.2.1, fun i hi => ?_⟩
  obtain ⟨a1, a2, a3, a4⟩ := q.2.2 i hi
  exact ⟨(e _ (by omega) (by omega)).trans a1, (e _ (by omega) (by omega)).trans a2, (e _ (by omega) (by omega)).trans a3, (e _ (by omega) (by omega)).trans a4⟩
theorem PmC.fr {c o : Nat} {h h' : Hp} {L : List Pc} {S A : List Nat} (q : PmC c o h L) (f : FrX S A h h') (n : c ∉ A) : PmC c o h' L := q.same (fun i _ _ => f.ag n i)
def NwC (h : Hp) (L : List Pc) : Prop := PmC 124 0 h L
theorem NwC.l {h : Hp} {L : List Pc} (q : NwC h L) : aG h 124 0 = iI L.length := q.2.1
theorem NwC.at {h : Hp} {L : List Pc} (q : NwC h L) {i : Nat} (hi : i < L.length) : aG h 124 (4 * i + 1) = iI ((pc_at L i).1 / 8 : Nat) ∧ aG h 124 (4 * i + 2) = iI ((pc_at L i).1 % 8 : Nat) ∧ aG h 124 (4 * i + 3) = iI (pc_at L i).2.1 ∧ aG h 124 (4 * i + 4) = iI (pc_at L i).2.2 := by
  have := q.2.2 i hi
  rw [Nat.zero_add, Nat.zero_add, Nat.zero_add, Nat.zero_add] at this
  exact this
theorem NwC.fr {h h' : Hp} {L : List Pc} {S A : List Nat} (q : NwC h L) (f : FrX S A h h') (n : 124 ∉ A) : NwC h' L := PmC.fr q f n
theorem m_pieceAt {h : Hp} {L : List Pc} (q : NwC h L) {p : Nat} {m : Int} (hp : p < 7) (hm : 0 ≤ m ∧ m < 8) : F_X12_pieceAt (iI p) (iI m) h = some (iI (pc_n L (8 * p + m.toNat)), h) := by
  have hl := pc_len q.1
  have e0 := q.l
  obtain ⟨m, rfl⟩ := Int.eq_ofNat_of_zero_le hm.1
  rw [show Int.toNat (m : Int) = m from rfl]
  unfold F_X12_pieceAt
  refine lp_up (α := Int32 → Int32 → Hp → Option (Int32 × Hp)) (P := fun k c => ∀ x, x = iI (if pc_ix L (8 * p + m) < k then (pc_ix L (8 * p + m) : Int) else -1) → c x (iI k) h = some (iI (pc_n L (8 * p + m)), h)) L.length (by omega) (fun k c hk ih x hx => ?_) _ (by rw [if_neg (by omega)]; rfl)
  by_cases z : k < L.length
  · obtain ⟨a1, a2, -, -⟩ := q.at z
    have k56 := (q.1.2 k z).1
    simp (maxSteps := 3000000) (implicitDefEqProofs := false) (disch := omega) only [jl_e, jn_e, bd_e, gd_t, iI_add, iI_sub, iI_mul, iI_neg, if_true, if_false, not_true_eq_false, not_false_eq_true, Int.reduceEq, Nat.add_zero, Int.toNat_natCast, iI_cl, iI_lt, iI_eq, gd_in, bI_eq0, bI_eq1, bI_isB, isB_0, isB_1, il_0, il_1, il_2, il_3, il_4, il_5, il_6, il_7, il_8, il_9, il_10, il_12, il_16, il_18, il_24, il_27, il_30, il_31, il_32, il_40, il_47, il_48, il_49, il_55, il_56, il_57, il_59, il_63, il_64, il_96, il_97, il_98, il_99, il_101, il_103, il_104, il_105, il_108, il_109, il_110, il_111, il_112, il_114, il_115, il_116, il_117, il_119, il_122, il_127, il_128, il_200, il_225, il_255, il_256, il_999, il_1575, il_9999, il_65536, il_252645135, il_858993459, il_1431655765, tn41, tn42, tn0, e0, a1, a2]
    rw [if_pos (by omega)]
    have T : pc_ix L (8 * p + m) = k → c (iI k) (iI ((k : Int) + 1)) h = some (iI (pc_n L (8 * p + m)), h) := fun e => ih z _ (by rw [if_pos (by omega), e])
    have N : pc_ix L (8 * p + m) ≠ k → c x (iI ((k : Int) + 1)) h = some (iI (pc_n L (8 * p + m)), h) := fun e => ih z _ (by
      rw [hx]
      by_cases w : pc_ix L (8 * p + m) < k
      · rw [if_pos w, if_pos (by omega)]
      · rw [if_neg w, if_neg (by omega)])
    have K : pc_ix L (8 * p + m) = k ↔ (pc_at L k).1 = 8 * p + m := ⟨fun e => by have := pc_ix_key (L := L) (k := 8 * p + m) (by omega); rw [e] at this; exact this, fun e => pc_ix_eq q.1 z e⟩
    by_cases c1 : (pc_at L k).1 / 8 = p
    · rw [if_pos (by omega)]
      by_cases c2 : (pc_at L k).1 % 8 = m
      · rw [if_pos (by omega)]
        exact T (K.2 (by omega))
      · rw [if_neg (by omega)]
        exact N (fun e => c2 (by have := K.1 e; omega))
    · rw [if_neg (by omega)]
      exact N (fun e => c1 (by have := K.1 e; omega))
  · simp (maxSteps := 3000000) (implicitDefEqProofs := false) (disch := omega) only [jl_e, jn_e, bd_e, gd_t, iI_add, iI_sub, iI_mul, iI_neg, if_true, if_false, not_true_eq_false, not_false_eq_true, Int.reduceEq, Nat.add_zero, Int.toNat_natCast, iI_cl, iI_lt, iI_eq, gd_in, bI_eq0, bI_eq1, bI_isB, isB_0, isB_1, il_0, il_1, il_2, il_3, il_4, il_5, il_6, il_7, il_8, il_9, il_10, il_12, il_16, il_18, il_24, il_27, il_30, il_31, il_32, il_40, il_47, il_48, il_49, il_55, il_56, il_57, il_59, il_63, il_64, il_96, il_97, il_98, il_99, il_101, il_103, il_104, il_105, il_108, il_109, il_110, il_111, il_112, il_114, il_115, il_116, il_117, il_119, il_122, il_127, il_128, il_200, il_225, il_255, il_256, il_999, il_1575, il_9999, il_65536, il_252645135, il_858993459, il_1431655765, tn0, e0]
    rw [if_neg (by omega), hx]
    have := pc_n_rng q.1 (8 * p + m)
    by_cases w : pc_ix L (8 * p + m) < L.length
    · rw [if_pos (by omega), this.2.2.2 w]
    · rw [if_neg (by omega), this.2.2.1.2 w]
theorem m_value {h : Hp} {L : List Pc} (q : NwC h L) {p : Nat} {m : Int} (hp : p < 7) (hm : 0 ≤ m ∧ m < 8) : F_X12_value (iI p) (iI m) h = some (iI (pc_v L (8 * p + m.toNat)), h) := by
  have hl := pc_len q.1
  have r := pc_n_rng q.1 (8 * p + m.toNat)
  have s := pc_v_rng q.1 (8 * p + m.toNat)
  unfold F_X12_value
  simp (maxSteps := 3000000) (implicitDefEqProofs := false) (disch := omega) only [jl_e, jn_e, bd_e, gd_t, iI_add, iI_sub, iI_mul, iI_neg, if_true, if_false, not_true_eq_false, not_false_eq_true, Int.reduceEq, Nat.add_zero, Int.toNat_natCast, iI_cl, iI_lt, iI_eq, gd_in, bI_eq0, bI_eq1, bI_isB, isB_0, isB_1, il_0, il_1, il_2, il_3, il_4, il_5, il_6, il_7, il_8, il_9, il_10, il_12, il_16, il_18, il_24, il_27, il_30, il_31, il_32, il_40, il_47, il_48, il_49, il_55, il_56, il_57, il_59, il_63, il_64, il_96, il_97, il_98, il_99, il_101, il_103, il_104, il_105, il_108, il_109, il_110, il_111, il_112, il_114, il_115, il_116, il_117, il_119, il_122, il_127, il_128, il_200, il_225, il_255, il_256, il_999, il_1575, il_9999, il_65536, il_252645135, il_858993459, il_1431655765, m_pieceAt q hp hm]
  by_cases w : pc_ix L (8 * p + m.toNat) < L.length
  · have e := r.2.2.2 w
    have a3 := (q.at w).2.2.1
    rw [if_neg (by omega), e]
    simp (maxSteps := 3000000) (implicitDefEqProofs := false) (disch := omega) only [jl_e, jn_e, bd_e, gd_t, iI_add, iI_sub, iI_mul, iI_neg, if_true, if_false, not_true_eq_false, not_false_eq_true, Int.reduceEq, Nat.add_zero, Int.toNat_natCast, iI_cl, iI_lt, iI_eq, gd_in, bI_eq0, bI_eq1, bI_isB, isB_0, isB_1, il_0, il_1, il_2, il_3, il_4, il_5, il_6, il_7, il_8, il_9, il_10, il_12, il_16, il_18, il_24, il_27, il_30, il_31, il_32, il_40, il_47, il_48, il_49, il_55, il_56, il_57, il_59, il_63, il_64, il_96, il_97, il_98, il_99, il_101, il_103, il_104, il_105, il_108, il_109, il_110, il_111, il_112, il_114, il_115, il_116, il_117, il_119, il_122, il_127, il_128, il_200, il_225, il_255, il_256, il_999, il_1575, il_9999, il_65536, il_252645135, il_858993459, il_1431655765, tn43, a3]
    rw [pc_v, if_pos w]
  · rw [if_pos (r.2.2.1.2 w), s.2.2.2 w]
