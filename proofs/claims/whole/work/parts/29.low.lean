-- ===== going through the bits of a set =====
theorem lo_pred {n k : Nat} (h1 : n.testBit k = true) (h2 : ∀ j, j < k → n.testBit j = false) (i : Nat) : (n - 1).testBit i = (decide (i < k) || (decide (k < i) && n.testBit i)) := by
  have hp : 0 < 2 ^ k := Nat.two_pow_pos k
  have e0 : n % 2 ^ k = 0 := by
    apply Nat.eq_of_testBit_eq
    intro i
    rw [Nat.testBit_mod_two_pow, Nat.zero_testBit]
    by_cases c : i < k
    · rw [h2 i c]; simp
    · simp [c]
  have e1 : (n / 2 ^ k) % 2 = 1 := by
    have := Nat.testBit_div_two_pow (n := k) n 0
    rw [Nat.zero_add, h1, Nat.testBit_zero] at this
    exact of_decide_eq_true this
  have e2 := Nat.div_add_mod n (2 ^ k)
  have e3 := Nat.div_add_mod (n / 2 ^ k) 2
  obtain ⟨q, hq⟩ : ∃ q, n / 2 ^ k / 2 = q := ⟨_, rfl⟩
  rw [e1, hq] at e3
  rw [e0, ← e3, Nat.add_zero] at e2
  have e4 : n - 1 = 2 ^ k * (2 * q) + (2 ^ k - 1) := by
    rw [← e2, Nat.mul_add, Nat.mul_one]
    omega
  have e5 : n = 2 ^ k * (2 * q + 1) + 0 := by rw [Nat.add_zero]; exact e2.symm
  rw [e4, Nat.testBit_two_pow_mul_add _ (by omega), Nat.testBit_two_pow_sub_one]
  by_cases c : i < k
  · rw [if_pos c]; simp [c]
  · rw [if_neg c]
    by_cases d : i = k
    · subst d
      simp
    · have e6 : n.testBit i = (2 * q).testBit (i - k) := by
        rw [e5, Nat.testBit_two_pow_mul_add _ (by omega), if_neg c]
        obtain ⟨m, hm⟩ : ∃ m, i - k = m + 1 := ⟨i - k - 1, by omega⟩
        rw [hm, Nat.testBit_add_one, Nat.testBit_add_one]
        congr 1
        omega
      rw [← e6]
      simp [c, show k < i by omega]
theorem lo_clear {n k : Nat} (h1 : n.testBit k = true) (h2 : ∀ j, j < k → n.testBit j = false) : n &&& (n - 1) = nd n (2 ^ k) := by
  apply Nat.eq_of_testBit_eq
  intro i
  rw [Nat.testBit_and, lo_pred h1 h2, nd_tb, Nat.testBit_two_pow]
  rcases Nat.lt_trichotomy i k with c | c | c
  · rw [h2 i c]; simp
  · subst c; simp
  · simp [c, show ¬ i < k by omega, show ¬ k = i by omega]
theorem lo_ex {n : Nat} (h : n ≠ 0) : ∃ k, n.testBit k = true ∧ ∀ j, j < k → n.testBit j = false := by
  obtain ⟨k, hk⟩ := Nat.exists_testBit_of_ne_zero h
  have : ∀ m, (∃ i, i ≤ m ∧ n.testBit i = true) → ∃ k, n.testBit k = true ∧ ∀ j, j < k → n.testBit j = false := by
    intro m
    induction m with
    | zero =>
      rintro ⟨i, hi, h1⟩
      have e : i = 0 := by omega
      subst e
      exact ⟨0, h1, fun j hj => absurd hj (Nat.not_lt_zero j)⟩
    | succ m ih =>
      rintro ⟨i, hi, h1⟩
      by_cases c : ∃ i, i ≤ m ∧ n.testBit i = true
      · exact ih c
      · refine ⟨i, h1, fun j hj => ?_⟩
        exact b_nt (fun z => c ⟨j, by omega, z⟩)
  exact this k ⟨k, Nat.le_refl _, hk⟩
theorem lo_lt {n k : Nat} {N : Nat} (hn : n < 2 ^ N) (h : n.testBit k = true) : k < N := by
  refine Nat.lt_of_not_le (fun z => ?_)
  rw [Nat.testBit_lt_two_pow (Nat.lt_of_lt_of_le hn (Nat.pow_le_pow_right (by omega) z))] at h
  cases h
theorem sm_clear {f g : Nat → Nat} {k : Nat} (hk : f k = g k + 1) (ho : ∀ i, i ≠ k → f i = g i) : ∀ n, ro_sm f n = ro_sm g n + if k < n then 1 else 0
  | 0 => rfl
  | n + 1 => by
    show ro_sm f n + f n = ro_sm g n + g n + _
    rw [sm_clear hk ho n]
    by_cases c : n = k
    · subst c
      rw [hk, if_neg (by omega), if_pos (by omega)]
      omega
    · rw [ho n c]
      by_cases d : k < n
      · rw [if_pos d, if_pos (by omega)]; omega
      · rw [if_neg d, if_neg (by omega)]; omega
theorem pcn_clear {n k : Nat} (hk : k < 64) (h : n.testBit k = true) : pcn 8 n = pcn 8 (nd n (2 ^ k)) + 1 := by
  unfold pcn
  rw [sm_clear (f := fun i => if n.testBit i then 1 else 0) (g := fun i => if (nd n (2 ^ k)).testBit i then 1 else 0) (k := k) ?_ ?_ (8 * 8), if_pos (by omega)]
  · show (if n.testBit k then 1 else 0) = (if (nd n (2 ^ k)).testBit k then 1 else 0) + 1
    rw [h, nd_tb, Nat.testBit_two_pow]
    simp
  · intro i hi
    show (if n.testBit i then 1 else 0) = (if (nd n (2 ^ k)).testBit i then 1 else 0)
    rw [nd_tb, Nat.testBit_two_pow, show decide (k = i) = false from decide_eq_false (fun z => hi z.symm)]
    simp
theorem pcn_0 : pcn 8 0 = 0 := by decide
theorem pcn_le (n : Nat) : pcn 8 n ≤ 64 := by
  have := ro_sm_le (f := fun i => if n.testBit i then 1 else 0) (c := 1) (n := 8 * 8) (fun m _ => by show (if _ then 1 else 0) ≤ 1; split <;> omega)
  unfold pcn
  omega
/-- the step of such a walk: the lowest bit, and the rest -/
theorem lo_step {r : Nat} (hr : r < 2 ^ 63) {N i : Nat} (hc : pcn 8 r + i = N) (hi : i < N) : ∃ k, k < 63 ∧ r.testBit k = true ∧ (∀ h, F_J13_numberOfTrailingZeros_95d88 (lN r) h = some (iI k, h)) ∧ lN r &&& (lN r - (1 : Int64)) = lN (nd r (2 ^ k)) ∧ pcn 8 (nd r (2 ^ k)) + (i + 1) = N := by
  have h0 : r ≠ 0 := by
    intro z
    subst z
    rw [pcn_0] at hc
    omega
  obtain ⟨k, h1, h2⟩ := lo_ex h0
  have hk := lo_lt hr h1
  refine ⟨k, hk, h1, fun h => ?_, ?_, ?_⟩
  · rw [z_ntz (by omega) (by omega) h1 h2, nI_iI]
  · rw [show (1 : Int64) = lN 1 from rfl, lL_sub (by omega), lL_and, lo_clear h1 h2]
  · have := pcn_clear (by omega) h1
    omega
theorem nd_sub {m r k : Nat} (hr : ∀ i, r.testBit i = true → m.testBit i = true) : ∀ i, (nd r (2 ^ k)).testBit i = true → m.testBit i = true := by
  intro i hi
  rw [nd_tb, Bool.and_eq_true] at hi
  exact hr i hi.1
-- where the free slots of a set lead by a picture
def ft_b (w : Nat → Bool) (m f' : Nat) : Bool := (List.range 49).any (fun f => m.testBit f && (decide (ro_f w f < 48) && (f' == ro_f w f + 1)))
theorem ft_iff {w : Nat → Bool} {m f' : Nat} : ft_b w m f' = true ↔ ∃ f, f < 49 ∧ m.testBit f = true ∧ ro_f w f < 48 ∧ f' = ro_f w f + 1 := by
  unfold ft_b
  rw [List.any_eq_true]
  simp only [List.mem_range, Bool.and_eq_true, decide_eq_true_iff, beq_iff_eq]
theorem c_freeThen {t : Nat} {h : Hp} {a : RA} (q : RuR t h a) (hnp : a.1 ≤ 7) {p m : Nat} (hp : p < a.1) (hm : m < 2 ^ 49) : F_X4_freeThen t (iI p) (lN m) h = some (lN (bm (ft_b (ro_w a.2 p) m) 49), h) := by
  unfold F_X4_freeThen
  rw [c_bitCountL (by omega), bd_e]
  have hN := pcn_le m
  refine lp_up (α := Int64 → Int64 → Int32 → Hp → Option (Int64 × Hp)) (P := fun i c => ∀ (x y : Int64) (v : Int32) (r : Nat), (∀ j, r.testBit j = true → m.testBit j = true) → r ≤ m → pcn 8 r + i = pcn 8 m → x = lN (bm (ft_b (ro_w a.2 p) (nd m r)) 49) → y = lN r → v = iI i → c x y v h = some (lN (bm (ft_b (ro_w a.2 p) m) 49), h)) (pcn 8 m) (by omega) (fun i c hi ih => ?_) _ _ _ m (fun _ z => z) (Nat.le_refl _) (by omega) ?_ rfl rfl
  · intro x y v r i1 i2 i3 hx hy hv
    subst hx hy hv
    by_cases z : i < pcn 8 m
    · obtain ⟨k, k1, k2, k3, k4, k5⟩ := lo_step (r := r) (by omega) i3 z
      have hk : k < 49 := lo_lt hm (i1 k k2)
      have hfb := c_freeBehind q hnp (p := p) (f := k) hp (by omega)
      have hle := ro_f_le (ro_w a.2 p) k
      have hb : ∀ f', ft_b (ro_w a.2 p) (nd m (nd r (2 ^ k))) f' = (ft_b (ro_w a.2 p) (nd m r) f' || (decide (ro_f (ro_w a.2 p) k < 48) && (f' == ro_f (ro_w a.2 p) k + 1))) := by
        intro f'
        apply Bool.eq_iff_iff.2
        rw [Bool.or_eq_true, ft_iff, ft_iff, Bool.and_eq_true, decide_eq_true_iff, beq_iff_eq]
        constructor
        · rintro ⟨f, f1, f2, f3, f4⟩
          rw [nd_tb, nd_tb, Nat.testBit_two_pow] at f2
          by_cases d : k = f
          · subst d; exact Or.inr ⟨f3, f4⟩
          · refine Or.inl ⟨f, f1, ?_, f3, f4⟩
            rw [nd_tb]
            simpa [d] using f2
        · rintro (⟨f, f1, f2, f3, f4⟩ | ⟨f3, f4⟩)
          · refine ⟨f, f1, ?_, f3, f4⟩
            rw [nd_tb] at f2
            rw [nd_tb, nd_tb]
            rw [Bool.and_eq_true] at f2
            rw [f2.1]
            simp only [Bool.not_eq_true'] at f2
            rw [f2.2]
            rfl
          · refine ⟨k, hk, ?_, f3, f4⟩
            rw [nd_tb, nd_tb, Nat.testBit_two_pow, i1 k k2]
            simp
      have nxt := ih z
      by_cases c0 : ro_f (ro_w a.2 p) k < 48
      · rw [if_pos c0] at hfb
        simp (maxSteps := 3000000) (implicitDefEqProofs := false) (disch := omega) only [jl_e, jn_e, bd_e, gd_t, iI_add, iI_sub, iI_mul, iI_neg, if_true, if_false, not_true_eq_false, not_false_eq_true, Int.reduceEq, Nat.add_zero, Int.toNat_natCast, iI_cl, iI_lt, iI_eq, gd_in, bI_eq0, bI_eq1, bI_isB, isB_0, isB_1, il_0, il_1, il_2, il_3, il_4, il_5, il_6, il_7, il_8, il_9, il_10, il_12, il_16, il_18, il_24, il_27, il_30, il_31, il_32, il_40, il_47, il_48, il_49, il_55, il_56, il_57, il_59, il_63, il_64, il_96, il_97, il_98, il_99, il_101, il_103, il_104, il_105, il_108, il_109, il_110, il_111, il_112, il_114, il_115, il_116, il_117, il_119, il_122, il_127, il_128, il_200, il_225, il_255, il_256, il_999, il_1575, il_9999, il_65536, il_252645135, il_858993459, il_1431655765, k3 h, hfb, k4]
        rw [if_pos (by omega)]
        have e1 : (1 : Int64) <<< ((iI (((ro_f (ro_w a.2 p) k + 1 : Nat) : Int))).toInt64 &&& 63) = lN (2 ^ (ro_f (ro_w a.2 p) k + 1)) := lL_bit (by omega)
        have e2 : ((ro_f (ro_w a.2 p) k + 1 : Nat) : Int) = (ro_f (ro_w a.2 p) k : Int) + 1 := by omega
        refine nxt _ _ _ (nd r (2 ^ k)) (nd_sub i1) (Nat.le_trans (nd_le _ _) i2) k5 ?_ rfl (iI_cg (by omega))
        rw [e1, lL_or]
        congr 1
        apply bm_eq
        intro f'
        rw [ro_tb_or, bm_tb, hb]
        by_cases d : ro_f (ro_w a.2 p) k + 1 = f'
        · subst d
          simp [c0]
          omega
        · have d2 : (f' == ro_f (ro_w a.2 p) k + 1) = false := beq_eq_false_iff_ne.2 (fun u => d u.symm)
          rw [d2, decide_eq_false d]
          simp
      · rw [if_neg c0] at hfb
        simp (maxSteps := 3000000) (implicitDefEqProofs := false) (disch := omega) only [jl_e, jn_e, bd_e, gd_t, iI_add, iI_sub, iI_mul, iI_neg, if_true, if_false, not_true_eq_false, not_false_eq_true, Int.reduceEq, Nat.add_zero, Int.toNat_natCast, iI_cl, iI_lt, iI_eq, gd_in, bI_eq0, bI_eq1, bI_isB, isB_0, isB_1, il_0, il_1, il_2, il_3, il_4, il_5, il_6, il_7, il_8, il_9, il_10, il_12, il_16, il_18, il_24, il_27, il_30, il_31, il_32, il_40, il_47, il_48, il_49, il_55, il_56, il_57, il_59, il_63, il_64, il_96, il_97, il_98, il_99, il_101, il_103, il_104, il_105, il_108, il_109, il_110, il_111, il_112, il_114, il_115, il_116, il_117, il_119, il_122, il_127, il_128, il_200, il_225, il_255, il_256, il_999, il_1575, il_9999, il_65536, il_252645135, il_858993459, il_1431655765, k3 h, hfb, k4]
        rw [if_pos (by omega)]
        refine nxt _ _ _ (nd r (2 ^ k)) (nd_sub i1) (Nat.le_trans (nd_le _ _) i2) k5 ?_ rfl (iI_cg (by omega))
        congr 1
        apply bm_congr
        intro f' _
        rw [hb, decide_eq_false c0]
        simp
    · simp (maxSteps := 3000000) (implicitDefEqProofs := false) (disch := omega) only [jl_e, jn_e, bd_e, gd_t, iI_add, iI_sub, iI_mul, iI_neg, if_true, if_false, not_true_eq_false, not_false_eq_true, Int.reduceEq, Nat.add_zero, Int.toNat_natCast, iI_cl, iI_lt, iI_eq, gd_in, bI_eq0, bI_eq1, bI_isB, isB_0, isB_1, il_0, il_1, il_2, il_3, il_4, il_5, il_6, il_7, il_8, il_9, il_10, il_12, il_16, il_18, il_24, il_27, il_30, il_31, il_32, il_40, il_47, il_48, il_49, il_55, il_56, il_57, il_59, il_63, il_64, il_96, il_97, il_98, il_99, il_101, il_103, il_104, il_105, il_108, il_109, il_110, il_111, il_112, il_114, il_115, il_116, il_117, il_119, il_122, il_127, il_128, il_200, il_225, il_255, il_256, il_999, il_1575, il_9999, il_65536, il_252645135, il_858993459, il_1431655765]
      rw [if_neg (by omega)]
      have r0 : r = 0 := by
        refine Classical.byContradiction fun n => ?_
        obtain ⟨k, h1, h2⟩ := lo_ex n
        have hk := lo_lt hm (i1 k h1)
        have := pcn_clear (n := r) (k := k) (by omega) h1
        omega
      subst r0
      have : nd m 0 = m := by
        apply Nat.eq_of_testBit_eq
        intro j
        rw [nd_tb]
        simp
      rw [this]
  · have : nd m m = 0 := by
      apply Nat.eq_of_testBit_eq
      intro j
      rw [nd_tb]
      simp
    rw [this]
    have : bm (ft_b (ro_w a.2 p) 0) 49 = 0 := by
      rw [bm_0]
      intro f' _
      apply b_nt
      rw [ft_iff]
      rintro ⟨f, -, f2, -⟩
      rw [Nat.zero_testBit] at f2
      cases f2
    rw [this]
    rfl
