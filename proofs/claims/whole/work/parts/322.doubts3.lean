-- ===== the class's Doubts: what to ask for =====
theorem c_picturesSeeing {h : Hp} {a : Alb} (hA : AlC 3 h a) {t v : Nat} (ht : t < 6) (hv : v ≤ 1) : F_X0_picturesSeeing 3 (iI t) (iI v) h = some (iI (bm (fun p => decide ((v : Int) ≤ th_v a p t)) (al_w a).length), h) := by
  have hnp := hA.1.2.1
  unfold F_X0_picturesSeeing
  refine lp_up (α := Int32 → Int32 → Hp → Option (Int32 × Hp)) (P := fun k c => ∀ (x y : Int32), x = iI (bm (fun p => decide ((v : Int) ≤ th_v a p t)) k) → y = iI k → c x y h = some (iI (bm (fun p => decide ((v : Int) ≤ th_v a p t)) (al_w a).length), h)) (al_w a).length (by omega) (fun k c hk ih => ?_) _ _ rfl rfl
  intro x y hx hy
  subst hx hy
  by_cases z : k < (al_w a).length
  · have e := c_valueOf hA.2.2.2.2.1 (a := (k : Int)) (b := 2 + (t : Int)) (by omega) (by omega)
    rw [if_pos (by omega), show ((k : Int) * 8 + (2 + (t : Int))).toNat = 8 * k + (2 + t) by omega] at e
    have e' : F_X5_valueOf 5 (iI k) (iI (2 + (t : Int))) h = some (iI (th_v a k t), h) := e
    have r := th_v_rng hA.1 k t (by omega) ht
    simp (maxSteps := 3000000) (implicitDefEqProofs := false) (disch := omega) only [jl_e, jn_e, bd_e, gd_t, iI_add, iI_sub, iI_mul, iI_neg, if_true, if_false, not_true_eq_false, not_false_eq_true, Int.reduceEq, Nat.add_zero, Int.toNat_natCast, iI_cl, iI_lt, iI_eq, gd_in, bI_eq0, bI_eq1, bI_isB, isB_0, isB_1, il_0, il_1, il_2, il_3, il_4, il_5, il_6, il_7, il_8, il_9, il_10, il_12, il_16, il_18, il_24, il_27, il_30, il_31, il_32, il_40, il_47, il_48, il_49, il_55, il_56, il_57, il_59, il_63, il_64, il_96, il_97, il_98, il_99, il_101, il_103, il_104, il_105, il_108, il_109, il_110, il_111, il_112, il_114, il_115, il_116, il_117, il_119, il_122, il_127, il_128, il_200, il_225, il_255, il_256, il_999, il_1575, il_9999, il_65536, il_252645135, il_858993459, il_1431655765, hA.2.1, e', ms_shl k (by omega), ms_or]
    rw [if_pos (by omega)]
    have es : bm (fun p => decide ((v : Int) ≤ th_v a p t)) (k + 1) = bm (fun p => decide ((v : Int) ≤ th_v a p t)) k ||| (if decide ((v : Int) ≤ th_v a k t) = true then 2 ^ k else 0) := rfl
    by_cases w : th_v a k t < v
    · rw [if_pos w]
      refine ih z _ _ ?_ (iI_cg (by omega))
      rw [es, decide_eq_false (by omega)]
      simp
    · rw [if_neg w]
      refine ih z _ _ ?_ (iI_cg (by omega))
      rw [es, decide_eq_true (by omega)]
      simp
  · simp (maxSteps := 3000000) (implicitDefEqProofs := false) (disch := omega) only [jl_e, jn_e, bd_e, gd_t, iI_add, iI_sub, iI_mul, iI_neg, if_true, if_false, not_true_eq_false, not_false_eq_true, Int.reduceEq, Nat.add_zero, Int.toNat_natCast, iI_cl, iI_lt, iI_eq, gd_in, bI_eq0, bI_eq1, bI_isB, isB_0, isB_1, il_0, il_1, il_2, il_3, il_4, il_5, il_6, il_7, il_8, il_9, il_10, il_12, il_16, il_18, il_24, il_27, il_30, il_31, il_32, il_40, il_47, il_48, il_49, il_55, il_56, il_57, il_59, il_63, il_64, il_96, il_97, il_98, il_99, il_101, il_103, il_104, il_105, il_108, il_109, il_110, il_111, il_112, il_114, il_115, il_116, il_117, il_119, il_122, il_127, il_128, il_200, il_225, il_255, il_256, il_999, il_1575, il_9999, il_65536, il_252645135, il_858993459, il_1431655765, hA.2.1]
    rw [if_neg (by omega), show k = (al_w a).length by omega]
def sg_m (a : Alb) (t v : Nat) : Nat := bm (fun p => decide ((v : Int) ≤ th_v a p t)) (al_w a).length
def cn_p (a : Alb) (p t : Nat) : Prop := al_kd a t ≠ 3 ∧ ¬ (sg_m a t 0).testBit p = true ∧ ¬ sg_m a t 1 = 0 ∧ ¬ sg_m a t 1 = sg_m a t 0
theorem sg_m_lt {a : Alb} (hnp : (al_w a).length ≤ 7) (t v : Nat) : sg_m a t v < 128 := by
  have h1 := bm_lt (fun p => decide ((v : Int) ≤ th_v a p t)) (al_w a).length
  have h2 := Nat.pow_le_pow_right (n := 2) (by omega) hnp
  have h3 : (2 : Nat) ^ 7 = 128 := by decide
  unfold sg_m
  omega
theorem c_canNarrow {h : Hp} {a : Alb} (hA : AlC 3 h a) {p t : Nat} (hp : p < (al_w a).length) (ht : t < (al_k a).length) : (F_X1_canNarrow 3 (iI p) (iI t) h = some (iI 1, h) ∧ cn_p a p t) ∨ (F_X1_canNarrow 3 (iI p) (iI t) h = some (iI 0, h) ∧ ¬ cn_p a p t) := by
  have hnp := hA.1.2.1
  have hnt := hA.1.2.2.1
  have hk3 := hA.1.2.2.2.2.1 t ht
  have m0 := sg_m_lt hnp t 0
  have m1 := sg_m_lt hnp t 1
  have ek := c_kindOf hA (p := (t : Int)) (by omega)
  rw [if_pos (by omega), Int.toNat_natCast] at ek
  have s0 : F_X0_picturesSeeing 3 (iI t) (iI 0) h = some (iI (sg_m a t 0), h) := c_picturesSeeing hA (t := t) (v := 0) (by omega) (by omega)
  have s1 : F_X0_picturesSeeing 3 (iI t) (iI 1) h = some (iI (sg_m a t 1), h) := c_picturesSeeing hA (t := t) (v := 1) (by omega) (by omega)
  unfold F_X1_canNarrow
  simp (maxSteps := 3000000) (implicitDefEqProofs := false) (disch := omega) only [jl_e, jn_e, bd_e, gd_t, iI_add, iI_sub, iI_mul, iI_neg, if_true, if_false, not_true_eq_false, not_false_eq_true, Int.reduceEq, Nat.add_zero, Int.toNat_natCast, iI_cl, iI_lt, iI_eq, gd_in, bI_eq0, bI_eq1, bI_isB, isB_0, isB_1, il_0, il_1, il_2, il_3, il_4, il_5, il_6, il_7, il_8, il_9, il_10, il_12, il_16, il_18, il_24, il_27, il_30, il_31, il_32, il_40, il_47, il_48, il_49, il_55, il_56, il_57, il_59, il_63, il_64, il_96, il_97, il_98, il_99, il_101, il_103, il_104, il_105, il_108, il_109, il_110, il_111, il_112, il_114, il_115, il_116, il_117, il_119, il_122, il_127, il_128, il_200, il_225, il_255, il_256, il_999, il_1575, il_9999, il_65536, il_252645135, il_858993459, il_1431655765, ek, s0, s1, c_hasBit m0 (show p < 8 by omega)]
  by_cases c1 : al_kd a t = 3
  · rw [if_pos (by omega)]
    exact Or.inr ⟨rfl, fun w => w.1 c1⟩
  · rw [if_neg (by omega)]
    by_cases c2 : (sg_m a t 0).testBit p = true
    · rw [if_neg (fun w => w c2)]
      exact Or.inr ⟨rfl, fun w => w.2.1 c2⟩
    · rw [if_pos c2]
      by_cases c3 : sg_m a t 1 = 0
      · rw [if_pos (by omega)]
        exact Or.inr ⟨rfl, fun w => w.2.2.1 c3⟩
      · rw [if_neg (by omega)]
        by_cases c4 : sg_m a t 1 = sg_m a t 0
        · rw [if_pos (by omega)]
          exact Or.inr ⟨rfl, fun w => w.2.2.2 c4⟩
        · rw [if_neg (by omega)]
          exact Or.inl ⟨rfl, c1, c2, c3, c4⟩
theorem th_put {a : Alb} (h : al_ok a) {p t v : Nat} (hp : p < 7) (ht : t < 6) (hv : v < 1000) (q t' : Nat) (ht' : t' < 6) : th_v (al_set a (pc_put (al_p a) (8 * p + (2 + t)) v 0)) q t' = if q = p ∧ t' = t then (v : Int) else th_v a q t' := by
  show pc_v (pc_put (al_p a) (8 * p + (2 + t)) v 0) (8 * q + (2 + t')) = _
  rw [pc_put_v h.hp (by omega) hv (by omega)]
  by_cases c : q = p ∧ t' = t
  · rw [if_pos c, if_pos (by omega)]
  · rw [if_neg c, if_neg (by omega)]
    rfl
/-- a piece that asks nothing more leaves the orders -/
theorem ask_same {a : Alb} (h : al_ok a) {p t v : Nat} (hp : p < (al_w a).length) (ht : t < (al_k a).length) (hv : v ≤ 1) (hno : th_v a p t = -1) (hall : ∀ q, q < (al_w a).length → th_v a q t = -1 ∨ th_v a q t = v) : al_or (al_set a (pc_put (al_p a) (8 * p + (2 + t)) v 0)) = al_or a := by
  have hnp := h.2.1
  have hnt := h.2.2.1
  obtain ⟨b, eb⟩ : ∃ b, al_set a (pc_put (al_p a) (8 * p + (2 + t)) v 0) = b := ⟨_, rfl⟩
  have hth : ∀ q t', t' < 6 → th_v b q t' = if q = p ∧ t' = t then (v : Int) else th_v a q t' := fun q t' ht' => by
    rw [← eb]; exact th_put h (by omega) (by omega) (by omega) q t' ht'
  have ekd : ∀ t', al_kd b t' = al_kd a t' := fun t' => by rw [← eb]; rfl
  have ek : al_k b = al_k a := by rw [← eb]; rfl
  have ew : al_w b = al_w a := by rw [← eb]; rfl
  have hall' : ∀ q, q < 7 → th_v a q t = -1 ∨ th_v a q t = v := by
    intro q hq
    by_cases c : q < (al_w a).length
    · exact hall q c
    · exact Or.inl ((th_v_rng h q t hq (by omega)).2.2.2.1 (by omega))
  have hallb : ∀ q, q < 7 → th_v b q t = -1 ∨ th_v b q t = v := by
    intro q hq
    rw [hth q t (by omega)]
    split
    · exact Or.inr rfl
    · exact hall' q hq
  have hah : ∀ i, i ≤ (al_k a).length → ∀ q p', q < 7 → p' < 7 → ah_n b i q p' = ah_n a i q p' := by
    intro i
    induction i with
    | zero => intro _ q p' _ _; rfl
    | succ i ih =>
      intro hi q p' hq hp'
      rw [ah_n_succ, ah_n_succ, ih (by omega) q p' hq hp']
      congr 1
      by_cases c : i = t
      · subst c
        have none_ : ∀ x : Alb, (∀ q, q < 7 → th_v x q i = -1 ∨ th_v x q i = v) → ah_b x i q p' = false := by
          intro x hx
          unfold ah_b
          have h1 := hx q hq
          have h2 := hx p' hp'
          by_cases u1 : th_v x q i = -1
          · simp [u1]
          · by_cases u2 : th_v x p' i = -1
            · simp [u2]
            · have e1 : decide (th_v x p' i < th_v x q i) = false := decide_eq_false (by omega)
              have e2 : decide (th_v x q i < th_v x p' i) = false := decide_eq_false (by omega)
              rw [e1, e2]
              simp
        rw [none_ b hallb, none_ a hall']
      · unfold ah_b
        rw [hth q i (by omega), hth p' i (by omega), if_neg (fun w => c w.2), if_neg (fun w => c w.2), ekd]
  have hN : al_N a < 128 := all_lt hnp
  have eN : al_N b = al_N a := by unfold al_N; rw [ew]
  rw [eb]
  unfold al_or
  rw [eN]
  apply ro_rows_congr hN
  intro l hl
  have hl7 : ∀ i, i < l.length → l.getD i 0 < 7 := fun i hi => (hl.2.1 _ (ro_get_mem.2 ⟨i, hi, rfl⟩)).1
  have hw : ro_w (al_r b) = ro_w (al_r a) := by
    funext q s
    show wd_b b q s = wd_b a q s
    rw [← eb]
    apply wd_set
    · rw [pc_put_v h.hp (by omega) (by omega) (by omega), pc_put_s h.hp (by omega) (by omega) (by omega), if_neg (by omega), if_neg (by omega)]
      exact ⟨rfl, rfl⟩
    · rw [pc_put_v h.hp (by omega) (by omega) (by omega), pc_put_s h.hp (by omega) (by omega) (by omega), if_neg (by omega), if_neg (by omega)]
      exact ⟨rfl, rfl⟩
  have ha : ∀ q p', q < 7 → p' < 7 → ro_a (al_r b) q p' = ro_a (al_r a) q p' := by
    intro q p' hq hp'
    show ah_n b (al_k b).length q p' = ah_n a (al_k a).length q p'
    rw [ek]
    exact hah _ (Nat.le_refl _) q p' hq hp'
  have ht' : ∀ t' q, t' < 6 → t' ≠ t → ro_t (al_r b) t' q = ro_t (al_r a) t' q ∧ ro_y (al_r b) t' q = ro_y (al_r a) t' q := by
    intro t' q h6 hne
    refine ⟨?_, ?_⟩
    · show (decide (t' < (al_k b).length) && (al_kd b t' == 2) && (th_v b q t' == 1)) = (decide (t' < (al_k a).length) && (al_kd a t' == 2) && (th_v a q t' == 1))
      rw [ek, ekd, hth q t' h6, if_neg (fun w => hne w.2)]
    · show (decide (t' < (al_k b).length) && (al_kd b t' == 2) && (th_v b q t' == 0)) = (decide (t' < (al_k a).length) && (al_kd a t' == 2) && (th_v a q t' == 0))
      rw [ek, ekd, hth q t' h6, if_neg (fun w => hne w.2)]
  have hne : ∀ x : Alb, (∀ q, q < 7 → th_v x q t = -1 ∨ th_v x q t = v) → ∀ q q', q < 7 → q' < 7 → ro_t (al_r x) t q = true → ro_y (al_r x) t q' = true → False := by
    intro x hx q q' hq hq' h1 h2
    have h1' : (decide (t < (al_k x).length) && (al_kd x t == 2) && (th_v x q t == 1)) = true := h1
    have h2' : (decide (t < (al_k x).length) && (al_kd x t == 2) && (th_v x q' t == 0)) = true := h2
    rw [Bool.and_eq_true, beq_iff_eq] at h1' h2'
    have a1 := hx q hq
    have a2 := hx q' hq'
    omega
  unfold ro_V
  constructor
  · rintro ⟨v1, v2, v3⟩
    refine ⟨fun i j hij hj => ?_, fun t1 h6 i j k hij hjk hk w1 w2 => ?_, fun j hj => ?_⟩
    · rw [← ha _ _ (hl7 j hj) (hl7 i (by omega))]
      exact v1 i j hij hj
    · by_cases c : t1 = t
      · subst c
        exact (hne a hall' _ _ (hl7 i (by omega)) (hl7 j (by omega)) w1 w2).elim
      · rw [← (ht' t1 _ h6 c).1] at w1 ⊢
        rw [← (ht' t1 _ h6 c).2] at w2
        exact v2 t1 h6 i j k hij hjk hk w1 w2
    · rw [← ro_sl_w hw]; exact v3 j hj
  · rintro ⟨v1, v2, v3⟩
    refine ⟨fun i j hij hj => ?_, fun t1 h6 i j k hij hjk hk w1 w2 => ?_, fun j hj => ?_⟩
    · rw [ha _ _ (hl7 j hj) (hl7 i (by omega))]
      exact v1 i j hij hj
    · by_cases c : t1 = t
      · subst c
        exact (hne b hallb _ _ (hl7 i (by omega)) (hl7 j (by omega)) w1 w2).elim
      · rw [(ht' t1 _ h6 c).1] at w1 ⊢
        rw [(ht' t1 _ h6 c).2] at w2
        exact v2 t1 h6 i j k hij hjk hk w1 w2
    · rw [ro_sl_w hw]; exact v3 j hj
/-- how many orders there would be by a sight more -/
def wo_n (a : Alb) (p t v : Nat) : Nat := (al_or (al_set a (pc_put (al_p a) (8 * p + (2 + t)) v 0))).length
def ak_1 (a : Alb) (p t : Nat) (st : Nat × Int) : Nat × Int := if (al_kd a t ≠ 3 ∧ th_v a p t = -1) ∧ wo_n a p t 0 < st.1 ∧ wo_n a p t 1 < st.1 then (if wo_n a p t 0 ≤ wo_n a p t 1 then wo_n a p t 1 else wo_n a p t 0, ((10 * p + (2 + t) : Nat) : Int)) else st
def ak_t (a : Alb) (p : Nat) : Nat → Nat × Int → Nat × Int
  | 0, st => st
  | n + 1, st => ak_1 a p n (ak_t a p n st)
def ak_p (a : Alb) : Nat → Nat × Int
  | 0 => ((al_or a).length, -1)
  | n + 1 => ak_t a n (al_k a).length (ak_p a n)
theorem ak_t_le (a : Alb) (p : Nat) : ∀ n st, (ak_t a p n st).1 ≤ st.1
  | 0, st => Nat.le_refl _
  | n + 1, st => by
    have ih := ak_t_le a p n st
    show (ak_1 a p n (ak_t a p n st)).1 ≤ _
    unfold ak_1
    split
    · rename_i c
      dsimp only
      split <;> omega
    · exact ih
theorem ak_p_le (a : Alb) : ∀ n, (ak_p a n).1 ≤ (al_or a).length
  | 0 => Nat.le_refl _
  | n + 1 => Nat.le_trans (ak_t_le a n _ _) (ak_p_le a n)
/-- what the class does not look at can't be better -/
theorem cn_skip {a : Alb} (h : al_ok a) {p t w : Nat} (hp : p < (al_w a).length) (ht : t < (al_k a).length) (hw : w ≤ (al_or a).length) (hn : ¬ cn_p a p t) : ¬ ((al_kd a t ≠ 3 ∧ th_v a p t = -1) ∧ wo_n a p t 0 < w ∧ wo_n a p t 1 < w) := by
  rintro ⟨⟨c1, c2⟩, c3, c4⟩
  have hnp := h.2.1
  have hnt := h.2.2.1
  have tb : ∀ v q, (sg_m a t v).testBit q = (decide (q < (al_w a).length) && decide ((v : Int) ≤ th_v a q t)) := fun v q => bm_tb _ _ q
  have r := fun q (hq : q < (al_w a).length) => th_v_rng h q t (by omega) (by omega)
  have b0 : ¬ (sg_m a t 0).testBit p = true := by
    rw [tb, Bool.and_eq_true, decide_eq_true_iff, decide_eq_true_iff]
    omega
  by_cases d1 : sg_m a t 1 = 0
  · have hall : ∀ q, q < (al_w a).length → th_v a q t = -1 ∨ th_v a q t = (0 : Nat) := by
      intro q hq
      have e := tb 1 q
      rw [d1, Nat.zero_testBit, decide_eq_true hq, Bool.true_and] at e
      have e2 := of_decide_eq_false e.symm
      have := r q hq
      omega
    have := ask_same h hp ht (Nat.zero_le 1) c2 hall
    unfold wo_n at c3
    rw [this] at c3
    omega
  · by_cases d2 : sg_m a t 1 = sg_m a t 0
    · have hall : ∀ q, q < (al_w a).length → th_v a q t = -1 ∨ th_v a q t = (1 : Nat) := by
        intro q hq
        have e1 := tb 1 q
        have e0 := tb 0 q
        rw [d2, e0, decide_eq_true hq, Bool.true_and, Bool.true_and] at e1
        have rq := r q hq
        have := rq.2.2.1 c1
        by_cases u : th_v a q t = 0
        · rw [u] at e1
          simp at e1
        · omega
      have := ask_same h hp ht (Nat.le_refl 1) c2 hall
      unfold wo_n at c4
      rw [this] at c4
      omega
    · exact hn ⟨c1, b0, d1, d2⟩
