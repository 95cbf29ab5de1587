-- ===== the class's Doubts: trials =====
theorem pa_put {a : Alb} {L : List Pc} (h : pa_ok a L) {p m v s : Nat} (hp : p < (al_w a).length) (hp7 : (al_w a).length ≤ 7) (hm : m < 2 + (al_k a).length) (hm8 : (al_k a).length ≤ 6) (hv : v ≤ al_most a m) (hs : s ≤ al_msl m) : pa_ok a (pc_put L (8 * p + m) v s) := by
  have h1 := al_most_le a m
  have h2 := al_msl_le m
  have e1 : (8 * p + m) / 8 = p := by omega
  have e2 : (8 * p + m) % 8 = m := by omega
  refine ⟨pc_put_ok h.1 (by omega) (by omega) (by omega), fun i hi => ?_⟩
  rw [pc_put_at hi]
  by_cases c : i = pc_ix L (8 * p + m) ∨ i = L.length
  · rw [if_pos c]
    dsimp only
    rw [e1, e2]
    exact ⟨hp, hm, hv, hs⟩
  · rw [if_neg c]
    rw [pc_put_len] at hi
    have := pc_ix_le L (8 * p + m)
    exact h.2 i (by split at hi <;> omega)
theorem pa_rm {a : Alb} {L : List Pc} (h : pa_ok a L) {k : Nat} (hk : pc_ix L k < L.length) : pa_ok a (pc_rm L k) := by
  refine ⟨pc_rm_ok h.1 hk, fun i hi => ?_⟩
  have hl := pc_rm_len hk
  rw [pc_rm_at hk (by omega)]
  split
  · exact h.2 i (by omega)
  · exact h.2 (i + 1) (by omega)
theorem al_ok_set {a : Alb} (h : al_ok a) {L : List Pc} (hL : pa_ok a L) : al_ok (al_set a L) := ⟨h.1, h.2.1, h.2.2.1, h.2.2.2.1, h.2.2.2.2.1, hL⟩
/-- pieces alike but for one key: the window of another picture, the things of another key -/
theorem wd_set {a : Alb} {L : List Pc} {p s : Nat} (h1 : pc_v L (8 * p) = pc_v (al_p a) (8 * p) ∧ pc_s L (8 * p) = pc_s (al_p a) (8 * p)) (h2 : pc_v L (8 * p + 1) = pc_v (al_p a) (8 * p + 1) ∧ pc_s L (8 * p + 1) = pc_s (al_p a) (8 * p + 1)) : wd_b (al_set a L) p s = wd_b a p s := by
  unfold wd_b
  have e : al_p (al_set a L) = L := rfl
  have e2 : ln_at (al_set a L) s = ln_at a s := rfl
  have e3 : al_n (al_set a L) = al_n a := rfl
  rw [e, e2, e3, h1.1, h1.2, h2.1, h2.2]
theorem ah_set {a : Alb} {L : List Pc} (h : ∀ q t, t < 6 → th_v (al_set a L) q t = th_v a q t) (hk : (al_k a).length ≤ 6) : ∀ i, i ≤ (al_k a).length → ∀ q p, ah_n (al_set a L) i q p = ah_n a i q p := by
  intro i
  induction i with
  | zero => intro _ q p; rfl
  | succ i ih =>
    intro hi q p
    rw [ah_n_succ, ah_n_succ, ih (by omega)]
    congr 1
    unfold ah_b
    rw [h q i (by omega), h p i (by omega)]
    rfl
theorem c_readAgain {h : Hp} {a : Alb} {L : List Pc} (hA : AlC 3 h a) (hP : PcC 93 h L) (hok : al_ok (al_set a L)) (q : RuC 98 h a) {p m : Nat} (hp : p < (al_w a).length) (hm : m < 8) (hk : ∀ x, x ≠ 8 * p + m → pc_v L x = pc_v (al_p a) x ∧ pc_s L x = pc_s (al_p a) x) : ∃ h', F_X7_readAgain 98 3 93 (iI p) (iI m) h = some ((), h') ∧ RuC 98 h' (al_set a L) := by
  have hnp := hA.1.2.1
  have hnt := hA.1.2.2.1
  unfold F_X7_readAgain
  by_cases c : m < 2
  · obtain ⟨h', e1, e2, e3⟩ := c_readWindow (t := 98) (c := 3) (b := 93) (h := h) (a := al_set a L) hA.2.2.2.1 hP (p := p) (by omega)
    have fr := fr_X7_readWindow _ _ _ _ _ _ _ e1
    simp (maxSteps := 3000000) (implicitDefEqProofs := false) (disch := omega) only [jl_e, jn_e, bd_e, gd_t, iI_add, iI_sub, iI_mul, iI_neg, if_true, if_false, not_true_eq_false, not_false_eq_true, Int.reduceEq, Nat.add_zero, Int.toNat_natCast, iI_cl, iI_lt, iI_eq, gd_in, bI_eq0, bI_eq1, bI_isB, isB_0, isB_1, il_0, il_1, il_2, il_3, il_4, il_5, il_6, il_7, il_8, il_9, il_10, il_12, il_16, il_18, il_24, il_27, il_30, il_31, il_32, il_40, il_47, il_48, il_49, il_55, il_56, il_57, il_59, il_63, il_64, il_96, il_97, il_98, il_99, il_101, il_103, il_104, il_105, il_108, il_109, il_110, il_111, il_112, il_114, il_115, il_116, il_117, il_119, il_122, il_127, il_128, il_200, il_225, il_255, il_256, il_999, il_1575, il_9999, il_65536, il_252645135, il_858993459, il_1431655765, e1]
    rw [if_pos (by omega)]
    have hth : ∀ q t, t < 6 → th_v (al_set a L) q t = th_v a q t := fun q t ht => (hk _ (by omega)).1
    refine ⟨h', rfl, (fr.sg (by simp)).trans q.1, fun p' hp' => ?_, fun p' hp' => ?_, fun i hi => ?_⟩
    · by_cases u : p' = p
      · subst u; exact e2
      · rw [e3 p' u, q.2.1 p' hp']
        congr 1
        apply bm_congr
        intro s _
        exact (wd_set (hk _ (by omega)) (hk _ (by omega))).symm
    · rw [fr.ag (by simp), q.2.2.1 p' hp']
      congr 2
      apply bm_congr
      intro q' _
      exact (ah_set hth hnt (al_k a).length (Nat.le_refl _) q' p').symm
    · rw [fr.ag (by simp), fr.ag (by simp), (q.2.2.2 i hi).1, (q.2.2.2 i hi).2]
      refine ⟨?_, ?_⟩
      · congr 2
        apply bm_congr
        intro p' _
        show (decide _ && _ && (th_v a p' i == 1)) = (decide _ && _ && (th_v (al_set a L) p' i == 1))
        rw [hth p' i hi]
        rfl
      · congr 2
        apply bm_congr
        intro p' _
        show (decide _ && _ && (th_v a p' i == 0)) = (decide _ && _ && (th_v (al_set a L) p' i == 0))
        rw [hth p' i hi]
        rfl
  · obtain ⟨h', e1, e2⟩ := c_readThings (t := 98) (c := 3) (b := 93) (h := h) (a0 := a) (L := L) hA hP hok q.1 (by omega) (by omega)
    have fr := fr_X7_readThings _ _ _ _ _ _ e1
    simp (maxSteps := 3000000) (implicitDefEqProofs := false) (disch := omega) only [jl_e, jn_e, bd_e, gd_t, iI_add, iI_sub, iI_mul, iI_neg, if_true, if_false, not_true_eq_false, not_false_eq_true, Int.reduceEq, Nat.add_zero, Int.toNat_natCast, iI_cl, iI_lt, iI_eq, gd_in, bI_eq0, bI_eq1, bI_isB, isB_0, isB_1, il_0, il_1, il_2, il_3, il_4, il_5, il_6, il_7, il_8, il_9, il_10, il_12, il_16, il_18, il_24, il_27, il_30, il_31, il_32, il_40, il_47, il_48, il_49, il_55, il_56, il_57, il_59, il_63, il_64, il_96, il_97, il_98, il_99, il_101, il_103, il_104, il_105, il_108, il_109, il_110, il_111, il_112, il_114, il_115, il_116, il_117, il_119, il_122, il_127, il_128, il_200, il_225, il_255, il_256, il_999, il_1575, il_9999, il_65536, il_252645135, il_858993459, il_1431655765, e1]
    rw [if_neg (by omega)]
    refine ⟨h', rfl, (fr.sg (by simp)).trans q.1, fun p' hp' => ?_, e2⟩
    rw [fr.lg (by simp), q.2.1 p' hp']
    congr 1
    apply bm_congr
    intro s _
    exact (wd_set (hk _ (by omega)) (hk _ (by omega))).symm
def al_N (a : Alb) : Nat := 2 ^ (al_w a).length - 1
/-- how many orders the album has -/
def al_or (a : Alb) : List (List Nat) := ro_rows (al_r a) (al_N a)
theorem al_N_x (a : Alb) : al_S (al_x a) = al_N a := rfl
theorem c_isLoose {h : Hp} {a : Alb} (hA : AlC 3 h a) (q : RuC 75 h a) {i : Nat} (hi : i < (al_p a).length) : ∃ h', F_X1_isLoose 3 75 (iI i) h = some (bI (al_or (al_set a (pc_rm (al_p a) (pc_at (al_p a) i).1)) ≠ []), h') := by
  have hnp := hA.1.2.1
  have hnt := hA.1.2.2.1
  have hP := hA.2.2.2.2.1
  have hpa := hA.1.2.2.2.2.2
  obtain ⟨k, ek⟩ : ∃ k, (pc_at (al_p a) i).1 = k := ⟨_, rfl⟩
  have hki := hpa.2 i hi
  rw [ek] at hki
  have hix : pc_ix (al_p a) k = i := pc_ix_eq hpa.1 hi ek
  have hlen := pc_len hpa.1
  have e1 := c_pictureOf hP (a := (i : Int)) (by omega)
  have e2 := c_matterOf hP (a := (i : Int)) (by omega)
  rw [if_pos (by omega), Int.toNat_natCast, ek] at e1 e2
  obtain ⟨h1, c1, p1⟩ := c_pcopy (t := 93) (a := 5) hP (by omega)
  have f1 := fr_X5_copyFrom _ _ _ _ _ c1
  have hA1 : AlC 3 h1 a := hA.fr f1 (by decide) (by decide)
  have q1 : RuC 75 h1 a := q.fr f1 (by decide) (by decide) (by decide) (by decide) (by decide)
  have hk56 := (hpa.1.2 i hi).1
  rw [ek] at hk56
  obtain ⟨h2, c2, p2⟩ := c_remove p1 (a := ((k / 8 : Nat) : Int)) (b := ((k % 8 : Nat) : Int)) (by omega) (by omega) (by rw [show (((k / 8 : Nat) : Int) * 8 + ((k % 8 : Nat) : Int)).toNat = k by omega, hix]; exact hi)
  have f2 := fr_X5_remove _ _ _ _ _ _ c2
  rw [show (((k / 8 : Nat) : Int) * 8 + ((k % 8 : Nat) : Int)).toNat = k by omega] at p2
  have hA2 : AlC 3 h2 a := hA1.fr f2 (by decide) (by decide)
  have q2 : RuC 75 h2 a := q1.fr f2 (by decide) (by decide) (by decide) (by decide) (by decide)
  obtain ⟨h3, c3, q3⟩ := c_rcopy (t := 98) q2 hnp (by omega)
  have f3 := fr_X7_copyFrom _ _ _ _ _ c3
  have hA3 : AlC 3 h3 a := hA2.fr f3 (by decide) (by decide)
  have p3 : PcC 93 h3 (pc_rm (al_p a) k) := p2.fr f3 (by decide) (by decide) (by decide) (by decide) (by decide)
  have hok : al_ok (al_set a (pc_rm (al_p a) k)) := al_ok_set hA.1 (pa_rm hpa (by rw [hix]; exact hi))
  obtain ⟨h4, c4, q4⟩ := c_readAgain hA3 p3 hok q3 (p := k / 8) (m := k % 8) hki.1 (by omega) (fun x hx => by
    have hx' : x ≠ k := by omega
    rw [pc_rm_v hpa.1 (by rw [hix]; exact hi), pc_rm_s hpa.1 (by rw [hix]; exact hi), if_neg hx', if_neg hx']
    exact ⟨rfl, rfl⟩)
  have qx : RuR 98 h4 (al_x (al_set a (pc_rm (al_p a) k))) := q4
  have c5 := c_everyone qx hnp
  obtain ⟨h5, lv, c6, -, -⟩ := c_canBe (a := al_x (al_set a (pc_rm (al_p a) k))) al_r_ok qx hnp (t := 109) (by omega) (S := al_S (al_x (al_set a (pc_rm (al_p a) k)))) (al_S_sub (Nat.le_refl _))
  refine ⟨h5, ?_⟩
  unfold F_X1_isLoose
  rw [e1, bd_e, e2, bd_e, c1, bd_e, c2, bd_e, c3, bd_e, c4, bd_e, c5, bd_e]
  have c6' : F_X3_canBe 109 98 (iI ((2 ^ (al_x (al_set a (pc_rm (al_p a) k))).1 - 1 : Nat) : Int)) h4 = _ := c6
  rw [c6', bd_e, gd_e (bI_isB _), ek]
  rfl
theorem c_ordersWithPiece {h : Hp} {a : Alb} (hA : AlC 3 h a) (q : RuC 75 h a) {p m v : Nat} (hp : p < (al_w a).length) (hm : m < 2 + (al_k a).length) (hv : v ≤ al_most a m) : ∃ h', F_X1_ordersWithPiece 3 75 (iI p) (iI m) (iI v) h = some (iI (al_or (al_set a (pc_put (al_p a) (8 * p + m) v 0))).length, h') := by
  have hnp := hA.1.2.1
  have hnt := hA.1.2.2.1
  have hP := hA.2.2.2.2.1
  have hpa := hA.1.2.2.2.2.2
  have hml := al_most_le a m
  obtain ⟨h1, c1, p1⟩ := c_pcopy (t := 93) (a := 5) hP (by omega)
  have f1 := fr_X5_copyFrom _ _ _ _ _ c1
  have hA1 : AlC 3 h1 a := hA.fr f1 (by decide) (by decide)
  have q1 : RuC 75 h1 a := q.fr f1 (by decide) (by decide) (by decide) (by decide) (by decide)
  obtain ⟨h2, c2, p2⟩ := c_put p1 (a := (p : Int)) (b := (m : Int)) (v := v) (s := 0) (by omega) (by omega) (by omega) (by omega)
  have f2 := fr_X5_put _ _ _ _ _ _ _ _ c2
  rw [show ((p : Int) * 8 + (m : Int)).toNat = 8 * p + m by omega] at p2
  have hA2 : AlC 3 h2 a := hA1.fr f2 (by decide) (by decide)
  have q2 : RuC 75 h2 a := q1.fr f2 (by decide) (by decide) (by decide) (by decide) (by decide)
  obtain ⟨h3, c3, q3⟩ := c_rcopy (t := 98) q2 hnp (by omega)
  have f3 := fr_X7_copyFrom _ _ _ _ _ c3
  have hA3 : AlC 3 h3 a := hA2.fr f3 (by decide) (by decide)
  have p3 : PcC 93 h3 (pc_put (al_p a) (8 * p + m) v 0) := p2.fr f3 (by decide) (by decide) (by decide) (by decide) (by decide)
  have hok : al_ok (al_set a (pc_put (al_p a) (8 * p + m) v 0)) := al_ok_set hA.1 (pa_put hpa hp hnp hm hnt hv (Nat.zero_le _))
  obtain ⟨h4, c4, q4⟩ := c_readAgain hA3 p3 hok q3 (p := p) (m := m) hp (by omega) (fun x hx => by
    rw [pc_put_v hpa.1 (by omega) (by omega) (by omega), pc_put_s hpa.1 (by omega) (by omega) (by omega), if_neg hx, if_neg hx]
    exact ⟨rfl, rfl⟩)
  have qx : RuR 98 h4 (al_x (al_set a (pc_put (al_p a) (8 * p + m) v 0))) := q4
  obtain ⟨h5, c5, -, -, o2, -⟩ := c_seek (a := al_x (al_set a (pc_put (al_p a) (8 * p + m) v 0))) al_r_ok qx hnp (t := 105) (by omega)
  refine ⟨h5, ?_⟩
  unfold F_X1_ordersWithPiece
  have c2' : F_X5_put 93 (iI p) (iI m) (iI v) (0 : Int32) h1 = some ((), h2) := c2
  rw [c1, bd_e, c2', bd_e, c3, bd_e, c4, bd_e, c5, bd_e]
  have o2' : sG h5 6721 = _ := o2
  rw [o2']
  rfl
theorem c_ordersWithAhead {h : Hp} {a : Alb} (hA : AlC 3 h a) (q : RuC 75 h a) {x y : Nat} (hx : x < (al_w a).length) (hy : y < (al_w a).length) (hxy : x ≠ y) : ∃ h', F_X1_ordersWithAhead 75 (iI x) (iI y) h = some (iI ((al_or a).filter (ro_bf x y)).length, h') := by
  have hnp := hA.1.2.1
  obtain ⟨h1, c1, q1⟩ := c_rcopy (t := 98) q hnp (by omega)
  have f1 := fr_X7_copyFrom _ _ _ _ _ c1
  obtain ⟨h2, c2, q2⟩ := c_putAhead (t := 98) (h := h1) (np := (al_w a).length) (m1 := 2 ^ x) (m2 := 2 ^ y) q1.1 hnp (pw_128 x (by omega)) (pw_128 y (by omega)) (f := fun p => bm (fun q => ro_a (al_r a) q p) 7) (fun p hp => q1.2.2.1 p hp)
  have f2 := fr_X7_putAhead _ _ _ _ _ _ c2
  have qx : RuR 98 h2 ((al_w a).length, ro_add (al_r a) x y) := by
    refine ⟨(f2.sg (by decide)).trans q1.1, fun p hp => (f2.lg (by decide) p).trans (q1.2.1 p hp), fun p hp => ?_, fun i hi => ?_⟩
    · rw [q2 p hp]
      congr 2
      rw [Nat.testBit_two_pow]
      by_cases u : y = p
      · subst u
        rw [if_pos ⟨hy, by simp⟩]
        apply bm_eq
        intro q'
        rw [ro_tb_or, bm_tb]
        show _ = (decide (q' < 7) && (ro_a (al_r a) q' y || (q' == x && y == y)))
        by_cases w : x = q'
        · subst w
          simp
          omega
        · have w2 : (q' == x) = false := beq_eq_false_iff_ne.2 (fun z => w z.symm)
          rw [w2, decide_eq_false w]
          simp
      · rw [if_neg (fun w => u (by simpa using w.2))]
        apply bm_congr
        intro q' _
        show _ = (ro_a (al_r a) q' p || (q' == x && p == y))
        have w2 : (p == y) = false := beq_eq_false_iff_ne.2 (fun z => u z.symm)
        rw [w2]
        simp
    · rw [f2.ag (by decide), f2.ag (by decide)]
      exact q1.2.2.2 i hi
  obtain ⟨h3, c3, -, -, o2, -⟩ := c_seek (a := ((al_w a).length, ro_add (al_r a) x y)) (ro_add_ok al_r_ok hxy) qx hnp (t := 105) (by omega)
  refine ⟨h3, ?_⟩
  unfold F_X1_ordersWithAhead
  have s1 : (1 : Int32) <<< (iI (x : Int) &&& 31) = iI ((2 ^ x : Nat) : Int) := ms_shl x (by omega)
  have s2 : (1 : Int32) <<< (iI (y : Int) &&& 31) = iI ((2 ^ y : Nat) : Int) := ms_shl y (by omega)
  rw [c1, bd_e, s1, s2, c2, bd_e, c3, bd_e]
  have o2' : sG h3 6721 = _ := o2
  rw [o2']
  have e : al_S ((al_w a).length, ro_add (al_r a) x y) = al_N a := rfl
  rw [e]
  have hN := all_lt hnp
  rw [ro_often (ρ := al_r a) (S := al_N a) hN hxy ⟨by omega, by rw [show (al_N a) = 2 ^ (al_w a).length - 1 from rfl, all_tb]; exact decide_eq_true hx⟩ ⟨by omega, by rw [show (al_N a) = 2 ^ (al_w a).length - 1 from rfl, all_tb]; exact decide_eq_true hy⟩]
  rfl
