-- ===== the reference's strips =====
theorem tn8 (i j : Nat) : ((8 : Int) * (i : Int) + (j : Int)).toNat = 8 * i + j := by omega
theorem JM.z {h h' : Hp} {s : Sta} {z : StZ} {S A : List Nat} (q : JM h s) (f : FrX S A h h') (n0 : ∀ v, v ∈ S → v ∈ 7526 :: scS) (n1 : ∀ k, k ∈ A → k = 138 ∨ k = 139 ∨ k ∈ scA) (hz : StM h' z) (ok : sz_ok z) : JM h' (N_z s z) := by
  have s0 : ∀ v, v ∉ 7526 :: scS → v ∉ S := fun v hv z => hv (n0 v z)
  have a0 : ∀ v, v ≠ 138 → v ≠ 139 → v ∉ scA → v ∉ A := fun v h1 h2 hv z => (n1 v z).elim h1 (fun w => w.elim h2 hv)
  obtain ⟨q0, q1, q2, q3, q4, q5⟩ := q
  refine ⟨⟨q0.1, q0.2.1, q0.2.2.1, q0.2.2.2.1, ok⟩, q1.fr f (s0 _ (by decide)) (a0 _ (by decide) (by decide) (by decide)), q2.fr f (fun v z => ?_) (fun k z => ?_), q3.fr f (s0 _ (by decide)) (a0 _ (by decide) (by decide) (by decide)), q4.fr f (a0 _ (by decide) (by decide) (by decide)) (a0 _ (by decide) (by decide) (by decide)), hz⟩
  · have h1 : ∀ v ∈ 7526 :: scS, v < 7501 ∨ 7507 ≤ v := by decide
    exact h1 v (n0 v z)
  · have h1 : ∀ v ∈ scA, v < 122 ∨ 125 ≤ v := by decide
    rcases n1 k z with e | e | e
    · omega
    · omega
    · exact h1 k e
theorem m_isStrip {x : Int} (hx : -2147483648 ≤ x ∧ x < 2147483648) (h : Hp) : F_X12_isStrip (iI x) h = some (bI (0 ≤ x ∧ x < 3), h) := by
  unfold F_X12_isStrip
  rw [il_0, il_2, m_within hx (by omega) (by omega), bd_e, bI_isB, gd_t]
  exact congrArg (fun z => some (z, h)) (bI_iff (by omega))
theorem m_lack {h : Hp} {z : StZ} (q : StM h z) (ok : sz_ok z) {i : Nat} (hi : i < 3) {y : Int} (hy : -2147483648 ≤ y ∧ y < 2147483648) : F_X12_lack (iI i) (iI y) h = some (iI (if z.1 i = -1 then -11 else if 0 ≤ y ∧ y < z.1 i then 0 else -12), h) := by
  have o := ok i hi
  unfold F_X12_lack
  simp (maxSteps := 3000000) (implicitDefEqProofs := false) (disch := omega) only [jl_e, jn_e, bd_e, gd_t, iI_add, iI_sub, iI_mul, iI_neg, if_true, if_false, not_true_eq_false, not_false_eq_true, Int.reduceEq, Nat.add_zero, Int.toNat_natCast, iI_cl, iI_lt, iI_eq, gd_in, bI_eq0, bI_eq1, bI_isB, isB_0, isB_1, il_0, il_1, il_2, il_3, il_4, il_5, il_6, il_7, il_8, il_9, il_10, il_12, il_16, il_18, il_24, il_27, il_30, il_31, il_32, il_40, il_47, il_48, il_49, il_55, il_56, il_57, il_59, il_63, il_64, il_96, il_97, il_98, il_99, il_101, il_103, il_104, il_105, il_108, il_109, il_110, il_111, il_112, il_114, il_115, il_116, il_117, il_119, il_122, il_127, il_128, il_200, il_225, il_255, il_256, il_999, il_1575, il_9999, il_65536, il_252645135, il_858993459, il_1431655765, q.1 i hi]
  by_cases c : z.1 i = -1
  · rw [if_pos c, if_pos c]
    rfl
  · rw [if_neg c, if_neg c, m_within hy (by omega) (by omega), bd_e]
    by_cases d : 0 ≤ y ∧ y < z.1 i
    · rw [bI_t (by omega), if_neg (by decide), if_pos d]
    · rw [bI_f (by omega), if_pos rfl, if_neg d]
theorem M_strip {h : Hp} {s : Sta} (q : JM h s) {x n : Int} (hx : -2147483648 ≤ x ∧ x < 2147483648) (hn : -2147483648 ≤ n ∧ n < 2147483648) : ∃ h', F_X12_strip (iI x) (iI n) h = some (iI (A_strip x n), h') ∧ JM h' (N_strip s x n) := by
  have qz := q.2.2.2.2.2
  have ok : sz_ok (st_z s) := q.1.2.2.2.2
  unfold A_strip N_strip
  by_cases c : 0 ≤ x ∧ x < 3
  · obtain ⟨i, rfl, hi⟩ := rg_of hx (n := 3) c
    by_cases d : 8 < n
    · unfold F_X12_strip
      simp (maxSteps := 3000000) (implicitDefEqProofs := false) (disch := omega) only [jl_e, jn_e, bd_e, gd_t, iI_add, iI_sub, iI_mul, iI_neg, if_true, if_false, not_true_eq_false, not_false_eq_true, Int.reduceEq, Nat.add_zero, Int.toNat_natCast, iI_cl, iI_lt, iI_eq, gd_in, bI_eq0, bI_eq1, bI_isB, isB_0, isB_1, il_0, il_1, il_2, il_3, il_4, il_5, il_6, il_7, il_8, il_9, il_10, il_12, il_16, il_18, il_24, il_27, il_30, il_31, il_32, il_40, il_47, il_48, il_49, il_55, il_56, il_57, il_59, il_63, il_64, il_96, il_97, il_98, il_99, il_101, il_103, il_104, il_105, il_108, il_109, il_110, il_111, il_112, il_114, il_115, il_116, il_117, il_119, il_122, il_127, il_128, il_200, il_225, il_255, il_256, il_999, il_1575, il_9999, il_65536, il_252645135, il_858993459, il_1431655765, m_isStrip hx]
      rw [if_neg (fun u => u c), if_pos d, if_pos c, if_pos d, if_neg (by omega)]
      exact ⟨h, rfl, q⟩
    · by_cases e : n < 0
      · unfold F_X12_strip
        simp (maxSteps := 3000000) (implicitDefEqProofs := false) (disch := omega) only [jl_e, jn_e, bd_e, gd_t, iI_add, iI_sub, iI_mul, iI_neg, if_true, if_false, not_true_eq_false, not_false_eq_true, Int.reduceEq, Nat.add_zero, Int.toNat_natCast, iI_cl, iI_lt, iI_eq, gd_in, bI_eq0, bI_eq1, bI_isB, isB_0, isB_1, il_0, il_1, il_2, il_3, il_4, il_5, il_6, il_7, il_8, il_9, il_10, il_12, il_16, il_18, il_24, il_27, il_30, il_31, il_32, il_40, il_47, il_48, il_49, il_55, il_56, il_57, il_59, il_63, il_64, il_96, il_97, il_98, il_99, il_101, il_103, il_104, il_105, il_108, il_109, il_110, il_111, il_112, il_114, il_115, il_116, il_117, il_119, il_122, il_127, il_128, il_200, il_225, il_255, il_256, il_999, il_1575, il_9999, il_65536, il_252645135, il_858993459, il_1431655765, m_isStrip hx]
        rw [if_neg (fun u => u c), if_neg d, if_pos e, if_pos c, if_neg d, if_pos e, if_neg (by omega)]
        exact ⟨h, rfl, q⟩
      · obtain ⟨m, rfl⟩ : ∃ m : Nat, n = m := ⟨n.toNat, by omega⟩
        rw [if_pos c, if_neg d, if_neg e, if_pos ⟨c, by omega, by omega⟩, Int.toNat_natCast, Int.toNat_natCast]
        suffices w : Wp (F_X12_strip (iI i) (iI m) h) (fun v h' => v = iI (m : Int) ∧ StM h' (Z_strip (st_z s) i m)) by
          obtain ⟨h', e, hz⟩ := wp_v w
          refine ⟨h', e, q.z (fr_X12_strip _ _ _ _ _ e) (by decide) (by decide) hz (fun j hj => ?_)⟩
          show -1 ≤ (if j = i then (m : Int) else (st_z s).1 j) ∧ (if j = i then (m : Int) else (st_z s).1 j) ≤ 8
          split
          · omega
          · exact ok j hj
        unfold F_X12_strip
        simp (maxSteps := 3000000) (implicitDefEqProofs := false) (disch := omega) only [jl_e, jn_e, bd_e, gd_t, iI_add, iI_sub, iI_mul, iI_neg, if_true, if_false, not_true_eq_false, not_false_eq_true, Int.reduceEq, Nat.add_zero, Int.toNat_natCast, iI_cl, iI_lt, iI_eq, gd_in, bI_eq0, bI_eq1, bI_isB, isB_0, isB_1, il_0, il_1, il_2, il_3, il_4, il_5, il_6, il_7, il_8, il_9, il_10, il_12, il_16, il_18, il_24, il_27, il_30, il_31, il_32, il_40, il_47, il_48, il_49, il_55, il_56, il_57, il_59, il_63, il_64, il_96, il_97, il_98, il_99, il_101, il_103, il_104, il_105, il_108, il_109, il_110, il_111, il_112, il_114, il_115, il_116, il_117, il_119, il_122, il_127, il_128, il_200, il_225, il_255, il_256, il_999, il_1575, il_9999, il_65536, il_252645135, il_858993459, il_1431655765, m_isStrip hx]
        rw [if_neg (fun u => u c), if_neg d, if_neg e]
        (try simp (maxSteps := 3000000) (implicitDefEqProofs := false) (disch := omega) only [jl_e, jn_e, bd_e, gd_t, iI_add, iI_sub, iI_mul, iI_neg, if_true, if_false, not_true_eq_false, not_false_eq_true, Int.reduceEq, Nat.add_zero, Int.toNat_natCast, iI_cl, iI_lt, iI_eq, gd_in, bI_eq0, bI_eq1, bI_isB, isB_0, isB_1, il_0, il_1, il_2, il_3, il_4, il_5, il_6, il_7, il_8, il_9, il_10, il_12, il_16, il_18, il_24, il_27, il_30, il_31, il_32, il_40, il_47, il_48, il_49, il_55, il_56, il_57, il_59, il_63, il_64, il_96, il_97, il_98, il_99, il_101, il_103, il_104, il_105, il_108, il_109, il_110, il_111, il_112, il_114, il_115, il_116, il_117, il_119, il_122, il_127, il_128, il_200, il_225, il_255, il_256, il_999, il_1575, il_9999, il_65536, il_252645135, il_858993459, il_1431655765])
        refine lp_up (α := Int32 → Hp → Option (Int32 × Hp)) (P := fun k t => ∀ g, (∀ j, j < 3 → aG g 138 j = iI (if j = i then (m : Int) else (st_z s).1 j)) → (∀ a b : Nat, a < 3 → b < 8 → (a = i ∧ b < k) ∨ (a ≠ i ∧ (b : Int) < (st_z s).1 a) → lG g 139 (8 * a + b) = if a = i then 0 else (st_z s).2.1 a b) → tG g 7526 = (st_z s).2.2 → Wp (t (iI k) g) (fun v h' => v = iI (m : Int) ∧ StM h' (Z_strip (st_z s) i m))) m (by omega) (fun k t hk ih g g1 g2 g3 => ?_) _ (fun j hj => ?_) (fun a b ha hb hab => ?_) qz.2.2
        · by_cases z : k < m
          · simp (maxSteps := 3000000) (implicitDefEqProofs := false) (disch := omega) only [jl_e, jn_e, bd_e, gd_t, iI_add, iI_sub, iI_mul, iI_neg, if_true, if_false, not_true_eq_false, not_false_eq_true, Int.reduceEq, Nat.add_zero, Int.toNat_natCast, iI_cl, iI_lt, iI_eq, gd_in, bI_eq0, bI_eq1, bI_isB, isB_0, isB_1, il_0, il_1, il_2, il_3, il_4, il_5, il_6, il_7, il_8, il_9, il_10, il_12, il_16, il_18, il_24, il_27, il_30, il_31, il_32, il_40, il_47, il_48, il_49, il_55, il_56, il_57, il_59, il_63, il_64, il_96, il_97, il_98, il_99, il_101, il_103, il_104, il_105, il_108, il_109, il_110, il_111, il_112, il_114, il_115, il_116, il_117, il_119, il_122, il_127, il_128, il_200, il_225, il_255, il_256, il_999, il_1575, il_9999, il_65536, il_252645135, il_858993459, il_1431655765, tn8]
            rw [if_pos (by omega)]
            refine ih z _ g1 (fun a b ha hb hab => ?_) g3
            by_cases e : a = i ∧ b = k
            · obtain ⟨rfl, rfl⟩ := e
              rw [lG_lS_s, if_pos rfl]
            · rw [lG_lS_j (by omega)]
              exact g2 a b ha hb (by omega)
          · simp (maxSteps := 3000000) (implicitDefEqProofs := false) (disch := omega) only [jl_e, jn_e, bd_e, gd_t, iI_add, iI_sub, iI_mul, iI_neg, if_true, if_false, not_true_eq_false, not_false_eq_true, Int.reduceEq, Nat.add_zero, Int.toNat_natCast, iI_cl, iI_lt, iI_eq, gd_in, bI_eq0, bI_eq1, bI_isB, isB_0, isB_1, il_0, il_1, il_2, il_3, il_4, il_5, il_6, il_7, il_8, il_9, il_10, il_12, il_16, il_18, il_24, il_27, il_30, il_31, il_32, il_40, il_47, il_48, il_49, il_55, il_56, il_57, il_59, il_63, il_64, il_96, il_97, il_98, il_99, il_101, il_103, il_104, il_105, il_108, il_109, il_110, il_111, il_112, il_114, il_115, il_116, il_117, il_119, il_122, il_127, il_128, il_200, il_225, il_255, il_256, il_999, il_1575, il_9999, il_65536, il_252645135, il_858993459, il_1431655765]
            rw [if_neg (by omega)]
            have ek : k = m := by omega
            subst ek
            refine wp_s ⟨rfl, g1, fun a b ha hb hab => ?_, g3⟩
            have hab : (b : Int) < (if a = i then (k : Int) else (st_z s).1 a) := hab
            refine g2 a b ha hb ?_
            by_cases e : a = i
            · rw [if_pos e] at hab
              exact Or.inl ⟨e, by omega⟩
            · rw [if_neg e] at hab
              exact Or.inr ⟨e, hab⟩
        · by_cases e : j = i
          · subst e
            rw [aG_aS_s, if_pos rfl]
          · rw [aG_aS_j e, if_neg e]
            exact qz.1 j hj
        · rcases hab with hab | hab
          · omega
          · rw [if_neg hab.1]
            exact qz.2.1 a b ha hb hab.2
  · unfold F_X12_strip
    simp (maxSteps := 3000000) (implicitDefEqProofs := false) (disch := omega) only [jl_e, jn_e, bd_e, gd_t, iI_add, iI_sub, iI_mul, iI_neg, if_true, if_false, not_true_eq_false, not_false_eq_true, Int.reduceEq, Nat.add_zero, Int.toNat_natCast, iI_cl, iI_lt, iI_eq, gd_in, bI_eq0, bI_eq1, bI_isB, isB_0, isB_1, il_0, il_1, il_2, il_3, il_4, il_5, il_6, il_7, il_8, il_9, il_10, il_12, il_16, il_18, il_24, il_27, il_30, il_31, il_32, il_40, il_47, il_48, il_49, il_55, il_56, il_57, il_59, il_63, il_64, il_96, il_97, il_98, il_99, il_101, il_103, il_104, il_105, il_108, il_109, il_110, il_111, il_112, il_114, il_115, il_116, il_117, il_119, il_122, il_127, il_128, il_200, il_225, il_255, il_256, il_999, il_1575, il_9999, il_65536, il_252645135, il_858993459, il_1431655765, m_isStrip hx]
    rw [if_pos c, if_neg c, if_neg (fun w => c w.1)]
    exact ⟨h, rfl, q⟩
theorem StM.put {h : Hp} {z : StZ} (q : StM h z) (i j : Nat) (hj : j < 8) (v : Int64) : StM (lS h 139 (8 * i + j) v) (sz_put z i j v) := by
  refine ⟨q.1, fun a b ha hb hab => ?_, q.2.2⟩
  show _ = if a = i ∧ b = j then v else z.2.1 a b
  by_cases e : a = i ∧ b = j
  · obtain ⟨rfl, rfl⟩ := e
    rw [lG_lS_s, if_pos ⟨rfl, rfl⟩]
  · rw [lG_lS_j (by omega), if_neg e]
    exact q.2.1 a b ha hb hab
theorem sp_0 {z : StZ} {x y : Int} (hx : 0 ≤ x ∧ x < 3) : sp_no z x y = (if z.1 x.toNat = -1 then -11 else if 0 ≤ y ∧ y < z.1 x.toNat then 0 else -12) := by
  unfold sp_no
  rw [if_pos hx]
theorem sp_yes {z : StZ} {x y : Int} (h : sp_no z x y = 0) : (0 ≤ x ∧ x < 3) ∧ z.1 x.toNat ≠ -1 ∧ 0 ≤ y ∧ y < z.1 x.toNat := by
  unfold sp_no at h
  by_cases c : 0 ≤ x ∧ x < 3
  · rw [if_pos c] at h
    by_cases d : z.1 x.toNat = -1
    · rw [if_pos d] at h; omega
    · rw [if_neg d] at h
      by_cases e : 0 ≤ y ∧ y < z.1 x.toNat
      · exact ⟨c, d, e⟩
      · rw [if_neg e] at h; omega
  · rw [if_neg c] at h; omega
theorem sp_rng (z : StZ) (x y : Int) : -12 ≤ sp_no z x y ∧ sp_no z x y ≤ 0 := by
  unfold sp_no
  split
  · split
    · omega
    · split <;> omega
  · omega
theorem M_set {h : Hp} {s : Sta} (q : JM h s) {x y v : Int} (hx : -2147483648 ≤ x ∧ x < 2147483648) (hy : -2147483648 ≤ y ∧ y < 2147483648) : ∃ h', F_X12_set (iI x) (iI y) (iI v) h = some (iI (A_set s x y), h') ∧ JM h' (N_set s x y v) := by
  have qz := q.2.2.2.2.2
  have ok : sz_ok (st_z s) := q.1.2.2.2.2
  unfold F_X12_set A_set N_set
  rw [m_isStrip hx, bd_e]
  by_cases c : 0 ≤ x ∧ x < 3
  · have sp := sp_0 (z := st_z s) (y := y) c
    have sr := sp_rng (st_z s) x y
    obtain ⟨i, rfl, hi⟩ := rg_of hx (n := 3) c
    rw [Int.toNat_natCast] at sp
    rw [bI_t c, if_neg (by decide), m_lack qz ok hi hy, bd_e, ← sp]
    by_cases d : sp_no (st_z s) i y = 0
    · obtain ⟨-, d1, d2, d3⟩ := sp_yes d
      rw [Int.toNat_natCast] at d1 d3
      have o := ok i hi
      obtain ⟨j, rfl⟩ : ∃ j : Nat, y = j := ⟨y.toNat, by omega⟩
      rw [if_pos (by rw [d]; rfl), if_pos d, if_pos d, Int.toNat_natCast, Int.toNat_natCast]
      (try simp (maxSteps := 3000000) (implicitDefEqProofs := false) (disch := omega) only [jl_e, jn_e, bd_e, gd_t, iI_add, iI_sub, iI_mul, iI_neg, if_true, if_false, not_true_eq_false, not_false_eq_true, Int.reduceEq, Nat.add_zero, Int.toNat_natCast, iI_cl, iI_lt, iI_eq, gd_in, bI_eq0, bI_eq1, bI_isB, isB_0, isB_1, il_0, il_1, il_2, il_3, il_4, il_5, il_6, il_7, il_8, il_9, il_10, il_12, il_16, il_18, il_24, il_27, il_30, il_31, il_32, il_40, il_47, il_48, il_49, il_55, il_56, il_57, il_59, il_63, il_64, il_96, il_97, il_98, il_99, il_101, il_103, il_104, il_105, il_108, il_109, il_110, il_111, il_112, il_114, il_115, il_116, il_117, il_119, il_122, il_127, il_128, il_200, il_225, il_255, il_256, il_999, il_1575, il_9999, il_65536, il_252645135, il_858993459, il_1431655765, tn8])
      have f : FrX [] [139] h (lS h 139 (8 * i + j) (iI v).toInt64) := (FrX.refl _ _ h).lS (by decide) _ _
      exact ⟨_, rfl, q.z f (by decide) (by decide) (qz.put i j (by omega) _) ok⟩
    · rw [if_neg (by rw [il_0, iI_eq (by omega) (by omega) (by omega) (by omega)]; exact d), if_neg d, if_neg d]
      exact ⟨h, rfl, q⟩
  · have sp : sp_no (st_z s) x y = -2 := if_neg c
    rw [bI_f c, if_pos (show iI 0 = 0 from rfl), sp, if_neg (by omega), if_neg (by omega)]
    exact ⟨h, rfl, q⟩
theorem M_bits {h : Hp} {s : Sta} (q : JM h s) {x y : Int} (hx : -2147483648 ≤ x ∧ x < 2147483648) (hy : -2147483648 ≤ y ∧ y < 2147483648) : ∃ h', F_X12_bits (iI x) (iI y) h = some (iI (A_bits s x y), h') ∧ JM h' s := by
  have qz := q.2.2.2.2.2
  have ok : sz_ok (st_z s) := q.1.2.2.2.2
  unfold F_X12_bits A_bits
  rw [m_isStrip hx, bd_e]
  by_cases c : 0 ≤ x ∧ x < 3
  · have sp := sp_0 (z := st_z s) (y := y) c
    have sr := sp_rng (st_z s) x y
    obtain ⟨i, rfl, hi⟩ := rg_of hx (n := 3) c
    rw [Int.toNat_natCast] at sp
    rw [bI_t c, if_neg (by decide), m_lack qz ok hi hy, bd_e, ← sp, jn_e]
    by_cases d : sp_no (st_z s) i y = 0
    · obtain ⟨-, d1, d2, d3⟩ := sp_yes d
      rw [Int.toNat_natCast] at d1 d3
      have o := ok i hi
      obtain ⟨j, rfl⟩ : ∃ j : Nat, y = j := ⟨y.toNat, by omega⟩
      rw [if_pos (by rw [d]; rfl), if_pos d, Int.toNat_natCast, Int.toNat_natCast]
      (try simp (maxSteps := 3000000) (implicitDefEqProofs := false) (disch := omega) only [jl_e, jn_e, bd_e, gd_t, iI_add, iI_sub, iI_mul, iI_neg, if_true, if_false, not_true_eq_false, not_false_eq_true, Int.reduceEq, Nat.add_zero, Int.toNat_natCast, iI_cl, iI_lt, iI_eq, gd_in, bI_eq0, bI_eq1, bI_isB, isB_0, isB_1, il_0, il_1, il_2, il_3, il_4, il_5, il_6, il_7, il_8, il_9, il_10, il_12, il_16, il_18, il_24, il_27, il_30, il_31, il_32, il_40, il_47, il_48, il_49, il_55, il_56, il_57, il_59, il_63, il_64, il_96, il_97, il_98, il_99, il_101, il_103, il_104, il_105, il_108, il_109, il_110, il_111, il_112, il_114, il_115, il_116, il_117, il_119, il_122, il_127, il_128, il_200, il_225, il_255, il_256, il_999, il_1575, il_9999, il_65536, il_252645135, il_858993459, il_1431655765, tn8])
      rw [qz.2.1 i j hi (by omega) (by omega), ← lN_lO ((st_z s).2.1 i j), m_ones (lO_lt _), bd_e, lN_lO]
      exact ⟨h, rfl, q⟩
    · rw [if_neg (by rw [il_0, iI_eq (by omega) (by omega) (by omega) (by omega)]; exact d), if_neg d]
      exact ⟨h, rfl, q⟩
  · have sp : sp_no (st_z s) x y = -2 := if_neg c
    rw [bI_f c, if_pos (show iI 0 = 0 from rfl), sp, if_neg (by omega)]
    exact ⟨h, rfl, q⟩
theorem M_latest {h : Hp} {s : Sta} (q : JM h s) : F_X12_latest h = some ((st_z s).2.2, h) := by
  unfold F_X12_latest
  rw [q.2.2.2.2.2.2.2]
theorem M_drop {h : Hp} {s : Sta} (q : JM h s) {x : Int} (hx : -2147483648 ≤ x ∧ x < 2147483648) : ∃ h', F_X12_drop (iI x) h = some (iI (A_drop s x), h') ∧ JM h' (N_drop s x) := by
  have qz := q.2.2.2.2.2
  have ok : sz_ok (st_z s) := q.1.2.2.2.2
  unfold F_X12_drop A_drop N_drop sx_no
  rw [m_isStrip hx, bd_e]
  by_cases c : 0 ≤ x ∧ x < 3
  · obtain ⟨i, rfl, hi⟩ := rg_of hx (n := 3) c
    have o := ok i hi
    rw [bI_t c, if_neg (by decide), if_pos c, Int.toNat_natCast]
    simp (maxSteps := 3000000) (implicitDefEqProofs := false) (disch := omega) only [jl_e, jn_e, bd_e, gd_t, iI_add, iI_sub, iI_mul, iI_neg, if_true, if_false, not_true_eq_false, not_false_eq_true, Int.reduceEq, Nat.add_zero, Int.toNat_natCast, iI_cl, iI_lt, iI_eq, gd_in, bI_eq0, bI_eq1, bI_isB, isB_0, isB_1, il_0, il_1, il_2, il_3, il_4, il_5, il_6, il_7, il_8, il_9, il_10, il_12, il_16, il_18, il_24, il_27, il_30, il_31, il_32, il_40, il_47, il_48, il_49, il_55, il_56, il_57, il_59, il_63, il_64, il_96, il_97, il_98, il_99, il_101, il_103, il_104, il_105, il_108, il_109, il_110, il_111, il_112, il_114, il_115, il_116, il_117, il_119, il_122, il_127, il_128, il_200, il_225, il_255, il_256, il_999, il_1575, il_9999, il_65536, il_252645135, il_858993459, il_1431655765, qz.1 i hi]
    have f : FrX [] [138] h (aS h 138 i (iI (-1))) := (FrX.refl _ _ h).aS (by decide) _ _
    have z1 : ∀ j, j < 3 → aG (aS h 138 i (iI (-1))) 138 j = iI (if j = i then -1 else (st_z s).1 j) := fun j hj => by
      by_cases e : j = i
      · subst e; rw [aG_aS_s, if_pos rfl]
      · rw [aG_aS_j e, if_neg e]; exact qz.1 j hj
    by_cases d : (st_z s).1 i = -1
    · rw [if_pos d, if_pos d, if_neg (by omega), if_neg (by omega)]
      refine ⟨_, rfl, q.z f (by decide) (by decide) ⟨fun j hj => ?_, qz.2⟩ ok⟩
      show _ = iI ((st_z s).1 j)
      rw [z1 j hj]
      by_cases e : j = i
      · rw [if_pos e, e, d]
      · rw [if_neg e]
    · rw [if_neg d, if_neg d, if_pos rfl, if_pos rfl]
      refine ⟨_, rfl, q.z f (by decide) (by decide) ⟨z1, fun a b ha hb hab => ?_, qz.2.2⟩ (fun j hj => ?_)⟩
      · have hab : (b : Int) < (if a = i then -1 else (st_z s).1 a) := hab
        by_cases e : a = i
        · rw [if_pos e] at hab; omega
        · rw [if_neg e] at hab
          exact qz.2.1 a b ha hb hab
      · show -1 ≤ (if j = i then (-1 : Int) else (st_z s).1 j) ∧ (if j = i then (-1 : Int) else (st_z s).1 j) ≤ 8
        split
        · omega
        · exact ok j hj
  · rw [bI_f c, if_pos (show iI 0 = 0 from rfl), if_neg c, if_neg (by omega), if_neg (by omega)]
    exact ⟨h, rfl, q⟩
theorem M_sum {h : Hp} {s : Sta} (q : JM h s) {x : Int} (hx : -2147483648 ≤ x ∧ x < 2147483648) : ∃ h', F_X12_sum (iI x) h = some (iI (A_sum s x), h') ∧ JM h' (N_sum s x) := by
  have qz := q.2.2.2.2.2
  have ok : sz_ok (st_z s) := q.1.2.2.2.2
  unfold A_sum A_drop N_sum sx_no
  by_cases c : 0 ≤ x ∧ x < 3
  · obtain ⟨i, rfl, hi⟩ := rg_of hx (n := 3) c
    have o := ok i hi
    rw [if_pos c, Int.toNat_natCast]
    by_cases d : (st_z s).1 i = -1
    · unfold F_X12_sum
      simp (maxSteps := 3000000) (implicitDefEqProofs := false) (disch := omega) only [jl_e, jn_e, bd_e, gd_t, iI_add, iI_sub, iI_mul, iI_neg, if_true, if_false, not_true_eq_false, not_false_eq_true, Int.reduceEq, Nat.add_zero, Int.toNat_natCast, iI_cl, iI_lt, iI_eq, gd_in, bI_eq0, bI_eq1, bI_isB, isB_0, isB_1, il_0, il_1, il_2, il_3, il_4, il_5, il_6, il_7, il_8, il_9, il_10, il_12, il_16, il_18, il_24, il_27, il_30, il_31, il_32, il_40, il_47, il_48, il_49, il_55, il_56, il_57, il_59, il_63, il_64, il_96, il_97, il_98, il_99, il_101, il_103, il_104, il_105, il_108, il_109, il_110, il_111, il_112, il_114, il_115, il_116, il_117, il_119, il_122, il_127, il_128, il_200, il_225, il_255, il_256, il_999, il_1575, il_9999, il_65536, il_252645135, il_858993459, il_1431655765, m_isStrip hx, qz.1 i hi]
      rw [if_neg (fun u => u c), if_pos d, if_pos d, if_neg (by omega), if_neg (by omega)]
      exact ⟨h, rfl, q⟩
    · rw [if_neg d, if_pos rfl, if_pos rfl]
      suffices w : Wp (F_X12_sum (iI i) h) (fun v h' => v = iI ((st_z s).1 i) ∧ StM h' (Z_sum (st_z s) i)) by
        obtain ⟨h', e, hz⟩ := wp_v w
        exact ⟨h', e, q.z (fr_X12_sum _ _ _ _ e) (by decide) (by decide) hz ok⟩
      unfold F_X12_sum
      simp (maxSteps := 3000000) (implicitDefEqProofs := false) (disch := omega) only [jl_e, jn_e, bd_e, gd_t, iI_add, iI_sub, iI_mul, iI_neg, if_true, if_false, not_true_eq_false, not_false_eq_true, Int.reduceEq, Nat.add_zero, Int.toNat_natCast, iI_cl, iI_lt, iI_eq, gd_in, bI_eq0, bI_eq1, bI_isB, isB_0, isB_1, il_0, il_1, il_2, il_3, il_4, il_5, il_6, il_7, il_8, il_9, il_10, il_12, il_16, il_18, il_24, il_27, il_30, il_31, il_32, il_40, il_47, il_48, il_49, il_55, il_56, il_57, il_59, il_63, il_64, il_96, il_97, il_98, il_99, il_101, il_103, il_104, il_105, il_108, il_109, il_110, il_111, il_112, il_114, il_115, il_116, il_117, il_119, il_122, il_127, il_128, il_200, il_225, il_255, il_256, il_999, il_1575, il_9999, il_65536, il_252645135, il_858993459, il_1431655765, m_isStrip hx, qz.1 i hi]
      rw [if_neg (fun u => u c), if_neg d]
      refine lp_up (α := Int32 → Hp → Option (Int32 × Hp)) (P := fun k t => ∀ g, (∀ v, aF g v = aF h v) → (∀ v, lF g v = lF h v) → tG g 7526 = sz_sum (st_z s) i k → Wp (t (iI k) g) (fun v h' => v = iI ((st_z s).1 i) ∧ StM h' (Z_sum (st_z s) i))) ((st_z s).1 i).toNat (by omega) (fun k t hk ih g g1 g2 g3 => ?_) _ (fun _ => rfl) (fun _ => rfl) rfl
      have a1 : ∀ j, j < 3 → aG g 138 j = iI ((st_z s).1 j) := fun j hj => (congrFun (g1 138) j).trans (qz.1 j hj)
      have l1 : ∀ a b : Nat, a < 3 → b < 8 → (b : Int) < (st_z s).1 a → lG g 139 (8 * a + b) = (st_z s).2.1 a b := fun a b ha hb hab => (congrFun (g2 139) _).trans (qz.2.1 a b ha hb hab)
      by_cases z : k < ((st_z s).1 i).toNat
      · simp (maxSteps := 3000000) (implicitDefEqProofs := false) (disch := omega) only [jl_e, jn_e, bd_e, gd_t, iI_add, iI_sub, iI_mul, iI_neg, if_true, if_false, not_true_eq_false, not_false_eq_true, Int.reduceEq, Nat.add_zero, Int.toNat_natCast, iI_cl, iI_lt, iI_eq, gd_in, bI_eq0, bI_eq1, bI_isB, isB_0, isB_1, il_0, il_1, il_2, il_3, il_4, il_5, il_6, il_7, il_8, il_9, il_10, il_12, il_16, il_18, il_24, il_27, il_30, il_31, il_32, il_40, il_47, il_48, il_49, il_55, il_56, il_57, il_59, il_63, il_64, il_96, il_97, il_98, il_99, il_101, il_103, il_104, il_105, il_108, il_109, il_110, il_111, il_112, il_114, il_115, il_116, il_117, il_119, il_122, il_127, il_128, il_200, il_225, il_255, il_256, il_999, il_1575, il_9999, il_65536, il_252645135, il_858993459, il_1431655765, a1 i hi, tn8, l1 i k hi (by omega) (by omega)]
        rw [if_pos (by omega)]
        refine ih z _ g1 g2 ?_
        rw [tG_tS_s, g3]
        rfl
      · simp (maxSteps := 3000000) (implicitDefEqProofs := false) (disch := omega) only [jl_e, jn_e, bd_e, gd_t, iI_add, iI_sub, iI_mul, iI_neg, if_true, if_false, not_true_eq_false, not_false_eq_true, Int.reduceEq, Nat.add_zero, Int.toNat_natCast, iI_cl, iI_lt, iI_eq, gd_in, bI_eq0, bI_eq1, bI_isB, isB_0, isB_1, il_0, il_1, il_2, il_3, il_4, il_5, il_6, il_7, il_8, il_9, il_10, il_12, il_16, il_18, il_24, il_27, il_30, il_31, il_32, il_40, il_47, il_48, il_49, il_55, il_56, il_57, il_59, il_63, il_64, il_96, il_97, il_98, il_99, il_101, il_103, il_104, il_105, il_108, il_109, il_110, il_111, il_112, il_114, il_115, il_116, il_117, il_119, il_122, il_127, il_128, il_200, il_225, il_255, il_256, il_999, il_1575, il_9999, il_65536, il_252645135, il_858993459, il_1431655765, a1 i hi]
        rw [if_neg (by omega)]
        refine wp_s ⟨rfl, a1, l1, ?_⟩
        rw [g3, show k = ((st_z s).1 i).toNat by omega]
        rfl
  · unfold F_X12_sum
    simp (maxSteps := 3000000) (implicitDefEqProofs := false) (disch := omega) only [jl_e, jn_e, bd_e, gd_t, iI_add, iI_sub, iI_mul, iI_neg, if_true, if_false, not_true_eq_false, not_false_eq_true, Int.reduceEq, Nat.add_zero, Int.toNat_natCast, iI_cl, iI_lt, iI_eq, gd_in, bI_eq0, bI_eq1, bI_isB, isB_0, isB_1, il_0, il_1, il_2, il_3, il_4, il_5, il_6, il_7, il_8, il_9, il_10, il_12, il_16, il_18, il_24, il_27, il_30, il_31, il_32, il_40, il_47, il_48, il_49, il_55, il_56, il_57, il_59, il_63, il_64, il_96, il_97, il_98, il_99, il_101, il_103, il_104, il_105, il_108, il_109, il_110, il_111, il_112, il_114, il_115, il_116, il_117, il_119, il_122, il_127, il_128, il_200, il_225, il_255, il_256, il_999, il_1575, il_9999, il_65536, il_252645135, il_858993459, il_1431655765, m_isStrip hx]
    rw [if_pos c, if_neg c, if_neg (by omega), if_neg (by omega)]
    exact ⟨h, rfl, q⟩
