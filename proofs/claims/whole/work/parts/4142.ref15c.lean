theorem wk_rng (z : StZ) (x y w j : Int) : -12 ≤ wk_no z x y w j ∧ wk_no z x y w j ≤ 0 := by
  unfold wk_no
  have h1 := sp_rng z x y
  have h2 := sp_rng z x j
  repeat' split
  all_goals omega
theorem M_work {h : Hp} {s : Sta} (q : JM h s) {x y w j : Int} (hx : -2147483648 ≤ x ∧ x < 2147483648) (hy : -2147483648 ≤ y ∧ y < 2147483648) (hw : -2147483648 ≤ w ∧ w < 2147483648) (hj : -2147483648 ≤ j ∧ j < 2147483648) : ∃ h', F_X12_work (iI x) (iI y) (iI w) (iI j) h = some (iI (A_work s x y w j), h') ∧ JM h' (N_work s x y w j) := by
  have qz := q.2.2.2.2.2
  have ok : sz_ok (st_z s) := q.1.2.2.2.2
  have refuse : ∀ a : Int, wk_no (st_z s) x y w j = a → a ≠ 0 → ∃ h', some (iI a, h) = some (iI (A_work s x y w j), h') ∧ JM h' (N_work s x y w j) := fun a e ne => by
    unfold A_work N_work
    rw [e, if_neg ne, if_neg ne]
    exact ⟨h, rfl, q⟩
  have k0 : wk_no (st_z s) x y w j = if 0 ≤ x ∧ x < 3 then (if w < 0 ∨ 3 < w then -3 else if 1 < w ∧ (j < 0 ∨ 99 < j) then -3 else if sp_no (st_z s) x y ≠ 0 then sp_no (st_z s) x y else if w ≤ 1 then sp_no (st_z s) x j else 0) else -2 := rfl
  by_cases c : 0 ≤ x ∧ x < 3
  · rw [if_pos c] at k0
    have sp := sp_0 (z := st_z s) (y := y) c
    have sp2 := sp_0 (z := st_z s) (y := j) c
    have sr := sp_rng (st_z s) x y
    have sr2 := sp_rng (st_z s) x j
    obtain ⟨i, rfl, hi⟩ := rg_of hx (n := 3) c
    rw [Int.toNat_natCast] at sp sp2
    have l1 := m_lack qz ok hi hy
    have l2 := m_lack qz ok hi hj
    rw [← sp] at l1
    rw [← sp2] at l2
    have z1 : ∀ v : Int, -12 ≤ v ∧ v ≤ 0 → v ≠ 0 → ¬ iI v = 0 := fun v hv hn => by
      rw [il_0, iI_eq (by omega) (by omega) (by omega) (by omega)]
      exact hn
    have w12 : (iI w < (2 : Int32)) = (w < 2) := by rw [il_2, iI_lt (by omega) (by omega) (by omega) (by omega)]
    have w11 : ((1 : Int32) < iI w) = (1 < w) := by rw [il_1, iI_lt (by omega) (by omega) (by omega) (by omega)]
    unfold F_X12_work
    rw [m_isStrip hx, bd_e, bI_t c, if_neg (by decide), show F_X12_within (iI w) (0 : Int32) (3 : Int32) h = some (bI (0 ≤ w ∧ w ≤ 3), h) from m_within (lo := 0) (hi := 3) hw (by omega) (by omega) h, bd_e, jn_e]
    by_cases c1 : 0 ≤ w ∧ w ≤ 3
    · rw [if_neg (show ¬ (w < 0 ∨ 3 < w) by omega)] at k0
      rw [bI_t c1, if_neg (by decide), jn_e]
      by_cases c2 : 1 < w ∧ (j < 0 ∨ 99 < j)
      · rw [if_pos c2] at k0
        rw [if_pos (w11 ▸ c2.1), show F_X12_within (iI j) (0 : Int32) (99 : Int32) h = some (bI (0 ≤ j ∧ j ≤ 99), h) from m_within (lo := 0) (hi := 99) hj (by omega) (by omega) h, bd_e, bI_f (show ¬ (0 ≤ j ∧ j ≤ 99) by omega), if_pos (show iI 0 = 0 from rfl)]
        exact refuse _ k0 (by omega)
      · rw [if_neg c2] at k0
        by_cases d : sp_no (st_z s) i y = 0
        · rw [if_neg (show ¬ sp_no (st_z s) i y ≠ 0 from fun u => u d)] at k0
          obtain ⟨-, d1, d2, d3⟩ := sp_yes d
          rw [Int.toNat_natCast] at d1 d3
          have o := ok i hi
          obtain ⟨k, rfl⟩ : ∃ k : Nat, y = k := ⟨y.toNat, by omega⟩
          have vk := qz.2.1 i k hi (by omega) (by omega)
          have fin : wk_no (st_z s) i k w j = 0 → ∀ V : Int64, V = wk_v ((st_z s).2.1 i k) ((st_z s).2.1 i j.toNat) w j → ∃ h', some (iI 1, lS (tS h 7526 V) 139 (8 * i + k) V) = some (iI (A_work s i k w j), h') ∧ JM h' (N_work s i k w j) := fun e V hV => by
            unfold A_work N_work
            rw [if_pos e, if_pos e, Int.toNat_natCast, Int.toNat_natCast]
            have f : FrX [7526] [139] h (lS (tS h 7526 V) 139 (8 * i + k) V) := ((FrX.refl _ _ h).tS (by decide) _).lS (by decide) _ _
            have q5 : StM (tS h 7526 V) ((st_z s).1, (st_z s).2.1, V) := ⟨qz.1, qz.2.1, tG_tS_s ..⟩
            have q6 := q5.put i k (by omega) V
            refine ⟨_, rfl, q.z f (by decide) (by decide) ?_ ok⟩
            unfold Z_work
            rw [← hV]
            exact q6
          have l1' : F_X12_lack (iI (i : Int)) (iI (k : Int)) h = some (iI 0, h) := by rw [l1, d]
          by_cases w1 : w ≤ 1
          · rw [if_pos w1] at k0
            rw [if_neg (fun u => by rw [w11] at u; omega)]
            dsimp only
            rw [l1', bd_e, jn_e, jn_e, if_pos (w12 ▸ (show w < 2 by omega)), if_pos (show iI 0 = 0 from rfl), l2, bd_e]
            dsimp only
            by_cases d' : sp_no (st_z s) i j = 0
            · obtain ⟨-, -, e2, e3⟩ := sp_yes d'
              rw [Int.toNat_natCast] at e3
              obtain ⟨r, rfl⟩ : ∃ r : Nat, j = r := ⟨j.toNat, by omega⟩
              rw [Int.toNat_natCast] at fin
              have vr := qz.2.1 i r hi (by omega) (by omega)
              rw [d'] at k0
              rw [d', if_pos (show iI 0 = 0 from rfl)]
              (try simp (maxSteps := 3000000) (implicitDefEqProofs := false) (disch := omega) only [jl_e, jn_e, bd_e, gd_t, iI_add, iI_sub, iI_mul, iI_neg, if_true, if_false, not_true_eq_false, not_false_eq_true, Int.reduceEq, Nat.add_zero, Int.toNat_natCast, iI_cl, iI_lt, iI_eq, gd_in, bI_eq0, bI_eq1, bI_isB, isB_0, isB_1, il_0, il_1, il_2, il_3, il_4, il_5, il_6, il_7, il_8, il_9, il_10, il_12, il_16, il_18, il_24, il_27, il_30, il_31, il_32, il_40, il_47, il_48, il_49, il_55, il_56, il_57, il_59, il_63, il_64, il_96, il_97, il_98, il_99, il_101, il_103, il_104, il_105, il_108, il_109, il_110, il_111, il_112, il_114, il_115, il_116, il_117, il_119, il_122, il_127, il_128, il_200, il_225, il_255, il_256, il_999, il_1575, il_9999, il_65536, il_252645135, il_858993459, il_1431655765, tn8, vk, vr, tG_tS_s])
              rw [if_pos (show w < 2 by omega)]
              by_cases w0 : w = 0
              · rw [if_pos w0]
                exact fin k0 _ (by unfold wk_v; rw [if_pos w0])
              · rw [if_neg w0, if_pos (show w = 1 by omega)]
                exact fin k0 _ (by unfold wk_v; rw [if_neg w0, if_pos (show w = 1 by omega)])
            · rw [if_neg (z1 _ sr2 d')]
              exact refuse _ k0 d'
          · rw [if_neg w1] at k0
            rw [if_pos (w11 ▸ (show 1 < w by omega)), show F_X12_within (iI j) (0 : Int32) (99 : Int32) h = some (bI (0 ≤ j ∧ j ≤ 99), h) from m_within (lo := 0) (hi := 99) hj (by omega) (by omega) h, bd_e, bI_t (show 0 ≤ j ∧ j ≤ 99 by omega), if_neg (by decide)]
            dsimp only
            rw [l1', bd_e, jn_e, jn_e, if_neg (fun u => by rw [w12] at u; omega)]
            dsimp only
            rw [if_pos (show iI 0 = 0 from rfl)]
            (try simp (maxSteps := 3000000) (implicitDefEqProofs := false) (disch := omega) only [jl_e, jn_e, bd_e, gd_t, iI_add, iI_sub, iI_mul, iI_neg, if_true, if_false, not_true_eq_false, not_false_eq_true, Int.reduceEq, Nat.add_zero, Int.toNat_natCast, iI_cl, iI_lt, iI_eq, gd_in, bI_eq0, bI_eq1, bI_isB, isB_0, isB_1, il_0, il_1, il_2, il_3, il_4, il_5, il_6, il_7, il_8, il_9, il_10, il_12, il_16, il_18, il_24, il_27, il_30, il_31, il_32, il_40, il_47, il_48, il_49, il_55, il_56, il_57, il_59, il_63, il_64, il_96, il_97, il_98, il_99, il_101, il_103, il_104, il_105, il_108, il_109, il_110, il_111, il_112, il_114, il_115, il_116, il_117, il_119, il_122, il_127, il_128, il_200, il_225, il_255, il_256, il_999, il_1575, il_9999, il_65536, il_252645135, il_858993459, il_1431655765, tn8, vk, tG_tS_s])
            rw [if_neg (show ¬ w < 2 by omega), if_neg (show ¬ w = 0 by omega), if_neg (show ¬ w = 1 by omega)]
            by_cases w2 : w = 2
            · rw [if_pos w2]
              exact fin k0 _ (by unfold wk_v; rw [if_neg (by omega), if_neg (by omega), if_pos w2])
            · rw [if_neg w2]
              exact fin k0 _ (by unfold wk_v; rw [if_neg (by omega), if_neg (by omega), if_neg w2])
        · rw [if_pos d] at k0
          by_cases w1 : w ≤ 1
          · rw [if_neg (fun u => by rw [w11] at u; omega)]
            dsimp only
            rw [l1, bd_e, jn_e, jn_e, if_pos (w12 ▸ (show w < 2 by omega)), if_neg (z1 _ sr d)]
            dsimp only
            rw [if_neg (z1 _ sr d)]
            exact refuse _ k0 d
          · rw [if_pos (w11 ▸ (show 1 < w by omega)), show F_X12_within (iI j) (0 : Int32) (99 : Int32) h = some (bI (0 ≤ j ∧ j ≤ 99), h) from m_within (lo := 0) (hi := 99) hj (by omega) (by omega) h, bd_e, bI_t (show 0 ≤ j ∧ j ≤ 99 by omega), if_neg (by decide)]
            dsimp only
            rw [l1, bd_e, jn_e, jn_e, if_neg (fun u => by rw [w12] at u; omega)]
            dsimp only
            rw [if_neg (z1 _ sr d)]
            exact refuse _ k0 d
    · rw [if_pos (show w < 0 ∨ 3 < w by omega)] at k0
      rw [bI_f c1, if_pos (show iI 0 = 0 from rfl)]
      exact refuse _ k0 (by omega)
  · rw [if_neg c] at k0
    unfold F_X12_work
    rw [m_isStrip hx, bd_e, bI_f c, if_pos (show iI 0 = 0 from rfl)]
    exact refuse _ k0 (by omega)
