theorem M_load {h : Hp} {s : Sta} (q : JM h s) {x y p w : Int} (hx : -2147483648 ≤ x ∧ x < 2147483648) (hy : -2147483648 ≤ y ∧ y < 2147483648) (hp : -2147483648 ≤ p ∧ p < 2147483648) (hw : -2147483648 ≤ w ∧ w < 2147483648) {m : Nat} (hm : ((0 ≤ x ∧ x < 3) ∧ 0 ≤ p ∧ p < (al_w (st_a s)).length) ∧ (0 ≤ w ∧ w ≤ 1) → ld_is (st_a s) p.toNat w m) : ∃ h', F_X12_load (iI x) (iI y) (iI p) (iI w) h = some (iI (A_load s m x y p w), h') ∧ JM h' (N_load s m x y p w) := by
  have qz := q.2.2.2.2.2
  have qa := q.2.2.1
  have h7 := qa.1.2.1
  have ok : sz_ok (st_z s) := q.1.2.2.2.2
  unfold F_X12_load A_load N_load
  rw [m_isStrip hx, bd_e, jn_e]
  by_cases c : 0 ≤ x ∧ x < 3
  · rw [bI_t c, if_neg (by decide), m_isPicture qa hp, bd_e]
    by_cases c2 : 0 ≤ p ∧ p < (al_w (st_a s)).length
    · have cc : (0 ≤ x ∧ x < 3) ∧ 0 ≤ p ∧ p < ((al_w (st_a s)).length : Int) := ⟨c, c2⟩
      rw [bI_t c2, if_neg (by decide), il_0, il_1, m_within hw (by omega) (by omega), bd_e, if_pos cc]
      by_cases c3 : 0 ≤ w ∧ w ≤ 1
      · have hm2 := hm ⟨⟨c, c2⟩, c3⟩
        clear hm
        have sp := sp_0 (z := st_z s) (y := y) c
        have sr := sp_rng (st_z s) x y
        obtain ⟨i, rfl, hi⟩ := rg_of hx (n := 3) c
        obtain ⟨r, rfl, hr⟩ := rg_of hp c2
        rw [Int.toNat_natCast] at sp hm2
        rw [bI_t c3, if_neg (by decide), if_neg (show ¬ (w < 0 ∨ 1 < w) by omega), m_lack qz ok hi hy, bd_e, ← sp]
        by_cases d : sp_no (st_z s) i y = 0
        · obtain ⟨-, d1, d2, d3⟩ := sp_yes d
          rw [Int.toNat_natCast] at d1 d3
          have o := ok i hi
          obtain ⟨j, rfl⟩ : ∃ j : Nat, y = j := ⟨y.toNat, by omega⟩
          obtain ⟨h1, e1, l1⟩ := m_many qa
          have f1 := fr_X12_many _ _ _ e1
          have q1 : JM h1 s := q.sc f1 (by decide) (by decide)
          have ln : (if w = 0 then lG h1 129 r else lG h1 134 r) = lN m := by
            by_cases w0 : w = 0
            · rw [if_pos w0, l1.2.1 r hr, hm2.2.1 w0]
            · rw [if_neg w0, lf_of l1 (by omega) (hm2.2.2 (by omega))]
          have m48 := hm2.1
          rw [d, if_pos rfl, if_pos rfl, if_pos ⟨⟨c, c2⟩, c3, rfl⟩, e1, bd_e, Int.toNat_natCast, Int.toNat_natCast]
          (try simp (maxSteps := 3000000) (implicitDefEqProofs := false) (disch := omega) only [jl_e, jn_e, bd_e, gd_t, iI_add, iI_sub, iI_mul, iI_neg, if_true, if_false, not_true_eq_false, not_false_eq_true, Int.reduceEq, Nat.add_zero, Int.toNat_natCast, iI_cl, iI_lt, iI_eq, gd_in, bI_eq0, bI_eq1, bI_isB, isB_0, isB_1, il_0, il_1, il_2, il_3, il_4, il_5, il_6, il_7, il_8, il_9, il_10, il_12, il_16, il_18, il_24, il_27, il_30, il_31, il_32, il_40, il_47, il_48, il_49, il_55, il_56, il_57, il_59, il_63, il_64, il_96, il_97, il_98, il_99, il_101, il_103, il_104, il_105, il_108, il_109, il_110, il_111, il_112, il_114, il_115, il_116, il_117, il_119, il_122, il_127, il_128, il_200, il_225, il_255, il_256, il_999, il_1575, il_9999, il_65536, il_252645135, il_858993459, il_1431655765, tn8, lG_lS_s])
          have f2 : FrX [] [139] h1 (lS h1 139 (8 * i + j) (lN m)) := (FrX.refl _ _ h1).lS (by decide) _ _
          have fin : JM (lS h1 139 (8 * i + j) (lN m)) (N_z s (sz_put (st_z s) i j (lN m))) := q1.z f2 (by decide) (by decide) (q1.2.2.2.2.2.put i j (by omega) _) ok
          by_cases w0 : w = 0
          · rw [if_pos w0] at ln ⊢
            rw [ln, m_ones (by omega), bd_e]
            exact ⟨_, rfl, fin⟩
          · rw [if_neg w0] at ln ⊢
            rw [ln, m_ones (by omega), bd_e]
            exact ⟨_, rfl, fin⟩
        · rw [if_neg (by rw [iI_eq (by omega) (by omega) (by omega) (by omega)]; exact d), if_neg d, if_neg (fun w => d w.2.2)]
          exact ⟨h, rfl, q⟩
      · rw [bI_f c3, if_pos rfl, if_pos (show w < 0 ∨ 1 < w by omega), if_neg (fun u => c3 u.2.1)]
        exact ⟨h, rfl, q⟩
    · rw [bI_f c2, if_pos (show iI 0 = 0 from rfl), if_neg (fun u => c2 u.2), if_neg (fun u => c2 u.1.2)]
      exact ⟨h, rfl, q⟩
  · rw [bI_f c, if_pos (show iI 0 = 0 from rfl), if_neg (fun u => c u.1), if_neg (fun u => c u.1.1)]
    exact ⟨h, rfl, q⟩
