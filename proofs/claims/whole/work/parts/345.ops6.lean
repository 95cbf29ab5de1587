-- ===== the class's strips: load, work, sum; count =====
def ld_is (a : Alb) (p : Nat) (w : Int) (m : Nat) : Prop := m < 281474976710656 ∧ (w = 0 → m = bm (wd_b a p) 48) ∧ (w = 1 → lf_is a p m)
theorem ld_one {a : Alb} {p : Nat} {w : Int} {m m' : Nat} (hw : 0 ≤ w ∧ w ≤ 1) (h : ld_is a p w m) (h' : ld_is a p w m') : m = m' := by
  rcases (show w = 0 ∨ w = 1 by omega) with c | c
  · rw [h.2.1 c, h'.2.1 c]
  · exact lf_one (h.2.2 c) (h'.2.2 c)
def A_load (s : Sta) (m : Nat) (x y p w : Int) : Int := if (0 ≤ x ∧ x < 3) ∧ 0 ≤ p ∧ p < (al_w (st_a s)).length then (if w < 0 ∨ 1 < w then -3 else if sp_no (st_z s) x y = 0 then (pcn 8 m : Int) else sp_no (st_z s) x y) else -2
def N_load (s : Sta) (m : Nat) (x y p w : Int) : Sta := if ((0 ≤ x ∧ x < 3) ∧ 0 ≤ p ∧ p < (al_w (st_a s)).length) ∧ (0 ≤ w ∧ w ≤ 1) ∧ sp_no (st_z s) x y = 0 then N_z s (sz_put (st_z s) x.toNat y.toNat (lN m)) else s
theorem C_load {h : Hp} {s : Sta} (q : JC h s) {x y p w : Int} (hx : -2147483648 ≤ x ∧ x < 2147483648) (hy : -2147483648 ≤ y ∧ y < 2147483648) (hp : -2147483648 ≤ p ∧ p < 2147483648) (hw : -2147483648 ≤ w ∧ w < 2147483648) : ∃ h' m, F_X11_load (iI x) (iI y) (iI p) (iI w) h = some (iI (A_load s m x y p w), h') ∧ JC h' (N_load s m x y p w) ∧ (((0 ≤ x ∧ x < 3) ∧ 0 ≤ p ∧ p < (al_w (st_a s)).length) ∧ (0 ≤ w ∧ w ≤ 1) → ld_is (st_a s) p.toNat w m) := by
  have ok : sz_ok (st_z s) := q.1.2.2.2.2
  have hz := q.2.2.2.2.2.1
  have hA := q.2.2.1
  have hnp := hA.1.2.1
  have none : ∀ k : Int, (¬ (((0 ≤ x ∧ x < 3) ∧ 0 ≤ p ∧ p < (al_w (st_a s)).length) ∧ (0 ≤ w ∧ w ≤ 1) ∧ sp_no (st_z s) x y = 0)) → N_load s 0 x y p w = s := fun _ c => if_neg c
  by_cases c : (0 ≤ x ∧ x < 3) ∧ 0 ≤ p ∧ p < (al_w (st_a s)).length
  · obtain ⟨r, e, hr⟩ := rg_of hp c.2
    subst e
    have key : (0 ≤ w ∧ w ≤ 1) → ∃ m, ld_is (st_a s) r w m ∧ ∃ h1, JC h1 s ∧ ∀ k : Int64 → Hp → Option (Int32 × Hp), (if iI w = 0 then bd (F_X11_rulesNow h) (fun _ h19 => bd (F_X7_windowOf 75 (iI r) h19) (fun r20 h21 => k r20 h21)) else bd (F_X11_hoursNow h) (fun _ h22 => bd (F_X3_leftTo 86 (iI r) h22) (fun r23 h24 => k r23 h24))) = k (lN m) h1 := by
      intro hw2
      by_cases w0 : w = 0
      · subst w0
        obtain ⟨h1, e1, q1, rk⟩ := c_rulesNow q
        have rx : RuR 75 h1 (al_x (st_a s)) := rk.2.1
        refine ⟨bm (wd_b (st_a s) r) 48, ⟨bm_48 _, fun _ => rfl, fun z => by omega⟩, h1, q1, fun k => ?_⟩
        rw [if_pos (show iI 0 = (0 : Int32) from rfl), e1, bd_e, c_windowOf rx hnp hr, bd_e]
        rfl
      · obtain rfl : w = 1 := by omega
        obtain ⟨h1, e1, q1, o⟩ := c_hoursNow q
        obtain ⟨m, hm, e2⟩ := c_leftTo hnp o hr
        refine ⟨m, ⟨hm.1, fun z => by omega, fun _ => hm⟩, h1, q1, fun k => ?_⟩
        rw [if_neg (by decide), e1, bd_e, e2, bd_e]
    by_cases d : w < 0 ∨ 1 < w
    · refine ⟨h, 0, ?_, ?_, fun z => by omega⟩
      · unfold F_X11_load A_load
        rw [if_pos c, if_pos d, c_has hx, bd_e, jn_e, if_neg (by rw [bI_zero]; exact fun z => z c.1), c_hasPicture hA hp, bd_e, if_neg (by rw [bI_zero]; exact fun z => z c.2), jn_e]
        by_cases d1 : w < 0
        · simp (maxSteps := 3000000) (implicitDefEqProofs := false) (disch := omega) only [jl_e, jn_e, bd_e, gd_t, iI_add, iI_sub, iI_mul, iI_neg, if_true, if_false, not_true_eq_false, not_false_eq_true, Int.reduceEq, Nat.add_zero, Int.toNat_natCast, iI_cl, iI_lt, iI_eq, gd_in, bI_eq0, bI_eq1, bI_isB, isB_0, isB_1, il_0, il_1, il_2, il_3, il_4, il_5, il_6, il_7, il_8, il_9, il_10, il_12, il_16, il_18, il_24, il_27, il_30, il_31, il_32, il_40, il_47, il_48, il_49, il_55, il_56, il_57, il_59, il_63, il_64, il_96, il_97, il_98, il_99, il_101, il_103, il_104, il_105, il_108, il_109, il_110, il_111, il_112, il_114, il_115, il_116, il_117, il_119, il_122, il_127, il_128, il_200, il_225, il_255, il_256, il_999, il_1575, il_9999, il_65536, il_252645135, il_858993459, il_1431655765]
          rw [if_pos d1]
        · simp (maxSteps := 3000000) (implicitDefEqProofs := false) (disch := omega) only [jl_e, jn_e, bd_e, gd_t, iI_add, iI_sub, iI_mul, iI_neg, if_true, if_false, not_true_eq_false, not_false_eq_true, Int.reduceEq, Nat.add_zero, Int.toNat_natCast, iI_cl, iI_lt, iI_eq, gd_in, bI_eq0, bI_eq1, bI_isB, isB_0, isB_1, il_0, il_1, il_2, il_3, il_4, il_5, il_6, il_7, il_8, il_9, il_10, il_12, il_16, il_18, il_24, il_27, il_30, il_31, il_32, il_40, il_47, il_48, il_49, il_55, il_56, il_57, il_59, il_63, il_64, il_96, il_97, il_98, il_99, il_101, il_103, il_104, il_105, il_108, il_109, il_110, il_111, il_112, il_114, il_115, il_116, il_117, il_119, il_122, il_127, il_128, il_200, il_225, il_255, il_256, il_999, il_1575, il_9999, il_65536, il_252645135, il_858993459, il_1431655765]
          rw [if_neg d1, if_pos (by omega)]
      · unfold N_load
        rw [if_neg (fun z => by omega)]
        exact q
    · obtain ⟨m, hm, h1, q1, hk⟩ := key (by omega)
      have go : F_X11_load (iI x) (iI y) (iI r) (iI w) h = bd (F_X8_isMissing (iI x) h) (fun r9 h10 => if r9 = 0 then (
  bd (F_X8_hasPlace (iI x) (iI y) h10) (fun r11 h12 => if r11 = 0 then (
  some ((-12 : Int32), h12)) else (
  jn (fun (s13 : Int64) (h14 : Hp) =>
  bd (F_X8_put (iI x) (iI y) s13 h14) (fun _ h16 => bd (F_J13_bitCount_95d88 s13 h16) (fun r17 h18 => some (r17, h18)))) (fun j15 => if iI w = 0 then (
  bd (F_X11_rulesNow h12) (fun _ h19 => bd (F_X7_windowOf 75 (iI r) h19) (fun r20 h21 => j15 r20 h21))) else (
  bd (F_X11_hoursNow h12) (fun _ h22 => bd (F_X3_leftTo 86 (iI r) h22) (fun r23 h24 => j15 r23 h24))))))) else (
  some ((-11 : Int32), h10))) := by
        unfold F_X11_load
        rw [c_has hx, bd_e, jn_e, if_neg (by rw [bI_zero]; exact fun z => z c.1), c_hasPicture hA hp, bd_e, if_neg (by rw [bI_zero]; exact fun z => z c.2), jn_e]
        have c1 : ¬ (iI w < 0) := by
          rw [show (0 : Int32) = iI 0 from rfl, iI_lt (by omega) (by omega) (by omega) (by omega)]; omega
        have c2 : ¬ ((1 : Int32) < iI w) := by
          rw [show (1 : Int32) = iI 1 from rfl, iI_lt (by omega) (by omega) (by omega) (by omega)]; omega
        rw [if_neg c1, if_neg c2]
      obtain ⟨i, ei, hi⟩ := rg_of hx (n := 3) c.1
      subst ei
      unfold A_load N_load
      simp only [if_pos c, if_neg d, go]
      unfold sp_no
      rw [c_isMissing hz ok hi, bd_e, Int.toNat_natCast]
      by_cases d2 : (st_z s).1 i = -1
      · simp only [if_pos c.1, if_pos d2]
        refine ⟨h, m, ?_, ?_, fun _ => hm⟩
        · rw [if_neg (by rw [bI_zero]; exact fun z => z d2), if_neg (by omega)]
          rfl
        · rw [if_neg (fun z => by omega)]
          exact q
      · rw [if_pos (by rw [bI_zero]; exact d2), c_hasPlace hz ok hi hy, bd_e]
        simp only [if_pos c.1, if_neg d2]
        by_cases e : 0 ≤ y ∧ y < (st_z s).1 i
        · have rr := ok i hi
          obtain ⟨j, ej⟩ : ∃ j : Nat, y = j := ⟨y.toNat, by omega⟩
          subst ej
          obtain ⟨h', e1, q2⟩ := JC.sput q1 hi (j := j) e.2 (lN m)
          simp only [if_pos e]
          refine ⟨h', m, ?_, ?_, fun _ => hm⟩
          · rw [if_neg (by rw [bI_zero]; exact fun z => z e), jn_e, hk, e1, bd_e, c_bitCountL (show m < 18446744073709551616 from Nat.lt_trans hm.1 (by decide)), bd_e, if_pos trivial]
          · rw [if_pos ⟨c, by omega, trivial⟩]
            exact q2
        · simp only [if_neg e]
          refine ⟨h, m, ?_, ?_, fun _ => hm⟩
          · rw [if_pos (by rw [bI_zero]; exact e), if_neg (by omega)]
            rfl
          · rw [if_neg (fun z => by omega)]
            exact q
  · refine ⟨h, 0, ?_, ?_, fun z => absurd z.1 c⟩
    · unfold F_X11_load A_load
      rw [if_neg c, c_has hx, bd_e, jn_e]
      by_cases c1 : 0 ≤ x ∧ x < 3
      · rw [if_neg (by rw [bI_zero]; exact fun z => z c1), c_hasPicture hA hp, bd_e, if_pos (by rw [bI_zero]; exact fun z => c ⟨c1, z⟩)]
        rfl
      · rw [if_pos (by rw [bI_zero]; exact c1)]
        rfl
    · unfold N_load
      rw [if_neg (fun z => c z.1)]
      exact q
def wk_v (a b : Int64) (w j : Int) : Int64 := if w = 0 then a &&& b else if w = 1 then a ||| b else if w = 2 then a <<< ((iI j).toInt64 &&& 63) else a >>> ((iI j).toInt64 &&& 63)
def wk_no (z : StZ) (x y w j : Int) : Int := if 0 ≤ x ∧ x < 3 then (if w < 0 ∨ 3 < w then -3 else if 1 < w ∧ (j < 0 ∨ 99 < j) then -3 else if sp_no z x y ≠ 0 then sp_no z x y else if w ≤ 1 then sp_no z x j else 0) else -2
def A_work (s : Sta) (x y w j : Int) : Int := if wk_no (st_z s) x y w j = 0 then 1 else wk_no (st_z s) x y w j
def Z_work (z : StZ) (i k : Nat) (w j : Int) : StZ := (z.1, (sz_put z i k (wk_v (z.2.1 i k) (z.2.1 i j.toNat) w j)).2.1, wk_v (z.2.1 i k) (z.2.1 i j.toNat) w j)
def N_work (s : Sta) (x y w j : Int) : Sta := if wk_no (st_z s) x y w j = 0 then N_z s (Z_work (st_z s) x.toNat y.toNat w j) else s
theorem c_change {h : Hp} {z : StZ} (q : StC h z) (ok : sz_ok z) {i k : Nat} (hi : i < 3) (hk : (k : Int) < z.1 i) {w j : Int} (hw : 0 ≤ w ∧ w ≤ 3) (hj : w ≤ 1 → 0 ≤ j ∧ j < z.1 i) : ∃ h', F_X8_change (iI i) (iI k) (iI w) (iI j) h = some ((), h') ∧ StC h' (Z_work z i k w j) := by
  have hv : ∀ v : Int64, ∃ h', F_X8_put (iI i) (iI k) v (tS h 7296 v) = some ((), h') ∧ StC h' (z.1, (sz_put z i k v).2.1, v) := by
    intro v
    have q2 : StC (tS h 7296 v) (z.1, z.2.1, v) := by
      refine ⟨fun a ha => ?_, fun a b ha hb hc => ?_, ?_⟩
      · simp (maxSteps := 3000000) (implicitDefEqProofs := false) (disch := omega) only [jl_e, jn_e, bd_e, gd_t, iI_add, iI_sub, iI_mul, iI_neg, if_true, if_false, not_true_eq_false, not_false_eq_true, Int.reduceEq, Nat.add_zero, Int.toNat_natCast, iI_cl, iI_lt, iI_eq, gd_in, bI_eq0, bI_eq1, bI_isB, isB_0, isB_1, il_0, il_1, il_2, il_3, il_4, il_5, il_6, il_7, il_8, il_9, il_10, il_12, il_16, il_18, il_24, il_27, il_30, il_31, il_32, il_40, il_47, il_48, il_49, il_55, il_56, il_57, il_59, il_63, il_64, il_96, il_97, il_98, il_99, il_101, il_103, il_104, il_105, il_108, il_109, il_110, il_111, il_112, il_114, il_115, il_116, il_117, il_119, il_122, il_127, il_128, il_200, il_225, il_255, il_256, il_999, il_1575, il_9999, il_65536, il_252645135, il_858993459, il_1431655765, aG_aS_s, aG_aS_j, aG_aS_k, aG_aV_s, aG_aV_k, aG_sS, aG_lS, aG_lV, aG_tS, aG_oS, sG_aS, sG_lS, sG_aV, sG_lV, sG_tS, sG_oS, sG_sS_s, sG_sS_n, lG_lS_s, lG_lS_j, lG_lS_k, lG_lV_s, lG_lV_k, lG_sS, lG_aS, lG_aV, lG_tS, lG_oS, tG_sS, tG_aS, tG_aV, tG_lS, tG_lV, tG_tS_s, tG_tS_n, oG_sS, oG_aS, oG_aV, oG_lS, oG_lV, oG_oS_s]
        exact q.1 a ha
      · simp (maxSteps := 3000000) (implicitDefEqProofs := false) (disch := omega) only [jl_e, jn_e, bd_e, gd_t, iI_add, iI_sub, iI_mul, iI_neg, if_true, if_false, not_true_eq_false, not_false_eq_true, Int.reduceEq, Nat.add_zero, Int.toNat_natCast, iI_cl, iI_lt, iI_eq, gd_in, bI_eq0, bI_eq1, bI_isB, isB_0, isB_1, il_0, il_1, il_2, il_3, il_4, il_5, il_6, il_7, il_8, il_9, il_10, il_12, il_16, il_18, il_24, il_27, il_30, il_31, il_32, il_40, il_47, il_48, il_49, il_55, il_56, il_57, il_59, il_63, il_64, il_96, il_97, il_98, il_99, il_101, il_103, il_104, il_105, il_108, il_109, il_110, il_111, il_112, il_114, il_115, il_116, il_117, il_119, il_122, il_127, il_128, il_200, il_225, il_255, il_256, il_999, il_1575, il_9999, il_65536, il_252645135, il_858993459, il_1431655765, aG_aS_s, aG_aS_j, aG_aS_k, aG_aV_s, aG_aV_k, aG_sS, aG_lS, aG_lV, aG_tS, aG_oS, sG_aS, sG_lS, sG_aV, sG_lV, sG_tS, sG_oS, sG_sS_s, sG_sS_n, lG_lS_s, lG_lS_j, lG_lS_k, lG_lV_s, lG_lV_k, lG_sS, lG_aS, lG_aV, lG_tS, lG_oS, tG_sS, tG_aS, tG_aV, tG_lS, tG_lV, tG_tS_s, tG_tS_n, oG_sS, oG_aS, oG_aV, oG_lS, oG_lV, oG_oS_s]
        exact q.2.1 a b ha hb hc
      · simp (maxSteps := 3000000) (implicitDefEqProofs := false) (disch := omega) only [jl_e, jn_e, bd_e, gd_t, iI_add, iI_sub, iI_mul, iI_neg, if_true, if_false, not_true_eq_false, not_false_eq_true, Int.reduceEq, Nat.add_zero, Int.toNat_natCast, iI_cl, iI_lt, iI_eq, gd_in, bI_eq0, bI_eq1, bI_isB, isB_0, isB_1, il_0, il_1, il_2, il_3, il_4, il_5, il_6, il_7, il_8, il_9, il_10, il_12, il_16, il_18, il_24, il_27, il_30, il_31, il_32, il_40, il_47, il_48, il_49, il_55, il_56, il_57, il_59, il_63, il_64, il_96, il_97, il_98, il_99, il_101, il_103, il_104, il_105, il_108, il_109, il_110, il_111, il_112, il_114, il_115, il_116, il_117, il_119, il_122, il_127, il_128, il_200, il_225, il_255, il_256, il_999, il_1575, il_9999, il_65536, il_252645135, il_858993459, il_1431655765, aG_aS_s, aG_aS_j, aG_aS_k, aG_aV_s, aG_aV_k, aG_sS, aG_lS, aG_lV, aG_tS, aG_oS, sG_aS, sG_lS, sG_aV, sG_lV, sG_tS, sG_oS, sG_sS_s, sG_sS_n, lG_lS_s, lG_lS_j, lG_lS_k, lG_lV_s, lG_lV_k, lG_sS, lG_aS, lG_aV, lG_tS, lG_oS, tG_sS, tG_aS, tG_aV, tG_lS, tG_lV, tG_tS_s, tG_tS_n, oG_sS, oG_aS, oG_aV, oG_lS, oG_lV, oG_oS_s]
    exact c_sput q2 ok hi hk v
  unfold F_X8_change
  rw [c_at q ok hi hk, bd_e, jn_e]
  have lits : ∀ n : Int, 0 ≤ n ∧ n ≤ 3 → (iI w = iI n) = (w = n) := fun n hn => iI_eq (by omega) (by omega) (by omega) (by omega)
  have l0 : (iI w = 0) = (w = 0) := lits 0 (by omega)
  have l1 : (iI w = 1) = (w = 1) := lits 1 (by omega)
  have l2 : (iI w = 2) = (w = 2) := lits 2 (by omega)
  by_cases w0 : w = 0
  · obtain ⟨b, eb⟩ : ∃ b : Nat, j = b := ⟨j.toNat, by have := hj (by omega); omega⟩
    subst eb
    obtain ⟨h', e1, q1⟩ := hv (wk_v (z.2.1 i k) (z.2.1 i b) w b)
    have ev : wk_v (z.2.1 i k) (z.2.1 i b) w b = z.2.1 i k &&& z.2.1 i b := if_pos w0
    rw [ev] at e1
    refine ⟨h', ?_, q1⟩
    rw [if_pos (by rw [l0]; exact w0), c_at q ok hi (hj (by omega)).2, bd_e, jl_e]
    dsimp only
    rw [tG_tS_s, e1]
    rfl
  · by_cases w1 : w = 1
    · obtain ⟨b, eb⟩ : ∃ b : Nat, j = b := ⟨j.toNat, by have := hj (by omega); omega⟩
      subst eb
      obtain ⟨h', e1, q1⟩ := hv (wk_v (z.2.1 i k) (z.2.1 i b) w b)
      have ev : wk_v (z.2.1 i k) (z.2.1 i b) w b = z.2.1 i k ||| z.2.1 i b := by
        unfold wk_v
        rw [if_neg w0, if_pos w1]
      rw [ev] at e1
      refine ⟨h', ?_, q1⟩
      rw [if_neg (by rw [l0]; exact w0), if_pos (by rw [l1]; exact w1), c_at q ok hi (hj (by omega)).2, bd_e, jl_e]
      dsimp only
      rw [tG_tS_s, e1]
      rfl
    · obtain ⟨h', e1, q1⟩ := hv (wk_v (z.2.1 i k) (z.2.1 i j.toNat) w j)
      rw [if_neg (by rw [l0]; exact w0), if_neg (by rw [l1]; exact w1), jn_e]
      refine ⟨h', ?_, q1⟩
      by_cases w2 : w = 2
      · have ev : wk_v (z.2.1 i k) (z.2.1 i j.toNat) w j = z.2.1 i k <<< ((iI j).toInt64 &&& 63) := by
          unfold wk_v
          rw [if_neg w0, if_neg w1, if_pos w2]
        rw [ev] at e1
        rw [if_pos (by rw [l2]; exact w2)]
        dsimp only
        rw [jl_e]
        rw [tG_tS_s, e1]
        rfl
      · have ev : wk_v (z.2.1 i k) (z.2.1 i j.toNat) w j = z.2.1 i k >>> ((iI j).toInt64 &&& 63) := by
          unfold wk_v
          rw [if_neg w0, if_neg w1, if_neg w2]
        rw [ev] at e1
        rw [if_neg (by rw [l2]; exact w2)]
        dsimp only
        rw [jl_e]
        rw [tG_tS_s, e1]
        rfl
theorem C_work {h : Hp} {s : Sta} (q : JC h s) {x y w j : Int} (hx : -2147483648 ≤ x ∧ x < 2147483648) (hy : -2147483648 ≤ y ∧ y < 2147483648) (hw : -2147483648 ≤ w ∧ w < 2147483648) (hj : -2147483648 ≤ j ∧ j < 2147483648) : ∃ h', F_X11_work (iI x) (iI y) (iI w) (iI j) h = some (iI (A_work s x y w j), h') ∧ JC h' (N_work s x y w j) := by
  have ok : sz_ok (st_z s) := q.1.2.2.2.2
  have hz := q.2.2.2.2.2.1
  by_cases c : 0 ≤ x ∧ x < 3
  · obtain ⟨i, ei, hi⟩ := rg_of hx (n := 3) c
    subst ei
    have rr := ok i hi
    by_cases n0 : wk_no (st_z s) i y w j = 0
    · unfold wk_no at n0
      rw [if_pos c] at n0
      by_cases d : w < 0 ∨ 3 < w
      · rw [if_pos d] at n0; omega
      rw [if_neg d] at n0
      by_cases d1 : 1 < w ∧ (j < 0 ∨ 99 < j)
      · rw [if_pos d1] at n0; omega
      rw [if_neg d1] at n0
      by_cases d2 : sp_no (st_z s) i y = 0
      · rw [if_neg (fun z => z d2)] at n0
        have d2' := d2
        unfold sp_no at d2'
        rw [if_pos c, Int.toNat_natCast] at d2'
        by_cases m1 : (st_z s).1 i = -1
        · rw [if_pos m1] at d2'; omega
        rw [if_neg m1] at d2'
        by_cases m2 : 0 ≤ y ∧ y < (st_z s).1 i
        · have hjj : w ≤ 1 → 0 ≤ j ∧ j < (st_z s).1 i := by
            intro u
            rw [if_pos u] at n0
            unfold sp_no at n0
            rw [if_pos c, Int.toNat_natCast, if_neg m1] at n0
            by_cases m3 : 0 ≤ j ∧ j < (st_z s).1 i
            · exact m3
            · rw [if_neg m3] at n0; omega
          obtain ⟨k, ek⟩ : ∃ k : Nat, y = k := ⟨y.toNat, by omega⟩
          subst ek
          obtain ⟨h', e1, q1⟩ := c_change hz ok hi m2.2 (w := w) (j := j) (by omega) hjj
          have nn : wk_no (st_z s) i k w j = 0 := by
            unfold wk_no
            rw [if_pos c, if_neg d, if_neg d1, if_neg (fun z => z d2)]
            exact n0
          unfold A_work N_work
          rw [if_pos nn, if_pos nn]
          refine ⟨h', ?_, q.z (fr_X8_change _ _ _ _ _ _ _ e1) (by decide) (by decide) q1 ok⟩
          unfold F_X11_work
          rw [c_has hx, bd_e, if_neg (by rw [bI_zero]; exact fun z => z c)]
          simp (maxSteps := 3000000) (implicitDefEqProofs := false) (disch := omega) only [jl_e, jn_e, bd_e, gd_t, iI_add, iI_sub, iI_mul, iI_neg, if_true, if_false, not_true_eq_false, not_false_eq_true, Int.reduceEq, Nat.add_zero, Int.toNat_natCast, iI_cl, iI_lt, iI_eq, gd_in, bI_eq0, bI_eq1, bI_isB, isB_0, isB_1, il_0, il_1, il_2, il_3, il_4, il_5, il_6, il_7, il_8, il_9, il_10, il_12, il_16, il_18, il_24, il_27, il_30, il_31, il_32, il_40, il_47, il_48, il_49, il_55, il_56, il_57, il_59, il_63, il_64, il_96, il_97, il_98, il_99, il_101, il_103, il_104, il_105, il_108, il_109, il_110, il_111, il_112, il_114, il_115, il_116, il_117, il_119, il_122, il_127, il_128, il_200, il_225, il_255, il_256, il_999, il_1575, il_9999, il_65536, il_252645135, il_858993459, il_1431655765, c_isMissing hz ok hi, c_hasPlace hz ok hi hy, c_hasPlace hz ok hi hj, e1]
          rw [if_neg (by omega), if_neg (by omega)]
          by_cases u : w ≤ 1
          · rw [if_neg (by omega)]
            (try simp (maxSteps := 3000000) (implicitDefEqProofs := false) (disch := omega) only [jl_e, jn_e, bd_e, gd_t, iI_add, iI_sub, iI_mul, iI_neg, if_true, if_false, not_true_eq_false, not_false_eq_true, Int.reduceEq, Nat.add_zero, Int.toNat_natCast, iI_cl, iI_lt, iI_eq, gd_in, bI_eq0, bI_eq1, bI_isB, isB_0, isB_1, il_0, il_1, il_2, il_3, il_4, il_5, il_6, il_7, il_8, il_9, il_10, il_12, il_16, il_18, il_24, il_27, il_30, il_31, il_32, il_40, il_47, il_48, il_49, il_55, il_56, il_57, il_59, il_63, il_64, il_96, il_97, il_98, il_99, il_101, il_103, il_104, il_105, il_108, il_109, il_110, il_111, il_112, il_114, il_115, il_116, il_117, il_119, il_122, il_127, il_128, il_200, il_225, il_255, il_256, il_999, il_1575, il_9999, il_65536, il_252645135, il_858993459, il_1431655765, c_isMissing hz ok hi, c_hasPlace hz ok hi hy, c_hasPlace hz ok hi hj, e1])
            have := hjj u
            rw [if_pos m1, if_neg (by omega), if_neg (by omega)]
          · rw [if_pos (by omega)]
            (try simp (maxSteps := 3000000) (implicitDefEqProofs := false) (disch := omega) only [jl_e, jn_e, bd_e, gd_t, iI_add, iI_sub, iI_mul, iI_neg, if_true, if_false, not_true_eq_false, not_false_eq_true, Int.reduceEq, Nat.add_zero, Int.toNat_natCast, iI_cl, iI_lt, iI_eq, gd_in, bI_eq0, bI_eq1, bI_isB, isB_0, isB_1, il_0, il_1, il_2, il_3, il_4, il_5, il_6, il_7, il_8, il_9, il_10, il_12, il_16, il_18, il_24, il_27, il_30, il_31, il_32, il_40, il_47, il_48, il_49, il_55, il_56, il_57, il_59, il_63, il_64, il_96, il_97, il_98, il_99, il_101, il_103, il_104, il_105, il_108, il_109, il_110, il_111, il_112, il_114, il_115, il_116, il_117, il_119, il_122, il_127, il_128, il_200, il_225, il_255, il_256, il_999, il_1575, il_9999, il_65536, il_252645135, il_858993459, il_1431655765, c_isMissing hz ok hi, c_hasPlace hz ok hi hy, c_hasPlace hz ok hi hj, e1])
            rw [if_neg (by omega), if_neg (by omega), if_pos m1, if_neg (by omega)]
        · rw [if_neg m2] at d2'; omega
      · rw [if_pos d2] at n0; exact absurd n0 d2
    · unfold A_work N_work
      rw [if_neg n0, if_neg n0]
      refine ⟨h, ?_, q⟩
      unfold F_X11_work
      rw [c_has hx, bd_e, if_neg (by rw [bI_zero]; exact fun z => z c)]
      unfold wk_no at n0 ⊢
      rw [if_pos c] at n0 ⊢
      by_cases d : w < 0 ∨ 3 < w
      · rw [if_pos d]
        simp (maxSteps := 3000000) (implicitDefEqProofs := false) (disch := omega) only [jl_e, jn_e, bd_e, gd_t, iI_add, iI_sub, iI_mul, iI_neg, if_true, if_false, not_true_eq_false, not_false_eq_true, Int.reduceEq, Nat.add_zero, Int.toNat_natCast, iI_cl, iI_lt, iI_eq, gd_in, bI_eq0, bI_eq1, bI_isB, isB_0, isB_1, il_0, il_1, il_2, il_3, il_4, il_5, il_6, il_7, il_8, il_9, il_10, il_12, il_16, il_18, il_24, il_27, il_30, il_31, il_32, il_40, il_47, il_48, il_49, il_55, il_56, il_57, il_59, il_63, il_64, il_96, il_97, il_98, il_99, il_101, il_103, il_104, il_105, il_108, il_109, il_110, il_111, il_112, il_114, il_115, il_116, il_117, il_119, il_122, il_127, il_128, il_200, il_225, il_255, il_256, il_999, il_1575, il_9999, il_65536, il_252645135, il_858993459, il_1431655765]
        by_cases d1 : w < 0
        · rw [if_pos d1]
        · rw [if_neg d1, if_pos (by omega)]
      rw [if_neg d] at n0 ⊢
      simp (maxSteps := 3000000) (implicitDefEqProofs := false) (disch := omega) only [jl_e, jn_e, bd_e, gd_t, iI_add, iI_sub, iI_mul, iI_neg, if_true, if_false, not_true_eq_false, not_false_eq_true, Int.reduceEq, Nat.add_zero, Int.toNat_natCast, iI_cl, iI_lt, iI_eq, gd_in, bI_eq0, bI_eq1, bI_isB, isB_0, isB_1, il_0, il_1, il_2, il_3, il_4, il_5, il_6, il_7, il_8, il_9, il_10, il_12, il_16, il_18, il_24, il_27, il_30, il_31, il_32, il_40, il_47, il_48, il_49, il_55, il_56, il_57, il_59, il_63, il_64, il_96, il_97, il_98, il_99, il_101, il_103, il_104, il_105, il_108, il_109, il_110, il_111, il_112, il_114, il_115, il_116, il_117, il_119, il_122, il_127, il_128, il_200, il_225, il_255, il_256, il_999, il_1575, il_9999, il_65536, il_252645135, il_858993459, il_1431655765, c_isMissing hz ok hi, c_hasPlace hz ok hi hy, c_hasPlace hz ok hi hj]
      rw [if_neg (by omega), if_neg (by omega)]
      by_cases u : w ≤ 1
      · rw [if_neg (show ¬ 1 < w by omega), if_neg (show ¬ (1 < w ∧ (j < 0 ∨ 99 < j)) by omega)]
        rw [if_neg (show ¬ (1 < w ∧ (j < 0 ∨ 99 < j)) by omega), if_pos u] at n0
        rw [if_pos u]
        unfold sp_no at n0 ⊢
        rw [if_pos c, if_pos c, Int.toNat_natCast] at n0 ⊢
        (try simp (maxSteps := 3000000) (implicitDefEqProofs := false) (disch := omega) only [jl_e, jn_e, bd_e, gd_t, iI_add, iI_sub, iI_mul, iI_neg, if_true, if_false, not_true_eq_false, not_false_eq_true, Int.reduceEq, Nat.add_zero, Int.toNat_natCast, iI_cl, iI_lt, iI_eq, gd_in, bI_eq0, bI_eq1, bI_isB, isB_0, isB_1, il_0, il_1, il_2, il_3, il_4, il_5, il_6, il_7, il_8, il_9, il_10, il_12, il_16, il_18, il_24, il_27, il_30, il_31, il_32, il_40, il_47, il_48, il_49, il_55, il_56, il_57, il_59, il_63, il_64, il_96, il_97, il_98, il_99, il_101, il_103, il_104, il_105, il_108, il_109, il_110, il_111, il_112, il_114, il_115, il_116, il_117, il_119, il_122, il_127, il_128, il_200, il_225, il_255, il_256, il_999, il_1575, il_9999, il_65536, il_252645135, il_858993459, il_1431655765, c_isMissing hz ok hi, c_hasPlace hz ok hi hy, c_hasPlace hz ok hi hj])
        by_cases m1 : (st_z s).1 i = -1
        · rw [if_pos m1, if_pos m1, if_neg (fun z => z m1), if_pos (by omega)]
          rfl
        rw [if_neg m1, if_neg m1, if_pos m1]
        rw [if_neg m1, if_neg m1] at n0
        by_cases m2 : 0 ≤ y ∧ y < (st_z s).1 i
        · rw [if_pos m2] at n0 ⊢
          rw [if_neg (fun z => z m2), if_neg (show ¬ ((0 : Int) ≠ 0) from fun z => z rfl)]
          by_cases m3 : 0 ≤ j ∧ j < (st_z s).1 i
          · rw [if_neg (show ¬ ((0 : Int) ≠ 0) from fun z => z rfl), if_pos m3] at n0
            exact absurd rfl n0
          · rw [if_pos m3, if_neg m3]
        · rw [if_pos m2, if_neg m2, if_pos (by omega)]
      · rw [if_pos (show 1 < w by omega)]
        by_cases d1 : 1 < w ∧ (j < 0 ∨ 99 < j)
        · rw [if_pos d1]
          (try simp (maxSteps := 3000000) (implicitDefEqProofs := false) (disch := omega) only [jl_e, jn_e, bd_e, gd_t, iI_add, iI_sub, iI_mul, iI_neg, if_true, if_false, not_true_eq_false, not_false_eq_true, Int.reduceEq, Nat.add_zero, Int.toNat_natCast, iI_cl, iI_lt, iI_eq, gd_in, bI_eq0, bI_eq1, bI_isB, isB_0, isB_1, il_0, il_1, il_2, il_3, il_4, il_5, il_6, il_7, il_8, il_9, il_10, il_12, il_16, il_18, il_24, il_27, il_30, il_31, il_32, il_40, il_47, il_48, il_49, il_55, il_56, il_57, il_59, il_63, il_64, il_96, il_97, il_98, il_99, il_101, il_103, il_104, il_105, il_108, il_109, il_110, il_111, il_112, il_114, il_115, il_116, il_117, il_119, il_122, il_127, il_128, il_200, il_225, il_255, il_256, il_999, il_1575, il_9999, il_65536, il_252645135, il_858993459, il_1431655765])
          by_cases d2 : j < 0
          · rw [if_pos d2]
          · rw [if_neg d2, if_pos (by omega)]
        · rw [if_neg d1] at n0 ⊢
          rw [if_neg u] at n0 ⊢
          unfold sp_no at n0 ⊢
          rw [if_pos c, Int.toNat_natCast] at n0 ⊢
          (try simp (maxSteps := 3000000) (implicitDefEqProofs := false) (disch := omega) only [jl_e, jn_e, bd_e, gd_t, iI_add, iI_sub, iI_mul, iI_neg, if_true, if_false, not_true_eq_false, not_false_eq_true, Int.reduceEq, Nat.add_zero, Int.toNat_natCast, iI_cl, iI_lt, iI_eq, gd_in, bI_eq0, bI_eq1, bI_isB, isB_0, isB_1, il_0, il_1, il_2, il_3, il_4, il_5, il_6, il_7, il_8, il_9, il_10, il_12, il_16, il_18, il_24, il_27, il_30, il_31, il_32, il_40, il_47, il_48, il_49, il_55, il_56, il_57, il_59, il_63, il_64, il_96, il_97, il_98, il_99, il_101, il_103, il_104, il_105, il_108, il_109, il_110, il_111, il_112, il_114, il_115, il_116, il_117, il_119, il_122, il_127, il_128, il_200, il_225, il_255, il_256, il_999, il_1575, il_9999, il_65536, il_252645135, il_858993459, il_1431655765, c_isMissing hz ok hi, c_hasPlace hz ok hi hy, c_hasPlace hz ok hi hj])
          rw [if_neg (by omega), if_neg (by omega)]
          by_cases m1 : (st_z s).1 i = -1
          · rw [if_pos m1, if_neg (fun z => z m1), if_pos (by omega)]
            rfl
          rw [if_neg m1, if_pos m1]
          rw [if_neg m1] at n0
          by_cases m2 : 0 ≤ y ∧ y < (st_z s).1 i
          · rw [if_pos m2] at n0
            exact absurd rfl n0
          · rw [if_pos m2, if_neg m2, if_pos (by omega)]
  · have nn : wk_no (st_z s) x y w j = -2 := if_neg c
    unfold A_work N_work
    rw [nn, if_neg (by omega), if_neg (by omega)]
    refine ⟨h, ?_, q⟩
    unfold F_X11_work
    rw [c_has hx, bd_e, if_pos (by rw [bI_zero]; exact c)]
    rfl
def sz_sum (z : StZ) (i : Nat) : Nat → Int64
  | 0 => 0
  | k + 1 => sz_sum z i k + z.2.1 i k
def A_sum (s : Sta) (x : Int) : Int := A_drop s x
def Z_sum (z : StZ) (i : Nat) : StZ := (z.1, z.2.1, sz_sum z i (z.1 i).toNat)
def N_sum (s : Sta) (x : Int) : Sta := if sx_no (st_z s) x = 0 then N_z s (Z_sum (st_z s) x.toNat) else s
theorem StC.t {h : Hp} {z : StZ} (q : StC h z) (v : Int64) : StC (tS h 7296 v) (z.1, z.2.1, v) := by
  refine ⟨fun a ha => ?_, fun a b ha hb hc => ?_, ?_⟩
  · simp (maxSteps := 3000000) (implicitDefEqProofs := false) (disch := omega) only [jl_e, jn_e, bd_e, gd_t, iI_add, iI_sub, iI_mul, iI_neg, if_true, if_false, not_true_eq_false, not_false_eq_true, Int.reduceEq, Nat.add_zero, Int.toNat_natCast, iI_cl, iI_lt, iI_eq, gd_in, bI_eq0, bI_eq1, bI_isB, isB_0, isB_1, il_0, il_1, il_2, il_3, il_4, il_5, il_6, il_7, il_8, il_9, il_10, il_12, il_16, il_18, il_24, il_27, il_30, il_31, il_32, il_40, il_47, il_48, il_49, il_55, il_56, il_57, il_59, il_63, il_64, il_96, il_97, il_98, il_99, il_101, il_103, il_104, il_105, il_108, il_109, il_110, il_111, il_112, il_114, il_115, il_116, il_117, il_119, il_122, il_127, il_128, il_200, il_225, il_255, il_256, il_999, il_1575, il_9999, il_65536, il_252645135, il_858993459, il_1431655765, aG_aS_s, aG_aS_j, aG_aS_k, aG_aV_s, aG_aV_k, aG_sS, aG_lS, aG_lV, aG_tS, aG_oS, sG_aS, sG_lS, sG_aV, sG_lV, sG_tS, sG_oS, sG_sS_s, sG_sS_n, lG_lS_s, lG_lS_j, lG_lS_k, lG_lV_s, lG_lV_k, lG_sS, lG_aS, lG_aV, lG_tS, lG_oS, tG_sS, tG_aS, tG_aV, tG_lS, tG_lV, tG_tS_s, tG_tS_n, oG_sS, oG_aS, oG_aV, oG_lS, oG_lV, oG_oS_s]
    exact q.1 a ha
  · simp (maxSteps := 3000000) (implicitDefEqProofs := false) (disch := omega) only [jl_e, jn_e, bd_e, gd_t, iI_add, iI_sub, iI_mul, iI_neg, if_true, if_false, not_true_eq_false, not_false_eq_true, Int.reduceEq, Nat.add_zero, Int.toNat_natCast, iI_cl, iI_lt, iI_eq, gd_in, bI_eq0, bI_eq1, bI_isB, isB_0, isB_1, il_0, il_1, il_2, il_3, il_4, il_5, il_6, il_7, il_8, il_9, il_10, il_12, il_16, il_18, il_24, il_27, il_30, il_31, il_32, il_40, il_47, il_48, il_49, il_55, il_56, il_57, il_59, il_63, il_64, il_96, il_97, il_98, il_99, il_101, il_103, il_104, il_105, il_108, il_109, il_110, il_111, il_112, il_114, il_115, il_116, il_117, il_119, il_122, il_127, il_128, il_200, il_225, il_255, il_256, il_999, il_1575, il_9999, il_65536, il_252645135, il_858993459, il_1431655765, aG_aS_s, aG_aS_j, aG_aS_k, aG_aV_s, aG_aV_k, aG_sS, aG_lS, aG_lV, aG_tS, aG_oS, sG_aS, sG_lS, sG_aV, sG_lV, sG_tS, sG_oS, sG_sS_s, sG_sS_n, lG_lS_s, lG_lS_j, lG_lS_k, lG_lV_s, lG_lV_k, lG_sS, lG_aS, lG_aV, lG_tS, lG_oS, tG_sS, tG_aS, tG_aV, tG_lS, tG_lV, tG_tS_s, tG_tS_n, oG_sS, oG_aS, oG_aV, oG_lS, oG_lV, oG_oS_s]
    exact q.2.1 a b ha hb hc
  · simp (maxSteps := 3000000) (implicitDefEqProofs := false) (disch := omega) only [jl_e, jn_e, bd_e, gd_t, iI_add, iI_sub, iI_mul, iI_neg, if_true, if_false, not_true_eq_false, not_false_eq_true, Int.reduceEq, Nat.add_zero, Int.toNat_natCast, iI_cl, iI_lt, iI_eq, gd_in, bI_eq0, bI_eq1, bI_isB, isB_0, isB_1, il_0, il_1, il_2, il_3, il_4, il_5, il_6, il_7, il_8, il_9, il_10, il_12, il_16, il_18, il_24, il_27, il_30, il_31, il_32, il_40, il_47, il_48, il_49, il_55, il_56, il_57, il_59, il_63, il_64, il_96, il_97, il_98, il_99, il_101, il_103, il_104, il_105, il_108, il_109, il_110, il_111, il_112, il_114, il_115, il_116, il_117, il_119, il_122, il_127, il_128, il_200, il_225, il_255, il_256, il_999, il_1575, il_9999, il_65536, il_252645135, il_858993459, il_1431655765, aG_aS_s, aG_aS_j, aG_aS_k, aG_aV_s, aG_aV_k, aG_sS, aG_lS, aG_lV, aG_tS, aG_oS, sG_aS, sG_lS, sG_aV, sG_lV, sG_tS, sG_oS, sG_sS_s, sG_sS_n, lG_lS_s, lG_lS_j, lG_lS_k, lG_lV_s, lG_lV_k, lG_sS, lG_aS, lG_aV, lG_tS, lG_oS, tG_sS, tG_aS, tG_aV, tG_lS, tG_lV, tG_tS_s, tG_tS_n, oG_sS, oG_aS, oG_aV, oG_lS, oG_lV, oG_oS_s]
theorem c_addUp {h : Hp} {z : StZ} (q : StC h z) (ok : sz_ok z) {i : Nat} (hi : i < 3) (hz : z.1 i ≠ -1) : ∃ h', F_X8_addUp (iI i) h = some (iI (z.1 i), h') ∧ StC h' (Z_sum z i) := by
  have r := ok i hi
  obtain ⟨n, en⟩ : ∃ n : Nat, z.1 i = n := ⟨(z.1 i).toNat, by omega⟩
  unfold F_X8_addUp
  rw [c_sizeOf q hi, bd_e, jl_e]
  refine lp_up (α := Int32 → Hp → Option (Int32 × Hp)) (P := fun k c8 => ∀ (v : Int32) (h1 : Hp), v = iI k → StC h1 (z.1, z.2.1, sz_sum z i k) → ∃ h', c8 v h1 = some (iI (z.1 i), h') ∧ StC h' (Z_sum z i)) n (by omega) (fun k c8 hk ih => ?_) _ _ rfl (q.t 0)
  intro v h1 hv q1
  subst hv
  by_cases c : k < n
  · simp (maxSteps := 3000000) (implicitDefEqProofs := false) (disch := omega) only [jl_e, jn_e, bd_e, gd_t, iI_add, iI_sub, iI_mul, iI_neg, if_true, if_false, not_true_eq_false, not_false_eq_true, Int.reduceEq, Nat.add_zero, Int.toNat_natCast, iI_cl, iI_lt, iI_eq, gd_in, bI_eq0, bI_eq1, bI_isB, isB_0, isB_1, il_0, il_1, il_2, il_3, il_4, il_5, il_6, il_7, il_8, il_9, il_10, il_12, il_16, il_18, il_24, il_27, il_30, il_31, il_32, il_40, il_47, il_48, il_49, il_55, il_56, il_57, il_59, il_63, il_64, il_96, il_97, il_98, il_99, il_101, il_103, il_104, il_105, il_108, il_109, il_110, il_111, il_112, il_114, il_115, il_116, il_117, il_119, il_122, il_127, il_128, il_200, il_225, il_255, il_256, il_999, il_1575, il_9999, il_65536, il_252645135, il_858993459, il_1431655765, c_at q1 ok hi (show (k : Int) < z.1 i by omega), en]
    rw [if_pos (by omega)]
    have e : tG h1 7296 = sz_sum z i k := q1.2.2
    rw [e]
    have := ih c (iI ((k : Int) + 1)) _ (iI_cg (by omega)) (q1.t _)
    rwa [en] at this
  · simp (maxSteps := 3000000) (implicitDefEqProofs := false) (disch := omega) only [jl_e, jn_e, bd_e, gd_t, iI_add, iI_sub, iI_mul, iI_neg, if_true, if_false, not_true_eq_false, not_false_eq_true, Int.reduceEq, Nat.add_zero, Int.toNat_natCast, iI_cl, iI_lt, iI_eq, gd_in, bI_eq0, bI_eq1, bI_isB, isB_0, isB_1, il_0, il_1, il_2, il_3, il_4, il_5, il_6, il_7, il_8, il_9, il_10, il_12, il_16, il_18, il_24, il_27, il_30, il_31, il_32, il_40, il_47, il_48, il_49, il_55, il_56, il_57, il_59, il_63, il_64, il_96, il_97, il_98, il_99, il_101, il_103, il_104, il_105, il_108, il_109, il_110, il_111, il_112, il_114, il_115, il_116, il_117, il_119, il_122, il_127, il_128, il_200, il_225, il_255, il_256, il_999, il_1575, il_9999, il_65536, il_252645135, il_858993459, il_1431655765, en]
    rw [if_neg (by omega)]
    refine ⟨h1, rfl, ?_⟩
    have ek : k = n := by omega
    unfold Z_sum
    rw [en, Int.toNat_natCast, ← ek]
    exact q1
theorem C_sum {h : Hp} {s : Sta} (q : JC h s) {x : Int} (hx : -2147483648 ≤ x ∧ x < 2147483648) : ∃ h', F_X11_sum (iI x) h = some (iI (A_sum s x), h') ∧ JC h' (N_sum s x) := by
  have ok : sz_ok (st_z s) := q.1.2.2.2.2
  have hz := q.2.2.2.2.2.1
  unfold F_X11_sum A_sum A_drop N_sum sx_no
  rw [c_has hx, bd_e]
  by_cases c : 0 ≤ x ∧ x < 3
  · obtain ⟨i, ei, hi⟩ := rg_of hx (n := 3) c
    subst ei
    rw [if_neg (by rw [bI_zero]; exact fun z => z c), if_pos c, c_isMissing hz ok hi, bd_e, Int.toNat_natCast]
    by_cases d : (st_z s).1 i = -1
    · rw [if_neg (by rw [bI_zero]; exact fun z => z d), if_pos d, if_neg (by omega), if_neg (by omega)]
      exact ⟨h, rfl, q⟩
    · rw [if_pos (by rw [bI_zero]; exact d), if_neg d, if_pos rfl, if_pos rfl]
      obtain ⟨h', e1, q1⟩ := c_addUp hz ok hi d
      rw [e1, bd_e]
      exact ⟨h', rfl, q.z (fr_X8_addUp _ _ _ _ e1) (by decide) (by decide) q1 ok⟩
  · rw [if_pos (by rw [bI_zero]; exact c), if_neg c, if_neg (by omega), if_neg (by omega)]
    exact ⟨h, rfl, q⟩
