-- ===== the class's strips: set, load, work, bits, sum, drop, latest =====
def lO (x : Int64) : Nat := x.toBitVec.toNat
theorem lO_lt (x : Int64) : lO x < 18446744073709551616 := x.toBitVec.isLt
theorem lN_lO (x : Int64) : lN (lO x) = x := by
  apply wb_inj
  rw [wb_tb, lO]
  simp
theorem c_bitCountX (x : Int64) (h : Hp) : F_J13_bitCount_95d88 x h = some (iI (pcn 8 (lO x)), h) := by
  have e := c_bitCountL (lO_lt x) h
  rwa [lN_lO] at e
/-- what stands in the way of place y of strip x: 0 nothing, or the answer -/
def sp_no (z : StZ) (x y : Int) : Int := if 0 ≤ x ∧ x < 3 then (if z.1 x.toNat = -1 then -11 else if 0 ≤ y ∧ y < z.1 x.toNat then 0 else -12) else -2
theorem sz_put_ok {z : StZ} (ok : sz_ok z) (i j : Nat) (v : Int64) : sz_ok (sz_put z i j v) := ok
theorem JC.sput {h : Hp} {s : Sta} (q : JC h s) {i j : Nat} (hi : i < 3) (hj : (j : Int) < (st_z s).1 i) (v : Int64) : ∃ h', F_X8_put (iI i) (iI j) v h = some ((), h') ∧ JC h' (N_z s (sz_put (st_z s) i j v)) := by
  obtain ⟨h', e, z⟩ := c_sput q.2.2.2.2.2.1 q.1.2.2.2.2 hi hj v
  exact ⟨h', e, q.z (fr_X8_put _ _ _ _ _ _ e) (by decide) (by decide) z q.1.2.2.2.2⟩
def A_set (s : Sta) (x y : Int) : Int := if sp_no (st_z s) x y = 0 then 1 else sp_no (st_z s) x y
def N_set (s : Sta) (x y v : Int) : Sta := if sp_no (st_z s) x y = 0 then N_z s (sz_put (st_z s) x.toNat y.toNat (iI v).toInt64) else s
theorem C_set {h : Hp} {s : Sta} (q : JC h s) {x y v : Int} (hx : -2147483648 ≤ x ∧ x < 2147483648) (hy : -2147483648 ≤ y ∧ y < 2147483648) : ∃ h', F_X11_set (iI x) (iI y) (iI v) h = some (iI (A_set s x y), h') ∧ JC h' (N_set s x y v) := by
  have ok : sz_ok (st_z s) := q.1.2.2.2.2
  have hz := q.2.2.2.2.2.1
  unfold F_X11_set A_set N_set sp_no
  rw [c_has hx, bd_e]
  by_cases c : 0 ≤ x ∧ x < 3
  · obtain ⟨i, ei, hi⟩ := rg_of hx (n := 3) c
    subst ei
    rw [if_neg (by rw [bI_zero]; exact fun z => z c), if_pos c, c_isMissing hz ok hi, bd_e, Int.toNat_natCast]
    by_cases d : (st_z s).1 i = -1
    · rw [if_neg (by rw [bI_zero]; exact fun z => z d), if_pos d, if_neg (by omega), if_neg (by omega)]
      exact ⟨h, rfl, q⟩
    · rw [if_pos (by rw [bI_zero]; exact d), if_neg d, c_hasPlace hz ok hi hy, bd_e]
      by_cases e : 0 ≤ y ∧ y < (st_z s).1 i
      · have r := ok i hi
        obtain ⟨j, ej⟩ : ∃ j : Nat, y = j := ⟨y.toNat, by omega⟩
        subst ej
        obtain ⟨h', e1, q1⟩ := JC.sput q hi (j := j) e.2 (iI v).toInt64
        rw [if_neg (by rw [bI_zero]; exact fun z => z e), if_pos e, if_pos rfl, if_pos rfl, e1, bd_e]
        exact ⟨h', rfl, q1⟩
      · rw [if_pos (by rw [bI_zero]; exact e), if_neg e, if_neg (by omega), if_neg (by omega)]
        exact ⟨h, rfl, q⟩
  · rw [if_pos (by rw [bI_zero]; exact c), if_neg c, if_neg (by omega), if_neg (by omega)]
    exact ⟨h, rfl, q⟩
def A_bits (s : Sta) (x y : Int) : Int := if sp_no (st_z s) x y = 0 then (pcn 8 (lO ((st_z s).2.1 x.toNat y.toNat)) : Int) else sp_no (st_z s) x y
theorem C_bits {h : Hp} {s : Sta} (q : JC h s) {x y : Int} (hx : -2147483648 ≤ x ∧ x < 2147483648) (hy : -2147483648 ≤ y ∧ y < 2147483648) : ∃ h', F_X11_bits (iI x) (iI y) h = some (iI (A_bits s x y), h') ∧ JC h' s := by
  have ok : sz_ok (st_z s) := q.1.2.2.2.2
  have hz := q.2.2.2.2.2.1
  unfold F_X11_bits A_bits sp_no
  rw [c_has hx, bd_e]
  by_cases c : 0 ≤ x ∧ x < 3
  · obtain ⟨i, ei, hi⟩ := rg_of hx (n := 3) c
    subst ei
    rw [if_neg (by rw [bI_zero]; exact fun z => z c), if_pos c, c_isMissing hz ok hi, bd_e, Int.toNat_natCast]
    by_cases d : (st_z s).1 i = -1
    · rw [if_neg (by rw [bI_zero]; exact fun z => z d), if_pos d, if_neg (by omega)]
      exact ⟨h, rfl, q⟩
    · rw [if_pos (by rw [bI_zero]; exact d), if_neg d, c_hasPlace hz ok hi hy, bd_e]
      by_cases e : 0 ≤ y ∧ y < (st_z s).1 i
      · have r := ok i hi
        obtain ⟨j, ej⟩ : ∃ j : Nat, y = j := ⟨y.toNat, by omega⟩
        subst ej
        rw [if_neg (by rw [bI_zero]; exact fun z => z e), if_pos e, if_pos rfl, c_at hz ok hi e.2, bd_e, c_bitCountX, bd_e]
        exact ⟨h, rfl, q⟩
      · rw [if_pos (by rw [bI_zero]; exact e), if_neg e, if_neg (by omega)]
        exact ⟨h, rfl, q⟩
  · rw [if_pos (by rw [bI_zero]; exact c), if_neg c, if_neg (by omega)]
    exact ⟨h, rfl, q⟩
theorem C_latest {h : Hp} {s : Sta} (q : JC h s) : F_X11_latest h = some ((st_z s).2.2, h) := by
  unfold F_X11_latest
  rw [q.2.2.2.2.2.1.2.2]
/-- what stands in the way of strip x -/
def sx_no (z : StZ) (x : Int) : Int := if 0 ≤ x ∧ x < 3 then (if z.1 x.toNat = -1 then -11 else 0) else -2
def A_drop (s : Sta) (x : Int) : Int := if sx_no (st_z s) x = 0 then (st_z s).1 x.toNat else sx_no (st_z s) x
def Z_drop (z : StZ) (i : Nat) : StZ := (fun a => if a = i then -1 else z.1 a, z.2.1, z.2.2)
def N_drop (s : Sta) (x : Int) : Sta := if sx_no (st_z s) x = 0 then N_z s (Z_drop (st_z s) x.toNat) else s
theorem C_drop {h : Hp} {s : Sta} (q : JC h s) {x : Int} (hx : -2147483648 ≤ x ∧ x < 2147483648) : ∃ h', F_X11_drop (iI x) h = some (iI (A_drop s x), h') ∧ JC h' (N_drop s x) := by
  have ok : sz_ok (st_z s) := q.1.2.2.2.2
  have hz := q.2.2.2.2.2.1
  unfold F_X11_drop A_drop N_drop sx_no
  rw [c_has hx, bd_e]
  by_cases c : 0 ≤ x ∧ x < 3
  · obtain ⟨i, ei, hi⟩ := rg_of hx (n := 3) c
    subst ei
    have r := ok i hi
    rw [if_neg (by rw [bI_zero]; exact fun z => z c), if_pos c, c_isMissing hz ok hi, bd_e, Int.toNat_natCast]
    by_cases d : (st_z s).1 i = -1
    · rw [if_neg (by rw [bI_zero]; exact fun z => z d), if_pos d, if_neg (by omega), if_neg (by omega)]
      exact ⟨h, rfl, q⟩
    · rw [if_pos (by rw [bI_zero]; exact d), if_neg d, if_pos rfl, if_pos rfl]
      have e1 : F_X8_remove (iI i) h = some (iI ((st_z s).1 i), aS h 115 i (-1)) := by
        unfold F_X8_remove
        simp (maxSteps := 3000000) (implicitDefEqProofs := false) (disch := omega) only [jl_e, jn_e, bd_e, gd_t, iI_add, iI_sub, iI_mul, iI_neg, if_true, if_false, not_true_eq_false, not_false_eq_true, Int.reduceEq, Nat.add_zero, Int.toNat_natCast, iI_cl, iI_lt, iI_eq, gd_in, bI_eq0, bI_eq1, bI_isB, isB_0, isB_1, il_0, il_1, il_2, il_3, il_4, il_5, il_6, il_7, il_8, il_9, il_10, il_12, il_16, il_18, il_24, il_27, il_30, il_31, il_32, il_40, il_47, il_48, il_49, il_55, il_56, il_57, il_59, il_63, il_64, il_96, il_97, il_98, il_99, il_101, il_103, il_104, il_105, il_108, il_109, il_110, il_111, il_112, il_114, il_115, il_116, il_117, il_119, il_122, il_127, il_128, il_200, il_225, il_255, il_256, il_999, il_1575, il_9999, il_65536, il_252645135, il_858993459, il_1431655765, c_sizeOf hz hi, c_has hx]
        rw [if_neg (by omega)]
      have f := fr_X8_remove _ _ _ _ e1
      rw [e1, bd_e]
      refine ⟨_, rfl, q.z f (by decide) (by decide) ⟨fun a ha => ?_, fun a b ha hb hj => ?_, ?_⟩ ?_⟩
      · show aG _ 115 a = iI (if a = i then -1 else (st_z s).1 a)
        by_cases u : a = i
        · rw [if_pos u, u, aG_aS_s]; rfl
        · rw [if_neg u, aG_aS_j (by omega)]
          exact hz.1 a ha
      · have hj' : (b : Int) < (if a = i then -1 else (st_z s).1 a) := hj
        rw [lG_aS]
        refine hz.2.1 a b ha hb ?_
        by_cases u : a = i
        · rw [if_pos u] at hj'; omega
        · rwa [if_neg u] at hj'
      · rw [tG_aS]
        exact hz.2.2
      · intro a ha
        have := ok a ha
        show -1 ≤ (if a = i then (-1 : Int) else (st_z s).1 a) ∧ (if a = i then (-1 : Int) else (st_z s).1 a) ≤ 8
        split <;> omega
  · rw [if_pos (by rw [bI_zero]; exact c), if_neg c, if_neg (by omega), if_neg (by omega)]
    exact ⟨h, rfl, q⟩
