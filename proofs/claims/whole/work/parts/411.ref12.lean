-- ===== the reference's state stands for a value =====
def TxM (h : Hp) (T : List Nat) : Prop := sG h 7489 = iI T.length ∧ ∀ i, i < T.length → aG h 118 i = iI (T.getD i 0)
def HiM (h : Hp) (H : List (List Pc)) : Prop := sG h 7510 = iI H.length ∧ ∀ i, i < H.length → PmC 126 (225 * i) h (H.getD i [])
def KpM (h : Hp) (K : Nat → Option (List Pc)) : Prop := ∀ k, k < 2 → (K k = none → aG h 128 k = iI 0) ∧ (∀ L, K k = some L → aG h 128 k = iI 1 ∧ PmC 127 (225 * k) h L)
def StM (h : Hp) (z : StZ) : Prop := (∀ i, i < 3 → aG h 138 i = iI (z.1 i)) ∧ (∀ i j : Nat, i < 3 → j < 8 → (j : Int) < z.1 i → lG h 139 (8 * i + j) = z.2.1 i j) ∧ tG h 7526 = z.2.2
def JM (h : Hp) (s : Sta) : Prop := st_ok s ∧ TxM h (st_t s) ∧ AmC h (st_a s) ∧ HiM h (st_h s) ∧ KpM h (st_k s) ∧ StM h (st_z s)
theorem TxM.fr {h h' : Hp} {T : List Nat} {S A : List Nat} (q : TxM h T) (f : FrX S A h h') (n0 : 7489 ∉ S) (n1 : 118 ∉ A) : TxM h' T := ⟨(f.sg n0).trans q.1, fun i hi => (f.ag n1 i).trans (q.2 i hi)⟩
theorem HiM.fr {h h' : Hp} {H : List (List Pc)} {S A : List Nat} (q : HiM h H) (f : FrX S A h h') (n0 : 7510 ∉ S) (n1 : 126 ∉ A) : HiM h' H := ⟨(f.sg n0).trans q.1, fun i hi => (q.2 i hi).fr f n1⟩
theorem KpM.fr {h h' : Hp} {K : Nat → Option (List Pc)} {S A : List Nat} (q : KpM h K) (f : FrX S A h h') (n0 : 127 ∉ A) (n1 : 128 ∉ A) : KpM h' K := fun k hk => ⟨fun e => (f.ag n1 k).trans ((q k hk).1 e), fun L e => ⟨(f.ag n1 k).trans ((q k hk).2 L e).1, ((q k hk).2 L e).2.fr f n0⟩⟩
theorem StM.fr {h h' : Hp} {z : StZ} {S A : List Nat} (q : StM h z) (f : FrX S A h h') (n0 : 7526 ∉ S) (n1 : 138 ∉ A) (n2 : 139 ∉ A) : StM h' z :=
  ⟨fun i hi => (f.ag n1 i).trans (q.1 i hi), fun i j hi hj hz => (f.lg n2 _).trans (q.2.1 i j hi hj hz), (f.tg n0).trans q.2.2⟩
def scS : List Nat := [7490, 7491, 7492, 7493, 7494, 7495, 7497, 7498, 7522, 7527]
def scA : List Nat := [119, 120, 121, 125, 129, 130, 131, 132, 133, 134, 135, 136, 137]
/-- only what is worked out in passing has become other, and the album is known to be as it was -/
theorem JM.al {h h' : Hp} {s : Sta} {S A : List Nat} (q : JM h s) (f : FrX S A h h') (n0 : ∀ v, v ∈ S → v ∈ scS) (n1 : ∀ k, k ∈ A → k = 124 ∨ k ∈ scA) (qa : AmC h' (st_a s)) : JM h' s := by
  have s0 : ∀ v, v ∉ scS → v ∉ S := fun v hv z => hv (n0 v z)
  have a0 : ∀ v, v ≠ 124 → v ∉ scA → v ∉ A := fun v h1 hv z => (n1 v z).elim h1 hv
  obtain ⟨q0, q1, q2, q3, q4, q5⟩ := q
  exact ⟨q0, q1.fr f (s0 _ (by decide)) (a0 _ (by decide) (by decide)), qa, q3.fr f (s0 _ (by decide)) (a0 _ (by decide) (by decide)), q4.fr f (a0 _ (by decide) (by decide)) (a0 _ (by decide) (by decide)), q5.fr f (s0 _ (by decide)) (a0 _ (by decide) (by decide)) (a0 _ (by decide) (by decide))⟩
theorem JM.sc {h h' : Hp} {s : Sta} {S A : List Nat} (q : JM h s) (f : FrX S A h h') (n0 : ∀ v, v ∈ S → v ∈ scS) (n1 : ∀ k, k ∈ A → k ∈ scA) : JM h' s := by
  refine q.al f n0 (fun k z => Or.inr (n1 k z)) (q.2.2.1.fr f (fun v z => ?_) (fun k z => ?_))
  · have h1 : ∀ v ∈ scS, v < 7501 ∨ 7507 ≤ v := by decide
    exact h1 v (n0 v z)
  · have h1 : ∀ v ∈ scA, v < 122 ∨ 125 ≤ v := by decide
    exact h1 k (n1 k z)
/-- what the class writes is none of it -/
theorem JM.cls {h h' : Hp} {s : Sta} {S A : List Nat} (q : JM h s) (f : FrX S A h h') (n0 : ∀ v, v ∈ S → v < 7488) (n1 : ∀ k, k ∈ A → k < 118) : JM h' s := by
  have s0 : ∀ v, 7488 ≤ v → v ∉ S := fun v hv z => by have := n0 v z; omega
  have a0 : ∀ v, 118 ≤ v → v ∉ A := fun v hv z => by have := n1 v z; omega
  obtain ⟨q0, q1, q2, q3, q4, q5⟩ := q
  exact ⟨q0, q1.fr f (s0 _ (by omega)) (a0 _ (by omega)), q2.fr f (fun v z => by have := n0 v z; omega) (fun k z => by have := n1 k z; omega), q3.fr f (s0 _ (by omega)) (a0 _ (by omega)), q4.fr f (a0 _ (by omega)) (a0 _ (by omega)), q5.fr f (s0 _ (by omega)) (a0 _ (by omega)) (a0 _ (by omega))⟩
/-- nor does the reference write what is the class's -/
theorem JC.ref {h h' : Hp} {s : Sta} {S A : List Nat} (q : JC h s) (f : FrX S A h h') (n0 : ∀ v, v ∈ S → 7488 ≤ v) (n1 : ∀ k, k ∈ A → 118 ≤ k) : JC h' s := by
  have s0 : ∀ v, v < 7488 → v ∉ S := fun v hv z => by have := n0 v z; omega
  have a0 : ∀ v, v < 118 → v ∉ A := fun v hv z => by have := n1 v z; omega
  obtain ⟨q0, q1, q2, q3, q4, q5, q6⟩ := q
  exact ⟨q0, q1.fr f (s0 _ (by omega)) (a0 _ (by omega)), q2.fr f (fun v z => by have := n0 v z; omega) (fun k z => by have := n1 k z; omega), q3.fr f (fun v z => by have := n0 v z; omega) (fun k z => by have := n1 k z; omega), q4.fr f (fun v z => by have := n0 v z; omega) (fun k z => by have := n1 k z; omega), q5.fr f (s0 _ (by omega)) (a0 _ (by omega)) (a0 _ (by omega)), q6.fr f (fun v z => by have := n0 v z; omega) (fun k z => by have := n1 k z; omega)⟩
-- ===== the reference's text =====
theorem M_write {h : Hp} {s : Sta} (q : JM h s) {c : Int} (hc : -2147483648 ≤ c ∧ c < 2147483648) : ∃ h', F_X12_write (iI c) h = some (iI (A_write s c), h') ∧ JM h' (N_write s c) := by
  obtain ⟨q0, q1, q2, q3, q4, q5⟩ := q
  have hl := q0.1.1
  unfold F_X12_write A_write N_write
  simp (maxSteps := 3000000) (implicitDefEqProofs := false) (disch := omega) only [jl_e, jn_e, bd_e, gd_t, iI_add, iI_sub, iI_mul, iI_neg, if_true, if_false, not_true_eq_false, not_false_eq_true, Int.reduceEq, Nat.add_zero, Int.toNat_natCast, iI_cl, iI_lt, iI_eq, gd_in, bI_eq0, bI_eq1, bI_isB, isB_0, isB_1, il_0, il_1, il_2, il_3, il_4, il_5, il_6, il_7, il_8, il_9, il_10, il_12, il_16, il_18, il_24, il_27, il_30, il_31, il_32, il_40, il_47, il_48, il_49, il_55, il_56, il_57, il_59, il_63, il_64, il_96, il_97, il_98, il_99, il_101, il_103, il_104, il_105, il_108, il_109, il_110, il_111, il_112, il_114, il_115, il_116, il_117, il_119, il_122, il_127, il_128, il_200, il_225, il_255, il_256, il_999, il_1575, il_9999, il_65536, il_252645135, il_858993459, il_1431655765, m_within hc, q1.1]
  by_cases c1 : 0 ≤ c ∧ c ≤ 255
  · rw [if_neg (fun z => z c1), if_neg (show ¬ (c < 0 ∨ 255 < c) by omega)]
    by_cases c2 : (st_t s).length < 200
    · rw [if_neg (by omega), if_pos c2, if_pos ⟨c1, c2⟩]
      (try simp (maxSteps := 3000000) (implicitDefEqProofs := false) (disch := omega) only [jl_e, jn_e, bd_e, gd_t, iI_add, iI_sub, iI_mul, iI_neg, if_true, if_false, not_true_eq_false, not_false_eq_true, Int.reduceEq, Nat.add_zero, Int.toNat_natCast, iI_cl, iI_lt, iI_eq, gd_in, bI_eq0, bI_eq1, bI_isB, isB_0, isB_1, il_0, il_1, il_2, il_3, il_4, il_5, il_6, il_7, il_8, il_9, il_10, il_12, il_16, il_18, il_24, il_27, il_30, il_31, il_32, il_40, il_47, il_48, il_49, il_55, il_56, il_57, il_59, il_63, il_64, il_96, il_97, il_98, il_99, il_101, il_103, il_104, il_105, il_108, il_109, il_110, il_111, il_112, il_114, il_115, il_116, il_117, il_119, il_122, il_127, il_128, il_200, il_225, il_255, il_256, il_999, il_1575, il_9999, il_65536, il_252645135, il_858993459, il_1431655765, aG_aS_s, aG_aS_j, aG_aS_k, aG_aV_s, aG_aV_k, aG_sS, aG_lS, aG_lV, aG_tS, aG_oS, sG_aS, sG_lS, sG_aV, sG_lV, sG_tS, sG_oS, sG_sS_s, sG_sS_n, lG_lS_s, lG_lS_j, lG_lS_k, lG_lV_s, lG_lV_k, lG_sS, lG_aS, lG_aV, lG_tS, lG_oS, tG_sS, tG_aS, tG_aV, tG_lS, tG_lV, tG_tS_s, tG_tS_n, oG_sS, oG_aS, oG_aV, oG_lS, oG_lV, oG_oS_s, q1.1])
      have f : FrX [7489] [118] h (sS (aS h 118 (st_t s).length (iI c)) 7489 (iI (((st_t s).length : Int) + 1))) := ((FrX.refl _ _ h).aS (by decide) _ _).sS (by decide) _
      refine ⟨_, rfl, ⟨⟨?_, fun i hi => ?_⟩, q0.2⟩, ⟨?_, fun i hi => ?_⟩, q2.fr f (by decide) (by decide), q3.fr f (by decide) (by decide), q4.fr f (by decide) (by decide), q5.fr f (by decide) (by decide) (by decide)⟩
      · show ((st_t s) ++ [c.toNat]).length ≤ 200
        rw [List.length_append, List.length_singleton]
        omega
      · show ((st_t s) ++ [c.toNat]).getD i 0 ≤ 255
        have hi : i < ((st_t s) ++ [c.toNat]).length := hi
        rw [List.length_append, List.length_singleton] at hi
        rw [getD_snoc]
        by_cases e : i < (st_t s).length
        · rw [if_pos e]; exact q0.1.2 i e
        · rw [if_neg e, if_pos (by omega)]; omega
      · show sG _ 7489 = iI ((st_t s) ++ [c.toNat]).length
        rw [sG_sS_s, List.length_append, List.length_singleton]
        exact iI_cg (by omega)
      · show aG _ 118 i = iI (((st_t s) ++ [c.toNat]).getD i 0)
        have hi : i < ((st_t s) ++ [c.toNat]).length := hi
        rw [List.length_append, List.length_singleton] at hi
        rw [getD_snoc, aG_sS]
        by_cases e : i < (st_t s).length
        · rw [if_pos e, aG_aS_j (by omega)]; exact q1.2 i e
        · rw [if_neg e, if_pos (by omega), show i = (st_t s).length by omega, aG_aS_s]
          exact iI_cg (by omega)
    · rw [if_pos (by omega), if_neg c2, if_neg (fun z => c2 z.2)]
      exact ⟨h, rfl, q0, q1, q2, q3, q4, q5⟩
  · rw [if_pos c1, if_pos (show c < 0 ∨ 255 < c by omega), if_neg (fun z => c1 z.1)]
    exact ⟨h, rfl, q0, q1, q2, q3, q4, q5⟩
theorem M_erase {h : Hp} {s : Sta} (q : JM h s) : ∃ h', F_X12_erase h = some (iI (A_erase s), h') ∧ JM h' (N_t s []) := by
  obtain ⟨q0, q1, q2, q3, q4, q5⟩ := q
  unfold F_X12_erase A_erase
  rw [jl_e, jl_e, q1.1]
  have f : FrX [7489] [] h (sS h 7489 0) := (FrX.refl _ _ h).sS (by decide) _
  exact ⟨_, rfl, ⟨⟨Nat.zero_le _, fun i hi => absurd hi (Nat.not_lt_zero i)⟩, q0.2⟩, ⟨rfl, fun i hi => absurd hi (Nat.not_lt_zero i)⟩, q2.fr f (by decide) (by decide), q3.fr f (by decide) (by decide), q4.fr f (by decide) (by decide), q5.fr f (by decide) (by decide) (by decide)⟩
/-- the kind of a letter as the reference says it -/
def tk_m (c : Nat) : Nat := if 97 ≤ c ∧ c ≤ 122 then 1 else if 48 ≤ c ∧ c ≤ 57 then 2 else 0
theorem m_kindOf {c : Nat} (hc : c ≤ 255) (h : Hp) : F_X12_kindOf (iI c) h = some (iI (tk_m c), h) := by
  unfold F_X12_kindOf tk_m
  simp (maxSteps := 3000000) (implicitDefEqProofs := false) (disch := omega) only [jl_e, jn_e, bd_e, gd_t, iI_add, iI_sub, iI_mul, iI_neg, if_true, if_false, not_true_eq_false, not_false_eq_true, Int.reduceEq, Nat.add_zero, Int.toNat_natCast, iI_cl, iI_lt, iI_eq, gd_in, bI_eq0, bI_eq1, bI_isB, isB_0, isB_1, il_0, il_1, il_2, il_3, il_4, il_5, il_6, il_7, il_8, il_9, il_10, il_12, il_16, il_18, il_24, il_27, il_30, il_31, il_32, il_40, il_47, il_48, il_49, il_55, il_56, il_57, il_59, il_63, il_64, il_96, il_97, il_98, il_99, il_101, il_103, il_104, il_105, il_108, il_109, il_110, il_111, il_112, il_114, il_115, il_116, il_117, il_119, il_122, il_127, il_128, il_200, il_225, il_255, il_256, il_999, il_1575, il_9999, il_65536, il_252645135, il_858993459, il_1431655765, m_within (show -2147483648 ≤ (c : Int) ∧ (c : Int) < 2147483648 by omega)]
  by_cases c1 : 97 ≤ c ∧ c ≤ 122
  · rw [if_neg (by omega), if_pos c1]
    rfl
  · rw [if_pos (by omega), if_neg c1]
    by_cases c2 : 48 ≤ c ∧ c ≤ 57
    · rw [if_neg (by omega), if_pos c2]
      rfl
    · rw [if_pos (by omega), if_neg c2]
      rfl
def lt_b (l : List Nat) : Bool := l.all (fun c => decide (97 ≤ c) && decide (c ≤ 122))
theorem wo_lt {l : List Nat} : wo_ok l ↔ lt_b l = true ∧ 1 ≤ l.length ∧ l.length ≤ 5 := by
  unfold wo_ok lt_b
  rw [List.all_eq_true]
  constructor
  · rintro ⟨h1, h2, h3⟩
    exact ⟨fun c hc => by have := h3 c hc; simp [this.1, this.2], h1, h2⟩
  · rintro ⟨h1, h2, h3⟩
    exact ⟨h2, h3, fun c hc => by have := h1 c hc; simpa using this⟩
theorem w27_lt {l : List Nat} (h : ∀ c ∈ l, 97 ≤ c ∧ c ≤ 122) (hl : l.length ≤ 5) : w27 l < 14348907 := by
  have h1 := (wx_rng (b := 27) (Nat.le_refl _) l.length l rfl h).1
  have h2 : 27 ^ l.length ≤ 27 ^ 5 := Nat.pow_le_pow_right (by decide) hl
  exact Nat.lt_of_lt_of_le h1 h2
theorem lt_snoc (l : List Nat) (c : Nat) : lt_b (l ++ [c]) = (lt_b l && (decide (97 ≤ c) && decide (c ≤ 122))) := by
  unfold lt_b
  rw [List.all_append, List.all_cons, List.all_nil, Bool.and_true]
theorem lt_p {l : List Nat} (h : lt_b l = true) : ∀ c ∈ l, 97 ≤ c ∧ c ≤ 122 := by
  intro c hc
  have := (List.all_eq_true.1 h) c hc
  simpa using this
theorem M_find {h : Hp} {s : Sta} (q : JM h s) : ∃ h', F_X12_find h = some (iI (A_find s), h') ∧ JM h' s := by
  have q' := q
  obtain ⟨q0, q1, q2, q3, q4, q5⟩ := q
  have hl := q0.1.1
  have h7 := q2.1.2.1
  suffices w : F_X12_find h = some (iI (A_find s), h) from ⟨h, w, q'⟩
  unfold F_X12_find
  refine lp_up (α := Int32 → Int32 → Int32 → Int32 → Hp → Option (Int32 × Hp)) (P := fun k c => ∀ v1 v2 v3, v2 = iI ((tx_w ((st_t s).take k)).length : Int) → v3 = bI (lt_b (tx_w ((st_t s).take k)) = true) → (lt_b (tx_w ((st_t s).take k)) = true → (tx_w ((st_t s).take k)).length ≤ 5 → v1 = iI (w27 (tx_w ((st_t s).take k)) : Int)) → c v1 v2 v3 (iI k) h = some (iI (A_find s), h)) (st_t s).length (by omega) (fun k c hk ih v1 v2 v3 hv2 hv3 hv1 => ?_) _ _ _ (by rw [List.take_zero]; rfl) (by rw [List.take_zero]; rfl) (fun _ _ => by rw [List.take_zero]; rfl)
  have wl : (tx_w ((st_t s).take k)).length ≤ k := by
    have h1 : (tx_w ((st_t s).take k)).length ≤ ((st_t s).take k).length := List.length_filter_le ..
    rw [List.length_take] at h1
    omega
  subst hv2 hv3
  by_cases z : k < (st_t s).length
  · have ih := ih z
    have ek := q1.2 k z
    have b255 := q0.1.2 k z
    rw [tx_snoc z] at ih
    generalize hW : tx_w ((st_t s).take k) = W at *
    generalize hx : (st_t s).getD k 0 = x at *
    simp (maxSteps := 3000000) (implicitDefEqProofs := false) (disch := omega) only [jl_e, jn_e, bd_e, gd_t, iI_add, iI_sub, iI_mul, iI_neg, if_true, if_false, not_true_eq_false, not_false_eq_true, Int.reduceEq, Nat.add_zero, Int.toNat_natCast, iI_cl, iI_lt, iI_eq, gd_in, bI_eq0, bI_eq1, bI_isB, isB_0, isB_1, il_0, il_1, il_2, il_3, il_4, il_5, il_6, il_7, il_8, il_9, il_10, il_12, il_16, il_18, il_24, il_27, il_30, il_31, il_32, il_40, il_47, il_48, il_49, il_55, il_56, il_57, il_59, il_63, il_64, il_96, il_97, il_98, il_99, il_101, il_103, il_104, il_105, il_108, il_109, il_110, il_111, il_112, il_114, il_115, il_116, il_117, il_119, il_122, il_127, il_128, il_200, il_225, il_255, il_256, il_999, il_1575, il_9999, il_65536, il_252645135, il_858993459, il_1431655765, q1.1, ek, m_kindOf b255]
    rw [if_pos (by omega)]
    by_cases e32 : x = 32
    · rw [if_pos (by omega)]
      rw [if_pos e32, List.append_nil] at ih
      exact ih _ _ _ rfl rfl hv1
    · rw [if_neg (by omega)]
      rw [if_neg e32] at ih
      have ln : (W ++ [x]).length = W.length + 1 := by rw [List.length_append]; rfl
      have km : (iI (tk_m x : Int) = iI 1) = (97 ≤ x ∧ x ≤ 122) := by
        unfold tk_m
        by_cases c1 : 97 ≤ x ∧ x ≤ 122
        · rw [if_pos c1]; exact propext ⟨fun _ => c1, fun _ => rfl⟩
        · rw [if_neg c1]
          by_cases c2 : 48 ≤ x ∧ x ≤ 57
          · rw [if_pos c2]; exact propext ⟨fun z => absurd z (by decide), fun z => absurd z c1⟩
          · rw [if_neg c2]; exact propext ⟨fun z => absurd z (by decide), fun z => absurd z c1⟩
      have V3 : ∀ v, v = bI (lt_b W = true ∧ 97 ≤ x ∧ x ≤ 122) → v = bI (lt_b (W ++ [x]) = true) := fun v hv => by
        rw [hv]
        refine bI_iff ?_
        rw [lt_snoc, Bool.and_eq_true, Bool.and_eq_true, decide_eq_true_iff, decide_eq_true_iff]
      have V1 : ∀ v, (W.length < 5 → v = iI (27 : Int) * v1 + iI (x : Int) - iI 96) → lt_b (W ++ [x]) = true → (W ++ [x]).length ≤ 5 → v = iI (w27 (W ++ [x]) : Int) := fun v hv g1 g2 => by
        rw [lt_snoc, Bool.and_eq_true] at g1
        rw [ln] at g2
        have hx2 : 97 ≤ x ∧ x ≤ 122 := by simpa using g1.2
        have e1 := hv1 g1.1 (by omega)
        have lt := w27_lt (lt_p g1.1) (by omega)
        rw [hv (by omega), e1, iI_mul, iI_add, iI_sub]
        unfold w27
        rw [wx_snoc]
        exact iI_cg (by omega)
      by_cases c1 : lt_b W = true
      · rw [if_neg (fun u => u c1)]
        by_cases c2 : 97 ≤ x ∧ x ≤ 122
        · rw [if_pos (km ▸ c2)]
          by_cases c3 : W.length < 5
          · rw [if_pos (by omega)]
            refine ih _ _ _ (by rw [ln]; exact iI_cg (by omega)) (V3 _ (bI_t ⟨c1, c2⟩).symm) (V1 _ (fun _ => ?_))
            first | rfl | (rw [← iI_add, ← iI_sub])
          · rw [if_neg (by omega)]
            exact ih _ _ _ (by rw [ln]; exact iI_cg (by omega)) (V3 _ (bI_t ⟨c1, c2⟩).symm) (V1 _ (fun w => absurd w c3))
        · rw [if_neg (fun w => c2 (km ▸ w))]
          have nb : ¬ (lt_b W = true ∧ 97 ≤ x ∧ x ≤ 122) := fun w => c2 w.2
          have bad : ∀ v, lt_b (W ++ [x]) = true → (W ++ [x]).length ≤ 5 → v = iI (w27 (W ++ [x]) : Int) := fun v g1 _ => by
            rw [lt_snoc, Bool.and_eq_true] at g1
            exact absurd (show 97 ≤ x ∧ x ≤ 122 by simpa using g1.2) c2
          by_cases c3 : W.length < 5
          · rw [if_pos (by omega)]
            exact ih _ _ _ (by rw [ln]; exact iI_cg (by omega)) (V3 _ (bI_f nb).symm) (bad _)
          · rw [if_neg (by omega)]
            exact ih _ _ _ (by rw [ln]; exact iI_cg (by omega)) (V3 _ (bI_f nb).symm) (bad _)
      · rw [if_pos c1]
        have nb : ¬ (lt_b W = true ∧ 97 ≤ x ∧ x ≤ 122) := fun w => c1 w.1
        have bad : ∀ v, lt_b (W ++ [x]) = true → (W ++ [x]).length ≤ 5 → v = iI (w27 (W ++ [x]) : Int) := fun v g1 _ => by
          rw [lt_snoc, Bool.and_eq_true] at g1
          exact absurd g1.1 c1
        by_cases c3 : W.length < 5
        · rw [if_pos (by omega)]
          exact ih _ _ _ (by rw [ln]; exact iI_cg (by omega)) (V3 _ (bI_f nb).symm) (bad _)
        · rw [if_neg (by omega)]
          exact ih _ _ _ (by rw [ln]; exact iI_cg (by omega)) (V3 _ (bI_f nb).symm) (bad _)
  · have ek : k = (st_t s).length := by omega
    subst ek
    clear ih
    rw [List.take_length] at *
    simp (maxSteps := 3000000) (implicitDefEqProofs := false) (disch := omega) only [jl_e, jn_e, bd_e, gd_t, iI_add, iI_sub, iI_mul, iI_neg, if_true, if_false, not_true_eq_false, not_false_eq_true, Int.reduceEq, Nat.add_zero, Int.toNat_natCast, iI_cl, iI_lt, iI_eq, gd_in, bI_eq0, bI_eq1, bI_isB, isB_0, isB_1, il_0, il_1, il_2, il_3, il_4, il_5, il_6, il_7, il_8, il_9, il_10, il_12, il_16, il_18, il_24, il_27, il_30, il_31, il_32, il_40, il_47, il_48, il_49, il_55, il_56, il_57, il_59, il_63, il_64, il_96, il_97, il_98, il_99, il_101, il_103, il_104, il_105, il_108, il_109, il_110, il_111, il_112, il_114, il_115, il_116, il_117, il_119, il_122, il_127, il_128, il_200, il_225, il_255, il_256, il_999, il_1575, il_9999, il_65536, il_252645135, il_858993459, il_1431655765, q1.1]
    rw [if_neg (by omega)]
    unfold A_find
    generalize tx_w (st_t s) = W at *
    have wb : wo_b W = true ↔ (lt_b W = true ∧ 1 ≤ W.length ∧ W.length ≤ 5) := by rw [wo_p, wo_lt]
    refine lp_up (α := Int32 → Hp → Option (Int32 × Hp)) (P := fun k c => (∀ i, i < k → (al_w (st_a s)).getD i [] ≠ W) → c (iI k) h = some (iI (if wo_b W = true then (if (al_w (st_a s)).findIdx (fun x => x == W) < (al_w (st_a s)).length then ((al_w (st_a s)).findIdx (fun x => x == W) : Int) else -1) else -1), h)) (al_w (st_a s)).length (by omega) (fun k c hk ih => ?_) (fun i hi => absurd hi (Nat.not_lt_zero i))
    intro hno
    by_cases z : k < (al_w (st_a s)).length
    · have ih := ih z
      have ew := q2.2.2.2.2.1 k z
      have rk := w27_rng (q2.1.2.2.2.1 k z)
      simp (maxSteps := 3000000) (implicitDefEqProofs := false) (disch := omega) only [jl_e, jn_e, bd_e, gd_t, iI_add, iI_sub, iI_mul, iI_neg, if_true, if_false, not_true_eq_false, not_false_eq_true, Int.reduceEq, Nat.add_zero, Int.toNat_natCast, iI_cl, iI_lt, iI_eq, gd_in, bI_eq0, bI_eq1, bI_isB, isB_0, isB_1, il_0, il_1, il_2, il_3, il_4, il_5, il_6, il_7, il_8, il_9, il_10, il_12, il_16, il_18, il_24, il_27, il_30, il_31, il_32, il_40, il_47, il_48, il_49, il_55, il_56, il_57, il_59, il_63, il_64, il_96, il_97, il_98, il_99, il_101, il_103, il_104, il_105, il_108, il_109, il_110, il_111, il_112, il_114, il_115, il_116, il_117, il_119, il_122, il_127, il_128, il_200, il_225, il_255, il_256, il_999, il_1575, il_9999, il_65536, il_252645135, il_858993459, il_1431655765, q2.np, m_within (show -2147483648 ≤ (W.length : Int) ∧ (W.length : Int) < 2147483648 by omega), ew]
      rw [if_pos (by omega)]
      by_cases c1 : lt_b W = true
      · rw [if_neg (fun u => u c1)]
        by_cases c2 : 1 ≤ W.length ∧ W.length ≤ 5
        · have w1 := hv1 c1 c2.2
          have wW : wo_ok W := wo_lt.2 ⟨c1, c2⟩
          have lt := w27_rng wW
          rw [if_neg (by omega), if_pos (wb.2 ⟨c1, c2⟩), w1]
          rw [if_pos (wb.2 ⟨c1, c2⟩)] at ih
          have eg : (al_w (st_a s)).getD k [] = (al_w (st_a s))[k] := by
            rw [List.getD_eq_getElem?_getD, List.getElem?_eq_getElem z]
            rfl
          have heq : (iI (w27 ((al_w (st_a s)).getD k []) : Int) = iI (w27 W : Int)) = ((al_w (st_a s)).getD k [] = W) := by
            rw [iI_eq (by omega) (by omega) (by omega) (by omega)]
            apply propext
            rw [← wx_eq (b := 27) (by omega) (q2.1.2.2.2.1 k z) wW]
            unfold w27
            omega
          by_cases y : (al_w (st_a s)).getD k [] = W
          · rw [if_pos (heq ▸ y)]
            have e1 : (al_w (st_a s)).findIdx (fun x => x == W) = k := by
              rw [List.findIdx_eq z]
              refine ⟨by rw [← eg, y]; simp, fun j hj => ?_⟩
              have := hno j hj
              rw [List.getD_eq_getElem?_getD, List.getElem?_eq_getElem (by omega)] at this
              simpa using this
            rw [e1, if_pos z]
          · rw [if_neg (fun u => y (heq ▸ u))]
            exact ih (fun i hi => by
              by_cases x : i = k
              · subst x; exact y
              · exact hno i (by omega))
        · rw [if_pos (by omega), if_neg (fun u => c2 (wb.1 u).2)]
      · rw [if_pos c1, if_neg (fun u => c1 (wb.1 u).1)]
    · simp (maxSteps := 3000000) (implicitDefEqProofs := false) (disch := omega) only [jl_e, jn_e, bd_e, gd_t, iI_add, iI_sub, iI_mul, iI_neg, if_true, if_false, not_true_eq_false, not_false_eq_true, Int.reduceEq, Nat.add_zero, Int.toNat_natCast, iI_cl, iI_lt, iI_eq, gd_in, bI_eq0, bI_eq1, bI_isB, isB_0, isB_1, il_0, il_1, il_2, il_3, il_4, il_5, il_6, il_7, il_8, il_9, il_10, il_12, il_16, il_18, il_24, il_27, il_30, il_31, il_32, il_40, il_47, il_48, il_49, il_55, il_56, il_57, il_59, il_63, il_64, il_96, il_97, il_98, il_99, il_101, il_103, il_104, il_105, il_108, il_109, il_110, il_111, il_112, il_114, il_115, il_116, il_117, il_119, il_122, il_127, il_128, il_200, il_225, il_255, il_256, il_999, il_1575, il_9999, il_65536, il_252645135, il_858993459, il_1431655765, q2.np]
      rw [if_neg (by omega)]
      have e1 : ¬ (al_w (st_a s)).findIdx (fun x => x == W) < (al_w (st_a s)).length := by
        intro x
        have hg := List.findIdx_getElem (p := fun x => x == W) (xs := al_w (st_a s)) (w := x)
        have := hno _ (show (al_w (st_a s)).findIdx (fun x => x == W) < k by omega)
        rw [List.getD_eq_getElem?_getD, List.getElem?_eq_getElem x] at this
        exact this (by simpa using hg)
      rw [if_neg e1]
      split <;> rfl
