-- ===== the class's text =====
def N_t (s : Sta) (T : List Nat) : Sta := (T, st_a s, st_h s, st_k s, st_z s)
theorem JC.t {h h' : Hp} {s : Sta} {T : List Nat} {S A : List Nat} (q : JC h s) (f : FrX S A h h') (n0 : ∀ v, v ∈ S → v = 64) (n1 : ∀ k, k ∈ A → k = 2) (hT : TxC h' T) (ok : T.length ≤ 200 ∧ ∀ i, i < T.length → T.getD i 0 ≤ 255) : JC h' (N_t s T) := by
  obtain ⟨q0, q1, q2, q3, q4, q5, q6⟩ := q
  refine ⟨⟨ok, q0.2.1, q0.2.2.1, q0.2.2.2.1, q0.2.2.2.2⟩, hT, ?_, ?_, ?_, ⟨fun i hi => ?_, fun i a hi ha hb => ?_, ?_⟩, ?_⟩
  · exact q2.fr f (fun v z => by have := n0 _ z; omega) (fun k z => by have := n1 _ z; omega)
  · exact q3.fr f (fun v z => by have := n0 _ z; omega) (fun k z => by have := n1 _ z; omega)
  · exact q4.fr f (fun v z => by have := n0 _ z; omega) (fun k z => by have := n1 _ z; omega)
  · exact (f.ag (fun z => by have := n1 _ z; omega) i).trans (q5.1 i hi)
  · exact (f.lg (fun z => by have := n1 _ z; omega) _).trans (q5.2.1 i a hi ha hb)
  · exact (f.tg (fun z => by have := n0 _ z; omega)).trans q5.2.2
  · exact q6.fr f (fun v z => by have := n0 _ z; omega) (fun k z => by have := n1 _ z; omega)
def A_write (s : Sta) (c : Int) : Int := if c < 0 ∨ 255 < c then -3 else if (st_t s).length < 200 then (((st_t s).length + 1 : Nat) : Int) else -5
def N_write (s : Sta) (c : Int) : Sta := if (0 ≤ c ∧ c ≤ 255) ∧ (st_t s).length < 200 then N_t s (st_t s ++ [c.toNat]) else s
theorem getD_snoc {l : List Nat} {a i : Nat} : (l ++ [a]).getD i 0 = if i < l.length then l.getD i 0 else if i = l.length then a else 0 := by
  by_cases c : i < l.length
  · rw [if_pos c, List.getD_eq_getElem?_getD, List.getElem?_append_left c, ← List.getD_eq_getElem?_getD]
  · rw [if_neg c, List.getD_eq_getElem?_getD, List.getElem?_append_right (by omega)]
    by_cases d : i = l.length
    · rw [if_pos d, d, Nat.sub_self]
      rfl
    · rw [if_neg d, List.getElem?_eq_none (by show 1 ≤ _; omega)]
      rfl
theorem C_write {h : Hp} {s : Sta} (q : JC h s) {c : Int} (hc : -2147483648 ≤ c ∧ c < 2147483648) : ∃ h', F_X11_write (iI c) h = some (iI (A_write s c), h') ∧ JC h' (N_write s c) := by
  have e0 : sG h 64 = iI (st_t s).length := q.2.1.1
  have l0 := q.1.1.1
  unfold F_X11_write A_write N_write
  rw [jn_e]
  by_cases d : c < 0 ∨ 255 < c
  · rw [if_pos d, if_neg (show ¬ ((0 ≤ c ∧ c ≤ 255) ∧ (st_t s).length < 200) from fun z => by omega)]
    refine ⟨h, ?_, q⟩
    by_cases e : c < 0
    · rw [if_pos (by show iI c < iI 0; rw [iI_lt (by omega) (by omega) (by omega) (by omega)]; exact e)]
      rfl
    · rw [if_neg (by show ¬ iI c < iI 0; rw [iI_lt (by omega) (by omega) (by omega) (by omega)]; exact e), if_pos (by show iI 255 < iI c; rw [iI_lt (by omega) (by omega) (by omega) (by omega)]; omega)]
      rfl
  · rw [if_neg d]
    obtain ⟨b, eb⟩ : ∃ b : Nat, c = b := ⟨c.toNat, by omega⟩
    subst eb
    rw [if_neg (by show ¬ iI (b : Int) < iI 0; rw [iI_lt (by omega) (by omega) (by omega) (by omega)]; omega), if_neg (by show ¬ iI 255 < iI (b : Int); rw [iI_lt (by omega) (by omega) (by omega) (by omega)]; omega)]
    by_cases e : (st_t s).length < 200
    · have e1 : F_X10_add (iI b) h = some (1, sS (aS h 2 (st_t s).length (iI b)) 64 (iI ((st_t s).length + 1 : Nat))) := by
        unfold F_X10_add
        rw [jn_e, e0]
        simp (maxSteps := 3000000) (implicitDefEqProofs := false) (disch := omega) only [jl_e, jn_e, bd_e, gd_t, iI_add, iI_sub, iI_mul, iI_neg, if_true, if_false, not_true_eq_false, not_false_eq_true, Int.reduceEq, Nat.add_zero, Int.toNat_natCast, iI_cl, iI_lt, iI_eq, gd_in, bI_eq0, bI_eq1, bI_isB, isB_0, isB_1, il_0, il_1, il_2, il_3, il_4, il_5, il_6, il_7, il_8, il_9, il_10, il_12, il_16, il_18, il_24, il_27, il_30, il_31, il_32, il_40, il_47, il_48, il_49, il_55, il_56, il_57, il_59, il_63, il_64, il_96, il_97, il_98, il_99, il_101, il_103, il_104, il_105, il_108, il_109, il_110, il_111, il_112, il_114, il_115, il_116, il_117, il_119, il_122, il_127, il_128, il_200, il_225, il_255, il_256, il_999, il_1575, il_9999, il_65536, il_252645135, il_858993459, il_1431655765, aG_aS_s, aG_aS_j, aG_aS_k, aG_aV_s, aG_aV_k, aG_sS, aG_lS, aG_lV, aG_tS, aG_oS, sG_aS, sG_lS, sG_aV, sG_lV, sG_tS, sG_oS, sG_sS_s, sG_sS_n, lG_lS_s, lG_lS_j, lG_lS_k, lG_lV_s, lG_lV_k, lG_sS, lG_aS, lG_aV, lG_tS, lG_oS, tG_sS, tG_aS, tG_aV, tG_lS, tG_lV, tG_tS_s, tG_tS_n, oG_sS, oG_aS, oG_aV, oG_lS, oG_lV, oG_oS_s, e0]
        rw [if_neg (by omega), if_pos (by omega)]
        rfl
      have f := fr_X10_add _ _ _ _ e1
      rw [if_pos e, if_pos ⟨by omega, e⟩, e1, bd_e, jn_e, if_neg (by decide), sG_sS_s]
      refine ⟨_, rfl, q.t f (by decide) (by decide) ⟨?_, fun i hi => ?_⟩ ⟨?_, fun i hi => ?_⟩⟩
      · rw [sG_sS_s, List.length_append]
        rfl
      · rw [List.length_append] at hi
        have hi : i < (st_t s).length + 1 := hi
        rw [aG_sS, getD_snoc]
        by_cases u : i < (st_t s).length
        · rw [if_pos u, aG_aS_j (by omega)]
          exact q.2.1.2 i u
        · rw [if_neg u, if_pos (by omega), show i = (st_t s).length by omega, aG_aS_s]
          rfl
      · rw [List.length_append]
        exact e
      · rw [getD_snoc]
        split
        · exact q.1.1.2 i (by assumption)
        · split
          · show (b : Int).toNat ≤ 255
            omega
          · omega
    · have e1 : F_X10_add (iI b) h = some (0, h) := by
        unfold F_X10_add
        rw [jn_e, e0]
        simp (maxSteps := 3000000) (implicitDefEqProofs := false) (disch := omega) only [jl_e, jn_e, bd_e, gd_t, iI_add, iI_sub, iI_mul, iI_neg, if_true, if_false, not_true_eq_false, not_false_eq_true, Int.reduceEq, Nat.add_zero, Int.toNat_natCast, iI_cl, iI_lt, iI_eq, gd_in, bI_eq0, bI_eq1, bI_isB, isB_0, isB_1, il_0, il_1, il_2, il_3, il_4, il_5, il_6, il_7, il_8, il_9, il_10, il_12, il_16, il_18, il_24, il_27, il_30, il_31, il_32, il_40, il_47, il_48, il_49, il_55, il_56, il_57, il_59, il_63, il_64, il_96, il_97, il_98, il_99, il_101, il_103, il_104, il_105, il_108, il_109, il_110, il_111, il_112, il_114, il_115, il_116, il_117, il_119, il_122, il_127, il_128, il_200, il_225, il_255, il_256, il_999, il_1575, il_9999, il_65536, il_252645135, il_858993459, il_1431655765]
        rw [if_neg (by omega), if_neg (by omega)]
      rw [if_neg e, if_neg (fun z => e z.2), e1, bd_e, jn_e, if_pos rfl]
      exact ⟨h, rfl, q⟩
def A_erase (s : Sta) : Int := ((st_t s).length : Int)
theorem C_erase {h : Hp} {s : Sta} (q : JC h s) : ∃ h', F_X11_erase h = some (iI (A_erase s), h') ∧ JC h' (N_t s []) := by
  have e0 : sG h 64 = iI (st_t s).length := q.2.1.1
  have e1 : F_X10_clear h = some (iI (st_t s).length, sS h 64 0) := by
    unfold F_X10_clear
    rw [jl_e, jl_e, e0]
  have f := fr_X10_clear _ _ _ e1
  unfold F_X11_erase A_erase
  rw [e1, bd_e]
  exact ⟨_, rfl, q.t f (by decide) (by decide) ⟨sG_sS_s .., fun i hi => absurd hi (Nat.not_lt_zero i)⟩ ⟨Nat.zero_le _, fun i hi => absurd hi (Nat.not_lt_zero i)⟩⟩
/-- the kind of a letter -/
def tk_k (c : Nat) : Nat := if 97 ≤ c ∧ c ≤ 122 then 1 else if 48 ≤ c ∧ c ≤ 57 then 2 else 3
theorem c_letterKind {c : Nat} (hc : c ≤ 255) (h : Hp) : F_X10_kindOf (iI c) h = some (iI (tk_k c), h) := by
  unfold F_X10_kindOf tk_k
  rw [if_neg (by show ¬ iI (c : Int) = iI (-1); rw [iI_eq (by omega) (by omega) (by omega) (by omega)]; omega)]
  simp (maxSteps := 3000000) (implicitDefEqProofs := false) (disch := omega) only [jl_e, jn_e, bd_e, gd_t, iI_add, iI_sub, iI_mul, iI_neg, if_true, if_false, not_true_eq_false, not_false_eq_true, Int.reduceEq, Nat.add_zero, Int.toNat_natCast, iI_cl, iI_lt, iI_eq, gd_in, bI_eq0, bI_eq1, bI_isB, isB_0, isB_1, il_0, il_1, il_2, il_3, il_4, il_5, il_6, il_7, il_8, il_9, il_10, il_12, il_16, il_18, il_24, il_27, il_30, il_31, il_32, il_40, il_47, il_48, il_49, il_55, il_56, il_57, il_59, il_63, il_64, il_96, il_97, il_98, il_99, il_101, il_103, il_104, il_105, il_108, il_109, il_110, il_111, il_112, il_114, il_115, il_116, il_117, il_119, il_122, il_127, il_128, il_200, il_225, il_255, il_256, il_999, il_1575, il_9999, il_65536, il_252645135, il_858993459, il_1431655765]
  by_cases a : 97 ≤ c ∧ c ≤ 122
  · rw [if_neg (by omega), if_neg (by omega), if_pos a]
    rfl
  · rw [if_neg a]
    by_cases b : 48 ≤ c ∧ c ≤ 57
    · rw [if_pos (by omega), if_neg (by omega), if_neg (by omega), if_pos b]
      rfl
    · rw [if_neg b]
      (repeat' split) <;> (try (first | rfl | (rw [bI_t (by omega)]) | (rw [bI_f (by omega)]) | (exfalso; omega) | (exact congrArg (fun z => some (iI z, _)) (by omega))))
theorem c_letterAt {h : Hp} {T : List Nat} (q : TxC h T) (hl : T.length ≤ 200) {k : Nat} (hk : k < T.length) : F_X10_letterAt (iI k) h = some (iI (T.getD k 0), h) := by
  have e0 : sG h 64 = iI T.length := q.1
  unfold F_X10_letterAt
  simp (maxSteps := 3000000) (implicitDefEqProofs := false) (disch := omega) only [jl_e, jn_e, bd_e, gd_t, iI_add, iI_sub, iI_mul, iI_neg, if_true, if_false, not_true_eq_false, not_false_eq_true, Int.reduceEq, Nat.add_zero, Int.toNat_natCast, iI_cl, iI_lt, iI_eq, gd_in, bI_eq0, bI_eq1, bI_isB, isB_0, isB_1, il_0, il_1, il_2, il_3, il_4, il_5, il_6, il_7, il_8, il_9, il_10, il_12, il_16, il_18, il_24, il_27, il_30, il_31, il_32, il_40, il_47, il_48, il_49, il_55, il_56, il_57, il_59, il_63, il_64, il_96, il_97, il_98, il_99, il_101, il_103, il_104, il_105, il_108, il_109, il_110, il_111, il_112, il_114, il_115, il_116, il_117, il_119, il_122, il_127, il_128, il_200, il_225, il_255, il_256, il_999, il_1575, il_9999, il_65536, il_252645135, il_858993459, il_1431655765, e0, q.2 k hk]
  rw [if_neg (by omega), if_pos (by omega), if_pos (by omega)]
theorem sh5 {a : Nat} (ha : a < 33554432) : iI (a : Int) <<< ((5 : Int32) &&& 31) = iI ((32 * a : Nat) : Int) := by
  rw [← nI_iI, ← nI_iI]
  apply Int32.toBitVec_inj.1
  rw [Int32.toBitVec_shiftLeft, show ((5 : Int32) &&& 31) = 5 from by decide]
  show BitVec.ofNat 32 a <<< (BitVec.smod (5#32) 32) = BitVec.ofNat 32 (32 * a)
  rw [show BitVec.smod (5#32) 32 = 5#32 from by decide]
  apply BitVec.eq_of_toNat_eq
  rw [BitVec.shiftLeft_eq', BitVec.toNat_shiftLeft, BitVec.toNat_ofNat, BitVec.toNat_ofNat, BitVec.toNat_ofNat, Nat.shiftLeft_eq, show 5 % 2 ^ 32 = 5 from rfl, show (2 : Nat) ^ 5 = 32 from rfl]
  omega
theorem or5 {a x : Nat} (hx : x < 32) : 32 * a ||| x = 32 * a + x := by
  have := Nat.shiftLeft_add_eq_or_of_lt (i := 5) (b := x) hx a
  rw [Nat.shiftLeft_eq, show (2 : Nat) ^ 5 = 32 from rfl, Nat.mul_comm a 32] at this
  exact this.symm
theorem c_lengthened {a c : Nat} (ha : a < 33554432) (hc : 97 ≤ c ∧ c ≤ 122) (h : Hp) : F_X11_lengthened (iI a) (iI c) h = some (iI ((32 * a + (c - 96) : Nat) : Int), h) := by
  unfold F_X11_lengthened
  have e : (iI (c : Int) - (97 : Int32)) + (1 : Int32) = iI ((c - 96 : Nat) : Int) := by
    show (iI (c : Int) - iI 97) + iI 1 = _
    rw [iI_sub, iI_add]
    exact iI_cg (by omega)
  rw [e, sh5 ha, ms_or, or5 (by omega)]
