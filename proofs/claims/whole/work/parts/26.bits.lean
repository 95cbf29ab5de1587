-- ===== sets of bits =====
def bm (f : Nat → Bool) : Nat → Nat
  | 0 => 0
  | n + 1 => bm f n ||| (if f n then 2 ^ n else 0)
theorem bm_tb (f : Nat → Bool) : ∀ n i, (bm f n).testBit i = (decide (i < n) && f i)
  | 0, i => by simp [bm]
  | n + 1, i => by
    show (bm f n ||| (if f n then 2 ^ n else 0)).testBit i = _
    rw [Nat.testBit_or, bm_tb f n i]
    by_cases c : f n = true
    · rw [if_pos c, Nat.testBit_two_pow]
      by_cases d : n = i
      · subst d; simp [c]
      · by_cases e : i < n
        · simp [e, d, show i < n + 1 by omega]
        · simp [e, d, show ¬ i < n + 1 by omega]
    · rw [if_neg c]
      by_cases d : n = i
      · subst d; simp [c]
      · by_cases e : i < n
        · simp [e, d, show i < n + 1 by omega]
        · simp [e, show ¬ i < n + 1 by omega]
theorem bm_lt (f : Nat → Bool) : ∀ n, bm f n < 2 ^ n
  | 0 => by simp [bm]
  | n + 1 => by
    show bm f n ||| (if f n then 2 ^ n else 0) < 2 ^ (n + 1)
    have h1 := bm_lt f n
    have h2 : (2 : Nat) ^ (n + 1) = 2 * 2 ^ n := by rw [Nat.pow_succ]; omega
    apply Nat.or_lt_two_pow
    · omega
    · split <;> omega
theorem bm_eq {f : Nat → Bool} {n m : Nat} (h : ∀ i, m.testBit i = (decide (i < n) && f i)) : m = bm f n :=
  Nat.eq_of_testBit_eq (fun i => (h i).trans (bm_tb f n i).symm)
theorem bm_congr {f g : Nat → Bool} {n : Nat} (h : ∀ i, i < n → f i = g i) : bm f n = bm g n := by
  apply bm_eq
  intro i
  rw [bm_tb]
  by_cases c : i < n
  · rw [h i c]
  · simp [c]
theorem bm_7 (f : Nat → Bool) : bm f 7 < 128 := bm_lt f 7
theorem bm_48 (f : Nat → Bool) : bm f 48 < 281474976710656 := bm_lt f 48
-- small sets as words
theorem ms_and (a b : Nat) : iI (a : Int) &&& iI (b : Int) = iI ((a &&& b : Nat) : Int) := by
  rw [← nI_iI, ← nI_iI, ← nI_iI]
  apply Int32.toBitVec_inj.1
  show BitVec.ofNat 32 a &&& BitVec.ofNat 32 b = BitVec.ofNat 32 (a &&& b)
  apply BitVec.eq_of_toNat_eq
  rw [BitVec.toNat_and, BitVec.toNat_ofNat, BitVec.toNat_ofNat, BitVec.toNat_ofNat, Nat.and_mod_two_pow]
theorem ms_or (a b : Nat) : iI (a : Int) ||| iI (b : Int) = iI ((a ||| b : Nat) : Int) := by
  rw [← nI_iI, ← nI_iI, ← nI_iI]
  apply Int32.toBitVec_inj.1
  show BitVec.ofNat 32 a ||| BitVec.ofNat 32 b = BitVec.ofNat 32 (a ||| b)
  apply BitVec.eq_of_toNat_eq
  rw [BitVec.toNat_or, BitVec.toNat_ofNat, BitVec.toNat_ofNat, BitVec.toNat_ofNat, Nat.or_mod_two_pow]
theorem ms_xor (a b : Nat) : iI (a : Int) ^^^ iI (b : Int) = iI ((a ^^^ b : Nat) : Int) := by
  rw [← nI_iI, ← nI_iI, ← nI_iI]
  apply Int32.toBitVec_inj.1
  show BitVec.ofNat 32 a ^^^ BitVec.ofNat 32 b = BitVec.ofNat 32 (a ^^^ b)
  apply BitVec.eq_of_toNat_eq
  rw [BitVec.toNat_xor, BitVec.toNat_ofNat, BitVec.toNat_ofNat, BitVec.toNat_ofNat, Nat.xor_mod_two_pow]
/-- of a those that b has not -/
def nd (a b : Nat) : Nat := a ^^^ (a &&& b)
theorem nd_tb (a b i : Nat) : (nd a b).testBit i = (a.testBit i && !b.testBit i) := by
  unfold nd
  rw [Nat.testBit_xor, Nat.testBit_and]
  cases a.testBit i <;> cases b.testBit i <;> rfl
theorem nd_le (a b : Nat) : nd a b ≤ a := by
  have h : nd a b &&& a = nd a b := by
    rw [ro_sub_iff]
    intro q hq
    rw [nd_tb, Bool.and_eq_true] at hq
    exact hq.1
  exact ro_sub_le h
theorem ms_not (a b : Nat) : iI (a : Int) &&& (iI (b : Int) ^^^ iI (-1)) = iI ((nd a b : Nat) : Int) := by
  unfold nd
  rw [← ms_xor, ← ms_and]
  generalize iI (a : Int) = x
  generalize iI (b : Int) = y
  apply Int32.toBitVec_inj.1
  show x.toBitVec &&& (y.toBitVec ^^^ BitVec.ofInt 32 (-1)) = x.toBitVec ^^^ (x.toBitVec &&& y.toBitVec)
  apply BitVec.eq_of_getLsbD_eq
  intro i hi
  have e : (BitVec.ofInt 32 (-1)) = BitVec.allOnes 32 := by decide
  rw [BitVec.getLsbD_and, BitVec.getLsbD_xor, BitVec.getLsbD_xor, BitVec.getLsbD_and, e, BitVec.getLsbD_allOnes, decide_eq_true hi]
  cases x.toBitVec.getLsbD i <;> cases y.toBitVec.getLsbD i <;> rfl
theorem ms_shl : ∀ p : Nat, p < 31 → iI 1 <<< (iI (p : Int) &&& iI 31) = iI ((2 ^ p : Nat) : Int) := by decide +kernel
theorem ms_bit : ∀ a : Nat, a < 128 → ∀ p : Nat, p < 8 → (iI (a : Int) >>> (iI (p : Int) &&& iI 31)) &&& iI 1 = iI (if a.testBit p then 1 else 0) := by decide +kernel
theorem ms_0 {a : Nat} (h : a < 2147483648) : (iI (a : Int) = iI 0) = (a = 0) := by
  rw [iI_eq (by omega) (by omega) (by omega) (by omega)]
  apply propext
  omega
theorem nd_128 {a : Nat} (h : a < 128) (b : Nat) : nd a b < 128 := Nat.lt_of_le_of_lt (nd_le a b) h
theorem and_128 {a : Nat} (h : a < 128) (b : Nat) : a &&& b < 128 := Nat.lt_of_le_of_lt Nat.and_le_left h
theorem or_128 {a b : Nat} (h : a < 128) (h2 : b < 128) : a ||| b < 128 := Nat.or_lt_two_pow (n := 7) h h2
theorem pw_128 : ∀ p : Nat, p < 7 → 2 ^ p < 128 := by decide
theorem c_hasBit {a p : Nat} (ha : a < 128) (hp : p < 8) (h : Hp) : F_X11_hasBit (iI a) (iI p) h = some (bI (a.testBit p = true), h) := by
  unfold F_X11_hasBit
  simp (disch := omega) only [jl_e, jn_e, bd_e, gd_t, iI_add, iI_sub, iI_mul, iI_neg, if_true, if_false, not_true_eq_false, not_false_eq_true, Nat.add_zero, Int.toNat_natCast, iI_cl, iI_lt, iI_eq, gd_in, bI_eq0, bI_eq1, bI_isB, isB_0, isB_1, il_0, il_1, il_2, il_3, il_4, il_5, il_6, il_7, il_8, il_9, il_10, il_12, il_16, il_18, il_24, il_27, il_30, il_31, il_32, il_40, il_47, il_48, il_49, il_55, il_56, il_57, il_59, il_63, il_64, il_96, il_97, il_98, il_99, il_101, il_103, il_104, il_105, il_108, il_109, il_110, il_111, il_112, il_114, il_115, il_116, il_117, il_119, il_122, il_127, il_128, il_200, il_225, il_255, il_256, il_999, il_1575, il_9999, il_65536, il_252645135, il_858993459, il_1431655765, ms_bit a ha p hp]
  by_cases c : a.testBit p = true
  · simp only [c, if_true]
    (try simp (disch := omega) only [jl_e, jn_e, bd_e, gd_t, iI_add, iI_sub, iI_mul, iI_neg, if_true, if_false, not_true_eq_false, not_false_eq_true, Nat.add_zero, Int.toNat_natCast, iI_cl, iI_lt, iI_eq, gd_in, bI_eq0, bI_eq1, bI_isB, isB_0, isB_1, il_0, il_1, il_2, il_3, il_4, il_5, il_6, il_7, il_8, il_9, il_10, il_12, il_16, il_18, il_24, il_27, il_30, il_31, il_32, il_40, il_47, il_48, il_49, il_55, il_56, il_57, il_59, il_63, il_64, il_96, il_97, il_98, il_99, il_101, il_103, il_104, il_105, il_108, il_109, il_110, il_111, il_112, il_114, il_115, il_116, il_117, il_119, il_122, il_127, il_128, il_200, il_225, il_255, il_256, il_999, il_1575, il_9999, il_65536, il_252645135, il_858993459, il_1431655765])
    rfl
  · simp only [c]
    (try simp (disch := omega) only [jl_e, jn_e, bd_e, gd_t, iI_add, iI_sub, iI_mul, iI_neg, if_true, if_false, not_true_eq_false, not_false_eq_true, Nat.add_zero, Int.toNat_natCast, iI_cl, iI_lt, iI_eq, gd_in, bI_eq0, bI_eq1, bI_isB, isB_0, isB_1, il_0, il_1, il_2, il_3, il_4, il_5, il_6, il_7, il_8, il_9, il_10, il_12, il_16, il_18, il_24, il_27, il_30, il_31, il_32, il_40, il_47, il_48, il_49, il_55, il_56, il_57, il_59, il_63, il_64, il_96, il_97, il_98, il_99, il_101, il_103, il_104, il_105, il_108, il_109, il_110, il_111, il_112, il_114, il_115, il_116, il_117, il_119, il_122, il_127, il_128, il_200, il_225, il_255, il_256, il_999, il_1575, il_9999, il_65536, il_252645135, il_858993459, il_1431655765])
    rfl
theorem c_bitCount {a : Nat} (ha : a < 128) (h : Hp) : F_J6_bitCount_0f7a4 (iI a) h = some (iI (ro_ct a), h) := by
  have key : ∀ a : Nat, a < 128 → (F_J6_bitCount_0f7a4 (iI a) (fun _ => 0, fun _ _ => 0, fun _ _ => 0, fun _ => 0, fun _ => none)).map (fun q => q.1) = some (iI (ro_ct a)) := by decide +kernel
  have e := key a ha
  unfold F_J6_bitCount_0f7a4 at e ⊢
  simp only [jl_e] at e ⊢
  exact congrArg (fun x => some (x, h)) (Option.some.inj e)
