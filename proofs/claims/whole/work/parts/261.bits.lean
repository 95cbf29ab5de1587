-- ===== long words (the family wb_ began as the kit's starting text BITS) =====
theorem wb_tb (n : Nat) : (lN n).toBitVec = BitVec.ofNat 64 n := rfl
theorem wb_inj {a b : Int64} (h : a.toBitVec = b.toBitVec) : a = b := Int64.toBitVec_inj.mp h
theorem wb_tn {n : Nat} (h : n < 2 ^ 64) : (lN n).toBitVec.toNat = n := by rw [wb_tb, BitVec.toNat_ofNat, Nat.mod_eq_of_lt h]
theorem wb_of (x : Int64) : ∃ n, n < 2 ^ 64 ∧ x = lN n := ⟨x.toBitVec.toNat, x.toBitVec.isLt, wb_inj (by rw [wb_tb]; simp)⟩
theorem wb_of32 (x : Int32) : ∃ n, n < 2 ^ 32 ∧ x = nI n := ⟨x.toBitVec.toNat, x.toBitVec.isLt, Int32.toBitVec_inj.mp (by show _ = BitVec.ofNat 32 _; simp)⟩
theorem wb_c : ∀ k, k < 64 → ((nI k).toInt64 &&& 63) = lN k := by decide +kernel
theorem wb_cu : ∀ k, k < 64 → ((nI k).toInt64.toUInt64 &&& Int64.toUInt64 63) = UInt64.ofNat k := by decide +kernel
theorem wb_sm : ∀ k, k < 64 → (BitVec.ofNat 64 k).smod 64 = BitVec.ofNat 64 k := by decide +kernel
theorem wb_pw {a b : Nat} (h : a ≤ b) : 2 ^ b = 2 ^ a * 2 ^ (b - a) := by rw [← Nat.pow_add]; congr 1; omega
theorem wb_lt2 {a b : Nat} (h : a < b) : 2 ^ a < 2 ^ b := Nat.pow_lt_pow_right (by decide) h
theorem wb_mod (n : Nat) : lN n = lN (n % 2 ^ 64) := wb_inj (by rw [wb_tb, wb_tb]; apply BitVec.eq_of_toNat_eq; rw [BitVec.toNat_ofNat, BitVec.toNat_ofNat, Nat.mod_mod])
theorem wb_shr {n k : Nat} (hn : n < 2 ^ 64) (hk : k < 64) : ((lN n).toUInt64 >>> ((nI k).toInt64.toUInt64 &&& Int64.toUInt64 63)).toInt64 = lN (n / 2 ^ k) := by
  rw [wb_cu k hk]
  apply wb_inj
  apply BitVec.eq_of_toNat_eq
  show ((lN n).toUInt64 >>> UInt64.ofNat k).toNat = (BitVec.ofNat 64 _).toNat
  have h1 : (UInt64.ofNat k).toNat = k := by
    show (BitVec.ofNat 64 k).toNat = k
    rw [BitVec.toNat_ofNat, Nat.mod_eq_of_lt (by omega)]
  have h2 : (lN n).toUInt64.toNat = n := wb_tn hn
  rw [UInt64.toNat_shiftRight, h1, h2, Nat.mod_eq_of_lt hk, Nat.shiftRight_eq_div_pow, BitVec.toNat_ofNat, Nat.mod_eq_of_lt (Nat.lt_of_le_of_lt (Nat.div_le_self _ _) hn)]
theorem wb_shl (n : Nat) {k : Nat} (hk : k < 64) : lN n <<< ((nI k).toInt64 &&& 63) = lN (n * 2 ^ k) := by
  rw [wb_c k hk]
  apply wb_inj
  rw [Int64.toBitVec_shiftLeft, wb_tb, wb_tb, wb_tb, wb_sm k hk]
  apply BitVec.eq_of_toNat_eq
  rw [BitVec.shiftLeft_eq', BitVec.toNat_shiftLeft, BitVec.toNat_ofNat, BitVec.toNat_ofNat, BitVec.toNat_ofNat, Nat.mod_eq_of_lt (show k < 2 ^ 64 by omega), Nat.shiftLeft_eq, Nat.mul_mod, Nat.mod_mod, ← Nat.mul_mod]
theorem wb_and {a b : Nat} (ha : a < 2 ^ 64) (hb : b < 2 ^ 64) : lN a &&& lN b = lN (a &&& b) := by
  apply wb_inj
  rw [Int64.toBitVec_and, wb_tb, wb_tb, wb_tb]
  apply BitVec.eq_of_toNat_eq
  rw [BitVec.toNat_and, BitVec.toNat_ofNat, BitVec.toNat_ofNat, BitVec.toNat_ofNat, Nat.mod_eq_of_lt ha, Nat.mod_eq_of_lt hb, Nat.mod_eq_of_lt (Nat.and_lt_two_pow _ hb)]
theorem wb_or {a b : Nat} (ha : a < 2 ^ 64) (hb : b < 2 ^ 64) : lN a ||| lN b = lN (a ||| b) := by
  apply wb_inj
  rw [Int64.toBitVec_or, wb_tb, wb_tb, wb_tb]
  apply BitVec.eq_of_toNat_eq
  rw [BitVec.toNat_or, BitVec.toNat_ofNat, BitVec.toNat_ofNat, BitVec.toNat_ofNat, Nat.mod_eq_of_lt ha, Nat.mod_eq_of_lt hb, Nat.mod_eq_of_lt (Nat.or_lt_two_pow ha hb)]
theorem wb_mask {n k : Nat} (hn : n < 2 ^ 64) (hk : k < 64) : lN n &&& lN (2 ^ k - 1) = lN (n % 2 ^ k) := by
  rw [wb_and hn (by have := wb_lt2 hk; omega), Nat.and_two_pow_sub_one_eq_mod]
theorem wb_a1 {n : Nat} (hn : n < 2 ^ 64) : lN n &&& 1 = lN (n % 2) := wb_mask (k := 1) hn (by decide)
theorem wb_bit {n k : Nat} (hn : n < 2 ^ 64) (hk : k < 64) : ((lN n).toUInt64 >>> ((nI k).toInt64.toUInt64 &&& Int64.toUInt64 63)).toInt64 &&& 1 = lN (n / 2 ^ k % 2) := by
  rw [wb_shr hn hk, wb_a1 (Nat.lt_of_le_of_lt (Nat.div_le_self _ _) hn)]
theorem wb_xor {q k : Nat} (hk : k < 63) (h : 2 ^ k ≤ q) (h2 : q < 2 ^ (k + 1)) : lN q ^^^ lN (2 ^ k) = lN (q - 2 ^ k) := by
  obtain ⟨r, rfl⟩ : ∃ r, q = 2 ^ k + r := ⟨q - 2 ^ k, by omega⟩
  have hr : r < 2 ^ k := by rw [Nat.pow_succ] at h2; omega
  have hx : (2 ^ k + r) ^^^ 2 ^ k = r := by
    apply Nat.eq_of_testBit_eq
    intro i
    rw [Nat.testBit_xor, Nat.testBit_two_pow]
    rcases Nat.lt_trichotomy i k with h | h | h
    · rw [Nat.testBit_two_pow_add_gt h]
      simp [show ¬ k = i by omega]
    · subst h
      rw [Nat.testBit_two_pow_add_eq]
      simp
    · have a1 : 2 ^ (k + 1) ≤ 2 ^ i := Nat.pow_le_pow_right (by decide) h
      rw [Nat.testBit_lt_two_pow (show 2 ^ k + r < 2 ^ i by omega), Nat.testBit_lt_two_pow (show r < 2 ^ i by omega)]
      simp [show ¬ k = i by omega]
  have b1 := wb_lt2 (show k + 1 < 64 by omega)
  have b2 := wb_lt2 (show k < 64 by omega)
  apply wb_inj
  rw [Int64.toBitVec_xor, wb_tb, wb_tb, wb_tb]
  apply BitVec.eq_of_toNat_eq
  rw [BitVec.toNat_xor, BitVec.toNat_ofNat, BitVec.toNat_ofNat, BitVec.toNat_ofNat, Nat.mod_eq_of_lt (by omega : 2 ^ k + r < 2 ^ 64), Nat.mod_eq_of_lt b2, hx, Nat.add_sub_cancel_left, Nat.mod_eq_of_lt (by omega)]

-- the number of trailing noughts
theorem z_pred {n k : Nat} (hn : n < 2 ^ 32) (h1 : n.testBit k = true) (h2 : ∀ j, j < k → n.testBit j = false) : (n ^^^ (2 ^ 32 - 1)) &&& (n - 1) = (2 ^ k - 1) &&& (2 ^ 32 - 1) := by
  have hp : 0 < 2 ^ k := Nat.two_pow_pos k
  have e0 : n % 2 ^ k = 0 := by
    apply Nat.eq_of_testBit_eq
    intro i
    rw [Nat.testBit_mod_two_pow, Nat.zero_testBit]
    by_cases c : i < k
    · rw [h2 i c]; simp
    · simp [c]
  have e1 : (n / 2 ^ k) % 2 = 1 := by
    have := Nat.testBit_div_two_pow (n := k) n 0
    rw [Nat.zero_add, h1, Nat.testBit_zero] at this
    exact of_decide_eq_true this
  have e2 := Nat.div_add_mod n (2 ^ k)
  have e3 := Nat.div_add_mod (n / 2 ^ k) 2
  obtain ⟨q, hq⟩ : ∃ q, n / 2 ^ k / 2 = q := ⟨_, rfl⟩
  rw [e1, hq] at e3
  rw [e0, ← e3, Nat.add_zero] at e2
  have e4 : n - 1 = 2 ^ k * (2 * q) + (2 ^ k - 1) := by
    rw [← e2, Nat.mul_add, Nat.mul_one]
    omega
  have e5 : n = 2 ^ k * (2 * q + 1) + 0 := by rw [Nat.add_zero]; exact e2.symm
  apply Nat.eq_of_testBit_eq
  intro i
  rw [Nat.testBit_and, Nat.testBit_xor, Nat.testBit_two_pow_sub_one, Nat.testBit_and, Nat.testBit_two_pow_sub_one, Nat.testBit_two_pow_sub_one, e4, Nat.testBit_two_pow_mul_add _ (by omega), Nat.testBit_two_pow_sub_one]
  by_cases c : i < k
  · rw [if_pos c, h2 i c]
    simp [c]
  · rw [if_neg c]
    by_cases d : i = k
    · subst d
      rw [h1]
      simp
      try omega
    · have e6 : n.testBit i = (2 * q).testBit (i - k) := by
        rw [e5, Nat.testBit_two_pow_mul_add _ (by omega), if_neg c]
        obtain ⟨m, hm⟩ : ∃ m, i - k = m + 1 := ⟨i - k - 1, by omega⟩
        rw [hm, Nat.testBit_add_one, Nat.testBit_add_one]
        congr 1
        omega
      rw [← e6]
      by_cases u : i < 32
      · simp [c, u]
      · rw [Nat.testBit_lt_two_pow (x := n) (i := i) (Nat.lt_of_lt_of_le hn (Nat.pow_le_pow_right (by omega) (by omega)))]
        simp [c]
theorem z_low {n k : Nat} (hn2 : n < 2 ^ 32) (hk : k < 32) (h1 : n.testBit k = true) (h2 : ∀ j, j < k → n.testBit j = false) : (nI n ^^^ (-1)) &&& (nI n - 1) = nI (2 ^ k - 1) := by
  have hn : 0 < n := by
    rcases Nat.eq_zero_or_pos n with z | z
    · subst z
      rw [Nat.zero_testBit] at h1
      cases h1
    · exact z
  obtain ⟨m, rfl⟩ : ∃ m, n = m + 1 := ⟨n - 1, by omega⟩
  have h3 := z_pred hn2 h1 h2
  have e1 : (-1 : Int32) = iI ((2 ^ 32 - 1 : Nat) : Int) := by decide
  have e2 : nI (m + 1) - 1 = iI (m : Int) := by
    rw [nI_iI, il_1, iI_sub]
    exact iI_cg (by omega)
  have e4 : 2 ^ k ≤ 2 ^ 32 := Nat.pow_le_pow_right (by omega) (by omega)
  rw [e2, e1, nI_iI, nI_iI, ms_xor, ms_and]
  rw [Nat.add_sub_cancel] at h3
  rw [h3]
  apply iI_cg
  rw [Nat.and_two_pow_sub_one_eq_mod, Nat.mod_eq_of_lt (by omega)]
theorem z_nI_mod (n : Nat) : nI n = nI (n % 2 ^ 32) := by
  apply Int32.toBitVec_inj.1
  show BitVec.ofNat 32 n = BitVec.ofNat 32 (n % 2 ^ 32)
  apply BitVec.eq_of_toNat_eq
  rw [BitVec.toNat_ofNat, BitVec.toNat_ofNat, Nat.mod_mod]
theorem z_ntz_h (x : Int32) (h h0 : Hp) : F_J6_numberOfTrailingZeros_0f7a4 x h = (F_J6_numberOfTrailingZeros_0f7a4 x h0).map (fun q => (q.1, h)) := by
  unfold F_J6_numberOfTrailingZeros_0f7a4
  simp only [jl_e, jn_e]
  repeat' split
  all_goals rfl
theorem z_ntz_k : ∀ k : Nat, k < 32 → (F_J6_numberOfTrailingZeros_0f7a4 (nI (2 ^ k)) (fun _ => 0, fun _ _ => 0, fun _ _ => 0, fun _ => 0, fun _ => none)).map (fun q => q.1) = some (nI k) := by decide +kernel
theorem z_ntz32 {n k : Nat} (hk : k < 32) (h1 : n.testBit k = true) (h2 : ∀ j, j < k → n.testBit j = false) (h : Hp) : F_J6_numberOfTrailingZeros_0f7a4 (nI n) h = some (nI k, h) := by
  have e1 : F_J6_numberOfTrailingZeros_0f7a4 (nI n) h = F_J6_numberOfTrailingZeros_0f7a4 (nI (2 ^ k)) h := by
    rw [z_nI_mod n]
    have a1 := z_low (n := n % 2 ^ 32) (k := k) (Nat.mod_lt _ (by decide)) hk (by rw [Nat.testBit_mod_two_pow, h1]; simp [hk]) (fun j hj => by rw [Nat.testBit_mod_two_pow, h2 j hj]; simp)
    have a2 := z_low (n := 2 ^ k) (k := k) (Nat.pow_lt_pow_right (by omega) hk) hk (by rw [Nat.testBit_two_pow]; simp) (fun j hj => by rw [Nat.testBit_two_pow]; simp; omega)
    unfold F_J6_numberOfTrailingZeros_0f7a4
    rw [a1, a2]
  rw [e1, z_ntz_h _ h (fun _ => 0, fun _ _ => 0, fun _ _ => 0, fun _ => 0, fun _ => none)]
  have e2 := z_ntz_k k hk
  cases e3 : F_J6_numberOfTrailingZeros_0f7a4 (nI (2 ^ k)) (fun _ => 0, fun _ _ => 0, fun _ _ => 0, fun _ => 0, fun _ => none) with
  | none => rw [e3] at e2; cases e2
  | some q =>
    rw [e3] at e2
    have : q.1 = nI k := Option.some.inj e2
    show some (q.1, h) = some (nI k, h)
    rw [this]
theorem z_nI0 (n : Nat) : nI n = 0 ↔ n % 2 ^ 32 = 0 := by
  constructor
  · intro h
    have h2 := congrArg (fun x : Int32 => x.toBitVec.toNat) h
    have e : (nI n).toBitVec.toNat = n % 2 ^ 32 := BitVec.toNat_ofNat n 32
    simp only [e] at h2
    exact h2
  · intro h
    rw [z_nI_mod, h]
    rfl
theorem z_32 {n : Nat} (hn : n < 2 ^ 64) : ((lN n).toUInt64 >>> ((32 : Int32).toInt64.toUInt64 &&& Int64.toUInt64 63)).toInt64 = lN (n / 2 ^ 32) := wb_shr (k := 32) hn (by omega)
theorem z_ntz {n k : Nat} (hn : n < 2 ^ 64) (hk : k < 64) (h1 : n.testBit k = true) (h2 : ∀ j, j < k → n.testBit j = false) (h : Hp) : F_J13_numberOfTrailingZeros_95d88 (lN n) h = some (nI k, h) := by
  unfold F_J13_numberOfTrailingZeros_95d88
  rw [z_32 hn, lN_i, lN_i]
  simp only [jl_e, jn_e]
  by_cases c : k < 32
  · have c2 : ¬ nI n = 0 := by
      rw [z_nI0]
      intro z
      have := Nat.testBit_mod_two_pow n 32 k
      rw [z, Nat.zero_testBit, h1] at this
      simp [c] at this
    rw [if_neg c2, z_ntz32 c h1 h2, bd_e]
  · have c2 : nI n = 0 := by
      rw [z_nI0]
      apply Nat.eq_of_testBit_eq
      intro i
      rw [Nat.testBit_mod_two_pow, Nat.zero_testBit]
      by_cases d : i < 32
      · rw [h2 i (by omega)]; simp
      · simp [d]
    rw [if_pos c2, z_ntz32 (n := n / 2 ^ 32) (k := k - 32) (by omega) (by rw [Nat.testBit_div_two_pow, show k - 32 + 32 = k by omega]; exact h1) (fun j hj => by rw [Nat.testBit_div_two_pow]; exact h2 _ (by omega)), bd_e]
    congr 2
    rw [nI_iI, nI_iI, il_32, iI_add]
    exact iI_cg (by omega)
-- the number of leading noughts
theorem us_16 {n : Nat} (hn : n < 2 ^ 32) : ((nI n).toUInt32 >>> ((16 : Int32).toUInt32 &&& Int32.toUInt32 31)).toInt32 = nI (n / 65536) := pk_ushrN hn 16 16 (by decide)
theorem us_8 {n : Nat} (hn : n < 2 ^ 32) : ((nI n).toUInt32 >>> ((8 : Int32).toUInt32 &&& Int32.toUInt32 31)).toInt32 = nI (n / 256) := pk_ushrN hn 8 8 (by decide)
theorem us_4 {n : Nat} (hn : n < 2 ^ 32) : ((nI n).toUInt32 >>> ((4 : Int32).toUInt32 &&& Int32.toUInt32 31)).toInt32 = nI (n / 16) := pk_ushrN hn 4 4 (by decide)
theorem us_2 {n : Nat} (hn : n < 2 ^ 32) : ((nI n).toUInt32 >>> ((2 : Int32).toUInt32 &&& Int32.toUInt32 31)).toInt32 = nI (n / 4) := pk_ushrN hn 2 2 (by decide)
theorem us_1 {n : Nat} (hn : n < 2 ^ 32) : ((nI n).toUInt32 >>> ((1 : Int32).toUInt32 &&& Int32.toUInt32 31)).toInt32 = nI (n / 2) := pk_ushrN hn 1 1 (by decide)
def hb_is (n r : Nat) : Prop := 2 ^ r ≤ n ∧ n < 2 ^ (r + 1)
theorem z_step {n m s r : Nat} (h : m = n / 2 ^ s) (hm : hb_is m r) : hb_is n (r + s) := by
  unfold hb_is at *
  subst h
  constructor
  · have := (Nat.le_div_iff_mul_le (Nat.two_pow_pos s)).1 hm.1
    rwa [← Nat.pow_add] at this
  · have := (Nat.div_lt_iff_lt_mul (Nat.two_pow_pos s)).1 hm.2
    rw [← Nat.pow_add] at this
    rwa [show r + s + 1 = r + 1 + s by omega]
theorem lt32 (m K : Nat) (hm : m < 2147483648) (hK : K < 2147483648) : ((nI m < iI (K : Int)) = (m < K)) := by
  rw [nI_iI, iI_lt (by omega) (by omega) (by omega) (by omega)]
  apply propext
  omega
theorem z_nlz32 {n : Nat} (h0 : 0 < n) (hn : n < 2147483648) (h : Hp) : ∃ r, r < 31 ∧ hb_is n r ∧ F_J6_numberOfLeadingZeros_0f7a4 (nI n) h = some (iI (31 - r), h) := by
  have fin : ∀ (v s : Nat) (_x : Nat), v < 4 → 0 < v → v = n / 2 ^ s → s ≤ 30 → ∃ r, r < 31 ∧ hb_is n r ∧ (some (iI (31 - s) - nI (v / 2), h) : Option (Int32 × Hp)) = some (iI (31 - r), h) := by
    intro v s _ hv hv0 he hs
    have e1 : hb_is v (v / 2) := by
      unfold hb_is
      rcases (show v = 1 ∨ v = 2 ∨ v = 3 by omega) with z | z | z <;> subst z <;> decide
    have e2 := z_step he e1
    refine ⟨v / 2 + s, ?_, e2, ?_⟩
    · refine Nat.lt_of_not_le (fun z => ?_)
      have := Nat.pow_le_pow_right (n := 2) (by omega) z
      have h31 : (2 : Nat) ^ 31 = 2147483648 := by decide
      have := e2.1
      omega
    · rw [nI_iI, iI_sub]
      exact congrArg (fun z => some (iI z, h)) (by omega)
  have l65536 : ∀ m : Nat, m < 2147483648 → ((nI m < (65536 : Int32)) = (m < 65536)) := fun m hm => lt32 m 65536 hm (by omega)
  have l256 : ∀ m : Nat, m < 2147483648 → ((nI m < (256 : Int32)) = (m < 256)) := fun m hm => lt32 m 256 hm (by omega)
  have l16 : ∀ m : Nat, m < 2147483648 → ((nI m < (16 : Int32)) = (m < 16)) := fun m hm => lt32 m 16 hm (by omega)
  have l4 : ∀ m : Nat, m < 2147483648 → ((nI m < (4 : Int32)) = (m < 4)) := fun m hm => lt32 m 4 hm (by omega)
  have c0 : (0 : Int32) < nI n := by
    show iI 0 < nI n
    rw [nI_iI, iI_lt (by omega) (by omega) (by omega) (by omega)]
    omega
  unfold F_J6_numberOfLeadingZeros_0f7a4
  rw [if_pos c0]
  simp only [jn_e, jl_e]
  simp (disch := omega) only [us_16, us_8, us_4, us_2, us_1, l65536, l256, l16, l4]
  by_cases c0 : n < 65536
  · simp only [if_pos c0]
    by_cases c1 : n < 256
    · simp only [if_pos c1]
      by_cases c2 : n < 16
      · simp only [if_pos c2]
        by_cases c3 : n < 4
        · simp only [if_pos c3]
          have e : (31 : Int32) = iI (31 - (0 : Nat)) := by decide
          rw [e]
          exact fin (n) 0 0 (by omega) (by omega) (by omega) (by omega)
        · simp only [if_neg c3]
          have e : ((31 : Int32) + (-2 : Int32)) = iI (31 - (2 : Nat)) := by decide
          rw [e]
          exact fin (n / 4) 2 0 (by omega) (by omega) (by omega) (by omega)
      · simp only [if_neg c2]
        by_cases c4 : n / 16 < 4
        · simp only [if_pos c4]
          have e : ((31 : Int32) + (-4 : Int32)) = iI (31 - (4 : Nat)) := by decide
          rw [e]
          exact fin (n / 16) 4 0 (by omega) (by omega) (by omega) (by omega)
        · simp only [if_neg c4]
          have e : (((31 : Int32) + (-4 : Int32)) + (-2 : Int32)) = iI (31 - (6 : Nat)) := by decide
          rw [e]
          exact fin (n / 16 / 4) 6 0 (by omega) (by omega) (by omega) (by omega)
    · simp only [if_neg c1]
      by_cases c5 : n / 256 < 16
      · simp only [if_pos c5]
        by_cases c6 : n / 256 < 4
        · simp only [if_pos c6]
          have e : ((31 : Int32) + (-8 : Int32)) = iI (31 - (8 : Nat)) := by decide
          rw [e]
          exact fin (n / 256) 8 0 (by omega) (by omega) (by omega) (by omega)
        · simp only [if_neg c6]
          have e : (((31 : Int32) + (-8 : Int32)) + (-2 : Int32)) = iI (31 - (10 : Nat)) := by decide
          rw [e]
          exact fin (n / 256 / 4) 10 0 (by omega) (by omega) (by omega) (by omega)
      · simp only [if_neg c5]
        by_cases c7 : n / 256 / 16 < 4
        · simp only [if_pos c7]
          have e : (((31 : Int32) + (-8 : Int32)) + (-4 : Int32)) = iI (31 - (12 : Nat)) := by decide
          rw [e]
          exact fin (n / 256 / 16) 12 0 (by omega) (by omega) (by omega) (by omega)
        · simp only [if_neg c7]
          have e : ((((31 : Int32) + (-8 : Int32)) + (-4 : Int32)) + (-2 : Int32)) = iI (31 - (14 : Nat)) := by decide
          rw [e]
          exact fin (n / 256 / 16 / 4) 14 0 (by omega) (by omega) (by omega) (by omega)
  · simp only [if_neg c0]
    by_cases c8 : n / 65536 < 256
    · simp only [if_pos c8]
      by_cases c9 : n / 65536 < 16
      · simp only [if_pos c9]
        by_cases c10 : n / 65536 < 4
        · simp only [if_pos c10]
          have e : ((31 : Int32) + (-16 : Int32)) = iI (31 - (16 : Nat)) := by decide
          rw [e]
          exact fin (n / 65536) 16 0 (by omega) (by omega) (by omega) (by omega)
        · simp only [if_neg c10]
          have e : (((31 : Int32) + (-16 : Int32)) + (-2 : Int32)) = iI (31 - (18 : Nat)) := by decide
          rw [e]
          exact fin (n / 65536 / 4) 18 0 (by omega) (by omega) (by omega) (by omega)
      · simp only [if_neg c9]
        by_cases c11 : n / 65536 / 16 < 4
        · simp only [if_pos c11]
          have e : (((31 : Int32) + (-16 : Int32)) + (-4 : Int32)) = iI (31 - (20 : Nat)) := by decide
          rw [e]
          exact fin (n / 65536 / 16) 20 0 (by omega) (by omega) (by omega) (by omega)
        · simp only [if_neg c11]
          have e : ((((31 : Int32) + (-16 : Int32)) + (-4 : Int32)) + (-2 : Int32)) = iI (31 - (22 : Nat)) := by decide
          rw [e]
          exact fin (n / 65536 / 16 / 4) 22 0 (by omega) (by omega) (by omega) (by omega)
    · simp only [if_neg c8]
      by_cases c12 : n / 65536 / 256 < 16
      · simp only [if_pos c12]
        by_cases c13 : n / 65536 / 256 < 4
        · simp only [if_pos c13]
          have e : (((31 : Int32) + (-16 : Int32)) + (-8 : Int32)) = iI (31 - (24 : Nat)) := by decide
          rw [e]
          exact fin (n / 65536 / 256) 24 0 (by omega) (by omega) (by omega) (by omega)
        · simp only [if_neg c13]
          have e : ((((31 : Int32) + (-16 : Int32)) + (-8 : Int32)) + (-2 : Int32)) = iI (31 - (26 : Nat)) := by decide
          rw [e]
          exact fin (n / 65536 / 256 / 4) 26 0 (by omega) (by omega) (by omega) (by omega)
      · simp only [if_neg c12]
        by_cases c14 : n / 65536 / 256 / 16 < 4
        · simp only [if_pos c14]
          have e : ((((31 : Int32) + (-16 : Int32)) + (-8 : Int32)) + (-4 : Int32)) = iI (31 - (28 : Nat)) := by decide
          rw [e]
          exact fin (n / 65536 / 256 / 16) 28 0 (by omega) (by omega) (by omega) (by omega)
        · simp only [if_neg c14]
          have e : (((((31 : Int32) + (-16 : Int32)) + (-8 : Int32)) + (-4 : Int32)) + (-2 : Int32)) = iI (31 - (30 : Nat)) := by decide
          rw [e]
          exact fin (n / 65536 / 256 / 16 / 4) 30 0 (by omega) (by omega) (by omega) (by omega)
theorem z_nlz {n : Nat} (h0 : 0 < n) (hn : n < 2 ^ 63) (h : Hp) : ∃ r, r < 63 ∧ hb_is n r ∧ F_J13_numberOfLeadingZeros_95d88 (lN n) h = some (iI (63 - r), h) := by
  unfold F_J13_numberOfLeadingZeros_95d88
  rw [z_32 (by omega), lN_i, lN_i]
  simp only [jl_e, jn_e]
  by_cases c : n / 2 ^ 32 = 0
  · have c2 : nI (n / 2 ^ 32) = 0 := by rw [c]; rfl
    rw [if_pos c2]
    by_cases d : n < 2147483648
    · obtain ⟨r, h1, h2, h3⟩ := z_nlz32 h0 d h
      refine ⟨r, by omega, h2, ?_⟩
      rw [h3, bd_e, il_32, iI_add]
      exact congrArg (fun z => some (iI z, h)) (by omega)
    · refine ⟨31, by omega, ⟨by omega, by omega⟩, ?_⟩
      have e : F_J6_numberOfLeadingZeros_0f7a4 (nI n) h = some (iI 0, h) := by
        have e1 : ¬ (0 : Int32) < nI n := by
          have : nI n = iI ((n : Int) - 4294967296) := by
            rw [nI_iI]
            apply Int32.toBitVec_inj.1
            show BitVec.ofInt 32 _ = BitVec.ofInt 32 _
            apply BitVec.eq_of_toNat_eq
            rw [BitVec.toNat_ofInt, BitVec.toNat_ofInt]
            omega
          rw [this, il_0, iI_lt (by omega) (by omega) (by omega) (by omega)]
          omega
        have e2 : ¬ nI n = 0 := by
          rw [z_nI0]
          omega
        unfold F_J6_numberOfLeadingZeros_0f7a4
        rw [if_neg e1]
        simp only [jn_e]
        rw [if_neg e2]
        rfl
      rw [e, bd_e, il_32, iI_add]
      rfl
  · have c2 : ¬ nI (n / 2 ^ 32) = 0 := by
      rw [z_nI0]
      omega
    rw [if_neg c2]
    obtain ⟨r, h1, h2, h3⟩ := z_nlz32 (n := n / 2 ^ 32) (by omega) (by omega) h
    refine ⟨r + 32, by omega, z_step rfl h2, ?_⟩
    rw [h3, bd_e]
    exact congrArg (fun z => some (iI z, h)) (by omega)
theorem lg_cmp0 (x y : Int64) : (lg_cmp x y = 0) = (x = y) := by
  unfold lg_cmp
  apply propext
  by_cases c : x = y
  · subst c
    rw [if_neg (by rw [gt_iff_lt, Int64.lt_iff_toInt_lt]; omega), if_pos rfl]
    simp
  · rw [if_neg c]
    split
    · exact ⟨fun z => absurd z (by decide), fun z => absurd z c⟩
    · exact ⟨fun z => absurd z (by decide), fun z => absurd z c⟩
theorem lN_0 {n : Nat} (hn : n < 2 ^ 64) : (lN n = 0) = (n = 0) := by
  apply propext
  constructor
  · intro h
    have := congrArg (fun x : Int64 => x.toBitVec.toNat) h
    simp only [wb_tn hn] at this
    exact this
  · intro h
    rw [h]
    rfl
theorem hb_top {n r : Nat} (h : hb_is n r) : n.testBit r = true ∧ ∀ j, r < j → n.testBit j = false := by
  refine ⟨Nat.testBit_of_two_pow_le_and_two_pow_add_one_gt h.1 h.2, fun j hj => ?_⟩
  apply Nat.testBit_lt_two_pow
  exact Nat.lt_of_lt_of_le h.2 (Nat.pow_le_pow_right (by omega) (by omega))
