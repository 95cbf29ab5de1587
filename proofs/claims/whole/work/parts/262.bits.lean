-- ===== how many bits a long word has =====
def pcb (b : Nat) : Nat := ro_sm (fun i => if b.testBit i then 1 else 0) 8
def pcn (k n : Nat) : Nat := ro_sm (fun i => if n.testBit i then 1 else 0) (8 * k)
theorem ro_sm_split (f : Nat → Nat) (m : Nat) : ∀ n, ro_sm f (m + n) = ro_sm f m + ro_sm (fun i => f (m + i)) n
  | 0 => rfl
  | n + 1 => by
    show ro_sm f (m + n) + f (m + n) = _ + (ro_sm _ n + f (m + n))
    rw [ro_sm_split f m n, Nat.add_assoc]
theorem pcn_succ (k n : Nat) : pcn (k + 1) n = pcb (n % 256) + pcn k (n / 256) := by
  unfold pcn pcb
  rw [show 8 * (k + 1) = 8 + 8 * k by omega, ro_sm_split]
  congr 1
  · apply ro_sm_congr
    intro i hi
    have := Nat.testBit_mod_two_pow n 8 i
    rw [show (256 : Nat) = 2 ^ 8 from rfl, this, decide_eq_true hi, Bool.true_and]
  · apply ro_sm_congr
    intro i hi
    have := Nat.testBit_div_two_pow (n := 8) n i
    rw [show (256 : Nat) = 2 ^ 8 from rfl, this, Nat.add_comm]
theorem and_split {a c : Nat} (x y : Nat) (ha : a < 256) (hc : c < 256) : (256 * x + a) &&& (256 * y + c) = 256 * (x &&& y) + (a &&& c) := by
  apply Nat.eq_of_testBit_eq
  intro i
  have h1 : a &&& c < 2 ^ 8 := Nat.lt_of_le_of_lt Nat.and_le_left ha
  rw [show (256 : Nat) = 2 ^ 8 from rfl] at ha hc ⊢
  rw [Nat.testBit_and, Nat.testBit_two_pow_mul_add _ ha, Nat.testBit_two_pow_mul_add _ hc, Nat.testBit_two_pow_mul_add _ h1]
  by_cases z : i < 8
  · rw [if_pos z, if_pos z, if_pos z, Nat.testBit_and]
  · rw [if_neg z, if_neg z, if_neg z, Nat.testBit_and]
def mk1 : Nat → Nat
  | 0 => 0
  | k + 1 => 256 * mk1 k + 85
def mk2 : Nat → Nat
  | 0 => 0
  | k + 1 => 256 * mk2 k + 51
def mk3 : Nat → Nat
  | 0 => 0
  | k + 1 => 256 * mk3 k + 15
def sw1 (k n : Nat) : Nat := n - (n / 2 &&& mk1 k)
def sw2 (k n : Nat) : Nat := (sw1 k n &&& mk2 k) + (sw1 k n / 4 &&& mk2 k)
def sw3 (k n : Nat) : Nat := (sw2 k n + sw2 k n / 16) &&& mk3 k
def swP : Nat → Nat → Nat
  | 0, _ => 0
  | k + 1, n => 256 * swP k (n / 256) + pcb (n % 256)
theorem sw_f1 : ∀ b, b < 256 → ∀ e, e < 2 → ((b / 2 + 128 * e) &&& 85) = (b / 2 &&& 85) ∧ (b / 2 &&& 85) ≤ b := by decide +kernel
theorem sw_f2 : ∀ b, b < 256 → ∀ e, e < 4 → ((b / 4 + 64 * e) &&& 51) = (b / 4 &&& 51) := by decide +kernel
theorem sw_f3 : ∀ b, b < 256 → ∀ e, e < 5 → ((((b - (b / 2 &&& 85)) &&& 51) + ((b - (b / 2 &&& 85)) / 4 &&& 51)) + (((b - (b / 2 &&& 85)) &&& 51) + ((b - (b / 2 &&& 85)) / 4 &&& 51)) / 16 + 16 * e) &&& 15 = pcb b ∧ (((b - (b / 2 &&& 85)) &&& 51) + ((b - (b / 2 &&& 85)) / 4 &&& 51)) % 16 ≤ 4 ∧ (((b - (b / 2 &&& 85)) &&& 51) + ((b - (b / 2 &&& 85)) / 4 &&& 51)) ≤ 68 := by decide +kernel
theorem sw_ok : ∀ (k n : Nat), n < 256 ^ k → sw3 k n = swP k n ∧ sw2 k n % 16 ≤ 4 ∧ sw1 k n ≤ n ∧ sw2 k n < 69 * 256 ^ k
  | 0, n, h => by
    have : n = 0 := by simpa using h
    subst this
    simp [sw3, sw2, sw1, swP, mk1, mk2, mk3]
  | k + 1, n, h => by
    obtain ⟨b, hb⟩ : ∃ b, n % 256 = b := ⟨_, rfl⟩
    obtain ⟨m, hm⟩ : ∃ m, n / 256 = m := ⟨_, rfl⟩
    have hn : n = 256 * m + b := by omega
    have hb2 : b < 256 := by omega
    have hm2 : m < 256 ^ k := by
      rw [Nat.pow_succ] at h
      rw [← hm]
      exact Nat.div_lt_of_lt_mul (by omega)
    obtain ⟨i3, i2, i1, i4⟩ := sw_ok k m hm2
    have a1 := sw_f1 b hb2 (m % 2) (by omega)
    have e1 : n / 2 = 256 * (m / 2) + (b / 2 + 128 * (m % 2)) := by omega
    have e2 : n / 2 &&& mk1 (k + 1) = 256 * (m / 2 &&& mk1 k) + (b / 2 &&& 85) := by
      show n / 2 &&& (256 * mk1 k + 85) = _
      rw [e1, and_split _ _ (by omega) (by omega), a1.1]
    have hle : (m / 2 &&& mk1 k) ≤ m := Nat.le_trans Nat.and_le_left (by omega)
    have e3 : sw1 (k + 1) n = 256 * sw1 k m + (b - (b / 2 &&& 85)) := by
      unfold sw1
      rw [e2]
      have := a1.2
      omega
    obtain ⟨b1, hb1⟩ : ∃ b1, b - (b / 2 &&& 85) = b1 := ⟨_, rfl⟩
    have hb1l : b1 < 256 := by omega
    rw [hb1] at e3
    have a2 := sw_f2 b1 hb1l (sw1 k m % 4) (by omega)
    have e4 : sw1 (k + 1) n / 4 = 256 * (sw1 k m / 4) + (b1 / 4 + 64 * (sw1 k m % 4)) := by omega
    have e5 : sw2 (k + 1) n = 256 * sw2 k m + ((b1 &&& 51) + (b1 / 4 &&& 51)) := by
      show (sw1 (k + 1) n &&& (256 * mk2 k + 51)) + (sw1 (k + 1) n / 4 &&& (256 * mk2 k + 51)) = _
      rw [e4, e3, and_split _ _ hb1l (by omega), and_split _ _ (by omega) (by omega), a2]
      unfold sw2
      omega
    have a3 := sw_f3 b hb2 (sw2 k m % 16) (by omega)
    rw [hb1] at a3
    obtain ⟨b2, hb2'⟩ : ∃ b2, (b1 &&& 51) + (b1 / 4 &&& 51) = b2 := ⟨_, rfl⟩
    rw [hb2'] at e5 a3
    have e6 : sw2 (k + 1) n + sw2 (k + 1) n / 16 = 256 * (sw2 k m + sw2 k m / 16) + (b2 + b2 / 16 + 16 * (sw2 k m % 16)) := by omega
    refine ⟨?_, by omega, by omega, ?_⟩
    · show (sw2 (k + 1) n + sw2 (k + 1) n / 16) &&& (256 * mk3 k + 15) = _
      rw [e6, and_split _ _ (by omega) (by omega), a3.1]
      show _ = 256 * swP k (n / 256) + pcb (n % 256)
      rw [hm, hb, ← i3]
      rfl
    · rw [Nat.pow_succ]
      omega
theorem pcb_le : ∀ b, b < 256 → pcb b ≤ 8 := by decide +kernel
theorem sw_end {n : Nat} (hn : n < 18446744073709551616) : (sw3 8 n + sw3 8 n / 256 + (sw3 8 n + sw3 8 n / 256) / 65536 + (sw3 8 n + sw3 8 n / 256 + (sw3 8 n + sw3 8 n / 256) / 65536) / 4294967296) % 128 = pcn 8 n ∧ sw3 8 n < 16 * 256 ^ 7 := by
  obtain ⟨h, -⟩ := sw_ok 8 n (by omega)
  have hz : ∀ m, pcn 0 m = 0 := fun _ => rfl
  have hz2 : ∀ m, swP 0 m = 0 := fun _ => rfl
  have hs : ∀ k m, swP (k + 1) m = 256 * swP k (m / 256) + pcb (m % 256) := fun _ _ => rfl
  rw [h]
  rw [hs, hs, hs, hs, hs, hs, hs, hs, hz2, pcn_succ, pcn_succ, pcn_succ, pcn_succ, pcn_succ, pcn_succ, pcn_succ, pcn_succ, hz]
  have p0 := pcb_le (n % 256) (by omega)
  have p1 := pcb_le (n / 256 % 256) (by omega)
  have p2 := pcb_le (n / 256 / 256 % 256) (by omega)
  have p3 := pcb_le (n / 256 / 256 / 256 % 256) (by omega)
  have p4 := pcb_le (n / 256 / 256 / 256 / 256 % 256) (by omega)
  have p5 := pcb_le (n / 256 / 256 / 256 / 256 / 256 % 256) (by omega)
  have p6 := pcb_le (n / 256 / 256 / 256 / 256 / 256 / 256 % 256) (by omega)
  have p7 := pcb_le (n / 256 / 256 / 256 / 256 / 256 / 256 / 256 % 256) (by omega)
  generalize pcb (n % 256) = q0 at *
  generalize pcb (n / 256 % 256) = q1 at *
  generalize pcb (n / 256 / 256 % 256) = q2 at *
  generalize pcb (n / 256 / 256 / 256 % 256) = q3 at *
  generalize pcb (n / 256 / 256 / 256 / 256 % 256) = q4 at *
  generalize pcb (n / 256 / 256 / 256 / 256 / 256 % 256) = q5 at *
  generalize pcb (n / 256 / 256 / 256 / 256 / 256 / 256 % 256) = q6 at *
  generalize pcb (n / 256 / 256 / 256 / 256 / 256 / 256 / 256 % 256) = q7 at *
  clear hs hz hz2 h hn
  obtain ⟨r7, e7⟩ : ∃ r, r = 256 * 0 + q7 := ⟨_, rfl⟩
  obtain ⟨r6, e6⟩ : ∃ r, r = 256 * r7 + q6 := ⟨_, rfl⟩
  obtain ⟨r5, e5⟩ : ∃ r, r = 256 * r6 + q5 := ⟨_, rfl⟩
  obtain ⟨r4, e4⟩ : ∃ r, r = 256 * r5 + q4 := ⟨_, rfl⟩
  obtain ⟨r3, e3⟩ : ∃ r, r = 256 * r4 + q3 := ⟨_, rfl⟩
  obtain ⟨r2, e2⟩ : ∃ r, r = 256 * r3 + q2 := ⟨_, rfl⟩
  obtain ⟨r1, e1⟩ : ∃ r, r = 256 * r2 + q1 := ⟨_, rfl⟩
  obtain ⟨r0, e0⟩ : ∃ r, r = 256 * r1 + q0 := ⟨_, rfl⟩
  rw [← e7, ← e6, ← e5, ← e4, ← e3, ← e2, ← e1, ← e0]
  have g1 : r0 / 256 = r1 := by omega
  have g2 : (r0 + r1) / 65536 = r2 + r3 := by omega
  have g3 : (r0 + r1 + (r2 + r3)) / 4294967296 = r4 + r5 + r6 + r7 := by omega
  rw [g1, g2, g3]
  refine ⟨?_, by omega⟩
  omega
theorem lL_and (a b : Nat) : lN a &&& lN b = lN (a &&& b) := by
  apply wb_inj
  rw [Int64.toBitVec_and, wb_tb, wb_tb, wb_tb]
  apply BitVec.eq_of_toNat_eq
  rw [BitVec.toNat_and, BitVec.toNat_ofNat, BitVec.toNat_ofNat, BitVec.toNat_ofNat, Nat.and_mod_two_pow]
theorem lL_or (a b : Nat) : lN a ||| lN b = lN (a ||| b) := by
  apply wb_inj
  rw [Int64.toBitVec_or, wb_tb, wb_tb, wb_tb]
  apply BitVec.eq_of_toNat_eq
  rw [BitVec.toNat_or, BitVec.toNat_ofNat, BitVec.toNat_ofNat, BitVec.toNat_ofNat, Nat.or_mod_two_pow]
theorem lL_add (a b : Nat) : lN a + lN b = lN (a + b) := by
  apply wb_inj
  rw [Int64.toBitVec_add, wb_tb, wb_tb, wb_tb]
  apply BitVec.eq_of_toNat_eq
  rw [BitVec.toNat_add, BitVec.toNat_ofNat, BitVec.toNat_ofNat, BitVec.toNat_ofNat, ← Nat.add_mod]
theorem lL_sub {a b : Nat} (h : b ≤ a) : lN a - lN b = lN (a - b) := by
  have e : lN a = lN (a - b) + lN b := by rw [lL_add, Nat.sub_add_cancel h]
  rw [e]
  apply wb_inj
  rw [Int64.toBitVec_sub, Int64.toBitVec_add, BitVec.add_sub_cancel]
theorem lL_1 {n : Nat} (hn : n < 18446744073709551616) : ((lN n).toUInt64 >>> ((1 : Int32).toInt64.toUInt64 &&& Int64.toUInt64 63)).toInt64 = lN (n / 2) := wb_shr (k := 1) hn (by omega)
theorem lL_2 {n : Nat} (hn : n < 18446744073709551616) : ((lN n).toUInt64 >>> ((2 : Int32).toInt64.toUInt64 &&& Int64.toUInt64 63)).toInt64 = lN (n / 4) := wb_shr (k := 2) hn (by omega)
theorem lL_4 {n : Nat} (hn : n < 18446744073709551616) : ((lN n).toUInt64 >>> ((4 : Int32).toInt64.toUInt64 &&& Int64.toUInt64 63)).toInt64 = lN (n / 16) := wb_shr (k := 4) hn (by omega)
theorem lL_8 {n : Nat} (hn : n < 18446744073709551616) : ((lN n).toUInt64 >>> ((8 : Int32).toInt64.toUInt64 &&& Int64.toUInt64 63)).toInt64 = lN (n / 256) := wb_shr (k := 8) hn (by omega)
theorem lL_16 {n : Nat} (hn : n < 18446744073709551616) : ((lN n).toUInt64 >>> ((16 : Int32).toInt64.toUInt64 &&& Int64.toUInt64 63)).toInt64 = lN (n / 65536) := wb_shr (k := 16) hn (by omega)
theorem lL_32 {n : Nat} (hn : n < 18446744073709551616) : ((lN n).toUInt64 >>> ((32 : Int32).toInt64.toUInt64 &&& Int64.toUInt64 63)).toInt64 = lN (n / 4294967296) := wb_shr (k := 32) hn (by omega)
theorem c_bitCountL {n : Nat} (hn : n < 18446744073709551616) (h : Hp) : F_J13_bitCount_95d88 (lN n) h = some (iI (pcn 8 n), h) := by
  obtain ⟨e3, e2, e1, e4⟩ := sw_ok 8 n (by omega)
  have ee := sw_end hn
  have m1 : (6148914691236517205 : Int64) = lN (mk1 8) := by decide
  have m2 : (3689348814741910323 : Int64) = lN (mk2 8) := by decide
  have m3 : (1085102592571150095 : Int64) = lN (mk3 8) := by decide
  have hle : n / 2 &&& mk1 8 ≤ n := Nat.le_trans Nat.and_le_left (by omega)
  unfold F_J13_bitCount_95d88
  simp only [jl_e]
  rw [lL_1 hn, m1, lL_and, lL_sub hle]
  have f1 : n - (n / 2 &&& mk1 8) = sw1 8 n := rfl
  rw [f1, lL_2 (by omega), m2, lL_and, lL_and, lL_add]
  have f2 : (sw1 8 n &&& mk2 8) + (sw1 8 n / 4 &&& mk2 8) = sw2 8 n := rfl
  have f2l : sw2 8 n < 9 * 2 ^ 60 := by
    have a1 : (sw1 8 n &&& mk2 8) ≤ mk2 8 := Nat.and_le_right
    have a2 : (sw1 8 n / 4 &&& mk2 8) ≤ mk2 8 := Nat.and_le_right
    have a3 : mk2 8 = 3689348814741910323 := by decide
    omega
  rw [f2, lL_4 (by omega), lL_add, m3, lL_and]
  have f3 : (sw2 8 n + sw2 8 n / 16) &&& mk3 8 = sw3 8 n := rfl
  rw [f3]
  have g := ee.2
  rw [lL_8 (by omega), lL_add, lL_16 (by omega), lL_add, lL_32 (by omega), lL_add, lN_i, nI_iI]
  have e127 : (127 : Int32) = iI ((127 : Nat) : Int) := rfl
  rw [e127, ms_and]
  congr 2
  apply iI_cg
  rw [show (127 : Nat) = 2 ^ 7 - 1 from rfl, Nat.and_two_pow_sub_one_eq_mod]
  exact congrArg _ ee.1
-- the reference's words over long sets
theorem m_has {n k : Nat} (hn : n < 18446744073709551616) (hk : k < 64) (h : Hp) : F_X12_has (lN n) (iI k) h = some (bI (n.testBit k = true), h) := by
  have e : (lN n >>> ((iI (k : Int)).toInt64 &&& 63)) &&& (1 : Int64) = lN (if n.testBit k then 1 else 0) := by
    rw [← nI_iI, wb_c k hk]
    apply wb_inj
    rw [Int64.toBitVec_and, Int64.toBitVec_shiftRight, wb_tb, wb_tb, wb_tb, wb_sm k hk]
    apply BitVec.eq_of_getLsbD_eq
    intro i hi
    have h1 : (1 : Int64).toBitVec = 1#64 := rfl
    rw [BitVec.getLsbD_and, h1, BitVec.sshiftRight_eq', BitVec.getLsbD_sshiftRight, BitVec.toNat_ofNat, Nat.mod_eq_of_lt (show k < 2 ^ 64 by omega)]
    by_cases z : i = 0
    · subst z
      have h2 : (BitVec.ofNat 64 n).getLsbD k = n.testBit k := by
        rw [BitVec.getLsbD_ofNat, decide_eq_true (show k < 64 from hk), Bool.true_and]
      rw [if_pos (by omega), Nat.add_zero, h2]
      cases n.testBit k <;> decide
    · have h2 : (1#64).getLsbD i = false := by
        rw [BitVec.getLsbD_one]
        simp [z]
      rw [h2, Bool.and_false]
      cases n.testBit k
      · simp
      · show false = (1#64).getLsbD i
        rw [h2]
  unfold F_X12_has
  rw [e]
  simp only [jn_e, lg_cmp0]
  by_cases c : n.testBit k = true
  · rw [if_pos c, if_pos (by decide), bI_t c]
    rfl
  · rw [if_neg c, if_neg (by decide), bI_f c]
    rfl
theorem m_ones {n : Nat} (hn : n < 18446744073709551616) (h : Hp) : F_X12_ones (lN n) h = some (iI (pcn 8 n), h) := by
  unfold F_X12_ones
  have hb : ∀ k, k ≤ 64 → ro_sm (fun i => if n.testBit i then 1 else 0) k ≤ 64 := by
    intro k hk
    have := ro_sm_le (f := fun i => if n.testBit i then 1 else 0) (c := 1) (n := k) (fun m _ => by show (if _ then 1 else 0) ≤ 1; split <;> omega)
    omega
  refine lp_up (α := Int32 → Int32 → Hp → Option (Int32 × Hp)) (P := fun k c => c (iI (ro_sm (fun i => if n.testBit i then 1 else 0) k)) (iI k) h = some (iI (pcn 8 n), h)) 64 (by omega) (fun k c hk ih => ?_)
  by_cases z : k < 64
  · have ih := ih z
    simp (disch := omega) only [jl_e, jn_e, bd_e, gd_t, iI_add, iI_sub, iI_mul, iI_neg, if_true, if_false, not_true_eq_false, not_false_eq_true, Nat.add_zero, Int.toNat_natCast, iI_cl, iI_lt, iI_eq, gd_in, bI_eq0, bI_eq1, bI_isB, isB_0, isB_1, il_0, il_1, il_2, il_3, il_4, il_5, il_6, il_7, il_8, il_9, il_10, il_12, il_16, il_18, il_24, il_27, il_30, il_31, il_32, il_40, il_47, il_48, il_49, il_55, il_56, il_57, il_59, il_63, il_64, il_96, il_97, il_98, il_99, il_101, il_103, il_104, il_105, il_108, il_109, il_110, il_111, il_112, il_114, il_115, il_116, il_117, il_119, il_122, il_127, il_128, il_200, il_225, il_255, il_256, il_999, il_1575, il_9999, il_65536, il_252645135, il_858993459, il_1431655765, m_has hn z]
    rw [if_pos (by omega)]
    have e : ro_sm (fun i => if n.testBit i then 1 else 0) (k + 1) = ro_sm (fun i => if n.testBit i then 1 else 0) k + if n.testBit k then 1 else 0 := rfl
    rw [e] at ih
    by_cases y : n.testBit k = true
    · rw [if_neg (fun q => q y)]
      rw [if_pos y] at ih
      exact ih
    · rw [if_pos y]
      rw [if_neg y] at ih
      exact ih
  · simp (disch := omega) only [jl_e, jn_e, bd_e, gd_t, iI_add, iI_sub, iI_mul, iI_neg, if_true, if_false, not_true_eq_false, not_false_eq_true, Nat.add_zero, Int.toNat_natCast, iI_cl, iI_lt, iI_eq, gd_in, bI_eq0, bI_eq1, bI_isB, isB_0, isB_1, il_0, il_1, il_2, il_3, il_4, il_5, il_6, il_7, il_8, il_9, il_10, il_12, il_16, il_18, il_24, il_27, il_30, il_31, il_32, il_40, il_47, il_48, il_49, il_55, il_56, il_57, il_59, il_63, il_64, il_96, il_97, il_98, il_99, il_101, il_103, il_104, il_105, il_108, il_109, il_110, il_111, il_112, il_114, il_115, il_116, il_117, il_119, il_122, il_127, il_128, il_200, il_225, il_255, il_256, il_999, il_1575, il_9999, il_65536, il_252645135, il_858993459, il_1431655765]
    rw [if_neg (by omega), show k = 64 by omega]
    rfl
theorem m_firstOf {n f : Nat} (hn : n < 18446744073709551616) (hf : f ≤ 48) (h : Hp) : F_X12_firstOf (lN n) (iI ((f : Int) - 1)) h = some (iI (ro_f n.testBit f), h) := by
  unfold F_X12_firstOf
  rw [jl_e, il_1, iI_add, Int.sub_add_cancel]
  have key : ∀ (d k : Nat), k + d = 48 → ∀ m, d < m → (lp m (fun (c4 : Int32 → Hp → Option (Int32 × Hp)) (v2 : Int32) (h3 : Hp) =>
      jn (fun (h5 : Hp) => some (v2, h5)) (fun j6 => if v2 < (48 : Int32) then (bd (F_X12_has (lN n) v2 h3) (fun r7 h8 => if r7 = 0 then (c4 (v2 + (1 : Int32)) h8) else (j6 h8))) else (j6 h3))) (fun _ _ => none)) (iI k) h = some (iI (ro_g n.testBit d), h) := by
    intro d
    induction d with
    | zero =>
      intro k hk m hm
      obtain ⟨m', rfl⟩ : ∃ m', m = m' + 1 := ⟨m - 1, by omega⟩
      rw [lp_s]
      simp (disch := omega) only [jl_e, jn_e, bd_e, gd_t, iI_add, iI_sub, iI_mul, iI_neg, if_true, if_false, not_true_eq_false, not_false_eq_true, Nat.add_zero, Int.toNat_natCast, iI_cl, iI_lt, iI_eq, gd_in, bI_eq0, bI_eq1, bI_isB, isB_0, isB_1, il_0, il_1, il_2, il_3, il_4, il_5, il_6, il_7, il_8, il_9, il_10, il_12, il_16, il_18, il_24, il_27, il_30, il_31, il_32, il_40, il_47, il_48, il_49, il_55, il_56, il_57, il_59, il_63, il_64, il_96, il_97, il_98, il_99, il_101, il_103, il_104, il_105, il_108, il_109, il_110, il_111, il_112, il_114, il_115, il_116, il_117, il_119, il_122, il_127, il_128, il_200, il_225, il_255, il_256, il_999, il_1575, il_9999, il_65536, il_252645135, il_858993459, il_1431655765]
      rw [if_neg (by omega), show k = 48 by omega]
      rfl
    | succ d ih =>
      intro k hk m hm
      obtain ⟨m', rfl⟩ : ∃ m', m = m' + 1 := ⟨m - 1, by omega⟩
      rw [lp_s]
      have i2 := ih (k + 1) (by omega) m' (by omega)
      simp (disch := omega) only [jl_e, jn_e, bd_e, gd_t, iI_add, iI_sub, iI_mul, iI_neg, if_true, if_false, not_true_eq_false, not_false_eq_true, Nat.add_zero, Int.toNat_natCast, iI_cl, iI_lt, iI_eq, gd_in, bI_eq0, bI_eq1, bI_isB, isB_0, isB_1, il_0, il_1, il_2, il_3, il_4, il_5, il_6, il_7, il_8, il_9, il_10, il_12, il_16, il_18, il_24, il_27, il_30, il_31, il_32, il_40, il_47, il_48, il_49, il_55, il_56, il_57, il_59, il_63, il_64, il_96, il_97, il_98, il_99, il_101, il_103, il_104, il_105, il_108, il_109, il_110, il_111, il_112, il_114, il_115, il_116, il_117, il_119, il_122, il_127, il_128, il_200, il_225, il_255, il_256, il_999, il_1575, il_9999, il_65536, il_252645135, il_858993459, il_1431655765, m_has hn (show k < 64 by omega)]
      rw [if_pos (by omega)]
      have e : ro_g n.testBit (d + 1) = if n.testBit (47 - d) then 47 - d else ro_g n.testBit d := rfl
      rw [e, show 47 - d = k by omega]
      by_cases y : n.testBit k = true
      · rw [if_neg (fun q => q y), if_pos y]
      · rw [if_pos y, if_neg y]
        exact i2
  have := key (48 - f) f (by omega) 4000000000 (by omega)
  exact this
theorem m_lastOf {n e : Nat} (hn : n < 18446744073709551616) (he : e ≤ 48) (h : Hp) : F_X12_lastOf (lN n) (iI e) h = some (iI ((ro_l n.testBit e : Int) - 1), h) := by
  unfold F_X12_lastOf
  rw [jl_e, il_1, iI_sub]
  have key : ∀ (d : Nat), d ≤ 48 → ∀ m, d < m → (lp m (fun (c4 : Int32 → Hp → Option (Int32 × Hp)) (v2 : Int32) (h3 : Hp) =>
      jn (fun (h5 : Hp) => some (v2, h5)) (fun j6 => if v2 < 0 then (j6 h3) else (bd (F_X12_has (lN n) v2 h3) (fun r7 h8 => if r7 = 0 then (c4 (v2 + (-1 : Int32)) h8) else (j6 h8))))) (fun _ _ => none)) (iI ((d : Int) - 1)) h = some (iI ((ro_l n.testBit d : Int) - 1), h) := by
    intro d
    induction d with
    | zero =>
      intro _ m hm
      obtain ⟨m', rfl⟩ : ∃ m', m = m' + 1 := ⟨m - 1, by omega⟩
      rw [lp_s]
      simp (disch := omega) only [jl_e, jn_e, bd_e, gd_t, iI_add, iI_sub, iI_mul, iI_neg, if_true, if_false, not_true_eq_false, not_false_eq_true, Nat.add_zero, Int.toNat_natCast, iI_cl, iI_lt, iI_eq, gd_in, bI_eq0, bI_eq1, bI_isB, isB_0, isB_1, il_0, il_1, il_2, il_3, il_4, il_5, il_6, il_7, il_8, il_9, il_10, il_12, il_16, il_18, il_24, il_27, il_30, il_31, il_32, il_40, il_47, il_48, il_49, il_55, il_56, il_57, il_59, il_63, il_64, il_96, il_97, il_98, il_99, il_101, il_103, il_104, il_105, il_108, il_109, il_110, il_111, il_112, il_114, il_115, il_116, il_117, il_119, il_122, il_127, il_128, il_200, il_225, il_255, il_256, il_999, il_1575, il_9999, il_65536, il_252645135, il_858993459, il_1431655765]
      rw [if_pos (by omega)]
      rfl
    | succ d ih =>
      intro hd m hm
      obtain ⟨m', rfl⟩ : ∃ m', m = m' + 1 := ⟨m - 1, by omega⟩
      rw [lp_s]
      have i2 := ih (by omega) m' (by omega)
      rw [show ((d + 1 : Nat) : Int) - 1 = (d : Int) by omega]
      simp (disch := omega) only [jl_e, jn_e, bd_e, gd_t, iI_add, iI_sub, iI_mul, iI_neg, if_true, if_false, not_true_eq_false, not_false_eq_true, Nat.add_zero, Int.toNat_natCast, iI_cl, iI_lt, iI_eq, gd_in, bI_eq0, bI_eq1, bI_isB, isB_0, isB_1, il_0, il_1, il_2, il_3, il_4, il_5, il_6, il_7, il_8, il_9, il_10, il_12, il_16, il_18, il_24, il_27, il_30, il_31, il_32, il_40, il_47, il_48, il_49, il_55, il_56, il_57, il_59, il_63, il_64, il_96, il_97, il_98, il_99, il_101, il_103, il_104, il_105, il_108, il_109, il_110, il_111, il_112, il_114, il_115, il_116, il_117, il_119, il_122, il_127, il_128, il_200, il_225, il_255, il_256, il_999, il_1575, il_9999, il_65536, il_252645135, il_858993459, il_1431655765, m_has hn (show d < 64 by omega)]
      rw [if_neg (by omega)]
      have e : ro_l n.testBit (d + 1) = if n.testBit d then d + 1 else ro_l n.testBit d := rfl
      rw [e]
      by_cases y : n.testBit d = true
      · rw [if_neg (fun q => q y), if_pos y]
        exact congrArg (fun z => some (iI z, h)) (by omega)
      · rw [if_pos y, if_neg y]
        exact i2
  exact key e he 4000000000 (by omega)
