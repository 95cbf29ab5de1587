-- ===== words of the machine as ints =====
def iI (z : Int) : Int32 := Int32.ofInt z
theorem iI_toInt {z : Int} (h1 : -2147483648 ≤ z) (h2 : z < 2147483648) : (iI z).toInt = z := by
  show (Int32.ofInt z).toInt = z
  rw [Int32.toInt_ofInt]
  show z.bmod (2 ^ 32) = z
  rw [Int.bmod_eq_of_le (by omega) (by omega)]
theorem iI_of (x : Int32) : ∃ z : Int, -2147483648 ≤ z ∧ z < 2147483648 ∧ x = iI z :=
  ⟨x.toInt, by have := Int32.le_toInt x; omega, by have := Int32.toInt_lt x; omega, (Int32.ofInt_toInt x).symm⟩
theorem iI_lt {a b : Int} (h1 : -2147483648 ≤ a) (h2 : a < 2147483648) (h3 : -2147483648 ≤ b) (h4 : b < 2147483648) : (iI a < iI b) = (a < b) := by
  apply propext
  rw [Int32.lt_iff_toInt_lt, iI_toInt h1 h2, iI_toInt h3 h4]
theorem iI_eq {a b : Int} (h1 : -2147483648 ≤ a) (h2 : a < 2147483648) (h3 : -2147483648 ≤ b) (h4 : b < 2147483648) : (iI a = iI b) = (a = b) := by
  apply propext
  refine ⟨fun h => ?_, fun h => by rw [h]⟩
  have := congrArg Int32.toInt h
  rwa [iI_toInt h1 h2, iI_toInt h3 h4] at this
theorem iI_add (a b : Int) : iI a + iI b = iI (a + b) := (Int32.ofInt_add a b).symm
theorem iI_sub (a b : Int) : iI a - iI b = iI (a - b) := (Int32.ofInt_sub a b).symm
theorem iI_mul (a b : Int) : iI a * iI b = iI (a * b) := (Int32.ofInt_mul a b).symm
theorem iI_neg (a : Int) : -iI a = iI (-a) := (Int32.ofInt_neg a).symm
theorem nI_iI (n : Nat) : nI n = iI n := by
  apply Int32.toBitVec_inj.1
  show BitVec.ofNat 32 n = BitVec.ofInt 32 n
  rw [BitVec.ofInt_natCast]
theorem iI_div {a b : Int} (h1 : 0 ≤ a) (h2 : a < 2147483648) (h3 : 0 < b) (h4 : b < 2147483648) : iI a / iI b = iI (a / b) := by
  obtain ⟨m, rfl⟩ := Int.eq_ofNat_of_zero_le h1
  obtain ⟨n, rfl⟩ := Int.eq_ofNat_of_zero_le (show 0 ≤ b by omega)
  rw [← nI_iI, ← nI_iI, pk_div (by omega) (by omega) (by omega), nI_iI]
  rfl
theorem iI_cl {z : Int} (h1 : -2147483648 ≤ z) (h2 : z < 2147483648) : (iI z).toNatClampNeg = z.toNat := by
  show (iI z).toInt.toNat = _
  rw [iI_toInt h1 h2]
theorem iI_inb {z : Int} {n : Nat} (h1 : 0 ≤ z) (h2 : z < n) (h3 : z < 2147483648) : inb (iI z) n = true := by
  have a1 : ¬ iI z < (0 : Int32) := by
    show ¬ iI z < iI 0
    rw [iI_lt (by omega) h3 (by omega) (by omega)]
    omega
  have a2 : ¬ n ≤ (iI z).toNatClampNeg := by
    rw [iI_cl (by omega) h3]
    omega
  unfold inb
  rw [decide_eq_false a1, decide_eq_false a2]
  rfl
theorem iI_cg {a b : Int} (h : a = b) : iI a = iI b := by rw [h]
-- booleans
def bI (c : Prop) [Decidable c] : Int32 := if c then iI 1 else iI 0
theorem bI_t {c : Prop} [Decidable c] (h : c) : bI c = iI 1 := if_pos h
theorem bI_f {c : Prop} [Decidable c] (h : ¬ c) : bI c = iI 0 := if_neg h
theorem bI_eq0 (c : Prop) [Decidable c] : (bI c = iI 0) = ¬ c := by
  by_cases h : c
  · rw [bI_t h]; exact propext ⟨fun z => absurd z (by decide), fun z => absurd h z⟩
  · rw [bI_f h]; exact propext ⟨fun _ => h, fun _ => rfl⟩
theorem bI_eq1 (c : Prop) [Decidable c] : (bI c = iI 1) = c := by
  by_cases h : c
  · rw [bI_t h]; exact propext ⟨fun _ => h, fun _ => rfl⟩
  · rw [bI_f h]; exact propext ⟨fun z => absurd z (by decide), fun z => absurd z h⟩
theorem bI_iff {c d : Prop} [Decidable c] [Decidable d] (h : c ↔ d) : bI c = bI d := by
  by_cases x : c
  · rw [bI_t x, bI_t (h.1 x)]
  · rw [bI_f x, bI_f (fun z => x (h.2 z))]
theorem bI_isB (c : Prop) [Decidable c] : isB (bI c) = true := by
  by_cases h : c
  · rw [bI_t h]; decide
  · rw [bI_f h]; decide
theorem isB_0 : isB (iI 0) = true := by decide
theorem isB_1 : isB (iI 1) = true := by decide
theorem bI_nar (c : Prop) [Decidable c] : vp_nar .boolean (bI c) = bI c := by
  by_cases h : c
  · rw [bI_t h]; rfl
  · rw [bI_f h]; rfl
-- the words of the pure terms
theorem jl_e {α β : Type} (a : α) (k : α → β) : jl a k = k a := rfl
theorem jn_e {α β : Type} (k : α) (f : α → β) : jn k f = f k := rfl
theorem bd_e {τ ρ : Type} (r : τ) (h : Hp) (k : τ → Hp → Option ρ) : bd (some (r, h)) k = k r h := rfl
theorem gd_t {ρ : Type} (o : Option ρ) : gd true o = o := rfl
theorem gd_e {ρ : Type} {c : Bool} (h : c = true) (o : Option ρ) : gd c o = o := by rw [h]; rfl
theorem gd_in {ρ : Type} {z : Int} {n : Nat} (h1 : 0 ≤ z) (h2 : z < n) (h3 : z < 2147483648) (o : Option ρ) : gd (inb (iI z) n) o = o := gd_e (iI_inb h1 h2 h3) o
theorem lp_s {α : Type} (n : Nat) (body : α → α) (bot : α) : lp (n + 1) body bot = body (lp n body bot) := rfl
/-- a loop that counts up to N -/
theorem lp_up {α : Type} {body : α → α} {bot : α} (P : Nat → α → Prop) (N : Nat) (hN : N < 4000000000) (step : ∀ k c, k ≤ N → (k < N → P (k + 1) c) → P k (body c)) : P 0 (lp 4000000000 body bot) := by
  have key : ∀ d k m, k + d = N → d < m → P k (lp m body bot) := by
    intro d
    induction d with
    | zero =>
      intro k m hk hm
      obtain ⟨m', rfl⟩ : ∃ m', m = m' + 1 := ⟨m - 1, by omega⟩
      rw [lp_s]
      exact step k _ (by omega) (fun z => absurd z (by omega))
    | succ d ih =>
      intro k m hk hm
      obtain ⟨m', rfl⟩ : ∃ m', m = m' + 1 := ⟨m - 1, by omega⟩
      rw [lp_s]
      exact step k _ (by omega) (fun _ => ih (k + 1) m' (by omega) (by omega))
  exact key N 0 4000000000 (by omega) hN
/-- a loop with a measure that falls -/
theorem lp_ms {α : Type} {body : α → α} {bot : α} (P : Nat → α → Prop) (N : Nat) (hN : N < 4000000000) (step : ∀ k c, k ≤ N → (∀ j, j < k → P j c) → P k (body c)) : P N (lp 4000000000 body bot) := by
  have key : ∀ m k, k ≤ N → k < m → P k (lp m body bot) := by
    intro m
    induction m with
    | zero => intro k _ h; exact absurd h (Nat.not_lt_zero _)
    | succ m ih =>
      intro k hk hm
      rw [lp_s]
      exact step k _ hk (fun j hj => ih j (by omega) (by omega))
  exact key 4000000000 N (Nat.le_refl _) hN
-- reading what was written
theorem sG_sS_s (h : Hp) (v : Nat) (x : Int32) : sG (sS h v x) v = x := if_pos rfl
theorem sG_sS_n {v u : Nat} (n : u ≠ v) (h : Hp) (x : Int32) : sG (sS h v x) u = sG h u := if_neg n
theorem aF_aV_s (h : Hp) (k : Nat) (f : Nat → Int32) : aF (aV h k f) k = f := if_pos rfl
theorem aF_aV_n {k u : Nat} (n : u ≠ k) (h : Hp) (f : Nat → Int32) : aF (aV h k f) u = aF h u := if_neg n
theorem lF_lV_s (h : Hp) (k : Nat) (f : Nat → Int64) : lF (lV h k f) k = f := if_pos rfl
theorem lF_lV_n {k u : Nat} (n : u ≠ k) (h : Hp) (f : Nat → Int64) : lF (lV h k f) u = lF h u := if_neg n
theorem tG_tS_s (h : Hp) (v : Nat) (x : Int64) : tG (tS h v x) v = x := if_pos rfl
theorem tG_tS_n {v u : Nat} (n : u ≠ v) (h : Hp) (x : Int64) : tG (tS h v x) u = tG h u := if_neg n
theorem oG_oS_s (h : Hp) (v : Nat) (x : Option Nat) : oG (oS h v x) v = x := if_pos rfl
theorem aG_F (h : Hp) (k i : Nat) : aG h k i = aF h k i := rfl
theorem lG_F (h : Hp) (k i : Nat) : lG h k i = lF h k i := rfl
theorem aS_V (h : Hp) (k i : Nat) (x : Int32) : aS h k i x = aV h k (upd (aF h k) i x) := rfl
theorem lS_V (h : Hp) (k i : Nat) (x : Int64) : lS h k i x = lV h k (vp_updL (lF h k) i x) := rfl
theorem sG_aV (h : Hp) (k : Nat) (f : Nat → Int32) (v : Nat) : sG (aV h k f) v = sG h v := rfl
theorem sG_lV (h : Hp) (k : Nat) (f : Nat → Int64) (v : Nat) : sG (lV h k f) v = sG h v := rfl
theorem sG_tS (h : Hp) (k : Nat) (x : Int64) (v : Nat) : sG (tS h k x) v = sG h v := rfl
theorem sG_oS (h : Hp) (k : Nat) (x : Option Nat) (v : Nat) : sG (oS h k x) v = sG h v := rfl
theorem aF_sS (h : Hp) (v : Nat) (x : Int32) (k : Nat) : aF (sS h v x) k = aF h k := rfl
theorem aF_lV (h : Hp) (v : Nat) (x : Nat → Int64) (k : Nat) : aF (lV h v x) k = aF h k := rfl
theorem aF_tS (h : Hp) (v : Nat) (x : Int64) (k : Nat) : aF (tS h v x) k = aF h k := rfl
theorem aF_oS (h : Hp) (v : Nat) (x : Option Nat) (k : Nat) : aF (oS h v x) k = aF h k := rfl
theorem lF_sS (h : Hp) (v : Nat) (x : Int32) (k : Nat) : lF (sS h v x) k = lF h k := rfl
theorem lF_aV (h : Hp) (v : Nat) (x : Nat → Int32) (k : Nat) : lF (aV h v x) k = lF h k := rfl
theorem lF_tS (h : Hp) (v : Nat) (x : Int64) (k : Nat) : lF (tS h v x) k = lF h k := rfl
theorem lF_oS (h : Hp) (v : Nat) (x : Option Nat) (k : Nat) : lF (oS h v x) k = lF h k := rfl
theorem tG_sS (h : Hp) (v : Nat) (x : Int32) (k : Nat) : tG (sS h v x) k = tG h k := rfl
theorem tG_aV (h : Hp) (v : Nat) (x : Nat → Int32) (k : Nat) : tG (aV h v x) k = tG h k := rfl
theorem tG_lV (h : Hp) (v : Nat) (x : Nat → Int64) (k : Nat) : tG (lV h v x) k = tG h k := rfl
theorem oG_sS (h : Hp) (v : Nat) (x : Int32) (k : Nat) : oG (sS h v x) k = oG h k := rfl
theorem oG_aV (h : Hp) (v : Nat) (x : Nat → Int32) (k : Nat) : oG (aV h v x) k = oG h k := rfl
theorem oG_lV (h : Hp) (v : Nat) (x : Nat → Int64) (k : Nat) : oG (lV h v x) k = oG h k := rfl
theorem upd_s (f : Nat → Int32) (i : Nat) (x : Int32) : upd f i x i = x := by simp [upd]
theorem upd_n {i j : Nat} (n : j ≠ i) (f : Nat → Int32) (x : Int32) : upd f i x j = f j := by simp [upd, n]
theorem updL_s (f : Nat → Int64) (i : Nat) (x : Int64) : vp_updL f i x i = x := by simp [vp_updL]
theorem updL_n {i j : Nat} (n : j ≠ i) (f : Nat → Int64) (x : Int64) : vp_updL f i x j = f j := by simp [vp_updL, n]
-- literals
theorem il_0 : (0 : Int32) = iI 0 := rfl
theorem il_1 : (1 : Int32) = iI 1 := rfl
theorem il_2 : (2 : Int32) = iI 2 := rfl
theorem il_3 : (3 : Int32) = iI 3 := rfl
theorem il_4 : (4 : Int32) = iI 4 := rfl
theorem il_5 : (5 : Int32) = iI 5 := rfl
theorem il_6 : (6 : Int32) = iI 6 := rfl
theorem il_7 : (7 : Int32) = iI 7 := rfl
theorem il_8 : (8 : Int32) = iI 8 := rfl
theorem il_9 : (9 : Int32) = iI 9 := rfl
theorem il_10 : (10 : Int32) = iI 10 := rfl
theorem il_12 : (12 : Int32) = iI 12 := rfl
theorem il_16 : (16 : Int32) = iI 16 := rfl
theorem il_18 : (18 : Int32) = iI 18 := rfl
theorem il_24 : (24 : Int32) = iI 24 := rfl
theorem il_27 : (27 : Int32) = iI 27 := rfl
theorem il_30 : (30 : Int32) = iI 30 := rfl
theorem il_31 : (31 : Int32) = iI 31 := rfl
theorem il_32 : (32 : Int32) = iI 32 := rfl
theorem il_40 : (40 : Int32) = iI 40 := rfl
theorem il_47 : (47 : Int32) = iI 47 := rfl
theorem il_48 : (48 : Int32) = iI 48 := rfl
theorem il_49 : (49 : Int32) = iI 49 := rfl
theorem il_55 : (55 : Int32) = iI 55 := rfl
theorem il_56 : (56 : Int32) = iI 56 := rfl
theorem il_57 : (57 : Int32) = iI 57 := rfl
theorem il_59 : (59 : Int32) = iI 59 := rfl
theorem il_63 : (63 : Int32) = iI 63 := rfl
theorem il_64 : (64 : Int32) = iI 64 := rfl
theorem il_96 : (96 : Int32) = iI 96 := rfl
theorem il_97 : (97 : Int32) = iI 97 := rfl
theorem il_98 : (98 : Int32) = iI 98 := rfl
theorem il_99 : (99 : Int32) = iI 99 := rfl
theorem il_101 : (101 : Int32) = iI 101 := rfl
theorem il_103 : (103 : Int32) = iI 103 := rfl
theorem il_104 : (104 : Int32) = iI 104 := rfl
theorem il_105 : (105 : Int32) = iI 105 := rfl
theorem il_108 : (108 : Int32) = iI 108 := rfl
theorem il_109 : (109 : Int32) = iI 109 := rfl
theorem il_110 : (110 : Int32) = iI 110 := rfl
theorem il_111 : (111 : Int32) = iI 111 := rfl
theorem il_112 : (112 : Int32) = iI 112 := rfl
theorem il_114 : (114 : Int32) = iI 114 := rfl
theorem il_115 : (115 : Int32) = iI 115 := rfl
theorem il_116 : (116 : Int32) = iI 116 := rfl
theorem il_117 : (117 : Int32) = iI 117 := rfl
theorem il_119 : (119 : Int32) = iI 119 := rfl
theorem il_122 : (122 : Int32) = iI 122 := rfl
theorem il_127 : (127 : Int32) = iI 127 := rfl
theorem il_128 : (128 : Int32) = iI 128 := rfl
theorem il_200 : (200 : Int32) = iI 200 := rfl
theorem il_225 : (225 : Int32) = iI 225 := rfl
theorem il_255 : (255 : Int32) = iI 255 := rfl
theorem il_256 : (256 : Int32) = iI 256 := rfl
theorem il_999 : (999 : Int32) = iI 999 := rfl
theorem il_1575 : (1575 : Int32) = iI 1575 := rfl
theorem il_9999 : (9999 : Int32) = iI 9999 := rfl
theorem il_65536 : (65536 : Int32) = iI 65536 := rfl
theorem il_252645135 : (252645135 : Int32) = iI 252645135 := rfl
theorem il_858993459 : (858993459 : Int32) = iI 858993459 := rfl
theorem il_1431655765 : (1431655765 : Int32) = iI 1431655765 := rfl
