-- ===== reading a heap that was written =====
theorem aG_aS_s (h : Hp) (k i : Nat) (x : Int32) : aG (aS h k i x) k i = x := by
  show (if k = k then upd (aF h k) i x else h.2.1 k) i = x
  rw [if_pos rfl, upd_s]
theorem aG_aS_j {i j : Nat} (n : j ≠ i) (h : Hp) (k : Nat) (x : Int32) : aG (aS h k i x) k j = aG h k j := by
  show (if k = k then upd (aF h k) i x else h.2.1 k) j = _
  rw [if_pos rfl, upd_n n]
  rfl
theorem aG_aS_k {k u : Nat} (n : u ≠ k) (h : Hp) (i j : Nat) (x : Int32) : aG (aS h k i x) u j = aG h u j := by
  show (if u = k then upd (aF h k) i x else h.2.1 u) j = _
  rw [if_neg n]
  rfl
theorem aG_aV_s (h : Hp) (k j : Nat) (f : Nat → Int32) : aG (aV h k f) k j = f j := by
  show (if k = k then f else h.2.1 k) j = _
  rw [if_pos rfl]
theorem aG_aV_k {k u : Nat} (n : u ≠ k) (h : Hp) (j : Nat) (f : Nat → Int32) : aG (aV h k f) u j = aG h u j := by
  show (if u = k then f else h.2.1 u) j = _
  rw [if_neg n]
  rfl
theorem aG_sS (h : Hp) (v : Nat) (x : Int32) (k j : Nat) : aG (sS h v x) k j = aG h k j := rfl
theorem aG_lS (h : Hp) (v i : Nat) (x : Int64) (k j : Nat) : aG (lS h v i x) k j = aG h k j := rfl
theorem aG_lV (h : Hp) (v : Nat) (x : Nat → Int64) (k j : Nat) : aG (lV h v x) k j = aG h k j := rfl
theorem aG_tS (h : Hp) (v : Nat) (x : Int64) (k j : Nat) : aG (tS h v x) k j = aG h k j := rfl
theorem aG_oS (h : Hp) (v : Nat) (x : Option Nat) (k j : Nat) : aG (oS h v x) k j = aG h k j := rfl
theorem sG_aS (h : Hp) (k i : Nat) (x : Int32) (v : Nat) : sG (aS h k i x) v = sG h v := rfl
theorem sG_lS (h : Hp) (k i : Nat) (x : Int64) (v : Nat) : sG (lS h k i x) v = sG h v := rfl
theorem lG_lS_s (h : Hp) (k i : Nat) (x : Int64) : lG (lS h k i x) k i = x := by
  show (if k = k then vp_updL (lF h k) i x else h.2.2.1 k) i = x
  rw [if_pos rfl, updL_s]
theorem lG_lS_j {i j : Nat} (n : j ≠ i) (h : Hp) (k : Nat) (x : Int64) : lG (lS h k i x) k j = lG h k j := by
  show (if k = k then vp_updL (lF h k) i x else h.2.2.1 k) j = _
  rw [if_pos rfl, updL_n n]
  rfl
theorem lG_lS_k {k u : Nat} (n : u ≠ k) (h : Hp) (i j : Nat) (x : Int64) : lG (lS h k i x) u j = lG h u j := by
  show (if u = k then vp_updL (lF h k) i x else h.2.2.1 u) j = _
  rw [if_neg n]
  rfl
theorem lG_lV_s (h : Hp) (k j : Nat) (f : Nat → Int64) : lG (lV h k f) k j = f j := by
  show (if k = k then f else h.2.2.1 k) j = _
  rw [if_pos rfl]
theorem lG_lV_k {k u : Nat} (n : u ≠ k) (h : Hp) (j : Nat) (f : Nat → Int64) : lG (lV h k f) u j = lG h u j := by
  show (if u = k then f else h.2.2.1 u) j = _
  rw [if_neg n]
  rfl
theorem lG_sS (h : Hp) (v : Nat) (x : Int32) (k j : Nat) : lG (sS h v x) k j = lG h k j := rfl
theorem lG_aS (h : Hp) (v i : Nat) (x : Int32) (k j : Nat) : lG (aS h v i x) k j = lG h k j := rfl
theorem lG_aV (h : Hp) (v : Nat) (x : Nat → Int32) (k j : Nat) : lG (aV h v x) k j = lG h k j := rfl
theorem lG_tS (h : Hp) (v : Nat) (x : Int64) (k j : Nat) : lG (tS h v x) k j = lG h k j := rfl
theorem lG_oS (h : Hp) (v : Nat) (x : Option Nat) (k j : Nat) : lG (oS h v x) k j = lG h k j := rfl
theorem tG_aS (h : Hp) (v i : Nat) (x : Int32) (k : Nat) : tG (aS h v i x) k = tG h k := rfl
theorem tG_lS (h : Hp) (v i : Nat) (x : Int64) (k : Nat) : tG (lS h v i x) k = tG h k := rfl
theorem oG_aS (h : Hp) (v i : Nat) (x : Int32) (k : Nat) : oG (aS h v i x) k = oG h k := rfl
theorem oG_lS (h : Hp) (v i : Nat) (x : Int64) (k : Nat) : oG (lS h v i x) k = oG h k := rfl
theorem aV_aV (h : Hp) (k : Nat) (f g : Nat → Int32) : aV (aV h k f) k g = aV h k g := by
  obtain ⟨a, b, c, d, e⟩ := h
  show (a, _, c, d, e) = (a, _, c, d, e)
  congr 1
  congr 1
  funext u
  show (if u = k then g else if u = k then f else b u) = if u = k then g else b u
  by_cases z : u = k
  · rw [if_pos z, if_pos z]
  · rw [if_neg z, if_neg z, if_neg z]
theorem aV_self (h : Hp) (k : Nat) : aV h k (aF h k) = h := by
  obtain ⟨a, b, c, d, e⟩ := h
  show (a, _, c, d, e) = (a, _, c, d, e)
  congr 1
  congr 1
  funext u
  show (if u = k then b k else b u) = b u
  by_cases z : u = k
  · rw [if_pos z, z]
  · rw [if_neg z]
theorem lV_lV (h : Hp) (k : Nat) (f g : Nat → Int64) : lV (lV h k f) k g = lV h k g := by
  obtain ⟨a, b, c, d, e⟩ := h
  show (a, b, _, d, e) = (a, b, _, d, e)
  congr 1
  congr 1
  congr 1
  funext u
  show (if u = k then g else if u = k then f else c u) = if u = k then g else c u
  by_cases z : u = k
  · rw [if_pos z, if_pos z]
  · rw [if_neg z, if_neg z, if_neg z]
theorem lV_self (h : Hp) (k : Nat) : lV h k (lF h k) = h := by
  obtain ⟨a, b, c, d, e⟩ := h
  show (a, b, _, d, e) = (a, b, _, d, e)
  congr 1
  congr 1
  congr 1
  funext u
  show (if u = k then c k else c u) = c u
  by_cases z : u = k
  · rw [if_pos z, z]
  · rw [if_neg z]
theorem FrX.sg {S A : List Nat} {h h' : Hp} (f : FrX S A h h') {v : Nat} (n : v ∉ S) : sG h' v = sG h v := (f.1 v n).1
theorem FrX.tg {S A : List Nat} {h h' : Hp} (f : FrX S A h h') {v : Nat} (n : v ∉ S) : tG h' v = tG h v := (f.1 v n).2.1
theorem FrX.og {S A : List Nat} {h h' : Hp} (f : FrX S A h h') {v : Nat} (n : v ∉ S) : oG h' v = oG h v := (f.1 v n).2.2
theorem FrX.ag {S A : List Nat} {h h' : Hp} (f : FrX S A h h') {v : Nat} (n : v ∉ A) (i : Nat) : aG h' v i = aG h v i := congrFun (f.2 v n).1 i
theorem FrX.lg {S A : List Nat} {h h' : Hp} (f : FrX S A h h') {v : Nat} (n : v ∉ A) (i : Nat) : lG h' v i = lG h v i := congrFun (f.2 v n).2 i
/-- a row filled -/
theorem j_fill (a n : Nat) (x : Int32) (h : Hp) (hn : n < 1000000) : F_J7_fill_53178 a n x h = some ((), aV h a (fun i => if i < n then x else aG h a i)) := by
  unfold F_J7_fill_53178
  rw [jl_e]
  have key := lp_up (α := Int32 → Hp → Option (Unit × Hp)) (bot := fun _ _ => none) (body := fun (c4 : Int32 → Hp → Option (Unit × Hp)) (v2 : Int32) (h3 : Hp) =>
    if v2 < Int32.ofNat n then (gd (inb v2 n) (jl (aS h3 a v2.toNatClampNeg x) (fun h5 => c4 (v2 + (1 : Int32)) h5))) else (some ((), h3)))
    (P := fun k c => c (iI k) (aV h a (fun i => if i < k then x else aG h a i)) = some ((), aV h a (fun i => if i < n then x else aG h a i))) n (by omega) (fun k c hk ih => by
      have e : Int32.ofNat n = iI n := nI_iI n
      simp (disch := omega) only [jl_e, jn_e, bd_e, gd_t, iI_add, iI_sub, iI_mul, iI_neg, if_true, if_false, not_true_eq_false, not_false_eq_true, Nat.add_zero, Int.toNat_natCast, iI_cl, iI_lt, iI_eq, gd_in, bI_eq0, bI_eq1, bI_isB, isB_0, isB_1, il_0, il_1, il_2, il_3, il_4, il_5, il_6, il_7, il_8, il_9, il_10, il_12, il_16, il_18, il_24, il_27, il_30, il_31, il_32, il_40, il_47, il_48, il_49, il_55, il_56, il_57, il_59, il_63, il_64, il_96, il_97, il_98, il_99, il_101, il_103, il_104, il_105, il_108, il_109, il_110, il_111, il_112, il_114, il_115, il_116, il_117, il_119, il_122, il_127, il_128, il_200, il_225, il_255, il_256, il_999, il_1575, il_9999, il_65536, il_252645135, il_858993459, il_1431655765, e]
      by_cases z : k < n
      · rw [if_pos (by omega)]
        (try simp (disch := omega) only [jl_e, jn_e, bd_e, gd_t, iI_add, iI_sub, iI_mul, iI_neg, if_true, if_false, not_true_eq_false, not_false_eq_true, Nat.add_zero, Int.toNat_natCast, iI_cl, iI_lt, iI_eq, gd_in, bI_eq0, bI_eq1, bI_isB, isB_0, isB_1, il_0, il_1, il_2, il_3, il_4, il_5, il_6, il_7, il_8, il_9, il_10, il_12, il_16, il_18, il_24, il_27, il_30, il_31, il_32, il_40, il_47, il_48, il_49, il_55, il_56, il_57, il_59, il_63, il_64, il_96, il_97, il_98, il_99, il_101, il_103, il_104, il_105, il_108, il_109, il_110, il_111, il_112, il_114, il_115, il_116, il_117, il_119, il_122, il_127, il_128, il_200, il_225, il_255, il_256, il_999, il_1575, il_9999, il_65536, il_252645135, il_858993459, il_1431655765])
        rw [← ih z]
        congr 1
        · rw [aS_V, aV_aV]
          congr 1
          funext i
          rw [aF_aV_s]
          by_cases c : i = k
          · subst c; rw [upd_s, if_pos (by omega)]
          · rw [upd_n c]
            by_cases d : i < k
            · rw [if_pos d, if_pos (by omega)]
            · rw [if_neg d, if_neg (by omega)]
      · rw [if_neg (by omega), show k = n by omega])
  have e0 : aV h a (fun i => if i < 0 then x else aG h a i) = h := by
    have : (fun i => if i < 0 then x else aG h a i) = aF h a := by
      funext i
      rw [if_neg (by omega)]
      rfl
    rw [this, aV_self]
  rw [e0] at key
  exact key
