-- ===== the class's reader: a word, a number =====
def wd_a (a : Nat) : List Nat := [[97, 108, 98, 117, 109], [115, 117, 110], [112, 105, 99, 116, 117, 114, 101], [116, 104, 105, 110, 103], [99, 111, 109, 101, 115], [103, 111, 101, 115], [112, 97, 115, 115, 101, 115], [119, 101, 97, 114, 115], [112, 111, 105, 110, 116], [108, 111, 110, 103], [115, 101, 101]].getD a []
theorem wa_len : ∀ a, a < 11 → slen a = iI (wd_a a).length ∧ (wd_a a).length ≤ 7 ∧ sw_len.getD a 0 = (wd_a a).length := by decide +kernel
theorem wa_chr : ∀ a, a < 11 → ∀ i : Nat, i < 7 → i < (wd_a a).length → schr a (iI i) = iI ((wd_a a).getD i 0) ∧ (wd_a a).getD i 0 ≤ 255 := by decide +kernel
def tk_l (T : List Nat) (s : Nat) : List Nat := (T.drop s).take (tk_e T s - s)
theorem tw_mem {f : Nat → Bool} : ∀ (l : List Nat) (i : Nat), i < (l.takeWhile f).length → f (l.getD i 0) = true
  | [], i, h => absurd h (Nat.not_lt_zero i)
  | a :: l, i, h => by
    by_cases c : f a = true
    · rw [List.takeWhile_cons_of_pos c, List.length_cons] at h
      cases i with
      | zero => exact c
      | succ i => exact tw_mem l i (Nat.lt_of_succ_lt_succ h)
    · rw [List.takeWhile_cons_of_neg c] at h
      exact absurd h (Nat.not_lt_zero i)
theorem tk_in {T : List Nat} {s i : Nat} (k12 : tk_at T s = 1 ∨ tk_at T s = 2) (h1 : s ≤ i) (h2 : i < tk_e T s) : tk_k (T.getD i 0) = tk_at T s := by
  have hs : s < T.length := Decidable.byContradiction (fun w => by unfold tk_at at k12; rw [if_neg w] at k12; omega)
  by_cases c : i = s
  · rw [c]
    unfold tk_at
    rw [if_pos hs]
  · unfold tk_e at h2
    rw [if_neg (by omega), if_neg (by omega)] at h2
    have := tw_mem (f := fun c => tk_k c == tk_at T s) (T.drop (s + 1)) (i - (s + 1)) (by omega)
    rw [drop_getD, show s + 1 + (i - (s + 1)) = i by omega] at this
    simpa using this
theorem tk_l_len {T : List Nat} {s : Nat} (hs : s ≤ T.length) : (tk_l T s).length = tk_e T s - s := by
  have := tk_e_le hs
  unfold tk_l
  rw [List.length_take, List.length_drop]
  omega
theorem tk_l_getD {T : List Nat} {s i : Nat} (hi : i < tk_e T s - s) : (tk_l T s).getD i 0 = T.getD (s + i) 0 := by
  unfold tk_l
  rw [List.getD_eq_getElem?_getD, List.getElem?_take_of_lt hi, ← List.getD_eq_getElem?_getD, drop_getD]
theorem list_eq {l m : List Nat} (h : l.length = m.length) (e : ∀ i, i < l.length → l.getD i 0 = m.getD i 0) : l = m := by
  apply List.ext_getElem h
  intro i h1 h2
  have := e i h1
  rw [List.getD_eq_getElem?_getD, List.getD_eq_getElem?_getD, List.getElem?_eq_getElem h1, List.getElem?_eq_getElem h2] at this
  exact this
def tk_is (T : List Nat) (s a : Nat) : Bool := decide (tk_at T s = 1) && (tk_l T s == wd_a a)
theorem c_is {h : Hp} {T : List Nat} (q : TxC h T) (hl : T.length ≤ 200) (hb : ∀ i, i < T.length → T.getD i 0 ≤ 255) {p : Nat} (hp : p ≤ T.length) (k : TkC h T p) {a : Nat} (ha : a < 11) : F_X6_is a h = some (bI (tk_is T (tk_s T p) a = true), h) := by
  obtain ⟨k1, k2, k3⟩ := k
  have hs := tk_s_le hp
  have he := tk_e_le hs.2
  obtain ⟨w1, w2, w3⟩ := wa_len a ha
  have hK := tk_at_le T (tk_s T p)
  unfold F_X6_is
  rw [jn_e, k1, k2, k3, w1]
  have no : ¬ tk_is T (tk_s T p) a = true → some ((0 : Int32), h) = some (bI (tk_is T (tk_s T p) a = true), h) := by
    intro z
    rw [bI_f z]
    rfl
  by_cases c1 : tk_at T (tk_s T p) = 1
  · rw [if_pos (by rw [c1]; rfl)]
    by_cases c2 : tk_e T (tk_s T p) - tk_s T p = (wd_a a).length
    · rw [if_pos (by rw [iI_sub]; exact iI_cg (by omega))]
      refine lp_up (α := Int32 → Hp → Option (Int32 × Hp)) (P := fun j c8 => ∀ (v : Int32), v = iI j → (∀ i, i < j → T.getD (tk_s T p + i) 0 = (wd_a a).getD i 0) → c8 v h = some (bI (tk_is T (tk_s T p) a = true), h)) (wd_a a).length (by omega) (fun j c8 hj ih => ?_) _ rfl (fun i hi => absurd hi (Nat.not_lt_zero i))
      intro v hv i1
      subst hv
      by_cases d : j < (wd_a a).length
      · obtain ⟨x1, x2⟩ := wa_chr a ha j (by omega) d
        have hin : tk_s T p + j < T.length := by omega
        have hc := hb _ hin
        rw [if_pos (by rw [iI_lt (by omega) (by omega) (by omega) (by omega)]; omega), k2, iI_add, show (tk_s T p : Int) + (j : Int) = ((tk_s T p + j : Nat) : Int) by omega, c_letterAt q hl hin, bd_e, gd_in (by omega) (by omega) (by omega), x1]
        by_cases e : T.getD (tk_s T p + j) 0 = (wd_a a).getD j 0
        · rw [if_pos (by rw [e])]
          refine ih d _ ?_ (fun i hi => ?_)
          · show iI (j : Int) + iI 1 = _
            rw [iI_add]
            exact iI_cg (by omega)
          · by_cases u : i < j
            · exact i1 i u
            · rw [show i = j by omega]; exact e
        · rw [if_neg (by rw [iI_eq (by omega) (by omega) (by omega) (by omega)]; omega)]
          refine no (fun z => e ?_)
          unfold tk_is at z
          rw [Bool.and_eq_true, beq_iff_eq] at z
          rw [← z.2, tk_l_getD (by omega)]
      · rw [if_neg (by rw [iI_lt (by omega) (by omega) (by omega) (by omega)]; omega)]
        have yes : tk_is T (tk_s T p) a = true := by
          unfold tk_is
          rw [Bool.and_eq_true, beq_iff_eq, decide_eq_true_eq]
          refine ⟨c1, list_eq (by rw [tk_l_len hs.2, c2]) (fun i hi => ?_)⟩
          rw [tk_l_len hs.2] at hi
          rw [tk_l_getD hi]
          exact i1 i (by omega)
        rw [bI_t yes]
        rfl
    · rw [if_neg (by rw [iI_sub, iI_eq (by omega) (by omega) (by omega) (by omega)]; omega)]
      refine no (fun z => c2 ?_)
      unfold tk_is at z
      rw [Bool.and_eq_true, beq_iff_eq] at z
      rw [← z.2, tk_l_len hs.2]
  · rw [if_neg (by show ¬ iI (tk_at T (tk_s T p) : Int) = iI 1; rw [iI_eq (by omega) (by omega) (by omega) (by omega)]; omega)]
    refine no (fun z => c1 ?_)
    unfold tk_is at z
    rw [Bool.and_eq_true, decide_eq_true_eq] at z
    exact z.1
