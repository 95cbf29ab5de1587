-- ===== the class's reader: a number =====
def nb_f (L : List Nat) (j : Nat) : Nat := (L.take j).foldl (fun x c => 10 * x + (c - 48)) 0
def tk_n (T : List Nat) (s : Nat) : Nat := nb_f (tk_l T s) (tk_e T s - s)
theorem nb_s {L : List Nat} {j : Nat} (hj : j < L.length) : nb_f L (j + 1) = 10 * nb_f L j + (L.getD j 0 - 48) := by
  unfold nb_f
  rw [take_snoc hj, List.foldl_append]
  rfl
theorem nb_lt {L : List Nat} (hd : ∀ i, i < L.length → 48 ≤ L.getD i 0 ∧ L.getD i 0 ≤ 57) : ∀ j, j ≤ L.length → nb_f L j < 10 ^ j
  | 0, _ => by show (0 : Nat) < 1; omega
  | j + 1, h => by
    have ih := nb_lt hd j (by omega)
    have := hd j (by omega)
    rw [nb_s (by omega), Nat.pow_succ]
    omega
theorem tk_dig {T : List Nat} {s i : Nat} (k2 : tk_at T s = 2) (h1 : s ≤ i) (h2 : i < tk_e T s) : 48 ≤ T.getD i 0 ∧ T.getD i 0 ≤ 57 := by
  have := tk_in (Or.inr k2) h1 h2
  rw [k2] at this
  unfold tk_k at this
  by_cases c : 97 ≤ T.getD i 0 ∧ T.getD i 0 ≤ 122
  · rw [if_pos c] at this; omega
  · rw [if_neg c] at this
    by_cases d : 48 ≤ T.getD i 0 ∧ T.getD i 0 ≤ 57
    · exact d
    · rw [if_neg d] at this; omega
theorem tk_let {T : List Nat} {s i : Nat} (k1 : tk_at T s = 1) (h1 : s ≤ i) (h2 : i < tk_e T s) : 97 ≤ T.getD i 0 ∧ T.getD i 0 ≤ 122 := by
  have := tk_in (Or.inl k1) h1 h2
  rw [k1] at this
  unfold tk_k at this
  by_cases c : 97 ≤ T.getD i 0 ∧ T.getD i 0 ≤ 122
  · exact c
  · rw [if_neg c] at this
    split at this <;> omega
theorem tk_n_lt {T : List Nat} {s : Nat} (hs : s ≤ T.length) (k2 : tk_at T s = 2) (h3 : tk_e T s - s ≤ 3) : tk_n T s < 1000 := by
  have hl := tk_l_len hs
  have := nb_lt (L := tk_l T s) (fun i hi => by
    rw [tk_l_getD (by omega)]
    exact tk_dig k2 (by omega) (by omega)) (tk_e T s - s) (by omega)
  have h4 : 10 ^ (tk_e T s - s) ≤ 10 ^ 3 := Nat.pow_le_pow_right (by omega) h3
  unfold tk_n
  omega
def nb_ok (T : List Nat) (s : Nat) (lo hi : Int) : Bool := decide (tk_at T s = 2 ∧ tk_e T s - s ≤ 3 ∧ lo ≤ tk_n T s ∧ tk_n T s ≤ hi)
theorem nb_p {T : List Nat} {s : Nat} {lo hi : Int} (h : nb_ok T s lo hi = true) : tk_at T s = 2 ∧ tk_e T s - s ≤ 3 ∧ lo ≤ tk_n T s ∧ tk_n T s ≤ hi := of_decide_eq_true h
theorem TkC.fr {h h' : Hp} {T : List Nat} {p : Nat} {S A : List Nat} (q : TkC h T p) (f : FrX S A h h') (n1 : 771 ∉ S) (n2 : 772 ∉ S) (n3 : 773 ∉ S) : TkC h' T p := ⟨(f.sg n1).trans q.1, (f.sg n2).trans q.2.1, (f.sg n3).trans q.2.2⟩
theorem c_readNumber {h : Hp} {T : List Nat} (q : TxC h T) (hl : T.length ≤ 200) (hb : ∀ i, i < T.length → T.getD i 0 ≤ 255) {p : Nat} (hp : p ≤ T.length) (k : TkC h T p) {lo hi : Int} (hlo : -1000 ≤ lo ∧ lo ≤ 1000) (hhi : -1000 ≤ hi ∧ hi ≤ 1000) : (nb_ok T (tk_s T p) lo hi = true → ∃ h', F_X6_readNumber (iI lo) (iI hi) h = some (1, h') ∧ sG h' 774 = iI (tk_n T (tk_s T p)) ∧ TkC h' T (tk_e T (tk_s T p))) ∧ (¬ nb_ok T (tk_s T p) lo hi = true → ∃ h', F_X6_readNumber (iI lo) (iI hi) h = some (0, h') ∧ TkC h' T p) := by
  have kk := k
  obtain ⟨k1, k2, k3⟩ := k
  have hs := tk_s_le hp
  have he := tk_e_le hs.2
  have hK := tk_at_le T (tk_s T p)
  have hlen := tk_l_len hs.2
  unfold F_X6_readNumber
  rw [jn_e, k1, k2, k3]
  by_cases c1 : tk_at T (tk_s T p) = 2
  · rw [if_pos (by rw [c1]; rfl)]
    by_cases c2 : tk_e T (tk_s T p) - tk_s T p ≤ 3
    · have lt3 : ¬ (3 : Int32) < iI (tk_e T (tk_s T p) : Int) - iI (tk_s T p : Int) := by
        show ¬ iI 3 < _
        rw [iI_sub, iI_lt (by omega) (by omega) (by omega) (by omega)]
        omega
      have hd : ∀ i, i < (tk_l T (tk_s T p)).length → 48 ≤ (tk_l T (tk_s T p)).getD i 0 ∧ (tk_l T (tk_s T p)).getD i 0 ≤ 57 := fun i hi => by
        rw [tk_l_getD (by omega)]
        exact tk_dig c1 (by omega) (by omega)
      have hn := tk_n_lt hs.2 c1 c2
      rw [if_neg lt3, jl_e, jl_e, sG_sS_n (show (772 : Nat) ≠ 774 by decide), k2]
      have key : ∃ h', lp 4000000000 (fun (c7 : Int32 → Hp → Option (Int32 × Hp)) (v5 : Int32) (h6 : Hp) =>
  if v5 < (sG h6 773) then (
  bd (F_X10_letterAt v5 h6) (fun r8 h9 => jl (sS h9 774 ((((10 : Int32) * (sG h6 774)) + r8) - (48 : Int32))) (fun h10 => c7 (v5 + (1 : Int32)) h10))) else (
  jn (fun (h11 : Hp) =>
  some ((0 : Int32), h11)) (fun j12 => if (sG h6 774) < iI lo then (
  j12 h6) else (
  if iI hi < (sG h6 774) then (
  j12 h6) else (
  bd (F_X6_step h6) (fun _ h13 => some ((1 : Int32), h13))))))) (fun _ _ => none) (iI (tk_s T p)) (sS h 774 0) = some (bI (nb_ok T (tk_s T p) lo hi = true), h') ∧ (nb_ok T (tk_s T p) lo hi = true → sG h' 774 = iI (tk_n T (tk_s T p)) ∧ TkC h' T (tk_e T (tk_s T p))) ∧ (¬ nb_ok T (tk_s T p) lo hi = true → TkC h' T p) := by
        refine lp_up (α := Int32 → Hp → Option (Int32 × Hp)) (P := fun j c8 => ∀ (v : Int32) (h1 : Hp), v = iI (tk_s T p + j : Nat) → FrX [774] [] h h1 → sG h1 774 = iI (nb_f (tk_l T (tk_s T p)) j) → ∃ h', c8 v h1 = some (bI (nb_ok T (tk_s T p) lo hi = true), h') ∧ (nb_ok T (tk_s T p) lo hi = true → sG h' 774 = iI (tk_n T (tk_s T p)) ∧ TkC h' T (tk_e T (tk_s T p))) ∧ (¬ nb_ok T (tk_s T p) lo hi = true → TkC h' T p)) (tk_e T (tk_s T p) - tk_s T p) (by omega) (fun j c8 hj ih => ?_) _ _ rfl ((FrX.refl _ _ h).sS (by decide) _) (sG_sS_s ..)
        intro v h1 hv f i1
        subst hv
        have q1 : TxC h1 T := q.fr f (by decide) (by decide)
        have g3 : sG h1 773 = iI (tk_e T (tk_s T p)) := (f.sg (by decide)).trans k3
        have nl := nb_lt hd j (by omega)
        have pl : 10 ^ j ≤ 10 ^ 3 := Nat.pow_le_pow_right (by omega) (by omega)
        rw [g3]
        by_cases d : j < tk_e T (tk_s T p) - tk_s T p
        · have dg := tk_dig c1 (show tk_s T p ≤ tk_s T p + j by omega) (by omega)
          have ns := nb_s (L := tk_l T (tk_s T p)) (j := j) (by omega)
          rw [tk_l_getD d] at ns
          rw [if_pos (by rw [iI_lt (by omega) (by omega) (by omega) (by omega)]; omega), c_letterAt q1 hl (by omega), bd_e, jl_e, i1]
          refine ih d _ _ ?_ (f.sS (by decide) _) ?_
          · show iI ((tk_s T p + j : Nat) : Int) + iI 1 = _
            rw [iI_add]
            exact iI_cg (by omega)
          · rw [sG_sS_s]
            show iI 10 * iI (nb_f (tk_l T (tk_s T p)) j : Int) + iI (T.getD (tk_s T p + j) 0 : Int) - iI 48 = _
            rw [iI_mul, iI_add, iI_sub]
            exact iI_cg (by omega)
        · have ej : j = tk_e T (tk_s T p) - tk_s T p := by omega
          rw [ej] at i1
          have i2 : sG h1 774 = iI (tk_n T (tk_s T p)) := i1
          rw [if_neg (by rw [iI_lt (by omega) (by omega) (by omega) (by omega)]; omega), jn_e, i2]
          have kf := kk.fr f (by decide) (by decide) (by decide)
          by_cases e1 : (tk_n T (tk_s T p) : Int) < lo
          · have no : ¬ nb_ok T (tk_s T p) lo hi = true := fun z => by have := nb_p z; omega
            rw [if_pos (by rw [iI_lt (by omega) (by omega) (by omega) (by omega)]; exact e1), bI_f no]
            exact ⟨h1, rfl, fun z => absurd z no, fun _ => kf⟩
          by_cases e2 : hi < (tk_n T (tk_s T p) : Int)
          · have no : ¬ nb_ok T (tk_s T p) lo hi = true := fun z => by have := nb_p z; omega
            rw [if_neg (by rw [iI_lt (by omega) (by omega) (by omega) (by omega)]; exact e1), if_pos (by rw [iI_lt (by omega) (by omega) (by omega) (by omega)]; exact e2), bI_f no]
            exact ⟨h1, rfl, fun z => absurd z no, fun _ => kf⟩
          have yes : nb_ok T (tk_s T p) lo hi = true := decide_eq_true ⟨c1, c2, by omega, by omega⟩
          obtain ⟨h2, s1, s2⟩ := c_step q1 hl hb he.2 g3
          have fs := fr_X6_step _ _ _ s1
          rw [if_neg (by rw [iI_lt (by omega) (by omega) (by omega) (by omega)]; exact e1), if_neg (by rw [iI_lt (by omega) (by omega) (by omega) (by omega)]; exact e2), s1, bd_e, bI_t yes]
          exact ⟨h2, rfl, fun _ => ⟨(fs.sg (by decide)).trans i2, s2⟩, fun z => absurd yes z⟩
      obtain ⟨h', e1, e2, e3⟩ := key
      refine ⟨fun z => ⟨h', ?_, e2 z⟩, fun z => ⟨h', ?_, e3 z⟩⟩
      · rw [e1, bI_t z]; rfl
      · rw [e1, bI_f z]; rfl
    · have lt3 : (3 : Int32) < iI (tk_e T (tk_s T p) : Int) - iI (tk_s T p : Int) := by
        show iI 3 < _
        rw [iI_sub, iI_lt (by omega) (by omega) (by omega) (by omega)]
        omega
      rw [if_pos lt3]
      exact ⟨fun z => absurd (nb_p z).2.1 c2, fun _ => ⟨h, rfl, kk⟩⟩
  · rw [if_neg (by show ¬ iI (tk_at T (tk_s T p) : Int) = iI 2; rw [iI_eq (by omega) (by omega) (by omega) (by omega)]; omega)]
    exact ⟨fun z => absurd (nb_p z).1 c1, fun _ => ⟨h, rfl, kk⟩⟩
