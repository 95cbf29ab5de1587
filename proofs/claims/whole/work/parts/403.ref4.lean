-- ===== all rows, one behind another (pure) =====
def ro_F (S : Nat → Bool) (ok : List Nat → Nat → Bool) (r : List Nat) (p : Nat) : Bool := S p && !r.contains p && ok r p
/-- the rows that go on with one of the last d pictures -/
def ro_ef (S : Nat → Bool) (ok : List Nat → Nat → Bool) (k : Nat) (r : List Nat) : Nat → List (List Nat)
  | 0 => []
  | d + 1 => (if ro_F S ok r (6 - d) = true then ro_en S ok k (r ++ [6 - d]) else []) ++ ro_ef S ok k r d
theorem ro_ef_all (S : Nat → Bool) (ok : List Nat → Nat → Bool) (k : Nat) (r : List Nat) : ro_ef S ok k r 7 = ro_en S ok (k + 1) r := by
  rw [ro_en_fm]
  rfl
/-- the rows that are left behind a place in the search -/
def ro_rs (S : Nat → Bool) (ok : List Nat → Nat → Bool) (m : Nat) : Nat → List Nat → Nat → List (List Nat)
  | 0, r, c => ro_ef S ok (m - 1) r (7 - c)
  | n + 1, r, c => ro_ef S ok (m - (n + 1) - 1) r (7 - c) ++ ro_rs S ok m n (r.take n) (r.getD n 0 + 1)
theorem ro_rs_0 {S : Nat → Bool} {ok : List Nat → Nat → Bool} {m : Nat} (hm : 0 < m) : ro_rs S ok m 0 [] 0 = ro_en S ok m [] := by
  show ro_ef S ok (m - 1) [] 7 = _
  rw [ro_ef_all, show m - 1 + 1 = m by omega]
theorem ro_ef_s (S : Nat → Bool) (ok : List Nat → Nat → Bool) (k : Nat) (r : List Nat) {c : Nat} (hc : c < 7) : ro_ef S ok k r (7 - c) = (if ro_F S ok r c = true then ro_en S ok k (r ++ [c]) else []) ++ ro_ef S ok k r (7 - (c + 1)) := by
  have e : 7 - c = (6 - c) + 1 := by omega
  rw [e]
  show (if ro_F S ok r (6 - (6 - c)) = true then ro_en S ok k (r ++ [6 - (6 - c)]) else []) ++ ro_ef S ok k r (6 - c) = _
  rw [show 6 - (6 - c) = c by omega, show 7 - (c + 1) = 6 - c by omega]
theorem ro_rs_s {S : Nat → Bool} {ok : List Nat → Nat → Bool} {m n : Nat} {r : List Nat} {c : Nat} (hc : c < 7) : ro_rs S ok m n r c = (if ro_F S ok r c = true then ro_en S ok (m - n - 1) (r ++ [c]) else []) ++ ro_rs S ok m n r (c + 1) := by
  cases n with
  | zero => exact ro_ef_s S ok (m - 1) r hc
  | succ n =>
    show ro_ef S ok (m - (n + 1) - 1) r (7 - c) ++ _ = _ ++ (ro_ef S ok (m - (n + 1) - 1) r (7 - (c + 1)) ++ _)
    rw [ro_ef_s S ok _ r hc, List.append_assoc]
theorem ro_rs_no {S : Nat → Bool} {ok : List Nat → Nat → Bool} {m n : Nat} {r : List Nat} {c : Nat} (hc : c < 7) (h : ro_F S ok r c = false) : ro_rs S ok m n r c = ro_rs S ok m n r (c + 1) := by
  rw [ro_rs_s hc, h, if_neg (by decide), List.nil_append]
theorem ro_rs_end {S : Nat → Bool} {ok : List Nat → Nat → Bool} {m n : Nat} {r : List Nat} {c : Nat} (hc : c < 7) (hn : n + 1 = m) (h : ro_F S ok r c = true) : ro_rs S ok m n r c = (r ++ [c]) :: ro_rs S ok m n r (c + 1) := by
  rw [ro_rs_s hc, if_pos h, show m - n - 1 = 0 by omega]
  rfl
theorem ro_rs_down {S : Nat → Bool} {ok : List Nat → Nat → Bool} {m n : Nat} {r : List Nat} {c : Nat} (hc : c < 7) (hr : r.length = n) (hn : n + 1 < m) (h : ro_F S ok r c = true) : ro_rs S ok m n r c = ro_rs S ok m (n + 1) (r ++ [c]) 0 := by
  rw [ro_rs_s hc, if_pos h]
  show _ = ro_ef S ok (m - (n + 1) - 1) (r ++ [c]) 7 ++ ro_rs S ok m n ((r ++ [c]).take n) ((r ++ [c]).getD n 0 + 1)
  rw [ro_ef_all, show m - (n + 1) - 1 + 1 = m - n - 1 by omega]
  congr 1
  subst hr
  rw [List.take_left, List.getD_eq_getElem?_getD, List.getElem?_append_right (Nat.le_refl _), Nat.sub_self]
  rfl
theorem ro_ef_none {S : Nat → Bool} {ok : List Nat → Nat → Bool} {k : Nat} {r : List Nat} : ∀ d, d ≤ 7 → (∀ p, 7 - d ≤ p → p < 7 → ro_F S ok r p = false) → ro_ef S ok k r d = []
  | 0, _, _ => rfl
  | d + 1, hd, h => by
    show (if ro_F S ok r (6 - d) = true then ro_en S ok k (r ++ [6 - d]) else []) ++ ro_ef S ok k r d = []
    rw [h (6 - d) (by omega) (by omega), if_neg (by decide), List.nil_append]
    exact ro_ef_none d (by omega) (fun p h1 h2 => h p (by omega) h2)
theorem ro_rs_up {S : Nat → Bool} {ok : List Nat → Nat → Bool} {m n : Nat} {r : List Nat} {c : Nat} (hc : c ≤ 7) (h : ∀ p, c ≤ p → p < 7 → ro_F S ok r p = false) : ro_rs S ok m (n + 1) r c = ro_rs S ok m n (r.take n) (r.getD n 0 + 1) := by
  show ro_ef S ok (m - (n + 1) - 1) r (7 - c) ++ _ = _
  rw [ro_ef_none (7 - c) (by omega) (fun p h1 h2 => h p (by omega) h2), List.nil_append]
theorem ro_rs_out {S : Nat → Bool} {ok : List Nat → Nat → Bool} {m : Nat} {r : List Nat} {c : Nat} (hc : c ≤ 7) (h : ∀ p, c ≤ p → p < 7 → ro_F S ok r p = false) : ro_rs S ok m 0 r c = [] :=
  ro_ef_none (7 - c) (by omega) (fun p h1 h2 => h p (by omega) h2)
-- how many there can be
def ro_bd : Nat → Nat → Nat
  | _, 0 => 1
  | n, k + 1 => n * ro_bd (n - 1) k
theorem ro_fm_le {g : Nat → List (List Nat)} {b : Nat} : ∀ l : List Nat, (∀ p ∈ l, (g p).length ≤ b) → (l.flatMap g).length ≤ l.length * b
  | [], _ => by simp
  | p :: l, h => by
    rw [List.flatMap_cons, List.length_append, List.length_cons, Nat.succ_mul]
    have h1 := h p (by simp)
    have h2 := ro_fm_le l (fun q hq => h q (by simp [hq]))
    omega
theorem ro_nodup_le {l : List Nat} (hn : l.Nodup) (h : ∀ p ∈ l, p < 7) : l.length ≤ 7 := by
  refine pc_holes 7 l.length (fun i => l.getD i 0) (fun i hi => ?_) (fun i j hij hj e => ?_)
  · exact h _ (ro_get_mem.2 ⟨i, hi, rfl⟩)
  · have := ro_get_inj hn (by omega) hj e
    omega
theorem ro_cd_len {S : Nat → Bool} {ok : List Nat → Nat → Bool} {r : List Nat} (hn : r.Nodup) (h : ∀ p ∈ r, p < 7) : (ro_cd S ok r).length ≤ 7 - r.length := by
  have hl : (r ++ ro_cd S ok r).length ≤ 7 := by
    refine ro_nodup_le ?_ (fun p hp => ?_)
    · rw [List.nodup_append]
      refine ⟨hn, List.Nodup.sublist List.filter_sublist List.nodup_range, fun x hx y hy e => ?_⟩
      subst e
      exact (ro_cd_mem.1 hy).2.2.1 hx
    · rcases List.mem_append.1 hp with q | q
      · exact h p q
      · exact (ro_cd_mem.1 q).1
  rw [List.length_append] at hl
  omega
theorem ro_en_len (S : Nat → Bool) (ok : List Nat → Nat → Bool) : ∀ (k : Nat) (r : List Nat), r.Nodup → (∀ p ∈ r, p < 7) → (ro_en S ok k r).length ≤ ro_bd (7 - r.length) k
  | 0, r, _, _ => Nat.le_refl _
  | k + 1, r, h1, h2 => by
    show ((ro_cd S ok r).flatMap (fun p => ro_en S ok k (r ++ [p]))).length ≤ (7 - r.length) * ro_bd (7 - r.length - 1) k
    refine Nat.le_trans (ro_fm_le (b := ro_bd (7 - r.length - 1) k) _ (fun p hp => ?_)) (Nat.mul_le_mul_right _ (ro_cd_len h1 h2))
    have hm := ro_cd_mem.1 hp
    have := ro_en_len S ok k (r ++ [p]) (by
      rw [List.nodup_append]
      refine ⟨h1, by simp, fun x hx y hy e => ?_⟩
      rw [List.mem_singleton] at hy
      subst hy
      subst e
      exact hm.2.2.1 hx) (fun q hq => by
      rcases List.mem_append.1 hq with z | z
      · exact h2 q z
      · rw [List.mem_singleton] at z
        rw [z]
        exact hm.1)
    rw [List.length_append] at this
    exact this
theorem ro_bd_5040 : ∀ k, k ≤ 7 → ro_bd 7 k ≤ 5040 := by decide
theorem ro_rows_5040 {ρ : RD} {S : Nat} (hS : S < 128) : (ro_rows ρ S).length ≤ 5040 := by
  have := ro_en_len S.testBit (ro_R ρ) (ro_ct S) [] (by simp) (fun p hp => absurd hp (by simp))
  exact Nat.le_trans this (ro_bd_5040 _ (ro_ct_le S hS))
