-- ===== pieces as a list =====
abbrev Pc : Type := Nat × Nat × Nat
def pc_ix (L : List Pc) (k : Nat) : Nat := L.findIdx (fun e => e.1 == k)
def pc_at (L : List Pc) (i : Nat) : Pc := L.getD i (0, 0, 0)
def pc_n (L : List Pc) (k : Nat) : Int := if pc_ix L k < L.length then (pc_ix L k : Int) else -1
def pc_v (L : List Pc) (k : Nat) : Int := if pc_ix L k < L.length then ((pc_at L (pc_ix L k)).2.1 : Int) else -1
def pc_s (L : List Pc) (k : Nat) : Int := if pc_ix L k < L.length then ((pc_at L (pc_ix L k)).2.2 : Int) else -1
def pc_ok (L : List Pc) : Prop := (∀ i j, i < L.length → j < L.length → (pc_at L i).1 = (pc_at L j).1 → i = j) ∧ ∀ i, i < L.length → (pc_at L i).1 < 56 ∧ (pc_at L i).2.1 < 1000 ∧ (pc_at L i).2.2 < 100
def pc_put (L : List Pc) (k v s : Nat) : List Pc := if pc_ix L k < L.length then L.set (pc_ix L k) (k, v, s) else L ++ [(k, v, s)]
def pc_rm (L : List Pc) (k : Nat) : List Pc := L.eraseIdx (pc_ix L k)
theorem pc_at_get {L : List Pc} {i : Nat} (h : i < L.length) : pc_at L i = L[i] := by
  unfold pc_at
  rw [List.getD_eq_getElem?_getD, List.getElem?_eq_getElem h]
  rfl
theorem pc_ix_key {L : List Pc} {k : Nat} (h : pc_ix L k < L.length) : (pc_at L (pc_ix L k)).1 = k := by
  rw [pc_at_get h]
  have := List.findIdx_getElem (p := fun e : Pc => e.1 == k) (xs := L) (w := h)
  exact beq_iff_eq.1 this
theorem pc_ix_min {L : List Pc} {k i : Nat} (h : i < L.length) (e : (pc_at L i).1 = k) : pc_ix L k ≤ i := by
  refine Nat.le_of_not_lt (fun z => ?_)
  have := List.not_of_lt_findIdx (p := fun e : Pc => e.1 == k) (xs := L) z
  rw [pc_at_get h] at e
  rw [e] at this
  simp at this
theorem pc_ix_eq {L : List Pc} (ok : pc_ok L) {k i : Nat} (h : i < L.length) (e : (pc_at L i).1 = k) : pc_ix L k = i := by
  have h1 := pc_ix_min h e
  exact ok.1 _ _ (by omega) h ((pc_ix_key (by omega)).trans e.symm)
theorem pc_ix_no {L : List Pc} {k : Nat} (h : ∀ i, i < L.length → (pc_at L i).1 ≠ k) : ¬ pc_ix L k < L.length := fun z => h _ z (pc_ix_key z)
theorem pc_holes : ∀ (m n : Nat) (f : Nat → Nat), (∀ i, i < n → f i < m) → (∀ i j, i < j → j < n → f i ≠ f j) → n ≤ m := by
  intro m
  induction m with
  | zero =>
    intro n f h1 _
    rcases Nat.eq_zero_or_pos n with h | h
    · omega
    · exact absurd (h1 0 h) (Nat.not_lt_zero _)
  | succ m ih =>
    intro n f h1 h2
    by_cases hx : ∃ i, i < n ∧ f i = m
    · obtain ⟨a, ha, hfa⟩ := hx
      have hg := ih (n - 1) (fun i => if i < a then f i else f (i + 1)) (by
        intro i hi
        by_cases q : i < a
        · simp only [if_pos q]
          have b1 := h1 i (by omega)
          have b2 := h2 i a q ha
          omega
        · simp only [if_neg q]
          have b1 := h1 (i + 1) (by omega)
          have b2 := h2 a (i + 1) (by omega) (by omega)
          omega) (by
        intro i j hij hj
        by_cases q : i < a
        · by_cases r : j < a
          · simp only [if_pos q, if_pos r]
            exact h2 i j hij (by omega)
          · simp only [if_pos q, if_neg r]
            exact h2 i (j + 1) (by omega) (by omega)
        · have r : ¬ j < a := by omega
          simp only [if_neg q, if_neg r]
          exact h2 (i + 1) (j + 1) (by omega) (by omega))
      omega
    · have hg := ih n f (fun i hi => by
        have b1 := h1 i hi
        have b2 : f i ≠ m := fun e => hx ⟨i, hi, e⟩
        omega) h2
      omega
theorem pc_len {L : List Pc} (ok : pc_ok L) : L.length ≤ 56 :=
  pc_holes 56 L.length (fun i => (pc_at L i).1) (fun i hi => (ok.2 i hi).1) (fun i j hij hj e => by
    have := ok.1 i j (by omega) hj e
    omega)
theorem pc_len_lt {L : List Pc} (ok : pc_ok L) {k : Nat} (hk : k < 56) (h : ¬ pc_ix L k < L.length) : L.length < 56 := by
  have := pc_holes 56 (L.length + 1) (fun i => if i = L.length then k else (pc_at L i).1) (fun i hi => by
    by_cases c : i = L.length
    · simp only [if_pos c]; exact hk
    · simp only [if_neg c]; exact (ok.2 i (by omega)).1) (fun i j hij hj e => by
    have c : ¬ i = L.length := by omega
    simp only [if_neg c] at e
    by_cases d : j = L.length
    · simp only [if_pos d] at e
      have := pc_ix_min (L := L) (i := i) (k := k) (by omega) e
      omega
    · simp only [if_neg d] at e
      have := ok.1 i j (by omega) (by omega) e
      omega)
  omega
theorem pc_n_rng {L : List Pc} (ok : pc_ok L) (k : Nat) : -1 ≤ pc_n L k ∧ pc_n L k < 56 ∧ (pc_n L k = -1 ↔ ¬ pc_ix L k < L.length) ∧ (pc_ix L k < L.length → pc_n L k = pc_ix L k) := by
  have := pc_len ok
  unfold pc_n
  split <;> omega
theorem pc_v_rng {L : List Pc} (ok : pc_ok L) (k : Nat) : -1 ≤ pc_v L k ∧ pc_v L k < 1000 ∧ (pc_v L k = -1 ↔ ¬ pc_ix L k < L.length) := by
  unfold pc_v
  split
  · rename_i h
    have := ok.2 _ h
    omega
  · omega
theorem pc_s_rng {L : List Pc} (ok : pc_ok L) (k : Nat) : -1 ≤ pc_s L k ∧ pc_s L k < 100 ∧ (pc_s L k = -1 ↔ ¬ pc_ix L k < L.length) := by
  unfold pc_s
  split
  · rename_i h
    have := ok.2 _ h
    omega
  · omega
theorem pc_at_set {L : List Pc} {i j : Nat} {e : Pc} (h : j < L.length) : pc_at (L.set i e) j = if i = j then e else pc_at L j := by
  rw [pc_at_get (by simpa using h), List.getElem_set, pc_at_get h]
theorem pc_at_app {L : List Pc} {e : Pc} {j : Nat} (h : j < L.length + 1) : pc_at (L ++ [e]) j = if j = L.length then e else pc_at L j := by
  rw [pc_at_get (by simpa using h), List.getElem_append]
  by_cases c : j = L.length
  · subst c
    rw [dif_neg (by omega), if_pos rfl]
    simp
  · rw [dif_pos (by omega), if_neg c, pc_at_get (by omega)]
theorem pc_at_rm {L : List Pc} {i j : Nat} (hi : i < L.length) (h : j + 1 < L.length) : pc_at (L.eraseIdx i) j = if j < i then pc_at L j else pc_at L (j + 1) := by
  have hl : (L.eraseIdx i).length = L.length - 1 := by rw [List.length_eraseIdx, if_pos hi]
  rw [pc_at_get (by omega), List.getElem_eraseIdx]
  split
  · rw [pc_at_get (by omega)]
  · rw [pc_at_get (by omega)]
theorem pc_put_len (L : List Pc) (k v s : Nat) : (pc_put L k v s).length = if pc_ix L k < L.length then L.length else L.length + 1 := by
  unfold pc_put
  split <;> simp
theorem pc_put_at {L : List Pc} {k v s j : Nat} (h : j < (pc_put L k v s).length) : pc_at (pc_put L k v s) j = if j = pc_ix L k ∨ j = L.length then (k, v, s) else pc_at L j := by
  rw [pc_put_len] at h
  unfold pc_put
  by_cases c : pc_ix L k < L.length
  · rw [if_pos c] at h ⊢
    rw [pc_at_set h]
    by_cases d : pc_ix L k = j
    · rw [if_pos d, if_pos (Or.inl d.symm)]
    · rw [if_neg d, if_neg (by omega)]
  · rw [if_neg c] at h ⊢
    rw [pc_at_app h]
    have := List.findIdx_le_length (p := fun e : Pc => e.1 == k) (xs := L)
    have : pc_ix L k ≤ L.length := this
    by_cases d : j = L.length
    · rw [if_pos d, if_pos (Or.inr d)]
    · rw [if_neg d, if_neg (by omega)]
theorem pc_ix_le (L : List Pc) (k : Nat) : pc_ix L k ≤ L.length := List.findIdx_le_length
theorem pc_put_ok {L : List Pc} (ok : pc_ok L) {k v s : Nat} (hk : k < 56) (hv : v < 1000) (hs : s < 100) : pc_ok (pc_put L k v s) := by
  have hle := pc_ix_le L k
  refine ⟨fun i j hi hj e => ?_, fun i hi => ?_⟩
  · rw [pc_put_at hi, pc_put_at hj] at e
    rw [pc_put_len] at hi hj
    by_cases c : pc_ix L k < L.length
    · rw [if_pos c] at hi hj
      by_cases d : i = pc_ix L k
      · rw [if_pos (Or.inl d)] at e
        by_cases d2 : j = pc_ix L k
        · omega
        · rw [if_neg (by omega)] at e
          have := pc_ix_eq ok (k := k) hj e.symm
          omega
      · rw [if_neg (by omega)] at e
        by_cases d2 : j = pc_ix L k
        · rw [if_pos (Or.inl d2)] at e
          have := pc_ix_eq ok (k := k) hi e
          omega
        · rw [if_neg (by omega)] at e
          exact ok.1 i j hi hj e
    · rw [if_neg c] at hi hj
      by_cases d : i = L.length
      · rw [if_pos (Or.inr d)] at e
        by_cases d2 : j = L.length
        · omega
        · rw [if_neg (by omega)] at e
          have := pc_ix_min (L := L) (k := k) (i := j) (by omega) e.symm
          omega
      · rw [if_neg (by omega)] at e
        by_cases d2 : j = L.length
        · rw [if_pos (Or.inr d2)] at e
          have := pc_ix_min (L := L) (k := k) (i := i) (by omega) e
          omega
        · rw [if_neg (by omega)] at e
          exact ok.1 i j (by omega) (by omega) e
  · rw [pc_put_at hi]
    rw [pc_put_len] at hi
    split
    · exact ⟨hk, hv, hs⟩
    · rename_i c
      exact ok.2 i (by split at hi <;> omega)
theorem pc_put_ix {L : List Pc} (ok : pc_ok L) {k v s : Nat} (hk : k < 56) (hv : v < 1000) (hs : s < 100) (q : Nat) : (pc_ix (pc_put L k v s) q < (pc_put L k v s).length ↔ q = k ∨ pc_ix L q < L.length) ∧ (q = k → pc_ix (pc_put L k v s) q = pc_ix L k) ∧ (q ≠ k → pc_ix L q < L.length → pc_ix (pc_put L k v s) q = pc_ix L q) := by
  have ok2 := pc_put_ok ok hk hv hs
  have hle := pc_ix_le L k
  have hl := pc_put_len L k v s
  have a1 : pc_ix L k < (pc_put L k v s).length := by rw [hl]; split <;> omega
  have a2 : q = k → pc_ix (pc_put L k v s) q = pc_ix L k := by
    intro e
    subst e
    apply pc_ix_eq ok2 a1
    rw [pc_put_at a1, if_pos (Or.inl rfl)]
  have a3 : q ≠ k → pc_ix L q < L.length → pc_ix (pc_put L k v s) q = pc_ix L q := by
    intro n h
    have b1 : pc_ix L q < (pc_put L k v s).length := by rw [hl]; split <;> omega
    apply pc_ix_eq ok2 b1
    rw [pc_put_at b1]
    have hk2 := pc_ix_key h
    by_cases c : pc_ix L q = pc_ix L k ∨ pc_ix L q = L.length
    · rcases c with c | c
      · rw [c] at hk2 h
        have := pc_ix_key h
        omega
      · omega
    · rw [if_neg c]; exact hk2
  refine ⟨⟨fun h => ?_, fun h => ?_⟩, a2, a3⟩
  · by_cases n : q = k
    · exact Or.inl n
    · right
      have hk2 := pc_ix_key h
      rw [pc_put_at h] at hk2
      by_cases c : pc_ix (pc_put L k v s) q = pc_ix L k ∨ pc_ix (pc_put L k v s) q = L.length
      · rw [if_pos c] at hk2
        exact absurd hk2.symm n
      · rw [if_neg c] at hk2
        rw [hl] at h
        have : pc_ix (pc_put L k v s) q < L.length := by split at h <;> omega
        have := pc_ix_min this hk2
        omega
  · by_cases n : q = k
    · rw [a2 n]; exact a1
    · rcases h with h | h
      · exact absurd h n
      · rw [a3 n h, hl]
        split <;> omega
theorem pc_put_n {L : List Pc} (ok : pc_ok L) {k v s : Nat} (hk : k < 56) (hv : v < 1000) (hs : s < 100) (q : Nat) : pc_n (pc_put L k v s) q = if q = k then (pc_ix L k : Int) else pc_n L q := by
  obtain ⟨h1, h2, h3⟩ := pc_put_ix ok hk hv hs q
  unfold pc_n
  by_cases n : q = k
  · rw [if_pos (h1.2 (Or.inl n)), if_pos n, h2 n]
  · rw [if_neg n]
    by_cases c : pc_ix L q < L.length
    · rw [if_pos (h1.2 (Or.inr c)), if_pos c, h3 n c]
    · rw [if_neg (fun z => by rcases h1.1 z with z | z <;> omega), if_neg c]
theorem pc_put_v {L : List Pc} (ok : pc_ok L) {k v s : Nat} (hk : k < 56) (hv : v < 1000) (hs : s < 100) (q : Nat) : pc_v (pc_put L k v s) q = if q = k then (v : Int) else pc_v L q := by
  obtain ⟨h1, h2, h3⟩ := pc_put_ix ok hk hv hs q
  unfold pc_v
  by_cases n : q = k
  · have z := h1.2 (Or.inl n)
    rw [if_pos z, if_pos n, pc_put_at z, if_pos (Or.inl (h2 n))]
  · rw [if_neg n]
    by_cases c : pc_ix L q < L.length
    · have z := h1.2 (Or.inr c)
      rw [if_pos z, if_pos c, pc_put_at z, h3 n c]
      rw [if_neg]
      rintro (d | d)
      · have e1 := pc_ix_key c
        rw [d] at c e1
        have e2 := pc_ix_key c
        omega
      · omega
    · rw [if_neg (fun z => by rcases h1.1 z with z | z <;> omega), if_neg c]
theorem pc_put_s {L : List Pc} (ok : pc_ok L) {k v s : Nat} (hk : k < 56) (hv : v < 1000) (hs : s < 100) (q : Nat) : pc_s (pc_put L k v s) q = if q = k then (s : Int) else pc_s L q := by
  obtain ⟨h1, h2, h3⟩ := pc_put_ix ok hk hv hs q
  unfold pc_s
  by_cases n : q = k
  · have z := h1.2 (Or.inl n)
    rw [if_pos z, if_pos n, pc_put_at z, if_pos (Or.inl (h2 n))]
  · rw [if_neg n]
    by_cases c : pc_ix L q < L.length
    · have z := h1.2 (Or.inr c)
      rw [if_pos z, if_pos c, pc_put_at z, h3 n c]
      rw [if_neg]
      rintro (d | d)
      · have e1 := pc_ix_key c
        rw [d] at c e1
        have e2 := pc_ix_key c
        omega
      · omega
    · rw [if_neg (fun z => by rcases h1.1 z with z | z <;> omega), if_neg c]
-- taking one out
theorem pc_rm_len {L : List Pc} {k : Nat} (h : pc_ix L k < L.length) : (pc_rm L k).length = L.length - 1 := by
  unfold pc_rm
  rw [List.length_eraseIdx, if_pos h]
theorem pc_rm_at {L : List Pc} {k j : Nat} (h : pc_ix L k < L.length) (hj : j + 1 < L.length) : pc_at (pc_rm L k) j = if j < pc_ix L k then pc_at L j else pc_at L (j + 1) := pc_at_rm h hj
theorem pc_rm_ok {L : List Pc} (ok : pc_ok L) {k : Nat} (h : pc_ix L k < L.length) : pc_ok (pc_rm L k) := by
  have hl := pc_rm_len h
  refine ⟨fun i j hi hj e => ?_, fun i hi => ?_⟩
  · rw [pc_rm_at h (by omega), pc_rm_at h (by omega)] at e
    split at e
    · split at e
      · exact ok.1 _ _ (by omega) (by omega) e
      · have := ok.1 _ _ (by omega) (by omega) e
        omega
    · split at e
      · have := ok.1 _ _ (by omega) (by omega) e
        omega
      · have := ok.1 _ _ (by omega) (by omega) e
        omega
  · rw [pc_rm_at h (by omega)]
    split
    · exact ok.2 _ (by omega)
    · exact ok.2 _ (by omega)
theorem pc_rm_ix {L : List Pc} (ok : pc_ok L) {k : Nat} (h : pc_ix L k < L.length) (q : Nat) : (pc_ix (pc_rm L k) q < (pc_rm L k).length ↔ q ≠ k ∧ pc_ix L q < L.length) ∧ (q ≠ k → pc_ix L q < L.length → pc_ix (pc_rm L k) q = if pc_ix L q < pc_ix L k then pc_ix L q else pc_ix L q - 1) := by
  have ok2 := pc_rm_ok ok h
  have hl := pc_rm_len h
  have hk := pc_ix_key h
  have a3 : q ≠ k → pc_ix L q < L.length → pc_ix (pc_rm L k) q = if pc_ix L q < pc_ix L k then pc_ix L q else pc_ix L q - 1 := by
    intro n hq
    have hkq := pc_ix_key hq
    have ne : pc_ix L q ≠ pc_ix L k := fun e => by rw [e] at hkq; omega
    by_cases c : pc_ix L q < pc_ix L k
    · rw [if_pos c]
      apply pc_ix_eq ok2 (by omega)
      rw [pc_rm_at h (by omega), if_pos c]
      exact hkq
    · rw [if_neg c]
      apply pc_ix_eq ok2 (by omega)
      rw [pc_rm_at h (by omega), if_neg (by omega), show pc_ix L q - 1 + 1 = pc_ix L q by omega]
      exact hkq
  refine ⟨⟨fun z => ?_, fun ⟨n, hq⟩ => ?_⟩, a3⟩
  · have hkq := pc_ix_key z
    rw [pc_rm_at h (by omega)] at hkq
    split at hkq
    · rename_i c
      refine ⟨fun e => ?_, ?_⟩
      · have := pc_ix_eq ok (by omega) (hkq.trans e)
        omega
      · have := pc_ix_min (by omega) hkq
        omega
    · rename_i c
      refine ⟨fun e => ?_, ?_⟩
      · have := pc_ix_eq ok (by omega) (hkq.trans e)
        omega
      · have := pc_ix_min (by omega) hkq
        omega
  · rw [a3 n hq]
    have hkq := pc_ix_key hq
    have ne : pc_ix L q ≠ pc_ix L k := fun e => by rw [e] at hkq; omega
    split <;> omega
theorem pc_rm_n {L : List Pc} (ok : pc_ok L) {k : Nat} (h : pc_ix L k < L.length) (q : Nat) : pc_n (pc_rm L k) q = if q = k then -1 else if (pc_ix L k : Int) < pc_n L q then pc_n L q - 1 else pc_n L q := by
  obtain ⟨h1, h3⟩ := pc_rm_ix ok h q
  have hl := pc_rm_len h
  unfold pc_n
  by_cases n : q = k
  · rw [if_pos n, if_neg (fun z => (h1.1 z).1 n)]
  · rw [if_neg n]
    by_cases c : pc_ix L q < L.length
    · rw [if_pos (h1.2 ⟨n, c⟩), if_pos c, h3 n c]
      have hkq := pc_ix_key c
      have hk := pc_ix_key h
      have ne : pc_ix L q ≠ pc_ix L k := fun e => by rw [e] at hkq; omega
      split <;> split <;> omega
    · rw [if_neg (fun z => c (h1.1 z).2), if_neg c]
      split <;> omega
theorem pc_rm_v {L : List Pc} (ok : pc_ok L) {k : Nat} (h : pc_ix L k < L.length) (q : Nat) : pc_v (pc_rm L k) q = if q = k then -1 else pc_v L q := by
  obtain ⟨h1, h3⟩ := pc_rm_ix ok h q
  have hl := pc_rm_len h
  unfold pc_v
  by_cases n : q = k
  · rw [if_pos n, if_neg (fun z => (h1.1 z).1 n)]
  · rw [if_neg n]
    by_cases c : pc_ix L q < L.length
    · have z := h1.2 ⟨n, c⟩
      have hkq := pc_ix_key c
      have hk := pc_ix_key h
      have ne : pc_ix L q ≠ pc_ix L k := fun e => by rw [e] at hkq; omega
      rw [if_pos z, if_pos c, pc_rm_at h (by omega), h3 n c]
      by_cases d : pc_ix L q < pc_ix L k
      · rw [if_pos d, if_pos d]
      · rw [if_neg d, if_neg (by omega), show pc_ix L q - 1 + 1 = pc_ix L q by omega]
    · rw [if_neg (fun z => c (h1.1 z).2), if_neg c]
theorem pc_rm_s {L : List Pc} (ok : pc_ok L) {k : Nat} (h : pc_ix L k < L.length) (q : Nat) : pc_s (pc_rm L k) q = if q = k then -1 else pc_s L q := by
  obtain ⟨h1, h3⟩ := pc_rm_ix ok h q
  have hl := pc_rm_len h
  unfold pc_s
  by_cases n : q = k
  · rw [if_pos n, if_neg (fun z => (h1.1 z).1 n)]
  · rw [if_neg n]
    by_cases c : pc_ix L q < L.length
    · have z := h1.2 ⟨n, c⟩
      have hkq := pc_ix_key c
      have hk := pc_ix_key h
      have ne : pc_ix L q ≠ pc_ix L k := fun e => by rw [e] at hkq; omega
      rw [if_pos z, if_pos c, pc_rm_at h (by omega), h3 n c]
      by_cases d : pc_ix L q < pc_ix L k
      · rw [if_pos d, if_pos d]
      · rw [if_neg d, if_neg (by omega), show pc_ix L q - 1 + 1 = pc_ix L q by omega]
    · rw [if_neg (fun z => c (h1.1 z).2), if_neg c]
