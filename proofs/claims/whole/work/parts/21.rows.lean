-- ===== rows: the orders of a set (pure) =====
abbrev RD : Type := (Nat → Nat → Bool) × (Nat → Nat → Bool) × (Nat → Nat → Bool) × (Nat → Nat → Bool)
/-- slots of a picture; q is ahead of p; a thing that passes is there; it is not there -/
def ro_w (ρ : RD) : Nat → Nat → Bool := ρ.1
def ro_a (ρ : RD) : Nat → Nat → Bool := ρ.2.1
def ro_t (ρ : RD) : Nat → Nat → Bool := ρ.2.2.1
def ro_y (ρ : RD) : Nat → Nat → Bool := ρ.2.2.2
def ro_ok (ρ : RD) : Prop := (∀ p, ro_a ρ p p = false) ∧ (∀ t p, ro_t ρ t p = true → ro_y ρ t p = false)
/-- first slot from f on, or 48 -/
def ro_g (w : Nat → Bool) : Nat → Nat
  | 0 => 48
  | d + 1 => if w (47 - d) then 47 - d else ro_g w d
def ro_f (w : Nat → Bool) (f : Nat) : Nat := ro_g w (48 - f)
/-- last slot ahead of e, and one; or 0 -/
def ro_l (w : Nat → Bool) : Nat → Nat
  | 0 => 0
  | e + 1 => if w e then e + 1 else ro_l w e
theorem ro_g_le (w : Nat → Bool) : ∀ d, ro_g w d ≤ 48
  | 0 => Nat.le_refl _
  | d + 1 => by
    have := ro_g_le w d
    unfold ro_g
    split <;> omega
theorem ro_f_le (w : Nat → Bool) (f : Nat) : ro_f w f ≤ 48 := ro_g_le w _
theorem ro_g_yes (w : Nat → Bool) : ∀ d, d ≤ 48 → ro_g w d < 48 → 48 - d ≤ ro_g w d ∧ w (ro_g w d) = true
  | 0, _, h => absurd h (by unfold ro_g; omega)
  | d + 1, hd, h => by
    unfold ro_g at h ⊢
    by_cases c : w (47 - d) = true
    · rw [if_pos c]; exact ⟨by omega, c⟩
    · rw [if_neg c] at h ⊢
      have := ro_g_yes w d (by omega) h
      exact ⟨by omega, this.2⟩
theorem ro_f_yes {w : Nat → Bool} {f : Nat} (h : ro_f w f < 48) : f ≤ ro_f w f ∧ w (ro_f w f) = true := by
  have := ro_g_yes w (48 - f) (by omega) h
  refine ⟨?_, this.2⟩
  have h1 := this.1
  unfold ro_f at h ⊢
  omega
theorem ro_g_min (w : Nat → Bool) : ∀ d s, d ≤ 48 → 48 - d ≤ s → s < 48 → w s = true → ro_g w d ≤ s
  | 0, s, _, h1, h2, _ => by omega
  | d + 1, s, hd, h1, h2, hs => by
    unfold ro_g
    by_cases c : w (47 - d) = true
    · rw [if_pos c]; omega
    · rw [if_neg c]
      have : s ≠ 47 - d := fun e => c (e ▸ hs)
      exact ro_g_min w d s (by omega) (by omega) h2 hs
theorem ro_f_min {w : Nat → Bool} {f s : Nat} (h1 : f ≤ s) (h2 : s < 48) (hs : w s = true) : ro_f w f ≤ s :=
  ro_g_min w (48 - f) s (by omega) (by omega) h2 hs
theorem ro_f_mono {w : Nat → Bool} {f g : Nat} (h : f ≤ g) : ro_f w f ≤ ro_f w g := by
  by_cases c : ro_f w g < 48
  · have := ro_f_yes c
    exact ro_f_min (by omega) c this.2
  · have := ro_f_le w f
    omega
theorem ro_l_le (w : Nat → Bool) : ∀ e, ro_l w e ≤ e
  | 0 => Nat.le_refl _
  | e + 1 => by
    have := ro_l_le w e
    unfold ro_l
    split <;> omega
theorem ro_l_yes (w : Nat → Bool) : ∀ e, 0 < ro_l w e → w (ro_l w e - 1) = true
  | 0, h => absurd h (by unfold ro_l; omega)
  | e + 1, h => by
    unfold ro_l at h ⊢
    by_cases c : w e = true
    · rw [if_pos c]; exact c
    · rw [if_neg c] at h ⊢
      exact ro_l_yes w e h
theorem ro_l_max (w : Nat → Bool) : ∀ e s, s < e → w s = true → s + 1 ≤ ro_l w e
  | 0, s, h, _ => by omega
  | e + 1, s, h, hs => by
    unfold ro_l
    by_cases c : w e = true
    · rw [if_pos c]; omega
    · rw [if_neg c]
      have : s ≠ e := fun z => c (z ▸ hs)
      exact ro_l_max w e s (by omega) hs
/-- the first free slot behind a row that takes the first slots it can -/
def ro_fr (ρ : RD) : Nat → List Nat → Option Nat
  | f, [] => some f
  | f, p :: u => if ro_f (ro_w ρ p) f < 48 then ro_fr ρ (ro_f (ro_w ρ p) f + 1) u else none
theorem ro_fr_app (ρ : RD) : ∀ (r u : List Nat) (f : Nat), ro_fr ρ f (r ++ u) = (ro_fr ρ f r).bind (fun g => ro_fr ρ g u)
  | [], u, f => rfl
  | p :: r, u, f => by
    show (if _ then _ else _) = Option.bind (if _ then _ else _) _
    by_cases c : ro_f (ro_w ρ p) f < 48
    · rw [if_pos c, if_pos c]; exact ro_fr_app ρ r u _
    · rw [if_neg c, if_neg c]; rfl
theorem ro_fr_snoc {ρ : RD} {r : List Nat} {f g : Nat} (h : ro_fr ρ f r = some g) (p : Nat) : ro_fr ρ f (r ++ [p]) = if ro_f (ro_w ρ p) g < 48 then some (ro_f (ro_w ρ p) g + 1) else none := by
  rw [ro_fr_app, h]
  rfl
theorem ro_fr_mono (ρ : RD) : ∀ (u : List Nat) (f f' g' : Nat), f ≤ f' → ro_fr ρ f' u = some g' → ∃ g, ro_fr ρ f u = some g ∧ g ≤ g'
  | [], f, f', g', h, e => by
    cases e
    exact ⟨f, rfl, h⟩
  | p :: u, f, f', g', h, e => by
    unfold ro_fr at e ⊢
    have hm := ro_f_mono (w := ro_w ρ p) h
    by_cases c : ro_f (ro_w ρ p) f' < 48
    · rw [if_pos c] at e
      rw [if_pos (by omega)]
      exact ro_fr_mono ρ u _ _ _ (by omega) e
    · rw [if_neg c] at e
      cases e
theorem ro_fr_le (ρ : RD) : ∀ (u : List Nat) (f g : Nat), f ≤ 48 → ro_fr ρ f u = some g → g ≤ 48 ∧ f ≤ g
  | [], f, g, h, e => by
    cases e
    exact ⟨h, Nat.le_refl _⟩
  | p :: u, f, g, h, e => by
    unfold ro_fr at e
    by_cases c : ro_f (ro_w ρ p) f < 48
    · rw [if_pos c] at e
      have h1 := ro_f_yes c
      have h2 := ro_fr_le ρ u _ g (by omega) e
      omega
    · rw [if_neg c] at e
      cases e
/-- the latest first slot of a row, and one; 49 of the empty row -/
def ro_la (ρ : RD) : List Nat → Nat
  | [] => 49
  | p :: u => ro_l (ro_w ρ p) (ro_la ρ u - 1)
theorem ro_la_le (ρ : RD) : ∀ u, ro_la ρ u ≤ 49
  | [] => Nat.le_refl _
  | p :: u => by
    have h1 := ro_l_le (ro_w ρ p) (ro_la ρ u - 1)
    have h2 := ro_la_le ρ u
    show ro_l (ro_w ρ p) (ro_la ρ u - 1) ≤ 49
    omega
theorem ro_la_iff (ρ : RD) : ∀ (u : List Nat) (f : Nat), f ≤ 48 → ((ro_fr ρ f u).isSome = true ↔ f + 1 ≤ ro_la ρ u)
  | [], f, h => ⟨fun _ => by unfold ro_la; omega, fun _ => rfl⟩
  | p :: u, f, h => by
    have hl := ro_la_le ρ u
    show (Option.isSome (if ro_f (ro_w ρ p) f < 48 then ro_fr ρ (ro_f (ro_w ρ p) f + 1) u else none) = true) ↔ f + 1 ≤ ro_l (ro_w ρ p) (ro_la ρ u - 1)
    by_cases c : ro_f (ro_w ρ p) f < 48
    · rw [if_pos c, ro_la_iff ρ u (ro_f (ro_w ρ p) f + 1) (by omega)]
      have h1 := ro_f_yes c
      constructor
      · intro z
        have := ro_l_max (ro_w ρ p) (ro_la ρ u - 1) (ro_f (ro_w ρ p) f) (by omega) h1.2
        omega
      · intro z
        have h2 := ro_l_yes (ro_w ρ p) (ro_la ρ u - 1) (by omega)
        have h3 := ro_l_le (ro_w ρ p) (ro_la ρ u - 1)
        have h4 := ro_f_min (w := ro_w ρ p) (f := f) (s := ro_l (ro_w ρ p) (ro_la ρ u - 1) - 1) (by omega) (by omega) h2
        omega
    · rw [if_neg c]
      constructor
      · intro z; cases z
      · intro z
        have h2 := ro_l_yes (ro_w ρ p) (ro_la ρ u - 1) (by omega)
        have h3 := ro_l_le (ro_w ρ p) (ro_la ρ u - 1)
        have h4 := ro_f_min (w := ro_w ρ p) (f := f) (s := ro_l (ro_w ρ p) (ro_la ρ u - 1) - 1) (by omega) (by omega) h2
        exact absurd (show ro_f (ro_w ρ p) f < 48 by omega) c
-- the rows of a set, each next one let in by ok
def ro_cd (S : Nat → Bool) (ok : List Nat → Nat → Bool) (r : List Nat) : List Nat := (List.range 7).filter (fun p => S p && !r.contains p && ok r p)
def ro_en (S : Nat → Bool) (ok : List Nat → Nat → Bool) : Nat → List Nat → List (List Nat)
  | 0, r => [r]
  | k + 1, r => (ro_cd S ok r).flatMap (fun p => ro_en S ok k (r ++ [p]))
def ro_al (ok : List Nat → Nat → Bool) (i : Nat) (l : List Nat) : Bool := (List.range l.length).all (fun j => decide (j < i) || ok (l.take j) (l.getD j 0))
def ro_tt : List Nat → Nat → Bool := fun _ _ => true
theorem ro_cd_mem {S : Nat → Bool} {ok : List Nat → Nat → Bool} {r : List Nat} {p : Nat} : p ∈ ro_cd S ok r ↔ p < 7 ∧ S p = true ∧ p ∉ r ∧ ok r p = true := by
  unfold ro_cd
  rw [List.mem_filter, List.mem_range]
  simp only [Bool.and_eq_true, Bool.not_eq_true', List.contains_eq_mem, decide_eq_false_iff_not]
  constructor
  · rintro ⟨h1, ⟨h2, h3⟩, h4⟩; exact ⟨h1, h2, h3, h4⟩
  · rintro ⟨h1, h2, h3, h4⟩; exact ⟨h1, ⟨h2, h3⟩, h4⟩
/-- what a row of the set is like -/
theorem ro_en_mem (S : Nat → Bool) (ok : List Nat → Nat → Bool) : ∀ (k : Nat) (r l : List Nat), r.Nodup → (∀ p ∈ r, p < 7 ∧ S p = true) → l ∈ ro_en S ok k r → (∃ u, l = r ++ u ∧ u.length = k) ∧ l.Nodup ∧ (∀ p ∈ l, p < 7 ∧ S p = true)
  | 0, r, l, h1, h2, h => by
    have e : l = r := by simpa [ro_en] using h
    subst e
    exact ⟨⟨[], by simp, rfl⟩, h1, h2⟩
  | k + 1, r, l, h1, h2, h => by
    obtain ⟨p, hp, hl⟩ := List.mem_flatMap.1 h
    rw [ro_cd_mem] at hp
    obtain ⟨a1, a2, a3, -⟩ := hp
    have hn : (r ++ [p]).Nodup := by
      rw [List.nodup_append]
      refine ⟨h1, by simp, ?_⟩
      intro x hx y hy
      have : y = p := by simpa using hy
      subst this
      intro e
      subst e
      exact a3 hx
    obtain ⟨⟨u, e1, e2⟩, b2, b3⟩ := ro_en_mem S ok k (r ++ [p]) l hn (fun q hq => by
      rcases List.mem_append.1 hq with z | z
      · exact h2 q z
      · have : q = p := by simpa using z
        subst this
        exact ⟨a1, a2⟩) hl
    exact ⟨⟨p :: u, by rw [e1]; simp, by simp [e2]⟩, b2, b3⟩
theorem ro_fm_filter {α β : Type} (c : α → Bool) (g : α → List β) : ∀ l : List α, (l.filter c).flatMap g = l.flatMap (fun a => if c a then g a else [])
  | [] => rfl
  | a :: l => by
    rw [List.filter_cons, List.flatMap_cons, ← ro_fm_filter c g l]
    by_cases h : c a = true
    · simp [h]
    · simp [h]
theorem ro_fm_congr {α β : Type} {f g : α → List β} : ∀ {l : List α}, (∀ a ∈ l, f a = g a) → l.flatMap f = l.flatMap g
  | [], _ => rfl
  | a :: l, h => by
    rw [List.flatMap_cons, List.flatMap_cons, h a (by simp), ro_fm_congr (fun x hx => h x (by simp [hx]))]
theorem ro_al_len {ok : List Nat → Nat → Bool} {l : List Nat} {i : Nat} (h : l.length ≤ i) : ro_al ok i l = true := by
  unfold ro_al
  rw [List.all_eq_true]
  intro j hj
  rw [List.mem_range] at hj
  simp [show j < i by omega]
theorem ro_al_iff {ok : List Nat → Nat → Bool} {l : List Nat} {i : Nat} : ro_al ok i l = true ↔ ∀ j, i ≤ j → j < l.length → ok (l.take j) (l.getD j 0) = true := by
  unfold ro_al
  rw [List.all_eq_true]
  constructor
  · intro h j h1 h2
    have := h j (List.mem_range.2 h2)
    rw [Bool.or_eq_true] at this
    rcases this with z | z
    · have := of_decide_eq_true z; omega
    · exact z
  · intro h j hj
    rw [List.mem_range] at hj
    rw [Bool.or_eq_true]
    by_cases c : j < i
    · exact Or.inl (decide_eq_true c)
    · exact Or.inr (h j (by omega) hj)
theorem ro_al_step {ok : List Nat → Nat → Bool} {r u : List Nat} {p : Nat} : ro_al ok r.length (r ++ [p] ++ u) = (ok r p && ro_al ok (r ++ [p]).length (r ++ [p] ++ u)) := by
  have e0 : (r ++ [p] ++ u).take r.length = r := by simp
  have e1 : (r ++ [p] ++ u).getD r.length 0 = p := by simp
  have e2 : r.length < (r ++ [p] ++ u).length := by simp
  apply Bool.eq_iff_iff.2
  rw [Bool.and_eq_true, ro_al_iff, ro_al_iff]
  constructor
  · intro h
    refine ⟨?_, fun j h1 h2 => h j (by simp at h1; omega) h2⟩
    have := h r.length (Nat.le_refl _) e2
    rwa [e0, e1] at this
  · rintro ⟨h1, h2⟩ j h3 h4
    by_cases c : j = r.length
    · subst c; rw [e0, e1]; exact h1
    · exact h2 j (by simp; omega) h4
theorem ro_en_filter (S : Nat → Bool) (ok : List Nat → Nat → Bool) : ∀ (k : Nat) (r : List Nat), r.Nodup → (∀ p ∈ r, p < 7 ∧ S p = true) → ro_en S ok k r = (ro_en S ro_tt k r).filter (ro_al ok r.length)
  | 0, r, _, _ => by
    show [r] = [r].filter _
    rw [List.filter_cons, ro_al_len (Nat.le_refl _)]
    rfl
  | k + 1, r, h1, h2 => by
    show (ro_cd S ok r).flatMap _ = List.filter _ ((ro_cd S ro_tt r).flatMap _)
    rw [List.filter_flatMap]
    unfold ro_cd
    have e : (List.range 7).filter (fun p => S p && !r.contains p && ok r p) = ((List.range 7).filter (fun p => S p && !r.contains p && ro_tt r p)).filter (fun p => ok r p) := by
      rw [List.filter_filter]
      apply List.filter_congr
      intro p _
      simp [ro_tt, Bool.and_comm]
    rw [e, ro_fm_filter]
    apply ro_fm_congr
    intro p hp
    have hp' := ro_cd_mem.1 hp
    have hn : (r ++ [p]).Nodup := by
      rw [List.nodup_append]
      refine ⟨h1, by simp, ?_⟩
      intro x hx y hy
      have : y = p := by simpa using hy
      subst this
      intro e
      subst e
      exact hp'.2.2.1 hx
    have hs : ∀ q ∈ r ++ [p], q < 7 ∧ S q = true := by
      intro q hq
      rcases List.mem_append.1 hq with z | z
      · exact h2 q z
      · have : q = p := by simpa using z
        subst this
        exact ⟨hp'.1, hp'.2.1⟩
    rw [ro_en_filter S ok k (r ++ [p]) hn hs]
    have hf : ∀ l ∈ ro_en S ro_tt k (r ++ [p]), ro_al ok r.length l = (ok r p && ro_al ok (r ++ [p]).length l) := by
      intro l hl
      obtain ⟨⟨u, e1, -⟩, -⟩ := ro_en_mem S ro_tt k (r ++ [p]) l hn hs hl
      rw [e1]
      exact ro_al_step
    by_cases c : ok r p = true
    · rw [if_pos c]
      apply List.filter_congr
      intro l hl
      rw [hf l hl, c]
      rfl
    · rw [if_neg c]
      symm
      rw [List.filter_eq_nil_iff]
      intro l hl
      rw [hf l hl]
      simp [c]
/-- two ways to let in, that say the same of every whole row, give the same rows -/
theorem ro_en_congr {S : Nat → Bool} {ok1 ok2 : List Nat → Nat → Bool} {k : Nat} (h : ∀ l, l.Nodup → l.length = k → (∀ p ∈ l, p < 7 ∧ S p = true) → ro_al ok1 0 l = ro_al ok2 0 l) : ro_en S ok1 k [] = ro_en S ok2 k [] := by
  rw [ro_en_filter S ok1 k [] (by simp) (by simp), ro_en_filter S ok2 k [] (by simp) (by simp)]
  apply List.filter_congr
  intro l hl
  obtain ⟨⟨u, e1, e2⟩, h2, h3⟩ := ro_en_mem S ro_tt k [] l (by simp) (by simp) hl
  exact h l h2 (by rw [e1]; simpa using e2) h3
-- ===== the reference's way and the class's way let in the same whole rows =====
def ro_sl (ρ : RD) (r : List Nat) (p : Nat) : Bool := match ro_fr ρ 0 r with
  | none => false
  | some f => decide (ro_f (ro_w ρ p) f < 48)
/-- the reference: nothing ahead of what stands there; what passes was not away since it was there -/
def ro_wh (ρ : RD) (t : Nat) (r : List Nat) : Bool := (List.range r.length).all (fun j => !(ro_y ρ t (r.getD j 0) && (r.take j).any (fun q => ro_t ρ t q)))
def ro_R (ρ : RD) (r : List Nat) (p : Nat) : Bool := (r.all (fun q => !ro_a ρ p q)) && ((List.range 6).all (fun t => !ro_t ρ t p || ro_wh ρ t r)) && ro_sl ρ r p
/-- the class: by the set of those placed -/
def ro_nx (ρ : RD) (S A : Nat → Bool) (p : Nat) : Bool := S p && !A p && ((List.range 7).all (fun q => !(S q && !A q && ro_a ρ q p))) && ((List.range 6).all (fun t => !((List.range 7).any (fun q => S q && A q && ro_t ρ t q) && (List.range 7).any (fun q => S q && !A q && ro_t ρ t q) && ro_y ρ t p)))
def ro_C (ρ : RD) (S : Nat → Bool) (r : List Nat) (p : Nat) : Bool := ro_nx ρ S (fun q => r.contains q) p && ro_sl ρ r p
theorem ro_take_get {l : List Nat} {j q : Nat} (hj : j ≤ l.length) : q ∈ l.take j ↔ ∃ i, i < j ∧ l.getD i 0 = q := by
  rw [List.mem_take_iff_getElem]
  constructor
  · rintro ⟨i, hi, e⟩
    refine ⟨i, by omega, ?_⟩
    rw [List.getD_eq_getElem?_getD, List.getElem?_eq_getElem (by omega)]
    exact e
  · rintro ⟨i, hi, e⟩
    refine ⟨i, by omega, ?_⟩
    rw [List.getD_eq_getElem?_getD, List.getElem?_eq_getElem (by omega)] at e
    exact e
theorem ro_get_mem {l : List Nat} {q : Nat} : q ∈ l ↔ ∃ i, i < l.length ∧ l.getD i 0 = q := by
  rw [List.mem_iff_getElem]
  constructor
  · rintro ⟨i, hi, e⟩
    refine ⟨i, hi, ?_⟩
    rw [List.getD_eq_getElem?_getD, List.getElem?_eq_getElem hi]
    exact e
  · rintro ⟨i, hi, e⟩
    refine ⟨i, hi, ?_⟩
    rw [List.getD_eq_getElem?_getD, List.getElem?_eq_getElem hi] at e
    exact e
theorem ro_get_inj {l : List Nat} (h : l.Nodup) {i j : Nat} (hi : i < l.length) (hj : j < l.length) (e : l.getD i 0 = l.getD j 0) : i = j := by
  rw [List.getD_eq_getElem?_getD, List.getElem?_eq_getElem hi, List.getD_eq_getElem?_getD, List.getElem?_eq_getElem hj] at e
  apply (List.getElem?_inj hi h).1
  rw [List.getElem?_eq_getElem hi, List.getElem?_eq_getElem hj]
  exact congrArg some e
/-- a row of the set that is as long as the set has all of it -/
def ro_full (S : Nat → Bool) (l : List Nat) : Prop := l.Nodup ∧ (∀ p ∈ l, p < 7 ∧ S p = true) ∧ (∀ p, p < 7 → S p = true → p ∈ l)
/-- what a whole row must keep -/
def ro_V (ρ : RD) (l : List Nat) : Prop := (∀ i j, i < j → j < l.length → ro_a ρ (l.getD j 0) (l.getD i 0) = false) ∧ (∀ t, t < 6 → ∀ i j k, i < j → j < k → k < l.length → ro_t ρ t (l.getD i 0) = true → ro_y ρ t (l.getD j 0) = true → ro_t ρ t (l.getD k 0) = false) ∧ (∀ j, j < l.length → ro_sl ρ (l.take j) (l.getD j 0) = true)
theorem ro_wh_iff {ρ : RD} {t : Nat} {r : List Nat} : ro_wh ρ t r = true ↔ ∀ i j, i < j → j < r.length → ro_t ρ t (r.getD i 0) = true → ro_y ρ t (r.getD j 0) = false := by
  unfold ro_wh
  rw [List.all_eq_true]
  constructor
  · intro h i j hij hj ht
    have := h j (List.mem_range.2 hj)
    cases hy : ro_y ρ t (r.getD j 0) with
    | false => rfl
    | true =>
      rw [hy] at this
      have h2 : (r.take j).any (fun q => ro_t ρ t q) = true := List.any_eq_true.2 ⟨r.getD i 0, (ro_take_get (by omega)).2 ⟨i, hij, rfl⟩, ht⟩
      rw [h2] at this
      cases this
  · intro h j hj
    rw [List.mem_range] at hj
    cases hy : ro_y ρ t (r.getD j 0) with
    | false => rfl
    | true =>
      cases hz : (r.take j).any (fun q => ro_t ρ t q) with
      | false => rfl
      | true =>
        obtain ⟨q, hq, hq2⟩ := List.any_eq_true.1 hz
        obtain ⟨i, hi, e⟩ := (ro_take_get (by omega)).1 hq
        have := h i j hi hj (by rw [e]; exact hq2)
        rw [hy] at this
        cases this
theorem ro_getD_take {l : List Nat} {j i : Nat} (h : i < j) : (l.take j).getD i 0 = l.getD i 0 := by
  rw [List.getD_eq_getElem?_getD, List.getD_eq_getElem?_getD, List.getElem?_take, if_pos h]
theorem ro_R_V {ρ : RD} {l : List Nat} : ro_al (ro_R ρ) 0 l = true ↔ ro_V ρ l := by
  rw [ro_al_iff]
  unfold ro_R ro_V
  constructor
  · intro h
    have h' : ∀ j, j < l.length → _ := fun j hj => h j (Nat.zero_le _) hj
    refine ⟨fun i j hij hj => ?_, fun t ht i j k hij hjk hk h1 h2 => ?_, fun j hj => ?_⟩
    · have := h' j hj
      simp only [Bool.and_eq_true, List.all_eq_true] at this
      have := this.1.1 (l.getD i 0) ((ro_take_get (by omega)).2 ⟨i, hij, rfl⟩)
      simpa using this
    · have := h' k hk
      simp only [Bool.and_eq_true, List.all_eq_true] at this
      have := this.1.2 t (List.mem_range.2 ht)
      cases h3 : ro_t ρ t (l.getD k 0) with
      | false => rfl
      | true =>
        rw [h3] at this
        have h4 : ro_wh ρ t (l.take k) = true := by simpa using this
        have := ro_wh_iff.1 h4 i j hij (by rw [List.length_take]; omega) (by rw [ro_getD_take (by omega)]; exact h1)
        rw [ro_getD_take hjk, h2] at this
        cases this
    · have := h' j hj
      simp only [Bool.and_eq_true] at this
      exact this.2
  · rintro ⟨h1, h2, h3⟩ j - hj
    simp only [Bool.and_eq_true, List.all_eq_true]
    refine ⟨⟨fun q hq => ?_, fun t ht => ?_⟩, h3 j hj⟩
    · obtain ⟨i, hi, e⟩ := (ro_take_get (by omega)).1 hq
      rw [← e, h1 i j hi hj]
      rfl
    · rw [List.mem_range] at ht
      cases h4 : ro_t ρ t (l.getD j 0) with
      | false => rfl
      | true =>
        have : ro_wh ρ t (l.take j) = true := by
          rw [ro_wh_iff]
          intro i k hik hk h5
          rw [List.length_take] at hk
          rw [ro_getD_take (by omega)] at h5 ⊢
          cases h6 : ro_y ρ t (l.getD k 0) with
          | false => rfl
          | true =>
            have := h2 t ht i k j hik (by omega) hj h5 h6
            rw [h4] at this
            cases this
        rw [this]
        rfl
theorem ro_nx_iff {ρ : RD} {S A : Nat → Bool} {p : Nat} : ro_nx ρ S A p = true ↔ S p = true ∧ A p = false ∧ (∀ q, q < 7 → S q = true → A q = false → ro_a ρ q p = false) ∧ (∀ t, t < 6 → ro_y ρ t p = true → (∃ q, q < 7 ∧ S q = true ∧ A q = true ∧ ro_t ρ t q = true) → ∀ q, q < 7 → S q = true → A q = false → ro_t ρ t q = false) := by
  unfold ro_nx
  simp only [Bool.and_eq_true, List.all_eq_true, List.mem_range, Bool.not_eq_true', Bool.and_eq_false_iff, List.any_eq_false]
  constructor
  · rintro ⟨⟨⟨h1, h2⟩, h3⟩, h4⟩
    refine ⟨h1, h2, fun q hq a b => ?_, fun t ht hy hb q hq a b => ?_⟩
    · have := h3 q hq
      simp only [a, b, Bool.not_false, Bool.not_true, Bool.true_eq_false, false_or, or_false] at this
      simpa using this
    · have := h4 t ht
      obtain ⟨q0, c0, c1, c2, c3⟩ := hb
      rcases this with (z | z) | z
      · have := z q0 (by simpa using c0)
        simp [c1, c2, c3] at this
      · have := z q (by simpa using hq)
        cases h5 : ro_t ρ t q with
        | false => rfl
        | true => simp [a, b, h5] at this
      · rw [hy] at z; cases z
  · rintro ⟨h1, h2, h3, h4⟩
    refine ⟨⟨⟨h1, h2⟩, fun q hq => ?_⟩, fun t ht => ?_⟩
    · have := h3 q hq
      cases a : S q with
      | false => simp
      | true =>
        cases b : A q with
        | true => simp
        | false => simp [this a b]
    · cases hy : ro_y ρ t p with
      | false => simp
      | true =>
        refine Or.inl ?_
        by_cases hb : ∃ q, q < 7 ∧ S q = true ∧ A q = true ∧ ro_t ρ t q = true
        · refine Or.inr (fun q hq => ?_)
          have := h4 t ht hy hb q (by simpa using hq)
          cases a : S q with
          | false => simp
          | true =>
            cases b : A q with
            | true => simp
            | false => simp [this a b]
        · refine Or.inl (fun q hq => ?_)
          intro z
          exact hb ⟨q, by simpa using hq, z.1.1, z.1.2, z.2⟩
theorem ro_C_V {ρ : RD} {S : Nat → Bool} {l : List Nat} (hk : ro_ok ρ) (hf : ro_full S l) : ro_al (ro_C ρ S) 0 l = true ↔ ro_V ρ l := by
  obtain ⟨hn, hm, hall⟩ := hf
  have hrest : ∀ j, j ≤ l.length → ∀ q, q < 7 → S q = true → (l.take j).contains q = false → ∃ i, j ≤ i ∧ i < l.length ∧ l.getD i 0 = q := by
    intro j hj q hq hS hc
    obtain ⟨i, hi, e⟩ := ro_get_mem.1 (hall q hq hS)
    refine ⟨i, ?_, hi, e⟩
    refine Nat.le_of_not_lt (fun z => ?_)
    have : q ∈ l.take j := (ro_take_get hj).2 ⟨i, z, e⟩
    rw [List.contains_eq_mem, decide_eq_false_iff_not] at hc
    exact hc this
  have hS : ∀ i, i < l.length → l.getD i 0 < 7 ∧ S (l.getD i 0) = true := fun i hi => hm _ (ro_get_mem.2 ⟨i, hi, rfl⟩)
  have hnot : ∀ i j, j ≤ i → i < l.length → (l.take j).contains (l.getD i 0) = false := by
    intro i j hij hi
    rw [List.contains_eq_mem, decide_eq_false_iff_not]
    intro z
    obtain ⟨k, hk, e⟩ := (ro_take_get (by omega)).1 z
    have := ro_get_inj hn (by omega) hi e
    omega
  have hyes : ∀ i j, i < j → j ≤ l.length → (l.take j).contains (l.getD i 0) = true := by
    intro i j hij hj
    rw [List.contains_eq_mem, decide_eq_true_iff]
    exact (ro_take_get hj).2 ⟨i, hij, rfl⟩
  rw [ro_al_iff]
  unfold ro_C ro_V
  constructor
  · intro h
    have h' : ∀ j, j < l.length → _ := fun j hj => h j (Nat.zero_le _) hj
    refine ⟨fun i j hij hj => ?_, fun t ht i j k hij hjk hkl h1 h2 => ?_, fun j hj => ?_⟩
    · have := h' i (by omega)
      rw [Bool.and_eq_true, ro_nx_iff] at this
      exact this.1.2.2.1 _ (hS j hj).1 (hS j hj).2 (hnot j i (by omega) hj)
    · have := h' j (by omega)
      rw [Bool.and_eq_true, ro_nx_iff] at this
      exact this.1.2.2.2 t ht h2 ⟨_, (hS i (by omega)).1, (hS i (by omega)).2, hyes i j hij (by omega), h1⟩ _ (hS k hkl).1 (hS k hkl).2 (hnot k j (by omega) hkl)
    · have := h' j hj
      rw [Bool.and_eq_true] at this
      exact this.2
  · rintro ⟨h1, h2, h3⟩ j - hj
    rw [Bool.and_eq_true, ro_nx_iff]
    refine ⟨⟨(hS j hj).2, hnot j j (Nat.le_refl _) hj, fun q hq a b => ?_, fun t ht hy hb q hq a b => ?_⟩, h3 j hj⟩
    · obtain ⟨i, hi, hl, e⟩ := hrest j (by omega) q hq a b
      rw [← e]
      by_cases c : i = j
      · subst c; exact hk.1 _
      · exact h1 j i (by omega) hl
    · obtain ⟨i, hi, hl, e⟩ := hrest j (by omega) q hq a b
      obtain ⟨q0, c0, c1, c2, c3⟩ := hb
      have : q0 ∈ l.take j := by
        rw [List.contains_eq_mem, decide_eq_true_iff] at c2
        exact c2
      obtain ⟨i0, d1, d2⟩ := (ro_take_get (by omega)).1 this
      rw [← e]
      by_cases c : i = j
      · subst c
        cases h5 : ro_t ρ t (l.getD i 0) with
        | false => rfl
        | true =>
          have := hk.2 t _ h5
          rw [hy] at this
          cases this
      · exact h2 t ht i0 j i d1 (by omega) hl (by rw [d2]; exact c3) hy
-- ===== sets as numbers; how many rows; the k-th row; paths =====
def ro_sm (f : Nat → Nat) : Nat → Nat
  | 0 => 0
  | n + 1 => ro_sm f n + f n
theorem ro_sm_congr {f g : Nat → Nat} : ∀ {n : Nat}, (∀ k, k < n → f k = g k) → ro_sm f n = ro_sm g n
  | 0, _ => rfl
  | n + 1, h => by
    show ro_sm f n + f n = ro_sm g n + g n
    rw [ro_sm_congr (fun k hk => h k (by omega)), h n (by omega)]
theorem ro_sm_mono (f : Nat → Nat) (m : Nat) : ∀ d, ro_sm f m ≤ ro_sm f (m + d)
  | 0 => Nat.le_refl _
  | d + 1 => Nat.le_trans (ro_sm_mono f m d) (Nat.le_add_right _ _)
theorem ro_sm_le {f : Nat → Nat} {c : Nat} : ∀ {n : Nat}, (∀ k, k < n → f k ≤ c) → ro_sm f n ≤ n * c
  | 0, _ => by simp [ro_sm]
  | n + 1, h => by
    have h1 := ro_sm_le (n := n) (fun k hk => h k (by omega))
    have h2 := h n (by omega)
    show ro_sm f n + f n ≤ (n + 1) * c
    rw [Nat.succ_mul]
    omega
def ro_ct (m : Nat) : Nat := ro_sm (fun p => if m.testBit p then 1 else 0) 7
theorem ro_ct_or : ∀ A, A < 128 → ∀ p, p < 7 → A.testBit p = false → ro_ct (A ||| 2 ^ p) = ro_ct A + 1 := by decide +kernel
theorem ro_or_lt : ∀ A, A < 128 → ∀ p, p < 7 → A ||| 2 ^ p < 128 := by decide +kernel
theorem ro_or_gt : ∀ A, A < 128 → ∀ p, p < 7 → A.testBit p = false → A < A ||| 2 ^ p := by decide +kernel
theorem ro_ct_eq : ∀ A, A < 128 → ∀ S, S < 128 → A &&& S = A → ro_ct S ≤ ro_ct A → A = S := by decide +kernel
theorem ro_ct_le : ∀ A, A < 128 → ro_ct A ≤ 7 := by decide +kernel
theorem ro_ct_sub : ∀ A, A < 128 → ∀ S, S < 128 → A &&& S = A → ro_ct A ≤ ro_ct S := by decide +kernel
theorem ro_sub_le {A S : Nat} (h : A &&& S = A) : A ≤ S := by
  rw [← h]
  exact Nat.and_le_right
theorem ro_sub_iff {A S : Nat} : A &&& S = A ↔ ∀ q, A.testBit q = true → S.testBit q = true := by
  constructor
  · intro h q hq
    rw [← h, Nat.testBit_and, Bool.and_eq_true] at hq
    exact hq.2
  · intro h
    apply Nat.eq_of_testBit_eq
    intro q
    rw [Nat.testBit_and]
    cases c : A.testBit q with
    | false => rfl
    | true => rw [h q c]; rfl
theorem ro_tb_or (A p q : Nat) : (A ||| 2 ^ p).testBit q = (A.testBit q || decide (p = q)) := by
  rw [Nat.testBit_or, Nat.testBit_two_pow]
theorem ro_sub_or {A S p : Nat} (h : A &&& S = A) (hp : S.testBit p = true) : (A ||| 2 ^ p) &&& S = A ||| 2 ^ p := by
  rw [ro_sub_iff] at h ⊢
  intro q hq
  rw [ro_tb_or, Bool.or_eq_true, decide_eq_true_iff] at hq
  rcases hq with z | z
  · exact h q z
  · exact z ▸ hp
def ro_m (r : List Nat) : Nat := r.foldl (fun m p => m ||| 2 ^ p) 0
theorem ro_m_snoc (r : List Nat) (p : Nat) : ro_m (r ++ [p]) = ro_m r ||| 2 ^ p := by
  unfold ro_m
  rw [List.foldl_append]
  rfl
theorem ro_m_tb0 : ∀ (r : List Nat) (m q : Nat), (r.foldl (fun m p => m ||| 2 ^ p) m).testBit q = (m.testBit q || r.contains q)
  | [], m, q => by simp
  | p :: r, m, q => by
    rw [List.foldl_cons, ro_m_tb0 r, ro_tb_or, List.contains_cons, Bool.or_assoc]
    congr 1
    congr 1
    apply Bool.eq_iff_iff.2
    rw [decide_eq_true_iff, beq_iff_eq]
    exact ⟨fun h => h.symm, fun h => h.symm⟩
theorem ro_m_tb (r : List Nat) : (fun q => r.contains q) = (ro_m r).testBit := by
  funext q
  unfold ro_m
  rw [ro_m_tb0]
  simp
/-- a path of the class's steps from a set -/
def ro_pt (ρ : RD) (S : Nat) : Nat → List Nat → Prop
  | _, [] => True
  | A, p :: u => ro_nx ρ S.testBit A.testBit p = true ∧ p < 7 ∧ ro_pt ρ S (A ||| 2 ^ p) u
theorem ro_pt_app {ρ : RD} {S : Nat} : ∀ (r u : List Nat) (A : Nat), ro_pt ρ S A (r ++ u) ↔ ro_pt ρ S A r ∧ ro_pt ρ S (r.foldl (fun m p => m ||| 2 ^ p) A) u
  | [], u, A => by simp [ro_pt]
  | p :: r, u, A => by
    show (_ ∧ _ ∧ ro_pt ρ S (A ||| 2 ^ p) (r ++ u)) ↔ (_ ∧ _ ∧ _) ∧ _
    rw [ro_pt_app r u, List.foldl_cons]
    constructor
    · rintro ⟨a, b, c, d⟩; exact ⟨⟨a, b, c⟩, d⟩
    · rintro ⟨⟨a, b, c⟩, d⟩; exact ⟨a, b, c, d⟩
theorem ro_nx_S {ρ : RD} {S A : Nat → Bool} {p : Nat} (h : ro_nx ρ S A p = true) : S p = true ∧ A p = false := by
  rw [ro_nx_iff] at h
  exact ⟨h.1, h.2.1⟩
/-- where a path ends -/
theorem ro_pt_end {ρ : RD} {S : Nat} (hS : S < 128) : ∀ (u : List Nat) (A : Nat), A < 128 → A &&& S = A → ro_pt ρ S A u → (u.foldl (fun m p => m ||| 2 ^ p) A) < 128 ∧ (u.foldl (fun m p => m ||| 2 ^ p) A) &&& S = (u.foldl (fun m p => m ||| 2 ^ p) A) ∧ ro_ct (u.foldl (fun m p => m ||| 2 ^ p) A) = ro_ct A + u.length
  | [], A, h1, h2, _ => ⟨h1, h2, rfl⟩
  | p :: u, A, h1, h2, h => by
    obtain ⟨a, b, c⟩ := h
    have hp := ro_nx_S a
    obtain ⟨e1, e2, e3⟩ := ro_pt_end hS u (A ||| 2 ^ p) (ro_or_lt A h1 p b) (ro_sub_or h2 hp.1) c
    refine ⟨e1, e2, ?_⟩
    rw [List.foldl_cons, e3, ro_ct_or A h1 p b hp.2, List.length_cons]
    omega
theorem ro_pt_S {ρ : RD} {S : Nat} (hS : S < 128) {u : List Nat} {A : Nat} (h1 : A < 128) (h2 : A &&& S = A) (h : ro_pt ρ S A u) (hl : ro_ct A + u.length = ro_ct S) : u.foldl (fun m p => m ||| 2 ^ p) A = S := by
  obtain ⟨e1, e2, e3⟩ := ro_pt_end hS u A h1 h2 h
  exact ro_ct_eq _ e1 S hS e2 (by omega)
theorem ro_cd_C {ρ : RD} {S : Nat} {r : List Nat} {f p : Nat} (hf : ro_fr ρ 0 r = some f) : p ∈ ro_cd S.testBit (ro_C ρ S.testBit) r ↔ p < 7 ∧ ro_nx ρ S.testBit (ro_m r).testBit p = true ∧ ro_f (ro_w ρ p) f < 48 := by
  rw [ro_cd_mem]
  unfold ro_C ro_sl
  rw [ro_m_tb, hf, Bool.and_eq_true, decide_eq_true_iff]
  constructor
  · rintro ⟨a, b, c, d, e⟩; exact ⟨a, d, e⟩
  · rintro ⟨a, d, e⟩
    have h := ro_nx_S d
    refine ⟨a, h.1, ?_, d, e⟩
    have : (fun q => r.contains q) p = false := by rw [ro_m_tb]; exact h.2
    simpa using this
theorem ro_en_C {ρ : RD} {S : Nat} : ∀ (k : Nat) (r l : List Nat), (ro_fr ρ 0 r).isSome = true → (l ∈ ro_en S.testBit (ro_C ρ S.testBit) k r ↔ ∃ u, l = r ++ u ∧ u.length = k ∧ ro_pt ρ S (ro_m r) u ∧ (ro_fr ρ 0 l).isSome = true)
  | 0, r, l, hr => by
    constructor
    · intro h
      have e : l = r := by simpa [ro_en] using h
      subst e
      exact ⟨[], by simp, rfl, trivial, hr⟩
    · rintro ⟨u, e1, e2, -⟩
      have : u = [] := List.eq_nil_of_length_eq_zero e2
      subst this
      rw [e1]
      simp [ro_en]
  | k + 1, r, l, hr => by
    obtain ⟨f, hf⟩ := Option.isSome_iff_exists.1 hr
    show l ∈ (ro_cd _ _ r).flatMap _ ↔ _
    rw [List.mem_flatMap]
    constructor
    · rintro ⟨p, hp, hl⟩
      rw [ro_cd_C hf] at hp
      have h1 : (ro_fr ρ 0 (r ++ [p])).isSome = true := by rw [ro_fr_snoc hf, if_pos hp.2.2]; rfl
      obtain ⟨u, e1, e2, e3, e4⟩ := (ro_en_C k (r ++ [p]) l h1).1 hl
      rw [ro_m_snoc] at e3
      exact ⟨p :: u, by rw [e1]; simp, by simp [e2], ⟨hp.2.1, hp.1, e3⟩, e4⟩
    · rintro ⟨u, e1, e2, e3, e4⟩
      obtain ⟨p, v, rfl⟩ : ∃ p v, u = p :: v := by
        cases u with
        | nil => simp at e2
        | cons p v => exact ⟨p, v, rfl⟩
      obtain ⟨a, b, c⟩ := e3
      have e5 : l = (r ++ [p]) ++ v := by rw [e1]; simp
      have h1 : ro_f (ro_w ρ p) f < 48 := by
        rw [e1, ro_fr_app, hf] at e4
        by_cases z : ro_f (ro_w ρ p) f < 48
        · exact z
        · simp only [Option.bind, ro_fr, if_neg z] at e4
          cases e4
      have h2 : (ro_fr ρ 0 (r ++ [p])).isSome = true := by rw [ro_fr_snoc hf, if_pos h1]; rfl
      refine ⟨p, (ro_cd_C hf).2 ⟨b, a, h1⟩, (ro_en_C k (r ++ [p]) l h2).2 ⟨v, e5, by simpa using e2, ?_, e4⟩⟩
      rw [ro_m_snoc]
      exact c
/-- the orders of a set -/
def ro_rows (ρ : RD) (S : Nat) : List (List Nat) := ro_en S.testBit (ro_R ρ) (ro_ct S) []
theorem ro_nodup_m {S : Nat} (hS : S < 128) : ∀ (l : List Nat), l.Nodup → (∀ p ∈ l, p < 7 ∧ S.testBit p = true) → ro_m l < 128 ∧ ro_m l &&& S = ro_m l ∧ ro_ct (ro_m l) = l.length := by
  intro l
  have key : ∀ (l : List Nat) (A : Nat), A < 128 → A &&& S = A → l.Nodup → (∀ p ∈ l, p < 7 ∧ S.testBit p = true ∧ A.testBit p = false) → (l.foldl (fun m p => m ||| 2 ^ p) A) < 128 ∧ (l.foldl (fun m p => m ||| 2 ^ p) A) &&& S = (l.foldl (fun m p => m ||| 2 ^ p) A) ∧ ro_ct (l.foldl (fun m p => m ||| 2 ^ p) A) = ro_ct A + l.length := by
    intro l
    induction l with
    | nil => intro A h1 h2 _ _; exact ⟨h1, h2, rfl⟩
    | cons p l ih =>
      intro A h1 h2 hn h
      obtain ⟨a, b, c⟩ := h p (by simp)
      rw [List.nodup_cons] at hn
      obtain ⟨e1, e2, e3⟩ := ih (A ||| 2 ^ p) (ro_or_lt A h1 p a) (ro_sub_or h2 b) hn.2 (fun q hq => by
        obtain ⟨a', b', c'⟩ := h q (by simp [hq])
        refine ⟨a', b', ?_⟩
        rw [ro_tb_or, c', Bool.false_or, decide_eq_false_iff_not]
        intro e
        exact hn.1 (e ▸ hq))
      refine ⟨e1, e2, ?_⟩
      rw [List.foldl_cons, e3, ro_ct_or A h1 p a c, List.length_cons]
      omega
  intro hn h
  have h0 : ro_ct 0 = 0 := by decide +kernel
  have := key l 0 (by omega) (by simp) hn (fun p hp => ⟨(h p hp).1, (h p hp).2, by simp⟩)
  rw [h0, Nat.zero_add] at this
  exact this
theorem ro_full_of {S : Nat} (hS : S < 128) {l : List Nat} (hn : l.Nodup) (hl : l.length = ro_ct S) (h : ∀ p ∈ l, p < 7 ∧ S.testBit p = true) : ro_full S.testBit l := by
  obtain ⟨e1, e2, e3⟩ := ro_nodup_m hS l hn h
  have e := ro_ct_eq _ e1 S hS e2 (by omega)
  refine ⟨hn, h, fun p _ hp => ?_⟩
  rw [← e, ← ro_m_tb] at hp
  simpa using hp
theorem ro_RC {ρ : RD} {S : Nat} (hS : S < 128) (hk : ro_ok ρ) : ro_rows ρ S = ro_en S.testBit (ro_C ρ S.testBit) (ro_ct S) [] := by
  unfold ro_rows
  apply ro_en_congr
  intro l hn hl hm
  have hf := ro_full_of hS hn hl hm
  exact Bool.eq_iff_iff.2 (ro_R_V.trans (ro_C_V hk hf).symm)
theorem ro_rows_mem {ρ : RD} {S : Nat} (hS : S < 128) (hk : ro_ok ρ) {l : List Nat} : l ∈ ro_rows ρ S ↔ l.length = ro_ct S ∧ ro_pt ρ S 0 l ∧ (ro_fr ρ 0 l).isSome = true := by
  rw [ro_RC hS hk, ro_en_C (ro_ct S) [] l rfl]
  constructor
  · rintro ⟨u, e1, e2, e3, e4⟩
    have : l = u := by simpa using e1
    subst this
    exact ⟨e2, e3, e4⟩
  · rintro ⟨a, b, c⟩
    exact ⟨l, by simp, a, b, c⟩
-- how many there are from a set and a free slot on
def ro_W (ρ : RD) (S : Nat) : Nat → Nat → Nat → Nat
  | 0, _, _ => 1
  | k + 1, A, f => ro_sm (fun p => if ro_nx ρ S.testBit A.testBit p = true ∧ ro_f (ro_w ρ p) f < 48 then ro_W ρ S k (A ||| 2 ^ p) (ro_f (ro_w ρ p) f + 1) else 0) 7
theorem ro_W_le (ρ : RD) (S : Nat) : ∀ k A f, ro_W ρ S k A f ≤ 7 ^ k
  | 0, _, _ => Nat.le_refl _
  | k + 1, A, f => by
    show ro_sm _ 7 ≤ 7 ^ (k + 1)
    refine Nat.le_trans (ro_sm_le (c := 7 ^ k) (fun p _ => ?_)) (by rw [Nat.pow_succ]; omega)
    by_cases c : ro_nx ρ S.testBit A.testBit p = true ∧ ro_f (ro_w ρ p) f < 48
    · rw [if_pos c]; exact ro_W_le ρ S k _ _
    · rw [if_neg c]; exact Nat.zero_le _
theorem ro_fm_len {β : Type} (g : Nat → List β) : ∀ n, ((List.range n).flatMap g).length = ro_sm (fun p => (g p).length) n
  | 0 => rfl
  | n + 1 => by
    rw [List.range_succ, List.flatMap_append, List.length_append, ro_fm_len g n]
    simp [ro_sm]
theorem ro_fm_get {β : Type} (g : Nat → List β) : ∀ (n k p : Nat), p < n → ro_sm (fun p => (g p).length) p ≤ k → k < ro_sm (fun p => (g p).length) (p + 1) → ((List.range n).flatMap g)[k]? = (g p)[k - ro_sm (fun p => (g p).length) p]?
  | 0, k, p, h, _, _ => by omega
  | n + 1, k, p, h, h1, h2 => by
    rw [List.range_succ, List.flatMap_append]
    have hl := ro_fm_len g n
    by_cases c : p = n
    · subst c
      rw [List.getElem?_append_right (by rw [hl]; exact h1), hl]
      simp
    · have hm := ro_sm_mono (fun p => (g p).length) (p + 1) (n - (p + 1))
      rw [show p + 1 + (n - (p + 1)) = n by omega] at hm
      rw [List.getElem?_append_left (by rw [hl]; omega)]
      exact ro_fm_get g n k p (by omega) h1 h2
theorem ro_en_fm {S : Nat → Bool} {ok : List Nat → Nat → Bool} {k : Nat} {r : List Nat} : ro_en S ok (k + 1) r = (List.range 7).flatMap (fun p => if (S p && !r.contains p && ok r p) = true then ro_en S ok k (r ++ [p]) else []) := by
  show (ro_cd S ok r).flatMap _ = _
  unfold ro_cd
  rw [ro_fm_filter]
theorem ro_C_if {ρ : RD} {S : Nat} {r : List Nat} {f p : Nat} (hp : p < 7) (hf : ro_fr ρ 0 r = some f) : ((S.testBit p && !r.contains p && ro_C ρ S.testBit r p) = true) = (ro_nx ρ S.testBit (ro_m r).testBit p = true ∧ ro_f (ro_w ρ p) f < 48) := by
  apply propext
  have h1 := ro_cd_C (S := S) (p := p) hf
  unfold ro_cd at h1
  rw [List.mem_filter, List.mem_range] at h1
  constructor
  · intro h; exact (h1.1 ⟨hp, h⟩).2
  · intro h; exact (h1.2 ⟨hp, h⟩).2
theorem ro_W_len {ρ : RD} {S : Nat} : ∀ (k : Nat) (r : List Nat) (f : Nat), ro_fr ρ 0 r = some f → (ro_en S.testBit (ro_C ρ S.testBit) k r).length = ro_W ρ S k (ro_m r) f
  | 0, _, _, _ => rfl
  | k + 1, r, f, hf => by
    rw [ro_en_fm, ro_fm_len]
    show _ = ro_sm _ 7
    apply ro_sm_congr
    intro p hp
    simp only [ro_C_if hp hf]
    by_cases c : ro_nx ρ S.testBit (ro_m r).testBit p = true ∧ ro_f (ro_w ρ p) f < 48
    · rw [if_pos c, if_pos c, ro_W_len k (r ++ [p]) _ (by rw [ro_fr_snoc hf, if_pos c.2]), ro_m_snoc]
    · rw [if_neg c, if_neg c]; rfl
theorem ro_total {ρ : RD} {S : Nat} (hS : S < 128) (hk : ro_ok ρ) : (ro_rows ρ S).length = ro_W ρ S (ro_ct S) 0 0 := by
  rw [ro_RC hS hk, ro_W_len (ro_ct S) [] 0 rfl]
  rfl
-- ===== the k-th row; what is left; rows by one more rule =====
def ro_tm (ρ : RD) (S k A f p : Nat) : Nat := if ro_nx ρ S.testBit A.testBit p = true ∧ ro_f (ro_w ρ p) f < 48 then ro_W ρ S k (A ||| 2 ^ p) (ro_f (ro_w ρ p) f + 1) else 0
theorem ro_W_succ (ρ : RD) (S k A f : Nat) : ro_W ρ S (k + 1) A f = ro_sm (ro_tm ρ S k A f) 7 := rfl
theorem ro_pick {ρ : RD} {S k b p f : Nat} {r : List Nat} (hp : p < 7) (hf : ro_fr ρ 0 r = some f) (h1 : ro_sm (ro_tm ρ S k (ro_m r) f) p ≤ b) (h2 : b < ro_sm (ro_tm ρ S k (ro_m r) f) (p + 1)) : (ro_en S.testBit (ro_C ρ S.testBit) (k + 1) r)[b]? = (ro_en S.testBit (ro_C ρ S.testBit) k (r ++ [p]))[b - ro_sm (ro_tm ρ S k (ro_m r) f) p]? ∧ ro_nx ρ S.testBit (ro_m r).testBit p = true ∧ ro_f (ro_w ρ p) f < 48 := by
  have c : ro_nx ρ S.testBit (ro_m r).testBit p = true ∧ ro_f (ro_w ρ p) f < 48 := by
    refine Classical.byContradiction fun c => ?_
    have : ro_tm ρ S k (ro_m r) f p = 0 := by unfold ro_tm; rw [if_neg c]
    have e : ro_sm (ro_tm ρ S k (ro_m r) f) (p + 1) = ro_sm (ro_tm ρ S k (ro_m r) f) p + ro_tm ρ S k (ro_m r) f p := rfl
    omega
  refine ⟨?_, c⟩
  have hg : ∀ q, q < 7 → (if (S.testBit q && !r.contains q && ro_C ρ S.testBit r q) = true then ro_en S.testBit (ro_C ρ S.testBit) k (r ++ [q]) else []).length = ro_tm ρ S k (ro_m r) f q := by
    intro q hq
    simp only [ro_C_if hq hf]
    unfold ro_tm
    by_cases d : ro_nx ρ S.testBit (ro_m r).testBit q = true ∧ ro_f (ro_w ρ q) f < 48
    · rw [if_pos d, if_pos d, ro_W_len k (r ++ [q]) _ (by rw [ro_fr_snoc hf, if_pos d.2]), ro_m_snoc]
    · rw [if_neg d, if_neg d]; rfl
  have e1 : ro_sm (fun q => (if (S.testBit q && !r.contains q && ro_C ρ S.testBit r q) = true then ro_en S.testBit (ro_C ρ S.testBit) k (r ++ [q]) else []).length) p = ro_sm (ro_tm ρ S k (ro_m r) f) p := ro_sm_congr (fun q hq => hg q (by omega))
  have e2 : ro_sm (fun q => (if (S.testBit q && !r.contains q && ro_C ρ S.testBit r q) = true then ro_en S.testBit (ro_C ρ S.testBit) k (r ++ [q]) else []).length) (p + 1) = ro_sm (ro_tm ρ S k (ro_m r) f) (p + 1) := ro_sm_congr (fun q hq => hg q (by omega))
  rw [ro_en_fm, ro_fm_get _ 7 b p hp (by rw [e1]; exact h1) (by rw [e2]; exact h2), e1]
  simp only [ro_C_if hp hf]
  rw [if_pos c]
theorem ro_m_fold (l : List Nat) : l.foldl (fun m p => m ||| 2 ^ p) 0 = ro_m l := rfl
theorem ro_rows_mem2 {ρ : RD} {S : Nat} (hS : S < 128) (hk : ro_ok ρ) {l : List Nat} : l ∈ ro_rows ρ S ↔ ro_pt ρ S 0 l ∧ ro_m l = S ∧ (ro_fr ρ 0 l).isSome = true := by
  rw [ro_rows_mem hS hk]
  have h0 : ro_ct 0 = 0 := by decide +kernel
  constructor
  · rintro ⟨a, b, c⟩
    exact ⟨b, ro_pt_S hS (by omega) (by simp) b (by omega), c⟩
  · rintro ⟨a, b, c⟩
    have := (ro_pt_end hS l 0 (by omega) (by simp) a).2.2
    rw [ro_m_fold, b, h0, Nat.zero_add] at this
    exact ⟨this.symm, a, c⟩
def ro_lf (ρ : RD) (S p s : Nat) : Prop := ∃ l ∈ ro_rows ρ S, ∃ k, k < l.length ∧ l.getD k 0 = p ∧ ro_w ρ p s = true ∧ (∃ f, ro_fr ρ 0 (l.take k) = some f ∧ f ≤ s) ∧ s + 2 ≤ ro_la ρ (l.drop (k + 1))
def ro_pl (ρ : RD) (S p k : Nat) : Prop := ∃ l ∈ ro_rows ρ S, k < l.length ∧ l.getD k 0 = p
/-- a set, a picture behind it, a slot between -/
def ro_bt (ρ : RD) (S A p s : Nat) : Prop := ro_nx ρ S.testBit A.testBit p = true ∧ p < 7 ∧ ro_w ρ p s = true ∧ (∃ r f, ro_pt ρ S 0 r ∧ ro_m r = A ∧ ro_fr ρ 0 r = some f ∧ f ≤ s) ∧ (∃ u, ro_pt ρ S (A ||| 2 ^ p) u ∧ u.foldl (fun m p => m ||| 2 ^ p) (A ||| 2 ^ p) = S ∧ s + 2 ≤ ro_la ρ u)
theorem ro_split {l : List Nat} {k : Nat} (h : k < l.length) : l = l.take k ++ l.getD k 0 :: l.drop (k + 1) := by
  have e : l.getD k 0 = l[k] := by rw [List.getD_eq_getElem?_getD, List.getElem?_eq_getElem h]; rfl
  rw [e, ← List.drop_eq_getElem_cons h, List.take_append_drop]
theorem ro_bt_of {ρ : RD} {S : Nat} (hS : S < 128) (hk : ro_ok ρ) {l : List Nat} (hl : l ∈ ro_rows ρ S) {k s : Nat} (h : k < l.length) (hw : ro_w ρ (l.getD k 0) s = true) (hf : ∃ f, ro_fr ρ 0 (l.take k) = some f ∧ f ≤ s) (ha : s + 2 ≤ ro_la ρ (l.drop (k + 1))) : ro_bt ρ S (ro_m (l.take k)) (l.getD k 0) s ∧ ro_ct (ro_m (l.take k)) = k := by
  obtain ⟨a, b, c⟩ := (ro_rows_mem2 hS hk).1 hl
  have e := ro_split h
  rw [e] at a b
  rw [ro_pt_app] at a
  obtain ⟨a1, a2, a3, a4⟩ := a
  obtain ⟨f, hf1, hf2⟩ := hf
  have h0 : ro_ct 0 = 0 := by decide +kernel
  refine ⟨⟨a2, a3, hw, ⟨_, f, a1, rfl, hf1, hf2⟩, ⟨_, a4, ?_, ha⟩⟩, ?_⟩
  · unfold ro_m at b
    rw [List.foldl_append, List.foldl_cons] at b
    exact b
  · have := (ro_pt_end hS (l.take k) 0 (by omega) (by simp) a1).2.2
    rw [ro_m_fold, h0, List.length_take] at this
    omega
theorem ro_of_bt {ρ : RD} {S : Nat} (hS : S < 128) (hk : ro_ok ρ) {A p s : Nat} (hs : s < 48) (h : ro_bt ρ S A p s) : ∃ l ∈ ro_rows ρ S, ro_ct A < l.length ∧ l.getD (ro_ct A) 0 = p ∧ (∃ f, ro_fr ρ 0 (l.take (ro_ct A)) = some f ∧ f ≤ s) ∧ s + 2 ≤ ro_la ρ (l.drop (ro_ct A + 1)) := by
  obtain ⟨h1, h2, h3, ⟨r, f, a1, a2, a3, a4⟩, ⟨u, b1, b2, b3⟩⟩ := h
  have h0 : ro_ct 0 = 0 := by decide +kernel
  have hr := ro_pt_end hS r 0 (by omega) (by simp) a1
  rw [ro_m_fold, a2, h0, Nat.zero_add] at hr
  have hm := ro_f_min (w := ro_w ρ p) a4 hs h3
  have hy := ro_f_yes (w := ro_w ρ p) (f := f) (by omega)
  refine ⟨r ++ p :: u, (ro_rows_mem2 hS hk).2 ⟨?_, ?_, ?_⟩, ?_⟩
  · rw [ro_pt_app, ro_m_fold, a2]
    exact ⟨a1, h1, h2, b1⟩
  · unfold ro_m at a2 ⊢
    rw [List.foldl_append, a2]
    exact b2
  · rw [ro_fr_app, a3]
    show (ro_fr ρ f (p :: u)).isSome = true
    unfold ro_fr
    rw [if_pos (by omega), ro_la_iff ρ u _ (by omega)]
    omega
  · rw [hr.2.2]
    refine ⟨by simp, by simp, ⟨f, by simpa using a3, a4⟩, ?_⟩
    have : (r ++ p :: u).drop (r.length + 1) = u := by
      rw [List.drop_append]
      simp
    rw [this]
    exact b3
theorem ro_lf_iff {ρ : RD} {S : Nat} (hS : S < 128) (hk : ro_ok ρ) {p s : Nat} (hs : s < 48) : ro_lf ρ S p s ↔ ∃ A, A < 128 ∧ A &&& S = A ∧ ro_bt ρ S A p s := by
  have h0 : ro_ct 0 = 0 := by decide +kernel
  constructor
  · rintro ⟨l, hl, k, h1, h2, h3, h4, h5⟩
    subst h2
    have hb := (ro_bt_of hS hk hl h1 h3 h4 h5).1
    obtain ⟨-, -, -, ⟨r, f, a1, a2, -⟩, -⟩ := id hb
    have hr := ro_pt_end hS r 0 (by omega) (by simp) a1
    rw [ro_m_fold, a2] at hr
    exact ⟨_, hr.1, hr.2.1, hb⟩
  · rintro ⟨A, hA, hA2, hb⟩
    obtain ⟨l, hl, a, b, c, d⟩ := ro_of_bt hS hk hs hb
    exact ⟨l, hl, _, a, b, hb.2.2.1, c, d⟩
theorem ro_pl_iff {ρ : RD} {S : Nat} (hS : S < 128) (hk : ro_ok ρ) {p k : Nat} : ro_pl ρ S p k ↔ ∃ A s, A < 128 ∧ A &&& S = A ∧ s < 48 ∧ ro_ct A = k ∧ ro_bt ρ S A p s := by
  have h0 : ro_ct 0 = 0 := by decide +kernel
  constructor
  · rintro ⟨l, hl, h1, h2⟩
    subst h2
    obtain ⟨a, b, c⟩ := (ro_rows_mem2 hS hk).1 hl
    rw [ro_split h1, ro_fr_app] at c
    cases hf : ro_fr ρ 0 (l.take k) with
    | none => rw [hf] at c; cases c
    | some f =>
      rw [hf] at c
      have c' : (ro_fr ρ f (l.getD k 0 :: l.drop (k + 1))).isSome = true := c
      unfold ro_fr at c'
      by_cases z : ro_f (ro_w ρ (l.getD k 0)) f < 48
      · rw [if_pos z] at c'
        have hy := ro_f_yes z
        rw [ro_la_iff ρ _ _ (by omega)] at c'
        obtain ⟨hb, hc⟩ := ro_bt_of hS hk hl h1 hy.2 ⟨f, hf, hy.1⟩ (by omega)
        obtain ⟨-, -, -, ⟨r, f, a1, a2, -⟩, -⟩ := id hb
        have hr := ro_pt_end hS r 0 (by omega) (by simp) a1
        rw [ro_m_fold, a2] at hr
        exact ⟨_, _, hr.1, hr.2.1, z, hc, hb⟩
      · rw [if_neg z] at c'
        cases c'
  · rintro ⟨A, s, hA, hA2, hs, hc, hb⟩
    obtain ⟨l, hl, a, b, -⟩ := ro_of_bt hS hk hs hb
    rw [hc] at a b
    exact ⟨l, hl, a, b⟩
/-- rows that keep the same rules -/
theorem ro_rows_congr {ρ σ : RD} {S : Nat} (hS : S < 128) (h : ∀ l, ro_full S.testBit l → (ro_V ρ l ↔ ro_V σ l)) : ro_rows ρ S = ro_rows σ S := by
  unfold ro_rows
  apply ro_en_congr
  intro l hn hl hm
  exact Bool.eq_iff_iff.2 (ro_R_V.trans ((h l (ro_full_of hS hn hl hm)).trans ro_R_V.symm))
/-- one stands ahead of another -/
def ro_bf (one other : Nat) (l : List Nat) : Bool := (List.range l.length).any (fun j => (l.getD j 0 == other) && (l.take j).contains one)
theorem ro_bf_iff {a b : Nat} {l : List Nat} : ro_bf a b l = true ↔ ∃ i j, i < j ∧ j < l.length ∧ l.getD i 0 = a ∧ l.getD j 0 = b := by
  unfold ro_bf
  rw [List.any_eq_true]
  constructor
  · rintro ⟨j, hj, h⟩
    rw [List.mem_range] at hj
    rw [Bool.and_eq_true, beq_iff_eq, List.contains_eq_mem, decide_eq_true_iff] at h
    obtain ⟨i, hi, e⟩ := (ro_take_get (by omega)).1 h.2
    exact ⟨i, j, hi, hj, e, h.1⟩
  · rintro ⟨i, j, hi, hj, e1, e2⟩
    refine ⟨j, List.mem_range.2 hj, ?_⟩
    rw [Bool.and_eq_true, beq_iff_eq, List.contains_eq_mem, decide_eq_true_iff]
    exact ⟨e2, (ro_take_get (by omega)).2 ⟨i, hi, e1⟩⟩
def ro_add (ρ : RD) (a b : Nat) : RD := (ro_w ρ, fun q p => ro_a ρ q p || (q == a && p == b), ro_t ρ, ro_y ρ)
theorem ro_add_ok {ρ : RD} (hk : ro_ok ρ) {a b : Nat} (h : a ≠ b) : ro_ok (ro_add ρ a b) := by
  refine ⟨fun p => ?_, hk.2⟩
  show (ro_a ρ p p || (p == a && p == b)) = false
  rw [hk.1, Bool.false_or]
  by_cases c : p = a
  · subst c; simp [h]
  · simp [c]
theorem ro_sl_w {ρ σ : RD} (h : ro_w ρ = ro_w σ) (r : List Nat) (p : Nat) : ro_sl ρ r p = ro_sl σ r p := by
  have key : ∀ (r : List Nat) (f : Nat), ro_fr ρ f r = ro_fr σ f r := by
    intro r
    induction r with
    | nil => intro f; rfl
    | cons q r ih =>
      intro f
      unfold ro_fr
      rw [h, ih]
  unfold ro_sl
  rw [key, h]
theorem ro_often {ρ : RD} {S a b : Nat} (hS : S < 128) (hab : a ≠ b) (ha : a < 7 ∧ S.testBit a = true) (hb : b < 7 ∧ S.testBit b = true) : ro_rows (ro_add ρ a b) S = (ro_rows ρ S).filter (ro_bf a b) := by
  unfold ro_rows
  rw [ro_en_filter S.testBit (ro_R (ro_add ρ a b)) _ [] (by simp) (by simp), ro_en_filter S.testBit (ro_R ρ) _ [] (by simp) (by simp), List.filter_filter]
  apply List.filter_congr
  intro l hl
  obtain ⟨⟨u, e1, e2⟩, h2, h3⟩ := ro_en_mem S.testBit ro_tt _ [] l (by simp) (by simp) hl
  have hf := ro_full_of hS h2 (by rw [e1]; simpa using e2) h3
  show ro_al (ro_R (ro_add ρ a b)) 0 l = (ro_bf a b l && ro_al (ro_R ρ) 0 l)
  apply Bool.eq_iff_iff.2
  rw [Bool.and_eq_true, ro_R_V, ro_R_V, ro_bf_iff]
  have hw : ro_w (ro_add ρ a b) = ro_w ρ := rfl
  constructor
  · rintro ⟨v1, v2, v3⟩
    refine ⟨?_, ⟨fun i j hij hj => ?_, v2, fun j hj => ?_⟩⟩
    · obtain ⟨i, hi, ei⟩ := ro_get_mem.1 (hf.2.2 a ha.1 ha.2)
      obtain ⟨j, hj, ej⟩ := ro_get_mem.1 (hf.2.2 b hb.1 hb.2)
      rcases Nat.lt_trichotomy i j with z | z | z
      · exact ⟨i, j, z, hj, ei, ej⟩
      · subst z
        exact absurd (ei.symm.trans ej) hab
      · have := v1 j i z hi
        have e : ro_a (ro_add ρ a b) (l.getD i 0) (l.getD j 0) = (ro_a ρ (l.getD i 0) (l.getD j 0) || (l.getD i 0 == a && l.getD j 0 == b)) := rfl
        rw [e, ei, ej] at this
        simp at this
    · have := v1 i j hij hj
      have e : ro_a (ro_add ρ a b) (l.getD j 0) (l.getD i 0) = (ro_a ρ (l.getD j 0) (l.getD i 0) || (l.getD j 0 == a && l.getD i 0 == b)) := rfl
      rw [e, Bool.or_eq_false_iff] at this
      exact this.1
    · rw [← ro_sl_w hw]; exact v3 j hj
  · rintro ⟨⟨i0, j0, z1, z2, z3, z4⟩, ⟨v1, v2, v3⟩⟩
    refine ⟨fun i j hij hj => ?_, v2, fun j hj => ?_⟩
    · have e : ro_a (ro_add ρ a b) (l.getD j 0) (l.getD i 0) = (ro_a ρ (l.getD j 0) (l.getD i 0) || (l.getD j 0 == a && l.getD i 0 == b)) := rfl
      rw [e, v1 i j hij hj, Bool.false_or, Bool.and_eq_false_iff]
      by_cases c : l.getD j 0 = a
      · refine Or.inr ?_
        by_cases d : l.getD i 0 = b
        · have h5 := ro_get_inj h2 hj (by omega) (c.trans z3.symm)
          have h6 := ro_get_inj h2 (by omega) z2 (d.trans z4.symm)
          omega
        · simpa using d
      · exact Or.inl (by simpa using c)
    · rw [ro_sl_w hw]; exact v3 j hj
