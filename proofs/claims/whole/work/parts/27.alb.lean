-- ===== the album as a value =====
abbrev Alb : Type := (Nat × Nat × Nat) × List (List Nat) × List Nat × List Pc
def al_n (a : Alb) : Nat := a.1.1
def al_g (a : Alb) : Nat := a.1.2.1
def al_l (a : Alb) : Nat := a.1.2.2
def al_w (a : Alb) : List (List Nat) := a.2.1
def al_k (a : Alb) : List Nat := a.2.2.1
def al_p (a : Alb) : List Pc := a.2.2.2
def al_kd (a : Alb) (t : Nat) : Nat := (al_k a).getD t 0
def ln_at (a : Alb) (s : Nat) : Int := (al_l a : Int) + (al_g a : Int) * ((s : Int) - al_n a) * ((s : Int) - al_n a) / 4
/-- the value of a thing's piece to a picture, -1 if there is none -/
def th_v (a : Alb) (p t : Nat) : Int := pc_v (al_p a) (8 * p + (2 + t))
def ah_b (a : Alb) (t q p : Nat) : Bool := (th_v a q t != -1) && (th_v a p t != -1) && (if al_kd a t = 1 then decide (th_v a p t < th_v a q t) else (al_kd a t != 2) && decide (th_v a q t < th_v a p t))
def ah_n (a : Alb) (i q p : Nat) : Bool := (List.range i).any (fun t => ah_b a t q p)
def wd_b (a : Alb) (p s : Nat) : Bool := ((pc_s (al_p a) (8 * p) == -1) && (pc_s (al_p a) (8 * p + 1) == -1)) || (decide ((s : Int) - 12 ≤ al_n a) && decide ((al_n a : Int) ≤ s + 12) && ((pc_s (al_p a) (8 * p) == -1) || (decide ((s : Int) - al_n a + 12 - pc_v (al_p a) (8 * p) ≤ pc_s (al_p a) (8 * p)) && decide (pc_v (al_p a) (8 * p) - ((s : Int) - al_n a + 12) ≤ pc_s (al_p a) (8 * p)))) && ((pc_s (al_p a) (8 * p + 1) == -1) || (decide (ln_at a s - pc_v (al_p a) (8 * p + 1) ≤ pc_s (al_p a) (8 * p + 1)) && decide (pc_v (al_p a) (8 * p + 1) - ln_at a s ≤ pc_s (al_p a) (8 * p + 1)))))
def al_r (a : Alb) : RD := (wd_b a, ah_n a (al_k a).length, fun t p => decide (t < (al_k a).length) && (al_kd a t == 2) && (th_v a p t == 1), fun t p => decide (t < (al_k a).length) && (al_kd a t == 2) && (th_v a p t == 0))
def al_most (a : Alb) (m : Nat) : Nat := if m = 0 then 24 else if m = 1 then 999 else if al_kd a (m - 2) = 3 then 9 else 1
def al_msl (m : Nat) : Nat := if m = 0 then 9 else if m = 1 then 99 else 0
def wo_ok (w : List Nat) : Prop := 1 ≤ w.length ∧ w.length ≤ 5 ∧ ∀ c ∈ w, 97 ≤ c ∧ c ≤ 122
def su_ok (n g l : Nat) : Prop := 18 ≤ n ∧ n ≤ 30 ∧ 1 ≤ g ∧ g ≤ 9 ∧ 1 ≤ l ∧ l ≤ 40
/-- the pieces fit the pictures and things -/
def pa_ok (a : Alb) (L : List Pc) : Prop := pc_ok L ∧ ∀ i, i < L.length → (pc_at L i).1 / 8 < (al_w a).length ∧ (pc_at L i).1 % 8 < 2 + (al_k a).length ∧ (pc_at L i).2.1 ≤ al_most a ((pc_at L i).1 % 8) ∧ (pc_at L i).2.2 ≤ al_msl ((pc_at L i).1 % 8)
def al_ok (a : Alb) : Prop := su_ok (al_n a) (al_g a) (al_l a) ∧ (al_w a).length ≤ 7 ∧ (al_k a).length ≤ 6 ∧ (∀ i, i < (al_w a).length → wo_ok ((al_w a).getD i [])) ∧ (∀ t, t < (al_k a).length → al_kd a t ≤ 3) ∧ pa_ok a (al_p a)
theorem al_most_le (a : Alb) (m : Nat) : al_most a m ≤ 999 := by
  unfold al_most
  repeat' split
  all_goals omega
theorem al_msl_le (m : Nat) : al_msl m ≤ 99 := by
  unfold al_msl
  repeat' split
  all_goals omega
theorem al_ok.hp {a : Alb} (h : al_ok a) : pc_ok (al_p a) := h.2.2.2.2.2.1
theorem th_v_rng {a : Alb} (h : al_ok a) (p t : Nat) (hp : p < 7) (ht : t < 6) : -1 ≤ th_v a p t ∧ th_v a p t ≤ 9 ∧ (al_kd a t ≠ 3 → th_v a p t ≤ 1) ∧ ((al_w a).length ≤ p → th_v a p t = -1) ∧ ((al_k a).length ≤ t → th_v a p t = -1) := by
  unfold th_v
  have h1 := pc_v_rng h.hp (8 * p + (2 + t))
  by_cases c : pc_ix (al_p a) (8 * p + (2 + t)) < (al_p a).length
  · have h2 := h.2.2.2.2.2.2 _ c
    have h3 := pc_ix_key c
    have e1 : (8 * p + (2 + t)) / 8 = p := by omega
    have e2 : (8 * p + (2 + t)) % 8 = 2 + t := by omega
    rw [h3, e1, e2] at h2
    have h4 : pc_v (al_p a) (8 * p + (2 + t)) = ((pc_at (al_p a) (pc_ix (al_p a) (8 * p + (2 + t)))).2.1 : Int) := by
      unfold pc_v
      rw [if_pos c]
    have h5 := h2.2.2.1
    unfold al_most at h5
    rw [if_neg (by omega), if_neg (by omega), show 2 + t - 2 = t by omega] at h5
    by_cases d : al_kd a t = 3
    · rw [if_pos d] at h5
      exact ⟨by omega, by omega, fun z => absurd d z, fun z => by omega, fun z => by omega⟩
    · rw [if_neg d] at h5
      exact ⟨by omega, by omega, fun z => by omega, fun z => by omega, fun z => by omega⟩
  · have := h1.2.2.2 c
    omega
-- words as numbers
def w5 (l : List Nat) : Nat := l.foldl (fun x c => 32 * x + (c - 96)) 0
def w27 (l : List Nat) : Nat := l.foldl (fun x c => 27 * x + (c - 96)) 0
theorem wx_snoc (b : Nat) (l : List Nat) (c : Nat) : (l ++ [c]).foldl (fun x c => b * x + (c - 96)) 0 = b * l.foldl (fun x c => b * x + (c - 96)) 0 + (c - 96) := by
  rw [List.foldl_append]
  rfl
theorem wx_rng {b : Nat} (hb : 27 ≤ b) : ∀ (n : Nat) (l : List Nat), l.length = n → (∀ c ∈ l, 97 ≤ c ∧ c ≤ 122) → l.foldl (fun x c => b * x + (c - 96)) 0 < b ^ n ∧ (0 < n → b ^ (n - 1) ≤ l.foldl (fun x c => b * x + (c - 96)) 0)
  | 0, l, hl, _ => by
    have : l = [] := List.eq_nil_of_length_eq_zero hl
    subst this
    simp
  | n + 1, l, hl, h => by
    have hne : l ≠ [] := fun e => by rw [e] at hl; cases hl
    have e := List.dropLast_concat_getLast hne
    have hm := h (l.getLast hne) (List.getLast_mem hne)
    have ih := wx_rng hb n l.dropLast (by rw [List.length_dropLast]; omega) (fun c hc => h c (List.dropLast_subset l hc))
    rw [← e, wx_snoc]
    generalize l.dropLast.foldl (fun x c => b * x + (c - 96)) 0 = v at ih ⊢
    generalize l.getLast hne = c at hm ⊢
    have h1 : b * (v + 1) ≤ b * b ^ n := Nat.mul_le_mul_left b ih.1
    rw [Nat.mul_add, Nat.mul_one] at h1
    have h2 : b ^ (n + 1) = b * b ^ n := by rw [Nat.pow_succ, Nat.mul_comm]
    refine ⟨by rw [h2]; omega, fun _ => ?_⟩
    rw [Nat.add_sub_cancel]
    rcases Nat.eq_zero_or_pos n with z | z
    · subst z
      simp
      omega
    · have h3 := Nat.mul_le_mul_left b (ih.2 z)
      have h4 : b ^ n = b * b ^ (n - 1) := by
        obtain ⟨m, rfl⟩ : ∃ m, n = m + 1 := ⟨n - 1, by omega⟩
        rw [Nat.add_sub_cancel, Nat.pow_succ, Nat.mul_comm]
      omega
theorem wx_inj {b : Nat} (hb : 27 ≤ b) : ∀ (n : Nat) (l m : List Nat), l.length = n → m.length = n → (∀ c ∈ l, 97 ≤ c ∧ c ≤ 122) → (∀ c ∈ m, 97 ≤ c ∧ c ≤ 122) → l.foldl (fun x c => b * x + (c - 96)) 0 = m.foldl (fun x c => b * x + (c - 96)) 0 → l = m
  | 0, l, m, hl, hm, _, _, _ => by
    rw [List.eq_nil_of_length_eq_zero hl, List.eq_nil_of_length_eq_zero hm]
  | n + 1, l, m, hl, hm, h1, h2, e => by
    have hne : l ≠ [] := fun e => by rw [e] at hl; cases hl
    have hne2 : m ≠ [] := fun e => by rw [e] at hm; cases hm
    have e1 := List.dropLast_concat_getLast hne
    have e2 := List.dropLast_concat_getLast hne2
    have b1 := h1 (l.getLast hne) (List.getLast_mem hne)
    have b2 := h2 (m.getLast hne2) (List.getLast_mem hne2)
    rw [← e1, ← e2, wx_snoc, wx_snoc] at e
    have ih := wx_inj hb n l.dropLast m.dropLast (by rw [List.length_dropLast]; omega) (by rw [List.length_dropLast]; omega) (fun c hc => h1 c (List.dropLast_subset l hc)) (fun c hc => h2 c (List.dropLast_subset m hc))
    generalize l.dropLast.foldl (fun x c => b * x + (c - 96)) 0 = v at ih e
    generalize m.dropLast.foldl (fun x c => b * x + (c - 96)) 0 = w at ih e
    have hv : v = w := by
      have d1 : (b * v + (l.getLast hne - 96)) / b = v := by
        rw [Nat.mul_add_div (by omega), Nat.div_eq_of_lt (by omega), Nat.add_zero]
      have d2 : (b * w + (m.getLast hne2 - 96)) / b = w := by
        rw [Nat.mul_add_div (by omega), Nat.div_eq_of_lt (by omega), Nat.add_zero]
      rw [← d1, e, d2]
    have hd := ih hv
    have hc : l.getLast hne = m.getLast hne2 := by
      rw [hv] at e
      omega
    rw [← e1, ← e2, hd, hc]
/-- words that fit are alike if their numbers are -/
theorem wx_eq {b : Nat} (hb : 27 ≤ b) {l m : List Nat} (hl : wo_ok l) (hm : wo_ok m) : l.foldl (fun x c => b * x + (c - 96)) 0 = m.foldl (fun x c => b * x + (c - 96)) 0 ↔ l = m := by
  constructor
  · intro e
    obtain ⟨r1, s1⟩ := wx_rng hb l.length l rfl hl.2.2
    obtain ⟨r2, s2⟩ := wx_rng hb m.length m rfl hm.2.2
    have t1 := s1 (by have := hl.1; omega)
    have t2 := s2 (by have := hm.1; omega)
    rw [e] at r1 t1
    have hlen : l.length = m.length := by
      rcases Nat.lt_trichotomy l.length m.length with z | z | z
      · have := Nat.pow_le_pow_right (n := b) (by omega) (show l.length ≤ m.length - 1 by omega)
        omega
      · exact z
      · have := Nat.pow_le_pow_right (n := b) (by omega) (show m.length ≤ l.length - 1 by omega)
        omega
    exact wx_inj hb m.length l m hlen rfl hl.2.2 hm.2.2 e
  · intro e
    rw [e]
theorem w5_rng {l : List Nat} (h : wo_ok l) : 32 ^ (l.length - 1) ≤ w5 l ∧ w5 l < 32 ^ l.length ∧ w5 l < 33554432 := by
  obtain ⟨r, s⟩ := wx_rng (b := 32) (by omega) l.length l rfl h.2.2
  have h1 := h.1
  have h2 := h.2.1
  have := Nat.pow_le_pow_right (n := 32) (by omega) h2
  have e : (32 : Nat) ^ 5 = 33554432 := by decide
  refine ⟨s (by omega), r, ?_⟩
  show l.foldl (fun x c => 32 * x + (c - 96)) 0 < _
  omega
theorem w27_rng {l : List Nat} (h : wo_ok l) : 27 ^ (l.length - 1) ≤ w27 l ∧ w27 l < 27 ^ l.length ∧ w27 l < 14348907 := by
  obtain ⟨r, s⟩ := wx_rng (b := 27) (by omega) l.length l rfl h.2.2
  have h1 := h.1
  have h2 := h.2.1
  have := Nat.pow_le_pow_right (n := 27) (by omega) h2
  have e : (27 : Nat) ^ 5 = 14348907 := by decide
  refine ⟨s (by omega), r, ?_⟩
  show l.foldl (fun x c => 27 * x + (c - 96)) 0 < _
  omega
