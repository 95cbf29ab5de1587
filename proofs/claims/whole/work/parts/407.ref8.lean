-- ===== the reference: all orders of a set =====
def lo_ms (r : List Nat) : Nat → Nat
  | 0 => 0
  | i + 1 => lo_ms r i + (7 - r.getD i 0) * 9 ^ (7 - i)
theorem lo_ms_congr {r r' : List Nat} : ∀ n, (∀ i, i < n → r.getD i 0 = r'.getD i 0) → lo_ms r n = lo_ms r' n
  | 0, _ => rfl
  | n + 1, h => by
    show lo_ms r n + (7 - r.getD n 0) * 9 ^ (7 - n) = lo_ms r' n + (7 - r'.getD n 0) * 9 ^ (7 - n)
    rw [lo_ms_congr n (fun i hi => h i (by omega)), h n (by omega)]
def lo_m (r : List Nat) (c : Nat) : Nat := lo_ms r r.length + (8 - c) * 9 ^ (7 - r.length)
theorem lo_m_on {r : List Nat} {c j : Nat} (h : c ≤ j) (hj : j ≤ 6) : lo_m r (j + 1) < lo_m r c := by
  unfold lo_m
  have hx : 0 < 9 ^ (7 - r.length) := Nat.pow_pos (by decide)
  have := Nat.mul_lt_mul_of_pos_right (show 8 - (j + 1) < 8 - c by omega) hx
  omega
theorem lo_m_down {r : List Nat} {c j : Nat} (h : c ≤ j) (hj : j ≤ 6) (hr : r.length ≤ 5) : lo_m (r ++ [j]) 0 < lo_m r c := by
  unfold lo_m
  rw [List.length_append, List.length_singleton]
  show lo_ms (r ++ [j]) r.length + (7 - (r ++ [j]).getD r.length 0) * 9 ^ (7 - r.length) + 8 * 9 ^ (7 - (r.length + 1)) < _
  rw [lo_ms_congr (r := r ++ [j]) (r' := r) r.length (fun i hi => by rw [getD_app, if_pos hi]), getD_app, if_neg (by omega), if_pos rfl]
  have hx : 0 < 9 ^ (6 - r.length) := Nat.pow_pos (by decide)
  have e : 9 ^ (7 - r.length) = 9 * 9 ^ (6 - r.length) := by
    rw [show 7 - r.length = (6 - r.length) + 1 by omega, Nat.pow_succ, Nat.mul_comm]
  rw [e, show 7 - (r.length + 1) = 6 - r.length by omega]
  generalize 9 ^ (6 - r.length) = Y at hx
  obtain ⟨d, hd⟩ : ∃ d, 8 - c = (7 - j) + 1 + d := ⟨j - c, by omega⟩
  rw [hd, Nat.add_mul, Nat.add_mul]
  generalize (7 - j) * (9 * Y) = Z1
  generalize d * (9 * Y) = Z2
  omega
theorem lo_m_up {r : List Nat} {c n : Nat} (hn : r.length = n + 1) (hc : c ≤ 7) (h6 : r.getD n 0 ≤ 6) : lo_m (r.take n) (r.getD n 0 + 1) < lo_m r c := by
  unfold lo_m
  have hl : (r.take n).length = n := by rw [List.length_take]; omega
  rw [hl, hn]
  show _ < lo_ms r n + (7 - r.getD n 0) * 9 ^ (7 - n) + _
  rw [lo_ms_congr (r := r.take n) (r' := r) n (fun i hi => ro_getD_take hi), show 8 - (r.getD n 0 + 1) = 7 - r.getD n 0 by omega]
  have hx : 0 < 9 ^ (7 - (n + 1)) := Nat.pow_pos (by decide)
  have := Nat.mul_pos (show 0 < 8 - c by omega) hx
  omega
theorem lo_m_pos {r : List Nat} {c : Nat} (hc : c ≤ 7) : 0 < lo_m r c := by
  unfold lo_m
  have hx : 0 < 9 ^ (7 - r.length) := Nat.pow_pos (by decide)
  have := Nat.mul_pos (show 0 < 8 - c by omega) hx
  omega
/-- the search stands behind the row r, the last one tried there is c -/
def LoB (g : Hp) (a : Alb) (r : List Nat) (c : Int) : Prop := AmC g a ∧ LaC g a ∧ RwC g r ∧ ErC g (al_r a) r ∧ aG g 131 r.length = iI c
theorem LoB.put {g : Hp} {a : Alb} {r : List Nat} {c : Int} (q : LoB g a r c) (c' : Int) : LoB (aS g 131 r.length (iI c')) a r c' := by
  have f : FrX [] [131] g (aS g 131 r.length (iI c')) := (FrX.refl _ _ g).aS (by decide) _ _
  exact ⟨q.1.fr f (by decide) (by decide), q.2.1.fr f (by decide) (by decide), fun i hi => by rw [aG_aS_j (by omega)]; exact q.2.2.1 i hi, q.2.2.2.1.fr f (by decide), aG_aS_s ..⟩
theorem LoB.cast {g : Hp} {a : Alb} {r : List Nat} {c c' : Int} (q : LoB g a r c) (e : c = c') : LoB g a r c' := e ▸ q
theorem AcC.put {g : Hp} {ρ : RD} {S m : Nat} {w x y : Int} {Ls : List (List Nat)} (q : AcC g ρ S m w x y Ls) (i : Nat) (v : Int32) : AcC (aS g 131 i v) ρ S m w x y Ls := q.fr ((FrX.refl [] [131] g).aS (by decide) _ _) (by decide)
theorem ms_nbit : ∀ a : Nat, a < 128 → ∀ p : Nat, p < 8 → ((iI (a : Int) ^^^ iI (-1)) >>> (iI (p : Int) &&& iI 31)) &&& iI 1 = iI (if a.testBit p then 0 else 1) := by decide +kernel
theorem ms_skip {M S j : Nat} (hM : M < 128) (hS : S < 128) (hj : j < 8) : ((((iI (M : Int) >>> (iI (j : Int) &&& iI 31)) &&& iI 1) ||| (((iI (S : Int) ^^^ iI (-1)) >>> (iI (j : Int) &&& iI 31)) &&& iI 1)) = iI 1) = (M.testBit j = true ∨ S.testBit j = false) := by
  rw [ms_bit M hM j hj, ms_nbit S hS j hj]
  cases M.testBit j <;> cases S.testBit j <;> decide
theorem nd_m {r : List Nat} (n : Nat) {j : Nat} (hj : j ∉ r) : nd (ro_m r) (2 ^ j) = ro_m r ∧ nd (ro_m (r ++ [j])) (2 ^ j) = ro_m r := by
  constructor
  · apply Nat.eq_of_testBit_eq
    intro i
    rw [nd_tb, Nat.testBit_two_pow, ← ro_m_tb r]
    by_cases e : j = i
    · subst e
      simp [hj]
    · simp [e]
  · apply Nat.eq_of_testBit_eq
    intro i
    rw [nd_tb, Nat.testBit_two_pow, ro_m_snoc, ro_tb_or, ← ro_m_tb r]
    by_cases e : j = i
    · subst e
      simp [hj]
    · simp [e]
theorem take_last {r : List Nat} {n : Nat} (hn : r.length = n + 1) : r = r.take n ++ [r.getD n 0] := by
  rw [← take_snoc (by omega), List.take_of_length_le (by omega)]
theorem nodup_snoc {r : List Nat} {j : Nat} (h : r.Nodup) (hj : j ∉ r) : (r ++ [j]).Nodup := by
  rw [List.nodup_append]
  refine ⟨h, by simp, fun x hx y hy e => ?_⟩
  rw [List.mem_singleton] at hy
  subst hy
  subst e
  exact hj hx
theorem nodup_take {r : List Nat} {n : Nat} (hn : r.length = n + 1) (h : r.Nodup) : (r.take n).Nodup ∧ r.getD n 0 ∉ r.take n := by
  rw [take_last hn] at h
  rw [List.nodup_append] at h
  exact ⟨h.1, fun z => h.2.2 _ z _ (by simp) rfl⟩
/-- what all orders leave there -/
def LoR (h' : Hp) (a : Alb) (S : Nat) (A : Nat) (w x y : Int) : Prop := AcC h' (al_r a) S (ro_ct S) w x y ((ro_rows (al_r a) S).take A) ∧ LaC h' a
theorem sm_zero {f : Nat → Nat} {n : Nat} : ∀ d, (∀ i, n ≤ i → i < n + d → f i = 0) → ro_sm f (n + d) = ro_sm f n
  | 0, _ => rfl
  | d + 1, h => by
    show ro_sm f (n + d) + f (n + d) = _
    rw [sm_zero d (fun i h1 h2 => h i h1 (by omega)), h (n + d) (by omega) (by omega), Nat.add_zero]
theorem ct_np {S n : Nat} (hn : n ≤ 7) (h : ∀ p, S.testBit p = true → p < n) : ro_ct S = ro_sm (fun p => if S.testBit p then 1 else 0) n := by
  obtain ⟨d, hd⟩ : ∃ d, 7 = n + d := ⟨7 - n, by omega⟩
  unfold ro_ct
  rw [hd]
  refine sm_zero d (fun i h1 _ => ?_)
  show (if S.testBit i = true then 1 else 0) = 0
  rw [if_neg (fun z => by have := h i z; omega)]
theorem ct_0 : ∀ S, S < 128 → ro_ct S = 0 → S = 0 := by decide +kernel
theorem m_layOrders {h : Hp} {a : Alb} (q : AmC h a) {S A : Nat} (hSn : ∀ p, S.testBit p = true → p < (al_w a).length) (hS : S < 128) (hA : 1 ≤ A ∧ A ≤ 9999) {w x y : Int} (hw : -1 ≤ w ∧ w < 2147483648) (hxy : wg_ok S x y) : ∃ h', F_X12_layOrders (iI S) (iI A) (iI w) (iI x) (iI y) h = some (iI ((ro_rows (al_r a) S).take A).length, h') ∧ LoR h' a S A w x y := by
  have h7 := q.1.2.1
  have hm7 := ro_ct_le S hS
  have r5040 := ro_rows_5040 (ρ := al_r a) hS
  refine wp_v ?_
  obtain ⟨g0, e0, la0⟩ := m_layAll q
  have f0 := fr_X12_layAll _ _ _ e0
  have q0 : AmC g0 a := q.fr f0 (by decide) (by decide)
  unfold F_X12_layOrders
  rw [e0, bd_e, jl_e, jl_e]
  refine lp_up (α := Int32 → Hp → Option (Int32 × Hp)) (P := fun k c => ∀ g, AmC g a → LaC g a → sG g 7522 = iI 0 → sG g 7527 = iI 0 → (∀ p, p < k → lG g 134 p = lN 0) → Wp (c (iI k) g) (fun v h' => v = iI ((ro_rows (al_r a) S).take A).length ∧ LoR h' a S A w x y)) 7 (by omega) (fun k c hk ih g qg lg s1 s2 l0 => ?_) _ (q0.fr (((FrX.refl [7522, 7527] [] g0).sS (by decide) 0).sS (by decide) 0) (by decide) (by decide)) (la0.fr (((FrX.refl [7522, 7527] [] g0).sS (by decide) 0).sS (by decide) 0) (by decide) (by decide)) rfl rfl (fun p hp => absurd hp (Nat.not_lt_zero p))
  by_cases z : k < 7
  · have ih := ih z
    have l7 : iI (k : Int) < (7 : Int32) := by
      rw [il_7, iI_lt (by omega) (by omega) (by omega) (by omega)]
      omega
    show Wp (if iI (k : Int) < (7 : Int32) then _ else _) _
    rw [if_pos l7, gd_in (by omega) (by omega) (by omega), jl_e, iI_cl (by omega) (by omega), Int.toNat_natCast, il_1, iI_add]
    have f : FrX [] [134] g (lS g 134 k 0) := (FrX.refl _ _ g).lS (by decide) _ _
    refine ih _ (qg.fr f (by decide) (by decide)) (lg.fr f (by decide) (by decide)) s1 s2 (fun p hp => ?_)
    by_cases e : p = k
    · subst e
      rw [lG_lS_s]
      rfl
    · rw [lG_lS_j e]
      exact l0 p (by omega)
  · have ek : k = 7 := by omega
    subst ek
    show Wp (if iI ((7 : Nat) : Int) < (7 : Int32) then _ else _) _
    rw [if_neg (by decide)]
    clear ih
    refine lp_up (α := Int32 → Int32 → Hp → Option (Int32 × Hp)) (P := fun k c => c (iI (ro_sm (fun p => if S.testBit p then 1 else 0) k)) (iI k) g |> fun o => Wp o (fun v h' => v = iI ((ro_rows (al_r a) S).take A).length ∧ LoR h' a S A w x y)) (al_w a).length (by omega) (fun k c hk ih => ?_)
    have sml : ro_sm (fun p => if S.testBit p then 1 else 0) k ≤ 7 := by
      have := ro_sm_le (f := fun p => if S.testBit p then 1 else 0) (c := 1) (n := k) (fun m _ => by show (if _ then 1 else 0) ≤ 1; split <;> omega)
      omega
    by_cases z : k < (al_w a).length
    · have ih := ih z
      have ln : iI (k : Int) < sG g 7504 := by
        rw [qg.np, iI_lt (by omega) (by omega) (by omega) (by omega)]
        omega
      show Wp (if iI (k : Int) < sG g 7504 then _ else _) _
      rw [if_pos ln, jl_e, show (iI (S : Int) >>> (iI (k : Int) &&& 31)) &&& (1 : Int32) = iI (if S.testBit k then 1 else 0) from ms_bit S hS k (by omega), il_1, iI_add, iI_add]
      have e : ro_sm (fun p => if S.testBit p then 1 else 0) (k + 1) = ro_sm (fun p => if S.testBit p then 1 else 0) k + if S.testBit k then 1 else 0 := rfl
      rw [e] at ih
      by_cases t : S.testBit k = true
      · rw [if_pos t] at ih ⊢
        exact ih
      · rw [if_neg t] at ih ⊢
        exact ih
    · have ek : k = (al_w a).length := by omega
      subst ek
      clear ih
      rw [← ct_np h7 hSn] at sml ⊢
      have ln : ¬ iI ((al_w a).length : Int) < sG g 7504 := by
        rw [qg.np, iI_lt (by omega) (by omega) (by omega) (by omega)]
        omega
      show Wp (if iI ((al_w a).length : Int) < sG g 7504 then _ else (if iI (ro_ct S : Int) = 0 then _ else _)) _
      rw [if_neg ln]
      have acc0 : AcC g (al_r a) S (ro_ct S) w x y [] := by
        refine ⟨s1, s2, fun p hp => ⟨0, l0 p hp, by omega, fun s => ⟨fun t => by rw [Nat.zero_testBit] at t; exact Bool.noConfusion t, fun ⟨l, hl, _⟩ => absurd hl (by simp)⟩⟩, fun p _ _ hL => absurd rfl hL, fun w0 w1 => by have w1 : w < 0 := w1; omega⟩
      by_cases z0 : ro_ct S = 0
      · have S0 := ct_0 S hS z0
        subst S0
        rw [if_pos (show iI ((ro_ct 0 : Nat) : Int) = 0 from rfl), jl_e]
        have er : (ro_rows (al_r a) 0).take A = [[]] := by
          have : ro_rows (al_r a) 0 = [[]] := rfl
          rw [this, List.take_of_length_le (by show 1 ≤ A; omega)]
        unfold LoR
        rw [er]
        have f : FrX [7522] [] g (sS g 7522 (iI 1)) := (FrX.refl _ _ g).sS (by decide) _
        have fz : ([[]] : List (List Nat)).filter (wg_b x y) = [] := by
          rw [List.filter_cons_of_neg (by unfold wg_b; rw [show ro_bf x.toNat y.toNat [] = false from rfl, Bool.and_false]; decide)]
          rfl
        refine wp_s ⟨rfl, ⟨rfl, by rw [fz]; exact s2, fun p hp => ⟨0, l0 p hp, by omega, fun s => ⟨fun t => by rw [Nat.zero_testBit] at t; exact Bool.noConfusion t, fun ⟨l, hl, i, hi, _⟩ => ?_⟩⟩, fun p _ hs => ?_, fun _ _ k hk => absurd hk (by rw [z0]; exact Nat.not_lt_zero k)⟩, lg.fr f (by decide) (by decide)⟩
        · have : l = [] := by simpa using hl
          subst this
          exact absurd hi (Nat.not_lt_zero i)
        · rw [Nat.zero_testBit] at hs
          exact Bool.noConfusion hs
      · rw [if_neg (show ¬ iI (ro_ct S : Int) = 0 by rw [il_0, iI_eq (by omega) (by omega) (by omega) (by omega)]; omega), show inb (0 : Int32) 8 = true from rfl, gd_t, jl_e, show (0 : Int32).toNatClampNeg = 0 from rfl]
        have fQ : ∀ (r : List Nat) (j : Nat), ro_F S.testBit (ro_R (al_r a)) r j = (S.testBit j && !r.contains j && (ro_Q (al_r a) r j && ro_sl (al_r a) r j)) := fun r j => rfl
        refine (lp_ms (α := Int32 → Int32 → Hp → Option (Int32 × Hp)) (P := fun k c => (∀ g vu, LaC g a → AcC g (al_r a) S (ro_ct S) w x y ((ro_rows (al_r a) S).take A) → Wp (c (iI (-1)) vu g) (fun v h' => v = iI ((ro_rows (al_r a) S).take A).length ∧ LoR h' a S A w x y)) ∧ ∀ (r : List Nat) (cc U : Nat) (g : Hp) (Ls : List (List Nat)) (vn vu : Int32), vn = iI (r.length : Int) → r.length < ro_ct S → cc ≤ (al_w a).length → LoB g a r ((cc : Int) - 1) → r.Nodup → (∀ p ∈ r, p < (al_w a).length ∧ S.testBit p = true) → vu = iI (U : Int) → (cc = 0 → U = ro_m r) → (0 < cc → U < 128 ∧ nd U (2 ^ (cc - 1)) = ro_m r) → AcC g (al_r a) S (ro_ct S) w x y Ls → Ls.length ≤ A → (Ls ++ ro_rs S.testBit (ro_R (al_r a)) (ro_ct S) r.length r cc).take A = (ro_rows (al_r a) S).take A → lo_m r cc ≤ k → Wp (c vn vu g) (fun v h' => v = iI ((ro_rows (al_r a) S).take A).length ∧ LoR h' a S A w x y)) 38263752 (by omega) (fun k c hk ih => ⟨fun g vu lg ac => ?_, fun r cc U g Ls vn vu hvn hrm hcc lb hnd hrp hvu u0 u1 ac hLs htk hms => ?_⟩)).2 [] 0 0 _ [] _ _ rfl (by show 0 < ro_ct S; omega) (by omega) ?_ (by simp) (fun p hp => absurd hp (by simp)) rfl (fun _ => rfl) (fun t => absurd t (by omega)) (acc0.put 0 _) (Nat.zero_le _) ?_ (by decide)
        · show Wp (some (sG g 7522, g)) _
          exact wp_s ⟨ac.1, ac, lg⟩
        · subst hvn hvu
          have M128 : ro_m r < 128 := (ro_nodup_m hS r hnd (fun p hp => ⟨by have := (hrp p hp).1; omega, (hrp p hp).2⟩)).1
          have neg : ¬ iI (r.length : Int) < (0 : Int32) := by
            rw [il_0, iI_lt (by omega) (by omega) (by omega) (by omega)]
            omega
          have lA : (sG g 7522 < iI (A : Int)) = (Ls.length < A) := by
            rw [ac.1, iI_lt (by omega) (by omega) (by omega) (by omega)]
            exact propext (by omega)
          show Wp (if iI (r.length : Int) < (0 : Int32) then _ else (if sG g 7522 < iI (A : Int) then _ else some (sG g 7522, g))) _
          rw [if_neg neg]
          by_cases fl : Ls.length < A
          · rw [if_pos (lA ▸ fl), gd_in (by omega) (by omega) (by omega), jn_e]
            simp only [iI_cl (show -2147483648 ≤ (r.length : Int) by omega) (show (r.length : Int) < 2147483648 by omega), Int.toNat_natCast]
            rw [lb.2.2.2.2]
            by_cases c0 : cc = 0
            · have e1 : iI ((cc : Int) - 1) + 1 = iI (cc : Int) := by rw [il_1, iI_add]; exact iI_cg (by omega)
              rw [if_pos (by rw [c0]; rfl), u0 c0]
              rw [gd_in (by omega) (by omega) (by omega), gd_in (by omega) (by omega) (by omega), jl_e, e1]
              refine lp_up (α := Hp → Option (Int32 × Hp)) (P := fun k' d => ∀ u, LoB u a r ((cc : Int) + k') → AcC u (al_r a) S (ro_ct S) w x y Ls → (Ls ++ ro_rs S.testBit (ro_R (al_r a)) (ro_ct S) r.length r (cc + k')).take A = (ro_rows (al_r a) S).take A → Wp (d u) (fun v h' => v = iI ((ro_rows (al_r a) S).take A).length ∧ LoR h' a S A w x y)) ((al_w a).length - cc) (by omega) (fun k' d hk' ih' u lu au tu => ?_) _ (LoB.cast (lb.put _) (by omega)) (ac.put _ _) htk
              obtain ⟨j, ej⟩ : ∃ j, cc + k' = j := ⟨_, rfl⟩
              rw [ej] at tu
              rw [show (cc : Int) + (k' : Int) = (j : Int) by omega] at lu
              have ih' : k' < (al_w a).length - cc → ∀ u, LoB u a r (((j + 1 : Nat) : Int)) → AcC u (al_r a) S (ro_ct S) w x y Ls → (Ls ++ ro_rs S.testBit (ro_R (al_r a)) (ro_ct S) r.length r (j + 1)).take A = (ro_rows (al_r a) S).take A → Wp (d u) (fun v h' => v = iI ((ro_rows (al_r a) S).take A).length ∧ LoR h' a S A w x y) := fun z u l1 l2 l3 => ih' z u (by rw [show (cc : Int) + ((k' + 1 : Nat) : Int) = ((j + 1 : Nat) : Int) by omega]; exact l1) l2 (by rw [show cc + (k' + 1) = j + 1 by omega]; exact l3)
              have j7 : j ≤ 7 := by omega
              have jlt : (iI (j : Int) < iI ((al_w a).length : Int)) = (j < (al_w a).length) := by
                rw [iI_lt (by omega) (by omega) (by omega) (by omega)]
                exact propext (by omega)
              have skp : ((((iI (ro_m r : Int) >>> (iI (j : Int) &&& (31 : Int32))) &&& (1 : Int32)) ||| (((iI (S : Int) ^^^ (-1 : Int32)) >>> (iI (j : Int) &&& (31 : Int32))) &&& (1 : Int32))) = (1 : Int32)) = ((ro_m r).testBit j = true ∨ S.testBit j = false) := ms_skip M128 hS (show j < 8 by omega)
              try dsimp only
              rw [gd_in (by omega) (by omega) (by omega), jn_e, lu.2.2.2.2, lu.1.np]
              by_cases jn : j < (al_w a).length
              · rw [if_pos (jlt ▸ jn), gd_in (by omega) (by omega) (by omega), gd_in (by omega) (by omega) (by omega)]
                by_cases sk : (ro_m r).testBit j = true ∨ S.testBit j = false
                · rw [if_pos (skp ▸ sk), gd_in (by omega) (by omega) (by omega), gd_in (by omega) (by omega) (by omega), jl_e, show iI (j : Int) + 1 = iI ((j + 1 : Nat) : Int) by rw [il_1, iI_add]; exact iI_cg (by omega)]
                  have Fj : ro_F S.testBit (ro_R (al_r a)) r j = false := by
                    rw [fQ]
                    have e : (ro_m r).testBit j = r.contains j := (congrFun (ro_m_tb r) j).symm
                    rcases sk with t | t
                    · rw [← e, t, Bool.not_true, Bool.and_false, Bool.false_and]
                    · rw [t, Bool.false_and, Bool.false_and]
                  exact ih' (by omega) _ (lu.put _) (au.put _ _) (by rw [← ro_rs_no (by omega) Fj]; exact tu)
                · rw [if_neg (fun w => sk (skp ▸ w))]
                  simp (maxSteps := 3000000) (implicitDefEqProofs := false) (disch := omega) only [jl_e, jn_e, bd_e, gd_t, iI_add, iI_sub, iI_mul, iI_neg, if_true, if_false, not_true_eq_false, not_false_eq_true, Int.reduceEq, Nat.add_zero, Int.toNat_natCast, iI_cl, iI_lt, iI_eq, gd_in, bI_eq0, bI_eq1, bI_isB, isB_0, isB_1, il_0, il_1, il_2, il_3, il_4, il_5, il_6, il_7, il_8, il_9, il_10, il_12, il_16, il_18, il_24, il_27, il_30, il_31, il_32, il_40, il_47, il_48, il_49, il_55, il_56, il_57, il_59, il_63, il_64, il_96, il_97, il_98, il_99, il_101, il_103, il_104, il_105, il_108, il_109, il_110, il_111, il_112, il_114, il_115, il_116, il_117, il_119, il_122, il_127, il_128, il_200, il_225, il_255, il_256, il_999, il_1575, il_9999, il_65536, il_252645135, il_858993459, il_1431655765, lu.2.2.2.2, lu.1.np]
                  rw [if_neg (by omega)]
                  have Sj : S.testBit j = true := b_nf (fun t => sk (Or.inr t))
                  have cj : r.contains j = false := by
                    have e : (ro_m r).testBit j = r.contains j := (congrFun (ro_m_tb r) j).symm
                    rw [← e]
                    exact b_nt (fun t => sk (Or.inl t))
                  have fresh : j ∉ r := fun t => by
                    rw [List.contains_iff_mem.2 t] at cj
                    exact Bool.noConfusion cj
                  obtain ⟨f, f1, f48⟩ := ro_fr_all lu.2.2.2.1
                  have il := m_isLast lu.1 lu.2.1 lu.2.2.1 (by omega) (fun p hp => (hrp p hp).1) jn lu.2.2.2.2
                  obtain ⟨u2, g1, g2, g3⟩ := m_isGiven lu.1 lu.2.1 lu.2.2.2.1 (by omega) jn lu.2.2.2.2 f1 f48
                  have fr2 := fr_X12_isGiven _ _ _ _ g1
                  have lu2 : LoB u2 a r (j : Int) := ⟨lu.1.fr fr2 (by decide) (by decide), lu.2.1.fr fr2 (by decide) (by decide), lu.2.2.1.fr fr2 (by decide), g2, (fr2.ag (by decide) _).trans lu.2.2.2.2⟩
                  have au2 : AcC u2 (al_r a) S (ro_ct S) w x y Ls := au.fr fr2 (by decide)
                  have rej : ∀ u', LoB u' a r (j : Int) → AcC u' (al_r a) S (ro_ct S) w x y Ls → ro_F S.testBit (ro_R (al_r a)) r j = false → Wp (c (iI (r.length : Int)) (iI (ro_m r : Int)) u') (fun v h' => v = iI ((ro_rows (al_r a) S).take A).length ∧ LoR h' a S A w x y) := fun u' lu' au' Fj =>
                    (ih (lo_m r (j + 1)) (Nat.lt_of_lt_of_le (lo_m_on (by omega) (by omega)) hms)).2 r (j + 1) (ro_m r) u' Ls _ _ rfl hrm (by omega) (by rw [show ((j + 1 : Nat) : Int) - 1 = (j : Int) by omega]; exact lu') hnd hrp rfl (by omega) (fun _ => ⟨M128, by rw [Nat.add_sub_cancel]; exact (nd_m 0 fresh).1⟩) au' hLs (by rw [← ro_rs_no (by omega) Fj]; exact tu) (Nat.le_refl _)
                  have g1' : F_X12_isGiven (iI ((r.length : Int) + 1)) u = some (bI (ro_sl (al_r a) r j = true), u2) := g1
                  have il' : F_X12_isLast (iI ((r.length : Int) + 1)) u = some (bI (ro_Q (al_r a) r j = true), u) := il
                  by_cases Qj : ro_Q (al_r a) r j = true
                  · rw [il', bd_e, if_neg (by rw [bI_t Qj]; decide), g1', bd_e]
                    by_cases sj : ro_sl (al_r a) r j = true
                    · rw [if_neg (by rw [bI_t sj]; decide)]
                      have Fj : ro_F S.testBit (ro_R (al_r a)) r j = true := by
                        rw [fQ, Sj, cj, Qj, sj]
                        rfl
                      have f48' : ro_f (ro_w (al_r a) j) f < 48 := by
                        unfold ro_sl at sj
                        rw [f1] at sj
                        exact of_decide_eq_true sj
                      have nr : (r ++ [j]).Nodup := nodup_snoc hnd fresh
                      have lr : (r ++ [j]).length = r.length + 1 := by rw [List.length_append]; rfl
                      have pr : ∀ p ∈ r ++ [j], p < (al_w a).length ∧ S.testBit p = true := fun p hp => by
                        rcases List.mem_append.1 hp with t | t
                        · exact hrp p t
                        · rw [List.mem_singleton] at t
                          subst t
                          exact ⟨jn, Sj⟩
                      have rw2 : RwC u2 (r ++ [j]) := fun i hi => by
                        rw [lr] at hi
                        rw [getD_app]
                        by_cases e : i < r.length
                        · rw [if_pos e]; exact lu2.2.2.1 i e
                        · rw [if_neg e, if_pos (by omega), show i = r.length by omega]; exact lu2.2.2.2.2
                      have er2 : ErC u2 (al_r a) (r ++ [j]) := fun i hi => by
                        rw [lr] at hi
                        by_cases e : i < r.length
                        · rw [List.take_append_of_le_length (by omega)]
                          exact g2 i e
                        · rw [show i = r.length by omega, List.take_of_length_le (by omega)]
                          exact ⟨ro_f (ro_w (al_r a) j) f, by rw [ro_fr_snoc f1, if_pos f48'], f48', g3⟩
                      have um : iI (ro_m r : Int) ||| (iI 1 <<< (iI (j : Int) &&& iI 31)) = iI (ro_m (r ++ [j]) : Int) := by
                        rw [ms_shl j (by omega), ms_or, ro_m_snoc]
                      have M2 : ro_m (r ++ [j]) < 128 := (ro_nodup_m hS _ nr (fun p hp => ⟨by have := (pr p hp).1; omega, (pr p hp).2⟩)).1
                      (try simp (maxSteps := 3000000) (implicitDefEqProofs := false) (disch := omega) only [jl_e, jn_e, bd_e, gd_t, iI_add, iI_sub, iI_mul, iI_neg, if_true, if_false, not_true_eq_false, not_false_eq_true, Int.reduceEq, Nat.add_zero, Int.toNat_natCast, iI_cl, iI_lt, iI_eq, gd_in, bI_eq0, bI_eq1, bI_isB, isB_0, isB_1, il_0, il_1, il_2, il_3, il_4, il_5, il_6, il_7, il_8, il_9, il_10, il_12, il_16, il_18, il_24, il_27, il_30, il_31, il_32, il_40, il_47, il_48, il_49, il_55, il_56, il_57, il_59, il_63, il_64, il_96, il_97, il_98, il_99, il_101, il_103, il_104, il_105, il_108, il_109, il_110, il_111, il_112, il_114, il_115, il_116, il_117, il_119, il_122, il_127, il_128, il_200, il_225, il_255, il_256, il_999, il_1575, il_9999, il_65536, il_252645135, il_858993459, il_1431655765, lu2.2.2.2.2, um])
                      by_cases em : r.length + 1 = ro_ct S
                      · rw [if_pos (by omega)]
                        have fullr : ro_full S.testBit (r ++ [j]) := ro_full_of hS nr (by rw [lr]; exact em) (fun p hp => ⟨by have := (pr p hp).1; omega, (pr p hp).2⟩)
                        have ac3 : AcC u2 (al_r a) S (r ++ [j]).length w x y Ls := by rw [lr, em]; exact au2
                        obtain ⟨u3, w1, w2⟩ := m_weigh (l := r ++ [j]) (S := S) (w := w) (x := x) (y := y) (Ls := Ls) ⟨lu2.1, lu2.2.1, rw2, er2, au2.1⟩ (by omega) (fun p hp => (pr p hp).1) nr (by omega) (fun p h1 h2 => fullr.2.2 p h1 h2) hw hxy ac3
                        rw [lr, em] at w1 w2
                        have fr3 := fr_X12_weigh _ _ _ _ _ _ _ w1
                        have lu3 : LoB u3 a r (j : Int) := ⟨lu2.1.fr fr3 (by decide) (by decide), lu2.2.1.fr fr3 (by decide) (by decide), lu2.2.2.1.fr fr3 (by decide), lu2.2.2.2.1.fr fr3 (by decide), (fr3.ag (by decide) _).trans lu2.2.2.2.2⟩
                        rw [w1, bd_e]
                        exact (ih (lo_m r (j + 1)) (Nat.lt_of_lt_of_le (lo_m_on (by omega) (by omega)) hms)).2 r (j + 1) (ro_m (r ++ [j])) u3 (Ls ++ [r ++ [j]]) _ _ rfl hrm (by omega) (by rw [show ((j + 1 : Nat) : Int) - 1 = (j : Int) by omega]; exact lu3) hnd hrp rfl (by omega) (fun _ => ⟨M2, by rw [Nat.add_sub_cancel]; exact (nd_m 0 fresh).2⟩) w2 (by rw [List.length_append, List.length_singleton]; omega) (by rw [List.append_assoc, List.singleton_append, ← ro_rs_end (by omega) em Fj]; exact tu) (Nat.le_refl _)
                      · rw [if_neg (by omega)]
                        (try simp (maxSteps := 3000000) (implicitDefEqProofs := false) (disch := omega) only [jl_e, jn_e, bd_e, gd_t, iI_add, iI_sub, iI_mul, iI_neg, if_true, if_false, not_true_eq_false, not_false_eq_true, Int.reduceEq, Nat.add_zero, Int.toNat_natCast, iI_cl, iI_lt, iI_eq, gd_in, bI_eq0, bI_eq1, bI_isB, isB_0, isB_1, il_0, il_1, il_2, il_3, il_4, il_5, il_6, il_7, il_8, il_9, il_10, il_12, il_16, il_18, il_24, il_27, il_30, il_31, il_32, il_40, il_47, il_48, il_49, il_55, il_56, il_57, il_59, il_63, il_64, il_96, il_97, il_98, il_99, il_101, il_103, il_104, il_105, il_108, il_109, il_110, il_111, il_112, il_114, il_115, il_116, il_117, il_119, il_122, il_127, il_128, il_200, il_225, il_255, il_256, il_999, il_1575, il_9999, il_65536, il_252645135, il_858993459, il_1431655765, tnp1])
                        have f4 : FrX [] [131] u2 (aS u2 131 (r.length + 1) (iI (-1))) := (FrX.refl _ _ u2).aS (by decide) _ _
                        have lu4 : LoB (aS u2 131 (r.length + 1) (iI (-1))) a (r ++ [j]) (-1) := ⟨lu2.1.fr f4 (by decide) (by decide), lu2.2.1.fr f4 (by decide) (by decide), fun i hi => by rw [aG_aS_j (by omega)]; exact rw2 i hi, er2.fr f4 (by decide), by rw [lr]; exact aG_aS_s ..⟩
                        exact (ih (lo_m (r ++ [j]) 0) (Nat.lt_of_lt_of_le (lo_m_down (by omega) (by omega) (by omega)) hms)).2 (r ++ [j]) 0 (ro_m (r ++ [j])) _ Ls _ _ (by rw [lr]; exact iI_cg (by omega)) (by omega) (by omega) lu4 nr pr rfl (fun _ => rfl) (fun t => absurd t (by omega)) (au2.put _ _) hLs (by rw [lr, ← ro_rs_down (by omega) rfl (by omega) Fj]; exact tu) (Nat.le_refl _)
                    · rw [if_pos (by rw [bI_f sj])]
                      exact rej u2 lu2 au2 (by rw [fQ, b_nt sj, Bool.and_false, Bool.and_false])
                  · rw [il', bd_e, if_pos (by rw [bI_f Qj])]
                    exact rej u lu au (by rw [fQ, b_nt Qj, Bool.false_and, Bool.and_false])
              · rw [if_neg (fun w => jn (jlt ▸ w))]
                simp (maxSteps := 3000000) (implicitDefEqProofs := false) (disch := omega) only [jl_e, jn_e, bd_e, gd_t, iI_add, iI_sub, iI_mul, iI_neg, if_true, if_false, not_true_eq_false, not_false_eq_true, Int.reduceEq, Nat.add_zero, Int.toNat_natCast, iI_cl, iI_lt, iI_eq, gd_in, bI_eq0, bI_eq1, bI_isB, isB_0, isB_1, il_0, il_1, il_2, il_3, il_4, il_5, il_6, il_7, il_8, il_9, il_10, il_12, il_16, il_18, il_24, il_27, il_30, il_31, il_32, il_40, il_47, il_48, il_49, il_55, il_56, il_57, il_59, il_63, il_64, il_96, il_97, il_98, il_99, il_101, il_103, il_104, il_105, il_108, il_109, il_110, il_111, il_112, il_114, il_115, il_116, il_117, il_119, il_122, il_127, il_128, il_200, il_225, il_255, il_256, il_999, il_1575, il_9999, il_65536, il_252645135, il_858993459, il_1431655765, lu.2.2.2.2, lu.1.np]
                rw [if_pos (by omega)]
                have Fn : ∀ p, j ≤ p → p < 7 → ro_F S.testBit (ro_R (al_r a)) r p = false := fun p h1 _ => by
                  have : S.testBit p = false := b_nt (fun t => by have := hSn p t; omega)
                  rw [fQ, this, Bool.false_and, Bool.false_and]
                cases er : r.length with
                | zero =>
                  rw [er, ro_rs_out j7 Fn, List.append_nil, List.take_of_length_le hLs] at tu
                  rw [show ((0 : Nat) : Int) + -1 = -1 by omega]
                  exact (ih 0 (Nat.lt_of_lt_of_le (lo_m_pos (by omega)) hms)).1 u _ lu.2.1 (by rw [← tu]; exact au)
                | succ n =>
                  rw [er, ro_rs_up j7 Fn] at tu
                  have ln : (r.take n).length = n := by rw [List.length_take]; omega
                  have nt := nodup_take er hnd
                  have mem : r.getD n 0 ∈ r := ro_get_mem.2 ⟨n, by omega, rfl⟩
                  have np' := (hrp _ mem).1
                  have lu5 : LoB u a (r.take n) (((r.getD n 0 + 1 : Nat) : Int) - 1) := by
                    refine ⟨lu.1, lu.2.1, fun i hi => ?_, fun i hi => ?_, ?_⟩
                    · rw [ln] at hi
                      rw [ro_getD_take hi]
                      exact lu.2.2.1 i (by omega)
                    · rw [ln] at hi
                      rw [List.take_take, Nat.min_eq_left (by omega)]
                      exact lu.2.2.2.1 i (by omega)
                    · rw [ln, lu.2.2.1 n (by omega)]
                      exact iI_cg (by omega)
                  exact (ih (lo_m (r.take n) (r.getD n 0 + 1)) (Nat.lt_of_lt_of_le (lo_m_up er (by omega) (by omega)) hms)).2 (r.take n) (r.getD n 0 + 1) (ro_m r) u Ls _ _ (by rw [ln]; exact iI_cg (by omega)) (by omega) (by omega) lu5 nt.1 (fun p hp => hrp p (List.mem_of_mem_take hp)) rfl (by omega) (fun _ => ⟨M128, by rw [Nat.add_sub_cancel]; have := (nd_m (r := r.take n) 0 nt.2).2; rw [← take_last er] at this; exact this⟩) au hLs (by rw [ln]; exact tu) (Nat.le_refl _)
            · obtain ⟨hU, hnU⟩ := u1 (by omega)
              obtain ⟨c', hc'⟩ : ∃ c', cc = c' + 1 := ⟨cc - 1, by omega⟩
              have ec : (cc : Int) - 1 = (c' : Int) := by omega
              rw [show cc - 1 = c' by omega] at hnU
              rw [ec] at lb ⊢
              have e1 : iI (c' : Int) + 1 = iI (cc : Int) := by rw [il_1, iI_add]; exact iI_cg (by omega)
              have us : iI (U : Int) &&& (((1 : Int32) <<< (iI (c' : Int) &&& 31)) ^^^ (-1 : Int32)) = iI (ro_m r : Int) := by
                rw [show ((1 : Int32) <<< (iI (c' : Int) &&& 31)) = iI ((2 ^ c' : Nat) : Int) from ms_shl c' (by omega), show (-1 : Int32) = iI (-1) from rfl, ms_not]
                exact congrArg (fun z : Nat => iI (z : Int)) hnU
              rw [if_neg (by rw [show (-1 : Int32) = iI (-1) from rfl, iI_eq (by omega) (by omega) (by omega) (by omega)]; omega), gd_in (by omega) (by omega) (by omega), us]
              rw [gd_in (by omega) (by omega) (by omega), gd_in (by omega) (by omega) (by omega), jl_e, e1]
              refine lp_up (α := Hp → Option (Int32 × Hp)) (P := fun k' d => ∀ u, LoB u a r ((cc : Int) + k') → AcC u (al_r a) S (ro_ct S) w x y Ls → (Ls ++ ro_rs S.testBit (ro_R (al_r a)) (ro_ct S) r.length r (cc + k')).take A = (ro_rows (al_r a) S).take A → Wp (d u) (fun v h' => v = iI ((ro_rows (al_r a) S).take A).length ∧ LoR h' a S A w x y)) ((al_w a).length - cc) (by omega) (fun k' d hk' ih' u lu au tu => ?_) _ (LoB.cast (lb.put _) (by omega)) (ac.put _ _) htk
              obtain ⟨j, ej⟩ : ∃ j, cc + k' = j := ⟨_, rfl⟩
              rw [ej] at tu
              rw [show (cc : Int) + (k' : Int) = (j : Int) by omega] at lu
              have ih' : k' < (al_w a).length - cc → ∀ u, LoB u a r (((j + 1 : Nat) : Int)) → AcC u (al_r a) S (ro_ct S) w x y Ls → (Ls ++ ro_rs S.testBit (ro_R (al_r a)) (ro_ct S) r.length r (j + 1)).take A = (ro_rows (al_r a) S).take A → Wp (d u) (fun v h' => v = iI ((ro_rows (al_r a) S).take A).length ∧ LoR h' a S A w x y) := fun z u l1 l2 l3 => ih' z u (by rw [show (cc : Int) + ((k' + 1 : Nat) : Int) = ((j + 1 : Nat) : Int) by omega]; exact l1) l2 (by rw [show cc + (k' + 1) = j + 1 by omega]; exact l3)
              have j7 : j ≤ 7 := by omega
              have jlt : (iI (j : Int) < iI ((al_w a).length : Int)) = (j < (al_w a).length) := by
                rw [iI_lt (by omega) (by omega) (by omega) (by omega)]
                exact propext (by omega)
              have skp : ((((iI (ro_m r : Int) >>> (iI (j : Int) &&& (31 : Int32))) &&& (1 : Int32)) ||| (((iI (S : Int) ^^^ (-1 : Int32)) >>> (iI (j : Int) &&& (31 : Int32))) &&& (1 : Int32))) = (1 : Int32)) = ((ro_m r).testBit j = true ∨ S.testBit j = false) := ms_skip M128 hS (show j < 8 by omega)
              try dsimp only
              rw [gd_in (by omega) (by omega) (by omega), jn_e, lu.2.2.2.2, lu.1.np]
              by_cases jn : j < (al_w a).length
              · rw [if_pos (jlt ▸ jn), gd_in (by omega) (by omega) (by omega), gd_in (by omega) (by omega) (by omega)]
                by_cases sk : (ro_m r).testBit j = true ∨ S.testBit j = false
                · rw [if_pos (skp ▸ sk), gd_in (by omega) (by omega) (by omega), gd_in (by omega) (by omega) (by omega), jl_e, show iI (j : Int) + 1 = iI ((j + 1 : Nat) : Int) by rw [il_1, iI_add]; exact iI_cg (by omega)]
                  have Fj : ro_F S.testBit (ro_R (al_r a)) r j = false := by
                    rw [fQ]
                    have e : (ro_m r).testBit j = r.contains j := (congrFun (ro_m_tb r) j).symm
                    rcases sk with t | t
                    · rw [← e, t, Bool.not_true, Bool.and_false, Bool.false_and]
                    · rw [t, Bool.false_and, Bool.false_and]
                  exact ih' (by omega) _ (lu.put _) (au.put _ _) (by rw [← ro_rs_no (by omega) Fj]; exact tu)
                · rw [if_neg (fun w => sk (skp ▸ w))]
                  simp (maxSteps := 3000000) (implicitDefEqProofs := false) (disch := omega) only [jl_e, jn_e, bd_e, gd_t, iI_add, iI_sub, iI_mul, iI_neg, if_true, if_false, not_true_eq_false, not_false_eq_true, Int.reduceEq, Nat.add_zero, Int.toNat_natCast, iI_cl, iI_lt, iI_eq, gd_in, bI_eq0, bI_eq1, bI_isB, isB_0, isB_1, il_0, il_1, il_2, il_3, il_4, il_5, il_6, il_7, il_8, il_9, il_10, il_12, il_16, il_18, il_24, il_27, il_30, il_31, il_32, il_40, il_47, il_48, il_49, il_55, il_56, il_57, il_59, il_63, il_64, il_96, il_97, il_98, il_99, il_101, il_103, il_104, il_105, il_108, il_109, il_110, il_111, il_112, il_114, il_115, il_116, il_117, il_119, il_122, il_127, il_128, il_200, il_225, il_255, il_256, il_999, il_1575, il_9999, il_65536, il_252645135, il_858993459, il_1431655765, lu.2.2.2.2, lu.1.np]
                  rw [if_neg (by omega)]
                  have Sj : S.testBit j = true := b_nf (fun t => sk (Or.inr t))
                  have cj : r.contains j = false := by
                    have e : (ro_m r).testBit j = r.contains j := (congrFun (ro_m_tb r) j).symm
                    rw [← e]
                    exact b_nt (fun t => sk (Or.inl t))
                  have fresh : j ∉ r := fun t => by
                    rw [List.contains_iff_mem.2 t] at cj
                    exact Bool.noConfusion cj
                  obtain ⟨f, f1, f48⟩ := ro_fr_all lu.2.2.2.1
                  have il := m_isLast lu.1 lu.2.1 lu.2.2.1 (by omega) (fun p hp => (hrp p hp).1) jn lu.2.2.2.2
                  obtain ⟨u2, g1, g2, g3⟩ := m_isGiven lu.1 lu.2.1 lu.2.2.2.1 (by omega) jn lu.2.2.2.2 f1 f48
                  have fr2 := fr_X12_isGiven _ _ _ _ g1
                  have lu2 : LoB u2 a r (j : Int) := ⟨lu.1.fr fr2 (by decide) (by decide), lu.2.1.fr fr2 (by decide) (by decide), lu.2.2.1.fr fr2 (by decide), g2, (fr2.ag (by decide) _).trans lu.2.2.2.2⟩
                  have au2 : AcC u2 (al_r a) S (ro_ct S) w x y Ls := au.fr fr2 (by decide)
                  have rej : ∀ u', LoB u' a r (j : Int) → AcC u' (al_r a) S (ro_ct S) w x y Ls → ro_F S.testBit (ro_R (al_r a)) r j = false → Wp (c (iI (r.length : Int)) (iI (ro_m r : Int)) u') (fun v h' => v = iI ((ro_rows (al_r a) S).take A).length ∧ LoR h' a S A w x y) := fun u' lu' au' Fj =>
                    (ih (lo_m r (j + 1)) (Nat.lt_of_lt_of_le (lo_m_on (by omega) (by omega)) hms)).2 r (j + 1) (ro_m r) u' Ls _ _ rfl hrm (by omega) (by rw [show ((j + 1 : Nat) : Int) - 1 = (j : Int) by omega]; exact lu') hnd hrp rfl (by omega) (fun _ => ⟨M128, by rw [Nat.add_sub_cancel]; exact (nd_m 0 fresh).1⟩) au' hLs (by rw [← ro_rs_no (by omega) Fj]; exact tu) (Nat.le_refl _)
                  have g1' : F_X12_isGiven (iI ((r.length : Int) + 1)) u = some (bI (ro_sl (al_r a) r j = true), u2) := g1
                  have il' : F_X12_isLast (iI ((r.length : Int) + 1)) u = some (bI (ro_Q (al_r a) r j = true), u) := il
                  by_cases Qj : ro_Q (al_r a) r j = true
                  · rw [il', bd_e, if_neg (by rw [bI_t Qj]; decide), g1', bd_e]
                    by_cases sj : ro_sl (al_r a) r j = true
                    · rw [if_neg (by rw [bI_t sj]; decide)]
                      have Fj : ro_F S.testBit (ro_R (al_r a)) r j = true := by
                        rw [fQ, Sj, cj, Qj, sj]
                        rfl
                      have f48' : ro_f (ro_w (al_r a) j) f < 48 := by
                        unfold ro_sl at sj
                        rw [f1] at sj
                        exact of_decide_eq_true sj
                      have nr : (r ++ [j]).Nodup := nodup_snoc hnd fresh
                      have lr : (r ++ [j]).length = r.length + 1 := by rw [List.length_append]; rfl
                      have pr : ∀ p ∈ r ++ [j], p < (al_w a).length ∧ S.testBit p = true := fun p hp => by
                        rcases List.mem_append.1 hp with t | t
                        · exact hrp p t
                        · rw [List.mem_singleton] at t
                          subst t
                          exact ⟨jn, Sj⟩
                      have rw2 : RwC u2 (r ++ [j]) := fun i hi => by
                        rw [lr] at hi
                        rw [getD_app]
                        by_cases e : i < r.length
                        · rw [if_pos e]; exact lu2.2.2.1 i e
                        · rw [if_neg e, if_pos (by omega), show i = r.length by omega]; exact lu2.2.2.2.2
                      have er2 : ErC u2 (al_r a) (r ++ [j]) := fun i hi => by
                        rw [lr] at hi
                        by_cases e : i < r.length
                        · rw [List.take_append_of_le_length (by omega)]
                          exact g2 i e
                        · rw [show i = r.length by omega, List.take_of_length_le (by omega)]
                          exact ⟨ro_f (ro_w (al_r a) j) f, by rw [ro_fr_snoc f1, if_pos f48'], f48', g3⟩
                      have um : iI (ro_m r : Int) ||| (iI 1 <<< (iI (j : Int) &&& iI 31)) = iI (ro_m (r ++ [j]) : Int) := by
                        rw [ms_shl j (by omega), ms_or, ro_m_snoc]
                      have M2 : ro_m (r ++ [j]) < 128 := (ro_nodup_m hS _ nr (fun p hp => ⟨by have := (pr p hp).1; omega, (pr p hp).2⟩)).1
                      (try simp (maxSteps := 3000000) (implicitDefEqProofs := false) (disch := omega) only [jl_e, jn_e, bd_e, gd_t, iI_add, iI_sub, iI_mul, iI_neg, if_true, if_false, not_true_eq_false, not_false_eq_true, Int.reduceEq, Nat.add_zero, Int.toNat_natCast, iI_cl, iI_lt, iI_eq, gd_in, bI_eq0, bI_eq1, bI_isB, isB_0, isB_1, il_0, il_1, il_2, il_3, il_4, il_5, il_6, il_7, il_8, il_9, il_10, il_12, il_16, il_18, il_24, il_27, il_30, il_31, il_32, il_40, il_47, il_48, il_49, il_55, il_56, il_57, il_59, il_63, il_64, il_96, il_97, il_98, il_99, il_101, il_103, il_104, il_105, il_108, il_109, il_110, il_111, il_112, il_114, il_115, il_116, il_117, il_119, il_122, il_127, il_128, il_200, il_225, il_255, il_256, il_999, il_1575, il_9999, il_65536, il_252645135, il_858993459, il_1431655765, lu2.2.2.2.2, um])
                      by_cases em : r.length + 1 = ro_ct S
                      · rw [if_pos (by omega)]
                        have fullr : ro_full S.testBit (r ++ [j]) := ro_full_of hS nr (by rw [lr]; exact em) (fun p hp => ⟨by have := (pr p hp).1; omega, (pr p hp).2⟩)
                        have ac3 : AcC u2 (al_r a) S (r ++ [j]).length w x y Ls := by rw [lr, em]; exact au2
                        obtain ⟨u3, w1, w2⟩ := m_weigh (l := r ++ [j]) (S := S) (w := w) (x := x) (y := y) (Ls := Ls) ⟨lu2.1, lu2.2.1, rw2, er2, au2.1⟩ (by omega) (fun p hp => (pr p hp).1) nr (by omega) (fun p h1 h2 => fullr.2.2 p h1 h2) hw hxy ac3
                        rw [lr, em] at w1 w2
                        have fr3 := fr_X12_weigh _ _ _ _ _ _ _ w1
                        have lu3 : LoB u3 a r (j : Int) := ⟨lu2.1.fr fr3 (by decide) (by decide), lu2.2.1.fr fr3 (by decide) (by decide), lu2.2.2.1.fr fr3 (by decide), lu2.2.2.2.1.fr fr3 (by decide), (fr3.ag (by decide) _).trans lu2.2.2.2.2⟩
                        rw [w1, bd_e]
                        exact (ih (lo_m r (j + 1)) (Nat.lt_of_lt_of_le (lo_m_on (by omega) (by omega)) hms)).2 r (j + 1) (ro_m (r ++ [j])) u3 (Ls ++ [r ++ [j]]) _ _ rfl hrm (by omega) (by rw [show ((j + 1 : Nat) : Int) - 1 = (j : Int) by omega]; exact lu3) hnd hrp rfl (by omega) (fun _ => ⟨M2, by rw [Nat.add_sub_cancel]; exact (nd_m 0 fresh).2⟩) w2 (by rw [List.length_append, List.length_singleton]; omega) (by rw [List.append_assoc, List.singleton_append, ← ro_rs_end (by omega) em Fj]; exact tu) (Nat.le_refl _)
                      · rw [if_neg (by omega)]
                        (try simp (maxSteps := 3000000) (implicitDefEqProofs := false) (disch := omega) only [jl_e, jn_e, bd_e, gd_t, iI_add, iI_sub, iI_mul, iI_neg, if_true, if_false, not_true_eq_false, not_false_eq_true, Int.reduceEq, Nat.add_zero, Int.toNat_natCast, iI_cl, iI_lt, iI_eq, gd_in, bI_eq0, bI_eq1, bI_isB, isB_0, isB_1, il_0, il_1, il_2, il_3, il_4, il_5, il_6, il_7, il_8, il_9, il_10, il_12, il_16, il_18, il_24, il_27, il_30, il_31, il_32, il_40, il_47, il_48, il_49, il_55, il_56, il_57, il_59, il_63, il_64, il_96, il_97, il_98, il_99, il_101, il_103, il_104, il_105, il_108, il_109, il_110, il_111, il_112, il_114, il_115, il_116, il_117, il_119, il_122, il_127, il_128, il_200, il_225, il_255, il_256, il_999, il_1575, il_9999, il_65536, il_252645135, il_858993459, il_1431655765, tnp1])
                        have f4 : FrX [] [131] u2 (aS u2 131 (r.length + 1) (iI (-1))) := (FrX.refl _ _ u2).aS (by decide) _ _
                        have lu4 : LoB (aS u2 131 (r.length + 1) (iI (-1))) a (r ++ [j]) (-1) := ⟨lu2.1.fr f4 (by decide) (by decide), lu2.2.1.fr f4 (by decide) (by decide), fun i hi => by rw [aG_aS_j (by omega)]; exact rw2 i hi, er2.fr f4 (by decide), by rw [lr]; exact aG_aS_s ..⟩
                        exact (ih (lo_m (r ++ [j]) 0) (Nat.lt_of_lt_of_le (lo_m_down (by omega) (by omega) (by omega)) hms)).2 (r ++ [j]) 0 (ro_m (r ++ [j])) _ Ls _ _ (by rw [lr]; exact iI_cg (by omega)) (by omega) (by omega) lu4 nr pr rfl (fun _ => rfl) (fun t => absurd t (by omega)) (au2.put _ _) hLs (by rw [lr, ← ro_rs_down (by omega) rfl (by omega) Fj]; exact tu) (Nat.le_refl _)
                    · rw [if_pos (by rw [bI_f sj])]
                      exact rej u2 lu2 au2 (by rw [fQ, b_nt sj, Bool.and_false, Bool.and_false])
                  · rw [il', bd_e, if_pos (by rw [bI_f Qj])]
                    exact rej u lu au (by rw [fQ, b_nt Qj, Bool.false_and, Bool.and_false])
              · rw [if_neg (fun w => jn (jlt ▸ w))]
                simp (maxSteps := 3000000) (implicitDefEqProofs := false) (disch := omega) only [jl_e, jn_e, bd_e, gd_t, iI_add, iI_sub, iI_mul, iI_neg, if_true, if_false, not_true_eq_false, not_false_eq_true, Int.reduceEq, Nat.add_zero, Int.toNat_natCast, iI_cl, iI_lt, iI_eq, gd_in, bI_eq0, bI_eq1, bI_isB, isB_0, isB_1, il_0, il_1, il_2, il_3, il_4, il_5, il_6, il_7, il_8, il_9, il_10, il_12, il_16, il_18, il_24, il_27, il_30, il_31, il_32, il_40, il_47, il_48, il_49, il_55, il_56, il_57, il_59, il_63, il_64, il_96, il_97, il_98, il_99, il_101, il_103, il_104, il_105, il_108, il_109, il_110, il_111, il_112, il_114, il_115, il_116, il_117, il_119, il_122, il_127, il_128, il_200, il_225, il_255, il_256, il_999, il_1575, il_9999, il_65536, il_252645135, il_858993459, il_1431655765, lu.2.2.2.2, lu.1.np]
                rw [if_pos (by omega)]
                have Fn : ∀ p, j ≤ p → p < 7 → ro_F S.testBit (ro_R (al_r a)) r p = false := fun p h1 _ => by
                  have : S.testBit p = false := b_nt (fun t => by have := hSn p t; omega)
                  rw [fQ, this, Bool.false_and, Bool.false_and]
                cases er : r.length with
                | zero =>
                  rw [er, ro_rs_out j7 Fn, List.append_nil, List.take_of_length_le hLs] at tu
                  rw [show ((0 : Nat) : Int) + -1 = -1 by omega]
                  exact (ih 0 (Nat.lt_of_lt_of_le (lo_m_pos (by omega)) hms)).1 u _ lu.2.1 (by rw [← tu]; exact au)
                | succ n =>
                  rw [er, ro_rs_up j7 Fn] at tu
                  have ln : (r.take n).length = n := by rw [List.length_take]; omega
                  have nt := nodup_take er hnd
                  have mem : r.getD n 0 ∈ r := ro_get_mem.2 ⟨n, by omega, rfl⟩
                  have np' := (hrp _ mem).1
                  have lu5 : LoB u a (r.take n) (((r.getD n 0 + 1 : Nat) : Int) - 1) := by
                    refine ⟨lu.1, lu.2.1, fun i hi => ?_, fun i hi => ?_, ?_⟩
                    · rw [ln] at hi
                      rw [ro_getD_take hi]
                      exact lu.2.2.1 i (by omega)
                    · rw [ln] at hi
                      rw [List.take_take, Nat.min_eq_left (by omega)]
                      exact lu.2.2.2.1 i (by omega)
                    · rw [ln, lu.2.2.1 n (by omega)]
                      exact iI_cg (by omega)
                  exact (ih (lo_m (r.take n) (r.getD n 0 + 1)) (Nat.lt_of_lt_of_le (lo_m_up er (by omega) (by omega)) hms)).2 (r.take n) (r.getD n 0 + 1) (ro_m r) u Ls _ _ (by rw [ln]; exact iI_cg (by omega)) (by omega) (by omega) lu5 nt.1 (fun p hp => hrp p (List.mem_of_mem_take hp)) rfl (by omega) (fun _ => ⟨M128, by rw [Nat.add_sub_cancel]; have := (nd_m (r := r.take n) 0 nt.2).2; rw [← take_last er] at this; exact this⟩) au hLs (by rw [ln]; exact tu) (Nat.le_refl _)
          · have eL : (ro_rows (al_r a) S).take A = Ls := by
              rw [← htk, List.take_append_of_le_length (by omega), List.take_of_length_le (by omega)]
            rw [if_neg (fun w => fl (lA ▸ w)), eL]
            exact wp_s ⟨ac.1, by rw [LoR, eL]; exact ⟨ac, lb.2.1⟩⟩
        · have f : FrX [] [131] g (aS g 131 0 (iI (-1))) := (FrX.refl _ _ g).aS (by decide) _ _
          exact ⟨qg.fr f (by decide) (by decide), lg.fr f (by decide) (by decide), fun i hi => absurd hi (Nat.not_lt_zero i), fun i hi => absurd hi (Nat.not_lt_zero i), aG_aS_s ..⟩
        · rw [List.nil_append, show ([] : List Nat).length = 0 from rfl, ro_rs_0 (by omega)]
          rfl
