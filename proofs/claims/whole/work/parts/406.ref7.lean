-- ===== the reference: one order more is weighed =====
def wg_b (x y : Int) (l : List Nat) : Bool := decide (x ≠ y) && ro_bf x.toNat y.toNat l
def wg_ok (S : Nat) (x y : Int) : Prop := (x = -1 ∧ y = -1) ∨ (∃ b c : Nat, x = b ∧ y = c ∧ b ≠ c ∧ b < 7 ∧ c < 7 ∧ S.testBit b = true ∧ S.testBit c = true)
def AcL (h : Hp) (ρ : RD) (Ls : List (List Nat)) : Prop := ∀ p, p < 7 → ∃ n, lG h 134 p = lN n ∧ n < 281474976710656 ∧ ∀ s, (n.testBit s = true ↔ ∃ l ∈ Ls, ∃ i, i < l.length ∧ l.getD i 0 = p ∧ nt_K ρ l i s)
def AcP (h : Hp) (S : Nat) (Ls : List (List Nat)) : Prop := ∀ p, p < 7 → S.testBit p = true → Ls ≠ [] → ∃ u v : Nat, u < 7 ∧ v < 7 ∧ aG h 135 p = iI u ∧ aG h 136 p = iI v ∧ (∃ l ∈ Ls, u < l.length ∧ l.getD u 0 = p) ∧ (∃ l ∈ Ls, v < l.length ∧ l.getD v 0 = p) ∧ ∀ l ∈ Ls, ∀ k, k < l.length → l.getD k 0 = p → u ≤ k ∧ k ≤ v
def AcW (h : Hp) (m : Nat) (w : Int) (Ls : List (List Nat)) : Prop := 0 ≤ w → w < Ls.length → ∀ k, k < m → aG h 137 k = iI ((Ls.getD w.toNat []).getD k 0)
/-- what is known when some orders have been found -/
def AcC (h : Hp) (ρ : RD) (S m : Nat) (w x y : Int) (Ls : List (List Nat)) : Prop := sG h 7522 = iI Ls.length ∧ sG h 7527 = iI (Ls.filter (wg_b x y)).length ∧ AcL h ρ Ls ∧ AcP h S Ls ∧ AcW h m w Ls
theorem AcC.fr {h h' : Hp} {ρ : RD} {S m : Nat} {w x y : Int} {Ls : List (List Nat)} {A : List Nat} (q : AcC h ρ S m w x y Ls) (f : FrX [] A h h') (n : ∀ k, k ∈ A → k < 134) : AcC h' ρ S m w x y Ls := by
  obtain ⟨q1, q2, q3, q4, q5⟩ := q
  refine ⟨(f.sg (by simp)).trans q1, (f.sg (by simp)).trans q2, fun p hp => ?_, fun p hp hs hL => ?_, fun h1 h2 k hk => (f.ag (fun z => by have := n _ z; omega) _).trans (q5 h1 h2 k hk)⟩
  · obtain ⟨b, b1, b2⟩ := q3 p hp
    exact ⟨b, (f.lg (fun z => by have := n _ z; omega) _).trans b1, b2⟩
  · obtain ⟨u, v, u1, u2, u3, u4, u5⟩ := q4 p hp hs hL
    exact ⟨u, v, u1, u2, (f.ag (fun z => by have := n _ z; omega) _).trans u3, (f.ag (fun z => by have := n _ z; omega) _).trans u4, u5⟩
theorem getD_snocL {l : List (List Nat)} {a : List Nat} {i : Nat} : (l ++ [a]).getD i [] = if i < l.length then l.getD i [] else if i = l.length then a else [] := getD_app
theorem ro_bf_at {b c i j : Nat} {l : List Nat} (hn : l.Nodup) (hi : i < l.length) (hj : j < l.length) (ei : l.getD i 0 = b) (ej : l.getD j 0 = c) : ro_bf b c l = true ↔ i < j := by
  rw [ro_bf_iff]
  constructor
  · rintro ⟨i', j', h1, h2, h3, h4⟩
    have := ro_get_inj hn (show i' < l.length by omega) hi (h3.trans ei.symm)
    have := ro_get_inj hn h2 hj (h4.trans ej.symm)
    omega
  · intro h
    exact ⟨i, j, h, hj, ei, ej⟩
/-- where one stands: its place, or 9 -/
def wg_at (l : List Nat) (x : Int) (k : Nat) (v : Int32) : Prop := (∃ i, i < k ∧ (l.getD i 0 : Int) = x ∧ v = iI (i : Int)) ∨ ((∀ i, i < k → (l.getD i 0 : Int) ≠ x) ∧ v = iI 9)
theorem m_weigh {h : Hp} {a : Alb} {l : List Nat} {S : Nat} {w x y : Int} {Ls : List (List Nat)} (B : NtB h a l Ls.length) (hl : l.length ≤ 7) (hw : ∀ p ∈ l, p < (al_w a).length) (hn : l.Nodup) (F4 : Ls.length < 9999) (hS : ∀ p, p < 7 → S.testBit p = true → p ∈ l) (hw2 : -1 ≤ w ∧ w < 2147483648) (hxy : wg_ok S x y) (ac : AcC h (al_r a) S l.length w x y Ls) : ∃ h', F_X12_weigh (iI l.length) (iI w) (iI x) (iI y) h = some ((), h') ∧ AcC h' (al_r a) S l.length w x y (Ls ++ [l]) := by
  have h7 := B.1.1.2.1
  obtain ⟨a1, a2, a3, a4, a5⟩ := ac
  have hlf : ∃ lf : Nat → Nat, ∀ p, p < 7 → (lG h 134 p = lN (lf p) ∧ lf p < 281474976710656) ∧ ∀ s, ((lf p).testBit s = true ↔ ∃ l ∈ Ls, ∃ i, i < l.length ∧ l.getD i 0 = p ∧ nt_K (al_r a) l i s) := by
    refine ⟨fun p => lO (lG h 134 p), fun p hp => ?_⟩
    obtain ⟨n, n1, n2, n3⟩ := a3 p hp
    have e : lO (lG h 134 p) = n := by
      rw [n1]
      exact wb_tn (by omega)
    show (lG h 134 p = lN (lO (lG h 134 p)) ∧ lO (lG h 134 p) < 281474976710656) ∧ ∀ s, ((lO (lG h 134 p)).testBit s = true ↔ _)
    rw [e]
    exact ⟨⟨n1, n2⟩, n3⟩
  obtain ⟨lf, hlf⟩ := hlf
  obtain ⟨h1, e1, o1, o2⟩ := m_note B hl hw hn (by omega) (fun p hp => (hlf p hp).1)
  have f := fr_X12_note _ _ _ _ e1
  have xr : -1 ≤ x ∧ x < 7 := by
    rcases hxy with ⟨z, -⟩ | ⟨b, c, z, -, -, z2, -⟩ <;> omega
  have yr : -1 ≤ y ∧ y < 7 := by
    rcases hxy with ⟨-, z⟩ | ⟨b, c, -, z, -, -, z2, -⟩ <;> omega
  have rw1 : RwC h1 l := B.2.2.1.fr f (by decide)
  have s1 : sG h1 7522 = iI Ls.length := (f.sg (by decide)).trans a1
  have s2 : sG h1 7527 = iI (Ls.filter (wg_b x y)).length := (f.sg (by decide)).trans a2
  refine wp_u ?_
  unfold F_X12_weigh
  rw [e1, bd_e]
  refine lp_up (α := Int32 → Int32 → Int32 → Hp → Option (Unit × Hp)) (P := fun k c => ∀ va vb g, wg_at l x k va → wg_at l y k vb → (∀ v, v ≠ 137 → aF g v = aF h1 v) → lF g = lF h1 → sG g = sG h1 → (∀ i, i < l.length → aG g 137 i = if i < k ∧ (Ls.length : Int) = w then iI (l.getD i 0) else aG h1 137 i) → Wp (c va vb (iI k) g) (fun _ h' => AcC h' (al_r a) S l.length w x y (Ls ++ [l]))) l.length (by omega) (fun k c hk ih va vb g wa wb g1 g2 g3 g4 => ?_) _ _ h1 (Or.inr ⟨fun i hi => absurd hi (Nat.not_lt_zero i), rfl⟩) (Or.inr ⟨fun i hi => absurd hi (Nat.not_lt_zero i), rfl⟩) (fun v _ => rfl) rfl rfl (fun i _ => by rw [if_neg (by omega)])
  by_cases z : k < l.length
  · have ih := ih z
    have pk := hw _ (ro_get_mem.2 ⟨k, z, rfl⟩)
    have rk : aG g 131 k = iI (l.getD k 0) := (congrFun (g1 131 (by decide)) k).trans (rw1 k z)
    have rk2 : ∀ v, aG (aS g 137 k v) 131 k = iI (l.getD k 0) := fun v => (aG_aS_k (by decide) ..).trans rk
    have sk : sG g 7522 = iI Ls.length := (congrFun g3 7522).trans s1
    have step : ∀ (u : Int) (v v' : Int32), wg_at l u k v → v' = (if (l.getD k 0 : Int) = u then iI (k : Int) else v) → wg_at l u (k + 1) v' := fun u v v' q e => by
      by_cases c : (l.getD k 0 : Int) = u
      · rw [if_pos c] at e
        exact Or.inl ⟨k, by omega, c, e⟩
      · rw [if_neg c] at e
        rcases q with ⟨i, i1, i2, i3⟩ | ⟨i1, i2⟩
        · exact Or.inl ⟨i, by omega, i2, e.trans i3⟩
        · refine Or.inr ⟨fun i hi => ?_, e.trans i2⟩
          by_cases ei : i = k
          · subst ei; exact c
          · exact i1 i (by omega)
    have go : ∀ t va' vb', t = (if (Ls.length : Int) = w then iI (l.getD k 0) else aG g 137 k) → va' = (if (l.getD k 0 : Int) = x then iI (k : Int) else va) → vb' = (if (l.getD k 0 : Int) = y then iI (k : Int) else vb) → Wp (c va' vb' (iI ((k : Int) + 1)) (aS g 137 k t)) (fun _ h' => AcC h' (al_r a) S l.length w x y (Ls ++ [l])) := fun t va' vb' ht hva hvb => by
      refine ih _ _ _ (step x va va' wa hva) (step y vb vb' wb hvb) (fun v hv => (aF_aV_n hv ..).trans (g1 v hv)) g2 g3 (fun i hi => ?_)
      by_cases ei : i = k
      · subst ei
        rw [aG_aS_s, ht]
        by_cases c : (Ls.length : Int) = w
        · rw [if_pos c, if_pos ⟨by omega, c⟩]
        · rw [if_neg c, if_neg (fun q => c q.2), g4 i hi, if_neg (by omega)]
      · rw [aG_aS_j ei, g4 i hi]
        by_cases c : i < k ∧ (Ls.length : Int) = w
        · rw [if_pos c, if_pos ⟨by omega, c.2⟩]
        · rw [if_neg c, if_neg (fun q => c ⟨by omega, q.2⟩)]
    simp (maxSteps := 3000000) (implicitDefEqProofs := false) (disch := omega) only [jl_e, jn_e, bd_e, gd_t, iI_add, iI_sub, iI_mul, iI_neg, if_true, if_false, not_true_eq_false, not_false_eq_true, Int.reduceEq, Nat.add_zero, Int.toNat_natCast, iI_cl, iI_lt, iI_eq, gd_in, bI_eq0, bI_eq1, bI_isB, isB_0, isB_1, il_0, il_1, il_2, il_3, il_4, il_5, il_6, il_7, il_8, il_9, il_10, il_12, il_16, il_18, il_24, il_27, il_30, il_31, il_32, il_40, il_47, il_48, il_49, il_55, il_56, il_57, il_59, il_63, il_64, il_96, il_97, il_98, il_99, il_101, il_103, il_104, il_105, il_108, il_109, il_110, il_111, il_112, il_114, il_115, il_116, il_117, il_119, il_122, il_127, il_128, il_200, il_225, il_255, il_256, il_999, il_1575, il_9999, il_65536, il_252645135, il_858993459, il_1431655765, sk, rk, rk2]
    rw [if_pos (by omega)]
    have fin : ∀ t, t = (if (Ls.length : Int) = w then iI (l.getD k 0) else aG g 137 k) → Wp (if (l.getD k 0 : Int) = x then (if (l.getD k 0 : Int) = y then c (iI k) (iI k) (iI ((k : Int) + 1)) (aS g 137 k t) else c (iI k) vb (iI ((k : Int) + 1)) (aS g 137 k t)) else (if (l.getD k 0 : Int) = y then c va (iI k) (iI ((k : Int) + 1)) (aS g 137 k t) else c va vb (iI ((k : Int) + 1)) (aS g 137 k t))) (fun _ h' => AcC h' (al_r a) S l.length w x y (Ls ++ [l])) := fun t ht => by
      by_cases c1 : (l.getD k 0 : Int) = x
      · rw [if_pos c1]
        by_cases c2 : (l.getD k 0 : Int) = y
        · rw [if_pos c2]; exact go _ _ _ ht (if_pos c1).symm (if_pos c2).symm
        · rw [if_neg c2]; exact go _ _ _ ht (if_pos c1).symm (if_neg c2).symm
      · rw [if_neg c1]
        by_cases c2 : (l.getD k 0 : Int) = y
        · rw [if_pos c2]; exact go _ _ _ ht (if_neg c1).symm (if_pos c2).symm
        · rw [if_neg c2]; exact go _ _ _ ht (if_neg c1).symm (if_neg c2).symm
    by_cases c0 : (Ls.length : Int) = w
    · rw [if_pos c0]
      exact fin _ (if_pos c0).symm
    · rw [if_neg c0]
      exact fin _ (if_neg c0).symm
  · have ek : k = l.length := by omega
    subst ek
    simp (maxSteps := 3000000) (implicitDefEqProofs := false) (disch := omega) only [jl_e, jn_e, bd_e, gd_t, iI_add, iI_sub, iI_mul, iI_neg, if_true, if_false, not_true_eq_false, not_false_eq_true, Int.reduceEq, Nat.add_zero, Int.toNat_natCast, iI_cl, iI_lt, iI_eq, gd_in, bI_eq0, bI_eq1, bI_isB, isB_0, isB_1, il_0, il_1, il_2, il_3, il_4, il_5, il_6, il_7, il_8, il_9, il_10, il_12, il_16, il_18, il_24, il_27, il_30, il_31, il_32, il_40, il_47, il_48, il_49, il_55, il_56, il_57, il_59, il_63, il_64, il_96, il_97, il_98, il_99, il_101, il_103, il_104, il_105, il_108, il_109, il_110, il_111, il_112, il_114, il_115, il_116, il_117, il_119, il_122, il_127, il_128, il_200, il_225, il_255, il_256, il_999, il_1575, il_9999, il_65536, il_252645135, il_858993459, il_1431655765]
    rw [if_neg (by omega)]
    have sk : sG g 7522 = iI Ls.length := (congrFun g3 7522).trans s1
    have tk : sG g 7527 = iI (Ls.filter (wg_b x y)).length := (congrFun g3 7527).trans s2
    have flen : (Ls.filter (wg_b x y)).length ≤ Ls.length := List.length_filter_le ..
    have fsn : ((Ls ++ [l]).filter (wg_b x y)).length = (Ls.filter (wg_b x y)).length + if wg_b x y l = true then 1 else 0 := by
      rw [List.filter_append, List.length_append]
      congr 1
      by_cases c : wg_b x y l = true
      · rw [if_pos c, List.filter_cons_of_pos c]; rfl
      · rw [if_neg c, List.filter_cons_of_neg c]; rfl
    have ord : (va < vb) = (wg_b x y l = true) := by
      apply propext
      rcases hxy with ⟨ex, ey⟩ | ⟨b, c, ex, ey, bc, b7, c7, bS, cS⟩
      · have va9 : va = iI 9 := by
          rcases wa with ⟨i, -, i2, -⟩ | ⟨-, i2⟩
          · omega
          · exact i2
        have vb9 : vb = iI 9 := by
          rcases wb with ⟨i, -, i2, -⟩ | ⟨-, i2⟩
          · omega
          · exact i2
        rw [va9, vb9]
        unfold wg_b
        rw [ex, ey]
        constructor
        · intro q; exact absurd q (by decide)
        · intro q; exact absurd q (by simp)
      · obtain ⟨i, i1, i2⟩ := ro_get_mem.1 (hS b b7 bS)
        obtain ⟨j, j1, j2⟩ := ro_get_mem.1 (hS c c7 cS)
        have via : va = iI (i : Int) := by
          rcases wa with ⟨i', x1, x2, x3⟩ | ⟨x1, -⟩
          · have := ro_get_inj hn x1 i1 (show l.getD i' 0 = l.getD i 0 by omega)
            rw [x3, this]
          · exact absurd (show (l.getD i 0 : Int) = x by omega) (x1 i i1)
        have vjb : vb = iI (j : Int) := by
          rcases wb with ⟨i', x1, x2, x3⟩ | ⟨x1, -⟩
          · have := ro_get_inj hn x1 j1 (show l.getD i' 0 = l.getD j 0 by omega)
            rw [x3, this]
          · exact absurd (show (l.getD j 0 : Int) = y by omega) (x1 j j1)
        rw [via, vjb, iI_lt (by omega) (by omega) (by omega) (by omega)]
        unfold wg_b
        rw [ex, ey, Int.toNat_natCast, Int.toNat_natCast, Bool.and_eq_true, decide_eq_true_iff, ro_bf_at hn i1 j1 i2 j2]
        omega
    have fin : ∀ d : Int, d = (if wg_b x y l = true then 1 else 0) → Wp (some ((), sS (sS g 7527 (sG g 7527 + iI d)) 7522 (sG g 7522 + iI 1))) (fun _ h' => AcC h' (al_r a) S l.length w x y (Ls ++ [l])) := fun d hd => by
      refine wp_s ⟨?_, ?_, fun p hp => ?_, fun p hp hs hL => ?_, fun w0 w1 k hk => ?_⟩
      · rw [sG_sS_s, sk, iI_add, List.length_append]
        exact iI_cg (by rw [List.length_singleton]; omega)
      · rw [sG_sS_n (by decide), sG_sS_s, tk, iI_add, fsn, hd]
        apply iI_cg
        by_cases c : wg_b x y l = true
        · rw [if_pos c, if_pos c]; omega
        · rw [if_neg c, if_neg c]; omega
      · obtain ⟨n, n1, n2, n3⟩ := o1 p hp
        refine ⟨n, ?_, n2, fun s => ?_⟩
        · show g.2.2.1 134 p = _
          rw [show g.2.2.1 = h1.2.2.1 from funext (fun v => congrFun g2 v)]
          exact n1
        · rw [n3 s, (hlf p hp).2 s]
          constructor
          · rintro (⟨l', m1, m2⟩ | m)
            · exact ⟨l', List.mem_append_left _ m1, m2⟩
            · exact ⟨l, by simp, m⟩
          · rintro ⟨l', m1, m2⟩
            rcases List.mem_append.1 m1 with m1 | m1
            · exact Or.inl ⟨l', m1, m2⟩
            · rw [List.mem_singleton] at m1
              subst m1
              exact Or.inr m2
      · obtain ⟨k, k1, k2⟩ := ro_get_mem.1 (hS p hp hs)
        have z1 : aG (sS (sS g 7527 (sG g 7527 + iI d)) 7522 (sG g 7522 + iI 1)) 135 p = aG h1 135 p := congrFun (g1 135 (by decide)) p
        have z2 : aG (sS (sS g 7527 (sG g 7527 + iI d)) 7522 (sG g 7522 + iI 1)) 136 p = aG h1 136 p := congrFun (g1 136 (by decide)) p
        have oo := o2 k k1
        rw [k2] at oo
        have only : ∀ k', k' < l.length → l.getD k' 0 = p → k' = k := fun k' h1 h2 => ro_get_inj hn h1 k1 (h2.trans k2.symm)
        by_cases L0 : Ls = []
        · subst L0
          refine ⟨k, k, by omega, by omega, ?_, ?_, ⟨l, by simp, k1, k2⟩, ⟨l, by simp, k1, k2⟩, fun l' hl' k' h1 h2 => ?_⟩
          · rw [z1, oo.1]; exact if_pos (Or.inl rfl)
          · rw [z2, oo.2]; exact if_pos (Or.inl rfl)
          · have : l' = l := by simpa using hl'
            subst this
            have := only k' h1 h2
            omega
        · have Lp : Ls.length ≠ 0 := fun z => L0 (List.eq_nil_of_length_eq_zero z)
          obtain ⟨u, v, u1, u2, u3, u4, ⟨lu, u5, u6⟩, ⟨lv, v5, v6⟩, u7⟩ := a4 p hp hs L0
          refine ⟨min k u, max k v, by omega, by omega, ?_, ?_, ?_, ?_, fun l' hl' k' h1 h2 => ?_⟩
          · have lt := iI_lt (a := (k : Int)) (b := (u : Int)) (by omega) (by omega) (by omega) (by omega)
            rw [z1, oo.1, u3]
            by_cases c : k < u
            · rw [if_pos (Or.inr (by rw [lt]; omega))]; exact iI_cg (by omega)
            · rw [if_neg (fun q => q.elim Lp (fun q => c (by rw [lt] at q; omega)))]; exact iI_cg (by omega)
          · have lt := iI_lt (a := (v : Int)) (b := (k : Int)) (by omega) (by omega) (by omega) (by omega)
            rw [z2, oo.2, u4]
            by_cases c : v < k
            · rw [if_pos (Or.inr (by rw [lt]; omega))]; exact iI_cg (by omega)
            · rw [if_neg (fun q => q.elim Lp (fun q => c (by rw [lt] at q; omega)))]; exact iI_cg (by omega)
          · by_cases c : k < u
            · rw [Nat.min_eq_left (by omega)]; exact ⟨l, by simp, k1, k2⟩
            · rw [Nat.min_eq_right (by omega)]; exact ⟨lu, List.mem_append_left _ u5, u6⟩
          · by_cases c : v < k
            · rw [Nat.max_eq_left (by omega)]; exact ⟨l, by simp, k1, k2⟩
            · rw [Nat.max_eq_right (by omega)]; exact ⟨lv, List.mem_append_left _ v5, v6⟩
          · rcases List.mem_append.1 hl' with m1 | m1
            · have := u7 l' m1 k' h1 h2
              omega
            · rw [List.mem_singleton] at m1
              subst m1
              have := only k' h1 h2
              omega
      · have z1 : aG (sS (sS g 7527 (sG g 7527 + iI d)) 7522 (sG g 7522 + iI 1)) 137 k = aG g 137 k := rfl
        rw [List.length_append, List.length_singleton] at w1
        rw [z1, g4 k hk, getD_snocL]
        by_cases c : (Ls.length : Int) = w
        · rw [if_pos ⟨hk, c⟩, if_neg (by omega), if_pos (by omega)]
        · rw [if_neg (fun q => c q.2), if_pos (by omega), f.ag (by decide)]
          exact a5 w0 (by omega) k hk
    simp only [ord]
    by_cases c : wg_b x y l = true
    · rw [if_pos c]
      exact fin 1 (if_pos c).symm
    · rw [if_neg c]
      exact fin 0 (if_neg c).symm
