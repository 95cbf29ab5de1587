-- ===== the tokens of a text, and the class's step =====
theorem tw_len {f : Nat → Bool} : ∀ (l : List Nat) (k : Nat), k ≤ l.length → (∀ i, i < k → f (l.getD i 0) = true) → (k < l.length → f (l.getD k 0) = false) → (l.takeWhile f).length = k
  | [], k, hk, _, _ => by
    have : k = 0 := Nat.le_zero.1 hk
    subst this
    rfl
  | a :: l, 0, _, _, h2 => by
    have : f a = false := h2 (Nat.succ_pos _)
    rw [List.takeWhile_cons_of_neg (by rw [this]; exact Bool.false_ne_true)]
    rfl
  | a :: l, k + 1, hk, h1, h2 => by
    have : f a = true := h1 0 (Nat.succ_pos _)
    rw [List.takeWhile_cons_of_pos this, List.length_cons, tw_len l k (Nat.le_of_succ_le_succ hk) (fun i hi => h1 (i + 1) (Nat.succ_lt_succ hi)) (fun hk2 => h2 (Nat.succ_lt_succ hk2))]
theorem drop_getD (T : List Nat) (p i : Nat) : (T.drop p).getD i 0 = T.getD (p + i) 0 := by
  rw [List.getD_eq_getElem?_getD, List.getD_eq_getElem?_getD, List.getElem?_drop]
/-- the kind of the letter at a place; 0 past the end -/
def tk_at (T : List Nat) (i : Nat) : Nat := if i < T.length then tk_k (T.getD i 0) else 0
def tk_s (T : List Nat) (p : Nat) : Nat := p + ((T.drop p).takeWhile (fun c => c == 32)).length
def tk_e (T : List Nat) (s : Nat) : Nat := if tk_at T s = 0 then s else if tk_at T s = 3 then s + 1 else s + 1 + ((T.drop (s + 1)).takeWhile (fun c => tk_k c == tk_at T s)).length
theorem tk_at_le (T : List Nat) (i : Nat) : tk_at T i ≤ 3 := by
  unfold tk_at tk_k
  repeat' split
  all_goals omega
theorem tw_le (f : Nat → Bool) : ∀ l : List Nat, (l.takeWhile f).length ≤ l.length
  | [] => Nat.le_refl _
  | a :: l => by
    by_cases c : f a = true
    · rw [List.takeWhile_cons_of_pos c, List.length_cons, List.length_cons]
      exact Nat.succ_le_succ (tw_le f l)
    · rw [List.takeWhile_cons_of_neg c]
      exact Nat.zero_le _
theorem tk_s_le {T : List Nat} {p : Nat} (hp : p ≤ T.length) : p ≤ tk_s T p ∧ tk_s T p ≤ T.length := by
  have := tw_le (fun c => c == 32) (T.drop p)
  rw [List.length_drop] at this
  unfold tk_s
  omega
theorem tk_e_le {T : List Nat} {s : Nat} (hs : s ≤ T.length) : s ≤ tk_e T s ∧ tk_e T s ≤ T.length := by
  have h := tw_le (fun c => tk_k c == tk_at T s) (T.drop (s + 1))
  rw [List.length_drop] at h
  have h2 : tk_at T s ≠ 0 → s < T.length := fun z => Decidable.byContradiction (fun w => z (if_neg w))
  unfold tk_e
  by_cases c : tk_at T s = 0
  · rw [if_pos c]; omega
  · have := h2 c
    rw [if_neg c]
    split <;> omega
theorem c_letterNo {h : Hp} {T : List Nat} (q : TxC h T) (hl : T.length ≤ 200) {k : Nat} (hk : T.length ≤ k) (hk2 : k < 1000) : F_X10_letterAt (iI k) h = some (iI (-1), h) := by
  have e0 : sG h 64 = iI T.length := q.1
  unfold F_X10_letterAt
  simp (maxSteps := 3000000) (implicitDefEqProofs := false) (disch := omega) only [jl_e, jn_e, bd_e, gd_t, iI_add, iI_sub, iI_mul, iI_neg, if_true, if_false, not_true_eq_false, not_false_eq_true, Int.reduceEq, Nat.add_zero, Int.toNat_natCast, iI_cl, iI_lt, iI_eq, gd_in, bI_eq0, bI_eq1, bI_isB, isB_0, isB_1, il_0, il_1, il_2, il_3, il_4, il_5, il_6, il_7, il_8, il_9, il_10, il_12, il_16, il_18, il_24, il_27, il_30, il_31, il_32, il_40, il_47, il_48, il_49, il_55, il_56, il_57, il_59, il_63, il_64, il_96, il_97, il_98, il_99, il_101, il_103, il_104, il_105, il_108, il_109, il_110, il_111, il_112, il_114, il_115, il_116, il_117, il_119, il_122, il_127, il_128, il_200, il_225, il_255, il_256, il_999, il_1575, il_9999, il_65536, il_252645135, il_858993459, il_1431655765, e0]
  rw [if_neg (by omega), if_neg (by omega)]
theorem c_kindNone (h : Hp) : F_X10_kindOf (iI (-1)) h = some (iI 0, h) := rfl
theorem c_kindAt {ρ : Type} {h : Hp} {T : List Nat} (q : TxC h T) (hl : T.length ≤ 200) (hb : ∀ i, i < T.length → T.getD i 0 ≤ 255) {k : Nat} (hk : k < 1000) (f : Int32 → Hp → Option ρ) : bd (F_X10_letterAt (iI k) h) (fun r h8 => bd (F_X10_kindOf r h8) f) = f (iI (tk_at T k)) h := by
  unfold tk_at
  by_cases c : k < T.length
  · rw [c_letterAt q hl c, bd_e, c_letterKind (hb k c), bd_e, if_pos c]
  · rw [c_letterNo q hl (by omega) hk, bd_e, c_kindNone, bd_e, if_neg c]
    rfl
def TkC (h : Hp) (T : List Nat) (p : Nat) : Prop := sG h 771 = iI (tk_at T (tk_s T p)) ∧ sG h 772 = iI (tk_s T p) ∧ sG h 773 = iI (tk_e T (tk_s T p))
theorem c_step {h : Hp} {T : List Nat} (q : TxC h T) (hl : T.length ≤ 200) (hb : ∀ i, i < T.length → T.getD i 0 ≤ 255) {p : Nat} (hp : p ≤ T.length) (e3 : sG h 773 = iI p) : ∃ h', F_X6_step h = some ((), h') ∧ TkC h' T p := by
  unfold F_X6_step
  rw [e3, jl_e]
  refine lp_up (α := Int32 → Hp → Option (Unit × Hp)) (P := fun k c8 => ∀ (v : Int32) (h1 : Hp), v = iI k → FrX [771, 772, 773] [] h h1 → sG h1 772 = iI (p + k : Nat) → p + k ≤ T.length → (∀ i, i < k → T.getD (p + i) 0 = 32) → ∃ h', c8 v h1 = some ((), h') ∧ TkC h' T p) 200 (by omega) (fun k c8 hk ih => ?_) _ _ rfl ((FrX.refl _ _ h).sS (by decide) _) ?_ (by omega) (fun i hi => absurd hi (Nat.not_lt_zero i))
  · intro v h1 hv f i1 i2 i3
    subst hv
    have q1 : TxC h1 T := q.fr f (by decide) (by decide)
    have tail : (p + k < T.length → T.getD (p + k) 0 ≠ 32) → ∃ h', (bd (F_X10_letterAt (sG h1 772) h1) (fun r7 h8 => bd (F_X10_kindOf r7 h8) (fun r9 h10 => jl (sS h10 771 r9) (fun h11 => jn (fun (s12 : Int32) (h13 : Hp) =>
  jl (sS h13 773 s12) (fun h15 => jn (fun (h16 : Hp) =>
  (lp 4000000000 (fun (c20 : Int32 → Hp → Option (Unit × Hp)) (v18 : Int32) (h19 : Hp) =>
  jn (fun (h21 : Hp) =>
  some ((), h21)) (fun j22 => if v18 < (200 : Int32) then (
  bd (F_X10_letterAt (sG h19 773) h19) (fun r23 h24 => bd (F_X10_kindOf r23 h24) (fun r25 h26 => if r25 = (sG h26 771) then (
  jl (sS h26 773 ((sG h26 773) + (1 : Int32))) (fun h27 => c20 (v18 + (1 : Int32)) h27)) else (
  j22 h26)))) else (
  j22 h19))) (fun _ _ => none)) (0 : Int32) h16) (fun j17 => if (sG h15 771) = (1 : Int32) then (
  j17 h15) else (
  if (sG h15 771) = (2 : Int32) then (
  j17 h15) else (
  some ((), h15)))))) (fun j14 => if (sG h11 771) = 0 then (
  j14 (sG h11 772) h11) else (
  j14 ((sG h11 772) + (1 : Int32)) h11)))))) = some ((), h') ∧ TkC h' T p := by
      intro hno
      have es : tk_s T p = p + k := by
        unfold tk_s
        rw [tw_len (T.drop p) k (by rw [List.length_drop]; omega) (fun i hi => by rw [drop_getD, i3 i hi]; rfl) (fun hi => by rw [List.length_drop] at hi; rw [drop_getD]; have := hno (by omega); simpa using this)]
      unfold TkC
      rw [i1, c_kindAt q1 hl hb (by omega), jl_e, jn_e, es]
      have hle := tk_at_le T (p + k)
      have k0 : sG (sS h1 771 (iI (tk_at T (p + k)))) 771 = iI (tk_at T (p + k)) := sG_sS_s ..
      have k1 : sG (sS h1 771 (iI (tk_at T (p + k)))) 772 = iI (p + k : Nat) := (sG_sS_n (show (772 : Nat) ≠ 771 by decide) _ _).trans i1
      have q2 : TxC (sS h1 771 (iI (tk_at T (p + k)))) T := q1.fr ((FrX.refl [771] [] h1).sS (by decide) _) (by decide) (by decide)
      have hlt : tk_at T (p + k) ≠ 0 → p + k < T.length := fun z => Decidable.byContradiction (fun w => z (if_neg w))
      generalize hK : tk_at T (p + k) = K at k0 k1 q2 hlt hle ⊢
      generalize sS h1 771 (iI K) = h2 at k0 k1 q2 ⊢
      have one : iI ((p + k : Nat) : Int) + 1 = iI ((p + k + 1 : Nat) : Int) := by
        show iI ((p + k : Nat) : Int) + iI 1 = _
        rw [iI_add]
        exact iI_cg (by omega)
      have te : tk_e T (p + k) = if K = 0 then p + k else if K = 3 then p + k + 1 else p + k + 1 + ((T.drop (p + k + 1)).takeWhile (fun c => tk_k c == K)).length := by
        unfold tk_e
        rw [hK]
      have m0 : ∀ x, sG (sS h2 773 x) 771 = iI K := fun x => (sG_sS_n (show (771 : Nat) ≠ 773 by decide) _ _).trans k0
      have m1 : ∀ x, sG (sS h2 773 x) 772 = iI (p + k : Nat) := fun x => (sG_sS_n (show (772 : Nat) ≠ 773 by decide) _ _).trans k1
      have kk : ∀ n : Nat, n ≤ 3 → (iI (K : Int) = iI (n : Int)) = (K = n) := fun n hn => by
        rw [iI_eq (by omega) (by omega) (by omega) (by omega)]
        exact propext ⟨fun z => by omega, fun z => by omega⟩
      have kk0 : (iI (K : Int) = 0) = (K = 0) := kk 0 (by omega)
      have kk1 : (iI (K : Int) = 1) = (K = 1) := kk 1 (by omega)
      have kk2 : (iI (K : Int) = 2) = (K = 2) := kk 2 (by omega)
      rw [te, k0, k1]
      by_cases a0 : K = 0
      · rw [if_pos (by rw [kk0]; exact a0), if_pos a0]
        dsimp only
        rw [jl_e, jn_e, m0, if_neg (by rw [kk1]; omega), if_neg (by rw [kk2]; omega)]
        exact ⟨_, rfl, m0 _, m1 _, sG_sS_s ..⟩
      rw [if_neg (by rw [kk0]; exact a0), if_neg a0, one]
      dsimp only
      rw [jl_e, jn_e, m0]
      by_cases a3 : K = 3
      · rw [if_neg (by rw [kk1]; omega), if_neg (by rw [kk2]; omega), if_pos a3]
        exact ⟨_, rfl, m0 _, m1 _, sG_sS_s ..⟩
      rw [if_neg a3]
      have loop : ∃ h', (lp 4000000000 (fun (c20 : Int32 → Hp → Option (Unit × Hp)) (v18 : Int32) (h19 : Hp) =>
  jn (fun (h21 : Hp) =>
  some ((), h21)) (fun j22 => if v18 < (200 : Int32) then (
  bd (F_X10_letterAt (sG h19 773) h19) (fun r23 h24 => bd (F_X10_kindOf r23 h24) (fun r25 h26 => if r25 = (sG h26 771) then (
  jl (sS h26 773 ((sG h26 773) + (1 : Int32))) (fun h27 => c20 (v18 + (1 : Int32)) h27)) else (
  j22 h26)))) else (
  j22 h19))) (fun _ _ => none)) (0 : Int32) (sS h2 773 (iI ((p + k + 1 : Nat) : Int))) = some ((), h') ∧ sG h' 771 = iI K ∧ sG h' 772 = iI (p + k : Nat) ∧ sG h' 773 = iI (p + k + 1 + ((T.drop (p + k + 1)).takeWhile (fun c => tk_k c == K)).length : Nat) := by
        have hs := hlt a0
        refine lp_up (α := Int32 → Hp → Option (Unit × Hp)) (P := fun j c8 => ∀ (v : Int32) (h3 : Hp), v = iI j → FrX [773] [] h2 h3 → sG h3 773 = iI (p + k + 1 + j : Nat) → p + k + 1 + j ≤ T.length → (∀ i, i < j → tk_k (T.getD (p + k + 1 + i) 0) = K) → ∃ h', c8 v h3 = some ((), h') ∧ sG h' 771 = iI K ∧ sG h' 772 = iI (p + k : Nat) ∧ sG h' 773 = iI (p + k + 1 + ((T.drop (p + k + 1)).takeWhile (fun c => tk_k c == K)).length : Nat)) 200 (by omega) (fun j c8 hj ih2 => ?_) _ _ rfl ((FrX.refl _ _ h2).sS (by decide) _) (sG_sS_s ..) (by omega) (fun i hi => absurd hi (Nat.not_lt_zero i))
        intro v h3 hv g g1 g2 g3
        subst hv
        have q3 : TxC h3 T := q2.fr g (by decide) (by decide)
        have n0 : sG h3 771 = iI K := (g.sg (by decide)).trans k0
        have n1 : sG h3 772 = iI (p + k : Nat) := (g.sg (by decide)).trans k1
        have done : (p + k + 1 + j < T.length → tk_k (T.getD (p + k + 1 + j) 0) ≠ K) → sG h3 773 = iI (p + k + 1 + ((T.drop (p + k + 1)).takeWhile (fun c => tk_k c == K)).length : Nat) := by
          intro w
          rw [g1, tw_len (T.drop (p + k + 1)) j (by rw [List.length_drop]; omega) (fun i hi => by rw [drop_getD, g3 i hi]; exact beq_self_eq_true K) (fun hi => by rw [List.length_drop] at hi; rw [drop_getD]; have := w (by omega); simpa using this)]
        rw [jn_e, if_pos (by show iI (j : Int) < iI 200; rw [iI_lt (by omega) (by omega) (by omega) (by omega)]; omega), g1, c_kindAt q3 hl hb (by omega), n0]
        by_cases z : tk_at T (p + k + 1 + j) = K
        · have zl : p + k + 1 + j < T.length := Decidable.byContradiction (fun w => a0 (z.symm.trans (if_neg w)))
          have zk : tk_k (T.getD (p + k + 1 + j) 0) = K := by
            unfold tk_at at z
            rwa [if_pos zl] at z
          rw [if_pos (by rw [z]), jl_e, g1]
          refine ih2 (by omega) _ _ ?_ (g.sS (by decide) _) ?_ (by omega) (fun i hi => ?_)
          · show iI (j : Int) + iI 1 = _
            rw [iI_add]
            exact iI_cg (by omega)
          · rw [sG_sS_s]
            show iI ((p + k + 1 + j : Nat) : Int) + iI 1 = _
            rw [iI_add]
            exact iI_cg (by omega)
          · by_cases u : i < j
            · exact g3 i u
            · rw [show i = j by omega]; exact zk
        · have zn := tk_at_le T (p + k + 1 + j)
          rw [if_neg (by rw [iI_eq (by omega) (by omega) (by omega) (by omega)]; omega)]
          refine ⟨h3, rfl, n0, n1, done (fun w => ?_)⟩
          intro zz
          exact z (by unfold tk_at; rw [if_pos w]; exact zz)
      by_cases a1 : K = 1
      · rw [if_pos (by rw [kk1]; exact a1)]
        exact loop
      · rw [if_neg (by rw [kk1]; exact a1), if_pos (by rw [kk2]; omega)]
        exact loop
    rw [jn_e]
    by_cases c : k < 200
    · rw [if_pos (by show iI (k : Int) < iI 200; rw [iI_lt (by omega) (by omega) (by omega) (by omega)]; omega), i1]
      by_cases d : p + k < T.length
      · have hc := hb _ d
        rw [c_letterAt q1 hl d, bd_e]
        by_cases e : T.getD (p + k) 0 = 32
        · rw [if_pos (by rw [e]; rfl), jl_e, i1]
          have ev : iI ((p + k : Nat) : Int) + 1 = iI ((p + (k + 1) : Nat) : Int) := by
            show iI ((p + k : Nat) : Int) + iI 1 = _
            rw [iI_add]
            exact iI_cg (by omega)
          refine ih c _ _ ?_ (f.sS (by decide) _) ?_ (by omega) (fun i hi => ?_)
          · show iI (k : Int) + iI 1 = _
            rw [iI_add]
            exact iI_cg (by omega)
          · rw [sG_sS_s, ev]
          · by_cases u : i < k
            · exact i3 i u
            · rw [show i = k by omega]; exact e
        · rw [if_neg (by show ¬ iI (T.getD (p + k) 0 : Int) = iI 32; rw [iI_eq (by omega) (by omega) (by omega) (by omega)]; omega)]
          exact tail (fun _ => e)
      · rw [c_letterNo q1 hl (by omega) (by omega), bd_e, if_neg (by decide)]
        exact tail (fun z => absurd z d)
    · rw [if_neg (by show ¬ iI (k : Int) < iI 200; rw [iI_lt (by omega) (by omega) (by omega) (by omega)]; omega)]
      exact tail (fun z => by omega)
  · rw [sG_sS_s]
    rfl
