-- ===== the class's reader: the whole text; fault =====
def rd_go (T : List Nat) : Nat → Nat → Nat → Alb → Int × Nat × Alb
  | 0, d, p, a => ((tk_s T p : Int), d, a)
  | k + 1, d, p, a => if (rd_clause T p a).1 then (if tk_at T (tk_s T (rd_clause T p a).2.1) = 0 then (-1, d + 1, (rd_clause T p a).2.2) else if (tk_at T (tk_s T (rd_clause T p a).2.1) = 3 ∧ T.getD (tk_s T (rd_clause T p a).2.1) 0 = 59) ∧ k ≠ 0 then rd_go T k (d + 1) (nx T (rd_clause T p a).2.1) (rd_clause T p a).2.2 else ((tk_s T (rd_clause T p a).2.1 : Int), d + 1, (rd_clause T p a).2.2)) else ((tk_s T (rd_clause T p a).2.1 : Int), d, (rd_clause T p a).2.2)
theorem c_rdAll {h : Hp} {T : List Nat} (tb : TB T) (t0 : TxC h T) {a : Alb} (q : AlC 3 h a) : ∃ h', F_X6_read 3 h = some (iI (rd_go T 24 0 0 a).1, h') ∧ ((rd_go T 24 0 0 a).1 = -1 → AlC 13 h' (rd_go T 24 0 0 a).2.2 ∧ sG h' 769 = iI (rd_go T 24 0 0 a).2.1) := by
  unfold F_X6_read
  obtain ⟨h1, e1, q1⟩ := c_acopy (t := 13) q (Or.inl (by omega))
  have f1 := fr_X0_copyFrom _ _ _ _ _ e1
  rw [e1, bd_e, jl_e, jl_e]
  have f2 : FrX [769, 773] [] h1 (sS (sS h1 769 0) 773 0) := ((FrX.refl _ _ h1).sS (by decide) _).sS (by decide) _
  have t2 : TxC (sS (sS h1 769 0) 773 0) T := (t0.fr f1 (by decide) (by decide)).fr f2 (by decide) (by decide)
  obtain ⟨h3, e3, k3⟩ := c_step t2 tb.1 tb.2 (p := 0) (Nat.zero_le _) (sG_sS_s ..)
  have f3 := fr_X6_step _ _ _ e3
  rw [e3, bd_e]
  have r3 : RdC h3 T 0 a := ⟨t2.fr f3 (by decide) (by decide), k3, (q1.fr f2 (by decide) (by simp)).fr f3 (by decide) (by simp), Nat.zero_le _⟩
  have n3 : sG h3 769 = iI (0 : Nat) := (f3.sg (by decide)).trans rfl
  refine lp_up (α := Int32 → Hp → Option (Int32 × Hp)) (P := fun i c8 => ∀ (v : Int32) (h1 : Hp) (p : Nat) (a : Alb), v = iI i → RdC h1 T p a → sG h1 769 = iI i → ∃ h', c8 v h1 = some (iI (rd_go T (24 - i) i p a).1, h') ∧ ((rd_go T (24 - i) i p a).1 = -1 → AlC 13 h' (rd_go T (24 - i) i p a).2.2 ∧ sG h' 769 = iI (rd_go T (24 - i) i p a).2.1)) 24 (by omega) (fun i c8 hi ih => ?_) _ _ 0 a rfl r3 n3
  intro v h5 p b hv r n
  subst hv
  by_cases c : i < 24
  · obtain ⟨k, ek⟩ : ∃ k, 24 - i = k + 1 := ⟨23 - i, by omega⟩
    rw [if_pos (by show _ < iI 24; rw [iI_lt (by omega) (by omega) (by omega) (by omega)]; omega), ek]
    obtain ⟨h6, e6, r6⟩ := c_rdClause tb r
    have f6 := fr_X6_readClause _ _ _ e6
    have n6 : sG h6 769 = iI i := (f6.sg (by decide)).trans n
    have st := tk_s_le r6.2.2.2
    have hl := tb.1
    have g2 : sG h6 772 = iI (tk_s T (rd_clause T p b).2.1) := r6.2.1.2.1
    rw [e6, bd_e]
    unfold rd_go
    by_cases c1 : (rd_clause T p b).1 = true
    · rw [if_neg (by rw [bI_zero]; exact fun z => z c1), if_pos c1, jl_e, n6]
      have ni : iI (i : Int) + (1 : Int32) = iI ((i + 1 : Nat) : Int) := by
        show _ + iI 1 = _
        rw [iI_add]
        exact iI_cg (by omega)
      rw [ni]
      have f7 : FrX [769] [] h6 (sS h6 769 (iI ((i + 1 : Nat) : Int))) := (FrX.refl _ _ h6).sS (by decide) _
      have r7 : RdC (sS h6 769 (iI ((i + 1 : Nat) : Int))) T (rd_clause T p b).2.1 (rd_clause T p b).2.2 := ⟨r6.1.fr f7 (by decide) (by simp), r6.2.1.fr f7 (by decide) (by decide) (by decide), r6.2.2.1.fr f7 (by decide) (by simp), r6.2.2.2⟩
      have n7 : sG (sS h6 769 (iI ((i + 1 : Nat) : Int))) 769 = iI ((i + 1 : Nat) : Int) := sG_sS_s ..
      generalize sS h6 769 (iI ((i + 1 : Nat) : Int)) = h7 at r7 n7 ⊢
      have m1 := r7.2.1.1
      have m2 := r7.2.1.2.1
      have hK := tk_at_le T (tk_s T (rd_clause T p b).2.1)
      have neg : ∀ x : Nat, ((x : Int) = -1) → False := fun x z => by omega
      rw [m1]
      by_cases c2 : tk_at T (tk_s T (rd_clause T p b).2.1) = 0
      · rw [if_pos (by rw [c2]; rfl), if_pos c2]
        exact ⟨h7, rfl, fun _ => ⟨r7.2.2.1, n7⟩⟩
      · rw [if_neg (by show ¬ _ = iI 0; rw [iI_eq (by omega) (by omega) (by omega) (by omega)]; omega), if_neg c2, jn_e, m2]
        by_cases c3 : tk_at T (tk_s T (rd_clause T p b).2.1) = 3
        · have lt : tk_s T (rd_clause T p b).2.1 < T.length := Decidable.byContradiction (fun w => c2 (if_neg w))
          have hb := tb.2 _ lt
          rw [if_pos (by rw [c3]; rfl), c_letterAt r7.1 hl lt, bd_e]
          by_cases c4 : T.getD (tk_s T (rd_clause T p b).2.1) 0 = 59
          · rw [if_pos (by rw [c4]; rfl), jn_e, n7]
            by_cases c5 : k ≠ 0
            · obtain ⟨h8, e8, r8⟩ := c_stepR tb r7
              have f8 := fr_X6_step _ _ _ e8
              rw [if_pos (by show _ < iI 24; rw [iI_lt (by omega) (by omega) (by omega) (by omega)]; omega), e8, bd_e, if_pos ⟨⟨c3, c4⟩, c5⟩]
              have := ih c (iI ((i + 1 : Nat) : Int)) h8 _ _ rfl r8 ((f8.sg (by decide)).trans n7)
              rw [show 24 - (i + 1) = k by omega] at this
              exact this
            · rw [if_neg (by show ¬ _ < iI 24; rw [iI_lt (by omega) (by omega) (by omega) (by omega)]; omega), if_neg (fun z => c5 z.2)]
              obtain ⟨h9, e9, x9⟩ := ih c (iI ((i + 1 : Nat) : Int)) h7 _ _ rfl r7 n7
              rw [show 24 - (i + 1) = 0 by omega] at e9 x9
              exact ⟨h9, e9, fun z => (neg _ z).elim⟩
          · rw [if_neg (by show ¬ _ = iI 59; rw [iI_eq (by omega) (by omega) (by omega) (by omega)]; omega), if_neg (fun z => c4 z.1.2)]
            refine ⟨h7, ?_, fun z => (neg _ z).elim⟩
            show some (sG h7 772, h7) = _
            rw [m2]
        · rw [if_neg (by show ¬ _ = iI 3; rw [iI_eq (by omega) (by omega) (by omega) (by omega)]; omega), if_neg (fun z => c3 z.1.1)]
          refine ⟨h7, ?_, fun z => (neg _ z).elim⟩
          show some (sG h7 772, h7) = _
          rw [m2]
    · rw [if_pos (by rw [bI_zero]; exact c1), if_neg c1, g2]
      exact ⟨h6, rfl, fun z => by have z : ((tk_s T (rd_clause T p b).2.1 : Nat) : Int) = -1 := z; omega⟩
  · rw [if_neg (by show ¬ _ < iI 24; rw [iI_lt (by omega) (by omega) (by omega) (by omega)]; omega), show 24 - i = 0 by omega]
    unfold rd_go
    rw [r.2.1.2.1]
    exact ⟨h5, rfl, fun z => by have z : ((tk_s T p : Nat) : Int) = -1 := z; omega⟩
def rd_R (s : Sta) : Int × Nat × Alb := rd_go (st_t s) 24 0 0 (st_a s)
theorem JC.rd {h h' : Hp} {s : Sta} {S A : List Nat} (q : JC h s) (f : FrX S A h h') (n0 : ∀ v, v ∈ S → 769 ≤ v ∧ v < 1408) (n1 : ∀ k, k ∈ A → 12 ≤ k ∧ k < 25) : JC h' s := by
  obtain ⟨q0, q1, q2, q3, q4, q5, q6⟩ := q
  refine ⟨q0, ?_, ?_, ?_, ?_, ⟨fun i hi => ?_, fun i a hi ha hb => ?_, ?_⟩, ?_⟩
  · exact q1.fr f (fun z => by have := n0 _ z; omega) (fun z => by have := n1 _ z; omega)
  · exact q2.fr f (fun v z => by have := n0 _ z; omega) (fun k z => by have := n1 _ z; omega)
  · exact q3.fr f (fun v z => by have := n0 _ z; omega) (fun k z => by have := n1 _ z; omega)
  · exact q4.fr f (fun v z => by have := n0 _ z; omega) (fun k z => by have := n1 _ z; omega)
  · exact (f.ag (fun z => by have := n1 _ z; omega) i).trans (q5.1 i hi)
  · exact (f.lg (fun z => by have := n1 _ z; omega) _).trans (q5.2.1 i a hi ha hb)
  · exact (f.tg (fun z => by have := n0 _ z; omega)).trans q5.2.2
  · exact q6.fr f (fun v z => by have := n0 _ z; omega) (fun k z => by have := n1 _ z; omega)
theorem C_fault {h : Hp} {s : Sta} (q : JC h s) : ∃ h', F_X11_fault h = some (iI (rd_R s).1, h') ∧ JC h' s := by
  obtain ⟨h', e, -⟩ := c_rdAll q.1.1 q.2.1 q.2.2.1
  have f := fr_X6_read _ _ _ _ e
  unfold F_X11_fault
  rw [e, bd_e]
  exact ⟨h', rfl, q.rd f (by decide) (by decide)⟩
