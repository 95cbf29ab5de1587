-- ===== the class's Hours: left and places =====
def mv_s (ρ : RD) (S : Nat) (mv : Nat → Nat) : Prop := (∀ A, mv A ≤ 49) ∧ (∀ A, mv A ≠ 0 → ∃ u, ro_pt ρ S A u ∧ u.foldl (fun m p => m ||| 2 ^ p) A = S ∧ ro_la ρ u = mv A)
def mv_c (ρ : RD) (S : Nat) (mv : Nat → Nat) (A : Nat) : Prop := ∀ u, ro_pt ρ S A u → u.foldl (fun m p => m ||| 2 ^ p) A = S → ro_la ρ u ≤ mv A
theorem bt_tab {ρ : RD} {S : Nat} {lv mv : Nat → Nat} (hS : S < 128) (I : cb_I ρ S S lv) (hs : mv_s ρ S mv) {A p s : Nat} (hA : A ≤ S) (hp : p < 7) (hc : mv_c ρ S mv (A ||| 2 ^ p)) (h48 : s < 48) : ro_bt ρ S A p s ↔ ro_nx ρ S.testBit A.testBit p = true ∧ ro_w ρ p s = true ∧ lv A ≤ s ∧ s + 2 ≤ mv (A ||| 2 ^ p) := by
  unfold ro_bt
  constructor
  · rintro ⟨h1, h2, h3, ⟨r, f, r1, r2, r3, r4⟩, ⟨u, u1, u2, u3⟩⟩
    refine ⟨h1, h3, ?_, ?_⟩
    · have := cb_full hS I r1 r3 (by omega)
      rw [r2] at this
      omega
    · have := hc u u1 u2
      omega
  · rintro ⟨h1, h3, h4, h5⟩
    obtain ⟨r, r1, r2, r3⟩ := I.2.2.1 A (by omega)
    obtain ⟨u, u1, u2, u3⟩ := hs.2 (A ||| 2 ^ p) (by omega)
    exact ⟨h1, hp, h3, ⟨r, lv A, r1, r2, r3, h4⟩, ⟨u, u1, u2, by omega⟩⟩
def HoC (t : Nat) (h : Hp) (a : RA) : Prop := ∃ lf pl : Nat → Nat, ∀ p, p < 7 → lG h (t + 3) p = lN (lf p) ∧ lf p < 281474976710656 ∧ (∀ s, s < 48 → ((lf p).testBit s = true ↔ ro_lf (a.2) (al_S a) p s)) ∧ aG h (t + 4) p = iI (pl p) ∧ pl p < 128 ∧ (∀ k, k < 7 → ((pl p).testBit k = true ↔ ro_pl (a.2) (al_S a) p k))
theorem c_hseek {t b : Nat} {h : Hp} {a : RA} (hr : ro_ok a.2) (q : RuR b h a) (hnp : a.1 ≤ 7) (hd : b + 6 < t ∨ t + 4 < b) : ∃ h', F_X3_seek t b h = some ((), h') ∧ sG h' (64 * t) = iI 1 ∧ HoC t h' a := by
  have hS := al_S_lt hnp
  obtain ⟨S, eS⟩ : ∃ S, al_S a = S := ⟨_, rfl⟩
  obtain ⟨ρ, eρ⟩ : ∃ ρ, a.2 = ρ := ⟨_, rfl⟩
  have hρ : ro_ok ρ := by rw [← eρ]; exact hr
  have ew : ∀ p, ro_w ρ p = ro_w a.2 p := fun p => by rw [← eρ]
  have eS2 : ((2 ^ a.1 - 1 : Nat) : Int) = ((S : Nat) : Int) := by rw [← eS]; rfl
  have h0 : ro_ct 0 = 0 := by decide +kernel
  unfold F_X3_seek HoC
  rw [c_everyone q hnp, bd_e, j_fillL _ _ _ _ (by omega), bd_e, j_fill _ _ _ _ (by omega), bd_e, jl_e, eS2, eρ, eS]
  obtain ⟨h5, e5⟩ : ∃ h5, sS (aV (lV h (t + 3) (fun i => if i < 7 then (0 : Int64) else lG h (t + 3) i)) (t + 4) (fun i => if i < 7 then (0 : Int32) else aG (lV h (t + 3) (fun i => if i < 7 then (0 : Int64) else lG h (t + 3) i)) (t + 4) i)) (64 * t + 0) (1 : Int32) = h5 := ⟨_, rfl⟩
  have f5 : FrX [64 * t] [t + 1, t + 2, t + 3, t + 4] h h5 := by
    rw [← e5]
    exact (((FrX.refl _ _ h).lV (by simp) _).aV (by simp) _).sS (by simp) _
  have l5 : ∀ p, p < 7 → lG h5 (t + 3) p = lN 0 ∧ aG h5 (t + 4) p = iI (0 : Nat) := by
    intro p hp
    rw [← e5]
    simp (maxSteps := 3000000) (implicitDefEqProofs := false) (disch := omega) only [jl_e, jn_e, bd_e, gd_t, iI_add, iI_sub, iI_mul, iI_neg, if_true, if_false, not_true_eq_false, not_false_eq_true, Int.reduceEq, Nat.add_zero, Int.toNat_natCast, iI_cl, iI_lt, iI_eq, gd_in, bI_eq0, bI_eq1, bI_isB, isB_0, isB_1, il_0, il_1, il_2, il_3, il_4, il_5, il_6, il_7, il_8, il_9, il_10, il_12, il_16, il_18, il_24, il_27, il_30, il_31, il_32, il_40, il_47, il_48, il_49, il_55, il_56, il_57, il_59, il_63, il_64, il_96, il_97, il_98, il_99, il_101, il_103, il_104, il_105, il_108, il_109, il_110, il_111, il_112, il_114, il_115, il_116, il_117, il_119, il_122, il_127, il_128, il_200, il_225, il_255, il_256, il_999, il_1575, il_9999, il_65536, il_252645135, il_858993459, il_1431655765, aG_aS_s, aG_aS_j, aG_aS_k, aG_aV_s, aG_aV_k, aG_sS, aG_lS, aG_lV, aG_tS, aG_oS, sG_aS, sG_lS, sG_aV, sG_lV, sG_tS, sG_oS, sG_sS_s, sG_sS_n, lG_lS_s, lG_lS_j, lG_lS_k, lG_lV_s, lG_lV_k, lG_sS, lG_aS, lG_aV, lG_tS, lG_oS, tG_sS, tG_aS, tG_aV, tG_lS, tG_lV, tG_tS_s, tG_tS_n, oG_sS, oG_aS, oG_aV, oG_lS, oG_lV, oG_oS_s]
    rw [if_pos hp, if_pos hp]
    exact ⟨rfl, rfl⟩
  have k5 : sG h5 (64 * t) = iI 1 := by
    rw [← e5]
    exact sG_sS_s _ (64 * t) _
  rw [e5]
  have q5 : RuR b h5 a := q.fr f5 (by simp; omega) (by simp; omega) (by simp; omega) (by simp; omega) (by simp; omega)
  obtain ⟨h7, lv, e7, I7, m7⟩ := c_canBe hr q5 hnp (t := t) (by omega) (S := S) (by rw [← eS]; exact al_S_sub (Nat.le_refl _))
  have f7 := fr_X3_canBe _ _ _ _ _ _ e7
  rw [eρ] at e7 I7
  rw [e7, bd_e]
  have g7 : FrX [64 * t] [t + 1, t + 2, t + 3, t + 4] h h7 := f5.sub f7 (by simp) (by simp)
  have l7 : ∀ p, p < 7 → lG h7 (t + 3) p = lN 0 ∧ aG h7 (t + 4) p = iI (0 : Nat) := fun p hp => by
    rw [f7.lg (by simp), f7.ag (by simp)]; exact l5 p hp
  have k7 : sG h7 (64 * t) = iI 1 := (f7.sg (by simp)).trans k5
  by_cases c : ro_rows ρ S ≠ []
  · have cI : ¬ bI (ro_rows ρ S ≠ []) = 0 := by rw [bI_t c]; decide
    rw [if_neg cI, j_fill _ _ _ _ (by omega), bd_e, jn_e]
    have hS2 : S < 128 := by rw [← eS]; exact hS
    have cL : iI (S : Int) < (128 : Int32) := by
      rw [il_128, iI_lt (by omega) (by omega) (by omega) (by omega)]; omega
    have cin : inb (iI (S : Int)) 128 = true := iI_inb (by omega) (by omega) (by omega)
    have ccl : (iI (S : Int)).toNatClampNeg = S := by rw [iI_cl (by omega) (by omega)]; rfl
    rw [if_pos cL, gd_e cin, jl_e, ccl]
    obtain ⟨h9, e9⟩ : ∃ h9, aS (aV h7 (t + 2) (fun i => if i < 128 then (-1 : Int32) else aG h7 (t + 2) i)) (t + 2) S (48 : Int32) = h9 := ⟨_, rfl⟩
    rw [e9]
    have f9 : FrX [] [t + 2] h7 h9 := by
      rw [← e9]
      exact ((FrX.refl _ _ h7).aV (by simp) _).aS (by simp) _ _
    have g9 : FrX [64 * t] [t + 1, t + 2, t + 3, t + 4] h h9 := g7.sub f9 (by simp) (by simp)
    have m9 : mv_ok t h9 (fun A => if A = S then 49 else 0) := by
      intro A hA
      rw [← e9]
      by_cases u : A = S
      · subst u
        rw [aG_aS_s]
        try dsimp only
        rw [if_pos rfl]
        rfl
      · rw [aG_aS_j u, aG_aV_s, if_pos hA]
        try dsimp only
        rw [if_neg u]
        rfl
    have s9 : mv_s ρ S (fun A => if A = S then 49 else 0) := by
      refine ⟨fun A => by dsimp only; split <;> omega, fun A hA => ?_⟩
      try dsimp only at hA
      by_cases u : A = S
      · subst u
        exact ⟨[], trivial, rfl, by simp [ro_la]⟩
      · rw [if_neg u] at hA
        exact absurd rfl hA
    have noS : ∀ u, ro_pt ρ S S u → u = [] := by
      intro u hu
      cases u with
      | nil => rfl
      | cons p u =>
        have := ro_nx_S hu.1
        rw [this.1] at this
        exact absurd this.2 (by simp)
    have c9 : mv_c ρ S (fun A => if A = S then 49 else 0) S := by
      intro u hu _
      rw [noS u hu]
      dsimp only
      rw [if_pos rfl]
      exact Nat.le_refl _
    have c9' : ∀ A, A ≤ S → S ≤ A + 0 → mv_c ρ S (fun A => if A = S then 49 else 0) A := by
      intro A h1 h2
      rw [show A = S by omega]
      exact c9
    have cmin := c_min (x := (S : Int)) (y := 128) (by omega) (by omega) h9
    rw [if_pos (by omega)] at cmin
    have cmin' : F_J9_min_7cf53 (iI S) (128 : Int32) h9 = some (iI S, h9) := cmin
    dsimp only
    rw [cmin', bd_e, jl_e]
    have e1 : iI (S : Int) - (1 : Int32) = iI ((S : Int) - 1) := by rw [il_1, iI_sub]
    rw [e1]
    refine lp_up (α := Int32 → Hp → Option (Unit × Hp)) (P := fun i cc => ∀ (v : Int32) (h1 : Hp) (mv lf pl : Nat → Nat), v = iI ((S : Int) - 1 - i) → FrX [64 * t] [t + 2, t + 3, t + 4] h9 h1 → sG h1 (64 * t) = iI 1 → mv_ok t h1 mv → mv_s ρ S mv → (∀ A, A ≤ S → S ≤ A + i → mv_c ρ S mv A) → (∀ p, p < 7 → lG h1 (t + 3) p = lN (lf p) ∧ lf p < 281474976710656 ∧ (∀ s, s < 48 → ((lf p).testBit s = true ↔ ∃ A, A < S ∧ S ≤ A + i ∧ ro_bt ρ S A p s)) ∧ aG h1 (t + 4) p = iI (pl p) ∧ pl p < 128 ∧ (∀ k, k < 7 → ((pl p).testBit k = true ↔ ∃ A s, A < S ∧ S ≤ A + i ∧ s < 48 ∧ ro_ct A = k ∧ ro_bt ρ S A p s))) → ∃ h', cc v h1 = some ((), h') ∧ sG h' (64 * t) = iI 1 ∧ ∃ lf pl : Nat → Nat, ∀ p, p < 7 → lG h' (t + 3) p = lN (lf p) ∧ lf p < 281474976710656 ∧ (∀ s, s < 48 → ((lf p).testBit s = true ↔ ro_lf ρ S p s)) ∧ aG h' (t + 4) p = iI (pl p) ∧ pl p < 128 ∧ (∀ k, k < 7 → ((pl p).testBit k = true ↔ ro_pl ρ S p k))) S (by omega) (fun i cc hi ih => ?_) _ h9 (fun A => if A = S then 49 else 0) (fun _ => 0) (fun _ => 0) (iI_cg (by omega)) (FrX.refl _ _ _) ((f9.sg (by simp)).trans k7) m9 s9 c9' (fun p hp => ?_)
    · intro v h1 mv lf pl hv j0 jk j1 j2 j3 j4
      subst hv
      have g1 : FrX [64 * t] [t + 1, t + 2, t + 3, t + 4] h h1 := g9.sub j0 (by simp) (by simp)
      have q1 : RuR b h1 a := q.fr g1 (by simp; omega) (by simp; omega) (by simp; omega) (by simp; omega) (by simp; omega)
      have lm1 : lm_ok t h1 lv := fun A hA => by rw [j0.ag (by simp), f9.ag (by simp)]; exact m7 A hA
      by_cases z : i < S
      · obtain ⟨A, eA⟩ : ∃ A, S - 1 - i = A := ⟨_, rfl⟩
        have eA2 : (S : Int) - 1 - i = (A : Int) := by omega
        have hA : A < S := by omega
        have hA128 : A < 128 := by omega
        have hAsub : A &&& S = A := by rw [← eS]; exact al_S_sub (by omega)
        have nxt := ih z
        rw [eA2]
        have hno := c_nextOnes q1 hnp (S := S) (A := A) hS2 hA128 (fun p hp => by
          rw [← eS, al_S_tb] at hp
          exact of_decide_eq_true hp)
        rw [eρ] at hno
        obtain ⟨n, en⟩ : ∃ n, bm (fun p => ro_nx ρ S.testBit A.testBit p) 7 = n := ⟨_, rfl⟩
        have hn : n < 128 := by rw [← en]; exact bm_7 _
        have hntb : ∀ p, p < 7 → n.testBit p = ro_nx ρ S.testBit A.testBit p := fun p hp => by rw [← en, bm_tb, decide_eq_true hp, Bool.true_and]
        rw [en] at hno
        have c1 : ¬ iI (A : Int) < (0 : Int32) := by
          rw [il_0, iI_lt (by omega) (by omega) (by omega) (by omega)]; omega
        rw [if_neg c1, hno, bd_e]
        refine lp_up (α := Int32 → Hp → Option (Unit × Hp)) (P := fun p c21 => ∀ (v : Int32) (h2 : Hp) (mv2 lf2 pl2 : Nat → Nat), v = iI p → FrX [64 * t] [t + 2, t + 3, t + 4] h9 h2 → sG h2 (64 * t) = iI 1 → mv_ok t h2 mv2 → mv_s ρ S mv2 → (∀ B, B ≠ A → mv2 B = mv B) → (∀ p', p' < p → ro_nx ρ S.testBit A.testBit p' = true → ro_l (ro_w a.2 p') (mv (A ||| 2 ^ p') - 1) ≤ mv2 A) → (∀ p0, p0 < 7 → lG h2 (t + 3) p0 = lN (lf2 p0) ∧ lf2 p0 < 281474976710656 ∧ (∀ s, s < 48 → ((lf2 p0).testBit s = true ↔ (∃ B, B < S ∧ S ≤ B + i ∧ ro_bt ρ S B p0 s) ∨ (p0 < p ∧ ro_bt ρ S A p0 s))) ∧ aG h2 (t + 4) p0 = iI (pl2 p0) ∧ pl2 p0 < 128 ∧ (∀ k, k < 7 → ((pl2 p0).testBit k = true ↔ (∃ B s, B < S ∧ S ≤ B + i ∧ s < 48 ∧ ro_ct B = k ∧ ro_bt ρ S B p0 s) ∨ (p0 < p ∧ ro_ct A = k ∧ ∃ s, s < 48 ∧ ro_bt ρ S A p0 s)))) → ∃ h', c21 v h2 = some ((), h') ∧ sG h' (64 * t) = iI 1 ∧ ∃ lf pl : Nat → Nat, ∀ p, p < 7 → lG h' (t + 3) p = lN (lf p) ∧ lf p < 281474976710656 ∧ (∀ s, s < 48 → ((lf p).testBit s = true ↔ ro_lf ρ S p s)) ∧ aG h' (t + 4) p = iI (pl p) ∧ pl p < 128 ∧ (∀ k, k < 7 → ((pl p).testBit k = true ↔ ro_pl ρ S p k))) 7 (by omega) (fun p c21 hp jh => ?_) _ h1 mv lf pl rfl j0 jk j1 j2 (fun _ _ => rfl) (fun p' hp' => absurd hp' (Nat.not_lt_zero _)) (fun p0 hp0 => ?_)
        · intro v h2 mv2 lf2 pl2 hv k0 kk k1 k2 k3 k4 k5'
          subst hv
          by_cases zp : p < 7
          · have nx2 := jh zp
            have g2 : FrX [64 * t] [t + 1, t + 2, t + 3, t + 4] h h2 := g9.sub k0 (by simp) (by simp)
            have q2 : RuR b h2 a := q.fr g2 (by simp; omega) (by simp; omega) (by simp; omega) (by simp; omega) (by simp; omega)
            have lm2 : lm_ok t h2 lv := fun A hA => by rw [k0.ag (by simp), f9.ag (by simp)]; exact m7 A hA
            simp (maxSteps := 3000000) (implicitDefEqProofs := false) (disch := omega) only [jl_e, jn_e, bd_e, gd_t, iI_add, iI_sub, iI_mul, iI_neg, if_true, if_false, not_true_eq_false, not_false_eq_true, Int.reduceEq, Nat.add_zero, Int.toNat_natCast, iI_cl, iI_lt, iI_eq, gd_in, bI_eq0, bI_eq1, bI_isB, isB_0, isB_1, il_0, il_1, il_2, il_3, il_4, il_5, il_6, il_7, il_8, il_9, il_10, il_12, il_16, il_18, il_24, il_27, il_30, il_31, il_32, il_40, il_47, il_48, il_49, il_55, il_56, il_57, il_59, il_63, il_64, il_96, il_97, il_98, il_99, il_101, il_103, il_104, il_105, il_108, il_109, il_110, il_111, il_112, il_114, il_115, il_116, il_117, il_119, il_122, il_127, il_128, il_200, il_225, il_255, il_256, il_999, il_1575, il_9999, il_65536, il_252645135, il_858993459, il_1431655765, c_hasBit hn (show p < 8 by omega), hntb p zp]
            rw [if_pos (by omega)]
            by_cases y1 : ro_nx ρ S.testBit A.testBit p = true
            · rw [if_neg (fun w => w y1)]
              have hSp := (ro_nx_S y1).1
              have hkp := (ro_nx_S y1).2
              have hpn : p < a.1 := by
                rw [← eS, al_S_tb] at hSp
                exact of_decide_eq_true hSp
              have hx := ro_or_lt A hA128 p zp
              have hgt := ro_or_gt A hA128 p zp hkp
              have hxS : A ||| 2 ^ p ≤ S := ro_sub_le (ro_sub_or hAsub hSp)
              have hct := ro_ct_le A hA128
              have hctS := ro_ct_or A hA128 p zp hkp
              have hct2 := ro_ct_le _ hx
              have l2 := k5' p zp
              obtain ⟨h3, e3, w1, w2, w3⟩ := c_seekBetween (t := t) q2 hnp (A := A) (p := p) (x := mv2 A) (lo := lv A) (hi := mv (A ||| 2 ^ p)) (lf := lf2 p) (pl := pl2 p) hA128 hpn hx (by omega) (k1 A hA128) (k2.1 A) (by rw [k1 _ hx, k3 _ (by omega)]) (j2.1 _) (lm2 A hA128) (I7.2.1 A) l2.1 l2.2.2.2.1
              have fr := fr_X3_seekBetween _ _ _ _ _ _ _ e3
              have hcx : mv_c ρ S mv (A ||| 2 ^ p) := j3 _ hxS (by omega)
              have hbt : ∀ s, s < 48 → (ro_bt ρ S A p s ↔ sx_b a p (lv A) (mv (A ||| 2 ^ p)) s = true) := by
                intro s hs
                rw [bt_tab hS2 I7 j2 (by omega) zp hcx hs, ew]
                unfold sx_b
                rw [decide_eq_true hs, Bool.true_and, Bool.and_eq_true, Bool.and_eq_true, decide_eq_true_iff, decide_eq_true_iff]
                exact ⟨fun w => w.2, fun w => ⟨y1, w⟩⟩
              rw [e3, bd_e]
              refine nx2 _ h3 (fun B => if B = A then (if mv2 A ≤ ro_l (ro_w a.2 p) (mv (A ||| 2 ^ p) - 1) then ro_l (ro_w a.2 p) (mv (A ||| 2 ^ p) - 1) else mv2 A) else mv2 B) (fun p0 => if p0 = p then lf2 p ||| bm (sx_b a p (lv A) (mv (A ||| 2 ^ p))) 48 else lf2 p0) (fun p0 => if p0 = p then (if bm (sx_b a p (lv A) (mv (A ||| 2 ^ p))) 48 = 0 then pl2 p else pl2 p ||| 2 ^ ro_ct A) else pl2 p0) (iI_cg (by omega)) (k0.sub fr (by simp) (by simp)) ((fr.sg (by simp)).trans kk) (fun B hB => ?_) ⟨fun B => ?_, fun B hB => ?_⟩ (fun B hB => ?_) (fun p' hp' w => ?_) (fun p0 hp0 => ?_)
              · rw [w1 B]
                try dsimp only
                by_cases u : B = A
                · rw [if_pos u, if_pos u]
                · rw [if_neg u, if_neg u]
                  exact k1 B hB
              · try dsimp only
                have := k2.1 B
                have a1 := ro_l_le (ro_w a.2 p) (mv (A ||| 2 ^ p) - 1)
                have a2 := j2.1 (A ||| 2 ^ p)
                have a3 := k2.1 A
                split
                · split <;> omega
                · omega
              · dsimp only at hB ⊢
                by_cases u : B = A
                · rw [if_pos u] at hB ⊢
                  subst u
                  by_cases u2 : mv2 B ≤ ro_l (ro_w a.2 p) (mv (B ||| 2 ^ p) - 1)
                  · rw [if_pos u2] at hB ⊢
                    have a1 := ro_l_le (ro_w a.2 p) (mv (B ||| 2 ^ p) - 1)
                    obtain ⟨u, u1, u3, u4⟩ := j2.2 (B ||| 2 ^ p) (by omega)
                    refine ⟨p :: u, ⟨y1, zp, u1⟩, u3, ?_⟩
                    show ro_l (ro_w ρ p) (ro_la ρ u - 1) = _
                    rw [u4, ew]
                  · rw [if_neg u2] at hB ⊢
                    exact k2.2 B hB
                · rw [if_neg u] at hB ⊢
                  exact k2.2 B hB
              · try dsimp only
                rw [if_neg hB]
                exact k3 B hB
              · try dsimp only
                rw [if_pos rfl]
                by_cases u : p' = p
                · subst u
                  split <;> omega
                · have := k4 p' (by omega) w
                  split <;> omega
              · have l0 := k5' p0 hp0
                rw [w2 p0, w3 p0]
                try dsimp only
                by_cases u : p0 = p
                · subst u
                  rw [if_pos rfl, if_pos rfl, if_pos rfl, if_pos rfl]
                  refine ⟨rfl, ?_, fun s hs => ?_, rfl, ?_, fun k hk => ?_⟩
                  · exact Nat.or_lt_two_pow (n := 48) l0.2.1 (bm_lt _ 48)
                  · rw [Nat.testBit_or, Bool.or_eq_true, l0.2.2.1 s hs, bm_tb, decide_eq_true hs, Bool.true_and, ← hbt s hs]
                    constructor
                    · rintro ((w | w) | w)
                      · exact Or.inl w
                      · omega
                      · exact Or.inr ⟨by omega, w⟩
                    · rintro (w | w)
                      · exact Or.inl (Or.inl w)
                      · exact Or.inr w.2
                  · split
                    · exact l0.2.2.2.2.1
                    · exact or_128 l0.2.2.2.2.1 (pw_128 _ (by omega))
                  · by_cases u2 : bm (sx_b a p0 (lv A) (mv (A ||| 2 ^ p0))) 48 = 0
                    · rw [if_pos u2, l0.2.2.2.2.2 k hk]
                      constructor
                      · rintro (w | w)
                        · exact Or.inl w
                        · omega
                      · rintro (w | ⟨_, _, s, hs, w⟩)
                        · exact Or.inl w
                        · rw [hbt s hs, bm_0.1 u2 s hs] at w
                          cases w
                    · rw [if_neg u2, ro_tb_or, Bool.or_eq_true, decide_eq_true_iff, l0.2.2.2.2.2 k hk]
                      have hex : ∃ s, s < 48 ∧ ro_bt ρ S A p0 s := by
                        refine Classical.byContradiction fun n => u2 ?_
                        rw [bm_0]
                        intro s hs
                        exact b_nt (fun w => n ⟨s, hs, (hbt s hs).2 w⟩)
                      constructor
                      · rintro ((w | w) | w)
                        · exact Or.inl w
                        · omega
                        · exact Or.inr ⟨by omega, w, hex⟩
                      · rintro (w | w)
                        · exact Or.inl (Or.inl w)
                        · exact Or.inr w.2.1
                · rw [if_neg u, if_neg u, if_neg u, if_neg u]
                  refine ⟨l0.1, l0.2.1, fun s hs => ?_, l0.2.2.2.1, l0.2.2.2.2.1, fun k hk => ?_⟩
                  · rw [l0.2.2.1 s hs, show (p0 < p + 1) = (p0 < p) from propext (by omega)]
                  · rw [l0.2.2.2.2.2 k hk, show (p0 < p + 1) = (p0 < p) from propext (by omega)]
            · rw [if_pos y1]
              have nob : ∀ s, ¬ ro_bt ρ S A p s := fun s w => y1 w.1
              refine nx2 _ h2 mv2 lf2 pl2 (iI_cg (by omega)) k0 kk k1 k2 k3 (fun p' hp' w => ?_) (fun p0 hp0 => ?_)
              · by_cases u : p' = p
                · subst u; exact absurd w y1
                · exact k4 p' (by omega) w
              · have l0 := k5' p0 hp0
                refine ⟨l0.1, l0.2.1, fun s hs => ?_, l0.2.2.2.1, l0.2.2.2.2.1, fun k hk => ?_⟩
                · rw [l0.2.2.1 s hs]
                  by_cases u : p0 = p
                  · subst u
                    constructor
                    · rintro (w | w)
                      · exact Or.inl w
                      · omega
                    · rintro (w | w)
                      · exact Or.inl w
                      · exact absurd w.2 (nob s)
                  · rw [show (p0 < p + 1) = (p0 < p) from propext (by omega)]
                · rw [l0.2.2.2.2.2 k hk]
                  by_cases u : p0 = p
                  · subst u
                    constructor
                    · rintro (w | w)
                      · exact Or.inl w
                      · omega
                    · rintro (w | ⟨_, _, s, _, w⟩)
                      · exact Or.inl w
                      · exact absurd w (nob s)
                  · rw [show (p0 < p + 1) = (p0 < p) from propext (by omega)]
          · simp (maxSteps := 3000000) (implicitDefEqProofs := false) (disch := omega) only [jl_e, jn_e, bd_e, gd_t, iI_add, iI_sub, iI_mul, iI_neg, if_true, if_false, not_true_eq_false, not_false_eq_true, Int.reduceEq, Nat.add_zero, Int.toNat_natCast, iI_cl, iI_lt, iI_eq, gd_in, bI_eq0, bI_eq1, bI_isB, isB_0, isB_1, il_0, il_1, il_2, il_3, il_4, il_5, il_6, il_7, il_8, il_9, il_10, il_12, il_16, il_18, il_24, il_27, il_30, il_31, il_32, il_40, il_47, il_48, il_49, il_55, il_56, il_57, il_59, il_63, il_64, il_96, il_97, il_98, il_99, il_101, il_103, il_104, il_105, il_108, il_109, il_110, il_111, il_112, il_114, il_115, il_116, il_117, il_119, il_122, il_127, il_128, il_200, il_225, il_255, il_256, il_999, il_1575, il_9999, il_65536, il_252645135, il_858993459, il_1431655765]
            rw [if_neg (by omega)]
            have e7 : p = 7 := by omega
            subst e7
            refine nxt _ h2 mv2 lf2 pl2 (iI_cg (by omega)) k0 kk k1 k2 (fun B hB hB2 => ?_) (fun p0 hp0 => ?_)
            · by_cases u : B = A
              · subst u
                intro u hu hf
                cases u with
                | nil =>
                  have : B = S := hf
                  omega
                | cons p' u' =>
                  obtain ⟨b1, b2, b3⟩ := hu
                  have hSp := (ro_nx_S b1).1
                  have hgt := ro_or_gt B hA128 p' b2 (ro_nx_S b1).2
                  have hxS : B ||| 2 ^ p' ≤ S := ro_sub_le (ro_sub_or hAsub hSp)
                  have a1 := j3 _ hxS (by omega) u' b3 hf
                  have a2 := k4 p' b2 b1
                  have a3 := ro_l_mono (ro_w a.2 p') (show ro_la ρ u' - 1 ≤ mv (B ||| 2 ^ p') - 1 by omega)
                  show ro_l (ro_w ρ p') (ro_la ρ u' - 1) ≤ _
                  rw [ew]
                  omega
              · intro u' hu hf
                rw [k3 B u]
                exact j3 B hB (by omega) u' hu hf
            · have l0 := k5' p0 hp0
              refine ⟨l0.1, l0.2.1, fun s hs => ?_, l0.2.2.2.1, l0.2.2.2.2.1, fun k hk => ?_⟩
              · rw [l0.2.2.1 s hs]
                constructor
                · rintro (⟨B, b1, b2, b3⟩ | w)
                  · exact ⟨B, b1, by omega, b3⟩
                  · exact ⟨A, hA, by omega, w.2⟩
                · rintro ⟨B, b1, b2, b3⟩
                  by_cases u : B = A
                  · subst u; exact Or.inr ⟨hp0, b3⟩
                  · exact Or.inl ⟨B, b1, by omega, b3⟩
              · rw [l0.2.2.2.2.2 k hk]
                constructor
                · rintro (⟨B, s, b1, b2, b3⟩ | ⟨_, w1, s, w2, w3⟩)
                  · exact ⟨B, s, b1, by omega, b3⟩
                  · exact ⟨A, s, hA, by omega, w2, w1, w3⟩
                · rintro ⟨B, s, b1, b2, b3, b4, b5⟩
                  by_cases u : B = A
                  · subst u; exact Or.inr ⟨hp0, b4, s, b3, b5⟩
                  · exact Or.inl ⟨B, s, b1, by omega, b3, b4, b5⟩
        · have l0 := j4 p0 hp0
          refine ⟨l0.1, l0.2.1, fun s hs => ?_, l0.2.2.2.1, l0.2.2.2.2.1, fun k hk => ?_⟩
          · rw [l0.2.2.1 s hs]
            exact ⟨Or.inl, fun w => w.resolve_right (fun w2 => absurd w2.1 (Nat.not_lt_zero _))⟩
          · rw [l0.2.2.2.2.2 k hk]
            exact ⟨Or.inl, fun w => w.resolve_right (fun w2 => absurd w2.1 (Nat.not_lt_zero _))⟩
      · have c1 : iI ((S : Int) - 1 - i) < (0 : Int32) := by
          rw [il_0, iI_lt (by omega) (by omega) (by omega) (by omega)]; omega
        rw [if_pos c1]
        have btS : ∀ A p s, ro_bt ρ S A p s → A &&& S = A → A < S := by
          intro A p s hb hsub
          have h1 := ro_sub_le hsub
          have := ro_nx_S hb.1
          refine Nat.lt_of_le_of_ne h1 (fun e => ?_)
          rw [e, this.1] at this
          exact absurd this.2 (by simp)
        refine ⟨_, rfl, jk, lf, pl, fun p hp => ?_⟩
        have l0 := j4 p hp
        refine ⟨l0.1, l0.2.1, fun s hs => ?_, l0.2.2.2.1, l0.2.2.2.2.1, fun k hk => ?_⟩
        · rw [l0.2.2.1 s hs, ro_lf_iff hS2 hρ hs]
          constructor
          · rintro ⟨A, a1, a2, a3⟩
            exact ⟨A, by omega, by rw [← eS]; exact al_S_sub (by omega), a3⟩
          · rintro ⟨A, a1, a2, a3⟩
            have := btS A p s a3 a2
            exact ⟨A, this, by omega, a3⟩
        · rw [l0.2.2.2.2.2 k hk, ro_pl_iff hS2 hρ]
          constructor
          · rintro ⟨A, s, a1, a2, a3, a4, a5⟩
            exact ⟨A, s, by omega, by rw [← eS]; exact al_S_sub (by omega), a3, a4, a5⟩
          · rintro ⟨A, s, a1, a2, a3, a4, a5⟩
            have := btS A p s a5 a2
            exact ⟨A, s, this, by omega, a3, a4, a5⟩
    · have l0 := l7 p hp
      rw [f9.lg (by simp), f9.ag (by simp)]
      refine ⟨l0.1, Nat.zero_lt_succ _, fun s hs => ?_, l0.2, Nat.zero_lt_succ _, fun k hk => ?_⟩
      · rw [Nat.zero_testBit]
        exact ⟨fun w => by (cases w), fun ⟨A, a1, a2, _⟩ => by omega⟩
      · rw [Nat.zero_testBit]
        exact ⟨fun w => by (cases w), fun ⟨A, s, a1, a2, _⟩ => by omega⟩
  · have cI : bI (ro_rows ρ S ≠ []) = 0 := by rw [bI_f c]; rfl
    rw [if_pos cI]
    have hnil : ro_rows ρ S = [] := Classical.byContradiction fun n => c n
    refine ⟨h7, rfl, k7, fun _ => 0, fun _ => 0, fun p hp => ?_⟩
    have l0 := l7 p hp
    refine ⟨l0.1, Nat.zero_lt_succ _, fun s hs => ?_, l0.2, Nat.zero_lt_succ _, fun k hk => ?_⟩
    · rw [Nat.zero_testBit]
      constructor
      · intro w; cases w
      · rintro ⟨l, hl, _⟩
        rw [hnil] at hl
        cases hl
    · rw [Nat.zero_testBit]
      constructor
      · intro w; cases w
      · rintro ⟨l, hl, _⟩
        rw [hnil] at hl
        cases hl
