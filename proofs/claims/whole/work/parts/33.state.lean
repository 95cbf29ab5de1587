-- ===== the class's state stands for a value =====
abbrev StZ : Type := (Nat → Int) × (Nat → Nat → Int64) × Int64
abbrev Sta : Type := List Nat × Alb × List (List Pc) × (Nat → Option (List Pc)) × StZ
def st_t (s : Sta) : List Nat := s.1
def st_a (s : Sta) : Alb := s.2.1
def st_h (s : Sta) : List (List Pc) := s.2.2.1
def st_k (s : Sta) : Nat → Option (List Pc) := s.2.2.2.1
def st_z (s : Sta) : StZ := s.2.2.2.2
def st_ok (s : Sta) : Prop := ((st_t s).length ≤ 200 ∧ ∀ i, i < (st_t s).length → (st_t s).getD i 0 ≤ 255) ∧ al_ok (st_a s) ∧ ((st_h s).length ≤ 8 ∧ ∀ i, i < (st_h s).length → pa_ok (st_a s) ((st_h s).getD i [])) ∧ (∀ k L, st_k s k = some L → pa_ok (st_a s) L) ∧ (∀ i, i < 3 → -1 ≤ (st_z s).1 i ∧ (st_z s).1 i ≤ 8)
def TxC (h : Hp) (T : List Nat) : Prop := sG h 64 = iI T.length ∧ ∀ i, i < T.length → aG h 2 i = iI (T.getD i 0)
def HiC (h : Hp) (H : List (List Pc)) : Prop := sG h 1408 = iI H.length ∧ ∃ f : Nat, f < 8 ∧ sG h 1409 = iI f ∧ ∀ i, i < H.length → PcC (25 + 5 * ((f + i) % 8)) h (H.getD i [])
def KpC (h : Hp) (K : Nat → Option (List Pc)) : Prop := ∃ b : Nat, b < 4 ∧ sG h 1412 = iI b ∧ ∀ k, k < 2 → (K k = none → b.testBit k = false) ∧ (∀ L, K k = some L → b.testBit k = true ∧ PcC (65 + 5 * k) h L)
def StC (h : Hp) (z : StZ) : Prop := (∀ i, i < 3 → aG h 115 i = iI (z.1 i)) ∧ (∀ i j : Nat, i < 3 → j < 8 → (j : Int) < z.1 i → lG h 116 (8 * i + j) = z.2.1 i j) ∧ tG h 7296 = z.2.2
def RkC (h : Hp) (a : Alb) : Prop := sG h 4800 = iI 1 ∧ RuC 75 h a ∧ EaC 75 h a
def CaC (h : Hp) (a : Alb) : Prop := (sG h 4800 = iI 0 ∨ RkC h a) ∧ (sG h 5248 = iI 0 ∨ (sG h 5248 = iI 1 ∧ RkC h a ∧ OrC 82 75 h (al_x a))) ∧ (sG h 5504 = iI 0 ∨ (sG h 5504 = iI 1 ∧ HoC 86 h (al_x a))) ∧ (sG h 5829 = iI 0 ∨ (sG h 5829 = iI 1 ∧ ∃ z, sG h 5828 = iI z ∧ kn_is a z)) ∧ (sG h 5830 = iI 0 ∨ (sG h 5830 = iI 1 ∧ LoC h (lo_l a))) ∧ (sG h 5831 = iI 0 ∨ (sG h 5831 = iI 1 ∧ AsC h (ak_p a (al_w a).length)))
def JC (h : Hp) (s : Sta) : Prop := st_ok s ∧ TxC h (st_t s) ∧ AlC 3 h (st_a s) ∧ HiC h (st_h s) ∧ KpC h (st_k s) ∧ StC h (st_z s) ∧ CaC h (st_a s)
theorem TxC.fr {h h' : Hp} {T : List Nat} {S A : List Nat} (q : TxC h T) (f : FrX S A h h') (n0 : 64 ∉ S) (n1 : 2 ∉ A) : TxC h' T := ⟨(f.sg n0).trans q.1, fun i hi => (f.ag n1 i).trans (q.2 i hi)⟩
theorem HiC.fr {h h' : Hp} {H : List (List Pc)} {S A : List Nat} (q : HiC h H) (f : FrX S A h h') (n0 : ∀ v, v ∈ S → v ≠ 1408 ∧ v ≠ 1409 ∧ (v < 1600 ∨ 4160 ≤ v)) (n1 : ∀ k, k ∈ A → k < 25 ∨ 65 ≤ k) : HiC h' H := by
  obtain ⟨a, g, b, c, d⟩ := q
  have sg : ∀ v, v ∈ S → v ≠ 1408 ∧ v ≠ 1409 := fun v hv => ⟨(n0 v hv).1, (n0 v hv).2.1⟩
  refine ⟨(f.sg (fun z => (sg _ z).1 rfl)).trans a, g, b, (f.sg (fun z => (sg _ z).2 rfl)).trans c, fun i hi => ?_⟩
  exact (d i hi).fr f (fun z => by have := (n0 _ z).2.2; omega) (fun z => by have := n1 _ z; omega) (fun z => by have := n1 _ z; omega) (fun z => by have := n1 _ z; omega) (fun z => by have := n1 _ z; omega)
theorem KpC.fr {h h' : Hp} {K : Nat → Option (List Pc)} {S A : List Nat} (q : KpC h K) (f : FrX S A h h') (n0 : ∀ v, v ∈ S → v ≠ 1412 ∧ (v < 4160 ∨ 4800 ≤ v)) (n1 : ∀ k, k ∈ A → k < 65 ∨ 75 ≤ k) : KpC h' K := by
  obtain ⟨b, b4, c, d⟩ := q
  refine ⟨b, b4, (f.sg (fun z => (n0 _ z).1 rfl)).trans c, fun k hk => ⟨(d k hk).1, fun L hL => ⟨((d k hk).2 L hL).1, ?_⟩⟩⟩
  exact ((d k hk).2 L hL).2.fr f (fun z => by have := (n0 _ z).2; omega) (fun z => by have := n1 _ z; omega) (fun z => by have := n1 _ z; omega) (fun z => by have := n1 _ z; omega) (fun z => by have := n1 _ z; omega)
theorem StC.fr {h h' : Hp} {z : StZ} {S A : List Nat} (q : StC h z) (f : FrX S A h h') (n0 : 7296 ∉ S) (n1 : 115 ∉ A) (n2 : 116 ∉ A) : StC h' z :=
  ⟨fun i hi => (f.ag n1 i).trans (q.1 i hi), fun i j hi hj hz => (f.lg n2 _).trans (q.2.1 i j hi hj hz), (f.tg n0).trans q.2.2⟩
theorem EaC.fr {t : Nat} {h h' : Hp} {a : Alb} {S A : List Nat} (q : EaC t h a) (f : FrX S A h h') (n1 : t + 3 ∉ A) : EaC t h' a := fun p hp => (f.ag n1 p).trans (q p hp)
theorem OrC.fr {t b : Nat} {h h' : Hp} {a : RA} {S A : List Nat} (q : OrC t b h a) (f : FrX S A h h') (n0 : 64 * t + 1 ∉ S) (n1 : 64 * t + 2 ∉ S) (n2 : t + 1 ∉ A) (n3 : t + 2 ∉ A) (n4 : t + 3 ∉ A) : OrC t b h' a := by
  obtain ⟨o1, o2, rm, m0, m1, m2, m3⟩ := q
  refine ⟨(f.og n1).trans o1, (f.sg n0).trans o2, rm, fun B hB => ⟨(f.lg n3 B).trans (m0 B hB).1, (m0 B hB).2⟩, m1, fun A hA => ⟨(f.ag n2 A).trans (m2 A hA).1, (m2 A hA).2⟩, fun A hA g hg => (f.ag n4 _).trans (m3 A hA g hg)⟩
theorem HoC.fr {t : Nat} {h h' : Hp} {a : RA} {S A : List Nat} (q : HoC t h a) (f : FrX S A h h') (n3 : t + 3 ∉ A) (n4 : t + 4 ∉ A) : HoC t h' a := by
  obtain ⟨lf, pl, m⟩ := q
  refine ⟨lf, pl, fun p hp => ?_⟩
  obtain ⟨a1, a2, a3, a4, a5, a6⟩ := m p hp
  exact ⟨(f.lg n3 p).trans a1, a2, a3, (f.ag n4 p).trans a4, a5, a6⟩
theorem RkC.fr {h h' : Hp} {a : Alb} {S A : List Nat} (q : RkC h a) (f : FrX S A h h') (n0 : 4800 ∉ S) (n1 : 4801 ∉ S) (m1 : 76 ∉ A) (m2 : 77 ∉ A) (m3 : 78 ∉ A) (m4 : 79 ∉ A) (m5 : 80 ∉ A) : RkC h' a :=
  ⟨(f.sg n0).trans q.1, q.2.1.fr f n1 m1 m2 m4 m5, q.2.2.fr f m3⟩
theorem CaC.fr {h h' : Hp} {a : Alb} {S A : List Nat} (q : CaC h a) (f : FrX S A h h') (n0 : ∀ v, v ∈ S → v < 4800 ∨ 7296 ≤ v) (n1 : ∀ k, k ∈ A → k < 75 ∨ 114 ≤ k) : CaC h' a := by
  have s : ∀ v, 4800 ≤ v → v < 7296 → v ∉ S := fun v h1 h2 z => by have := n0 v z; omega
  have t : ∀ k, 75 ≤ k → k < 114 → k ∉ A := fun k h1 h2 z => by have := n1 k z; omega
  have rk : RkC h a → RkC h' a := fun r => r.fr f (s _ (by omega) (by omega)) (s _ (by omega) (by omega)) (t _ (by omega) (by omega)) (t _ (by omega) (by omega)) (t _ (by omega) (by omega)) (t _ (by omega) (by omega)) (t _ (by omega) (by omega))
  obtain ⟨q1, q2, q3, q4, q5, q6⟩ := q
  refine ⟨?_, ?_, ?_, ?_, ?_, ?_⟩
  · rcases q1 with w | w
    · exact Or.inl ((f.sg (s _ (by omega) (by omega))).trans w)
    · exact Or.inr (rk w)
  · rcases q2 with w | ⟨w1, w2, w3⟩
    · exact Or.inl ((f.sg (s _ (by omega) (by omega))).trans w)
    · exact Or.inr ⟨(f.sg (s _ (by omega) (by omega))).trans w1, rk w2, w3.fr f (s _ (by omega) (by omega)) (s _ (by omega) (by omega)) (t _ (by omega) (by omega)) (t _ (by omega) (by omega)) (t _ (by omega) (by omega))⟩
  · rcases q3 with w | ⟨w1, w2⟩
    · exact Or.inl ((f.sg (s _ (by omega) (by omega))).trans w)
    · exact Or.inr ⟨(f.sg (s _ (by omega) (by omega))).trans w1, w2.fr f (t _ (by omega) (by omega)) (t _ (by omega) (by omega))⟩
  · rcases q4 with w | ⟨w1, z, w2, w3⟩
    · exact Or.inl ((f.sg (s _ (by omega) (by omega))).trans w)
    · exact Or.inr ⟨(f.sg (s _ (by omega) (by omega))).trans w1, z, (f.sg (s _ (by omega) (by omega))).trans w2, w3⟩
  · rcases q5 with w | ⟨w1, w2, w3⟩
    · exact Or.inl ((f.sg (s _ (by omega) (by omega))).trans w)
    · exact Or.inr ⟨(f.sg (s _ (by omega) (by omega))).trans w1, (f.sg (s _ (by omega) (by omega))).trans w2, fun k hk => (f.ag (t _ (by omega) (by omega)) k).trans (w3 k hk)⟩
  · rcases q6 with w | ⟨w1, w2, w3⟩
    · exact Or.inl ((f.sg (s _ (by omega) (by omega))).trans w)
    · exact Or.inr ⟨(f.sg (s _ (by omega) (by omega))).trans w1, (f.sg (s _ (by omega) (by omega))).trans w2, (f.sg (s _ (by omega) (by omega))).trans w3⟩
/-- only what is found out may have become other -/
theorem JC.ca {h h' : Hp} {s : Sta} {S A : List Nat} (q : JC h s) (f : FrX S A h h') (n0 : ∀ v, v ∈ S → 4800 ≤ v ∧ v < 7296) (n1 : ∀ k, k ∈ A → 75 ≤ k ∧ k < 114) (c : CaC h' (st_a s)) : JC h' s := by
  obtain ⟨q0, q1, q2, q3, q4, q5, -⟩ := q
  refine ⟨q0, q1.fr f (fun z => by have := n0 _ z; omega) (fun z => by have := n1 _ z; omega), q2.fr f (fun v z => by have := n0 _ z; omega) (fun k z => by have := n1 _ z; omega), q3.fr f (fun v z => by have := n0 _ z; omega) (fun k z => by have := n1 _ z; omega), q4.fr f (fun v z => by have := n0 _ z; omega) (fun k z => by have := n1 _ z; omega), q5.fr f (fun z => by have := n0 _ z; omega) (fun z => by have := n1 _ z; omega) (fun z => by have := n1 _ z; omega), c⟩
theorem c_rulesNow {h : Hp} {s : Sta} (q : JC h s) : ∃ h', F_X11_rulesNow h = some ((), h') ∧ JC h' s ∧ RkC h' (st_a s) := by
  have c := q.2.2.2.2.2.2
  unfold F_X11_rulesNow
  rw [jn_e]
  rcases c.1 with w | w
  · have w' : sG h 4800 = 0 := w
    obtain ⟨h1, e1, k1, r1, r2⟩ := c_read (t := 75) (c := 3) q.2.2.1 (by omega)
    have f := fr_X7_read _ _ _ _ _ e1
    have rk : RkC h1 (st_a s) := ⟨k1, r1, r2⟩
    rw [if_pos w', e1, bd_e]
    refine ⟨h1, rfl, q.ca f (by decide) (by decide) ⟨Or.inr rk, ?_, ?_, ?_, ?_, ?_⟩, rk⟩
    · rcases c.2.1 with z | ⟨z1, z2, z3⟩
      · exact Or.inl ((f.sg (by decide)).trans z)
      · exact Or.inr ⟨(f.sg (by decide)).trans z1, rk, z3.fr f (by decide) (by decide) (by decide) (by decide) (by decide)⟩
    · rcases c.2.2.1 with z | ⟨z1, z2⟩
      · exact Or.inl ((f.sg (by decide)).trans z)
      · exact Or.inr ⟨(f.sg (by decide)).trans z1, z2.fr f (by decide) (by decide)⟩
    · rcases c.2.2.2.1 with z | ⟨z1, y, z2, z3⟩
      · exact Or.inl ((f.sg (by decide)).trans z)
      · exact Or.inr ⟨(f.sg (by decide)).trans z1, y, (f.sg (by decide)).trans z2, z3⟩
    · rcases c.2.2.2.2.1 with z | ⟨z1, z2, z3⟩
      · exact Or.inl ((f.sg (by decide)).trans z)
      · exact Or.inr ⟨(f.sg (by decide)).trans z1, (f.sg (by decide)).trans z2, fun k hk => (f.ag (by decide) k).trans (z3 k hk)⟩
    · rcases c.2.2.2.2.2 with z | ⟨z1, z2, z3⟩
      · exact Or.inl ((f.sg (by decide)).trans z)
      · exact Or.inr ⟨(f.sg (by decide)).trans z1, (f.sg (by decide)).trans z2, (f.sg (by decide)).trans z3⟩
  · have w' : ¬ sG h 4800 = 0 := by rw [w.1]; decide
    rw [if_neg w']
    exact ⟨h, rfl, q, w⟩
theorem c_ordersNow {h : Hp} {s : Sta} (q : JC h s) : ∃ h', F_X11_ordersNow h = some ((), h') ∧ JC h' s ∧ RkC h' (st_a s) ∧ OrC 82 75 h' (al_x (st_a s)) := by
  have c := q.2.2.2.2.2.2
  have hnp := q.2.2.1.1.2.1
  unfold F_X11_ordersNow
  rw [jn_e]
  rcases c.2.1 with w | ⟨w1, w2, w3⟩
  · have w' : sG h 5248 = 0 := w
    obtain ⟨h0, e0, q0, rk0⟩ := c_rulesNow q
    have c0 := q0.2.2.2.2.2.2
    obtain ⟨h1, e1, k1, o1⟩ := c_seek (a := al_x (st_a s)) al_r_ok rk0.2.1 hnp (t := 82) (by omega)
    have f := fr_X4_seek _ _ _ _ _ e1
    have rk : RkC h1 (st_a s) := rk0.fr f (by decide) (by decide) (by decide) (by decide) (by decide) (by decide) (by decide)
    rw [if_pos w', e0, bd_e, e1, bd_e]
    refine ⟨h1, rfl, q0.ca f (by decide) (by decide) ⟨Or.inr rk, Or.inr ⟨k1, rk, o1⟩, ?_, ?_, ?_, ?_⟩, rk, o1⟩
    · rcases c0.2.2.1 with z | ⟨z1, z2⟩
      · exact Or.inl ((f.sg (by decide)).trans z)
      · exact Or.inr ⟨(f.sg (by decide)).trans z1, z2.fr f (by decide) (by decide)⟩
    · rcases c0.2.2.2.1 with z | ⟨z1, y, z2, z3⟩
      · exact Or.inl ((f.sg (by decide)).trans z)
      · exact Or.inr ⟨(f.sg (by decide)).trans z1, y, (f.sg (by decide)).trans z2, z3⟩
    · rcases c0.2.2.2.2.1 with z | ⟨z1, z2, z3⟩
      · exact Or.inl ((f.sg (by decide)).trans z)
      · exact Or.inr ⟨(f.sg (by decide)).trans z1, (f.sg (by decide)).trans z2, fun k hk => (f.ag (by decide) k).trans (z3 k hk)⟩
    · rcases c0.2.2.2.2.2 with z | ⟨z1, z2, z3⟩
      · exact Or.inl ((f.sg (by decide)).trans z)
      · exact Or.inr ⟨(f.sg (by decide)).trans z1, (f.sg (by decide)).trans z2, (f.sg (by decide)).trans z3⟩
  · have w' : ¬ sG h 5248 = 0 := by rw [w1]; decide
    rw [if_neg w']
    exact ⟨h, rfl, q, w2, w3⟩
theorem c_hoursNow {h : Hp} {s : Sta} (q : JC h s) : ∃ h', F_X11_hoursNow h = some ((), h') ∧ JC h' s ∧ HoC 86 h' (al_x (st_a s)) := by
  have c := q.2.2.2.2.2.2
  have hnp := q.2.2.1.1.2.1
  unfold F_X11_hoursNow
  rw [jn_e]
  rcases c.2.2.1 with w | ⟨w1, w2⟩
  · have w' : sG h 5504 = 0 := w
    obtain ⟨h0, e0, q0, rk0⟩ := c_rulesNow q
    have c0 := q0.2.2.2.2.2.2
    obtain ⟨h1, e1, k1, o1⟩ := c_hseek (a := al_x (st_a s)) al_r_ok rk0.2.1 hnp (t := 86) (by omega)
    have f := fr_X3_seek _ _ _ _ _ e1
    have rk : RkC h1 (st_a s) := rk0.fr f (by decide) (by decide) (by decide) (by decide) (by decide) (by decide) (by decide)
    rw [if_pos w', e0, bd_e, e1, bd_e]
    refine ⟨h1, rfl, q0.ca f (by decide) (by decide) ⟨Or.inr rk, ?_, Or.inr ⟨k1, o1⟩, ?_, ?_, ?_⟩, o1⟩
    · rcases c0.2.1 with z | ⟨z1, z2, z3⟩
      · exact Or.inl ((f.sg (by decide)).trans z)
      · exact Or.inr ⟨(f.sg (by decide)).trans z1, rk, z3.fr f (by decide) (by decide) (by decide) (by decide) (by decide)⟩
    · rcases c0.2.2.2.1 with z | ⟨z1, y, z2, z3⟩
      · exact Or.inl ((f.sg (by decide)).trans z)
      · exact Or.inr ⟨(f.sg (by decide)).trans z1, y, (f.sg (by decide)).trans z2, z3⟩
    · rcases c0.2.2.2.2.1 with z | ⟨z1, z2, z3⟩
      · exact Or.inl ((f.sg (by decide)).trans z)
      · exact Or.inr ⟨(f.sg (by decide)).trans z1, (f.sg (by decide)).trans z2, fun k hk => (f.ag (by decide) k).trans (z3 k hk)⟩
    · rcases c0.2.2.2.2.2 with z | ⟨z1, z2, z3⟩
      · exact Or.inl ((f.sg (by decide)).trans z)
      · exact Or.inr ⟨(f.sg (by decide)).trans z1, (f.sg (by decide)).trans z2, (f.sg (by decide)).trans z3⟩
  · have w' : ¬ sG h 5504 = 0 := by rw [w1]; decide
    rw [if_neg w']
    exact ⟨h, rfl, q, w2⟩
/-- nothing is known after a piece became other -/
theorem c_forget (h : Hp) : ∃ h', F_X11_forgetFindings h = some ((), h') ∧ ∀ a, CaC h' a := by
  unfold F_X11_forgetFindings F_X1_forget
  simp (maxSteps := 3000000) (implicitDefEqProofs := false) (disch := omega) only [jl_e, jn_e, bd_e, gd_t, iI_add, iI_sub, iI_mul, iI_neg, if_true, if_false, not_true_eq_false, not_false_eq_true, Int.reduceEq, Nat.add_zero, Int.toNat_natCast, iI_cl, iI_lt, iI_eq, gd_in, bI_eq0, bI_eq1, bI_isB, isB_0, isB_1, il_0, il_1, il_2, il_3, il_4, il_5, il_6, il_7, il_8, il_9, il_10, il_12, il_16, il_18, il_24, il_27, il_30, il_31, il_32, il_40, il_47, il_48, il_49, il_55, il_56, il_57, il_59, il_63, il_64, il_96, il_97, il_98, il_99, il_101, il_103, il_104, il_105, il_108, il_109, il_110, il_111, il_112, il_114, il_115, il_116, il_117, il_119, il_122, il_127, il_128, il_200, il_225, il_255, il_256, il_999, il_1575, il_9999, il_65536, il_252645135, il_858993459, il_1431655765]
  refine ⟨_, rfl, fun a => ⟨Or.inl ?_, Or.inl ?_, Or.inl ?_, Or.inl ?_, Or.inl ?_, Or.inl ?_⟩⟩ <;> rfl
