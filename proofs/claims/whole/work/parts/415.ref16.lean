-- ===== the reference's history =====
theorem tn225 (i : Nat) : ((225 : Int) * (i : Int)).toNat = 225 * i := by omega
theorem hm_drop {h h' : Hp} {H : List (List Pc)} (q : ∀ i, i < H.length → PmC 126 (225 * i) h (H.getD i [])) (hl : H.length ≤ 8) (e : ∀ i, aG h' 126 i = if 0 ≤ i ∧ i < 0 + 1575 then aG h 126 (225 + (i - 0)) else aG h 126 i) : ∀ i, i < (H.drop 1).length → PmC 126 (225 * i) h' ((H.drop 1).getD i []) := by
  intro i hi
  rw [List.length_drop] at hi
  rw [hi_drop_getD]
  have o := q (i + 1) (by omega)
  have hn := pc_len o.1
  refine ⟨o.1, ?_, fun j hj => ?_⟩
  · rw [e, if_pos (by omega), show 225 + (225 * i - 0) = 225 * (i + 1) by omega]
    exact o.2.1
  · obtain ⟨a1, a2, a3, a4⟩ := o.2.2 j hj
    refine ⟨?_, ?_, ?_, ?_⟩
    · rw [e, if_pos (by omega), show 225 + (225 * i + (4 * j + 1) - 0) = 225 * (i + 1) + (4 * j + 1) by omega]; exact a1
    · rw [e, if_pos (by omega), show 225 + (225 * i + (4 * j + 2) - 0) = 225 * (i + 1) + (4 * j + 2) by omega]; exact a2
    · rw [e, if_pos (by omega), show 225 + (225 * i + (4 * j + 3) - 0) = 225 * (i + 1) + (4 * j + 3) by omega]; exact a3
    · rw [e, if_pos (by omega), show 225 + (225 * i + (4 * j + 4) - 0) = 225 * (i + 1) + (4 * j + 4) by omega]; exact a4
theorem m_put1 {h : Hp} {H : List (List Pc)} {L : List Pc} (q : HiM h H) (hl : H.length < 8) (p : NwC h L) : ∃ h', bd (F_X12_bring 124 225 (0 : Int32) 126 1800 ((225 : Int32) * (sG h 7510)) (225 : Int32) h) (fun _ h3 => jl (sS h3 7510 ((sG h3 7510) + (1 : Int32))) (fun h4 => some ((), h4))) = some ((), h') ∧ HiM h' (H ++ [L]) := by
  obtain ⟨h1, e1, b1⟩ := m_bring (c := 124) (d := 126) (n1 := 225) (n2 := 1800) (x := 0) (y := 225 * H.length) (n := 225) h (by omega) (by omega) (by omega) (by omega) (Or.inl (by decide))
  have f1 := fr_X12_bring _ _ _ _ _ _ _ _ _ _ e1
  have s1 : sG h1 7510 = iI H.length := (f1.sg (by decide)).trans q.1
  have e1' : F_X12_bring 124 225 (0 : Int32) 126 1800 ((225 : Int32) * (sG h 7510)) (225 : Int32) h = some ((), h1) := by
    rw [q.1, il_225, iI_mul, show (225 : Int) * (H.length : Int) = ((225 * H.length : Nat) : Int) by omega]
    exact e1
  rw [e1', bd_e, jl_e, s1, il_1, iI_add]
  have f2 : FrX [7510] [] h1 (sS h1 7510 (iI ((H.length : Int) + 1))) := (FrX.refl _ _ h1).sS (by decide) _
  refine ⟨_, rfl, ?_, fun i hi => ?_⟩
  · rw [sG_sS_s, List.length_append, List.length_singleton]
    exact iI_cg (by omega)
  · rw [List.length_append, List.length_singleton] at hi
    refine PmC.fr ?_ f2 (by simp)
    rw [getD_app]
    by_cases c : i < H.length
    · rw [if_pos c]
      exact (q.2 i c).same (fun j h1 h2 => by rw [b1, if_neg (by omega)])
    · rw [if_neg c, if_pos (by omega), show i = H.length by omega]
      exact PmC.bring (o := 0) p b1
theorem m_put {h : Hp} {H : List (List Pc)} {L : List Pc} (q : HiM h H) (hl : H.length ≤ 8) (p : NwC h L) : ∃ h', F_X12_put h = some ((), h') ∧ HiM h' (hi_push H L) := by
  unfold F_X12_put hi_push
  rw [jn_e]
  by_cases c : H.length = 8
  · obtain ⟨h1, e1, b1⟩ := m_bring (c := 126) (d := 126) (n1 := 1800) (n2 := 1800) (x := 225) (y := 0) (n := 1575) h (by omega) (by omega) (by omega) (by omega) (Or.inr (by omega))
    have f1 := fr_X12_bring _ _ _ _ _ _ _ _ _ _ e1
    have s1 : sG h1 7510 = iI H.length := (f1.sg (by decide)).trans q.1
    have e1' : F_X12_bring 126 1800 (225 : Int32) 126 1800 (0 : Int32) (1575 : Int32) h = some ((), h1) := e1
    rw [if_pos c, if_pos (show sG h 7510 = 8 by rw [q.1, c]; rfl), e1', bd_e, jl_e, s1, il_1, iI_sub]
    have f2 : FrX [7510] [] h1 (sS h1 7510 (iI ((H.length : Int) - 1))) := (FrX.refl _ _ h1).sS (by decide) _
    have q2 : HiM (sS h1 7510 (iI ((H.length : Int) - 1))) (H.drop 1) := by
      refine ⟨?_, fun i hi => (hm_drop q.2 hl b1 i hi).fr f2 (by simp)⟩
      rw [sG_sS_s, List.length_drop]
      exact iI_cg (by omega)
    exact m_put1 q2 (by rw [List.length_drop]; omega) ((p.fr f1 (by decide)).fr f2 (by simp))
  · rw [if_neg c]
    have hne : ¬ sG h 7510 = 8 := by
      rw [q.1, show (8 : Int32) = iI 8 from rfl, iI_eq (by omega) (by omega) (by omega) (by omega)]
      omega
    rw [if_neg hne]
    exact m_put1 q (by omega) p
theorem JM.np {h h1 : Hp} {s : Sta} (q : JM h s) {S A : List Nat} (f : FrX S A h h1) (n0 : ∀ v, v ∈ S → v = 7510) (n1 : ∀ k, k ∈ A → k = 124 ∨ k = 126) {L : List Pc} {H : List (List Pc)} (hL : NwC h1 L) (hH : HiM h1 H) (okL : pa_ok (st_a s) L) (okH : H.length ≤ 8 ∧ ∀ i, i < H.length → pa_ok (st_a s) (H.getD i [])) : JM h1 (N_p s L H) := by
  have s0 : ∀ v, v ≠ 7510 → v ∉ S := fun v hv z => hv (n0 v z)
  have a0 : ∀ v, v ≠ 124 → v ≠ 126 → v ∉ A := fun v h1 h2 z => (n1 v z).elim h1 h2
  obtain ⟨q0, q1, q2, q3, q4, q5⟩ := q
  exact ⟨⟨q0.1, al_ok_set q0.2.1 okL, okH, q0.2.2.2.1, q0.2.2.2.2⟩, q1.fr f (s0 _ (by decide)) (a0 _ (by decide) (by decide)), q2.set f (fun v z => by have := n0 v z; omega) (fun k z => by have := n1 k z; omega) okL hL, hH, q4.fr f (a0 _ (by decide) (by decide)) (a0 _ (by decide) (by decide)), q5.fr f (s0 _ (by decide)) (a0 _ (by decide) (by decide)) (a0 _ (by decide) (by decide))⟩
theorem m_newPiece {h : Hp} {s : Sta} (q : JM h s) {p v w : Nat} {m : Int} (hp : p < (al_w (st_a s)).length) (hm : 0 ≤ m ∧ m < 2 + (al_k (st_a s)).length) (hv : v ≤ al_most (st_a s) m.toNat) (hw : w ≤ al_msl m.toNat) : ∃ h', F_X12_newPiece (iI p) (iI m) (iI v) (iI w) h = some (iI (pc_put (al_p (st_a s)) (8 * p + m.toNat) v w).length, h') ∧ JM h' (N_p s (pc_put (al_p (st_a s)) (8 * p + m.toNat) v w) (hi_push (st_h s) (al_p (st_a s)))) := by
  have qa := q.2.2.1
  have h7 := qa.1.2.1
  have h6 := qa.1.2.2.1
  have m9 := al_most_le (st_a s) m.toNat
  have s9 := al_msl_le m.toNat
  obtain ⟨h1, e1, hi1⟩ := m_put q.2.2.2.1 q.1.2.2.1.1 qa.nw
  have f1 := fr_X12_put _ _ _ e1
  obtain ⟨h2, e2, n2⟩ := m_become (qa.nw.fr f1 (by decide)) (p := p) (m := m) (v := v) (s := w) (by omega) (by omega) (by omega) (by omega)
  have f2 := fr_X12_become _ _ _ _ _ _ _ e2
  have okp : pa_ok (st_a s) (pc_put (al_p (st_a s)) (8 * p + m.toNat) v w) := pa_put qa.1.2.2.2.2.2 hp h7 (by omega) h6 hv hw
  have ff : FrX [7510] [124, 126] h h2 := ((FrX.refl _ _ h).sub f1 (by decide) (by decide)).sub f2 (by decide) (by decide)
  have okh := hi_push_ok q.1.2.2.1 qa.1.2.2.2.2.2
  unfold F_X12_newPiece
  rw [e1, bd_e, e2, bd_e, show inb (0 : Int32) 225 = true from rfl, gd_t, show (0 : Int32).toNatClampNeg = 0 from rfl, n2.l]
  exact ⟨h2, rfl, q.np ff (by decide) (by decide) n2 ⟨(f2.sg (by simp)).trans hi1.1, fun i hi => (hi1.2 i hi).fr f2 (by decide)⟩ okp okh⟩
/-- a piece told, by what the numbers are -/
theorem m_tell {h : Hp} {s : Sta} (q : JM h s) {x m v w : Int} (hm : 0 ≤ m ∧ m < 2 + (al_k (st_a s)).length) (c1 : 0 ≤ x ∧ x < (al_w (st_a s)).length) (c2 : 0 ≤ v ∧ v ≤ al_most (st_a s) m.toNat) (c3 : 0 ≤ w ∧ w ≤ al_msl m.toNat) : ∃ h', F_X12_newPiece (iI x) (iI m) (iI v) (iI w) h = some (iI (A_tell s x m v w), h') ∧ JM h' (N_tell s x m v w) := by
  have t : tl_c s m v w = true := decide_eq_true ⟨⟨hm, c2⟩, c3⟩
  unfold A_tell N_tell tl_L
  rw [if_pos c1, if_pos t, if_pos ⟨c1, t⟩]
  obtain ⟨p, rfl⟩ : ∃ p : Nat, x = p := ⟨x.toNat, by omega⟩
  obtain ⟨a, rfl⟩ : ∃ p : Nat, v = p := ⟨v.toNat, by omega⟩
  obtain ⟨b, rfl⟩ : ∃ p : Nat, w = p := ⟨w.toNat, by omega⟩
  rw [Int.toNat_natCast, Int.toNat_natCast, Int.toNat_natCast]
  exact m_newPiece q (by omega) hm (by omega) (by omega)
theorem tell_no {s : Sta} {h : Hp} (q : JM h s) {x m v w : Int} (c : (0 ≤ x ∧ x < (al_w (st_a s)).length) → ¬ tl_c s m v w = true) : ∃ h', some (iI (if 0 ≤ x ∧ x < (al_w (st_a s)).length then -3 else -2), h) = some (iI (A_tell s x m v w), h') ∧ JM h' (N_tell s x m v w) := by
  unfold A_tell N_tell
  have nn : ¬ ((0 ≤ x ∧ x < (al_w (st_a s)).length) ∧ tl_c s m v w = true) := fun z => c z.1 z.2
  rw [if_neg nn]
  refine ⟨h, ?_, q⟩
  by_cases d : 0 ≤ x ∧ x < (al_w (st_a s)).length
  · rw [if_pos d, if_pos d, if_neg (c d)]
  · rw [if_neg d, if_neg d]
theorem M_point {h : Hp} {s : Sta} (q : JM h s) {x v w : Int} (hx : -2147483648 ≤ x ∧ x < 2147483648) (hv : -2147483648 ≤ v ∧ v < 2147483648) (hw : -2147483648 ≤ w ∧ w < 2147483648) : ∃ h', F_X12_point (iI x) (iI v) (iI w) h = some (iI (A_tell s x 0 v w), h') ∧ JM h' (N_tell s x 0 v w) := by
  have qa := q.2.2.1
  have m24 : al_most (st_a s) (0 : Int).toNat = 24 := rfl
  have s9 : al_msl (0 : Int).toNat = 9 := rfl
  have no : ¬ ((0 ≤ v ∧ v ≤ 24) ∧ 0 ≤ w ∧ w ≤ 9) → ¬ tl_c s 0 v w = true := fun c t => by
    have := tl_p t
    rw [m24, s9] at this
    omega
  unfold F_X12_point
  rw [m_isPicture qa hx, bd_e]
  by_cases c : 0 ≤ x ∧ x < (al_w (st_a s)).length
  · rw [bI_t c, if_neg (by decide), il_0, il_24, il_9, m_within hv (by omega) (by omega), bd_e, jn_e, jn_e]
    by_cases d : 0 ≤ v ∧ v ≤ 24
    · rw [bI_t d, if_neg (by decide), m_within hw (by omega) (by omega), bd_e]
      by_cases e : 0 ≤ w ∧ w ≤ 9
      · rw [bI_t e, if_neg (by decide)]
        obtain ⟨h', e', q'⟩ := m_tell q (x := x) (m := 0) (v := v) (w := w) (by omega) c (by rw [m24]; omega) (by rw [s9]; omega)
        rw [e', bd_e]
        exact ⟨h', rfl, q'⟩
      · rw [bI_f e, if_pos rfl]
        have := tell_no q (x := x) (m := 0) (v := v) (w := w) (fun _ => no (fun z => e z.2))
        rw [if_pos c] at this
        exact this
    · rw [bI_f d, if_pos rfl]
      have := tell_no q (x := x) (m := 0) (v := v) (w := w) (fun _ => no (fun z => d z.1))
      rw [if_pos c] at this
      exact this
  · rw [bI_f c, if_pos (show iI 0 = 0 from rfl)]
    have := tell_no q (x := x) (m := 0) (v := v) (w := w) (fun z => absurd z c)
    rw [if_neg c] at this
    exact this
theorem M_length {h : Hp} {s : Sta} (q : JM h s) {x v w : Int} (hx : -2147483648 ≤ x ∧ x < 2147483648) (hv : -2147483648 ≤ v ∧ v < 2147483648) (hw : -2147483648 ≤ w ∧ w < 2147483648) : ∃ h', F_X12_length (iI x) (iI v) (iI w) h = some (iI (A_tell s x 1 v w), h') ∧ JM h' (N_tell s x 1 v w) := by
  have qa := q.2.2.1
  have m24 : al_most (st_a s) (1 : Int).toNat = 999 := rfl
  have s9 : al_msl (1 : Int).toNat = 99 := rfl
  have no : ¬ ((0 ≤ v ∧ v ≤ 999) ∧ 0 ≤ w ∧ w ≤ 99) → ¬ tl_c s 1 v w = true := fun c t => by
    have := tl_p t
    rw [m24, s9] at this
    omega
  unfold F_X12_length
  rw [m_isPicture qa hx, bd_e]
  by_cases c : 0 ≤ x ∧ x < (al_w (st_a s)).length
  · rw [bI_t c, if_neg (by decide), il_0, il_999, il_99, m_within hv (by omega) (by omega), bd_e, jn_e, jn_e]
    by_cases d : 0 ≤ v ∧ v ≤ 999
    · rw [bI_t d, if_neg (by decide), m_within hw (by omega) (by omega), bd_e]
      by_cases e : 0 ≤ w ∧ w ≤ 99
      · rw [bI_t e, if_neg (by decide), il_1]
        obtain ⟨h', e', q'⟩ := m_tell q (x := x) (m := 1) (v := v) (w := w) (by omega) c (by rw [m24]; omega) (by rw [s9]; omega)
        rw [e', bd_e]
        exact ⟨h', rfl, q'⟩
      · rw [bI_f e, if_pos rfl]
        have := tell_no q (x := x) (m := 1) (v := v) (w := w) (fun _ => no (fun z => e z.2))
        rw [if_pos c] at this
        exact this
    · rw [bI_f d, if_pos rfl]
      have := tell_no q (x := x) (m := 1) (v := v) (w := w) (fun _ => no (fun z => d z.1))
      rw [if_pos c] at this
      exact this
  · rw [bI_f c, if_pos (show iI 0 = 0 from rfl)]
    have := tell_no q (x := x) (m := 1) (v := v) (w := w) (fun z => absurd z c)
    rw [if_neg c] at this
    exact this
theorem M_see {h : Hp} {s : Sta} (q : JM h s) {x t v : Int} (hx : -2147483648 ≤ x ∧ x < 2147483648) (ht : -2147483648 ≤ t ∧ t < 2147483648) (hv : -2147483648 ≤ v ∧ v < 2147483648) : ∃ h', F_X12_see (iI x) (iI t) (iI v) h = some (iI (A_see s x t v), h') ∧ JM h' (N_see s x t v) := by
  have qa := q.2.2.1
  have h6 := qa.1.2.2.1
  unfold F_X12_see A_see N_see
  rw [m_isPicture qa hx, bd_e, jn_e]
  by_cases c : 0 ≤ x ∧ x < (al_w (st_a s)).length
  · rw [bI_t c, if_neg (by decide), qa.nt, il_0, il_1, iI_sub, m_within ht (by omega) (by omega), bd_e]
    by_cases d : 0 ≤ t ∧ t < (al_k (st_a s)).length
    · have m9 := al_most_le (st_a s) (2 + t).toNat
      have sl : al_msl (2 + t).toNat = 0 := by
        unfold al_msl
        rw [if_neg (by omega), if_neg (by omega)]
      rw [bI_t (by omega), if_neg (by decide), if_pos d, if_pos d, il_2, iI_add, m_mostOf qa (by omega), bd_e, m_within hv (by omega) (by omega), bd_e, jn_e]
      by_cases e : 0 ≤ v ∧ v ≤ al_most (st_a s) (2 + t).toNat
      · rw [bI_t e, if_neg (by decide)]
        obtain ⟨h', e', q'⟩ := m_tell q (x := x) (m := 2 + t) (v := v) (w := 0) (by omega) c e (by omega)
        rw [e', bd_e]
        exact ⟨h', rfl, q'⟩
      · rw [bI_f e, if_pos rfl]
        have := tell_no q (x := x) (m := 2 + t) (v := v) (w := 0) (fun _ z => e (tl_p z).1.2)
        rw [if_pos c] at this
        exact this
    · rw [bI_f (by omega), if_pos rfl, if_neg d, if_neg d]
      exact ⟨h, rfl, q⟩
  · rw [bI_f c, if_pos (show iI 0 = 0 from rfl)]
    by_cases d : 0 ≤ t ∧ t < (al_k (st_a s)).length
    · rw [if_pos d, if_pos d]
      have := tell_no q (x := x) (m := 2 + t) (v := v) (w := 0) (fun z => absurd z c)
      rw [if_neg c] at this
      exact this
    · rw [if_neg d, if_neg d]
      exact ⟨h, rfl, q⟩
theorem M_strike {h : Hp} {s : Sta} (q : JM h s) {x m : Int} (hx : -2147483648 ≤ x ∧ x < 2147483648) (hm : -2147483648 ≤ m ∧ m < 2147483648) : ∃ h', F_X12_strike (iI x) (iI m) h = some (iI (A_strike s x m), h') ∧ JM h' (N_strike s x m) := by
  have qa := q.2.2.1
  have h7 := qa.1.2.1
  have h6 := qa.1.2.2.1
  unfold F_X12_strike A_strike N_strike
  rw [m_isPicture qa hx, bd_e]
  by_cases c : 0 ≤ x ∧ x < (al_w (st_a s)).length
  · rw [bI_t c, if_neg (by decide), m_isMatter qa hm, bd_e, if_pos c]
    by_cases d : 0 ≤ m ∧ m < 2 + (al_k (st_a s)).length
    · rw [bI_t d, if_neg (by decide), if_pos d]
      obtain ⟨p, rfl, hp⟩ := rg_of hx c
      have rn := pc_n_rng qa.1.hp (8 * p + m.toNat)
      rw [m_pieceAt qa.nw (p := p) (m := m) (by omega) (by omega), bd_e]
      by_cases e : pc_ix (al_p (st_a s)) (8 * p + m.toNat) < (al_p (st_a s)).length
      · have t : sk_c s p m = true := decide_eq_true ⟨c, d, by rw [Int.toNat_natCast]; exact e⟩
        have hl := pc_len qa.1.hp
        obtain ⟨h1, e1, hi1⟩ := m_put q.2.2.2.1 q.1.2.2.1.1 qa.nw
        have f1 := fr_X12_put _ _ _ e1
        obtain ⟨h2, e2, n2⟩ := m_remove (qa.nw.fr f1 (by decide)) e
        have f2 := fr_X12_remove _ _ _ _ e2
        have ff : FrX [7510] [124, 126] h h2 := ((FrX.refl _ _ h).sub f1 (by decide) (by decide)).sub f2 (by decide) (by decide)
        rw [rn.2.2.2 e, if_neg (by rw [show (-1 : Int32) = iI (-1) from rfl, iI_eq (by omega) (by omega) (by omega) (by omega)]; omega), if_pos t, if_pos t, e1, bd_e, e2, bd_e, show inb (0 : Int32) 225 = true from rfl, gd_t, show (0 : Int32).toNatClampNeg = 0 from rfl, n2.l]
        unfold sk_L
        rw [Int.toNat_natCast]
        exact ⟨h2, rfl, q.np ff (by decide) (by decide) n2 ⟨(f2.sg (by simp)).trans hi1.1, fun i hi => (hi1.2 i hi).fr f2 (by decide)⟩ (pa_rm qa.1.2.2.2.2.2 e) (hi_push_ok q.1.2.2.1 qa.1.2.2.2.2.2)⟩
      · have t : ¬ sk_c s p m = true := fun z => e (by have := (sk_p z).2.2; rw [Int.toNat_natCast] at this; exact this)
        rw [rn.2.2.1.2 e, if_pos (show iI (-1) = -1 from rfl), if_neg t, if_neg t]
        exact ⟨h, rfl, q⟩
    · rw [bI_f d, if_pos (show iI 0 = 0 from rfl), if_neg d, if_neg (fun z => d (sk_p z).2.1)]
      exact ⟨h, rfl, q⟩
  · rw [bI_f c, if_pos (show iI 0 = 0 from rfl), if_neg c, if_neg (fun z => c (sk_p z).1)]
    exact ⟨h, rfl, q⟩
theorem M_undo {h : Hp} {s : Sta} (q : JM h s) : ∃ h', F_X12_undo h = some (iI (A_undo s), h') ∧ JM h' (N_undo s) := by
  have hi := q.2.2.2.1
  have hl := q.1.2.2.1.1
  unfold F_X12_undo A_undo N_undo
  by_cases c : st_h s = []
  · rw [if_pos c, if_pos c, if_pos (show sG h 7510 = 0 by rw [hi.1, c]; rfl)]
    exact ⟨h, rfl, q⟩
  · have hp : 0 < (st_h s).length := List.length_pos_iff.2 c
    rw [if_neg c, if_neg c, if_neg (show ¬ sG h 7510 = 0 by rw [hi.1, il_0, iI_eq (by omega) (by omega) (by omega) (by omega)]; omega), jl_e, hi.1, il_1, iI_sub, show ((st_h s).length : Int) - 1 = (((st_h s).length - 1 : Nat) : Int) by omega, sG_sS_s]
    have f1 : FrX [7510] [] h (sS h 7510 (iI (((st_h s).length - 1 : Nat) : Int))) := (FrX.refl _ _ h).sS (by decide) _
    obtain ⟨h2, e2, b2⟩ := m_bring (c := 126) (d := 124) (n1 := 1800) (n2 := 225) (x := 225 * ((st_h s).length - 1)) (y := 0) (n := 225) (sS h 7510 (iI (((st_h s).length - 1 : Nat) : Int))) (by omega) (by omega) (by omega) (by omega) (Or.inl (by decide))
    have f2 := fr_X12_bring _ _ _ _ _ _ _ _ _ _ e2
    have e2' : F_X12_bring 126 1800 ((225 : Int32) * iI (((st_h s).length - 1 : Nat) : Int)) 124 225 (0 : Int32) (225 : Int32) (sS h 7510 (iI (((st_h s).length - 1 : Nat) : Int))) = some ((), h2) := by
      rw [il_225, iI_mul, show (225 : Int) * (((st_h s).length - 1 : Nat) : Int) = ((225 * ((st_h s).length - 1) : Nat) : Int) by omega]
      exact e2
    have ff : FrX [7510] [124, 126] h h2 := ((FrX.refl _ _ h).sub f1 (by decide) (by decide)).sub f2 (by decide) (by decide)
    have sl : sG h2 7510 = iI (((st_h s).length - 1 : Nat) : Int) := (f2.sg (by decide)).trans (sG_sS_s ..)
    rw [e2', bd_e, sl]
    have last := (hi.2 ((st_h s).length - 1) (by omega)).fr f1 (by simp)
    have nl : NwC h2 ((st_h s).getD ((st_h s).length - 1) []) := PmC.bring (p := 0) last b2
    have eg : ∀ i, i < (st_h s).length - 1 → (st_h s).dropLast.getD i [] = (st_h s).getD i [] := fun i h1 => by
      rw [List.getD_eq_getElem?_getD, List.getD_eq_getElem?_getD, List.getElem?_dropLast, if_pos h1]
    refine ⟨h2, rfl, q.np ff (by decide) (by decide) nl ⟨?_, fun i h1 => ?_⟩ (q.1.2.2.1.2 _ (by omega)) ⟨?_, fun i h1 => ?_⟩⟩
    · rw [List.length_dropLast]
      exact sl
    · rw [List.length_dropLast] at h1
      rw [eg i h1]
      exact ((hi.2 i (by omega)).fr f1 (by simp)).fr f2 (by decide)
    · rw [List.length_dropLast]
      omega
    · rw [List.length_dropLast] at h1
      rw [eg i h1]
      exact q.1.2.2.1.2 i (by omega)
theorem M_keep {h : Hp} {s : Sta} (q : JM h s) {k : Int} (hk : -2147483648 ≤ k ∧ k < 2147483648) : ∃ h', F_X12_keep (iI k) h = some (iI (A_keep s k), h') ∧ JM h' (N_keep s k) := by
  have qa := q.2.2.1
  unfold F_X12_keep A_keep N_keep
  rw [show F_X12_within (iI k) (0 : Int32) (1 : Int32) h = some (bI (0 ≤ k ∧ k ≤ 1), h) from m_within (lo := 0) (hi := 1) hk (by omega) (by omega) h, bd_e]
  by_cases c : 0 ≤ k ∧ k < 2
  · obtain ⟨n, rfl, hn⟩ := rg_of hk (n := 2) c
    obtain ⟨h1, e1, b1⟩ := m_bring (c := 124) (d := 127) (n1 := 225) (n2 := 450) (x := 0) (y := 225 * n) (n := 225) h (by omega) (by omega) (by omega) (by omega) (Or.inl (by decide))
    have f1 := fr_X12_bring _ _ _ _ _ _ _ _ _ _ e1
    have e1' : F_X12_bring 124 225 (0 : Int32) 127 450 ((225 : Int32) * iI (n : Int)) (225 : Int32) h = some ((), h1) := by
      rw [il_225, iI_mul, show (225 : Int) * (n : Int) = ((225 * n : Nat) : Int) by omega]
      exact e1
    rw [bI_t (show 0 ≤ (n : Int) ∧ (n : Int) ≤ 1 by omega), if_neg (by decide), if_pos c, if_pos c, e1', bd_e, gd_in (by omega) (by omega) (by omega), jl_e, iI_cl (by omega) (by omega), Int.toNat_natCast, show vp_nar .boolean (1 : Int32) = iI 1 from rfl, show inb (0 : Int32) 225 = true from rfl, gd_t, show (0 : Int32).toNatClampNeg = 0 from rfl]
    have f2 : FrX [] [128] h1 (aS h1 128 n (iI 1)) := (FrX.refl _ _ h1).aS (by decide) _ _
    have ff : FrX [] [127, 128] h (aS h1 128 n (iI 1)) := ((FrX.refl _ _ h).sub f1 (by decide) (by decide)).sub f2 (by decide) (by decide)
    have ql : aG (aS h1 128 n (iI 1)) 124 0 = iI (al_p (st_a s)).length := (ff.ag (by decide) 0).trans qa.nw.l
    rw [ql]
    obtain ⟨q0, q1, q2, q3, q4, q5⟩ := q
    refine ⟨_, rfl, ⟨q0.1, q0.2.1, q0.2.2.1, fun j L e => ?_, q0.2.2.2.2⟩, q1.fr ff (by decide) (by decide), q2.fr ff (by decide) (by decide), q3.fr ff (by decide) (by decide), fun j hj => ?_, q5.fr ff (by decide) (by decide) (by decide)⟩
    · have e : (if j = n then some (al_p (st_a s)) else st_k s j) = some L := e
      by_cases d : j = n
      · rw [if_pos d] at e
        cases e
        exact q0.2.1.2.2.2.2.2
      · rw [if_neg d] at e
        exact q0.2.2.2.1 j L e
    · show ((if j = n then some (al_p (st_a s)) else st_k s j) = none → _) ∧ (∀ L, (if j = n then some (al_p (st_a s)) else st_k s j) = some L → _)
      by_cases d : j = n
      · subst d
        rw [if_pos rfl]
        refine ⟨fun z => (by cases z), fun L e => ?_⟩
        cases e
        exact ⟨aG_aS_s .., PmC.fr (PmC.bring (o := 0) q2.nw b1) f2 (by decide)⟩
      · rw [if_neg d]
        have a1 : aG (aS h1 128 n (iI 1)) 128 j = aG h 128 j := (aG_aS_j d ..).trans (f1.ag (by decide) j)
        refine ⟨fun e => a1.trans ((q4 j hj).1 e), fun L e => ⟨a1.trans ((q4 j hj).2 L e).1, ?_⟩⟩
        refine PmC.fr ?_ f2 (by decide)
        exact ((q4 j hj).2 L e).2.same (fun i h1 h2 => by rw [b1, if_neg (by omega)])
  · rw [bI_f (show ¬ (0 ≤ k ∧ k ≤ 1) by omega), if_pos (show iI 0 = 0 from rfl), if_neg c, if_neg c]
    exact ⟨h, rfl, q⟩
theorem M_back {h : Hp} {s : Sta} (q : JM h s) {k : Int} (hk : -2147483648 ≤ k ∧ k < 2147483648) : ∃ h', F_X12_back (iI k) h = some (iI (A_back s k), h') ∧ JM h' (N_back s k) := by
  have q4 := q.2.2.2.2.1
  unfold F_X12_back A_back N_back
  rw [show F_X12_within (iI k) (0 : Int32) (1 : Int32) h = some (bI (0 ≤ k ∧ k ≤ 1), h) from m_within (lo := 0) (hi := 1) hk (by omega) (by omega) h, bd_e]
  by_cases c : 0 ≤ k ∧ k < 2
  · obtain ⟨n, rfl, hn⟩ := rg_of hk (n := 2) c
    rw [bI_t (show 0 ≤ (n : Int) ∧ (n : Int) ≤ 1 by omega), if_neg (by decide), if_pos c, if_pos c, gd_in (by omega) (by omega) (by omega), iI_cl (by omega) (by omega), Int.toNat_natCast]
    cases e : st_k s n with
    | none =>
      rw [if_pos (show aG h 128 n = 0 from (q4 n hn).1 e)]
      exact ⟨h, rfl, q⟩
    | some L =>
      obtain ⟨k1, k2⟩ := (q4 n hn).2 L e
      obtain ⟨h1, e1, b1⟩ := m_bring (c := 127) (d := 124) (n1 := 450) (n2 := 225) (x := 225 * n) (y := 0) (n := 225) h (by omega) (by omega) (by omega) (by omega) (Or.inl (by decide))
      have f1 := fr_X12_bring _ _ _ _ _ _ _ _ _ _ e1
      have e1' : F_X12_bring 127 450 ((225 : Int32) * iI (n : Int)) 124 225 (0 : Int32) (225 : Int32) h = some ((), h1) := by
        rw [il_225, iI_mul, show (225 : Int) * (n : Int) = ((225 * n : Nat) : Int) by omega]
        exact e1
      have nl : NwC h1 L := PmC.bring (p := 0) k2 b1
      have f2 : FrX [7510] [] h1 (sS h1 7510 0) := (FrX.refl _ _ h1).sS (by decide) _
      have ff : FrX [7510] [124, 126] h (sS h1 7510 0) := ((FrX.refl _ _ h).sub f1 (by decide) (by decide)).sub f2 (by decide) (by decide)
      have nl2 : NwC (sS h1 7510 0) L := nl.fr f2 (by simp)
      rw [if_neg (show ¬ aG h 128 n = 0 by rw [k1]; decide), e1', bd_e, jl_e, show inb (0 : Int32) 225 = true from rfl, gd_t, show (0 : Int32).toNatClampNeg = 0 from rfl, nl2.l]
      exact ⟨_, rfl, q.np ff (by decide) (by decide) nl2 ⟨rfl, fun i hi => absurd hi (Nat.not_lt_zero i)⟩ (q.1.2.2.2.1 n L e) ⟨Nat.zero_le _, fun i hi => absurd hi (Nat.not_lt_zero i)⟩⟩
  · rw [bI_f (show ¬ (0 ≤ k ∧ k ≤ 1) by omega), if_pos (show iI 0 = 0 from rfl), if_neg c, if_neg c]
    exact ⟨h, rfl, q⟩
