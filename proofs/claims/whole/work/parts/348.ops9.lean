-- ===== the class's deeds =====
def N_p (s : Sta) (L : List Pc) (H : List (List Pc)) : Sta := (st_t s, al_set (st_a s) L, H, st_k s, st_z s)
theorem c_fin {h h1 : Hp} {s : Sta} (q : JC h s) {S A : List Nat} (f : FrX S A h h1) (n0 : ∀ v, v ∈ S → v = 320 ∨ v = 1408 ∨ v = 1409 ∨ (1600 ≤ v ∧ v < 4160)) (n1 : ∀ k, k ∈ A → (6 ≤ k ∧ k ≤ 9) ∨ (25 ≤ k ∧ k < 65)) {L : List Pc} {H : List (List Pc)} (hP : PcC 5 h1 L) (hH : HiC h1 H) (okL : pa_ok (st_a s) L) (okH : H.length ≤ 8 ∧ ∀ i, i < H.length → pa_ok (st_a s) (H.getD i [])) : ∃ h2, F_X11_forgetFindings h1 = some ((), h2) ∧ JC h2 (N_p s L H) ∧ sG h2 320 = iI L.length ∧ sG h2 1408 = iI H.length := by
  obtain ⟨q0, q1, q2, q3, q4, q5, -⟩ := q
  obtain ⟨a0, a1, a2, ⟨a3, a4, a5, a6⟩, -, a7, a8⟩ := q2
  obtain ⟨h2, e2, c2⟩ := c_forget h1
  have g := fr_X11_forgetFindings _ _ _ e2
  have gs : ∀ v, v ∈ [4800, 5248, 5504, 5829, 5830, 5831] → 4800 ≤ v ∧ v < 5832 := by decide
  have ga : ∀ k : Nat, k ∈ ([] : List Nat) → False := by simp
  have s2 : ∀ v, v ∉ S → v < 4800 → sG h2 v = sG h v := fun v c d => (g.sg (fun z => by have := gs v z; omega)).trans (f.sg c)
  have t2 : ∀ k i, k ∉ A → aG h2 k i = aG h k i := fun k i c => (g.ag (fun z => ga k z) i).trans (f.ag c i)
  have hP2 : PcC 5 h2 L := hP.fr g (by decide) (by simp) (by simp) (by simp) (by simp)
  have hH2 : HiC h2 H := hH.fr g (fun v z => by have := gs v z; omega) (fun k z => (ga k z).elim)
  refine ⟨h2, e2, ⟨⟨q0.1, al_ok_set a0 okL, okH, q0.2.2.2.1, q0.2.2.2.2⟩, ?_, ⟨al_ok_set a0 okL, ?_, ?_, ⟨?_, ?_, ?_, a6⟩, hP2, fun i hi => ?_, fun i hi => ?_⟩, hH2, ?_, ?_, c2 _⟩, hP2.2.1, hH2.1⟩
  · exact (q1.fr f (fun z => by have := n0 _ z; omega) (fun z => by have := n1 _ z; omega)).fr g (fun z => by have := gs _ z; omega) (by simp)
  · exact (s2 192 (fun z => by have := n0 _ z; omega) (by omega)).trans a1
  · exact (s2 193 (fun z => by have := n0 _ z; omega) (by omega)).trans a2
  · exact (s2 256 (fun z => by have := n0 _ z; omega) (by omega)).trans a3
  · exact (s2 257 (fun z => by have := n0 _ z; omega) (by omega)).trans a4
  · exact (s2 258 (fun z => by have := n0 _ z; omega) (by omega)).trans a5
  · exact (t2 10 i (fun z => by have := n1 _ z; omega)).trans (a7 i hi)
  · exact (t2 11 i (fun z => by have := n1 _ z; omega)).trans (a8 i hi)
  · exact (q4.fr f (fun v z => by have := n0 _ z; omega) (fun k z => by have := n1 _ z; omega)).fr g (fun v z => by have := gs _ z; omega) (fun k z => (ga k z).elim)
  · refine ⟨fun i hi => (t2 115 i (fun z => by have := n1 _ z; omega)).trans (q5.1 i hi), fun i j hi hj hk => ?_, ?_⟩
    · exact ((g.lg (fun z => ga 116 z) _).trans (f.lg (fun z => by have := n1 _ z; omega) _)).trans (q5.2.1 i j hi hj hk)
    · exact ((g.tg (fun z => by have := gs _ z; omega)).trans (f.tg (fun z => by have := n0 _ z; omega))).trans q5.2.2
theorem hi_push_ok {a : Alb} {H : List (List Pc)} {L : List Pc} (okH : H.length ≤ 8 ∧ ∀ i, i < H.length → pa_ok a (H.getD i [])) (okL : pa_ok a L) : (hi_push H L).length ≤ 8 ∧ ∀ i, i < (hi_push H L).length → pa_ok a ((hi_push H L).getD i []) := by
  have key : ∀ K : List (List Pc), K.length < 8 → (∀ i, i < K.length → pa_ok a (K.getD i [])) → (K ++ [L]).length ≤ 8 ∧ ∀ i, i < (K ++ [L]).length → pa_ok a ((K ++ [L]).getD i []) := by
    intro K hl ok
    rw [List.length_append]
    refine ⟨by show K.length + 1 ≤ 8; omega, fun i hi => ?_⟩
    have hi : i < K.length + 1 := hi
    by_cases c : i < K.length
    · rw [List.getD_eq_getElem?_getD, List.getElem?_append_left c, ← List.getD_eq_getElem?_getD]
      exact ok i c
    · have ei : i = K.length := by omega
      subst ei
      rw [List.getD_eq_getElem?_getD, List.getElem?_append_right (Nat.le_refl _), Nat.sub_self]
      exact okL
  unfold hi_push
  by_cases c : H.length = 8
  · rw [if_pos c]
    refine key _ (by rw [List.length_drop]; omega) (fun i hi => ?_)
    rw [List.length_drop] at hi
    rw [hi_drop_getD]
    exact okH.2 (i + 1) (by omega)
  · rw [if_neg c]
    exact key H (by omega) okH.2
theorem c_mostSlack {m : Nat} (hm : m < 8) (h : Hp) : F_X11_mostSlack (iI m) h = some (iI (al_msl m), h) := by
  unfold F_X11_mostSlack al_msl
  simp (maxSteps := 3000000) (implicitDefEqProofs := false) (disch := omega) only [jl_e, jn_e, bd_e, gd_t, iI_add, iI_sub, iI_mul, iI_neg, if_true, if_false, not_true_eq_false, not_false_eq_true, Int.reduceEq, Nat.add_zero, Int.toNat_natCast, iI_cl, iI_lt, iI_eq, gd_in, bI_eq0, bI_eq1, bI_isB, isB_0, isB_1, il_0, il_1, il_2, il_3, il_4, il_5, il_6, il_7, il_8, il_9, il_10, il_12, il_16, il_18, il_24, il_27, il_30, il_31, il_32, il_40, il_47, il_48, il_49, il_55, il_56, il_57, il_59, il_63, il_64, il_96, il_97, il_98, il_99, il_101, il_103, il_104, il_105, il_108, il_109, il_110, il_111, il_112, il_114, il_115, il_116, il_117, il_119, il_122, il_127, il_128, il_200, il_225, il_255, il_256, il_999, il_1575, il_9999, il_65536, il_252645135, il_858993459, il_1431655765]
  by_cases c : m = 0
  · rw [if_pos (by omega), if_pos c]
    rfl
  · by_cases d : m = 1
    · rw [if_neg (by omega), if_pos (by omega), if_neg c, if_pos d]
      rfl
    · rw [if_neg (by omega), if_neg (by omega), if_neg c, if_neg d]
      rfl
def tl_c (s : Sta) (m v w : Int) : Bool := decide (((0 ≤ m ∧ m < 2 + (al_k (st_a s)).length) ∧ 0 ≤ v ∧ v ≤ al_most (st_a s) m.toNat) ∧ 0 ≤ w ∧ w ≤ al_msl m.toNat)
theorem tl_p {s : Sta} {m v w : Int} (h : tl_c s m v w = true) : ((0 ≤ m ∧ m < 2 + (al_k (st_a s)).length) ∧ 0 ≤ v ∧ v ≤ al_most (st_a s) m.toNat) ∧ 0 ≤ w ∧ w ≤ al_msl m.toNat := of_decide_eq_true h
def tl_L (s : Sta) (x m v w : Int) : List Pc := pc_put (al_p (st_a s)) (8 * x.toNat + m.toNat) v.toNat w.toNat
def A_tell (s : Sta) (x m v w : Int) : Int := if 0 ≤ x ∧ x < (al_w (st_a s)).length then (if tl_c s m v w then ((tl_L s x m v w).length : Int) else -3) else -2
def N_tell (s : Sta) (x m v w : Int) : Sta := if (0 ≤ x ∧ x < (al_w (st_a s)).length) ∧ tl_c s m v w then N_p s (tl_L s x m v w) (hi_push (st_h s) (al_p (st_a s))) else s
theorem c_tell {h : Hp} {s : Sta} (q : JC h s) {x m v w : Int} (hx : -2147483648 ≤ x ∧ x < 2147483648) (hm : -2147483648 ≤ m ∧ m < 2147483648) (hv : -2147483648 ≤ v ∧ v < 2147483648) (hw : -2147483648 ≤ w ∧ w < 2147483648) : ∃ h', F_X11_tell (iI x) (iI m) (iI v) (iI w) h = some (iI (A_tell s x m v w), h') ∧ JC h' (N_tell s x m v w) := by
  have hA := q.2.2.1
  have hnp := hA.1.2.1
  have hnt := hA.1.2.2.1
  unfold F_X11_tell A_tell N_tell
  rw [c_hasPicture hA hx, bd_e]
  by_cases c : 0 ≤ x ∧ x < (al_w (st_a s)).length
  · rw [if_neg (by rw [bI_zero]; exact fun z => z c), if_pos c, c_takesValue hA hm hv, bd_e, jn_e]
    obtain ⟨p, e, hp⟩ := rg_of hx c
    subst e
    by_cases c1 : (0 ≤ m ∧ m < 2 + (al_k (st_a s)).length) ∧ 0 ≤ v ∧ v ≤ al_most (st_a s) m.toNat
    · rw [if_neg (by rw [bI_zero]; exact fun z => z c1)]
      obtain ⟨k, ek⟩ : ∃ k : Nat, m = k := ⟨m.toNat, by omega⟩
      obtain ⟨u, eu⟩ : ∃ u : Nat, v = u := ⟨v.toNat, by omega⟩
      subst ek eu
      have ms := al_msl_le k
      have mo := al_most_le (st_a s) k
      rw [Int.toNat_natCast] at c1
      by_cases d0 : w < 0
      · rw [if_pos (by show iI w < iI 0; rw [iI_lt (by omega) (by omega) (by omega) (by omega)]; exact d0), if_neg (fun z => by have := (tl_p z).2.1; omega), if_neg (fun z => by have := (tl_p z.2).2.1; omega)]
        exact ⟨h, rfl, q⟩
      · rw [if_neg (by show ¬ iI w < iI 0; rw [iI_lt (by omega) (by omega) (by omega) (by omega)]; exact d0), c_mostSlack (show k < 8 by omega), bd_e]
        have lt : (iI (al_msl k : Int) < iI w) = ((al_msl k : Int) < w) := iI_lt (by omega) (by omega) (by omega) (by omega)
        by_cases d1 : (al_msl k : Int) < w
        · rw [if_pos (by rw [lt]; exact d1), if_neg (fun z => by have := (tl_p z).2.2; rw [Int.toNat_natCast] at this; omega), if_neg (fun z => by have := (tl_p z.2).2.2; rw [Int.toNat_natCast] at this; omega)]
          exact ⟨h, rfl, q⟩
        · obtain ⟨r, er⟩ : ∃ r : Nat, w = r := ⟨w.toNat, by omega⟩
          subst er
          have tc : tl_c s k u r = true := decide_eq_true ⟨⟨c1.1, by rw [Int.toNat_natCast]; exact c1.2⟩, by rw [Int.toNat_natCast]; omega⟩
          have hp5 : PcC 5 h (al_p (st_a s)) := hA.2.2.2.2.1
          rw [if_neg (by rw [lt]; exact d1), if_pos tc, if_pos ⟨c, tc⟩]
          obtain ⟨h1, e1, q1⟩ := c_remember q.2.2.2.1 q.1.2.2.1.1 hp5
          have f1 := fr_X2_remember _ _ _ _ e1
          have p1 : PcC 5 h1 (al_p (st_a s)) := hp5.fr f1 (by decide) (by decide) (by decide) (by decide) (by decide)
          obtain ⟨h2, e2, p2⟩ := c_put p1 (a := (p : Int)) (b := (k : Int)) (v := u) (s := r) (by omega) (by omega) (by omega) (by omega)
          have f2 := fr_X5_put _ _ _ _ _ _ _ _ e2
          rw [show ((p : Int) * 8 + (k : Int)).toNat = 8 * p + k by omega] at p2
          have q2 : HiC h2 (hi_push (st_h s) (al_p (st_a s))) := q1.fr f2 (by decide) (by decide)
          have f : FrX (320 :: [1408, 1409, 1600, 1920, 2240, 2560, 2880, 3200, 3520, 3840]) ([6, 7, 8, 9] ++ [26, 27, 28, 29, 31, 32, 33, 34, 36, 37, 38, 39, 41, 42, 43, 44, 46, 47, 48, 49, 51, 52, 53, 54, 56, 57, 58, 59, 61, 62, 63, 64]) h h2 := (f1.mono (by decide) (by decide)).sub f2 (by decide) (by decide)
          have okL : pa_ok (st_a s) (tl_L s p k u r) := pa_put (m := k) (v := u) (s := r) hA.1.2.2.2.2.2 hp hnp (by omega) hnt (by omega) (by omega)
          obtain ⟨h3, e3, q3, l3, -⟩ := c_fin q f (by decide) (by decide) (L := tl_L s p k u r) p2 q2 okL (hi_push_ok q.1.2.2.1 hA.1.2.2.2.2.2)
          rw [e1, bd_e, e2, bd_e, e3, bd_e, l3]
          exact ⟨h3, rfl, q3⟩
    · rw [if_pos (by rw [bI_zero]; exact c1), if_neg (fun z => c1 (tl_p z).1), if_neg (fun z => c1 (tl_p z.2).1)]
      exact ⟨h, rfl, q⟩
  · rw [if_pos (by rw [bI_zero]; exact c), if_neg c, if_neg (fun z => c z.1)]
    exact ⟨h, rfl, q⟩
theorem C_point {h : Hp} {s : Sta} (q : JC h s) {x v w : Int} (hx : -2147483648 ≤ x ∧ x < 2147483648) (hv : -2147483648 ≤ v ∧ v < 2147483648) (hw : -2147483648 ≤ w ∧ w < 2147483648) : ∃ h', F_X11_point (iI x) (iI v) (iI w) h = some (iI (A_tell s x 0 v w), h') ∧ JC h' (N_tell s x 0 v w) := by
  obtain ⟨h', e, q'⟩ := c_tell q hx (m := 0) (by omega) hv hw
  have e' : F_X11_tell (iI x) (0 : Int32) (iI v) (iI w) h = _ := e
  unfold F_X11_point
  rw [e', bd_e]
  exact ⟨h', rfl, q'⟩
theorem C_length {h : Hp} {s : Sta} (q : JC h s) {x v w : Int} (hx : -2147483648 ≤ x ∧ x < 2147483648) (hv : -2147483648 ≤ v ∧ v < 2147483648) (hw : -2147483648 ≤ w ∧ w < 2147483648) : ∃ h', F_X11_length (iI x) (iI v) (iI w) h = some (iI (A_tell s x 1 v w), h') ∧ JC h' (N_tell s x 1 v w) := by
  obtain ⟨h', e, q'⟩ := c_tell q hx (m := 1) (by omega) hv hw
  have e' : F_X11_tell (iI x) (1 : Int32) (iI v) (iI w) h = _ := e
  unfold F_X11_length
  rw [e', bd_e]
  exact ⟨h', rfl, q'⟩
def A_see (s : Sta) (x t v : Int) : Int := if 0 ≤ t ∧ t < (al_k (st_a s)).length then A_tell s x (2 + t) v 0 else -2
def N_see (s : Sta) (x t v : Int) : Sta := if 0 ≤ t ∧ t < (al_k (st_a s)).length then N_tell s x (2 + t) v 0 else s
theorem C_see {h : Hp} {s : Sta} (q : JC h s) {x t v : Int} (hx : -2147483648 ≤ x ∧ x < 2147483648) (ht : -2147483648 ≤ t ∧ t < 2147483648) (hv : -2147483648 ≤ v ∧ v < 2147483648) : ∃ h', F_X11_see (iI x) (iI t) (iI v) h = some (iI (A_see s x t v), h') ∧ JC h' (N_see s x t v) := by
  have hA := q.2.2.1
  have hnt := hA.1.2.2.1
  unfold F_X11_see A_see N_see
  rw [c_hasThing hA ht, bd_e]
  by_cases c : 0 ≤ t ∧ t < (al_k (st_a s)).length
  · obtain ⟨h', e, q'⟩ := c_tell q hx (m := 2 + t) (by omega) hv (w := 0) (by omega)
    have e' : F_X11_tell (iI x) ((2 : Int32) + iI t) (iI v) (0 : Int32) h = some (iI (A_tell s x (2 + t) v 0), h') := by
      show F_X11_tell (iI x) (iI 2 + iI t) (iI v) (iI 0) h = _
      rw [iI_add]
      exact e
    rw [if_neg (by rw [bI_zero]; exact fun z => z c), if_pos c, if_pos c, e', bd_e]
    exact ⟨h', rfl, q'⟩
  · rw [if_pos (by rw [bI_zero]; exact c), if_neg c, if_neg c]
    exact ⟨h, rfl, q⟩
def sk_c (s : Sta) (x m : Int) : Bool := decide ((0 ≤ x ∧ x < (al_w (st_a s)).length) ∧ (0 ≤ m ∧ m < 2 + (al_k (st_a s)).length) ∧ pc_ix (al_p (st_a s)) (8 * x.toNat + m.toNat) < (al_p (st_a s)).length)
theorem sk_p {s : Sta} {x m : Int} (h : sk_c s x m = true) : (0 ≤ x ∧ x < (al_w (st_a s)).length) ∧ (0 ≤ m ∧ m < 2 + (al_k (st_a s)).length) ∧ pc_ix (al_p (st_a s)) (8 * x.toNat + m.toNat) < (al_p (st_a s)).length := of_decide_eq_true h
def sk_L (s : Sta) (x m : Int) : List Pc := pc_rm (al_p (st_a s)) (8 * x.toNat + m.toNat)
def A_strike (s : Sta) (x m : Int) : Int := if 0 ≤ x ∧ x < (al_w (st_a s)).length then (if 0 ≤ m ∧ m < 2 + (al_k (st_a s)).length then (if sk_c s x m then ((sk_L s x m).length : Int) else -4) else -3) else -2
def N_strike (s : Sta) (x m : Int) : Sta := if sk_c s x m then N_p s (sk_L s x m) (hi_push (st_h s) (al_p (st_a s))) else s
theorem C_strike {h : Hp} {s : Sta} (q : JC h s) {x m : Int} (hx : -2147483648 ≤ x ∧ x < 2147483648) (hm : -2147483648 ≤ m ∧ m < 2147483648) : ∃ h', F_X11_strike (iI x) (iI m) h = some (iI (A_strike s x m), h') ∧ JC h' (N_strike s x m) := by
  have hA := q.2.2.1
  have hnp := hA.1.2.1
  have hnt := hA.1.2.2.1
  have hp5 : PcC 5 h (al_p (st_a s)) := hA.2.2.2.2.1
  unfold F_X11_strike A_strike N_strike
  rw [c_hasPicture hA hx, bd_e]
  by_cases c : 0 ≤ x ∧ x < (al_w (st_a s)).length
  · rw [if_neg (by rw [bI_zero]; exact fun z => z c), if_pos c, c_hasMatter hA hm, bd_e]
    obtain ⟨p, e, hp⟩ := rg_of hx c
    subst e
    by_cases c1 : 0 ≤ m ∧ m < 2 + (al_k (st_a s)).length
    · obtain ⟨k, ek⟩ : ∃ k : Nat, m = k := ⟨m.toNat, by omega⟩
      subst ek
      rw [if_neg (by rw [bI_zero]; exact fun z => z c1), if_pos c1, c_numberOf hp5 hx hm, bd_e, if_pos (show 0 ≤ (p : Int) ∧ (p : Int) < 7 ∧ 0 ≤ (k : Int) ∧ (k : Int) < 8 by omega), show ((p : Int) * 8 + (k : Int)).toNat = 8 * p + k by omega]
      obtain ⟨n1, n2, n3, n4⟩ := pc_n_rng hp5.1 (8 * p + k)
      by_cases d : pc_ix (al_p (st_a s)) (8 * p + k) < (al_p (st_a s)).length
      · have tc : sk_c s p k = true := decide_eq_true ⟨c, c1, by rw [Int.toNat_natCast, Int.toNat_natCast]; exact d⟩
        rw [if_neg (by show ¬ iI _ = iI (-1); rw [iI_eq (by omega) (by omega) (by omega) (by omega), n3]; exact fun z => z d), if_pos tc, if_pos tc]
        obtain ⟨h1, e1, q1⟩ := c_remember q.2.2.2.1 q.1.2.2.1.1 hp5
        have f1 := fr_X2_remember _ _ _ _ e1
        have p1 : PcC 5 h1 (al_p (st_a s)) := hp5.fr f1 (by decide) (by decide) (by decide) (by decide) (by decide)
        obtain ⟨h2, e2, p2⟩ := c_remove p1 (a := (p : Int)) (b := (k : Int)) (by omega) (by omega) (by rw [show ((p : Int) * 8 + (k : Int)).toNat = 8 * p + k by omega]; exact d)
        have f2 := fr_X5_remove _ _ _ _ _ _ e2
        rw [show ((p : Int) * 8 + (k : Int)).toNat = 8 * p + k by omega] at p2
        have q2 : HiC h2 (hi_push (st_h s) (al_p (st_a s))) := q1.fr f2 (by decide) (by decide)
        have f : FrX (320 :: [1408, 1409, 1600, 1920, 2240, 2560, 2880, 3200, 3520, 3840]) ([6, 7, 8, 9] ++ [26, 27, 28, 29, 31, 32, 33, 34, 36, 37, 38, 39, 41, 42, 43, 44, 46, 47, 48, 49, 51, 52, 53, 54, 56, 57, 58, 59, 61, 62, 63, 64]) h h2 := (f1.mono (by decide) (by decide)).sub f2 (by decide) (by decide)
        have okL : pa_ok (st_a s) (sk_L s p k) := pa_rm hA.1.2.2.2.2.2 d
        obtain ⟨h3, e3, q3, l3, -⟩ := c_fin q f (by decide) (by decide) (L := sk_L s p k) p2 q2 okL (hi_push_ok q.1.2.2.1 hA.1.2.2.2.2.2)
        rw [e1, bd_e, e2, bd_e, e3, bd_e, l3]
        exact ⟨h3, rfl, q3⟩
      · have tc : ¬ sk_c s p k = true := fun z => d (by have := (sk_p z).2.2; rwa [Int.toNat_natCast, Int.toNat_natCast] at this)
        rw [if_pos (by show iI _ = iI (-1); rw [n3.2 d]), if_neg tc, if_neg tc]
        exact ⟨h, rfl, q⟩
    · rw [if_pos (by rw [bI_zero]; exact c1), if_neg c1, if_neg (fun z => c1 (sk_p z).2.1)]
      exact ⟨h, rfl, q⟩
  · rw [if_pos (by rw [bI_zero]; exact c), if_neg c, if_neg (fun z => c (sk_p z).1)]
    exact ⟨h, rfl, q⟩
