-- ===== the class's deeds on the history =====
def A_undo (s : Sta) : Int := if st_h s = [] then -4 else (((st_h s).length - 1 : Nat) : Int)
def N_undo (s : Sta) : Sta := if st_h s = [] then s else N_p s ((st_h s).getD ((st_h s).length - 1) []) (st_h s).dropLast
theorem C_undo {h : Hp} {s : Sta} (q : JC h s) : ∃ h', F_X11_undo h = some (iI (A_undo s), h') ∧ JC h' (N_undo s) := by
  have hH := q.2.2.2.1
  have okH := q.1.2.2.1
  unfold F_X11_undo A_undo N_undo
  by_cases c : st_h s = []
  · rw [if_pos c, if_pos c]
    rw [c] at hH
    rw [c_restoreNone hH, bd_e, if_pos rfl]
    exact ⟨h, rfl, q⟩
  · rw [if_neg c, if_neg c]
    have hp : 0 < (st_h s).length := List.length_pos_iff.2 c
    obtain ⟨h1, e1, q1, p1⟩ := c_restoreLatest hH okH.1 c
    have f := fr_X2_restoreLatest _ _ _ _ e1
    have ok2 : (st_h s).dropLast.length ≤ 8 ∧ ∀ i, i < (st_h s).dropLast.length → pa_ok (st_a s) ((st_h s).dropLast.getD i []) := by
      rw [List.length_dropLast]
      refine ⟨by omega, fun i hi => ?_⟩
      have eg : (st_h s).dropLast.getD i [] = (st_h s).getD i [] := by
        rw [List.getD_eq_getElem?_getD, List.getD_eq_getElem?_getD, List.getElem?_dropLast, if_pos hi]
      rw [eg]
      exact okH.2 i (by omega)
    obtain ⟨h2, e2, q2, -, l2⟩ := c_fin q f (by decide) (by decide) p1 q1 (okH.2 _ (by omega)) ok2
    rw [e1, bd_e, if_neg (by decide), e2, bd_e, l2, List.length_dropLast]
    exact ⟨h2, rfl, q2⟩
def N_k (s : Sta) (K : Nat → Option (List Pc)) : Sta := (st_t s, st_a s, st_h s, K, st_z s)
def A_keep (s : Sta) (k : Int) : Int := if 0 ≤ k ∧ k < 2 then ((al_p (st_a s)).length : Int) else -2
def N_keep (s : Sta) (k : Int) : Sta := if 0 ≤ k ∧ k < 2 then N_k s (fun j => if j = k.toNat then some (al_p (st_a s)) else st_k s j) else s
theorem C_keep {h : Hp} {s : Sta} (q : JC h s) {k : Int} (hk : -2147483648 ≤ k ∧ k < 2147483648) : ∃ h', F_X11_keep (iI k) h = some (iI (A_keep s k), h') ∧ JC h' (N_keep s k) := by
  unfold F_X11_keep A_keep N_keep
  rw [jn_e]
  by_cases c : 0 ≤ k ∧ k < 2
  · obtain ⟨j, e, hj⟩ := rg_of hk (n := 2) c
    subst e
    have hP : PcC 5 h (al_p (st_a s)) := q.2.2.1.2.2.2.2.1
    obtain ⟨h1, e1, k1⟩ := c_store q.2.2.2.2.1 hj hP
    have f := fr_X2_store _ _ _ _ _ e1
    rw [if_pos c, if_pos c, if_neg (by show ¬ iI (j : Int) < iI 0; rw [iI_lt (by omega) (by omega) (by omega) (by omega)]; omega), if_pos (by show iI (j : Int) < iI 2; rw [iI_lt (by omega) (by omega) (by omega) (by omega)]; omega), e1, bd_e, Int.toNat_natCast]
    have l1 : sG h1 320 = iI (al_p (st_a s)).length := (f.sg (by decide)).trans hP.2.1
    rw [l1]
    obtain ⟨q0, q1, q2, q3, q4, q5, q6⟩ := q
    refine ⟨h1, rfl, ⟨q0.1, q0.2.1, q0.2.2.1, fun i L z => ?_, q0.2.2.2.2⟩, ?_, ?_, ?_, k1, ⟨fun i hi => ?_, fun i a hi ha hb => ?_, ?_⟩, ?_⟩
    · have z : (if i = j then some (al_p (st_a s)) else st_k s i) = some L := z
      by_cases d : i = j
      · rw [if_pos d] at z
        cases z
        exact q0.2.1.2.2.2.2.2
      · rw [if_neg d] at z
        exact q0.2.2.2.1 i L z
    · exact q1.fr f (by decide) (by decide)
    · exact q2.fr f (by decide) (by decide)
    · exact q3.fr f (by decide) (by decide)
    · exact (f.ag (by decide) i).trans (q5.1 i hi)
    · exact (f.lg (by decide) _).trans (q5.2.1 i a hi ha hb)
    · exact (f.tg (by decide)).trans q5.2.2
    · exact q6.fr f (by decide) (by decide)
  · rw [if_neg c, if_neg c]
    refine ⟨h, ?_, q⟩
    by_cases d : k < 0
    · rw [if_pos (by show iI k < iI 0; rw [iI_lt (by omega) (by omega) (by omega) (by omega)]; exact d)]
      rfl
    · rw [if_neg (by show ¬ iI k < iI 0; rw [iI_lt (by omega) (by omega) (by omega) (by omega)]; exact d), if_neg (by show ¬ iI k < iI 2; rw [iI_lt (by omega) (by omega) (by omega) (by omega)]; omega)]
      rfl
def A_back (s : Sta) (k : Int) : Int := if 0 ≤ k ∧ k < 2 then (match st_k s k.toNat with | none => -4 | some L => (L.length : Int)) else -2
def N_back (s : Sta) (k : Int) : Sta := if 0 ≤ k ∧ k < 2 then (match st_k s k.toNat with | none => s | some L => N_p s L []) else s
theorem C_back {h : Hp} {s : Sta} (q : JC h s) {k : Int} (hk : -2147483648 ≤ k ∧ k < 2147483648) : ∃ h', F_X11_back (iI k) h = some (iI (A_back s k), h') ∧ JC h' (N_back s k) := by
  unfold F_X11_back A_back N_back
  rw [jn_e]
  by_cases c : 0 ≤ k ∧ k < 2
  · obtain ⟨j, e, hj⟩ := rg_of hk (n := 2) c
    subst e
    have kk := c_restoreKept q.2.2.2.2.1 q.2.2.2.1 hj
    rw [if_pos c, if_pos c, if_neg (by show ¬ iI (j : Int) < iI 0; rw [iI_lt (by omega) (by omega) (by omega) (by omega)]; omega), if_pos (by show iI (j : Int) < iI 2; rw [iI_lt (by omega) (by omega) (by omega) (by omega)]; omega), Int.toNat_natCast]
    cases z : st_k s j with
    | none =>
      rw [kk.1 z, bd_e, if_pos rfl]
      exact ⟨h, rfl, q⟩
    | some L =>
      obtain ⟨h1, e1, p1, q1⟩ := kk.2 L z
      have f := fr_X2_restoreKept _ _ _ _ _ e1
      obtain ⟨h2, e2, q2, l2, -⟩ := c_fin q f (by decide) (by decide) p1 q1 (q.1.2.2.2.1 j L z) ⟨Nat.zero_le _, fun i hi => absurd hi (Nat.not_lt_zero i)⟩
      rw [e1, bd_e, if_neg (by decide), e2, bd_e, l2]
      exact ⟨h2, rfl, q2⟩
  · rw [if_neg c, if_neg c]
    refine ⟨h, ?_, q⟩
    by_cases d : k < 0
    · rw [if_pos (by show iI k < iI 0; rw [iI_lt (by omega) (by omega) (by omega) (by omega)]; exact d)]
      rfl
    · rw [if_neg (by show ¬ iI k < iI 0; rw [iI_lt (by omega) (by omega) (by omega) (by omega)]; exact d), if_neg (by show ¬ iI k < iI 2; rw [iI_lt (by omega) (by omega) (by omega) (by omega)]; omega)]
      rfl
