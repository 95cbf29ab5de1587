-- ===== the class's history =====

theorem fm_x : ∀ a : Nat, a < 17 → ((iI (a : Int) ^^^ (8 : Int32)) < 0) = False := by decide +kernel
theorem fm_m : ∀ a : Nat, a < 17 → iI (a : Int) - iI (a : Int) / (8 : Int32) * (8 : Int32) = iI ((a % 8 : Nat) : Int) := by decide +kernel
theorem fm_rf : ∀ r : Nat, r < 8 → rf 23 r = some (25 + 5 * r) := by decide +kernel
theorem fm_sh : ∀ r : Nat, r < 8 → shB (25 + 5 * r) 0 5 = true := by decide +kernel
theorem km_rf : ∀ k : Nat, k < 2 → rf 24 k = some (65 + 5 * k) := by decide +kernel
theorem km_sh : ∀ k : Nat, k < 2 → shB (65 + 5 * k) 0 5 = true := by decide +kernel
theorem c_pastAt {h : Hp} {f n : Nat} (hf : f < 8) (hn : n ≤ 8) (e : sG h 1409 = iI f) : F_X2_pastAt (iI n) h = some (some (25 + 5 * ((f + n) % 8)), h) := by
  have e1 : F_J9_floorMod_7cf53 (iI ((f + n : Nat) : Int)) (8 : Int32) h = some (iI (((f + n) % 8 : Nat) : Int), h) := by
    unfold F_J9_floorMod_7cf53
    have n8 : nz (8 : Int32) = true := by decide
    rw [n8, gd_t, jl_e, jn_e, fm_m _ (by omega), if_neg (by rw [fm_x _ (by omega)]; exact id)]
  have lt : (f + n) % 8 < 8 := Nat.mod_lt _ (by omega)
  unfold F_X2_pastAt
  rw [e, iI_add, show (f : Int) + (n : Int) = ((f + n : Nat) : Int) by omega, e1, bd_e, jn_e]
  simp (maxSteps := 3000000) (implicitDefEqProofs := false) (disch := omega) only [jl_e, jn_e, bd_e, gd_t, iI_add, iI_sub, iI_mul, iI_neg, if_true, if_false, not_true_eq_false, not_false_eq_true, Int.reduceEq, Nat.add_zero, Int.toNat_natCast, iI_cl, iI_lt, iI_eq, gd_in, bI_eq0, bI_eq1, bI_isB, isB_0, isB_1, il_0, il_1, il_2, il_3, il_4, il_5, il_6, il_7, il_8, il_9, il_10, il_12, il_16, il_18, il_24, il_27, il_30, il_31, il_32, il_40, il_47, il_48, il_49, il_55, il_56, il_57, il_59, il_63, il_64, il_96, il_97, il_98, il_99, il_101, il_103, il_104, il_105, il_108, il_109, il_110, il_111, il_112, il_114, il_115, il_116, il_117, il_119, il_122, il_127, il_128, il_200, il_225, il_255, il_256, il_999, il_1575, il_9999, il_65536, il_252645135, il_858993459, il_1431655765]
  rw [if_pos (by omega), fm_rf _ lt]
theorem jo_some {ρ : Type} (a : Nat) (f0 : ρ) (f1 : Nat → ρ) : jo (some a) f0 f1 = f1 a := rfl
def hi_push (H : List (List Pc)) (L : List Pc) : List (List Pc) := (if H.length = 8 then H.drop 1 else H) ++ [L]
theorem HiC.at {h : Hp} {H : List (List Pc)} (q : HiC h H) (hl : H.length ≤ 8) {L : List Pc} {r : Nat} (h1 : Hp) (f : Nat) (hf : f < 8) (e0 : sG h1 1408 = iI (H.length + 1 : Nat)) (e1 : sG h1 1409 = iI f) (hlt : H.length < 8) (old : ∀ i, i < H.length → PcC (25 + 5 * ((f + i) % 8)) h1 (H.getD i [])) (new : PcC (25 + 5 * ((f + H.length) % 8)) h1 L) : HiC h1 (H ++ [L]) := by
  refine ⟨by rw [List.length_append]; exact e0, f, hf, e1, fun i hi => ?_⟩
  rw [List.length_append] at hi
  have hi : i < H.length + 1 := hi
  by_cases c : i < H.length
  · rw [List.getD_eq_getElem?_getD, List.getElem?_append_left c, ← List.getD_eq_getElem?_getD]
    exact old i c
  · have ei : i = H.length := by omega
    subst ei
    rw [List.getD_eq_getElem?_getD, List.getElem?_append_right (Nat.le_refl _), Nat.sub_self]
    exact new
theorem c_rem1 {h : Hp} {H : List (List Pc)} {L : List Pc} (q : HiC h H) (hl : H.length < 8) (p : PcC 5 h L) : ∃ h', bd (F_X2_pastAt (sG h 1408) h) (fun r3 h4 => jn (fun (h5 : Hp) =>
  jl (sS h5 1408 ((sG h5 1408) + (1 : Int32))) (fun h7 => some ((), h7))) (fun j6 => jo r3 (
  j6 h4) (fun a8 =>
  gd (shB a8 0 5) ( bd (F_X5_copyFrom a8 5 h4) (fun _ h10 => j6 h10))))) = some ((), h') ∧ HiC h' (H ++ [L]) := by
  obtain ⟨e0, f, hf, e1, old⟩ := q
  have lt : (f + H.length) % 8 < 8 := Nat.mod_lt _ (by omega)
  rw [e0, c_pastAt hf (by omega) e1, bd_e, jn_e]
  obtain ⟨h1, c1, p1⟩ := c_pcopy (t := 25 + 5 * ((f + H.length) % 8)) (a := 5) p (Or.inl (by omega))
  have fr := fr_X5_copyFrom _ _ _ _ _ c1
  show ∃ h', gd (shB (25 + 5 * ((f + H.length) % 8)) 0 5) _ = _ ∧ _
  rw [fm_sh _ lt, gd_t, c1, bd_e]
  dsimp only
  rw [jl_e]
  have m0 : sG h1 1408 = iI H.length := (fr.sg (by simp only [List.mem_cons, List.not_mem_nil, or_false]; omega)).trans e0
  have m1 : sG h1 1409 = iI f := (fr.sg (by simp only [List.mem_cons, List.not_mem_nil, or_false]; omega)).trans e1
  have fs : FrX [1408] [] h1 (sS h1 1408 (sG h1 1408 + 1)) := (FrX.refl _ _ h1).sS (by decide) _
  refine ⟨_, rfl, HiC.at (h := h1) (r := 0) ⟨m0, f, hf, m1, fun i hi => ?_⟩ (by omega) _ f hf ?_ ?_ hl (fun i hi => ?_) ?_⟩
  · exact (old i hi).fr fr (by simp only [List.mem_cons, List.not_mem_nil, or_false]; omega) (by simp only [List.mem_cons, List.not_mem_nil, or_false]; omega) (by simp only [List.mem_cons, List.not_mem_nil, or_false]; omega) (by simp only [List.mem_cons, List.not_mem_nil, or_false]; omega) (by simp only [List.mem_cons, List.not_mem_nil, or_false]; omega)
  · rw [sG_sS_s, m0]
    rw [show (1 : Int32) = iI 1 from rfl, iI_add]
    exact iI_cg (by omega)
  · exact (fs.sg (by decide)).trans m1
  · have o1 : PcC (25 + 5 * ((f + i) % 8)) h1 (H.getD i []) := (old i hi).fr fr (by simp only [List.mem_cons, List.not_mem_nil, or_false]; omega) (by simp only [List.mem_cons, List.not_mem_nil, or_false]; omega) (by simp only [List.mem_cons, List.not_mem_nil, or_false]; omega) (by simp only [List.mem_cons, List.not_mem_nil, or_false]; omega) (by simp only [List.mem_cons, List.not_mem_nil, or_false]; omega)
    exact o1.fr fs (by simp only [List.mem_cons, List.not_mem_nil, or_false]; omega) (by simp) (by simp) (by simp) (by simp)
  · exact p1.fr fs (by simp only [List.mem_cons, List.not_mem_nil, or_false]; omega) (by simp) (by simp) (by simp) (by simp)
theorem hi_drop_getD (H : List (List Pc)) (i : Nat) : (H.drop 1).getD i [] = H.getD (i + 1) [] := by
  rw [List.getD_eq_getElem?_getD, List.getD_eq_getElem?_getD, List.getElem?_drop, Nat.add_comm 1 i]
theorem c_remember {h : Hp} {H : List (List Pc)} {L : List Pc} (q : HiC h H) (hl : H.length ≤ 8) (p : PcC 5 h L) : ∃ h', F_X2_remember 5 h = some ((), h') ∧ HiC h' (hi_push H L) := by
  unfold F_X2_remember hi_push
  rw [jn_e]
  by_cases c : H.length = 8
  · obtain ⟨e0, f, hf, e1, old⟩ := q
    rw [if_pos c, if_pos (show sG h 1408 = 8 by rw [e0, c]; rfl), jl_e, jl_e]
    have em : (sG h 1409 + (1 : Int32)) - (sG h 1409 + (1 : Int32)) / (8 : Int32) * (8 : Int32) = iI ((f + 1) % 8 : Nat) := by
      rw [e1, show (1 : Int32) = iI 1 from rfl, iI_add, show (f : Int) + 1 = ((f + 1 : Nat) : Int) by omega]
      exact fm_m _ (by omega)
    rw [em]
    have lt : (f + 1) % 8 < 8 := Nat.mod_lt _ (by omega)
    have ff : FrX [1408, 1409] [] h (sS (sS h 1409 (iI ((f + 1) % 8 : Nat))) 1408 (sG (sS h 1409 (iI ((f + 1) % 8 : Nat))) 1408 - 1)) := ((FrX.refl _ _ h).sS (by decide) _).sS (by decide) _
    have g0 : sG (sS (sS h 1409 (iI ((f + 1) % 8 : Nat))) 1408 (sG (sS h 1409 (iI ((f + 1) % 8 : Nat))) 1408 - 1)) 1408 = iI (H.drop 1).length := by
      rw [sG_sS_s, sG_sS_n (by decide), e0, show (1 : Int32) = iI 1 from rfl, iI_sub, List.length_drop]
      exact iI_cg (by omega)
    have g1 : sG (sS (sS h 1409 (iI ((f + 1) % 8 : Nat))) 1408 (sG (sS h 1409 (iI ((f + 1) % 8 : Nat))) 1408 - 1)) 1409 = iI ((f + 1) % 8 : Nat) := by
      rw [sG_sS_n (by decide), sG_sS_s]
    have q1 : HiC (sS (sS h 1409 (iI ((f + 1) % 8 : Nat))) 1408 (sG (sS h 1409 (iI ((f + 1) % 8 : Nat))) 1408 - 1)) (H.drop 1) := by
      refine ⟨g0, (f + 1) % 8, lt, g1, fun i hi => ?_⟩
      rw [List.length_drop] at hi
      rw [hi_drop_getD]
      have o := old (i + 1) (by omega)
      rw [show (f + (i + 1)) % 8 = ((f + 1) % 8 + i) % 8 by omega] at o
      exact o.fr ff (by simp only [List.mem_cons, List.not_mem_nil, or_false]; omega) (by simp) (by simp) (by simp) (by simp)
    exact c_rem1 q1 (by rw [List.length_drop]; omega) (p.fr ff (by decide) (by decide) (by decide) (by decide) (by decide))
  · rw [if_neg c]
    have hne : ¬ sG h 1408 = 8 := by
      rw [q.1, show (8 : Int32) = iI 8 from rfl, iI_eq (by omega) (by omega) (by omega) (by omega)]
      omega
    rw [if_neg hne]
    exact c_rem1 q (by omega) p
theorem c_restoreLatest {h : Hp} {H : List (List Pc)} (q : HiC h H) (hl : H.length ≤ 8) (h0 : H ≠ []) : ∃ h', F_X2_restoreLatest 5 h = some (1, h') ∧ HiC h' H.dropLast ∧ PcC 5 h' (H.getD (H.length - 1) []) := by
  obtain ⟨e0, f, hf, e1, old⟩ := q
  have hp : 0 < H.length := List.length_pos_iff.2 h0
  have lt : (f + (H.length - 1)) % 8 < 8 := Nat.mod_lt _ (by omega)
  unfold F_X2_restoreLatest
  have hpos : (0 : Int32) < sG h 1408 := by
    rw [e0, show (0 : Int32) = iI 0 from rfl, iI_lt (by omega) (by omega) (by omega) (by omega)]
    omega
  have ev : sG h 1408 - 1 = iI ((H.length - 1 : Nat) : Int) := by
    rw [e0, show (1 : Int32) = iI 1 from rfl, iI_sub]
    exact iI_cg (by omega)
  have ff : FrX [1408] [] h (sS h 1408 (iI ((H.length - 1 : Nat) : Int))) := (FrX.refl _ _ h).sS (by decide) _
  have old2 : ∀ i, i < H.length → PcC (25 + 5 * ((f + i) % 8)) (sS h 1408 (iI ((H.length - 1 : Nat) : Int))) (H.getD i []) := fun i hi => (old i hi).fr ff (by simp only [List.mem_cons, List.not_mem_nil, or_false]; omega) (by simp) (by simp) (by simp) (by simp)
  obtain ⟨h1, c1, p1⟩ := c_pcopy (t := 5) (a := 25 + 5 * ((f + (H.length - 1)) % 8)) (old2 (H.length - 1) (by omega)) (Or.inr (by omega))
  have fr := fr_X5_copyFrom _ _ _ _ _ c1
  rw [if_pos hpos, ev, jl_e, sG_sS_s, c_pastAt hf (by omega) ((ff.sg (by decide)).trans e1), bd_e, jn_e]
  show ∃ h', gd (shB (25 + 5 * ((f + (H.length - 1)) % 8)) 0 5) _ = _ ∧ _
  rw [fm_sh _ lt, gd_t, c1, bd_e]
  refine ⟨h1, rfl, ⟨?_, f, hf, ?_, fun i hi => ?_⟩, p1⟩
  · rw [List.length_dropLast]
    exact (fr.sg (by decide)).trans (sG_sS_s ..)
  · exact (fr.sg (by decide)).trans ((ff.sg (by decide)).trans e1)
  · rw [List.length_dropLast] at hi
    have eg : H.dropLast.getD i [] = H.getD i [] := by
      rw [List.getD_eq_getElem?_getD, List.getD_eq_getElem?_getD, List.getElem?_dropLast, if_pos hi]
    rw [eg]
    exact (old2 i (by omega)).fr fr (by simp only [List.mem_cons, List.not_mem_nil, or_false]; omega) (by simp only [List.mem_cons, List.not_mem_nil, or_false]; omega) (by simp only [List.mem_cons, List.not_mem_nil, or_false]; omega) (by simp only [List.mem_cons, List.not_mem_nil, or_false]; omega) (by simp only [List.mem_cons, List.not_mem_nil, or_false]; omega)
theorem c_restoreNone {h : Hp} (q : HiC h []) : F_X2_restoreLatest 5 h = some (0, h) := by
  have e0 : sG h 1408 = 0 := q.1
  unfold F_X2_restoreLatest
  rw [e0, if_neg (by decide)]
theorem kp_bits : ∀ b : Nat, b < 4 → ∀ k : Nat, k < 2 → b ||| 2 ^ k < 4 ∧ ∀ j : Nat, j < 2 → (b ||| 2 ^ k).testBit j = (decide (j = k) || b.testBit j) := by decide +kernel
theorem c_store {h : Hp} {K : Nat → Option (List Pc)} {L : List Pc} (q : KpC h K) {k : Nat} (hk : k < 2) (p : PcC 5 h L) : ∃ h', F_X2_store (iI k) 5 h = some ((), h') ∧ KpC h' (fun j => if j = k then some L else K j) := by
  obtain ⟨b, hb, e1, old⟩ := q
  obtain ⟨h1, c1, p1⟩ := c_pcopy (t := 65 + 5 * k) (a := 5) p (Or.inl (by omega))
  have fr := fr_X5_copyFrom _ _ _ _ _ c1
  have kb := kp_bits b hb k hk
  have m1 : sG h1 1412 = iI b := (fr.sg (by simp only [List.mem_cons, List.not_mem_nil, or_false]; omega)).trans e1
  unfold F_X2_store
  rw [jn_e]
  simp (maxSteps := 3000000) (implicitDefEqProofs := false) (disch := omega) only [jl_e, jn_e, bd_e, gd_t, iI_add, iI_sub, iI_mul, iI_neg, if_true, if_false, not_true_eq_false, not_false_eq_true, Int.reduceEq, Nat.add_zero, Int.toNat_natCast, iI_cl, iI_lt, iI_eq, gd_in, bI_eq0, bI_eq1, bI_isB, isB_0, isB_1, il_0, il_1, il_2, il_3, il_4, il_5, il_6, il_7, il_8, il_9, il_10, il_12, il_16, il_18, il_24, il_27, il_30, il_31, il_32, il_40, il_47, il_48, il_49, il_55, il_56, il_57, il_59, il_63, il_64, il_96, il_97, il_98, il_99, il_101, il_103, il_104, il_105, il_108, il_109, il_110, il_111, il_112, il_114, il_115, il_116, il_117, il_119, il_122, il_127, il_128, il_200, il_225, il_255, il_256, il_999, il_1575, il_9999, il_65536, il_252645135, il_858993459, il_1431655765]
  rw [if_neg (by omega), if_pos (by omega), km_rf k hk]
  show ∃ h', gd (shB (65 + 5 * k) 0 5) _ = _ ∧ _
  rw [km_sh k hk, gd_t, c1, bd_e, m1]
  have e2 : iI (b : Int) ||| ((1 : Int32) <<< (iI (k : Int) &&& 31)) = iI ((b ||| 2 ^ k : Nat) : Int) := by
    have := ms_shl k (by omega)
    rw [show ((1 : Int32) <<< (iI (k : Int) &&& 31)) = iI ((2 ^ k : Nat) : Int) from this, ms_or]
  have e3 : iI (b : Int) ||| (iI 1 <<< (iI (k : Int) &&& iI 31)) = iI ((b ||| 2 ^ k : Nat) : Int) := e2
  refine ⟨_, rfl, b ||| 2 ^ k, kb.1, ?_, fun j hj => ?_⟩
  · rw [sG_sS_s]
    exact e3
  · have fs : ∀ x, FrX [1412] [] h1 (sS h1 1412 x) := fun x => (FrX.refl _ _ h1).sS (by decide) _
    rw [kb.2 j hj]
    show ((if j = k then some L else K j) = none → _) ∧ ∀ L', (if j = k then some L else K j) = some L' → _
    by_cases c : j = k
    · subst c
      rw [if_pos rfl]
      refine ⟨fun z => (by cases z), fun L' z => ?_⟩
      cases z
      exact ⟨by simp, p1.fr (fs _) (by simp only [List.mem_cons, List.not_mem_nil, or_false]; omega) (by simp) (by simp) (by simp) (by simp)⟩
    · rw [if_neg c]
      obtain ⟨o1, o2⟩ := old j hj
      refine ⟨fun z => by simp [c, o1 z], fun L' z => ?_⟩
      obtain ⟨z1, z2⟩ := o2 L' z
      refine ⟨by simp [z1], ?_⟩
      have z3 : PcC (65 + 5 * j) h1 L' := z2.fr fr (by simp only [List.mem_cons, List.not_mem_nil, or_false]; omega) (by simp only [List.mem_cons, List.not_mem_nil, or_false]; omega) (by simp only [List.mem_cons, List.not_mem_nil, or_false]; omega) (by simp only [List.mem_cons, List.not_mem_nil, or_false]; omega) (by simp only [List.mem_cons, List.not_mem_nil, or_false]; omega)
      exact z3.fr (fs _) (by simp only [List.mem_cons, List.not_mem_nil, or_false]; omega) (by simp) (by simp) (by simp) (by simp)
theorem c_restoreKept {h : Hp} {K : Nat → Option (List Pc)} (q : KpC h K) {H : List (List Pc)} (qh : HiC h H) {k : Nat} (hk : k < 2) : (K k = none → F_X2_restoreKept (iI k) 5 h = some (0, h)) ∧ (∀ L, K k = some L → ∃ h', F_X2_restoreKept (iI k) 5 h = some (1, h') ∧ PcC 5 h' L ∧ HiC h' []) := by
  obtain ⟨b, hb, e1, old⟩ := q
  unfold F_X2_restoreKept
  rw [jn_e]
  constructor
  · intro z
    have o := (old k hk).1 z
    simp (maxSteps := 3000000) (implicitDefEqProofs := false) (disch := omega) only [jl_e, jn_e, bd_e, gd_t, iI_add, iI_sub, iI_mul, iI_neg, if_true, if_false, not_true_eq_false, not_false_eq_true, Int.reduceEq, Nat.add_zero, Int.toNat_natCast, iI_cl, iI_lt, iI_eq, gd_in, bI_eq0, bI_eq1, bI_isB, isB_0, isB_1, il_0, il_1, il_2, il_3, il_4, il_5, il_6, il_7, il_8, il_9, il_10, il_12, il_16, il_18, il_24, il_27, il_30, il_31, il_32, il_40, il_47, il_48, il_49, il_55, il_56, il_57, il_59, il_63, il_64, il_96, il_97, il_98, il_99, il_101, il_103, il_104, il_105, il_108, il_109, il_110, il_111, il_112, il_114, il_115, il_116, il_117, il_119, il_122, il_127, il_128, il_200, il_225, il_255, il_256, il_999, il_1575, il_9999, il_65536, il_252645135, il_858993459, il_1431655765]
    rw [if_neg (by omega), if_pos (by omega), km_rf k hk]
    rw [jo_some, e1, c_hasBit (show b < 128 by omega) (show k < 8 by omega), bd_e, o, if_pos (show bI (false = true) = iI 0 from rfl)]
  · intro L z
    obtain ⟨o1, o2⟩ := (old k hk).2 L z
    obtain ⟨h1, c1, p1⟩ := c_pcopy (t := 5) (a := 65 + 5 * k) o2 (Or.inr (by omega))
    have fr := fr_X5_copyFrom _ _ _ _ _ c1
    simp (maxSteps := 3000000) (implicitDefEqProofs := false) (disch := omega) only [jl_e, jn_e, bd_e, gd_t, iI_add, iI_sub, iI_mul, iI_neg, if_true, if_false, not_true_eq_false, not_false_eq_true, Int.reduceEq, Nat.add_zero, Int.toNat_natCast, iI_cl, iI_lt, iI_eq, gd_in, bI_eq0, bI_eq1, bI_isB, isB_0, isB_1, il_0, il_1, il_2, il_3, il_4, il_5, il_6, il_7, il_8, il_9, il_10, il_12, il_16, il_18, il_24, il_27, il_30, il_31, il_32, il_40, il_47, il_48, il_49, il_55, il_56, il_57, il_59, il_63, il_64, il_96, il_97, il_98, il_99, il_101, il_103, il_104, il_105, il_108, il_109, il_110, il_111, il_112, il_114, il_115, il_116, il_117, il_119, il_122, il_127, il_128, il_200, il_225, il_255, il_256, il_999, il_1575, il_9999, il_65536, il_252645135, il_858993459, il_1431655765]
    rw [if_neg (by omega), if_pos (by omega), km_rf k hk]
    rw [jo_some, e1, c_hasBit (show b < 128 by omega) (show k < 8 by omega), bd_e, o1, if_neg (show ¬ (bI (true = true) = iI 0) by decide), jo_some]
    rw [km_sh k hk, gd_t, c1, bd_e]
    have fs : FrX [1408] [] h1 (sS h1 1408 0) := (FrX.refl _ _ h1).sS (by decide) _
    refine ⟨_, rfl, p1.fr fs (by decide) (by decide) (by decide) (by decide) (by decide), ?_⟩
    obtain ⟨-, f, hf, f1, -⟩ := qh
    exact ⟨sG_sS_s .., f, hf, (fs.sg (by decide)).trans ((fr.sg (by decide)).trans f1), fun i hi => absurd hi (Nat.not_lt_zero i)⟩
