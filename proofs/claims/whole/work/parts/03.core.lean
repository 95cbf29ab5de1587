-- ===== the state of the made world, as total functions =====
abbrev Hp : Type := (Nat → Int32) × (Nat → Nat → Int32) × (Nat → Nat → Int64) × (Nat → Int64) × (Nat → Option Nat)
def sG (h : Hp) (v : Nat) : Int32 := h.1 v
def aF (h : Hp) (k : Nat) : Nat → Int32 := h.2.1 k
def lF (h : Hp) (k : Nat) : Nat → Int64 := h.2.2.1 k
def aG (h : Hp) (k i : Nat) : Int32 := h.2.1 k i
def lG (h : Hp) (k i : Nat) : Int64 := h.2.2.1 k i
def tG (h : Hp) (v : Nat) : Int64 := h.2.2.2.1 v
def oG (h : Hp) (v : Nat) : Option Nat := h.2.2.2.2 v
def sS (h : Hp) (v : Nat) (x : Int32) : Hp := (fun u => if u = v then x else h.1 u, h.2.1, h.2.2.1, h.2.2.2.1, h.2.2.2.2)
def aV (h : Hp) (k : Nat) (f : Nat → Int32) : Hp := (h.1, fun u => if u = k then f else h.2.1 u, h.2.2.1, h.2.2.2.1, h.2.2.2.2)
def lV (h : Hp) (k : Nat) (f : Nat → Int64) : Hp := (h.1, h.2.1, fun u => if u = k then f else h.2.2.1 u, h.2.2.2.1, h.2.2.2.2)
def tS (h : Hp) (v : Nat) (x : Int64) : Hp := (h.1, h.2.1, h.2.2.1, fun u => if u = v then x else h.2.2.2.1 u, h.2.2.2.2)
def oS (h : Hp) (v : Nat) (x : Option Nat) : Hp := (h.1, h.2.1, h.2.2.1, h.2.2.2.1, fun u => if u = v then x else h.2.2.2.2 u)
def aS (h : Hp) (k i : Nat) (x : Int32) : Hp := aV h k (upd (aF h k) i x)
def lS (h : Hp) (k i : Nat) (x : Int64) : Hp := lV h k (vp_updL (lF h k) i x)
-- ===== the words of the pure terms =====
def jl {α β : Type} (a : α) (k : α → β) : β := k a
def jn {α β : Type} (k : α) (f : α → β) : β := f k
def lp {α : Type} (n : Nat) (body : α → α) (bot : α) : α := Nat.rec bot (fun _ c => body c) n
def gd {ρ : Type} (c : Bool) (o : Option ρ) : Option ρ := match c with
  | true => o
  | false => none
def bd {τ ρ : Type} (o : Option (τ × Hp)) (k : τ → Hp → Option ρ) : Option ρ := match o with
  | none => none
  | some q => k q.1 q.2
def jo {ρ : Type} (o : Option Nat) (f0 : ρ) (f1 : Nat → ρ) : ρ := match o with
  | none => f0
  | some a => f1 a
def inb (i : Int32) (n : Nat) : Bool := !(decide (i < 0) || decide (n ≤ i.toNatClampNeg))
def isB (x : Int32) : Bool := decide (x = 0) || decide (x = 1)
def nz (x : Int32) : Bool := !(decide (x = 0))
def shB (a k p : Nat) : Bool := decide (shp a = (k, p))
/-- what arraycopy asks -/
def cpB (sp dp n : Int32) (n0 n1 : Nat) : Bool := !(decide (sp < 0)) && (!(decide (dp < 0)) && (!(decide (n < 0)) && (decide (sp.toNatClampNeg + n.toNatClampNeg ≤ n0) && decide (dp.toNatClampNeg + n.toNatClampNeg ≤ n1))))
theorem inb_in {i : Int32} {n : Nat} (h : inb i n = true) : vp_in i n := by
  intro q
  simp only [inb, Bool.not_eq_true', Bool.or_eq_false_iff, decide_eq_false_iff_not] at h
  rcases q with q | q
  · exact h.1 q
  · exact h.2 q
-- ===== the world of a state =====
abbrev JE : Type := (Nat → ClassId) × (Nat → Nat) × (Nat → ClassId) × (Nat → Nat → Nat) × (Nat → Nat) × (Nat → Nat)
abbrev jca (E : JE) : Nat → ClassId := E.1
abbrev jad (E : JE) : Nat → Nat := E.2.1
abbrev jD (E : JE) : va_G := (E.2.2.1, E.2.2.2.1)
abbrev jK (E : JE) : Nat → Nat := E.2.2.2.2.1
abbrev jV (E : JE) : Nat → Nat := E.2.2.2.2.2
def cv (ad : Nat → Nat) : Value → Value
  | .ref k => .ref (ad k)
  | v => v
theorem cv_rf (ad : Nat → Nat) (o : Option Nat) : cv ad (va_rf o) = va_rf (o.map ad) := by cases o <;> rfl
theorem cv_cat (ad : Nat → Nat) (v : Value) : (cv ad v).category = v.category := by cases v <;> rfl
theorem cv_cats (ad : Nat → Nat) (st : List Value) : ((st.map (cv ad)).map fun v => v.category).sum = (st.map fun v => v.category).sum := by
  induction st with
  | nil => rfl
  | cons v st ih => simp only [List.map_cons, List.sum_cons, cv_cat, ih]
def fV (E : JE) (h : Hp) (k ci j : Nat) : Value := match sty ci j with
  | 0 => .int (sG h (64 * k + j))
  | 1 => .long (tG h (64 * k + j))
  | 2 => va_rf ((rf k j).map (jad E))
  | _ => va_rf ((oG h (64 * k + j)).map (jad E))
def cE (E : JE) (h : Hp) (k : Nat) : va_E := match (shp k).1 with
  | 0 => .inr ((shp k).2, (List.range (nfl (shp k).2)).map (fV E h k (shp k).2))
  | 1 => .inl (jca E k, (shp k).2, .inl (aF h k))
  | 2 => .inl (jca E k, (shp k).2, .inr (.inl (lF h k)))
  | 3 => .inl (jca E k, (shp k).2, .inl (aF h k))
  | _ => .inl (jca E k, (shp k).2, .inr (.inr (.inr (.inr (fun j => (rf k j).map (jad E))))))
def wsl (E : JE) (h : Hp) : va_W := (List.range ly_N).map (fun k => (jad E k, cE E h k))
def aty (k : Nat) : FieldType := match (shp k).1 with
  | 1 => .int
  | 2 => .long
  | 3 => .boolean
  | 4 => .object "AlbumHours$Pieces"
  | _ => .int
def tysl (E : JE) : List (ClassId × FieldType) := (List.range ly_N).map (fun k => (jca E k, aty k))
def Ast (E : JE) : Nat → Prop := fun q => ∃ k, k < ly_N ∧ q = jad E k
def apart (E : JE) : Prop := ∀ i j, i < ly_N → j < ly_N → jad E i = jad E j → i = j
def StrOk (E : JE) (U : State) : Prop := vk_S sw_N sw_len sw_byt (jK E) (jV E) (Ast E) U U.heap ∧ (∀ i, i < sw_N → vk_R RX6 (sw_idx.getD i 0) (sw_txt.getD i "") (jK E i) U) ∧ va_Z "java/lang/String" "COMPACT_STRINGS" "Z" (.int 1) (Ast E) U U.heap ∧ (∀ i, i < sw_N → jad E (1000 + i) = jK E i) ∧ (∀ q ∈ lw_nw, va_Nw (.methodLinkNest q.1 q.2.1 q.2.2.1 q.2.2.2) U) ∧ (∀ i, i < sw_N → jad E (2000 + i) = jV E i) ∧ (va_Z "jdk/internal/util/Preconditions" "SIOOBE_FORMATTER" "Ljava/util/function/BiFunction;" .null (Ast E) U U.heap ∨ va_Z "jdk/internal/util/Preconditions" "SIOOBE_FORMATTER" "Ljava/util/function/BiFunction;" (.ref (jad E 3000)) (Ast E) U U.heap)
def Wd (E : JE) (h : Hp) (U : State) : Prop := va_P (jD E) vwCl (wsl E h) U.heap ∧ va_K (jD E) vwCl (tysl E) U ∧ apart E ∧ StrOk E U
def Po (E : JE) (rv : Option Value) (h1 : Hp) : Array Value → State → Outcome → State → Prop := fun _ st oc t => oc = .returned (rv.map (cv (jad E))) ∧ va_P (jD E) vwCl (wsl E h1) t.heap ∧ va_F (Ast E) st t
def wsm (y : MethodName) (b : ByteArray) (n : Nat) (ret : Option FieldType) : List Cond := Cond.code y b n ret :: lw_gw
/-- the contract of a method at a state: it returns rv, and the state is h1 then -/
def AC (y : MethodName) (b : ByteArray) (n : Nat) (ret : Option FieldType) (fr lo : Nat) (av : List Value) (h : Hp) (rv : Option Value) (h1 : Hp) : Prop :=
  ∀ (l : Launch) (E : JE), Met l y (wsm y b n ret) { frames := fr, cells := 0, slots := 0, locals := lo } (va_Pc (av.map (cv (jad E))) (Wd E h)) (Po E rv h1) 0 0 (Ast E)
theorem shp_lt {k a p : Nat} (h : shp k = (a, p)) (ha : a < 9) : k < ly_N := by
  by_cases hk : k < ly_N
  · exact hk
  · exfalso
    have h1 : shp k = (9, 0) := by
      unfold shp
      rw [List.getD_eq_getElem?_getD, List.getElem?_eq_none (by simp only [show ly_sh.length = ly_N from rfl]; omega)]
      rfl
    rw [h1] at h
    cases h
    omega
theorem wsl_get (E : JE) (h : Hp) {k : Nat} (hk : k < ly_N) : (wsl E h)[k]? = some (jad E k, cE E h k) := by
  simp [wsl, hk]
theorem tysl_get (E : JE) {k : Nat} (hk : k < ly_N) : (tysl E)[k]? = some (jca E k, aty k) := by
  simp [tysl, hk]
theorem cE_obj (E : JE) (h : Hp) {k ci : Nat} (hs : shp k = (0, ci)) : cE E h k = .inr (ci, (List.range (nfl ci)).map (fV E h k ci)) := by
  unfold cE
  rw [hs]
  rfl
theorem wsl_D {E : JE} (h : Hp) (ha : apart E) : va_D (Ast E) (wsl E h) := by
  refine ⟨fun i j p q hi hj e => ?_, fun k q hk => ?_⟩
  · have hi' : i < ly_N := by
      have := (List.getElem?_eq_some_iff.mp hi).1
      simpa [wsl] using this
    have hj' : j < ly_N := by
      have := (List.getElem?_eq_some_iff.mp hj).1
      simpa [wsl] using this
    rw [wsl_get E h hi'] at hi
    rw [wsl_get E h hj'] at hj
    cases hi
    cases hj
    exact ha i j hi' hj' e
  · have hk' : k < ly_N := by
      have := (List.getElem?_eq_some_iff.mp hk).1
      simpa [wsl] using this
    rw [wsl_get E h hk'] at hk
    cases hk
    exact ⟨k, hk', rfl⟩
theorem wsl_set (E : JE) (h h1 : Hp) {a : Nat} (ha : a < ly_N) {e : va_E} (he : cE E h1 a = e) (hn : ∀ k, k < ly_N → k ≠ a → cE E h1 k = cE E h k) : (wsl E h).set a (jad E a, e) = wsl E h1 := by
  apply List.ext_getElem?
  intro k
  by_cases hk : k < ly_N
  · rw [List.getElem?_set, wsl_get E h1 hk]
    by_cases hka : a = k
    · subst hka
      rw [if_pos rfl, if_pos (by simpa [wsl] using ha), he]
    · rw [if_neg hka, wsl_get E h hk, hn k hk (fun q => hka q.symm)]
  · rw [List.getElem?_eq_none (by simp only [List.length_set, wsl, List.length_map, List.length_range]; omega), List.getElem?_eq_none (by simp only [wsl, List.length_map, List.length_range]; omega)]
theorem nfl_le (ci : Nat) : nfl ci ≤ 64 := by
  by_cases hc : ci < 13
  · exact (show ∀ c, c < 13 → nfl c ≤ 64 by decide +kernel) ci hc
  · unfold nfl
    rw [List.getD_eq_getElem?_getD, List.getElem?_eq_none (by simp only [show ly_st.length = 13 from rfl]; omega)]
    simp
theorem fV_ne (E : JE) {h h1 : Hp} {k ci : Nat} (hi : ∀ j, j < 64 → sG h1 (64 * k + j) = sG h (64 * k + j)) (hl : ∀ j, j < 64 → tG h1 (64 * k + j) = tG h (64 * k + j)) (ho : ∀ j, j < 64 → oG h1 (64 * k + j) = oG h (64 * k + j)) : (List.range (nfl ci)).map (fV E h1 k ci) = (List.range (nfl ci)).map (fV E h k ci) := by
  apply List.map_congr_left
  intro j hj
  have hj' : j < 64 := Nat.lt_of_lt_of_le (List.mem_range.mp hj) (nfl_le ci)
  unfold fV
  rw [hi j hj', hl j hj', ho j hj']
theorem cE_same (E : JE) {h h1 : Hp} {k : Nat} (hi : ∀ j, j < 64 → sG h1 (64 * k + j) = sG h (64 * k + j)) (hl : ∀ j, j < 64 → tG h1 (64 * k + j) = tG h (64 * k + j)) (ho : ∀ j, j < 64 → oG h1 (64 * k + j) = oG h (64 * k + j)) (ha : aF h1 k = aF h k) (hb : lF h1 k = lF h k) : cE E h1 k = cE E h k := by
  unfold cE
  rw [fV_ne E hi hl ho, ha, hb]
theorem fV_set (E : JE) {h h1 : Hp} {k ci j : Nat} (hj : j < nfl ci) {v : Value} (hv : fV E h1 k ci j = v) (hn : ∀ i, i < nfl ci → i ≠ j → fV E h1 k ci i = fV E h k ci i) : (List.range (nfl ci)).map (fV E h1 k ci) = ((List.range (nfl ci)).map (fV E h k ci)).set j v := by
  apply List.ext_getElem?
  intro i
  rw [List.getElem?_set]
  by_cases hi : i < nfl ci
  · by_cases hij : j = i
    · subst hij
      simp [hi, hv]
    · rw [if_neg hij]
      simp [hi, hn i hi (fun q => hij q.symm)]
  · have e1 : ((List.range (nfl ci)).map (fV E h1 k ci))[i]? = none := List.getElem?_eq_none (by simp; omega)
    have e2 : ((List.range (nfl ci)).map (fV E h k ci))[i]? = none := List.getElem?_eq_none (by simp; omega)
    rw [e1]
    by_cases hij : j = i
    · omega
    · rw [if_neg hij, e2]
theorem sG_sS (h : Hp) (v : Nat) (x : Int32) (u : Nat) : sG (sS h v x) u = if u = v then x else sG h u := rfl
theorem tG_tS (h : Hp) (v : Nat) (x : Int64) (u : Nat) : tG (tS h v x) u = if u = v then x else tG h u := rfl
theorem oG_oS (h : Hp) (v : Nat) (x : Option Nat) (u : Nat) : oG (oS h v x) u = if u = v then x else oG h u := rfl
theorem aF_aV (h : Hp) (k : Nat) (f : Nat → Int32) (u : Nat) : aF (aV h k f) u = if u = k then f else aF h u := rfl
theorem lF_lV (h : Hp) (k : Nat) (f : Nat → Int64) (u : Nat) : lF (lV h k f) u = if u = k then f else lF h u := rfl
theorem wsl_sS (E : JE) (h : Hp) {a ci j : Nat} (hs : shp a = (0, ci)) (hj : j < nfl ci) (ht : sty ci j = 0) (x : Int32) : (wsl E h).set a (jad E a, .inr (ci, ((List.range (nfl ci)).map (fV E h a ci)).set j (.int x))) = wsl E (sS h (64 * a + j) x) := by
  have hjl := Nat.lt_of_lt_of_le hj (nfl_le ci)
  refine wsl_set E h _ (shp_lt hs (by omega)) ?_ ?_
  · rw [cE_obj E _ hs, fV_set E (h := h) hj (v := .int x) ?_ ?_]
    · unfold fV; rw [ht]; show Value.int _ = _; rw [sG_sS, if_pos rfl]
    · intro i hi hij
      unfold fV
      rw [sG_sS, if_neg (by omega)]
      rfl
  · intro k hk hka
    refine cE_same E (fun i hi => ?_) (fun _ _ => rfl) (fun _ _ => rfl) rfl rfl
    rw [sG_sS, if_neg (by omega)]
theorem wsl_tS (E : JE) (h : Hp) {a ci j : Nat} (hs : shp a = (0, ci)) (hj : j < nfl ci) (ht : sty ci j = 1) (x : Int64) : (wsl E h).set a (jad E a, .inr (ci, ((List.range (nfl ci)).map (fV E h a ci)).set j (.long x))) = wsl E (tS h (64 * a + j) x) := by
  have hjl := Nat.lt_of_lt_of_le hj (nfl_le ci)
  refine wsl_set E h _ (shp_lt hs (by omega)) ?_ ?_
  · rw [cE_obj E _ hs, fV_set E (h := h) hj (v := .long x) ?_ ?_]
    · unfold fV; rw [ht]; show Value.long _ = _; rw [tG_tS, if_pos rfl]
    · intro i hi hij
      unfold fV
      rw [tG_tS, if_neg (by omega)]
      rfl
  · intro k hk hka
    refine cE_same E (fun _ _ => rfl) (fun i hi => ?_) (fun _ _ => rfl) rfl rfl
    rw [tG_tS, if_neg (by omega)]
theorem wsl_oS (E : JE) (h : Hp) {a ci j : Nat} (hs : shp a = (0, ci)) (hj : j < nfl ci) (ht : sty ci j = 3) (x : Option Nat) : (wsl E h).set a (jad E a, .inr (ci, ((List.range (nfl ci)).map (fV E h a ci)).set j (va_rf (x.map (jad E))))) = wsl E (oS h (64 * a + j) x) := by
  have hjl := Nat.lt_of_lt_of_le hj (nfl_le ci)
  refine wsl_set E h _ (shp_lt hs (by omega)) ?_ ?_
  · rw [cE_obj E _ hs, fV_set E (h := h) hj (v := va_rf (x.map (jad E))) ?_ ?_]
    · unfold fV; rw [ht]; show va_rf _ = _; rw [oG_oS, if_pos rfl]
    · intro i hi hij
      unfold fV
      rw [oG_oS, if_neg (by omega)]
      rfl
  · intro k hk hka
    refine cE_same E (fun _ _ => rfl) (fun _ _ => rfl) (fun i hi => ?_) rfl rfl
    rw [oG_oS, if_neg (by omega)]
theorem cE_ai (E : JE) (h : Hp) {k n : Nat} (hs : shp k = (1, n)) : cE E h k = .inl (jca E k, n, .inl (aF h k)) := by
  unfold cE
  rw [hs]
  rfl
theorem cE_al (E : JE) (h : Hp) {k n : Nat} (hs : shp k = (2, n)) : cE E h k = .inl (jca E k, n, .inr (.inl (lF h k))) := by
  unfold cE
  rw [hs]
  rfl
theorem cE_az (E : JE) (h : Hp) {k n : Nat} (hs : shp k = (3, n)) : cE E h k = .inl (jca E k, n, .inl (aF h k)) := by
  unfold cE
  rw [hs]
  rfl
theorem cE_aq (E : JE) (h : Hp) {k n : Nat} (hs : shp k = (4, n)) : cE E h k = .inl (jca E k, n, .inr (.inr (.inr (.inr (fun j => (rf k j).map (jad E)))))) := by
  unfold cE
  rw [hs]
  rfl
theorem wsl_aV (E : JE) (h : Hp) {a n : Nat} (hs : shp a = (1, n) ∨ shp a = (3, n)) (f : Nat → Int32) : (wsl E h).set a (jad E a, .inl (jca E a, n, .inl f)) = wsl E (aV h a f) := by
  have hl : a < ly_N := by rcases hs with hs | hs <;> exact shp_lt hs (by omega)
  have e : ∀ f, aF (aV h a f) a = f := fun f => by rw [aF_aV, if_pos rfl]
  refine wsl_set E h _ hl ?_ ?_
  · rcases hs with hs | hs
    · rw [cE_ai E _ hs, e]
    · rw [cE_az E _ hs, e]
  · intro k hk hka
    refine cE_same E (fun _ _ => rfl) (fun _ _ => rfl) (fun _ _ => rfl) ?_ rfl
    rw [aF_aV, if_neg hka]
theorem wsl_lV (E : JE) (h : Hp) {a n : Nat} (hs : shp a = (2, n)) (f : Nat → Int64) : (wsl E h).set a (jad E a, .inl (jca E a, n, .inr (.inl f))) = wsl E (lV h a f) := by
  have e : ∀ f, lF (lV h a f) a = f := fun f => by rw [lF_lV, if_pos rfl]
  refine wsl_set E h _ (shp_lt hs (by omega)) ?_ ?_
  · rw [cE_al E _ hs, e]
  · intro k hk hka
    refine cE_same E (fun _ _ => rfl) (fun _ _ => rfl) (fun _ _ => rfl) rfl ?_
    rw [lF_lV, if_neg hka]
-- ===== what is the same at the start of a method and later =====
theorem StrOk.later {E : JE} {s U : State} {H : Heap} {locs : List Loc} (h : StrOk E s) (hS : va_S (Ast E) s.heap H locs) (hU : U.heap = H) (hW : s.WarmedH U.vm) : StrOk E U := by
  obtain ⟨h1, h2, h3, h4, h5, h6, h7⟩ := h
  refine ⟨?_, fun i hi => (h2 i hi).warm hW, ?_, h4, fun q hq => va_Nw.warmM hW (h5 q hq), h6, ?_⟩
  · rw [hU]
    exact (h1.kept hS.2.1).moved hW.alike
  · rw [hU]
    exact (h3.kept hS.2.1).moved hW.alike
  · rw [hU]
    rcases h7 with h7 | h7
    · exact Or.inl ((h7.kept hS.2.1).moved hW.alike)
    · exact Or.inr ((h7.kept hS.2.1).moved hW.alike)
theorem StrOk.calling {E : JE} {U : State} {g : JFrame} {mk : MethodId} {a : Array Value} (h : StrOk E U) : StrOk E (U.calling g mk a) := by
  obtain ⟨h1, h2, h3, h4, h5, h6, h7⟩ := h
  exact ⟨h1.moved (u := U) (U := U.calling g mk a) (Vm.Alike.refl U.vm), fun i hi => vk_R.same (u := U) rfl (h2 i hi), h3.moved (u := U) (U := U.calling g mk a) (Vm.Alike.refl U.vm), h4, fun q hq => va_Nw.same rfl (u := U) rfl (h5 q hq), h6, h7.elim (fun z => Or.inl (z.moved (u := U) (U := U.calling g mk a) (Vm.Alike.refl U.vm))) (fun z => Or.inr (z.moved (u := U) (U := U.calling g mk a) (Vm.Alike.refl U.vm)))⟩
theorem Wd.blind (E : JE) (h : Hp) (av : List Value) : FrameBlind (va_Pc av (Wd E h)) := by
  intro a U g mk q
  obtain ⟨q0, q1, q2, q3, q4⟩ := q
  exact ⟨q0, q1, va_K.moved (u := U) (U := U.calling g mk a) (Vm.Alike.refl U.vm) q2, q3, q4.calling⟩
-- ===== the judgement =====
abbrev CK : Type := Program × Launch × Env × Room × State × MethodId × Array Value × List Frame × Method × Code × JE
abbrev kE (K : CK) : JE := K.2.2.2.2.2.2.2.2.2.2
abbrev kS (K : CK) : State := K.2.2.2.2.1
abbrev kR (K : CK) : Room := K.2.2.2.1
abbrev kM (K : CK) : MethodId := K.2.2.2.2.2.1
abbrev kW (K : CK) (H : Heap) (locs : List Loc) (Q : State → Prop) (g : JFrame) : Prop := W K.1 K.2.1 K.2.2.1 K.2.2.2.1 K.2.2.2.2.1 K.2.2.2.2.2.1 K.2.2.2.2.2.2.1 K.2.2.2.2.2.2.2.1 K.2.2.2.2.2.2.2.2.1 K.2.2.2.2.2.2.2.2.2.1 H locs 0 0 Q g
abbrev kQ (K : CK) (rv : Option Value) (h1 : Hp) : State → Prop := MQ K.2.2.2.2.2.2.2.1 (Po (kE K) rv h1) K.2.2.2.2.2.2.1 (kS K) 0 0 (Ast (kE K))
def CX (K : CK) (own : String) (cc : ByteArray) (nL : Nat) (ret : Option FieldType) (fr lo : Nat) : Prop :=
  K.1.tables.exec = Jvm.exec ∧ K.2.2.2.2.2.2.2.2.2.1.code = cc ∧ K.2.2.2.2.2.2.2.2.2.1.maxLocals = nL ∧ (kS K).vm.findClass own = some (kM K).cls ∧ (∀ w ∈ lw_gw, w.before K.2.2.2.2.2.2.1 (kS K) = true) ∧ va_K (jD (kE K)) vwCl (tysl (kE K)) (kS K) ∧ apart (kE K) ∧ StrOk (kE K) (kS K) ∧ K.2.2.2.2.2.2.2.2.1.sig.returnType = ret ∧ K.2.2.2.2.2.2.2.2.1.locks = false ∧ kR K = { frames := fr, cells := 0, slots := 0, locals := lo }
/-- locals as a list, what is known of each -/
def lsC (ad : Nat → Nat) (ls : List (Option Value)) : List (Nat × Value) := (List.range ls.length).filterMap (fun i => (ls.getD i none).map (fun v => (i, cv ad v)))
theorem lsC_mem {ad : Nat → Nat} {ls : List (Option Value)} {q : Nat × Value} : q ∈ lsC ad ls ↔ ∃ v, ls[q.1]? = some (some v) ∧ q.2 = cv ad v := by
  unfold lsC
  rw [List.mem_filterMap]
  constructor
  · rintro ⟨i, hi, h⟩
    rw [List.mem_range] at hi
    rw [List.getD_eq_getElem?_getD, List.getElem?_eq_getElem hi] at h
    cases hv : ls[i] with
    | none => simp [hv] at h
    | some v =>
      simp only [hv, Option.getD_some, Option.map_some, Option.some.injEq] at h
      subst h
      exact ⟨v, by rw [List.getElem?_eq_getElem hi, hv], rfl⟩
  · rintro ⟨v, hv, hq⟩
    have hi : q.1 < ls.length := (List.getElem?_eq_some_iff.mp hv).1
    refine ⟨q.1, List.mem_range.mpr hi, ?_⟩
    rw [List.getD_eq_getElem?_getD, hv]
    simp only [Option.getD_some, Option.map_some, Option.some.injEq]
    exact Prod.ext rfl hq.symm
theorem lsat {ad : Nat → Nat} {ls : List (Option Value)} {arr : Array Slot} {n i : Nat} {v : Value} (h : lv_has arr n (lsC ad ls)) (hi : ls[i]? = some (some v)) : arr[i]? = some (.val (cv ad v)) := h.2.2 (i, cv ad v) (lsC_mem.mpr ⟨v, hi, rfl⟩)
theorem ls_sub {arr : Array Slot} {n : Nat} {l l2 : List (Nat × Value)} (h : lv_has arr n l) (hs : ∀ q ∈ l2, q ∈ l) : lv_has arr n l2 := ⟨h.1, h.2.1, fun q hq => h.2.2 q (hs q hq)⟩
/-- no long lies just ahead of place i -/
def noL (ls : List (Option Value)) : Nat → Bool
  | 0 => true
  | i + 1 => match ls.getD i none with
    | some v => v.category == 1
    | none => true
theorem noL_spec {ls : List (Option Value)} {i j : Nat} {v : Value} (h : noL ls i = true) (hj : ls[j]? = some (some v)) (e : j + 1 = i) : v.category = 1 := by
  subst e
  simp only [noL, List.getD_eq_getElem?_getD, hj, Option.getD_some, beq_iff_eq] at h
  exact h
/-- one slot is stored -/
theorem ls_set1 {ad : Nat → Nat} {ls : List (Option Value)} {i n : Nat} {v : Value} {arr : Array Slot} (hp : noL ls i = true) (hi : i < ls.length) (h : lv_has arr n ((i, cv ad v) :: (lsC ad ls).filter (fun q => !(q.1 == i) && !(q.1 + 1 == i && q.2.category == 2)))) : lv_has arr n (lsC ad (ls.set i (some v))) := by
  refine ls_sub h (fun q hq => ?_)
  obtain ⟨w, hw, e⟩ := lsC_mem.mp hq
  rw [List.getElem?_set] at hw
  by_cases hqi : i = q.1
  · rw [if_pos hqi, if_pos hi] at hw
    cases hw
    rw [List.mem_cons]
    exact Or.inl (Prod.ext hqi.symm e)
  · rw [if_neg hqi] at hw
    refine List.mem_cons_of_mem _ (List.mem_filter.mpr ⟨lsC_mem.mpr ⟨w, hw, e⟩, ?_⟩)
    have h1 : (q.1 == i) = false := by simpa using fun z => hqi z.symm
    rw [h1]
    by_cases h2 : q.1 + 1 = i
    · have := noL_spec hp hw h2
      rw [e, cv_cat, this]
      simp
    · simp [h2]
theorem ls_set2 {ad : Nat → Nat} {ls : List (Option Value)} {i n : Nat} {v : Value} {arr : Array Slot} (hp : noL ls i = true) (hi : i + 1 < ls.length) (h : lv_has arr n ((i, cv ad v) :: (lsC ad ls).filter (fun q => !(q.1 == i) && (!(q.1 == i + 1) && !(q.1 + 1 == i && q.2.category == 2))))) : lv_has arr n (lsC ad ((ls.set i (some v)).set (i + 1) none)) := by
  refine ls_sub h (fun q hq => ?_)
  obtain ⟨w, hw, e⟩ := lsC_mem.mp hq
  rw [List.getElem?_set] at hw
  by_cases hq1 : i + 1 = q.1
  · rw [if_pos hq1] at hw
    split at hw <;> cases hw
  · rw [if_neg hq1, List.getElem?_set] at hw
    by_cases hqi : i = q.1
    · rw [if_pos hqi, if_pos (by omega)] at hw
      cases hw
      rw [List.mem_cons]
      exact Or.inl (Prod.ext hqi.symm e)
    · rw [if_neg hqi] at hw
      refine List.mem_cons_of_mem _ (List.mem_filter.mpr ⟨lsC_mem.mpr ⟨w, hw, e⟩, ?_⟩)
      have h1 : (q.1 == i) = false := by simpa using fun z => hqi z.symm
      have h3 : (q.1 == i + 1) = false := by simpa using fun z => hq1 z.symm
      rw [h1, h3]
      by_cases h2 : q.1 + 1 = i
      · have := noL_spec hp hw h2
        rw [e, cv_cat, this]
        simp
      · simp [h2]
def GF {τ : Type} (K : CK) (ε : τ → Option Value) (h : Hp) (pc : Nat) (ls : List (Option Value)) (st : List Value) (o : Option (τ × Hp)) : Prop :=
  ∀ (r : τ) (h1 : Hp), o = some (r, h1) → ∀ (H : Heap) (locs : List Loc) (arr : Array Slot), va_P (jD (kE K)) vwCl (wsl (kE K) h) H → va_S (Ast (kE K)) (kS K).heap H locs → lv_has arr ls.length (lsC (jad (kE K)) ls) → kW K H locs (kQ K (ε r) h1) (F0 (kM K) pc arr (st.map (cv (jad (kE K)))))
theorem w_ai {E : JE} {h : Hp} {k n : Nat} (hs : shp k = (1, n)) : (wsl E h)[k]? = some (jad E k, .inl (jca E k, n, .inl (aF h k))) := by rw [wsl_get E h (shp_lt hs (by omega)), cE_ai E h hs]
theorem w_al {E : JE} {h : Hp} {k n : Nat} (hs : shp k = (2, n)) : (wsl E h)[k]? = some (jad E k, .inl (jca E k, n, .inr (.inl (lF h k)))) := by rw [wsl_get E h (shp_lt hs (by omega)), cE_al E h hs]
theorem w_az {E : JE} {h : Hp} {k n : Nat} (hs : shp k = (3, n)) : (wsl E h)[k]? = some (jad E k, .inl (jca E k, n, .inl (aF h k))) := by rw [wsl_get E h (shp_lt hs (by omega)), cE_az E h hs]
theorem w_aq {E : JE} {h : Hp} {k n : Nat} (hs : shp k = (4, n)) : (wsl E h)[k]? = some (jad E k, .inl (jca E k, n, .inr (.inr (.inr (.inr (fun j => (rf k j).map (jad E))))))) := by rw [wsl_get E h (shp_lt hs (by omega)), cE_aq E h hs]
theorem ty_i {E : JE} {k n : Nat} (hs : shp k = (1, n)) : (tysl E)[k]? = some (jca E k, .int) := by
  rw [tysl_get E (shp_lt hs (by omega))]; unfold aty; rw [hs]; rfl
theorem ty_l {E : JE} {k n : Nat} (hs : shp k = (2, n)) : (tysl E)[k]? = some (jca E k, .long) := by
  rw [tysl_get E (shp_lt hs (by omega))]; unfold aty; rw [hs]; rfl
theorem ty_z {E : JE} {k n : Nat} (hs : shp k = (3, n)) : (tysl E)[k]? = some (jca E k, .boolean) := by
  rw [tysl_get E (shp_lt hs (by omega))]; unfold aty; rw [hs]; rfl
theorem ty_q {E : JE} {k n : Nat} (hs : shp k = (4, n)) : (tysl E)[k]? = some (jca E k, .object "AlbumHours$Pieces") := by
  rw [tysl_get E (shp_lt hs (by omega))]; unfold aty; rw [hs]; rfl
