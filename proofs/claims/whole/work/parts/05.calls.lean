section
variable {τ σ : Type} {K : CK} {own : String} {cc : ByteArray} {nL fr lo : Nat} {ret : Option FieldType} {ε : τ → Option Value} {ε2 : σ → Option Value} {h : Hp} {pc : Nat} {ls ls2 : List (Option Value)} {st : List Value} {o o1 o2 : Option (τ × Hp)}
theorem AC_intro {y : MethodName} {b : ByteArray} {n : Nat} {av : List Value} {r : τ} {h1 : Hp} (own : String) (hown : y.cls = own) (hy : plainFor y = true) (ls0 : List (Option Value)) (hln : ls0.length = n) (hls : ∀ ad, lv_args 0 (av.map (cv ad)) = lsC ad ls0) (hlen : ∀ ad, (lg_sl (av.map (cv ad))).length ≤ n) (ho : o = some (r, h1)) (k : ∀ K : CK, CX K own b n ret fr lo → GF K ε h 0 ls0 [] o) : AC y b n ret fr lo av h (ε r) h1 := by
  intro l E
  refine va_MetF (cc := b) (maxL := n) (ret := ret) hy rfl ?_
  intro p e s m args below meth c s₁ B hml hv
  obtain ⟨rfl, hP, hK, hap, hst⟩ := hv
  have hts := atoms_spec (ws := wsm y b n ret) B.pre
  have C : CX (p, l, e, (headSpec (wsm y b n ret) { frames := fr, cells := 0, slots := 0, locals := lo }).room, s, m, (av.map (cv (jad E))).toArray, below, meth, c, E) own b n ret fr lo := ⟨B.exec, B.bytes, hml, by rw [← hown]; exact findClass_of_methodNamed B.named, fun w hw => hts w (List.mem_cons_of_mem _ hw), hK, hap, hst, B.returns, B.notSynchronized, rfl⟩
  have hl := lv_entry (av.map (cv (jad E))) (n := n) (hlen _)
  rw [lg_entry_eq]
  refine k _ C r h1 ho s.heap [] _ hP va_S.rf ?_
  rw [← hls, hln]
  exact hl
theorem jcall {H : Heap} {locs : List Loc} {arr : Array Slot} {rest st0 : List Value} {rv : Option Value} {h2 : Hp} {a : Array Value} {Q : State → Prop} (hr : va_Run K.1 K.2.1 K.2.2.1 K.2.2.2.1 K.2.2.2.2.1 K.2.2.2.2.2.1 K.2.2.2.2.2.2.1 K.2.2.2.2.2.2.2.1 K.2.2.2.2.2.2.2.2.1 K.2.2.2.2.2.2.2.2.2.1 H locs 0 0 0 0 (F0 (kM K) pc arr st0) rest (Po (kE K) rv h2 a) (Ast (kE K))) (hS : va_S (Ast (kE K)) (kS K).heap H locs)
    (kk : ∀ (H1 : Heap) (locs1 : List Loc), va_P (jD (kE K)) vwCl (wsl (kE K) h2) H1 → va_S (Ast (kE K)) (kS K).heap H1 locs1 → kW K H1 locs1 Q (F0 (kM K) (pc + 3) arr ((rv.map (cv (jad (kE K)))).toList ++ rest))) : kW K H locs Q (F0 (kM K) pc arr st0) := by
  intro T hT X
  obtain ⟨v, st₀, t, T', L, h0, X', hL, e1, e2, ⟨hv, hp, hz, hk⟩, stp⟩ := hr T hT X
  cases hv
  rw [h0] at hz hk
  obtain ⟨t2, a1, b1⟩ := kk T'.heap (locs ++ L) (by rw [e1]; exact hp) ⟨Nat.le_trans hS.1 (by rw [e1]; exact hz), fun q h1 h2 => by rw [e1, hk q (Nat.lt_of_lt_of_le h1 hS.1) h2]; exact hS.2.1 q h1 h2, fun q hq => by
      rcases List.mem_append.mp hq with h | h
      · exact hS.2.2 q h
      · exact hL q h⟩ T' rfl X'
  exact ⟨t2, stp t2 a1, b1⟩
/-- a method's own words -/
def MI (y : MethodName) (b : ByteArray) (n : Nat) (rt : Option FieldType) (np : Nat) : Prop := Cond.code y b n rt ∈ lw_gw ∧ Cond.initialized y.cls ∈ lw_gw ∧ (y.cls ≠ "java/lang/invoke/MethodHandle" ∧ y.cls ≠ "java/lang/invoke/VarHandle") ∧ (parseMethodDescriptor y.desc).map (fun d => d.parameters.length) = some np
def MV (y : MethodName) (b : ByteArray) (n : Nat) (rt : Option FieldType) (np ci : Nat) : Prop := MI y b n rt np ∧ Cond.instanceMethod y ∈ lw_gw ∧ Cond.selects y.cls y y ∈ lw_gw ∧ ∃ (T : u_T) (N : Nat), vwCl[ci]? = some (y.cls, T, N)
def MS (y : MethodName) (b : ByteArray) (n : Nat) (rt : Option FieldType) (np : Nat) : Prop := MI y b n rt np ∧ Cond.static y ∈ lw_gw
theorem MI.ws {y : MethodName} {b : ByteArray} {n np : Nat} {rt : Option FieldType} (C : CX K own cc nL ret fr lo) (mi : MI y b n rt np) : ∀ w ∈ wsm y b n rt, ∀ (a' : Array Value) (U : State), (kS K).WarmedH U.vm → w.before a' U = true := by
  intro w hw a' U hW
  have h1 : w ∈ lw_gw := by
    rcases List.mem_cons.mp hw with h | h
    · rw [h]; exact mi.1
    · exact h
  exact word_at hW (good_of_word (gw_good h1)) (C.2.2.2.2.1 w h1)
theorem MI.np {y : MethodName} {b : ByteArray} {n np : Nat} {rt : Option FieldType} (mi : MI y b n rt np) : ∀ sig, parseMethodDescriptor y.desc = some sig → np = sig.parameters.length := by
  intro sig hs
  have h := mi.2.2.2
  rw [hs] at h
  exact (Option.some.inj h).symm
theorem Wd.next (C : CX K own cc nL ret fr lo) {H : Heap} {locs : List Loc} (hP : va_P (jD (kE K)) vwCl (wsl (kE K) h) H) (hS : va_S (Ast (kE K)) (kS K).heap H locs) {U : State} (hU : U.heap = H) (hW : (kS K).WarmedH U.vm) : Wd (kE K) h U :=
  ⟨by rw [hU]; exact hP, va_K.moved hW.alike C.2.2.2.2.2.1, C.2.2.2.2.2.2.1, C.2.2.2.2.2.2.2.1.later hS hU hW⟩
theorem st_room {m : MethodId} {arr : Array Slot} {rest : List Value} {ad : Nat → Nat} (hst : (st.map fun v => v.category).sum ≤ 8) : 2 * (F0 m pc arr rest).monitorRoom + ((st.map (cv ad)).map fun v => v.category).sum ≤ 8 := lv_room (by rw [cv_cats]; exact hst)
theorem rv_list (rv : Option Value) (ad : Nat → Nat) (st : List Value) : (rv.map (cv ad)).toList ++ st.map (cv ad) = (rv.toList ++ st).map (cv ad) := by cases rv <;> rfl
theorem bd_cases {Fc : Option (σ × Hp)} {kont : σ → Hp → Option (τ × Hp)} {q : τ × Hp} (h : bd Fc kont = some q) : ∃ r2 h2, Fc = some (r2, h2) ∧ kont r2 h2 = some q := by
  cases Fc with
  | none => cases h
  | some p => exact ⟨p.1, p.2, rfl, h⟩
theorem gf_callV (C : CX K own cc nL ret fr lo) {y : MethodName} {b : ByteArray} {n : Nat} {rt : Option FieldType} {np ci fr2 lo2 ix a : Nat} (As : List Value) {stk : List Value} {Fc : Option (σ × Hp)} {kont : σ → Hp → Option (τ × Hp)} (d : decode cc pc = .ok (.invokevirtual ix, 3)) (mv : MV y b n rt np ci) (wl : Cond.methodLink own ix y ∈ lw_gw) (hs : shp a = (0, ci)) (ok : ∀ r h2, Fc = some (r, h2) → AC y b n rt fr2 lo2 (.ref a :: As) h (ε2 r) h2)
    (hst : stk = As.reverse ++ .ref a :: st) (hln : ls.length = nL) (hn : As.length = np) (hfr : fr2 + 1 ≤ fr) (hlo : 8 + (n + 11) + lo2 ≤ lo) (hst8 : (st.map fun v => v.category).sum ≤ 8) (k : ∀ r h2, GF K ε h2 (pc + 3) ls ((ε2 r).toList ++ st) (kont r h2)) : GF K ε h pc ls stk (bd Fc kont) := by
  subst hst
  intro r h1 ho H locs arr hP hS hv
  obtain ⟨r2, h2, hFc, ho2⟩ := bd_cases ho
  obtain ⟨mi, wi, wsel, T, N, hc⟩ := mv
  have hts := C.2.2.2.2.1
  have hR : K.2.2.2.1 = { frames := fr, cells := 0, slots := 0, locals := lo } := C.2.2.2.2.2.2.2.2.2.2
  have hl := shp_lt hs (by omega)
  refine jcall (rest := st.map (cv (jad (kE K)))) (va_runV (C := y.cls) (own := own) (As := As.map (cv (jad (kE K)))) (n := np) (maxL := n) (bytes := b) (ret := rt) ⟨C.1, C.2.1, C.2.2.1, C.2.2.2.1, hts⟩ (ok r2 h2 hFc K.2.1 (kE K))
    ⟨⟨rfl, rfl, by rw [hR]; exact hfr, by rw [hR]; exact hlo, mi.ws C, List.mem_cons_self, hts _ mi.1, hts _ mi.2.1, mi.2.2.1, mi.np, hts _ wl⟩, hts _ wi, hts _ wsel⟩
    ⟨Wd.blind _ _ _, va_recv C.2.2.2.2.2.1 hP hc (by rw [wsl_get _ _ hl, cE_obj _ _ hs]), fun U hU hW => ⟨rfl, Wd.next C hP hS hU hW⟩⟩ rfl (by rw [List.length_map]; exact hn) (hv.1.trans hln) (by simp [List.map_append, List.map_reverse, cv]) (st_room hst8) d ⟨Nat.zero_le _, Nat.zero_le _⟩) hS (fun H1 locs1 hP1 hS1 => ?_)
  rw [rv_list]
  exact k r2 h2 r h1 ho2 H1 locs1 arr hP1 hS1 hv
theorem gf_callVN (C : CX K own cc nL ret fr lo) {y : MethodName} {b : ByteArray} {n : Nat} {rt : Option FieldType} {host : String} {np ci fr2 lo2 ix a : Nat} (As : List Value) {stk : List Value} {Fc : Option (σ × Hp)} {kont : σ → Hp → Option (τ × Hp)} (d : decode cc pc = .ok (.invokevirtual ix, 3)) (mv : MV y b n rt np ci) (wl : (own, ix, y, host) ∈ lw_nw) (hs : shp a = (0, ci)) (ok : ∀ r h2, Fc = some (r, h2) → AC y b n rt fr2 lo2 (.ref a :: As) h (ε2 r) h2)
    (hst : stk = As.reverse ++ .ref a :: st) (hln : ls.length = nL) (hn : As.length = np) (hfr : fr2 + 1 ≤ fr) (hlo : 8 + (n + 11) + lo2 ≤ lo) (hst8 : (st.map fun v => v.category).sum ≤ 8) (k : ∀ r h2, GF K ε h2 (pc + 3) ls ((ε2 r).toList ++ st) (kont r h2)) : GF K ε h pc ls stk (bd Fc kont) := by
  subst hst
  intro r h1 ho H locs arr hP hS hv
  obtain ⟨r2, h2, hFc, ho2⟩ := bd_cases ho
  obtain ⟨mi, wi, wsel, T, N, hc⟩ := mv
  have hts := C.2.2.2.2.1
  have hR : K.2.2.2.1 = { frames := fr, cells := 0, slots := 0, locals := lo } := C.2.2.2.2.2.2.2.2.2.2
  have hl := shp_lt hs (by omega)
  refine jcall (rest := st.map (cv (jad (kE K)))) (va_runVN (C := y.cls) (own := own) (host := host) (As := As.map (cv (jad (kE K)))) (n := np) (maxL := n) (bytes := b) (ret := rt) ⟨C.1, C.2.1, C.2.2.1, C.2.2.2.1, hts⟩ (ok r2 h2 hFc K.2.1 (kE K))
    ⟨⟨⟨rfl, rfl, by rw [hR]; exact hfr, by rw [hR]; exact hlo, mi.ws C, List.mem_cons_self⟩, hts _ mi.1, hts _ mi.2.1, mi.2.2.1, mi.np, va_Nw.use rfl (C.2.2.2.2.2.2.2.1.2.2.2.2.1 _ wl)⟩, hts _ wi, hts _ wsel⟩
    ⟨Wd.blind _ _ _, va_recv C.2.2.2.2.2.1 hP hc (by rw [wsl_get _ _ hl, cE_obj _ _ hs]), fun U hU hW => ⟨rfl, Wd.next C hP hS hU hW⟩⟩ rfl (by rw [List.length_map]; exact hn) (hv.1.trans hln) (by simp [List.map_append, List.map_reverse, cv]) (st_room hst8) d ⟨Nat.zero_le _, Nat.zero_le _⟩) hS (fun H1 locs1 hP1 hS1 => ?_)
  rw [rv_list]
  exact k r2 h2 r h1 ho2 H1 locs1 arr hP1 hS1 hv
theorem gf_callS (C : CX K own cc nL ret fr lo) {y : MethodName} {b : ByteArray} {n : Nat} {rt : Option FieldType} {np fr2 lo2 ix : Nat} (As : List Value) {stk : List Value} {Fc : Option (σ × Hp)} {kont : σ → Hp → Option (τ × Hp)} (d : decode cc pc = .ok (.invokestatic ix, 3)) (mv : MS y b n rt np) (wl : Cond.methodLink own ix y ∈ lw_gw) (ok : ∀ r h2, Fc = some (r, h2) → AC y b n rt fr2 lo2 As h (ε2 r) h2)
    (hst : stk = As.reverse ++ st) (hln : ls.length = nL) (hn : As.length = np) (hfr : fr2 + 1 ≤ fr) (hlo : 8 + (n + 11) + lo2 ≤ lo) (hst8 : (st.map fun v => v.category).sum ≤ 8) (k : ∀ r h2, GF K ε h2 (pc + 3) ls ((ε2 r).toList ++ st) (kont r h2)) : GF K ε h pc ls stk (bd Fc kont) := by
  subst hst
  intro r h1 ho H locs arr hP hS hv
  obtain ⟨r2, h2, hFc, ho2⟩ := bd_cases ho
  obtain ⟨mi, wi⟩ := mv
  have hts := C.2.2.2.2.1
  have hR : K.2.2.2.1 = { frames := fr, cells := 0, slots := 0, locals := lo } := C.2.2.2.2.2.2.2.2.2.2
  refine jcall (rest := st.map (cv (jad (kE K)))) (va_runS (own := own) (As := As.map (cv (jad (kE K)))) (n := np) (maxL := n) (bytes := b) (ret := rt) ⟨C.1, C.2.1, C.2.2.1, C.2.2.2.1, hts⟩ (ok r2 h2 hFc K.2.1 (kE K))
    ⟨⟨rfl, rfl, by rw [hR]; exact hfr, by rw [hR]; exact hlo, mi.ws C, List.mem_cons_self, hts _ mi.1, hts _ mi.2.1, mi.2.2.1, mi.np, hts _ wl⟩, hts _ wi⟩
    ⟨Wd.blind _ _ _, fun U hU hW => ⟨rfl, Wd.next C hP hS hU hW⟩⟩ rfl (by rw [List.length_map]; exact hn) (hv.1.trans hln) (by simp [List.map_append, List.map_reverse]) (st_room hst8) d ⟨Nat.zero_le _, Nat.zero_le _⟩) hS (fun H1 locs1 hP1 hS1 => ?_)
  rw [rv_list]
  exact k r2 h2 r h1 ho2 H1 locs1 arr hP1 hS1 hv
theorem gf_callS1 (C : CX K own cc nL ret fr lo) {y : MethodName} {b : ByteArray} {n : Nat} {rt : Option FieldType} {np fr2 lo2 ix : Nat} (As : List Value) {stk : List Value} {r2 : σ} (d : decode cc pc = .ok (.invokestatic ix, 3)) (mv : MS y b n rt np) (wl : Cond.methodLink own ix y ∈ lw_gw) (ok : AC y b n rt fr2 lo2 As h (ε2 r2) h)
    (hst : stk = As.reverse ++ st) (hln : ls.length = nL) (hn : As.length = np) (hfr : fr2 + 1 ≤ fr) (hlo : 8 + (n + 11) + lo2 ≤ lo) (hst8 : (st.map fun v => v.category).sum ≤ 8) (k : GF K ε h (pc + 3) ls ((ε2 r2).toList ++ st) o) : GF K ε h pc ls stk o := by
  subst hst
  intro r h1 ho H locs arr hP hS hv
  obtain ⟨mi, wi⟩ := mv
  have hts := C.2.2.2.2.1
  have hR : K.2.2.2.1 = { frames := fr, cells := 0, slots := 0, locals := lo } := C.2.2.2.2.2.2.2.2.2.2
  refine jcall (rest := st.map (cv (jad (kE K)))) (va_runS (own := own) (As := As.map (cv (jad (kE K)))) (n := np) (maxL := n) (bytes := b) (ret := rt) ⟨C.1, C.2.1, C.2.2.1, C.2.2.2.1, hts⟩ (ok K.2.1 (kE K))
    ⟨⟨rfl, rfl, by rw [hR]; exact hfr, by rw [hR]; exact hlo, mi.ws C, List.mem_cons_self, hts _ mi.1, hts _ mi.2.1, mi.2.2.1, mi.np, hts _ wl⟩, hts _ wi⟩
    ⟨Wd.blind _ _ _, fun U hU hW => ⟨rfl, Wd.next C hP hS hU hW⟩⟩ rfl (by rw [List.length_map]; exact hn) (hv.1.trans hln) (by simp [List.map_append, List.map_reverse]) (st_room hst8) d ⟨Nat.zero_le _, Nat.zero_le _⟩) hS (fun H1 locs1 hP1 hS1 => ?_)
  rw [rv_list]
  exact k r h1 ho H1 locs1 arr hP1 hS1 hv
theorem gf_callSN (C : CX K own cc nL ret fr lo) {y : MethodName} {b : ByteArray} {n : Nat} {rt : Option FieldType} {host : String} {np fr2 lo2 ix : Nat} (As : List Value) {stk : List Value} {Fc : Option (σ × Hp)} {kont : σ → Hp → Option (τ × Hp)} (d : decode cc pc = .ok (.invokestatic ix, 3)) (mv : MS y b n rt np) (wl : (own, ix, y, host) ∈ lw_nw) (ok : ∀ r h2, Fc = some (r, h2) → AC y b n rt fr2 lo2 As h (ε2 r) h2)
    (hst : stk = As.reverse ++ st) (hln : ls.length = nL) (hn : As.length = np) (hfr : fr2 + 1 ≤ fr) (hlo : 8 + (n + 11) + lo2 ≤ lo) (hst8 : (st.map fun v => v.category).sum ≤ 8) (k : ∀ r h2, GF K ε h2 (pc + 3) ls ((ε2 r).toList ++ st) (kont r h2)) : GF K ε h pc ls stk (bd Fc kont) := by
  subst hst
  intro r h1 ho H locs arr hP hS hv
  obtain ⟨r2, h2, hFc, ho2⟩ := bd_cases ho
  obtain ⟨mi, wi⟩ := mv
  have hts := C.2.2.2.2.1
  have hR : K.2.2.2.1 = { frames := fr, cells := 0, slots := 0, locals := lo } := C.2.2.2.2.2.2.2.2.2.2
  refine jcall (rest := st.map (cv (jad (kE K)))) (va_runSN (own := own) (host := host) (As := As.map (cv (jad (kE K)))) (n := np) (maxL := n) (bytes := b) (ret := rt) ⟨C.1, C.2.1, C.2.2.1, C.2.2.2.1, hts⟩ (ok r2 h2 hFc K.2.1 (kE K))
    ⟨⟨⟨rfl, rfl, by rw [hR]; exact hfr, by rw [hR]; exact hlo, mi.ws C, List.mem_cons_self⟩, hts _ mi.1, hts _ mi.2.1, mi.2.2.1, mi.np, va_Nw.use rfl (C.2.2.2.2.2.2.2.1.2.2.2.2.1 _ wl)⟩, hts _ wi, trivial⟩
    ⟨Wd.blind _ _ _, fun U hU hW => ⟨rfl, Wd.next C hP hS hU hW⟩⟩ rfl (by rw [List.length_map]; exact hn) (hv.1.trans hln) (by simp [List.map_append, List.map_reverse]) (st_room hst8) d ⟨Nat.zero_le _, Nat.zero_le _⟩) hS (fun H1 locs1 hP1 hS1 => ?_)
  rw [rv_list]
  exact k r2 h2 r h1 ho2 H1 locs1 arr hP1 hS1 hv
/-- System.arraycopy of ints, of longs -/
theorem cpB_spec {sp dp n : Int32} {n0 n1 : Nat} (h : cpB sp dp n n0 n1 = true) : ¬ sp < 0 ∧ ¬ dp < 0 ∧ ¬ n < 0 ∧ sp.toNatClampNeg + n.toNatClampNeg ≤ n0 ∧ dp.toNatClampNeg + n.toNatClampNeg ≤ n1 := by
  simp only [cpB, Bool.and_eq_true, Bool.not_eq_true', decide_eq_false_iff_not, decide_eq_true_eq] at h
  exact ⟨h.1, h.2.1, h.2.2.1, h.2.2.2.1, h.2.2.2.2⟩
def CPW (own : String) (ix : Nat) : Prop := Cond.methodLink own ix arraycopyName ∈ lw_gw ∧ Cond.native arraycopyName ∈ lw_gw ∧ Cond.static arraycopyName ∈ lw_gw ∧ Cond.initialized "java/lang/System" ∈ lw_gw
theorem gf_copyI (C : CX K own cc nL ret fr lo) {ix a0 a1 n0 n1 : Nat} {sp dp n : Int32} (d : decode cc pc = .ok (.invokestatic ix, 3)) (w : CPW own ix) (hs0 : shp a0 = (1, n0)) (hs1 : shp a1 = (1, n1)) (hln : ls.length = nL) (hfr : 1 ≤ fr) (hlo : (st.map fun v => v.category).sum + (nativeFrameWords "java/lang/System" "arraycopy" 5 + 11) ≤ lo)
    (k : GF K ε (aV h a1 (va_cpy (aF h a0) (aF h a1) sp.toNatClampNeg dp.toNatClampNeg n.toNatClampNeg)) (pc + 3) ls st o) : GF K ε h pc ls (.int n :: .int dp :: .ref a1 :: .int sp :: .ref a0 :: st) (gd (cpB sp dp n n0 n1) o) := by
  intro r h1 ho H locs arr hP hS hv
  cases c : cpB sp dp n n0 n1 with
  | false => rw [c] at ho; cases ho
  | true =>
    rw [c] at ho
    obtain ⟨q1, q2, q3, q4, q5⟩ := cpB_spec c
    have hl0 := shp_lt hs0 (by omega)
    have hl1 := shp_lt hs1 (by omega)
    have hts := C.2.2.2.2.1
    have hR : K.2.2.2.1 = { frames := fr, cells := 0, slots := 0, locals := lo } := C.2.2.2.2.2.2.2.2.2.2
    refine va_copyi C.1 C.2.1 (C.2.2.1.trans (hln.symm.trans hv.1.symm)) C.2.2.2.1 (hts _ w.1) (hts _ w.2.1) (hts _ w.2.2.1) (hts _ w.2.2.2) C.2.2.2.2.2.1 hP (wsl_D h C.2.2.2.2.2.2.1) hS a0 a1 a0 a1 (ty := .int) (w_ai hs0) (w_ai hs1) (ty_i hs0) (ty_i hs1) rfl q1 q2 q3 q4 q5 (fun _ _ => rfl) (by rw [hR]; exact hfr) (by rw [hR, cv_cats]; exact hlo) d (fun H1 locs1 hP1 hD1 hS1 => ?_)
    rw [wsl_aV (kE K) h (Or.inl hs1)] at hP1
    exact k r h1 ho H1 locs1 arr hP1 hS1 hv
theorem gf_copyL (C : CX K own cc nL ret fr lo) {ix a0 a1 n0 n1 : Nat} {sp dp n : Int32} (d : decode cc pc = .ok (.invokestatic ix, 3)) (w : CPW own ix) (hs0 : shp a0 = (2, n0)) (hs1 : shp a1 = (2, n1)) (hln : ls.length = nL) (hfr : 1 ≤ fr) (hlo : (st.map fun v => v.category).sum + (nativeFrameWords "java/lang/System" "arraycopy" 5 + 11) ≤ lo)
    (k : GF K ε (lV h a1 (va_cpy (lF h a0) (lF h a1) sp.toNatClampNeg dp.toNatClampNeg n.toNatClampNeg)) (pc + 3) ls st o) : GF K ε h pc ls (.int n :: .int dp :: .ref a1 :: .int sp :: .ref a0 :: st) (gd (cpB sp dp n n0 n1) o) := by
  intro r h1 ho H locs arr hP hS hv
  cases c : cpB sp dp n n0 n1 with
  | false => rw [c] at ho; cases ho
  | true =>
    rw [c] at ho
    obtain ⟨q1, q2, q3, q4, q5⟩ := cpB_spec c
    have hl0 := shp_lt hs0 (by omega)
    have hl1 := shp_lt hs1 (by omega)
    have hts := C.2.2.2.2.1
    have hR : K.2.2.2.1 = { frames := fr, cells := 0, slots := 0, locals := lo } := C.2.2.2.2.2.2.2.2.2.2
    refine va_copyl C.1 C.2.1 (C.2.2.1.trans (hln.symm.trans hv.1.symm)) C.2.2.2.1 (hts _ w.1) (hts _ w.2.1) (hts _ w.2.2.1) (hts _ w.2.2.2) C.2.2.2.2.2.1 hP (wsl_D h C.2.2.2.2.2.2.1) hS a0 a1 a0 a1 (ty := .long) (w_al hs0) (w_al hs1) (ty_l hs0) (ty_l hs1) rfl q1 q2 q3 q4 q5 (fun _ _ => rfl) (by rw [hR]; exact hfr) (by rw [hR, cv_cats]; exact hlo) d (fun H1 locs1 hP1 hD1 hS1 => ?_)
    rw [wsl_lV (kE K) h hs1] at hP1
    exact k r h1 ho H1 locs1 arr hP1 hS1 hv
end
