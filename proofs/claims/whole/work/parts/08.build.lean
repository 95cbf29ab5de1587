-- ===== worlds that grow: constructors, and the law =====
abbrev CB : Type := Program × Launch × Env × Room × State × MethodId × Array Value × List Frame × Method × Code × va_G × (Nat → Prop) × (State → Prop)
abbrev bD (K : CB) : va_G := K.2.2.2.2.2.2.2.2.2.2.1
abbrev bA (K : CB) : Nat → Prop := K.2.2.2.2.2.2.2.2.2.2.2.1
abbrev bQ (K : CB) : State → Prop := K.2.2.2.2.2.2.2.2.2.2.2.2
abbrev bS (K : CB) : State := K.2.2.2.2.1
abbrev bM (K : CB) : MethodId := K.2.2.2.2.2.1
abbrev bW (K : CB) (H : Heap) (locs : List Loc) (nc ns : Nat) (g : JFrame) : Prop := W K.1 K.2.1 K.2.2.1 K.2.2.2.1 K.2.2.2.2.1 K.2.2.2.2.2.1 K.2.2.2.2.2.2.1 K.2.2.2.2.2.2.2.1 K.2.2.2.2.2.2.2.2.1 K.2.2.2.2.2.2.2.2.2.1 H locs nc ns (bQ K) g
def NwOk (U : State) : Prop := (∀ q ∈ lw_nw, va_Nw (.methodLinkNest q.1 q.2.1 q.2.2.1 q.2.2.2) U) ∧ va_AO "AlbumHours$Pieces" U
def CY (K : CB) (own : String) (cc : ByteArray) (nL : Nat) (ret : Option FieldType) (fr mc ms lo : Nat) : Prop :=
  K.1.tables.exec = Jvm.exec ∧ K.2.2.2.2.2.2.2.2.2.1.code = cc ∧ K.2.2.2.2.2.2.2.2.2.1.maxLocals = nL ∧ (bS K).vm.findClass own = some (bM K).cls ∧ (∀ w ∈ lw_gw, w.before K.2.2.2.2.2.2.1 (bS K) = true) ∧ NwOk (bS K) ∧ K.2.2.2.2.2.2.2.2.1.sig.returnType = ret ∧ K.2.2.2.2.2.2.2.2.1.locks = false ∧ (∀ q, (bS K).heap.size ≤ q → bA K q) ∧ K.2.2.2.1 = { frames := fr, cells := mc, slots := ms, locals := lo }
def GW (K : CB) (ws : va_W) (tys : List (ClassId × FieldType)) (nc ns pc : Nat) (ls : List (Option Value)) (st : List Value) : Prop :=
  ∀ (H : Heap) (locs : List Loc) (arr : Array Slot), va_P (bD K) vwCl ws H → va_K (bD K) vwCl tys (bS K) → va_D (bA K) ws → va_S (bA K) (bS K).heap H locs → lv_has arr ls.length (lsC (fun k => k) ls) → bW K H locs nc ns (F0 (bM K) pc arr st)
section
variable {K : CB} {own : String} {cc : ByteArray} {nL fr mc ms lo nc ns pc : Nat} {ret : Option FieldType} {ws : va_W} {tys : List (ClassId × FieldType)} {ls ls2 : List (Option Value)} {st : List Value}
theorem gw_iconst (Y : CY K own cc nL ret fr mc ms lo) {n : Int} {v : Int32} (d : decode cc pc = .ok (.iconst n, 1)) (hc : Int32.ofInt n = v) (k : GW K ws tys nc ns (pc + 1) ls (.int v :: st)) : GW K ws tys nc ns pc ls st := fun H locs arr hP hK hD hS hv => lv_iconst Y.1 Y.2.1 d hc (k H locs arr hP hK hD hS hv)
theorem gw_bipush (Y : CY K own cc nL ret fr mc ms lo) {n : Int} {v : Int32} (d : decode cc pc = .ok (.bipush n, 2)) (hc : (Int8.ofInt n).toInt32 = v) (k : GW K ws tys nc ns (pc + 2) ls (.int v :: st)) : GW K ws tys nc ns pc ls st := fun H locs arr hP hK hD hS hv => lv_bipush Y.1 Y.2.1 d hc (k H locs arr hP hK hD hS hv)
theorem gw_sipush (Y : CY K own cc nL ret fr mc ms lo) {n : Int} {v : Int32} (d : decode cc pc = .ok (.sipush n, 3)) (hc : (Int16.ofInt n).toInt32 = v) (k : GW K ws tys nc ns (pc + 3) ls (.int v :: st)) : GW K ws tys nc ns pc ls st := fun H locs arr hP hK hD hS hv => lv_sipush Y.1 Y.2.1 d hc (k H locs arr hP hK hD hS hv)
theorem gw_iload (Y : CY K own cc nL ret fr mc ms lo) {i : Nat} {x : Int32} (d : decode cc pc = .ok (.iload i, 2)) (hl : ls[i]? = some (some (.int x))) (k : GW K ws tys nc ns (pc + 2) ls (.int x :: st)) : GW K ws tys nc ns pc ls st := fun H locs arr hP hK hD hS hv => lv_iload Y.1 Y.2.1 d (lsat hv hl) (k H locs arr hP hK hD hS hv)
theorem gw_iload_n (Y : CY K own cc nL ret fr mc ms lo) {n : Fin 4} {i : Nat} {x : Int32} (d : decode cc pc = .ok (.iload_n n, 1)) (hi : (n : Nat) = i) (hl : ls[i]? = some (some (.int x))) (k : GW K ws tys nc ns (pc + 1) ls (.int x :: st)) : GW K ws tys nc ns pc ls st := fun H locs arr hP hK hD hS hv => lv_iload_n Y.1 Y.2.1 d hi (lsat hv hl) (k H locs arr hP hK hD hS hv)
theorem gw_lload_n (Y : CY K own cc nL ret fr mc ms lo) {n : Fin 4} {i : Nat} {x : Int64} (d : decode cc pc = .ok (.lload_n n, 1)) (hi : (n : Nat) = i) (hl : ls[i]? = some (some (.long x))) (k : GW K ws tys nc ns (pc + 1) ls (.long x :: st)) : GW K ws tys nc ns pc ls st := fun H locs arr hP hK hD hS hv => lv_lload_n Y.1 Y.2.1 d hi (lsat hv hl) (k H locs arr hP hK hD hS hv)
theorem gw_aload_n (Y : CY K own cc nL ret fr mc ms lo) {n : Fin 4} {i : Nat} {x : Nat} (d : decode cc pc = .ok (.aload_n n, 1)) (hi : (n : Nat) = i) (hl : ls[i]? = some (some (.ref x))) (k : GW K ws tys nc ns (pc + 1) ls (.ref x :: st)) : GW K ws tys nc ns pc ls st := fun H locs arr hP hK hD hS hv => lv_aload_n Y.1 Y.2.1 d hi (lsat hv hl) (k H locs arr hP hK hD hS hv)
theorem gw_istore_n (Y : CY K own cc nL ret fr mc ms lo) {n : Fin 4} {i : Nat} {x : Int32} (d : decode cc pc = .ok (.istore_n n, 1)) (hn : (n : Nat) = i) (ls2 : List (Option Value)) (e : ls.set i (some (.int x)) = ls2) (hp : noL ls i = true) (hi : i < ls.length) (k : GW K ws tys nc ns (pc + 1) ls2 st) : GW K ws tys nc ns pc ls (.int x :: st) := by
  subst e
  exact fun H locs arr hP hK hD hS hv => lv_istore_n Y.1 Y.2.1 d hn hv hi rfl (fun arr2 hv2 => k H locs arr2 hP hK hD hS (by rw [List.length_set]; exact ls_set1 (v := .int x) hp hi hv2))
theorem gw_istore (Y : CY K own cc nL ret fr mc ms lo) {i : Nat} {x : Int32} (d : decode cc pc = .ok (.istore i, 2)) (ls2 : List (Option Value)) (e : ls.set i (some (.int x)) = ls2) (hp : noL ls i = true) (hi : i < ls.length) (k : GW K ws tys nc ns (pc + 2) ls2 st) : GW K ws tys nc ns pc ls (.int x :: st) := by
  subst e
  exact fun H locs arr hP hK hD hS hv => lv_istore Y.1 Y.2.1 d hv hi rfl (fun arr2 hv2 => k H locs arr2 hP hK hD hS (by rw [List.length_set]; exact ls_set1 (v := .int x) hp hi hv2))
theorem gw_lstore_n (Y : CY K own cc nL ret fr mc ms lo) {n : Fin 4} {i : Nat} {x : Int64} (d : decode cc pc = .ok (.lstore_n n, 1)) (hn : (n : Nat) = i) (ls2 : List (Option Value)) (e : (ls.set i (some (.long x))).set (i + 1) none = ls2) (hp : noL ls i = true) (hi : i + 1 < ls.length) (k : GW K ws tys nc ns (pc + 1) ls2 st) : GW K ws tys nc ns pc ls (.long x :: st) := by
  subst e
  exact fun H locs arr hP hK hD hS hv => lv_lstore_n Y.1 Y.2.1 d hn hv hi rfl (fun arr2 hv2 => k H locs arr2 hP hK hD hS (by rw [List.length_set, List.length_set]; exact ls_set2 (v := .long x) hp hi hv2))
theorem gw_astore_n (Y : CY K own cc nL ret fr mc ms lo) {n : Fin 4} {i : Nat} {x : Nat} (d : decode cc pc = .ok (.astore_n n, 1)) (hn : (n : Nat) = i) (ls2 : List (Option Value)) (e : ls.set i (some (.ref x)) = ls2) (hp : noL ls i = true) (hi : i < ls.length) (k : GW K ws tys nc ns (pc + 1) ls2 st) : GW K ws tys nc ns pc ls (.ref x :: st) := by
  subst e
  exact fun H locs arr hP hK hD hS hv => lv_astore_n Y.1 Y.2.1 d hn hv hi rfl (fun arr2 hv2 => k H locs arr2 hP hK hD hS (by rw [List.length_set]; exact ls_set1 (v := .ref x) hp hi hv2))
theorem gw_iinc (Y : CY K own cc nL ret fr mc ms lo) {i : Nat} {n : Int} {x v : Int32} (d : decode cc pc = .ok (.iinc i n, 3)) (hl : ls[i]? = some (some (.int x))) (hx : x + Int32.ofInt n = v) (ls2 : List (Option Value)) (e : ls.set i (some (.int v)) = ls2) (hp : noL ls i = true) (k : GW K ws tys nc ns (pc + 3) ls2 st) : GW K ws tys nc ns pc ls st := by
  subst e
  intro H locs arr hP hK hD hS hv
  have hi : i < ls.length := (List.getElem?_eq_some_iff.mp hl).1
  obtain ⟨q, hq⟩ := List.getElem?_of_mem (lsC_mem (ad := fun k => k) (q := (i, .int x)).mpr ⟨.int x, hl, rfl⟩)
  exact lv_iinc Y.1 Y.2.1 d hv hq hx hi rfl (fun arr2 hv2 => k H locs arr2 hP hK hD hS (by rw [List.length_set]; exact ls_set1 (v := .int v) hp hi hv2))
theorem gw_iadd (Y : CY K own cc nL ret fr mc ms lo) {x y : Int32} (d : decode cc pc = .ok (.iadd, 1)) (k : GW K ws tys nc ns (pc + 1) ls (.int (x + y) :: st)) : GW K ws tys nc ns pc ls (.int y :: .int x :: st) := fun H locs arr hP hK hD hS hv => lv_iadd Y.1 Y.2.1 d (k H locs arr hP hK hD hS hv)
theorem gw_isub (Y : CY K own cc nL ret fr mc ms lo) {x y : Int32} (d : decode cc pc = .ok (.isub, 1)) (k : GW K ws tys nc ns (pc + 1) ls (.int (x - y) :: st)) : GW K ws tys nc ns pc ls (.int y :: .int x :: st) := fun H locs arr hP hK hD hS hv => lv_isub Y.1 Y.2.1 d (k H locs arr hP hK hD hS hv)
theorem gw_iand (Y : CY K own cc nL ret fr mc ms lo) {x y : Int32} (d : decode cc pc = .ok (.iand, 1)) (k : GW K ws tys nc ns (pc + 1) ls (.int (x &&& y) :: st)) : GW K ws tys nc ns pc ls (.int y :: .int x :: st) := fun H locs arr hP hK hD hS hv => lv_iand Y.1 Y.2.1 d (k H locs arr hP hK hD hS hv)
theorem gw_lcmp (Y : CY K own cc nL ret fr mc ms lo) {x y : Int64} (d : decode cc pc = .ok (.lcmp, 1)) (k : GW K ws tys nc ns (pc + 1) ls (.int (lg_cmp x y) :: st)) : GW K ws tys nc ns pc ls (.long y :: .long x :: st) := fun H locs arr hP hK hD hS hv => W.lcmp Y.1 Y.2.1 d (k H locs arr hP hK hD hS hv)
theorem gw_dup (Y : CY K own cc nL ret fr mc ms lo) {v : Value} (d : decode cc pc = .ok (.dup, 1)) (hc : v.category = 1) (k : GW K ws tys nc ns (pc + 1) ls (v :: v :: st)) : GW K ws tys nc ns pc ls (v :: st) := fun H locs arr hP hK hD hS hv => lv_dup Y.1 Y.2.1 d hc (k H locs arr hP hK hD hS hv)
theorem gw_goto (Y : CY K own cc nL ret fr mc ms lo) {off : Int} (tgt : Nat) (d : decode cc pc = .ok (.goto off, 3)) (ht : (pc : Int) + off = (tgt : Int)) (k : GW K ws tys nc ns tgt ls st) : GW K ws tys nc ns pc ls st := fun H locs arr hP hK hD hS hv => lv_goto Y.1 Y.2.1 d ht (k H locs arr hP hK hD hS hv)
theorem gw_icmpge (Y : CY K own cc nL ret fr mc ms lo) {x y : Int32} {off : Int} (tgt : Nat) (d : decode cc pc = .ok (.if_icmp .ge off, 3)) (ht : (pc : Int) + off = (tgt : Int)) (kt : y ≤ x → GW K ws tys nc ns tgt ls st) (kf : ¬ y ≤ x → GW K ws tys nc ns (pc + 3) ls st) : GW K ws tys nc ns pc ls (.int y :: .int x :: st) := fun H locs arr hP hK hD hS hv => lv_icmp_ge Y.1 Y.2.1 d ht (fun c => kt c H locs arr hP hK hD hS hv) (fun c => kf c H locs arr hP hK hD hS hv)
theorem gw_icmpgt (Y : CY K own cc nL ret fr mc ms lo) {x y : Int32} {off : Int} (tgt : Nat) (d : decode cc pc = .ok (.if_icmp .gt off, 3)) (ht : (pc : Int) + off = (tgt : Int)) (kt : y < x → GW K ws tys nc ns tgt ls st) (kf : ¬ y < x → GW K ws tys nc ns (pc + 3) ls st) : GW K ws tys nc ns pc ls (.int y :: .int x :: st) := fun H locs arr hP hK hD hS hv => lv_icmp_gt Y.1 Y.2.1 d ht (fun c => kt c H locs arr hP hK hD hS hv) (fun c => kf c H locs arr hP hK hD hS hv)
theorem gw_icmpeq (Y : CY K own cc nL ret fr mc ms lo) {x y : Int32} {off : Int} (tgt : Nat) (d : decode cc pc = .ok (.if_icmp .eq off, 3)) (ht : (pc : Int) + off = (tgt : Int)) (kt : x = y → GW K ws tys nc ns tgt ls st) (kf : ¬ x = y → GW K ws tys nc ns (pc + 3) ls st) : GW K ws tys nc ns pc ls (.int y :: .int x :: st) := fun H locs arr hP hK hD hS hv => lv_icmp_eq Y.1 Y.2.1 d ht (fun c => kt c H locs arr hP hK hD hS hv) (fun c => kf c H locs arr hP hK hD hS hv)
theorem gw_ifeq (Y : CY K own cc nL ret fr mc ms lo) {x : Int32} {off : Int} (tgt : Nat) (d : decode cc pc = .ok (.ifCond .eq off, 3)) (ht : (pc : Int) + off = (tgt : Int)) (kt : x = 0 → GW K ws tys nc ns tgt ls st) (kf : ¬ x = 0 → GW K ws tys nc ns (pc + 3) ls st) : GW K ws tys nc ns pc ls (.int x :: st) := fun H locs arr hP hK hD hS hv => lv_if_eq Y.1 Y.2.1 d ht (fun c => kt c H locs arr hP hK hD hS hv) (fun c => kf c H locs arr hP hK hD hS hv)
theorem gw_objInit (Y : CY K own cc nL ret fr mc ms lo) {ix a : Nat} (d : decode cc pc = .ok (.invokespecial ix, 3)) (wl : Cond.methodLink own ix objectInit ∈ lw_gw) (wi : Cond.instanceMethod objectInit ∈ lw_gw) (wc : Cond.code objectInit ⟨#[0xb1]⟩ 1 none ∈ lw_gw) (hln : ls.length = nL) (hfr : 1 ≤ fr) (hlo : (st.map fun v => v.category).sum + 12 ≤ lo) (k : GW K ws tys nc ns (pc + 3) ls st) : GW K ws tys nc ns pc ls (.ref a :: st) := by
  intro H locs arr hP hK hD hS hv
  have hts := Y.2.2.2.2.1
  have hR : K.2.2.2.1 = { frames := fr, cells := mc, slots := ms, locals := lo } := Y.2.2.2.2.2.2.2.2.2
  exact W.objInit Y.1 Y.2.1 Y.2.2.2.1 (hts _ wl) (hts _ wi) (hts _ wc) rfl (hv.1.trans (hln.trans Y.2.2.1.symm)) rfl d (by rw [hR]; exact hfr) (by rw [hR]; show 2 * 0 + _ + 12 ≤ lo; omega) (k H locs arr hP hK hD hS hv)
theorem gw_new (Y : CY K own cc nL ret fr mc ms lo) {ix ci N : Nat} {C : String} {T : u_T} {ty0 : Nat → FieldType} (fs : List Value) (d : decode cc pc = .ok (.new ix, 3)) (c : CL ci C T N ty0) (hcl : Cond.classLink own ix C ∈ lw_gw) (hinst : Cond.instantiable C N ∈ lw_gw) (hini : Cond.initialized C ∈ lw_gw) (hfs : ∀ j, j < N → defaultValue (ty0 j) = vp_V fs j) (hcells : nc + 1 ≤ mc) (hslots : ns + N ≤ ms) (k : ∀ q, GW K (ws ++ [(q, .inr (ci, fs))]) tys (nc + 1) (ns + N) (pc + 3) ls (.ref q :: st)) : GW K ws tys nc ns pc ls st := by
  intro H locs arr hP hK hD hS hv
  have hts := Y.2.2.2.2.1
  have hR : K.2.2.2.1 = { frames := fr, cells := mc, slots := ms, locals := lo } := Y.2.2.2.2.2.2.2.2.2
  exact va_new Y.1 Y.2.1 hts c.2.2.1 ty0 c.2.2.2.1 Y.2.2.2.1 (hts _ hcl) (hts _ hinst) (hts _ hini) hK hP hD hS Y.2.2.2.2.2.2.2.2.1 c.1 hfs (by rw [hR]; exact hcells) (by rw [hR]; exact hslots) d (fun q H1 hP1 hD1 hS1 => k q H1 locs arr hP1 hK hD1 hS1 hv)
theorem gw_newa (Y : CY K own cc nL ret fr mc ms lo) {atype : ArrayType} {n : Int32} {N : Nat} (ty : FieldType) (a0 : vp_A) (d : decode cc pc = .ok (.newarray atype, 2)) (harr : Cond.arrayClass (newarray.typeOf atype) ∈ lw_gw) (hty : newarray.typeOf atype = ty) (ha : ∀ cA : ClassId, vp_cell cA a0 = arrV cA N (fun _ => defaultValue ty)) (hn : ¬ n < 0) (hN : n.toNatClampNeg = N) (hbytes : N * componentBytes ty ≤ 536870912) (hcells : nc + 1 ≤ mc) (hslots : ns + N ≤ ms) (k : ∀ (q : Nat) (cA : ClassId), GW K (ws ++ [(q, .inl (cA, a0))]) (tys ++ [(cA, ty)]) (nc + 1) (ns + N) (pc + 2) ls (.ref q :: st)) : GW K ws tys nc ns pc ls (.int n :: st) := by
  intro H locs arr hP hK hD hS hv
  have hts := Y.2.2.2.2.1
  have hR : K.2.2.2.1 = { frames := fr, cells := mc, slots := ms, locals := lo } := Y.2.2.2.2.2.2.2.2.2
  exact va_newa Y.1 Y.2.1 (hts _ harr) hty hK hP hD hS Y.2.2.2.2.2.2.2.2.1 ha hn hN hbytes (by rw [hR]; exact hcells) (by rw [hR]; exact hslots) d (fun q cA H1 hK1 hP1 hD1 hS1 => k q cA H1 locs arr hP1 hK1 hD1 hS1 hv)
theorem gw_newq (Y : CY K own cc nL ret fr mc ms lo) {ix : Nat} {n : Int32} {N : Nat} (d : decode cc pc = .ok (.anewarray ix, 3)) (hcl : Cond.classLink own ix "AlbumHours$Pieces" ∈ lw_gw) (hn : ¬ n < 0) (hN : n.toNatClampNeg = N) (hbytes : N * 4 ≤ 536870912) (hcells : nc + 1 ≤ mc) (hslots : ns + N ≤ ms) (k : ∀ (q : Nat) (cA : ClassId), GW K (ws ++ [(q, .inl (cA, N, .inr (.inr (.inr (.inr (fun _ => none))))))]) (tys ++ [(cA, .object "AlbumHours$Pieces")]) (nc + 1) (ns + N) (pc + 3) ls (.ref q :: st)) : GW K ws tys nc ns pc ls (.int n :: st) := by
  intro H locs arr hP hK hD hS hv
  have hts := Y.2.2.2.2.1
  have hR : K.2.2.2.1 = { frames := fr, cells := mc, slots := ms, locals := lo } := Y.2.2.2.2.2.2.2.2.2
  exact va_newq Y.1 Y.2.1 Y.2.2.2.1 (hts _ hcl) Y.2.2.2.2.2.1.2 hK hP hD hS Y.2.2.2.2.2.2.2.2.1 hn hN hbytes (by rw [hR]; exact hcells) (by rw [hR]; exact hslots) d (fun q cA H1 hK1 hP1 hD1 hS1 => k q cA H1 locs arr hP1 hK1 hD1 hS1 hv)
theorem gw_putF (Y : CY K own cc nL ret fr mc ms lo) {ix ci N a : Nat} {C : String} {T : u_T} {ty0 : Nat → FieldType} {ty : FieldType} {v : Value} {fs : List Value} (q0 j : Nat) (hnm : K.2.2.2.2.2.2.2.2.1.name = "<init>") (d : decode cc pc = .ok (.putfield ix, 3)) (c : CL ci C T N ty0) (he : ws[q0]? = some (a, .inr (ci, fs))) (hj : j < N) (wl : Cond.fieldLink own ix (T j).1 (T j).2.1 (T j).2.2.1 ∈ lw_gw) (hfin : (T j).2.2.2 = true) (hdecl : (T j).1 = own) (hd : parseFieldDescriptor (T j).2.2.1 = some ty) (hn : narrow ty v = v) (hfit : fits ty v = true) (hl : j < fs.length) (k : GW K (ws.set q0 (a, .inr (ci, fs.set j v))) tys nc ns (pc + 3) ls st) : GW K ws tys nc ns pc ls (v :: .ref a :: st) := by
  intro H locs arr hP hK hD hS hv
  have hts := Y.2.2.2.2.1
  exact va_putF Y.1 Y.2.1 hts c.2.2.1 ty0 c.2.2.2.1 c.2.2.2.2 Y.2.2.2.1 hK hP hD hS q0 he c.1 j hj (hts _ wl) (fun _ h => h) hfin hnm hdecl hd hn hfit hl d (fun H1 locs1 hP1 hD1 hS1 => k H1 locs1 arr hP1 hK hD1 hS1 hv)
theorem gw_put (Y : CY K own cc nL ret fr mc ms lo) {ix ci N a : Nat} {C : String} {T : u_T} {ty0 : Nat → FieldType} {ty : FieldType} {v : Value} {fs : List Value} (q0 j : Nat) (d : decode cc pc = .ok (.putfield ix, 3)) (c : CL ci C T N ty0) (he : ws[q0]? = some (a, .inr (ci, fs))) (hj : j < N) (wl : Cond.fieldLink own ix (T j).1 (T j).2.1 (T j).2.2.1 ∈ lw_gw) (hfin : (T j).2.2.2 = false) (hd : parseFieldDescriptor (T j).2.2.1 = some ty) (hn : narrow ty v = v) (hfit : fits ty v = true) (hl : j < fs.length) (k : GW K (ws.set q0 (a, .inr (ci, fs.set j v))) tys nc ns (pc + 3) ls st) : GW K ws tys nc ns pc ls (v :: .ref a :: st) := by
  intro H locs arr hP hK hD hS hv
  have hts := Y.2.2.2.2.1
  exact va_put Y.1 Y.2.1 hts c.2.2.1 ty0 c.2.2.2.1 c.2.2.2.2 Y.2.2.2.1 hK hP hD hS q0 he c.1 j hj (hts _ wl) (fun _ h => h) hfin hd hn hfit hl d (fun H1 locs1 hP1 hD1 hS1 => k H1 locs1 arr hP1 hK hD1 hS1 hv)
theorem gw_get (Y : CY K own cc nL ret fr mc ms lo) {ix ci N a : Nat} {C : String} {T : u_T} {ty0 : Nat → FieldType} {v : Value} {fs : List Value} (q0 j : Nat) (d : decode cc pc = .ok (.getfield ix, 3)) (c : CL ci C T N ty0) (he : ws[q0]? = some (a, .inr (ci, fs))) (hj : j < N) (wl : Cond.fieldLink own ix (T j).1 (T j).2.1 (T j).2.2.1 ∈ lw_gw) (hg : fs[j]? = some v) (k : GW K ws tys nc ns (pc + 3) ls (v :: st)) : GW K ws tys nc ns pc ls (.ref a :: st) := by
  intro H locs arr hP hK hD hS hv
  have hts := Y.2.2.2.2.1
  exact va_get Y.1 Y.2.1 hts c.2.2.1 Y.2.2.2.1 hK hP q0 he c.1 j hj (hts _ wl) (fun _ h => h) hg d (k H locs arr hP hK hD hS hv)
theorem gw_iast (Y : CY K own cc nL ret fr mc ms lo) {a n : Nat} {cA : ClassId} {f : Nat → Int32} {i x : Int32} (q0 t0 : Nat) (d : decode cc pc = .ok (.iastore, 1)) (ha : ws[q0]? = some (a, .inl (cA, n, .inl f))) (ht : tys[t0]? = some (cA, .int)) (hin : vp_in i n) (k : GW K (ws.set q0 (a, .inl (cA, n, .inl (upd f i.toNatClampNeg x)))) tys nc ns (pc + 1) ls st) : GW K ws tys nc ns pc ls (.int x :: .int i :: .ref a :: st) := by
  intro H locs arr hP hK hD hS hv
  exact va_iast Y.1 Y.2.1 hK hP hD hS q0 t0 ha ht hin d (fun H1 locs1 hP1 hD1 hS1 => k H1 locs1 arr hP1 hK hD1 hS1 hv)
theorem gw_alen (Y : CY K own cc nL ret fr mc ms lo) {a n : Nat} {cA : ClassId} {f : Nat → Int32} {v : Int32} (q0 t0 : Nat) (d : decode cc pc = .ok (.arraylength, 1)) (ha : ws[q0]? = some (a, .inl (cA, n, .inl f))) (ht : tys[t0]? = some (cA, .int)) (hn : Int32.ofNat n = v) (k : GW K ws tys nc ns (pc + 1) ls (.int v :: st)) : GW K ws tys nc ns pc ls (.ref a :: st) := by
  intro H locs arr hP hK hD hS hv
  exact va_alen Y.1 Y.2.1 hK hP q0 t0 ha ht hn d (k H locs arr hP hK hD hS hv)
theorem gw_aast (Y : CY K own cc nL ret fr mc ms lo) {a n v ci N : Nat} {cA : ClassId} {C : String} {T : u_T} {ty0 : Nat → FieldType} {f : Nat → Option Nat} {vs : List Value} {i : Int32} (q0 t0 qk : Nat) (d : decode cc pc = .ok (.aastore, 1)) (c : CL ci C T N ty0) (ha : ws[q0]? = some (a, .inl (cA, n, .inr (.inr (.inr (.inr f)))))) (ht : tys[t0]? = some (cA, .object C)) (hv0 : ws[qk]? = some (v, .inr (ci, vs))) (hin : vp_in i n) (k : GW K (ws.set q0 (a, .inl (cA, n, .inr (.inr (.inr (.inr (va_up f i.toNatClampNeg (some v)))))))) tys nc ns (pc + 1) ls st) : GW K ws tys nc ns pc ls (.ref v :: .int i :: .ref a :: st) := by
  intro H locs arr hP hK hD hS hv
  exact va_astq Y.1 Y.2.1 hK hP hD hS q0 t0 qk ci ha ht hv0 c.1 hin d (fun H1 locs1 hP1 hD1 hS1 => k H1 locs1 arr hP1 hK hD1 hS1 hv)
theorem gw_sub {ws2 : va_W} {ty2 : List (ClassId × FieldType)} (is ts : List Nat) (hn : va_nd is = true) (hw : is.map (fun i => ws[i]?) = ws2.map some) (hw2 : is.filterMap (fun i => ws[i]?) = ws2) (ht : ts.filterMap (fun i => tys[i]?) = ty2) (k : GW K ws2 ty2 nc ns pc ls st) : GW K ws tys nc ns pc ls st := fun H locs arr hP hK hD hS hv => k H locs arr (hP.sub is hw2) (hK.sub ts ht) (hD.sub is hn hw) hS hv
theorem gw_lsub (ls2 : List (Option Value)) (hw : wk ls2 ls) (k : GW K ws tys nc ns pc ls2 st) : GW K ws tys nc ns pc ls st := by
  obtain ⟨e, g⟩ := wk_spec hw
  intro H locs arr hP hK hD hS hv
  refine k H locs arr hP hK hD hS (ls_sub (by rw [e]; exact hv) (fun q hq => ?_))
  obtain ⟨v, hq1, hq2⟩ := lsC_mem.mp hq
  exact lsC_mem.mpr ⟨v, g _ _ hq1, hq2⟩
end
-- ===== contracts of the builders =====
def Bpo (D : va_G) (wc : va_W) (sz : Nat) (post : va_W → List (ClassId × FieldType) → Prop) : Array Value → State → Outcome → State → Prop := fun _ st oc t => oc = .returned none ∧ (∃ (wf : va_W) (tf : List (ClassId × FieldType)), post wf tf ∧ va_P D vwCl wf t.heap ∧ va_K D vwCl tf t ∧ va_D (va_A wc sz) wf) ∧ va_F (va_A wc sz) st t
def Bpr (D : va_G) (wc : va_W) (tc : List (ClassId × FieldType)) (sz : Nat) (U : State) : Prop := U.heap.size = sz ∧ va_P D vwCl wc U.heap ∧ va_K D vwCl tc U ∧ va_D (fun _ => True) wc ∧ NwOk U
def CTR (y : MethodName) (b : ByteArray) (n fr mc ms lo : Nat) (av : List Value) (D : va_G) (wc : va_W) (tc : List (ClassId × FieldType)) (post : va_W → List (ClassId × FieldType) → Prop) : Prop :=
  ∀ (l : Launch) (sz : Nat), Met l y (wsm y b n none) { frames := fr, cells := mc, slots := ms, locals := lo } (va_Pc av (Bpr D wc tc sz)) (Bpo D wc sz post) mc ms (va_A wc sz)
theorem NwOk.calling {U : State} {g : JFrame} {mk : MethodId} {a : Array Value} (h : NwOk U) : NwOk (U.calling g mk a) := ⟨fun q hq => va_Nw.same rfl (u := U) rfl (h.1 q hq), va_AO.moved (u := U) (U := U.calling g mk a) (Vm.Alike.refl U.vm) h.2⟩
theorem NwOk.warm {s U : State} (hW : s.WarmedH U.vm) (h : NwOk s) : NwOk U := ⟨fun q hq => va_Nw.warmM hW (h.1 q hq), va_AO.moved hW.alike h.2⟩
theorem Bpr.blind (D : va_G) (wc : va_W) (tc : List (ClassId × FieldType)) (sz : Nat) (av : List Value) : FrameBlind (va_Pc av (Bpr D wc tc sz)) := by
  intro a U g mk q
  obtain ⟨q0, q1, q2, q3, q4, q5⟩ := q
  exact ⟨q0, q1, q2, va_K.moved (u := U) (U := U.calling g mk a) (Vm.Alike.refl U.vm) q3, q4, q5.calling⟩
theorem CTR_intro {y : MethodName} {b : ByteArray} {n fr mc ms lo : Nat} {av : List Value} {D : va_G} {wc : va_W} {tc : List (ClassId × FieldType)} {post : va_W → List (ClassId × FieldType) → Prop} (own nm : String) (hown : y.cls = own) (hnm : y.name = nm) (hy : plainFor y = true) (ls0 : List (Option Value)) (hln : ls0.length = n) (hls : lv_args 0 av = lsC (fun k => k) ls0) (hlen : (lg_sl av).length ≤ n)
    (k : ∀ K : CB, CY K own b n none fr mc ms lo → K.2.2.2.2.2.2.2.2.1.name = nm → bD K = D → (∃ sz, bQ K = MQ K.2.2.2.2.2.2.2.1 (Bpo D wc sz post) K.2.2.2.2.2.2.1 (bS K) mc ms (va_A wc sz) ∧ bA K = va_A wc sz) → GW K wc tc 0 0 0 ls0 []) : CTR y b n fr mc ms lo av D wc tc post := by
  intro l sz
  refine va_MetF (cc := b) (maxL := n) (ret := none) hy rfl ?_
  intro p e s m args below meth c s₁ B hml hv
  obtain ⟨rfl, hsz, hP, hK, hD0, hnw⟩ := hv
  have hts := atoms_spec (ws := wsm y b n none) B.pre
  subst hsz
  have Y : CY (p, l, e, (headSpec (wsm y b n none) { frames := fr, cells := mc, slots := ms, locals := lo }).room, s, m, av.toArray, below, meth, c, D, va_A wc s.heap.size, MQ below (Bpo D wc s.heap.size post) av.toArray s mc ms (va_A wc s.heap.size)) own b n none fr mc ms lo := ⟨B.exec, B.bytes, hml, by rw [← hown]; exact findClass_of_methodNamed B.named, fun w hw => hts w (List.mem_cons_of_mem _ hw), hnw, B.returns, B.notSynchronized, fun q h => Or.inr h, rfl⟩
  have hl := lv_entry av (n := n) hlen
  rw [lg_entry_eq]
  refine k _ Y (by rw [← hnm]; exact (name_of_methodNamed B.named B.method).1) rfl ⟨_, rfl, rfl⟩ s.heap [] _ hP hK hD0.self va_S.rf ?_
  rw [← hls, hln]
  exact hl
theorem gw_vret {K : CB} {own : String} {cc : ByteArray} {nL fr mc ms lo pc : Nat} {ws : va_W} {tys : List (ClassId × FieldType)} {ls : List (Option Value)} {D : va_G} {wc : va_W} {post : va_W → List (ClassId × FieldType) → Prop} (Y : CY K own cc nL none fr mc ms lo) (hD : bD K = D) (hQ : ∃ sz, bQ K = MQ K.2.2.2.2.2.2.2.1 (Bpo D wc sz post) K.2.2.2.2.2.2.1 (bS K) mc ms (va_A wc sz) ∧ bA K = va_A wc sz) (d : decode cc pc = .ok (.return_, 1)) (h : post ws tys) : GW K ws tys mc ms pc ls [] := by
  obtain ⟨sz, hQ, hA⟩ := hQ
  intro H locs arr hP hK hD2 hS hv
  show W _ _ _ _ _ _ _ _ _ _ H locs mc ms (bQ K) _
  rw [hQ]
  rw [hA] at hD2 hS
  rw [hD] at hP hK
  exact W.vret Y.1 Y.2.1 Y.2.2.2.2.2.2.1 (fun t ht hW => ⟨rfl, ⟨ws, tys, h, by rw [ht]; exact hP, va_K.moved hW.alike hK, hD2⟩, hS.F ht⟩) hS.2.2 d Y.2.2.2.2.2.2.2.1
theorem gw_widen {K : CB} {ws : va_W} {tys : List (ClassId × FieldType)} {nc ns n2 s2 pc : Nat} {ls : List (Option Value)} {st : List Value} (h1 : nc ≤ n2) (h2 : ns ≤ s2) (k : GW K ws tys n2 s2 pc ls st) : GW K ws tys nc ns pc ls st := fun H locs arr hP hK hD hS hv => W.widen h1 h2 (k H locs arr hP hK hD hS hv)
theorem bcall {K : CB} {nc ns mc ms pc : Nat} {own : String} {cc : ByteArray} {nL fr mc0 ms0 lo : Nat} {ret : Option FieldType} {H : Heap} {locs : List Loc} {arr : Array Slot} {rest st0 : List Value} {a : Array Value} {ws wc wr : va_W} {tys tr : List (ClassId × FieldType)} {post : va_W → List (ClassId × FieldType) → Prop} (Y : CY K own cc nL ret fr mc0 ms0 lo) (isC isR tR : List Nat) (hC : isC.map (fun i => ws[i]?) = wc.map some) (hR : isR.map (fun i => ws[i]?) = wr.map some) (hn : va_nd isR = true) (hdis : ∀ i ∈ isR, i ∉ isC) (htR : tR.filterMap (fun i => tys[i]?) = tr)
    (hP : va_P (bD K) vwCl ws H) (hK : va_K (bD K) vwCl tys (bS K)) (hD : va_D (bA K) ws) (hS : va_S (bA K) (bS K).heap H locs)
    (hr : va_Run K.1 K.2.1 K.2.2.1 K.2.2.2.1 K.2.2.2.2.1 K.2.2.2.2.2.1 K.2.2.2.2.2.2.1 K.2.2.2.2.2.2.2.1 K.2.2.2.2.2.2.2.2.1 K.2.2.2.2.2.2.2.2.2.1 H locs nc ns mc ms (F0 (bM K) pc arr st0) rest (Bpo (bD K) wc H.size post a) (va_A wc H.size))
    (kk : ∀ (wf : va_W) (tf : List (ClassId × FieldType)) (H1 : Heap) (locs1 : List Loc), post wf tf → va_P (bD K) vwCl (wr ++ wf) H1 → va_K (bD K) vwCl (tr ++ tf) (bS K) → va_D (bA K) (wr ++ wf) → va_S (bA K) (bS K).heap H1 locs1 → bW K H1 locs1 (nc + mc) (ns + ms) (F0 (bM K) (pc + 3) arr rest)) : bW K H locs nc ns (F0 (bM K) pc arr st0) := by
  have hF := va_free (wc := wc) hD hS Y.2.2.2.2.2.2.2.2.1 isC hC
  intro T hT X
  obtain ⟨v, st₀, t, T', L, h0, X', hL, e1, e2, ⟨hv, ⟨wf, tf, hpost, hp1, hk1, hd1⟩, hz, hk⟩, stp⟩ := hr T hT X
  cases hv
  rw [h0] at hz hk
  have hP1 : va_P (bD K) vwCl wf T'.heap := by rw [e1]; exact hp1
  have hk2 : ∀ q : Nat, q < H.size → ¬ va_A wc H.size q → T'.heap[q]? = H[q]? := fun q h1 h2 => by rw [e1]; exact hk q h1 h2
  obtain ⟨hPj, hDj⟩ := va_join (wr := wr) (w1 := wf) hP hD isC isR hC hR hn hdis hk2 hF hP1 hd1
  have hal : (bS K).vm.Alike t.vm := by rw [← e2]; exact X'.warmed.alike
  obtain ⟨t2, a1, b1⟩ := kk wf tf T'.heap (locs ++ L) hpost hPj ((hK.sub tR htR).app (va_K.moved hal.symm hk1)) hDj ⟨Nat.le_trans hS.1 (by rw [e1]; exact hz), fun q h1 h2 => by rw [hk2 q (Nat.lt_of_lt_of_le h1 hS.1) (fun z => h2 (hF q z))]; exact hS.2.1 q h1 h2, fun q hq => by
      rcases List.mem_append.mp hq with h | h
      · exact hS.2.2 q h
      · exact hF _ (hL q h)⟩ T' rfl X'
  exact ⟨t2, stp t2 a1, b1⟩
section
variable {K : CB} {own : String} {cc : ByteArray} {nL fr mc ms lo nc ns pc : Nat} {ret : Option FieldType} {ws : va_W} {tys : List (ClassId × FieldType)} {ls ls2 : List (Option Value)} {st : List Value}
theorem Bpr.next {D : va_G} {wc : va_W} {tc : List (ClassId × FieldType)} (Y : CY K own cc nL ret fr mc ms lo) (isC tC : List Nat) (hnC : va_nd isC = true) (hC : isC.map (fun i => ws[i]?) = wc.map some) (hC2 : isC.filterMap (fun i => ws[i]?) = wc) (htC : tC.filterMap (fun i => tys[i]?) = tc) {H : Heap} (hP : va_P D vwCl ws H) (hK : va_K D vwCl tys (bS K)) (hD : va_D (bA K) ws) {U : State} (hU : U.heap = H) (hW : (bS K).WarmedH U.vm) : Bpr D wc tc H.size U :=
  ⟨by rw [hU], by rw [hU]; exact hP.sub isC hC2, va_K.moved hW.alike (hK.sub tC htC), (hD.sub isC hnC hC).weaken (fun _ _ _ _ => trivial), Y.2.2.2.2.2.1.warm hW⟩
/-- a constructor is called: in the same class' nest, or not -/
theorem gw_init (Y : CY K own cc nL ret fr mc ms lo) {y : MethodName} {b : ByteArray} {n np fr2 mc2 ms2 lo2 ix a : Nat} {wc wr : va_W} {tc tr : List (ClassId × FieldType)} {post : va_W → List (ClassId × FieldType) → Prop} (As : List Value) {stk : List Value} (isC isR tC tR : List Nat) (d : decode cc pc = .ok (.invokespecial ix, 3)) (mi : MI y b n none np) (hyi : y.name = "<init>") (wi : Cond.instanceMethod y ∈ lw_gw) (wl : Cond.methodLink own ix y ∈ lw_gw) (ok : CTR y b n fr2 mc2 ms2 lo2 (.ref a :: As) (bD K) wc tc post)
    (hnC : va_nd isC = true) (hC : isC.map (fun i => ws[i]?) = wc.map some) (hC2 : isC.filterMap (fun i => ws[i]?) = wc) (hR : isR.map (fun i => ws[i]?) = wr.map some) (hnR : va_nd isR = true) (hdis : ∀ i ∈ isR, i ∉ isC) (htC : tC.filterMap (fun i => tys[i]?) = tc) (htR : tR.filterMap (fun i => tys[i]?) = tr)
    (hst : stk = As.reverse ++ .ref a :: st) (hln : ls.length = nL) (hn : As.length = np) (hfr : fr2 + 1 ≤ fr) (hlo : 8 + (n + 11) + lo2 ≤ lo) (hst8 : (st.map fun v => v.category).sum ≤ 8) (hmc : nc + mc2 ≤ mc) (hms : ns + ms2 ≤ ms) (k : ∀ wf tf, post wf tf → GW K (wr ++ wf) (tr ++ tf) (nc + mc2) (ns + ms2) (pc + 3) ls st) : GW K ws tys nc ns pc ls stk := by
  subst hst
  intro H locs arr hP hK hD hS hv
  have hts := Y.2.2.2.2.1
  have hRm : K.2.2.2.1 = { frames := fr, cells := mc, slots := ms, locals := lo } := Y.2.2.2.2.2.2.2.2.2
  have hwsm : ∀ w ∈ wsm y b n none, ∀ (a' : Array Value) (U : State), (bS K).WarmedH U.vm → w.before a' U = true := by
    intro w hw a' U hW
    have h1 : w ∈ lw_gw := by
      rcases List.mem_cons.mp hw with h | h
      · rw [h]; exact mi.1
      · exact h
    exact word_at hW (good_of_word (gw_good h1)) (hts w h1)
  refine bcall Y isC isR tR hC hR hnR hdis htR hP hK hD hS (va_runI (own := own) (As := As) (n := np) (maxL := n) (bytes := b) (rest := st) ⟨Y.1, Y.2.1, Y.2.2.1, Y.2.2.2.1, hts⟩ (ok K.2.1 H.size)
    ⟨⟨rfl, rfl, by rw [hRm]; exact hfr, by rw [hRm]; exact hlo, hwsm, List.mem_cons_self, hts _ mi.1, hts _ mi.2.1, mi.2.2.1, mi.np, hts _ wl⟩, hyi, hts _ wi⟩
    ⟨Bpr.blind _ _ _ _ _, fun U hU hW => ⟨rfl, Bpr.next Y isC tC hnC hC hC2 htC hP hK hD hU hW⟩⟩ rfl hn (hv.1.trans hln) rfl (lv_room hst8) d ⟨by rw [hRm]; exact hmc, by rw [hRm]; exact hms⟩) (fun wf tf H1 locs1 hpost hP1 hK1 hD1 hS1 => k wf tf hpost H1 locs1 arr hP1 hK1 hD1 hS1 hv)
theorem gw_initN (Y : CY K own cc nL ret fr mc ms lo) {y : MethodName} {b : ByteArray} {n np fr2 mc2 ms2 lo2 ix a : Nat} {host : String} {wc wr : va_W} {tc tr : List (ClassId × FieldType)} {post : va_W → List (ClassId × FieldType) → Prop} (As : List Value) {stk : List Value} (isC isR tC tR : List Nat) (d : decode cc pc = .ok (.invokespecial ix, 3)) (mi : MI y b n none np) (hyi : y.name = "<init>") (wi : Cond.instanceMethod y ∈ lw_gw) (wl : (own, ix, y, host) ∈ lw_nw) (ok : CTR y b n fr2 mc2 ms2 lo2 (.ref a :: As) (bD K) wc tc post)
    (hnC : va_nd isC = true) (hC : isC.map (fun i => ws[i]?) = wc.map some) (hC2 : isC.filterMap (fun i => ws[i]?) = wc) (hR : isR.map (fun i => ws[i]?) = wr.map some) (hnR : va_nd isR = true) (hdis : ∀ i ∈ isR, i ∉ isC) (htC : tC.filterMap (fun i => tys[i]?) = tc) (htR : tR.filterMap (fun i => tys[i]?) = tr)
    (hst : stk = As.reverse ++ .ref a :: st) (hln : ls.length = nL) (hn : As.length = np) (hfr : fr2 + 1 ≤ fr) (hlo : 8 + (n + 11) + lo2 ≤ lo) (hst8 : (st.map fun v => v.category).sum ≤ 8) (hmc : nc + mc2 ≤ mc) (hms : ns + ms2 ≤ ms) (k : ∀ wf tf, post wf tf → GW K (wr ++ wf) (tr ++ tf) (nc + mc2) (ns + ms2) (pc + 3) ls st) : GW K ws tys nc ns pc ls stk := by
  subst hst
  intro H locs arr hP hK hD hS hv
  have hts := Y.2.2.2.2.1
  have hRm : K.2.2.2.1 = { frames := fr, cells := mc, slots := ms, locals := lo } := Y.2.2.2.2.2.2.2.2.2
  have hwsm : ∀ w ∈ wsm y b n none, ∀ (a' : Array Value) (U : State), (bS K).WarmedH U.vm → w.before a' U = true := by
    intro w hw a' U hW
    have h1 : w ∈ lw_gw := by
      rcases List.mem_cons.mp hw with h | h
      · rw [h]; exact mi.1
      · exact h
    exact word_at hW (good_of_word (gw_good h1)) (hts w h1)
  refine bcall Y isC isR tR hC hR hnR hdis htR hP hK hD hS (va_runIN (own := own) (host := host) (As := As) (n := np) (maxL := n) (bytes := b) (rest := st) ⟨Y.1, Y.2.1, Y.2.2.1, Y.2.2.2.1, hts⟩ (ok K.2.1 H.size)
    ⟨⟨⟨rfl, rfl, by rw [hRm]; exact hfr, by rw [hRm]; exact hlo, hwsm, List.mem_cons_self⟩, hts _ mi.1, hts _ mi.2.1, mi.2.2.1, mi.np, va_Nw.use rfl (Y.2.2.2.2.2.1.1 _ wl)⟩, hyi, hts _ wi⟩
    ⟨Bpr.blind _ _ _ _ _, fun U hU hW => ⟨rfl, Bpr.next Y isC tC hnC hC hC2 htC hP hK hD hU hW⟩⟩ rfl hn (hv.1.trans hln) rfl (lv_room hst8) d ⟨by rw [hRm]; exact hmc, by rw [hRm]; exact hms⟩) (fun wf tf H1 locs1 hpost hP1 hK1 hD1 hS1 => k wf tf hpost H1 locs1 arr hP1 hK1 hD1 hS1 hv)
/-- a method without an answer is called on a cell -/
theorem gw_callv (Y : CY K own cc nL ret fr mc ms lo) {y : MethodName} {b : ByteArray} {n np ci fr2 mc2 ms2 lo2 ix a q0 : Nat} {fs : List Value} {wc wr : va_W} {tc tr : List (ClassId × FieldType)} {post : va_W → List (ClassId × FieldType) → Prop} (As : List Value) {stk : List Value} (isC isR tC tR : List Nat) (d : decode cc pc = .ok (.invokevirtual ix, 3)) (mv : MV y b n none np ci) (wl : Cond.methodLink own ix y ∈ lw_gw) (he : ws[q0]? = some (a, .inr (ci, fs))) (ok : CTR y b n fr2 mc2 ms2 lo2 (.ref a :: As) (bD K) wc tc post)
    (hnC : va_nd isC = true) (hC : isC.map (fun i => ws[i]?) = wc.map some) (hC2 : isC.filterMap (fun i => ws[i]?) = wc) (hR : isR.map (fun i => ws[i]?) = wr.map some) (hnR : va_nd isR = true) (hdis : ∀ i ∈ isR, i ∉ isC) (htC : tC.filterMap (fun i => tys[i]?) = tc) (htR : tR.filterMap (fun i => tys[i]?) = tr)
    (hst : stk = As.reverse ++ .ref a :: st) (hln : ls.length = nL) (hn : As.length = np) (hfr : fr2 + 1 ≤ fr) (hlo : 8 + (n + 11) + lo2 ≤ lo) (hst8 : (st.map fun v => v.category).sum ≤ 8) (hmc : nc + mc2 ≤ mc) (hms : ns + ms2 ≤ ms) (k : ∀ wf tf, post wf tf → GW K (wr ++ wf) (tr ++ tf) (nc + mc2) (ns + ms2) (pc + 3) ls st) : GW K ws tys nc ns pc ls stk := by
  subst hst
  intro H locs arr hP hK hD hS hv
  have hts := Y.2.2.2.2.1
  have hRm : K.2.2.2.1 = { frames := fr, cells := mc, slots := ms, locals := lo } := Y.2.2.2.2.2.2.2.2.2
  obtain ⟨mi, wi, wsel, T, N, hc⟩ := mv
  have hwsm : ∀ w ∈ wsm y b n none, ∀ (a' : Array Value) (U : State), (bS K).WarmedH U.vm → w.before a' U = true := by
    intro w hw a' U hW
    have h1 : w ∈ lw_gw := by
      rcases List.mem_cons.mp hw with h | h
      · rw [h]; exact mi.1
      · exact h
    exact word_at hW (good_of_word (gw_good h1)) (hts w h1)
  refine bcall Y isC isR tR hC hR hnR hdis htR hP hK hD hS (va_runV (C := y.cls) (own := own) (As := As) (n := np) (maxL := n) (bytes := b) (rest := st) ⟨Y.1, Y.2.1, Y.2.2.1, Y.2.2.2.1, hts⟩ (ok K.2.1 H.size)
    ⟨⟨rfl, rfl, by rw [hRm]; exact hfr, by rw [hRm]; exact hlo, hwsm, List.mem_cons_self, hts _ mi.1, hts _ mi.2.1, mi.2.2.1, mi.np, hts _ wl⟩, hts _ wi, hts _ wsel⟩
    ⟨Bpr.blind _ _ _ _ _, va_recv hK hP hc he, fun U hU hW => ⟨rfl, Bpr.next Y isC tC hnC hC hC2 htC hP hK hD hU hW⟩⟩ rfl hn (hv.1.trans hln) rfl (lv_room hst8) d ⟨by rw [hRm]; exact hmc, by rw [hRm]; exact hms⟩) (fun wf tf H1 locs1 hpost hP1 hK1 hD1 hS1 => k wf tf hpost H1 locs1 arr hP1 hK1 hD1 hS1 hv)
theorem gw_calls (Y : CY K own cc nL ret fr mc ms lo) {y : MethodName} {b : ByteArray} {n np fr2 mc2 ms2 lo2 ix : Nat} {wc wr : va_W} {tc tr : List (ClassId × FieldType)} {post : va_W → List (ClassId × FieldType) → Prop} (As : List Value) {stk : List Value} (isC isR tC tR : List Nat) (d : decode cc pc = .ok (.invokestatic ix, 3)) (mv : MS y b n none np) (wl : Cond.methodLink own ix y ∈ lw_gw) (ok : CTR y b n fr2 mc2 ms2 lo2 As (bD K) wc tc post)
    (hnC : va_nd isC = true) (hC : isC.map (fun i => ws[i]?) = wc.map some) (hC2 : isC.filterMap (fun i => ws[i]?) = wc) (hR : isR.map (fun i => ws[i]?) = wr.map some) (hnR : va_nd isR = true) (hdis : ∀ i ∈ isR, i ∉ isC) (htC : tC.filterMap (fun i => tys[i]?) = tc) (htR : tR.filterMap (fun i => tys[i]?) = tr)
    (hst : stk = As.reverse ++ st) (hln : ls.length = nL) (hn : As.length = np) (hfr : fr2 + 1 ≤ fr) (hlo : 8 + (n + 11) + lo2 ≤ lo) (hst8 : (st.map fun v => v.category).sum ≤ 8) (hmc : nc + mc2 ≤ mc) (hms : ns + ms2 ≤ ms) (k : ∀ wf tf, post wf tf → GW K (wr ++ wf) (tr ++ tf) (nc + mc2) (ns + ms2) (pc + 3) ls st) : GW K ws tys nc ns pc ls stk := by
  subst hst
  intro H locs arr hP hK hD hS hv
  have hts := Y.2.2.2.2.1
  have hRm : K.2.2.2.1 = { frames := fr, cells := mc, slots := ms, locals := lo } := Y.2.2.2.2.2.2.2.2.2
  obtain ⟨mi, wi⟩ := mv
  have hwsm : ∀ w ∈ wsm y b n none, ∀ (a' : Array Value) (U : State), (bS K).WarmedH U.vm → w.before a' U = true := by
    intro w hw a' U hW
    have h1 : w ∈ lw_gw := by
      rcases List.mem_cons.mp hw with h | h
      · rw [h]; exact mi.1
      · exact h
    exact word_at hW (good_of_word (gw_good h1)) (hts w h1)
  refine bcall Y isC isR tR hC hR hnR hdis htR hP hK hD hS (va_runS (own := own) (As := As) (n := np) (maxL := n) (bytes := b) (rest := st) ⟨Y.1, Y.2.1, Y.2.2.1, Y.2.2.2.1, hts⟩ (ok K.2.1 H.size)
    ⟨⟨rfl, rfl, by rw [hRm]; exact hfr, by rw [hRm]; exact hlo, hwsm, List.mem_cons_self, hts _ mi.1, hts _ mi.2.1, mi.2.2.1, mi.np, hts _ wl⟩, hts _ wi⟩
    ⟨Bpr.blind _ _ _ _ _, fun U hU hW => ⟨rfl, Bpr.next Y isC tC hnC hC hC2 htC hP hK hD hU hW⟩⟩ rfl hn (hv.1.trans hln) rfl (lv_room hst8) d ⟨by rw [hRm]; exact hmc, by rw [hRm]; exact hms⟩) (fun wf tf H1 locs1 hpost hP1 hK1 hD1 hS1 => k wf tf hpost H1 locs1 arr hP1 hK1 hD1 hS1 hv)
end
