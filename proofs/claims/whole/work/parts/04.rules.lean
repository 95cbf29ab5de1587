section
variable {τ : Type} {K : CK} {own : String} {cc : ByteArray} {nL fr lo : Nat} {ret : Option FieldType} {ε : τ → Option Value} {h : Hp} {pc : Nat} {ls ls2 : List (Option Value)} {st : List Value} {o o1 o2 : Option (τ × Hp)}
theorem gf_iconst (C : CX K own cc nL ret fr lo) {n : Int} {v : Int32} (d : decode cc pc = .ok (.iconst n, 1)) (hc : Int32.ofInt n = v) (k : GF K ε h (pc + 1) ls (.int v :: st) o) : GF K ε h pc ls (st) o := fun r h1 ho H locs arr hP hS hv => lv_iconst C.1 C.2.1 d hc (k r h1 ho H locs arr hP hS hv)
theorem gf_bipush (C : CX K own cc nL ret fr lo) {n : Int} {v : Int32} (d : decode cc pc = .ok (.bipush n, 2)) (hc : (Int8.ofInt n).toInt32 = v) (k : GF K ε h (pc + 2) ls (.int v :: st) o) : GF K ε h pc ls (st) o := fun r h1 ho H locs arr hP hS hv => lv_bipush C.1 C.2.1 d hc (k r h1 ho H locs arr hP hS hv)
theorem gf_sipush (C : CX K own cc nL ret fr lo) {n : Int} {v : Int32} (d : decode cc pc = .ok (.sipush n, 3)) (hc : (Int16.ofInt n).toInt32 = v) (k : GF K ε h (pc + 3) ls (.int v :: st) o) : GF K ε h pc ls (st) o := fun r h1 ho H locs arr hP hS hv => lv_sipush C.1 C.2.1 d hc (k r h1 ho H locs arr hP hS hv)
theorem gf_lconst (C : CX K own cc nL ret fr lo) {n : Fin 2} {v : Int64} (d : decode cc pc = .ok (.lconst n, 1)) (hc : Int64.ofNat (n : Nat) = v) (k : GF K ε h (pc + 1) ls (.long v :: st) o) : GF K ε h pc ls (st) o := fun r h1 ho H locs arr hP hS hv => lv_lconst C.1 C.2.1 d hc (k r h1 ho H locs arr hP hS hv)
theorem gf_null (C : CX K own cc nL ret fr lo)  (d : decode cc pc = .ok (.aconst_null, 1)) (k : GF K ε h (pc + 1) ls (.null :: st) o) : GF K ε h pc ls (st) o := fun r h1 ho H locs arr hP hS hv => lv_null C.1 C.2.1 d (k r h1 ho H locs arr hP hS hv)
theorem gf_ldc (C : CX K own cc nL ret fr lo) {ix : Nat} {v : Int32} (d : decode cc pc = .ok (.ldc ix, 2)) (w : Cond.constant own ix v ∈ lw_gw) (k : GF K ε h (pc + 2) ls (.int v :: st) o) : GF K ε h pc ls (st) o := fun r h1 ho H locs arr hP hS hv => lv_ldc C.1 C.2.1 C.2.2.2.1 (C.2.2.2.2.1 _ w) d (k r h1 ho H locs arr hP hS hv)
theorem gf_ldc_w (C : CX K own cc nL ret fr lo) {ix : Nat} {v : Int32} (d : decode cc pc = .ok (.ldc_w ix, 3)) (w : Cond.constant own ix v ∈ lw_gw) (k : GF K ε h (pc + 3) ls (.int v :: st) o) : GF K ε h pc ls (st) o := fun r h1 ho H locs arr hP hS hv => lv_ldcw C.1 C.2.1 C.2.2.2.1 (C.2.2.2.2.1 _ w) d (k r h1 ho H locs arr hP hS hv)
theorem gf_ldc2 (C : CX K own cc nL ret fr lo) {ix : Nat} {v : Int64} (d : decode cc pc = .ok (.ldc2_w ix, 3)) (w : Cond.constantLong own ix v ∈ lw_gw) (k : GF K ε h (pc + 3) ls (.long v :: st) o) : GF K ε h pc ls (st) o := fun r h1 ho H locs arr hP hS hv => lv_ldc2 C.1 C.2.1 C.2.2.2.1 (C.2.2.2.2.1 _ w) d (k r h1 ho H locs arr hP hS hv)
theorem gf_iload (C : CX K own cc nL ret fr lo) {i : Nat} {x : Int32} (d : decode cc pc = .ok (.iload i, 2)) (hl : ls[i]? = some (some (.int x))) (k : GF K ε h (pc + 2) ls (.int x :: st) o) : GF K ε h pc ls (st) o := fun r h1 ho H locs arr hP hS hv => lv_iload C.1 C.2.1 d (lsat hv hl) (k r h1 ho H locs arr hP hS hv)
theorem gf_iload_n (C : CX K own cc nL ret fr lo) {n : Fin 4} {i : Nat} {x : Int32} (d : decode cc pc = .ok (.iload_n n, 1)) (hi : (n : Nat) = i) (hl : ls[i]? = some (some (.int x))) (k : GF K ε h (pc + 1) ls (.int x :: st) o) : GF K ε h pc ls (st) o := fun r h1 ho H locs arr hP hS hv => lv_iload_n C.1 C.2.1 d hi (lsat hv hl) (k r h1 ho H locs arr hP hS hv)
theorem gf_lload (C : CX K own cc nL ret fr lo) {i : Nat} {x : Int64} (d : decode cc pc = .ok (.lload i, 2)) (hl : ls[i]? = some (some (.long x))) (k : GF K ε h (pc + 2) ls (.long x :: st) o) : GF K ε h pc ls (st) o := fun r h1 ho H locs arr hP hS hv => lv_lload C.1 C.2.1 d (lsat hv hl) (k r h1 ho H locs arr hP hS hv)
theorem gf_lload_n (C : CX K own cc nL ret fr lo) {n : Fin 4} {i : Nat} {x : Int64} (d : decode cc pc = .ok (.lload_n n, 1)) (hi : (n : Nat) = i) (hl : ls[i]? = some (some (.long x))) (k : GF K ε h (pc + 1) ls (.long x :: st) o) : GF K ε h pc ls (st) o := fun r h1 ho H locs arr hP hS hv => lv_lload_n C.1 C.2.1 d hi (lsat hv hl) (k r h1 ho H locs arr hP hS hv)
theorem gf_aload (C : CX K own cc nL ret fr lo) {i : Nat} {x : Nat} (d : decode cc pc = .ok (.aload i, 2)) (hl : ls[i]? = some (some (.ref x))) (k : GF K ε h (pc + 2) ls (.ref x :: st) o) : GF K ε h pc ls (st) o := fun r h1 ho H locs arr hP hS hv => lv_aload C.1 C.2.1 d (lsat hv hl) (k r h1 ho H locs arr hP hS hv)
theorem gf_aload_n (C : CX K own cc nL ret fr lo) {n : Fin 4} {i : Nat} {x : Nat} (d : decode cc pc = .ok (.aload_n n, 1)) (hi : (n : Nat) = i) (hl : ls[i]? = some (some (.ref x))) (k : GF K ε h (pc + 1) ls (.ref x :: st) o) : GF K ε h pc ls (st) o := fun r h1 ho H locs arr hP hS hv => lv_aload_n C.1 C.2.1 d hi (lsat hv hl) (k r h1 ho H locs arr hP hS hv)
theorem gf_aload_nN (C : CX K own cc nL ret fr lo) {n : Fin 4} {i : Nat} (d : decode cc pc = .ok (.aload_n n, 1)) (hi : (n : Nat) = i) (hl : ls[i]? = some (some .null)) (k : GF K ε h (pc + 1) ls (.null :: st) o) : GF K ε h pc ls st o := fun r h1 ho H locs arr hP hS hv => lv_aload_nN C.1 C.2.1 d hi (lsat hv hl) (k r h1 ho H locs arr hP hS hv)
theorem gf_aload_nq (C : CX K own cc nL ret fr lo) {n : Fin 4} {i : Nat} {q : Option Nat} (d : decode cc pc = .ok (.aload_n n, 1)) (hi : (n : Nat) = i) (hl : ls[i]? = some (some (va_rf q))) (k : GF K ε h (pc + 1) ls (va_rf q :: st) o) : GF K ε h pc ls st o := by
  cases q with
  | none => exact gf_aload_nN C d hi hl k
  | some a => exact gf_aload_n C d hi hl k
theorem gf_istore (C : CX K own cc nL ret fr lo) {i : Nat} {x : Int32} (d : decode cc pc = .ok (.istore i, 2)) (ls2 : List (Option Value)) (e : ls.set i (some (.int x)) = ls2) (hp : noL ls i = true) (hi : i < ls.length) (k : GF K ε h (pc + 2) ls2 st o) : GF K ε h pc ls (.int x :: st) o := by
  subst e
  exact fun r h1 ho H locs arr hP hS hv => lv_istore C.1 C.2.1 d hv hi rfl (fun arr2 hv2 => k r h1 ho H locs arr2 hP hS (by rw [List.length_set]; exact ls_set1 hp hi hv2))
theorem gf_istore_n (C : CX K own cc nL ret fr lo) {n : Fin 4} {i : Nat} {x : Int32} (d : decode cc pc = .ok (.istore_n n, 1)) (hn : (n : Nat) = i) (ls2 : List (Option Value)) (e : ls.set i (some (.int x)) = ls2) (hp : noL ls i = true) (hi : i < ls.length) (k : GF K ε h (pc + 1) ls2 st o) : GF K ε h pc ls (.int x :: st) o := by
  subst e
  exact fun r h1 ho H locs arr hP hS hv => lv_istore_n C.1 C.2.1 d hn hv hi rfl (fun arr2 hv2 => k r h1 ho H locs arr2 hP hS (by rw [List.length_set]; exact ls_set1 hp hi hv2))
theorem gf_astore (C : CX K own cc nL ret fr lo) {i : Nat} {x : Nat} (d : decode cc pc = .ok (.astore i, 2)) (ls2 : List (Option Value)) (e : ls.set i (some (.ref x)) = ls2) (hp : noL ls i = true) (hi : i < ls.length) (k : GF K ε h (pc + 2) ls2 st o) : GF K ε h pc ls (.ref x :: st) o := by
  subst e
  exact fun r h1 ho H locs arr hP hS hv => lv_astore C.1 C.2.1 d hv hi rfl (fun arr2 hv2 => k r h1 ho H locs arr2 hP hS (by rw [List.length_set]; exact ls_set1 hp hi hv2))
theorem gf_astore_n (C : CX K own cc nL ret fr lo) {n : Fin 4} {i : Nat} {x : Nat} (d : decode cc pc = .ok (.astore_n n, 1)) (hn : (n : Nat) = i) (ls2 : List (Option Value)) (e : ls.set i (some (.ref x)) = ls2) (hp : noL ls i = true) (hi : i < ls.length) (k : GF K ε h (pc + 1) ls2 st o) : GF K ε h pc ls (.ref x :: st) o := by
  subst e
  exact fun r h1 ho H locs arr hP hS hv => lv_astore_n C.1 C.2.1 d hn hv hi rfl (fun arr2 hv2 => k r h1 ho H locs arr2 hP hS (by rw [List.length_set]; exact ls_set1 hp hi hv2))
theorem gf_astore_nN (C : CX K own cc nL ret fr lo) {n : Fin 4} {i : Nat} (d : decode cc pc = .ok (.astore_n n, 1)) (hn : (n : Nat) = i) (ls2 : List (Option Value)) (e : ls.set i (some .null) = ls2) (hp : noL ls i = true) (hi : i < ls.length) (k : GF K ε h (pc + 1) ls2 st o) : GF K ε h pc ls (.null :: st) o := by
  subst e
  exact fun r h1 ho H locs arr hP hS hv => lv_astore_nN C.1 C.2.1 d hn hv hi rfl (fun arr2 hv2 => k r h1 ho H locs arr2 hP hS (by rw [List.length_set]; exact ls_set1 (v := .null) hp hi hv2))
theorem gf_astore_nq (C : CX K own cc nL ret fr lo) {n : Fin 4} {i : Nat} {q : Option Nat} (d : decode cc pc = .ok (.astore_n n, 1)) (hn : (n : Nat) = i) (ls2 : List (Option Value)) (e : ls.set i (some (va_rf q)) = ls2) (hp : noL ls i = true) (hi : i < ls.length) (k : GF K ε h (pc + 1) ls2 st o) : GF K ε h pc ls (va_rf q :: st) o := by
  cases q with
  | none => exact gf_astore_nN C d hn ls2 e hp hi k
  | some a => exact gf_astore_n C d hn ls2 e hp hi k
theorem gf_lstore (C : CX K own cc nL ret fr lo) {i : Nat} {x : Int64} (d : decode cc pc = .ok (.lstore i, 2)) (ls2 : List (Option Value)) (e : (ls.set i (some (.long x))).set (i + 1) none = ls2) (hp : noL ls i = true) (hi : i + 1 < ls.length) (k : GF K ε h (pc + 2) ls2 st o) : GF K ε h pc ls (.long x :: st) o := by
  subst e
  exact fun r h1 ho H locs arr hP hS hv => lv_lstore C.1 C.2.1 d hv hi rfl (fun arr2 hv2 => k r h1 ho H locs arr2 hP hS (by rw [List.length_set, List.length_set]; exact ls_set2 hp hi hv2))
theorem gf_lstore_n (C : CX K own cc nL ret fr lo) {n : Fin 4} {i : Nat} {x : Int64} (d : decode cc pc = .ok (.lstore_n n, 1)) (hn : (n : Nat) = i) (ls2 : List (Option Value)) (e : (ls.set i (some (.long x))).set (i + 1) none = ls2) (hp : noL ls i = true) (hi : i + 1 < ls.length) (k : GF K ε h (pc + 1) ls2 st o) : GF K ε h pc ls (.long x :: st) o := by
  subst e
  exact fun r h1 ho H locs arr hP hS hv => lv_lstore_n C.1 C.2.1 d hn hv hi rfl (fun arr2 hv2 => k r h1 ho H locs arr2 hP hS (by rw [List.length_set, List.length_set]; exact ls_set2 hp hi hv2))
theorem gf_iinc (C : CX K own cc nL ret fr lo) {i : Nat} {n : Int} {x v : Int32} (d : decode cc pc = .ok (.iinc i n, 3)) (hl : ls[i]? = some (some (.int x))) (hx : x + Int32.ofInt n = v) (ls2 : List (Option Value)) (e : ls.set i (some (.int v)) = ls2) (hp : noL ls i = true) (k : GF K ε h (pc + 3) ls2 st o) : GF K ε h pc ls st o := by
  subst e
  intro r h1 ho H locs arr hP hS hv
  have hi : i < ls.length := (List.getElem?_eq_some_iff.mp hl).1
  obtain ⟨q, hq⟩ := List.getElem?_of_mem (lsC_mem (ad := jad (kE K)) (q := (i, .int x)).mpr ⟨.int x, hl, rfl⟩)
  exact lv_iinc C.1 C.2.1 d hv hq hx hi rfl (fun arr2 hv2 => k r h1 ho H locs arr2 hP hS (by rw [List.length_set]; exact ls_set1 (v := .int v) hp hi hv2))
theorem gf_iadd (C : CX K own cc nL ret fr lo) {x y : Int32} (d : decode cc pc = .ok (.iadd, 1)) (k : GF K ε h (pc + 1) ls (.int (x + y) :: st) o) : GF K ε h pc ls (.int y :: .int x :: st) o := fun r h1 ho H locs arr hP hS hv => lv_iadd C.1 C.2.1 d (k r h1 ho H locs arr hP hS hv)
theorem gf_isub (C : CX K own cc nL ret fr lo) {x y : Int32} (d : decode cc pc = .ok (.isub, 1)) (k : GF K ε h (pc + 1) ls (.int (x - y) :: st) o) : GF K ε h pc ls (.int y :: .int x :: st) o := fun r h1 ho H locs arr hP hS hv => lv_isub C.1 C.2.1 d (k r h1 ho H locs arr hP hS hv)
theorem gf_imul (C : CX K own cc nL ret fr lo) {x y : Int32} (d : decode cc pc = .ok (.imul, 1)) (k : GF K ε h (pc + 1) ls (.int (x * y) :: st) o) : GF K ε h pc ls (.int y :: .int x :: st) o := fun r h1 ho H locs arr hP hS hv => lv_imul C.1 C.2.1 d (k r h1 ho H locs arr hP hS hv)
theorem gf_iand (C : CX K own cc nL ret fr lo) {x y : Int32} (d : decode cc pc = .ok (.iand, 1)) (k : GF K ε h (pc + 1) ls (.int (x &&& y) :: st) o) : GF K ε h pc ls (.int y :: .int x :: st) o := fun r h1 ho H locs arr hP hS hv => lv_iand C.1 C.2.1 d (k r h1 ho H locs arr hP hS hv)
theorem gf_ior (C : CX K own cc nL ret fr lo) {x y : Int32} (d : decode cc pc = .ok (.ior, 1)) (k : GF K ε h (pc + 1) ls (.int (x ||| y) :: st) o) : GF K ε h pc ls (.int y :: .int x :: st) o := fun r h1 ho H locs arr hP hS hv => lv_ior C.1 C.2.1 d (k r h1 ho H locs arr hP hS hv)
theorem gf_ixor (C : CX K own cc nL ret fr lo) {x y : Int32} (d : decode cc pc = .ok (.ixor, 1)) (k : GF K ε h (pc + 1) ls (.int (x ^^^ y) :: st) o) : GF K ε h pc ls (.int y :: .int x :: st) o := fun r h1 ho H locs arr hP hS hv => lv_ixor C.1 C.2.1 d (k r h1 ho H locs arr hP hS hv)
theorem gf_ishl (C : CX K own cc nL ret fr lo) {x y : Int32} (d : decode cc pc = .ok (.ishl, 1)) (k : GF K ε h (pc + 1) ls (.int (x <<< (y &&& 31)) :: st) o) : GF K ε h pc ls (.int y :: .int x :: st) o := fun r h1 ho H locs arr hP hS hv => lv_ishl C.1 C.2.1 d (k r h1 ho H locs arr hP hS hv)
theorem gf_ishr (C : CX K own cc nL ret fr lo) {x y : Int32} (d : decode cc pc = .ok (.ishr, 1)) (k : GF K ε h (pc + 1) ls (.int (x >>> (y &&& 31)) :: st) o) : GF K ε h pc ls (.int y :: .int x :: st) o := fun r h1 ho H locs arr hP hS hv => lv_ishr C.1 C.2.1 d (k r h1 ho H locs arr hP hS hv)
theorem gf_idiv (C : CX K own cc nL ret fr lo) {x y : Int32} (d : decode cc pc = .ok (.idiv, 1)) (k : GF K ε h (pc + 1) ls (.int (x / y) :: st) o) : GF K ε h pc ls (.int y :: .int x :: st) (gd (nz y) o) := by
  intro r h1 ho H locs arr hP hS hv
  by_cases c : y = 0
  · subst c; cases ho
  · have e1 : nz y = true := by simp [nz, c]
    rw [e1] at ho
    exact lv_idiv C.1 C.2.1 d c (k r h1 ho H locs arr hP hS hv)
theorem gf_idivC (C : CX K own cc nL ret fr lo) {x y : Int32} (d : decode cc pc = .ok (.idiv, 1)) (c : ¬ y = 0) (k : GF K ε h (pc + 1) ls (.int (x / y) :: st) o) : GF K ε h pc ls (.int y :: .int x :: st) o := fun r h1 ho H locs arr hP hS hv => lv_idiv C.1 C.2.1 d c (k r h1 ho H locs arr hP hS hv)
theorem gf_irem (C : CX K own cc nL ret fr lo) {x y : Int32} (d : decode cc pc = .ok (.irem, 1)) (k : GF K ε h (pc + 1) ls (.int (x - x / y * y) :: st) o) : GF K ε h pc ls (.int y :: .int x :: st) (gd (nz y) o) := by
  intro r h1 ho H locs arr hP hS hv
  by_cases c : y = 0
  · subst c; cases ho
  · have e1 : nz y = true := by simp [nz, c]
    rw [e1] at ho
    exact lv_irem C.1 C.2.1 d c (k r h1 ho H locs arr hP hS hv)
theorem gf_iremC (C : CX K own cc nL ret fr lo) {x y : Int32} (d : decode cc pc = .ok (.irem, 1)) (c : ¬ y = 0) (k : GF K ε h (pc + 1) ls (.int (x - x / y * y) :: st) o) : GF K ε h pc ls (.int y :: .int x :: st) o := fun r h1 ho H locs arr hP hS hv => lv_irem C.1 C.2.1 d c (k r h1 ho H locs arr hP hS hv)
theorem gf_ineg (C : CX K own cc nL ret fr lo) {x : Int32} (d : decode cc pc = .ok (.ineg, 1)) (k : GF K ε h (pc + 1) ls (.int (-x) :: st) o) : GF K ε h pc ls (.int x :: st) o := fun r h1 ho H locs arr hP hS hv => lv_ineg C.1 C.2.1 d (k r h1 ho H locs arr hP hS hv)
theorem gf_iushr (C : CX K own cc nL ret fr lo) {x y : Int32} (d : decode cc pc = .ok (.iushr, 1)) (k : GF K ε h (pc + 1) ls (.int ((x.toUInt32 >>> (y.toUInt32 &&& Int32.toUInt32 31)).toInt32) :: st) o) : GF K ε h pc ls (.int y :: .int x :: st) o := fun r h1 ho H locs arr hP hS hv => lv_iushr C.1 C.2.1 d rfl (k r h1 ho H locs arr hP hS hv)
theorem gf_ladd (C : CX K own cc nL ret fr lo) {x y : Int64} (d : decode cc pc = .ok (.ladd, 1)) (k : GF K ε h (pc + 1) ls (.long (x + y) :: st) o) : GF K ε h pc ls (.long y :: .long x :: st) o := fun r h1 ho H locs arr hP hS hv => lv_ladd C.1 C.2.1 d (k r h1 ho H locs arr hP hS hv)
theorem gf_lsub (C : CX K own cc nL ret fr lo) {x y : Int64} (d : decode cc pc = .ok (.lsub, 1)) (k : GF K ε h (pc + 1) ls (.long (x - y) :: st) o) : GF K ε h pc ls (.long y :: .long x :: st) o := fun r h1 ho H locs arr hP hS hv => lv_lsub C.1 C.2.1 d (k r h1 ho H locs arr hP hS hv)
theorem gf_land (C : CX K own cc nL ret fr lo) {x y : Int64} (d : decode cc pc = .ok (.land, 1)) (k : GF K ε h (pc + 1) ls (.long (x &&& y) :: st) o) : GF K ε h pc ls (.long y :: .long x :: st) o := fun r h1 ho H locs arr hP hS hv => lv_land C.1 C.2.1 d (k r h1 ho H locs arr hP hS hv)
theorem gf_lor (C : CX K own cc nL ret fr lo) {x y : Int64} (d : decode cc pc = .ok (.lor, 1)) (k : GF K ε h (pc + 1) ls (.long (x ||| y) :: st) o) : GF K ε h pc ls (.long y :: .long x :: st) o := fun r h1 ho H locs arr hP hS hv => lv_lor C.1 C.2.1 d (k r h1 ho H locs arr hP hS hv)
theorem gf_lshl (C : CX K own cc nL ret fr lo) {x : Int64} {y : Int32} (d : decode cc pc = .ok (.lshl, 1)) (k : GF K ε h (pc + 1) ls (.long (x <<< (y.toInt64 &&& 63)) :: st) o) : GF K ε h pc ls (.int y :: .long x :: st) o := fun r h1 ho H locs arr hP hS hv => lv_lshl C.1 C.2.1 d rfl (k r h1 ho H locs arr hP hS hv)
theorem gf_lshr (C : CX K own cc nL ret fr lo) {x : Int64} {y : Int32} (d : decode cc pc = .ok (.lshr, 1)) (k : GF K ε h (pc + 1) ls (.long (x >>> (y.toInt64 &&& 63)) :: st) o) : GF K ε h pc ls (.int y :: .long x :: st) o := fun r h1 ho H locs arr hP hS hv => lv_lshr C.1 C.2.1 d rfl (k r h1 ho H locs arr hP hS hv)
theorem gf_lushr (C : CX K own cc nL ret fr lo) {x : Int64} {y : Int32} (d : decode cc pc = .ok (.lushr, 1)) (k : GF K ε h (pc + 1) ls (.long ((x.toUInt64 >>> (y.toInt64.toUInt64 &&& Int64.toUInt64 63)).toInt64) :: st) o) : GF K ε h pc ls (.int y :: .long x :: st) o := fun r h1 ho H locs arr hP hS hv => lv_lushr C.1 C.2.1 d rfl (k r h1 ho H locs arr hP hS hv)
theorem gf_lcmp (C : CX K own cc nL ret fr lo) {x y : Int64} (d : decode cc pc = .ok (.lcmp, 1)) (k : GF K ε h (pc + 1) ls (.int (lg_cmp x y) :: st) o) : GF K ε h pc ls (.long y :: .long x :: st) o := fun r h1 ho H locs arr hP hS hv => W.lcmp C.1 C.2.1 d (k r h1 ho H locs arr hP hS hv)
theorem gf_i2l (C : CX K own cc nL ret fr lo) {x : Int32} (d : decode cc pc = .ok (.i2l, 1)) (k : GF K ε h (pc + 1) ls (.long x.toInt64 :: st) o) : GF K ε h pc ls (.int x :: st) o := fun r h1 ho H locs arr hP hS hv => lv_i2l C.1 C.2.1 d rfl (k r h1 ho H locs arr hP hS hv)
theorem gf_l2i (C : CX K own cc nL ret fr lo) {x : Int64} (d : decode cc pc = .ok (.l2i, 1)) (k : GF K ε h (pc + 1) ls (.int x.toInt32 :: st) o) : GF K ε h pc ls (.long x :: st) o := fun r h1 ho H locs arr hP hS hv => lv_l2i C.1 C.2.1 d rfl (k r h1 ho H locs arr hP hS hv)
theorem gf_i2c (C : CX K own cc nL ret fr lo) {x : Int32} (d : decode cc pc = .ok (.i2c, 1)) (k : GF K ε h (pc + 1) ls (.int (x.toUInt32 % 65536).toInt32 :: st) o) : GF K ε h pc ls (.int x :: st) o := fun r h1 ho H locs arr hP hS hv => lv_i2c C.1 C.2.1 d rfl (k r h1 ho H locs arr hP hS hv)
theorem gf_dup (C : CX K own cc nL ret fr lo) {v : Value} (d : decode cc pc = .ok (.dup, 1)) (hc : v.category = 1) (k : GF K ε h (pc + 1) ls (v :: v :: st) o) : GF K ε h pc ls (v :: st) o := fun r h1 ho H locs arr hP hS hv => lv_dup C.1 C.2.1 d ((cv_cat _ v).trans hc) (k r h1 ho H locs arr hP hS hv)
theorem gf_pop (C : CX K own cc nL ret fr lo) {v : Value} (d : decode cc pc = .ok (.pop, 1)) (hc : v.category = 1) (k : GF K ε h (pc + 1) ls (st) o) : GF K ε h pc ls (v :: st) o := fun r h1 ho H locs arr hP hS hv => lv_pop C.1 C.2.1 d ((cv_cat _ v).trans hc) (k r h1 ho H locs arr hP hS hv)
theorem gf_dup2 (C : CX K own cc nL ret fr lo) {v w : Value} (d : decode cc pc = .ok (.dup2, 1)) (hc : v.category = 1) (hc2 : w.category = 1) (k : GF K ε h (pc + 1) ls (v :: w :: v :: w :: st) o) : GF K ε h pc ls (v :: w :: st) o := fun r h1 ho H locs arr hP hS hv => lv_dup2_11 C.1 C.2.1 d ((cv_cat _ v).trans hc) ((cv_cat _ w).trans hc2) (k r h1 ho H locs arr hP hS hv)
theorem gf_dup2L (C : CX K own cc nL ret fr lo) {x : Int64} (d : decode cc pc = .ok (.dup2, 1)) (k : GF K ε h (pc + 1) ls (.long x :: .long x :: st) o) : GF K ε h pc ls (.long x :: st) o := fun r h1 ho H locs arr hP hS hv => lv_dup2_2 C.1 C.2.1 d rfl (k r h1 ho H locs arr hP hS hv)
theorem gf_goto (C : CX K own cc nL ret fr lo) {off : Int} (tgt : Nat) (d : decode cc pc = .ok (.goto off, 3)) (ht : (pc : Int) + off = (tgt : Int)) (k : GF K ε h tgt ls st o) : GF K ε h pc ls st o := fun r h1 ho H locs arr hP hS hv => lv_goto C.1 C.2.1 d ht (k r h1 ho H locs arr hP hS hv)
theorem gf_ifeq (C : CX K own cc nL ret fr lo) {x : Int32} {off : Int} (tgt : Nat) (d : decode cc pc = .ok (.ifCond .eq off, 3)) (ht : (pc : Int) + off = (tgt : Int)) (k1 : x = 0 → GF K ε h tgt ls st o1) (k2 : ¬ x = 0 → GF K ε h (pc + 3) ls st o2) : GF K ε h pc ls (.int x :: st) (if x = 0 then o1 else o2) := by
  intro r h1 ho H locs arr hP hS hv
  refine lv_if_eq C.1 C.2.1 d ht (fun c => ?_) (fun c => ?_)
  · have c2 : x = 0 := c
    rw [if_pos c2] at ho
    exact k1 c2 r h1 ho H locs arr hP hS hv
  · have c2 : ¬ x = 0 := c
    rw [if_neg c2] at ho
    exact k2 c2 r h1 ho H locs arr hP hS hv
theorem gf_ifne (C : CX K own cc nL ret fr lo) {x : Int32} {off : Int} (tgt : Nat) (d : decode cc pc = .ok (.ifCond .ne off, 3)) (ht : (pc : Int) + off = (tgt : Int)) (k1 : x = 0 → GF K ε h (pc + 3) ls st o1) (k2 : ¬ x = 0 → GF K ε h tgt ls st o2) : GF K ε h pc ls (.int x :: st) (if x = 0 then o1 else o2) := by
  intro r h1 ho H locs arr hP hS hv
  refine lv_if_ne C.1 C.2.1 d ht (fun c => ?_) (fun c => ?_)
  · have c2 : ¬ x = 0 := c
    rw [if_neg c2] at ho
    exact k2 c2 r h1 ho H locs arr hP hS hv
  · have c2 : x = 0 := c
    rw [if_pos c2] at ho
    exact k1 c2 r h1 ho H locs arr hP hS hv
theorem gf_iflt (C : CX K own cc nL ret fr lo) {x : Int32} {off : Int} (tgt : Nat) (d : decode cc pc = .ok (.ifCond .lt off, 3)) (ht : (pc : Int) + off = (tgt : Int)) (k1 : x < 0 → GF K ε h tgt ls st o1) (k2 : ¬ x < 0 → GF K ε h (pc + 3) ls st o2) : GF K ε h pc ls (.int x :: st) (if x < 0 then o1 else o2) := by
  intro r h1 ho H locs arr hP hS hv
  refine lv_if_lt C.1 C.2.1 d ht (fun c => ?_) (fun c => ?_)
  · have c2 : x < 0 := c
    rw [if_pos c2] at ho
    exact k1 c2 r h1 ho H locs arr hP hS hv
  · have c2 : ¬ x < 0 := c
    rw [if_neg c2] at ho
    exact k2 c2 r h1 ho H locs arr hP hS hv
theorem gf_ifge (C : CX K own cc nL ret fr lo) {x : Int32} {off : Int} (tgt : Nat) (d : decode cc pc = .ok (.ifCond .ge off, 3)) (ht : (pc : Int) + off = (tgt : Int)) (k1 : x < 0 → GF K ε h (pc + 3) ls st o1) (k2 : ¬ x < 0 → GF K ε h tgt ls st o2) : GF K ε h pc ls (.int x :: st) (if x < 0 then o1 else o2) := by
  intro r h1 ho H locs arr hP hS hv
  refine lv_if_ge C.1 C.2.1 d ht (fun c => ?_) (fun c => ?_)
  · have c2 : ¬ x < 0 := Int32.not_lt.mpr c
    rw [if_neg c2] at ho
    exact k2 c2 r h1 ho H locs arr hP hS hv
  · have c2 : x < 0 := Int32.not_le.mp c
    rw [if_pos c2] at ho
    exact k1 c2 r h1 ho H locs arr hP hS hv
theorem gf_ifgt (C : CX K own cc nL ret fr lo) {x : Int32} {off : Int} (tgt : Nat) (d : decode cc pc = .ok (.ifCond .gt off, 3)) (ht : (pc : Int) + off = (tgt : Int)) (k1 : 0 < x → GF K ε h tgt ls st o1) (k2 : ¬ 0 < x → GF K ε h (pc + 3) ls st o2) : GF K ε h pc ls (.int x :: st) (if 0 < x then o1 else o2) := by
  intro r h1 ho H locs arr hP hS hv
  refine lv_if_gt C.1 C.2.1 d ht (fun c => ?_) (fun c => ?_)
  · have c2 : 0 < x := c
    rw [if_pos c2] at ho
    exact k1 c2 r h1 ho H locs arr hP hS hv
  · have c2 : ¬ 0 < x := c
    rw [if_neg c2] at ho
    exact k2 c2 r h1 ho H locs arr hP hS hv
theorem gf_ifle (C : CX K own cc nL ret fr lo) {x : Int32} {off : Int} (tgt : Nat) (d : decode cc pc = .ok (.ifCond .le off, 3)) (ht : (pc : Int) + off = (tgt : Int)) (k1 : 0 < x → GF K ε h (pc + 3) ls st o1) (k2 : ¬ 0 < x → GF K ε h tgt ls st o2) : GF K ε h pc ls (.int x :: st) (if 0 < x then o1 else o2) := by
  intro r h1 ho H locs arr hP hS hv
  refine lv_if_le C.1 C.2.1 d ht (fun c => ?_) (fun c => ?_)
  · have c2 : ¬ 0 < x := Int32.not_lt.mpr c
    rw [if_neg c2] at ho
    exact k2 c2 r h1 ho H locs arr hP hS hv
  · have c2 : 0 < x := Int32.not_le.mp c
    rw [if_pos c2] at ho
    exact k1 c2 r h1 ho H locs arr hP hS hv
theorem gf_icmpeq (C : CX K own cc nL ret fr lo) {x y : Int32} {off : Int} (tgt : Nat) (d : decode cc pc = .ok (.if_icmp .eq off, 3)) (ht : (pc : Int) + off = (tgt : Int)) (k1 : x = y → GF K ε h tgt ls st o1) (k2 : ¬ x = y → GF K ε h (pc + 3) ls st o2) : GF K ε h pc ls (.int y :: .int x :: st) (if x = y then o1 else o2) := by
  intro r h1 ho H locs arr hP hS hv
  refine lv_icmp_eq C.1 C.2.1 d ht (fun c => ?_) (fun c => ?_)
  · have c2 : x = y := c
    rw [if_pos c2] at ho
    exact k1 c2 r h1 ho H locs arr hP hS hv
  · have c2 : ¬ x = y := c
    rw [if_neg c2] at ho
    exact k2 c2 r h1 ho H locs arr hP hS hv
theorem gf_icmpne (C : CX K own cc nL ret fr lo) {x y : Int32} {off : Int} (tgt : Nat) (d : decode cc pc = .ok (.if_icmp .ne off, 3)) (ht : (pc : Int) + off = (tgt : Int)) (k1 : x = y → GF K ε h (pc + 3) ls st o1) (k2 : ¬ x = y → GF K ε h tgt ls st o2) : GF K ε h pc ls (.int y :: .int x :: st) (if x = y then o1 else o2) := by
  intro r h1 ho H locs arr hP hS hv
  refine lv_icmp_ne C.1 C.2.1 d ht (fun c => ?_) (fun c => ?_)
  · have c2 : ¬ x = y := c
    rw [if_neg c2] at ho
    exact k2 c2 r h1 ho H locs arr hP hS hv
  · have c2 : x = y := c
    rw [if_pos c2] at ho
    exact k1 c2 r h1 ho H locs arr hP hS hv
theorem gf_icmplt (C : CX K own cc nL ret fr lo) {x y : Int32} {off : Int} (tgt : Nat) (d : decode cc pc = .ok (.if_icmp .lt off, 3)) (ht : (pc : Int) + off = (tgt : Int)) (k1 : x < y → GF K ε h tgt ls st o1) (k2 : ¬ x < y → GF K ε h (pc + 3) ls st o2) : GF K ε h pc ls (.int y :: .int x :: st) (if x < y then o1 else o2) := by
  intro r h1 ho H locs arr hP hS hv
  refine lv_icmp_lt C.1 C.2.1 d ht (fun c => ?_) (fun c => ?_)
  · have c2 : x < y := c
    rw [if_pos c2] at ho
    exact k1 c2 r h1 ho H locs arr hP hS hv
  · have c2 : ¬ x < y := c
    rw [if_neg c2] at ho
    exact k2 c2 r h1 ho H locs arr hP hS hv
theorem gf_icmpge (C : CX K own cc nL ret fr lo) {x y : Int32} {off : Int} (tgt : Nat) (d : decode cc pc = .ok (.if_icmp .ge off, 3)) (ht : (pc : Int) + off = (tgt : Int)) (k1 : x < y → GF K ε h (pc + 3) ls st o1) (k2 : ¬ x < y → GF K ε h tgt ls st o2) : GF K ε h pc ls (.int y :: .int x :: st) (if x < y then o1 else o2) := by
  intro r h1 ho H locs arr hP hS hv
  refine lv_icmp_ge C.1 C.2.1 d ht (fun c => ?_) (fun c => ?_)
  · have c2 : ¬ x < y := Int32.not_lt.mpr c
    rw [if_neg c2] at ho
    exact k2 c2 r h1 ho H locs arr hP hS hv
  · have c2 : x < y := Int32.not_le.mp c
    rw [if_pos c2] at ho
    exact k1 c2 r h1 ho H locs arr hP hS hv
theorem gf_icmpgt (C : CX K own cc nL ret fr lo) {x y : Int32} {off : Int} (tgt : Nat) (d : decode cc pc = .ok (.if_icmp .gt off, 3)) (ht : (pc : Int) + off = (tgt : Int)) (k1 : y < x → GF K ε h tgt ls st o1) (k2 : ¬ y < x → GF K ε h (pc + 3) ls st o2) : GF K ε h pc ls (.int y :: .int x :: st) (if y < x then o1 else o2) := by
  intro r h1 ho H locs arr hP hS hv
  refine lv_icmp_gt C.1 C.2.1 d ht (fun c => ?_) (fun c => ?_)
  · have c2 : y < x := c
    rw [if_pos c2] at ho
    exact k1 c2 r h1 ho H locs arr hP hS hv
  · have c2 : ¬ y < x := c
    rw [if_neg c2] at ho
    exact k2 c2 r h1 ho H locs arr hP hS hv
theorem gf_icmple (C : CX K own cc nL ret fr lo) {x y : Int32} {off : Int} (tgt : Nat) (d : decode cc pc = .ok (.if_icmp .le off, 3)) (ht : (pc : Int) + off = (tgt : Int)) (k1 : y < x → GF K ε h (pc + 3) ls st o1) (k2 : ¬ y < x → GF K ε h tgt ls st o2) : GF K ε h pc ls (.int y :: .int x :: st) (if y < x then o1 else o2) := by
  intro r h1 ho H locs arr hP hS hv
  refine lv_icmp_le C.1 C.2.1 d ht (fun c => ?_) (fun c => ?_)
  · have c2 : ¬ y < x := Int32.not_lt.mpr c
    rw [if_neg c2] at ho
    exact k2 c2 r h1 ho H locs arr hP hS hv
  · have c2 : y < x := Int32.not_le.mp c
    rw [if_pos c2] at ho
    exact k1 c2 r h1 ho H locs arr hP hS hv
theorem gf_ifnullN (C : CX K own cc nL ret fr lo) {off : Int} (tgt : Nat) (d : decode cc pc = .ok (.ifnull off, 3)) (ht : (pc : Int) + off = (tgt : Int)) (k : GF K ε h tgt ls st o) : GF K ε h pc ls (.null :: st) o := fun r h1 ho H locs arr hP hS hv => lv_ifnullN C.1 C.2.1 d ht (k r h1 ho H locs arr hP hS hv)
theorem gf_ifnull (C : CX K own cc nL ret fr lo) {off : Int} {a : Nat} (d : decode cc pc = .ok (.ifnull off, 3)) (k : GF K ε h (pc + 3) ls st o) : GF K ε h pc ls (.ref a :: st) o := fun r h1 ho H locs arr hP hS hv => lv_ifnull C.1 C.2.1 d (k r h1 ho H locs arr hP hS hv)
theorem gf_ifnonnull (C : CX K own cc nL ret fr lo) {off : Int} {a : Nat} (tgt : Nat) (d : decode cc pc = .ok (.ifnonnull off, 3)) (ht : (pc : Int) + off = (tgt : Int)) (k : GF K ε h tgt ls st o) : GF K ε h pc ls (.ref a :: st) o := fun r h1 ho H locs arr hP hS hv => lv_ifnonnull C.1 C.2.1 d ht (k r h1 ho H locs arr hP hS hv)
theorem gf_ifnonnullN (C : CX K own cc nL ret fr lo) {off : Int} (d : decode cc pc = .ok (.ifnonnull off, 3)) (k : GF K ε h (pc + 3) ls st o) : GF K ε h pc ls (.null :: st) o := fun r h1 ho H locs arr hP hS hv => lv_ifnonnullN C.1 C.2.1 d (k r h1 ho H locs arr hP hS hv)
theorem gf_swC (C : CX K own cc nL ret fr lo) {dflt lo2 hi : Int} {offs : Array Int} {len : Nat} {x : Int32} (v : Int32) {off : Int} (tgt : Nat) (d : decode cc pc = .ok (.tableswitch dflt lo2 hi offs, len)) (c1 : ¬ v.toInt < lo2) (c2 : ¬ hi < v.toInt) (ho : offs[(v.toInt - lo2).toNat]? = some off) (ht : (pc : Int) + off = (tgt : Int)) (k1 : x = v → GF K ε h tgt ls st o1) (k2 : ¬ x = v → GF K ε h pc ls (.int x :: st) o2) : GF K ε h pc ls (.int x :: st) (if x = v then o1 else o2) := by
  intro r h1 ho2 H locs arr hP hS hv
  by_cases c : x = v
  · rw [if_pos c] at ho2
    subst c
    exact lv_tableIn C.1 C.2.1 d c1 c2 ho ht (k1 rfl r h1 ho2 H locs arr hP hS hv)
  · rw [if_neg c] at ho2
    exact k2 c r h1 ho2 H locs arr hP hS hv
theorem gf_swD (C : CX K own cc nL ret fr lo) {dflt lo2 hi : Int} {offs : Array Int} {len : Nat} {x : Int32} (tgt : Nat) (d : decode cc pc = .ok (.tableswitch dflt lo2 hi offs, len)) (c : x.toInt < lo2 ∨ hi < x.toInt) (ht : (pc : Int) + dflt = (tgt : Int)) (k : GF K ε h tgt ls st o) : GF K ε h pc ls (.int x :: st) o := fun r h1 ho H locs arr hP hS hv => lv_tableOut C.1 C.2.1 d c ht (k r h1 ho H locs arr hP hS hv)
theorem gf_lkC (C : CX K own cc nL ret fr lo) {dflt : Int} {ps : Array (Int × Int)} {len : Nat} {x : Int32} (v : Int32) {off : Int} (tgt : Nat) (d : decode cc pc = .ok (.lookupswitch dflt ps, len)) (hp : (ps.toList.zip (ps.toList.drop 1)).all (fun (a, next) => a.1 < next.1) = true) (ho : Op.lookupswitch.offset ps.toList dflt v.toInt = off) (ht : (pc : Int) + off = (tgt : Int)) (k1 : x = v → GF K ε h tgt ls st o1) (k2 : ¬ x = v → GF K ε h pc ls (.int x :: st) o2) : GF K ε h pc ls (.int x :: st) (if x = v then o1 else o2) := by
  intro r h1 ho2 H locs arr hP hS hv
  by_cases c : x = v
  · rw [if_pos c] at ho2
    subst c
    exact lv_lookup C.1 C.2.1 d hp ho ht (k1 rfl r h1 ho2 H locs arr hP hS hv)
  · rw [if_neg c] at ho2
    exact k2 c r h1 ho2 H locs arr hP hS hv
theorem gf_lkD (C : CX K own cc nL ret fr lo) {dflt : Int} {ps : Array (Int × Int)} {len : Nat} {x : Int32} (tgt : Nat) (d : decode cc pc = .ok (.lookupswitch dflt ps, len)) (hp : (ps.toList.zip (ps.toList.drop 1)).all (fun (a, next) => a.1 < next.1) = true) (hz : Op.lookupswitch.offset ps.toList dflt x.toInt = dflt) (ht : (pc : Int) + dflt = (tgt : Int)) (k : GF K ε h tgt ls st o) : GF K ε h pc ls (.int x :: st) o := fun r h1 ho H locs arr hP hS hv => lv_lookup C.1 C.2.1 d hp hz ht (k r h1 ho H locs arr hP hS hv)
/-- less is known of the locals -/
def wk : List (Option Value) → List (Option Value) → Prop
  | [], [] => True
  | none :: a, _ :: b => wk a b
  | some v :: a, some w :: b => v = w ∧ wk a b
  | _, _ => False
theorem wk_spec : ∀ {a b : List (Option Value)}, wk a b → a.length = b.length ∧ ∀ (i : Nat) (v : Value), a[i]? = some (some v) → b[i]? = some (some v)
  | [], [], _ => ⟨rfl, fun _ _ h => h⟩
  | [], _ :: _, h => h.elim
  | none :: _, [], h => h.elim
  | some _ :: _, [], h => h.elim
  | some _ :: _, none :: _, h => h.elim
  | none :: a, w :: b, h => by
    have h1 : wk a b := h
    obtain ⟨e, g⟩ := wk_spec h1
    refine ⟨by simp [e], fun i v hi => ?_⟩
    cases i with
    | zero => simp at hi
    | succ i => simpa using g i v (by simpa using hi)
  | some u :: a, some w :: b, h => by
    have h1 : u = w ∧ wk a b := h
    obtain ⟨e, g⟩ := wk_spec h1.2
    refine ⟨by simp [e], fun i v hi => ?_⟩
    cases i with
    | zero => rw [h1.1] at hi; exact hi
    | succ i => simpa using g i v (by simpa using hi)
theorem gf_sub (ls2 : List (Option Value)) (hw : wk ls2 ls) (k : GF K ε h pc ls2 st o) : GF K ε h pc ls st o := by
  obtain ⟨e, g⟩ := wk_spec hw
  intro r h1 ho H locs arr hP hS hv
  refine k r h1 ho H locs arr hP hS (ls_sub (by rw [e]; exact hv) (fun q hq => ?_))
  obtain ⟨v, hq1, hq2⟩ := lsC_mem.mp hq
  exact lsC_mem.mpr ⟨v, g _ _ hq1, hq2⟩
theorem gf_jo {q : Option Nat} {f0 : Option (τ × Hp)} {f1 : Nat → Option (τ × Hp)} (k0 : q = none → GF K ε h pc ls st f0) (k1 : ∀ a, q = some a → GF K ε h pc ls st (f1 a)) : GF K ε h pc ls st (jo q f0 f1) := by
  cases q with
  | none => exact k0 rfl
  | some a => exact k1 a rfl
abbrev eI : Int32 → Option Value := fun x => some (.int x)
abbrev eL : Int64 → Option Value := fun x => some (.long x)
abbrev eV : Unit → Option Value := fun _ => none
abbrev eQ : Option Nat → Option Value := fun q => some (va_rf q)
abbrev eR (k : Nat) : Unit → Option Value := fun _ => some (.ref k)
theorem gf_jl {α : Type} {e : α} {f : α → Option (τ × Hp)} (k : ∀ x, x = e → GF K ε h pc ls st (f x)) : GF K ε h pc ls st (jl e f) := k e rfl
theorem gf_jlI {e : Int32} {f : Int32 → Option (τ × Hp)} (k : ∀ x : Int32, GF K ε h pc ls (.int x :: st) (f x)) : GF K ε h pc ls (.int e :: st) (jl e f) := k e
theorem gf_jlL {e : Int64} {f : Int64 → Option (τ × Hp)} (k : ∀ x : Int64, GF K ε h pc ls (.long x :: st) (f x)) : GF K ε h pc ls (.long e :: st) (jl e f) := k e
theorem gf_jlQ {e : Option Nat} {f : Option Nat → Option (τ × Hp)} (k : ∀ x : Option Nat, GF K ε h pc ls (va_rf x :: st) (f x)) : GF K ε h pc ls (va_rf e :: st) (jl e f) := k e
theorem gf_jlH {f : Hp → Option (τ × Hp)} (k : ∀ h : Hp, GF K ε h pc ls st (f h)) : GF K ε h pc ls st (jl h f) := k h
theorem gf_gd {c : Bool} (k : c = true → GF K ε h pc ls st o) : GF K ε h pc ls st (gd c o) := by
  cases c with
  | true => exact k rfl
  | false => intro r h1 ho; cases ho
theorem gf_none : GF K ε h pc ls st (none : Option (τ × Hp)) := fun r h1 ho => by cases ho
theorem gf_jn {α : Type} (P : α → Prop) {kk : α} {f : α → Option (τ × Hp)} (hk : P kk) (hf : ∀ j, P j → GF K ε h pc ls st (f j)) : GF K ε h pc ls st (jn kk f) := hf kk hk
theorem lp_P {α : Type} (P : α → Prop) {n : Nat} {body : α → α} {bot : α} (h0 : P bot) (hs : ∀ c, P c → P (body c)) : P (lp n body bot) := by
  induction n with
  | zero => exact h0
  | succ n ih => exact hs _ ih
theorem gf_iret {x : Int32} (C : CX K own cc nL (some .int) fr lo) (d : decode cc pc = .ok (.ireturn, 1)) {r0 : τ} (he : ε r0 = some (.int x)) : GF K ε h pc ls [.int x] (some (r0, h)) := by
  intro r h1 ho H locs arr hP hS hv
  cases ho
  exact W.iret C.1 C.2.1 C.2.2.2.2.2.2.2.2.1 (fun t ht hW => ⟨by rw [he]; rfl, by rw [ht]; exact hP, hS.F ht⟩) hS.2.2 d C.2.2.2.2.2.2.2.2.2.1
theorem gf_lret {x : Int64} (C : CX K own cc nL (some .long) fr lo) (d : decode cc pc = .ok (.lreturn, 1)) {r0 : τ} (he : ε r0 = some (.long x)) : GF K ε h pc ls [.long x] (some (r0, h)) := by
  intro r h1 ho H locs arr hP hS hv
  cases ho
  exact W.lret C.1 C.2.1 C.2.2.2.2.2.2.2.2.1 (fun t ht hW => ⟨by rw [he]; rfl, by rw [ht]; exact hP, hS.F ht⟩) hS.2.2 d C.2.2.2.2.2.2.2.2.2.1
theorem gf_vret  (C : CX K own cc nL (none) fr lo) (d : decode cc pc = .ok (.return_, 1)) {r0 : τ} (he : ε r0 = none) : GF K ε h pc ls [] (some (r0, h)) := by
  intro r h1 ho H locs arr hP hS hv
  cases ho
  exact W.vret C.1 C.2.1 C.2.2.2.2.2.2.2.2.1 (fun t ht hW => ⟨by rw [he]; rfl, by rw [ht]; exact hP, hS.F ht⟩) hS.2.2 d C.2.2.2.2.2.2.2.2.2.1
theorem gf_zret {x : Int32} {ty : FieldType} (C : CX K own cc nL (some ty) fr lo) (d : decode cc pc = .ok (.ireturn, 1)) (hn : narrow ty (.int x) = .int x) {r0 : τ} (he : ε r0 = some (.int x)) : GF K ε h pc ls [.int x] (some (r0, h)) := by
  intro r h1 ho H locs arr hP hS hv
  cases ho
  exact W.zret C.1 C.2.1 C.2.2.2.2.2.2.2.2.1 hn (fun t ht hW => ⟨by rw [he]; rfl, by rw [ht]; exact hP, hS.F ht⟩) hS.2.2 d C.2.2.2.2.2.2.2.2.2.1
theorem gf_aret {a : Nat} {rt : FieldType} (C : CX K own cc nL (some rt) fr lo) (d : decode cc pc = .ok (.areturn, 1)) (hrt : (∃ n, rt = .object n) ∨ ∃ t, rt = .array t) {r0 : τ} (he : ε r0 = some (.ref a)) : GF K ε h pc ls [.ref a] (some (r0, h)) := by
  intro r h1 ho H locs arr hP hS hv
  cases ho
  exact W.aret C.1 C.2.1 C.2.2.2.2.2.2.2.2.1 hrt (Or.inr ⟨_, rfl⟩) (fun t ht hW => ⟨by rw [he]; rfl, by rw [ht]; exact hP, hS.F ht⟩) hS.2.2 d C.2.2.2.2.2.2.2.2.2.1
theorem gf_nret {rt : FieldType} (C : CX K own cc nL (some rt) fr lo) (d : decode cc pc = .ok (.areturn, 1)) (hrt : (∃ n, rt = .object n) ∨ ∃ t, rt = .array t) {r0 : τ} (he : ε r0 = some .null) : GF K ε h pc ls [.null] (some (r0, h)) := by
  intro r h1 ho H locs arr hP hS hv
  cases ho
  exact W.aret C.1 C.2.1 C.2.2.2.2.2.2.2.2.1 hrt (Or.inl rfl) (fun t ht hW => ⟨by rw [he]; rfl, by rw [ht]; exact hP, hS.F ht⟩) hS.2.2 d C.2.2.2.2.2.2.2.2.2.1
theorem gf_qret {rt : FieldType} (C : CX K own cc nL (some rt) fr lo) {q : Option Nat} (d : decode cc pc = .ok (.areturn, 1)) (hrt : (∃ n, rt = .object n) ∨ ∃ t, rt = .array t) {r0 : τ} (he : ε r0 = some (va_rf q)) : GF K ε h pc ls [va_rf q] (some (r0, h)) := by
  cases q with
  | none => exact gf_nret C d hrt he
  | some a => exact gf_aret C d hrt he
theorem isB_nar {x : Int32} (h : isB x = true) : narrow .boolean (.int x) = .int x := by
  simp only [isB, Bool.or_eq_true, decide_eq_true_eq] at h
  rcases h with h | h <;> subst h <;> rfl
theorem isB_fit {x : Int32} (h : isB x = true) : fits .boolean (.int x) = true := by
  simp only [isB, Bool.or_eq_true, decide_eq_true_eq] at h
  rcases h with h | h <;> subst h <;> rfl
/-- a class as the tables have it -/
def CL (ci : Nat) (C : String) (T : u_T) (N : Nat) (ty0 : Nat → FieldType) : Prop := vwCl[ci]? = some (C, T, N) ∧ nfl ci = N ∧ (∀ w ∈ u_ws C T N, w ∈ lw_gw) ∧ (∀ k, k < N → parseFieldDescriptor (T k).2.2.1 = some (ty0 k)) ∧ ∀ a, a < N → ∀ b, b < N → a ≠ b → (T a).2.1 ≠ (T b).2.1
def FL (own : String) (ix ci j : Nat) : Prop := ∃ (C : String) (T : u_T) (N : Nat) (ty0 : Nat → FieldType), CL ci C T N ty0 ∧ j < N ∧ Cond.fieldLink own ix (T j).1 (T j).2.1 (T j).2.2.1 ∈ lw_gw
def FP (own : String) (ix ci j : Nat) (ty : FieldType) : Prop := ∃ (C : String) (T : u_T) (N : Nat) (ty0 : Nat → FieldType), CL ci C T N ty0 ∧ j < N ∧ Cond.fieldLink own ix (T j).1 (T j).2.1 (T j).2.2.1 ∈ lw_gw ∧ (T j).2.2.2 = false ∧ parseFieldDescriptor (T j).2.2.1 = some ty
theorem w_get (C : CX K own cc nL ret fr lo) {ix ci j a : Nat} {H : Heap} {locs : List Loc} {arr : Array Slot} {rest : List Value} {Q : State → Prop} (d : decode cc pc = .ok (.getfield ix, 3)) (f : FL own ix ci j) (hs : shp a = (0, ci)) (hP : va_P (jD (kE K)) vwCl (wsl (kE K) h) H) (kk : kW K H locs Q (F0 (kM K) (pc + 3) arr (fV (kE K) h a ci j :: rest))) : kW K H locs Q (F0 (kM K) pc arr (.ref (jad (kE K) a) :: rest)) := by
  obtain ⟨C0, T, N, ty0, ⟨g1, g2, g3, g4, g5⟩, hj, hw⟩ := f
  refine va_get C.1 C.2.1 C.2.2.2.2.1 g3 C.2.2.2.1 C.2.2.2.2.2.1 hP a (by rw [wsl_get _ _ (shp_lt hs (by omega)), cE_obj _ _ hs]) g1 j hj (C.2.2.2.2.1 _ hw) (fun _ q => q) (v := fV (kE K) h a ci j) ?_ d kk
  rw [g2]
  simp [hj]
theorem gf_getI (C : CX K own cc nL ret fr lo) {ix ci j a : Nat} (d : decode cc pc = .ok (.getfield ix, 3)) (f : FL own ix ci j) (hs : shp a = (0, ci)) (ht : sty ci j = 0) (u : Nat) (hu : 64 * a + j = u) (k : GF K ε h (pc + 3) ls (.int (sG h u) :: st) o) : GF K ε h pc ls (.ref a :: st) o := by
  subst hu
  intro r h1 ho H locs arr hP hS hv
  refine w_get C d f hs hP ?_
  have e : fV (kE K) h a ci j = .int (sG h (64 * a + j)) := by unfold fV; rw [ht]; rfl
  rw [e]
  exact k r h1 ho H locs arr hP hS hv
theorem gf_getL (C : CX K own cc nL ret fr lo) {ix ci j a : Nat} (d : decode cc pc = .ok (.getfield ix, 3)) (f : FL own ix ci j) (hs : shp a = (0, ci)) (ht : sty ci j = 1) (u : Nat) (hu : 64 * a + j = u) (k : GF K ε h (pc + 3) ls (.long (tG h u) :: st) o) : GF K ε h pc ls (.ref a :: st) o := by
  subst hu
  intro r h1 ho H locs arr hP hS hv
  refine w_get C d f hs hP ?_
  have e : fV (kE K) h a ci j = .long (tG h (64 * a + j)) := by unfold fV; rw [ht]; rfl
  rw [e]
  exact k r h1 ho H locs arr hP hS hv
theorem gf_getR (C : CX K own cc nL ret fr lo) {ix ci j a : Nat} (d : decode cc pc = .ok (.getfield ix, 3)) (f : FL own ix ci j) (hs : shp a = (0, ci)) (ht : sty ci j = 2) (b : Nat) (hb : rf a j = some b) (k : GF K ε h (pc + 3) ls (.ref b :: st) o) : GF K ε h pc ls (.ref a :: st) o := by
  intro r h1 ho H locs arr hP hS hv
  refine w_get C d f hs hP ?_
  have e : fV (kE K) h a ci j = .ref (jad (kE K) b) := by unfold fV; rw [ht, hb]; rfl
  rw [e]
  exact k r h1 ho H locs arr hP hS hv
theorem gf_getO (C : CX K own cc nL ret fr lo) {ix ci j a : Nat} (d : decode cc pc = .ok (.getfield ix, 3)) (f : FL own ix ci j) (hs : shp a = (0, ci)) (ht : sty ci j = 3) (u : Nat) (hu : 64 * a + j = u) (k : GF K ε h (pc + 3) ls (va_rf (oG h u) :: st) o) : GF K ε h pc ls (.ref a :: st) o := by
  subst hu
  intro r h1 ho H locs arr hP hS hv
  refine w_get C d f hs hP ?_
  have e : fV (kE K) h a ci j = cv (jad (kE K)) (va_rf (oG h (64 * a + j))) := by unfold fV; rw [ht, cv_rf]; rfl
  rw [e]
  exact k r h1 ho H locs arr hP hS hv
theorem w_put (C : CX K own cc nL ret fr lo) {ix ci j a : Nat} {ty : FieldType} {v : Value} {h2 : Hp} {H : Heap} {locs : List Loc} {arr : Array Slot} {rest : List Value} {Q : State → Prop} (d : decode cc pc = .ok (.putfield ix, 3)) (f : FP own ix ci j ty) (hs : shp a = (0, ci)) (hn : narrow ty v = v) (hfit : fits ty v = true) (hP : va_P (jD (kE K)) vwCl (wsl (kE K) h) H) (hS : va_S (Ast (kE K)) (kS K).heap H locs) (he : j < nfl ci → (wsl (kE K) h).set a (jad (kE K) a, .inr (ci, ((List.range (nfl ci)).map (fV (kE K) h a ci)).set j v)) = wsl (kE K) h2)
    (kk : ∀ (H1 : Heap) (locs1 : List Loc), va_P (jD (kE K)) vwCl (wsl (kE K) h2) H1 → va_S (Ast (kE K)) (kS K).heap H1 locs1 → kW K H1 locs1 Q (F0 (kM K) (pc + 3) arr rest)) : kW K H locs Q (F0 (kM K) pc arr (v :: .ref (jad (kE K) a) :: rest)) := by
  obtain ⟨C0, T, N, ty0, ⟨g1, g2, g3, g4, g5⟩, hj, hw, hfin, hd⟩ := f
  refine va_put C.1 C.2.1 C.2.2.2.2.1 g3 ty0 g4 g5 C.2.2.2.1 C.2.2.2.2.2.1 hP (wsl_D h C.2.2.2.2.2.2.1) hS a (by rw [wsl_get _ _ (shp_lt hs (by omega)), cE_obj _ _ hs]) g1 j hj (C.2.2.2.2.1 _ hw) (fun _ q => q) hfin hd hn hfit (by simp; omega) d (fun H1 locs1 hP1 hD1 hS1 => ?_)
  rw [he (by omega)] at hP1
  exact kk H1 locs1 hP1 hS1
theorem gf_putI (C : CX K own cc nL ret fr lo) {ix ci j a : Nat} {x : Int32} (d : decode cc pc = .ok (.putfield ix, 3)) (f : FP own ix ci j .int) (hs : shp a = (0, ci)) (ht : sty ci j = 0) (u : Nat) (hu : 64 * a + j = u) (k : GF K ε (sS h u x) (pc + 3) ls st o) : GF K ε h pc ls (.int x :: .ref a :: st) o := by
  subst hu
  intro r h1 ho H locs arr hP hS hv
  exact w_put C (v := .int x) d f hs rfl rfl hP hS (fun hj => wsl_sS _ _ hs hj ht x) (fun H1 locs1 hP1 hS1 => k r h1 ho H1 locs1 arr hP1 hS1 hv)
theorem gf_putZ (C : CX K own cc nL ret fr lo) {ix ci j a : Nat} {x : Int32} (d : decode cc pc = .ok (.putfield ix, 3)) (f : FP own ix ci j .boolean) (hs : shp a = (0, ci)) (ht : sty ci j = 0) (u : Nat) (hu : 64 * a + j = u) (hx : isB x = true) (k : GF K ε (sS h u x) (pc + 3) ls st o) : GF K ε h pc ls (.int x :: .ref a :: st) o := by
  subst hu
  intro r h1 ho H locs arr hP hS hv
  exact w_put C (v := .int x) d f hs (isB_nar hx) (isB_fit hx) hP hS (fun hj => wsl_sS _ _ hs hj ht x) (fun H1 locs1 hP1 hS1 => k r h1 ho H1 locs1 arr hP1 hS1 hv)
theorem gf_putL (C : CX K own cc nL ret fr lo) {ix ci j a : Nat} {x : Int64} (d : decode cc pc = .ok (.putfield ix, 3)) (f : FP own ix ci j .long) (hs : shp a = (0, ci)) (ht : sty ci j = 1) (u : Nat) (hu : 64 * a + j = u) (k : GF K ε (tS h u x) (pc + 3) ls st o) : GF K ε h pc ls (.long x :: .ref a :: st) o := by
  subst hu
  intro r h1 ho H locs arr hP hS hv
  exact w_put C (v := .long x) d f hs rfl rfl hP hS (fun hj => wsl_tS _ _ hs hj ht x) (fun H1 locs1 hP1 hS1 => k r h1 ho H1 locs1 arr hP1 hS1 hv)
theorem gf_putO (C : CX K own cc nL ret fr lo) {ix ci j a b : Nat} {cn : String} (d : decode cc pc = .ok (.putfield ix, 3)) (f : FP own ix ci j (.object cn)) (hs : shp a = (0, ci)) (ht : sty ci j = 3) (u : Nat) (hu : 64 * a + j = u) (k : GF K ε (oS h u (some b)) (pc + 3) ls st o) : GF K ε h pc ls (.ref b :: .ref a :: st) o := by
  subst hu
  intro r h1 ho H locs arr hP hS hv
  exact w_put C (v := .ref (jad (kE K) b)) d f hs rfl rfl hP hS (fun hj => wsl_oS _ _ hs hj ht (some b)) (fun H1 locs1 hP1 hS1 => k r h1 ho H1 locs1 arr hP1 hS1 hv)
theorem gf_iald (C : CX K own cc nL ret fr lo) {a n : Nat} {i : Int32} (d : decode cc pc = .ok (.iaload, 1)) (hs : shp a = (1, n)) (k : GF K ε h (pc + 1) ls (.int (aG h a i.toNatClampNeg) :: st) o) : GF K ε h pc ls (.int i :: .ref a :: st) (gd (inb i n) o) := by
  intro r h1 ho H locs arr hP hS hv
  cases c : inb i n with
  | false => rw [c] at ho; cases ho
  | true =>
    rw [c] at ho
    have hl := shp_lt hs (by omega)
    exact va_iald C.1 C.2.1 C.2.2.2.2.2.1 hP a a (f := aF h a) (w_ai hs) (ty_i hs) (inb_in c) d (k r h1 ho H locs arr hP hS hv)
theorem gf_lald (C : CX K own cc nL ret fr lo) {a n : Nat} {i : Int32} (d : decode cc pc = .ok (.laload, 1)) (hs : shp a = (2, n)) (k : GF K ε h (pc + 1) ls (.long (lG h a i.toNatClampNeg) :: st) o) : GF K ε h pc ls (.int i :: .ref a :: st) (gd (inb i n) o) := by
  intro r h1 ho H locs arr hP hS hv
  cases c : inb i n with
  | false => rw [c] at ho; cases ho
  | true =>
    rw [c] at ho
    have hl := shp_lt hs (by omega)
    exact va_lald C.1 C.2.1 C.2.2.2.2.2.1 hP a a (f := lF h a) (w_al hs) (ty_l hs) (inb_in c) d (k r h1 ho H locs arr hP hS hv)
theorem gf_zald (C : CX K own cc nL ret fr lo) {a n : Nat} {i : Int32} (d : decode cc pc = .ok (.baload, 1)) (hs : shp a = (3, n)) (k : GF K ε h (pc + 1) ls (.int (aG h a i.toNatClampNeg) :: st) o) : GF K ε h pc ls (.int i :: .ref a :: st) (gd (inb i n) o) := by
  intro r h1 ho H locs arr hP hS hv
  cases c : inb i n with
  | false => rw [c] at ho; cases ho
  | true =>
    rw [c] at ho
    have hl := shp_lt hs (by omega)
    exact va_zald C.1 C.2.1 C.2.2.2.2.2.1 hP a a (f := aF h a) (w_az hs) (ty_z hs) (inb_in c) d (k r h1 ho H locs arr hP hS hv)
theorem gf_aald (C : CX K own cc nL ret fr lo) {a n : Nat} {i : Int32} (d : decode cc pc = .ok (.aaload, 1)) (hs : shp a = (4, n)) (k : GF K ε h (pc + 1) ls (va_rf (rf a i.toNatClampNeg) :: st) o) : GF K ε h pc ls (.int i :: .ref a :: st) (gd (inb i n) o) := by
  intro r h1 ho H locs arr hP hS hv
  cases c : inb i n with
  | false => rw [c] at ho; cases ho
  | true =>
    rw [c] at ho
    have hl := shp_lt hs (by omega)
    have k2 := k r h1 ho H locs arr hP hS hv
    rw [List.map_cons, cv_rf] at k2
    exact va_aldq C.1 C.2.1 C.2.2.2.2.2.1 hP a a (w_aq hs) (ty_q hs) (inb_in c) d k2
theorem gf_alen (C : CX K own cc nL ret fr lo) {a kd n : Nat} {v : Int32} (d : decode cc pc = .ok (.arraylength, 1)) (hs : shp a = (kd, n)) (hk : kd = 1 ∨ kd = 2 ∨ kd = 3 ∨ kd = 4) (hn : Int32.ofNat n = v) (k : GF K ε h (pc + 1) ls (.int v :: st) o) : GF K ε h pc ls (.ref a :: st) o := by
  intro r h1 ho H locs arr hP hS hv
  have hl := shp_lt hs (by omega)
  rcases hk with hk | hk | hk | hk <;> subst hk
  · exact va_alen C.1 C.2.1 C.2.2.2.2.2.1 hP a a (x := (n, .inl (aF h a))) (w_ai hs) (ty_i hs) hn d (k r h1 ho H locs arr hP hS hv)
  · exact va_alen C.1 C.2.1 C.2.2.2.2.2.1 hP a a (x := (n, .inr (.inl (lF h a)))) (w_al hs) (ty_l hs) hn d (k r h1 ho H locs arr hP hS hv)
  · exact va_alen C.1 C.2.1 C.2.2.2.2.2.1 hP a a (x := (n, .inl (aF h a))) (w_az hs) (ty_z hs) hn d (k r h1 ho H locs arr hP hS hv)
  · exact va_alen C.1 C.2.1 C.2.2.2.2.2.1 hP a a (x := (n, .inr (.inr (.inr (.inr (fun j => (rf a j).map (jad (kE K)))))))) (w_aq hs) (ty_q hs) hn d (k r h1 ho H locs arr hP hS hv)
theorem gf_iast (C : CX K own cc nL ret fr lo) {a n : Nat} {i : Int32} {x : Int32} (d : decode cc pc = .ok (.iastore, 1)) (hs : shp a = (1, n)) (k : GF K ε (aS h a i.toNatClampNeg x) (pc + 1) ls st o) : GF K ε h pc ls (.int x :: .int i :: .ref a :: st) (gd (inb i n) o) := by
  intro r h1 ho H locs arr hP hS hv
  cases c : inb i n with
  | false => rw [c] at ho; cases ho
  | true =>
    rw [c] at ho
    have hl := shp_lt hs (by omega)
    refine va_iast C.1 C.2.1 C.2.2.2.2.2.1 hP (wsl_D h C.2.2.2.2.2.2.1) hS a a (w_ai hs) (ty_i hs) (inb_in c) d (fun H1 locs1 hP1 hD1 hS1 => ?_)
    rw [wsl_aV (kE K) h (Or.inl hs)] at hP1
    exact k r h1 ho H1 locs1 arr hP1 hS1 hv
theorem gf_last (C : CX K own cc nL ret fr lo) {a n : Nat} {i : Int32} {x : Int64} (d : decode cc pc = .ok (.lastore, 1)) (hs : shp a = (2, n)) (k : GF K ε (lS h a i.toNatClampNeg x) (pc + 1) ls st o) : GF K ε h pc ls (.long x :: .int i :: .ref a :: st) (gd (inb i n) o) := by
  intro r h1 ho H locs arr hP hS hv
  cases c : inb i n with
  | false => rw [c] at ho; cases ho
  | true =>
    rw [c] at ho
    have hl := shp_lt hs (by omega)
    refine va_last C.1 C.2.1 C.2.2.2.2.2.1 hP (wsl_D h C.2.2.2.2.2.2.1) hS a a (w_al hs) (ty_l hs) (inb_in c) d (fun H1 locs1 hP1 hD1 hS1 => ?_)
    rw [wsl_lV (kE K) h hs] at hP1
    exact k r h1 ho H1 locs1 arr hP1 hS1 hv
theorem gf_zast (C : CX K own cc nL ret fr lo) {a n : Nat} {i : Int32} {x : Int32} (d : decode cc pc = .ok (.bastore, 1)) (hs : shp a = (3, n)) (k : GF K ε (aS h a i.toNatClampNeg (vp_nar .boolean x)) (pc + 1) ls st o) : GF K ε h pc ls (.int x :: .int i :: .ref a :: st) (gd (inb i n) o) := by
  intro r h1 ho H locs arr hP hS hv
  cases c : inb i n with
  | false => rw [c] at ho; cases ho
  | true =>
    rw [c] at ho
    have hl := shp_lt hs (by omega)
    refine va_zast C.1 C.2.1 C.2.2.2.2.2.1 hP (wsl_D h C.2.2.2.2.2.2.1) hS a a (w_az hs) (ty_z hs) (inb_in c) d (fun H1 locs1 hP1 hD1 hS1 => ?_)
    rw [wsl_aV (kE K) h (Or.inr hs)] at hP1
    exact k r h1 ho H1 locs1 arr hP1 hS1 hv
end
