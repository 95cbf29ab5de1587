def F_X9_become (t : Nat) (a1 : Int32) (a2 : Int32) (a3 : Int32) (h : Hp) : Option (Unit × Hp) :=
  jl (sS h (64 * t + 0) a1) (fun h1 => jl (sS h1 (64 * t + 1) a2) (fun h2 => jl (sS h2 (64 * t + 2) a3) (fun h3 => some ((), h3))))
set_option maxRecDepth 100000 in
set_option maxHeartbeats 4000000 in
theorem ok_X9_become (t : Nat) (a1 : Int32) (a2 : Int32) (a3 : Int32) (ht : shp t = (0, 9)) (h : Hp) (rZ : Unit) (hZ : Hp) (eZ : F_X9_become t a1 a2 a3 h = some (rZ, hZ)) : AC yX9_become cX9_become 4 (none) 0 0 [.ref t, .int a1, .int a2, .int a3] h (eV rZ) hZ := by
  refine AC_intro (o := F_X9_become t a1 a2 a3 h) RX9 rfl (by decide) [some (.ref t), some (.int a1), some (.int a2), some (.int a3)] rfl (fun _ => rfl) (fun _ => Nat.le_of_ble_eq_true rfl) eZ (fun K C => ?_)
  unfold F_X9_become
  refine gf_aload_n C dX9_become_0 rfl rfl (gf_iload_n C dX9_become_1 rfl rfl (gf_putI C dX9_become_2 fp_X9_18 ht rfl (64 * t + 0) rfl ?_))
  refine gf_jlH (fun h1 => ?_)
  refine gf_aload_n C dX9_become_5 rfl rfl (gf_iload_n C dX9_become_6 rfl rfl (gf_putI C dX9_become_7 fp_X9_22 ht rfl (64 * t + 1) rfl ?_))
  refine gf_jlH (fun h2 => ?_)
  refine gf_aload_n C dX9_become_10 rfl rfl (gf_iload_n C dX9_become_11 rfl rfl (gf_putI C dX9_become_12 fp_X9_25 ht rfl (64 * t + 2) rfl ?_))
  refine gf_jlH (fun h3 => ?_)
  exact gf_vret C dX9_become_15 rfl
def F_X9_clear (t : Nat) (h : Hp) : Option (Unit × Hp) :=
  bd (F_X9_become t (24 : Int32) (4 : Int32) (5 : Int32) h) (fun _ h1 => some ((), h1))
set_option maxRecDepth 100000 in
set_option maxHeartbeats 4000000 in
theorem ok_X9_clear (t : Nat) (ht : shp t = (0, 9)) (h : Hp) (rZ : Unit) (hZ : Hp) (eZ : F_X9_clear t h = some (rZ, hZ)) : AC yX9_clear cX9_clear 1 (none) 1 23 [.ref t] h (eV rZ) hZ := by
  refine AC_intro (o := F_X9_clear t h) RX9 rfl (by decide) [some (.ref t)] rfl (fun _ => rfl) (fun _ => Nat.le_of_ble_eq_true rfl) eZ (fun K C => ?_)
  unfold F_X9_clear
  refine gf_aload_n C dX9_clear_0 rfl rfl (gf_bipush C dX9_clear_1 kb_24 (gf_iconst C dX9_clear_3 ki_4 (gf_iconst C dX9_clear_4 ki_5 ?_)))
  refine gf_callV (ε2 := eV) C [.int (24 : Int32), .int (4 : Int32), .int (5 : Int32)] dX9_clear_5 mw_X9_become ml_X9_14 ht (fun rZ hZ eZ => ok_X9_become t (24 : Int32) (4 : Int32) (5 : Int32) ht h rZ hZ eZ) rfl rfl rfl (Nat.le_of_ble_eq_true rfl) (Nat.le_of_ble_eq_true rfl) (Nat.le_of_ble_eq_true rfl) (fun _ h1 => ?_)
  exact gf_vret C dX9_clear_8 rfl
def F_J7_fill_53178 (a1 : Nat) (n1 : Nat) (a2 : Int32) (h : Hp) : Option (Unit × Hp) :=
  jl (Int32.ofNat n1) (fun x1 => (lp 4000000000 (fun (c4 : Int32 → Hp → Option (Unit × Hp)) (v2 : Int32) (h3 : Hp) =>
  if v2 < x1 then (
  gd (inb v2 n1) ( jl (aS h3 a1 v2.toNatClampNeg a2) (fun h5 => c4 (v2 + (1 : Int32)) h5))) else (
  some ((), h3))) (fun _ _ => none)) (0 : Int32) h)
set_option maxRecDepth 100000 in
set_option maxHeartbeats 4000000 in
theorem ok_J7_fill_53178 (a1 : Nat) (n1 : Nat) (a2 : Int32) (ha1 : shp a1 = (1, n1)) (h : Hp) (rZ : Unit) (hZ : Hp) (eZ : F_J7_fill_53178 a1 n1 a2 h = some (rZ, hZ)) : AC yJ7_fill_53178 cJ7_fill_53178 4 (none) 0 0 [.ref a1, .int a2] h (eV rZ) hZ := by
  refine AC_intro (o := F_J7_fill_53178 a1 n1 a2 h) RJ7 rfl (by decide) [some (.ref a1), some (.int a2), none, none] rfl (fun _ => rfl) (fun _ => Nat.le_of_ble_eq_true rfl) eZ (fun K C => ?_)
  unfold F_J7_fill_53178
  refine gf_iconst C dJ7_fill_53178_0 ki_0 (gf_istore_n C dJ7_fill_53178_1 rfl [some (.ref a1), some (.int a2), some (.int (0 : Int32)), none] rfl rfl (Nat.le_of_ble_eq_true rfl) (gf_aload_n C dJ7_fill_53178_2 rfl rfl (gf_alen C dJ7_fill_53178_3 ha1 (by decide) rfl ?_)))
  refine gf_jlI (fun x1 => ?_)
  refine gf_istore_n C dJ7_fill_53178_4 rfl [some (.ref a1), some (.int a2), some (.int (0 : Int32)), some (.int x1)] rfl rfl (Nat.le_of_ble_eq_true rfl) ?_
  refine gf_sub [some (.ref a1), some (.int a2), some (.int (0 : Int32)), some (.int x1)] (And.intro rfl (And.intro rfl (And.intro rfl (And.intro rfl trivial)))) ?_
  refine lp_P (fun (c4 : Int32 → Hp → Option (Unit × Hp)) => ∀ (v2 : Int32) (h3 : Hp), GF K eV h3 5 [some (.ref a1), some (.int a2), some (.int v2), some (.int x1)] [] (c4 v2 h3)) (fun _ _ => gf_none) (fun c4 kc4 v2 h3 => ?_) (0 : Int32) h
  refine gf_iload_n C dJ7_fill_53178_5 rfl rfl (gf_iload_n C dJ7_fill_53178_6 rfl rfl ?_)
  refine gf_icmpge C 20 dJ7_fill_53178_7 (by decide) (fun _ => ?_) (fun _ => ?_)
  · refine gf_aload_n C dJ7_fill_53178_10 rfl rfl (gf_iload_n C dJ7_fill_53178_11 rfl rfl (gf_iload_n C dJ7_fill_53178_12 rfl rfl (gf_iast C dJ7_fill_53178_13 ha1 ?_)))
    refine gf_jlH (fun h5 => ?_)
    refine gf_iinc C dJ7_fill_53178_14 rfl (ii_1 _) [some (.ref a1), some (.int a2), some (.int (v2 + (1 : Int32))), some (.int x1)] rfl rfl ?_
    refine gf_goto C 5 dJ7_fill_53178_17 (by decide) ?_
    exact gf_sub [some (.ref a1), some (.int a2), some (.int (v2 + (1 : Int32))), some (.int x1)] (And.intro rfl (And.intro rfl (And.intro rfl (And.intro rfl trivial)))) (kc4 (v2 + (1 : Int32)) h5)
  · exact gf_vret C dJ7_fill_53178_20 rfl
def F_X5_clear (t : Nat) (h : Hp) : Option (Unit × Hp) :=
  jl (sS h (64 * t + 0) (0 : Int32)) (fun h1 => bd (F_J7_fill_53178 (t + 2) 56 (-1 : Int32) h1) (fun _ h2 => bd (F_J7_fill_53178 (t + 3) 56 (-1 : Int32) h2) (fun _ h3 => bd (F_J7_fill_53178 (t + 4) 56 (-1 : Int32) h3) (fun _ h4 => some ((), h4)))))
set_option maxRecDepth 100000 in
set_option maxHeartbeats 4000000 in
theorem ok_X5_clear (t : Nat) (ht : shp t = (0, 5)) (h : Hp) (rZ : Unit) (hZ : Hp) (eZ : F_X5_clear t h = some (rZ, hZ)) : AC yX5_clear cX5_clear 1 (none) 1 23 [.ref t] h (eV rZ) hZ := by
  refine AC_intro (o := F_X5_clear t h) RX5 rfl (by decide) [some (.ref t)] rfl (fun _ => rfl) (fun _ => Nat.le_of_ble_eq_true rfl) eZ (fun K C => ?_)
  unfold F_X5_clear
  refine gf_aload_n C dX5_clear_0 rfl rfl (gf_iconst C dX5_clear_1 ki_0 (gf_putI C dX5_clear_2 fp_X5_27 ht rfl (64 * t + 0) rfl ?_))
  refine gf_jlH (fun h1 => ?_)
  refine gf_aload_n C dX5_clear_5 rfl rfl (gf_getR C dX5_clear_6 fl_X5_15 ht rfl (t + 2) (lr_5_2 ht) (gf_iconst C dX5_clear_9 ki_m1 ?_))
  refine gf_callS (ε2 := eV) C [.ref (t + 2), .int (-1 : Int32)] dX5_clear_10 mw_J7_fill_53178 ml_X5_31 (fun rZ hZ eZ => ok_J7_fill_53178 (t + 2) 56 (-1 : Int32) (lq_5_2 ht) h1 rZ hZ eZ) rfl rfl rfl (Nat.le_of_ble_eq_true rfl) (Nat.le_of_ble_eq_true rfl) (Nat.le_of_ble_eq_true rfl) (fun _ h2 => ?_)
  refine gf_aload_n C dX5_clear_13 rfl rfl (gf_getR C dX5_clear_14 fl_X5_18 ht rfl (t + 3) (lr_5_3 ht) (gf_iconst C dX5_clear_17 ki_m1 ?_))
  refine gf_callS (ε2 := eV) C [.ref (t + 3), .int (-1 : Int32)] dX5_clear_18 mw_J7_fill_53178 ml_X5_31 (fun rZ hZ eZ => ok_J7_fill_53178 (t + 3) 56 (-1 : Int32) (lq_5_3 ht) h2 rZ hZ eZ) rfl rfl rfl (Nat.le_of_ble_eq_true rfl) (Nat.le_of_ble_eq_true rfl) (Nat.le_of_ble_eq_true rfl) (fun _ h3 => ?_)
  refine gf_aload_n C dX5_clear_21 rfl rfl (gf_getR C dX5_clear_22 fl_X5_21 ht rfl (t + 4) (lr_5_4 ht) (gf_iconst C dX5_clear_25 ki_m1 ?_))
  refine gf_callS (ε2 := eV) C [.ref (t + 4), .int (-1 : Int32)] dX5_clear_26 mw_J7_fill_53178 ml_X5_31 (fun rZ hZ eZ => ok_J7_fill_53178 (t + 4) 56 (-1 : Int32) (lq_5_4 ht) h3 rZ hZ eZ) rfl rfl rfl (Nat.le_of_ble_eq_true rfl) (Nat.le_of_ble_eq_true rfl) (Nat.le_of_ble_eq_true rfl) (fun _ h4 => ?_)
  exact gf_vret C dX5_clear_29 rfl
def F_X0_clear (t : Nat) (h : Hp) : Option (Unit × Hp) :=
  jl (sS h (64 * t + 0) (0 : Int32)) (fun h1 => jl (sS h1 (64 * t + 1) (0 : Int32)) (fun h2 => bd (F_X9_clear (t + 1) h2) (fun _ h3 => bd (F_X5_clear (t + 2) h3) (fun _ h4 => some ((), h4)))))
set_option maxRecDepth 100000 in
set_option maxHeartbeats 4000000 in
theorem ok_X0_clear (t : Nat) (ht : shp t = (0, 0)) (h : Hp) (rZ : Unit) (hZ : Hp) (eZ : F_X0_clear t h = some (rZ, hZ)) : AC yX0_clear cX0_clear 1 (none) 2 43 [.ref t] h (eV rZ) hZ := by
  refine AC_intro (o := F_X0_clear t h) RX0 rfl (by decide) [some (.ref t)] rfl (fun _ => rfl) (fun _ => Nat.le_of_ble_eq_true rfl) eZ (fun K C => ?_)
  unfold F_X0_clear
  refine gf_aload_n C dX0_clear_0 rfl rfl (gf_iconst C dX0_clear_1 ki_0 (gf_putI C dX0_clear_2 fp_X0_32 ht rfl (64 * t + 0) rfl ?_))
  refine gf_jlH (fun h1 => ?_)
  refine gf_aload_n C dX0_clear_5 rfl rfl (gf_iconst C dX0_clear_6 ki_0 (gf_putI C dX0_clear_7 fp_X0_36 ht rfl (64 * t + 1) rfl ?_))
  refine gf_jlH (fun h2 => ?_)
  refine gf_aload_n C dX0_clear_10 rfl rfl (gf_getR C dX0_clear_11 fl_X0_12 ht rfl (t + 1) (lr_0_2 ht) ?_)
  refine gf_callV (ε2 := eV) C [] dX0_clear_14 mw_X9_clear ml_X0_39 (lq_0_2 ht) (fun rZ hZ eZ => ok_X9_clear (t + 1) (lq_0_2 ht) h2 rZ hZ eZ) rfl rfl rfl (Nat.le_of_ble_eq_true rfl) (Nat.le_of_ble_eq_true rfl) (Nat.le_of_ble_eq_true rfl) (fun _ h3 => ?_)
  refine gf_aload_n C dX0_clear_17 rfl rfl (gf_getR C dX0_clear_18 fl_X0_21 ht rfl (t + 2) (lr_0_3 ht) ?_)
  refine gf_callV (ε2 := eV) C [] dX0_clear_21 mw_X5_clear ml_X0_42 (lq_0_3 ht) (fun rZ hZ eZ => ok_X5_clear (t + 2) (lq_0_3 ht) h3 rZ hZ eZ) rfl rfl rfl (Nat.le_of_ble_eq_true rfl) (Nat.le_of_ble_eq_true rfl) (Nat.le_of_ble_eq_true rfl) (fun _ h4 => ?_)
  exact gf_vret C dX0_clear_24 rfl
def F_X5_copyFrom (t : Nat) (a1 : Nat) (h : Hp) : Option (Unit × Hp) :=
  jl (sS h (64 * t + 0) (sG h (64 * a1 + 0))) (fun h1 => gd (cpB (0 : Int32) (0 : Int32) (56 : Int32) 56 56) ( jl (aV h1 (t + 1) (va_cpy (aF h1 (a1 + 1)) (aF h1 (t + 1)) (0 : Int32).toNatClampNeg (0 : Int32).toNatClampNeg (56 : Int32).toNatClampNeg)) (fun h2 => gd (cpB (0 : Int32) (0 : Int32) (56 : Int32) 56 56) ( jl (aV h2 (t + 2) (va_cpy (aF h2 (a1 + 2)) (aF h2 (t + 2)) (0 : Int32).toNatClampNeg (0 : Int32).toNatClampNeg (56 : Int32).toNatClampNeg)) (fun h3 => gd (cpB (0 : Int32) (0 : Int32) (56 : Int32) 56 56) ( jl (aV h3 (t + 3) (va_cpy (aF h3 (a1 + 3)) (aF h3 (t + 3)) (0 : Int32).toNatClampNeg (0 : Int32).toNatClampNeg (56 : Int32).toNatClampNeg)) (fun h4 => gd (cpB (0 : Int32) (0 : Int32) (56 : Int32) 56 56) ( jl (aV h4 (t + 4) (va_cpy (aF h4 (a1 + 4)) (aF h4 (t + 4)) (0 : Int32).toNatClampNeg (0 : Int32).toNatClampNeg (56 : Int32).toNatClampNeg)) (fun h5 => some ((), h5))))))))))
set_option maxRecDepth 100000 in
set_option maxHeartbeats 4000000 in
theorem ok_X5_copyFrom (t : Nat) (a1 : Nat) (ht : shp t = (0, 5)) (ha1 : shp a1 = (0, 5)) (h : Hp) (rZ : Unit) (hZ : Hp) (eZ : F_X5_copyFrom t a1 h = some (rZ, hZ)) : AC yX5_copyFrom cX5_copyFrom 2 (none) 1 18 [.ref t, .ref a1] h (eV rZ) hZ := by
  refine AC_intro (o := F_X5_copyFrom t a1 h) RX5 rfl (by decide) [some (.ref t), some (.ref a1)] rfl (fun _ => rfl) (fun _ => Nat.le_of_ble_eq_true rfl) eZ (fun K C => ?_)
  unfold F_X5_copyFrom
  refine gf_aload_n C dX5_copyFrom_0 rfl rfl (gf_aload_n C dX5_copyFrom_1 rfl rfl (gf_getI C dX5_copyFrom_2 fl_X5_27 ha1 rfl (64 * a1 + 0) rfl (gf_putI C dX5_copyFrom_5 fp_X5_27 ht rfl (64 * t + 0) rfl ?_)))
  refine gf_jlH (fun h1 => ?_)
  refine gf_aload_n C dX5_copyFrom_8 rfl rfl (gf_getR C dX5_copyFrom_9 fl_X5_9 ha1 rfl (a1 + 1) (lr_5_1 ha1) (gf_iconst C dX5_copyFrom_12 ki_0 (gf_aload_n C dX5_copyFrom_13 rfl rfl (gf_getR C dX5_copyFrom_14 fl_X5_9 ht rfl (t + 1) (lr_5_1 ht) (gf_iconst C dX5_copyFrom_17 ki_0 (gf_bipush C dX5_copyFrom_18 kb_56 (gf_copyI C dX5_copyFrom_20 cp_X5_37 (lq_5_1 ha1) (lq_5_1 ht) rfl (Nat.le_of_ble_eq_true rfl) (Nat.le_of_ble_eq_true rfl) ?_)))))))
  refine gf_jlH (fun h2 => ?_)
  refine gf_aload_n C dX5_copyFrom_23 rfl rfl (gf_getR C dX5_copyFrom_24 fl_X5_15 ha1 rfl (a1 + 2) (lr_5_2 ha1) (gf_iconst C dX5_copyFrom_27 ki_0 (gf_aload_n C dX5_copyFrom_28 rfl rfl (gf_getR C dX5_copyFrom_29 fl_X5_15 ht rfl (t + 2) (lr_5_2 ht) (gf_iconst C dX5_copyFrom_32 ki_0 (gf_bipush C dX5_copyFrom_33 kb_56 (gf_copyI C dX5_copyFrom_35 cp_X5_37 (lq_5_2 ha1) (lq_5_2 ht) rfl (Nat.le_of_ble_eq_true rfl) (Nat.le_of_ble_eq_true rfl) ?_)))))))
  refine gf_jlH (fun h3 => ?_)
  refine gf_aload_n C dX5_copyFrom_38 rfl rfl (gf_getR C dX5_copyFrom_39 fl_X5_18 ha1 rfl (a1 + 3) (lr_5_3 ha1) (gf_iconst C dX5_copyFrom_42 ki_0 (gf_aload_n C dX5_copyFrom_43 rfl rfl (gf_getR C dX5_copyFrom_44 fl_X5_18 ht rfl (t + 3) (lr_5_3 ht) (gf_iconst C dX5_copyFrom_47 ki_0 (gf_bipush C dX5_copyFrom_48 kb_56 (gf_copyI C dX5_copyFrom_50 cp_X5_37 (lq_5_3 ha1) (lq_5_3 ht) rfl (Nat.le_of_ble_eq_true rfl) (Nat.le_of_ble_eq_true rfl) ?_)))))))
  refine gf_jlH (fun h4 => ?_)
  refine gf_aload_n C dX5_copyFrom_53 rfl rfl (gf_getR C dX5_copyFrom_54 fl_X5_21 ha1 rfl (a1 + 4) (lr_5_4 ha1) (gf_iconst C dX5_copyFrom_57 ki_0 (gf_aload_n C dX5_copyFrom_58 rfl rfl (gf_getR C dX5_copyFrom_59 fl_X5_21 ht rfl (t + 4) (lr_5_4 ht) (gf_iconst C dX5_copyFrom_62 ki_0 (gf_bipush C dX5_copyFrom_63 kb_56 (gf_copyI C dX5_copyFrom_65 cp_X5_37 (lq_5_4 ha1) (lq_5_4 ht) rfl (Nat.le_of_ble_eq_true rfl) (Nat.le_of_ble_eq_true rfl) ?_)))))))
  refine gf_jlH (fun h5 => ?_)
  exact gf_vret C dX5_copyFrom_68 rfl
def F_X0_copyFrom (t : Nat) (a1 : Nat) (h : Hp) : Option (Unit × Hp) :=
  jl (sS h (64 * t + 0) (sG h (64 * a1 + 0))) (fun h1 => jl (sS h1 (64 * t + 1) (sG h1 (64 * a1 + 1))) (fun h2 => bd (F_X9_become (t + 1) (sG h2 (64 * (a1 + 1) + 0)) (sG h2 (64 * (a1 + 1) + 1)) (sG h2 (64 * (a1 + 1) + 2)) h2) (fun _ h3 => bd (F_X5_copyFrom (t + 2) (a1 + 2) h3) (fun _ h4 => gd (cpB (0 : Int32) (0 : Int32) (7 : Int32) 7 7) ( jl (aV h4 (t + 7) (va_cpy (aF h4 (a1 + 7)) (aF h4 (t + 7)) (0 : Int32).toNatClampNeg (0 : Int32).toNatClampNeg (7 : Int32).toNatClampNeg)) (fun h5 => gd (cpB (0 : Int32) (0 : Int32) (6 : Int32) 6 6) ( jl (aV h5 (t + 8) (va_cpy (aF h5 (a1 + 8)) (aF h5 (t + 8)) (0 : Int32).toNatClampNeg (0 : Int32).toNatClampNeg (6 : Int32).toNatClampNeg)) (fun h6 => some ((), h6)))))))))
set_option maxRecDepth 100000 in
set_option maxHeartbeats 4000000 in
theorem ok_X0_copyFrom (t : Nat) (a1 : Nat) (ht : shp t = (0, 0)) (ha1 : shp a1 = (0, 0)) (h : Hp) (rZ : Unit) (hZ : Hp) (eZ : F_X0_copyFrom t a1 h = some (rZ, hZ)) : AC yX0_copyFrom cX0_copyFrom 2 (none) 2 39 [.ref t, .ref a1] h (eV rZ) hZ := by
  refine AC_intro (o := F_X0_copyFrom t a1 h) RX0 rfl (by decide) [some (.ref t), some (.ref a1)] rfl (fun _ => rfl) (fun _ => Nat.le_of_ble_eq_true rfl) eZ (fun K C => ?_)
  unfold F_X0_copyFrom
  refine gf_aload_n C dX0_copyFrom_0 rfl rfl (gf_aload_n C dX0_copyFrom_1 rfl rfl (gf_getI C dX0_copyFrom_2 fl_X0_32 ha1 rfl (64 * a1 + 0) rfl (gf_putI C dX0_copyFrom_5 fp_X0_32 ht rfl (64 * t + 0) rfl ?_)))
  refine gf_jlH (fun h1 => ?_)
  refine gf_aload_n C dX0_copyFrom_8 rfl rfl (gf_aload_n C dX0_copyFrom_9 rfl rfl (gf_getI C dX0_copyFrom_10 fl_X0_36 ha1 rfl (64 * a1 + 1) rfl (gf_putI C dX0_copyFrom_13 fp_X0_36 ht rfl (64 * t + 1) rfl ?_)))
  refine gf_jlH (fun h2 => ?_)
  refine gf_aload_n C dX0_copyFrom_16 rfl rfl (gf_getR C dX0_copyFrom_17 fl_X0_12 ht rfl (t + 1) (lr_0_2 ht) (gf_aload_n C dX0_copyFrom_20 rfl rfl (gf_getR C dX0_copyFrom_21 fl_X0_12 ha1 rfl (a1 + 1) (lr_0_2 ha1) (gf_getI C dX0_copyFrom_24 fl_X0_43 (lq_0_2 ha1) rfl (64 * (a1 + 1) + 0) rfl (gf_aload_n C dX0_copyFrom_27 rfl rfl (gf_getR C dX0_copyFrom_28 fl_X0_12 ha1 rfl (a1 + 1) (lr_0_2 ha1) (gf_getI C dX0_copyFrom_31 fl_X0_46 (lq_0_2 ha1) rfl (64 * (a1 + 1) + 1) rfl ?_)))))))
  refine gf_aload_n C dX0_copyFrom_34 rfl rfl (gf_getR C dX0_copyFrom_35 fl_X0_12 ha1 rfl (a1 + 1) (lr_0_2 ha1) (gf_getI C dX0_copyFrom_38 fl_X0_49 (lq_0_2 ha1) rfl (64 * (a1 + 1) + 2) rfl ?_))
  refine gf_callV (ε2 := eV) C [.int (sG h2 (64 * (a1 + 1) + 0)), .int (sG h2 (64 * (a1 + 1) + 1)), .int (sG h2 (64 * (a1 + 1) + 2))] dX0_copyFrom_41 mw_X9_become ml_X0_52 (lq_0_2 ht) (fun rZ hZ eZ => ok_X9_become (t + 1) (sG h2 (64 * (a1 + 1) + 0)) (sG h2 (64 * (a1 + 1) + 1)) (sG h2 (64 * (a1 + 1) + 2)) (lq_0_2 ht) h2 rZ hZ eZ) rfl rfl rfl (Nat.le_of_ble_eq_true rfl) (Nat.le_of_ble_eq_true rfl) (Nat.le_of_ble_eq_true rfl) (fun _ h3 => ?_)
  refine gf_aload_n C dX0_copyFrom_44 rfl rfl (gf_getR C dX0_copyFrom_45 fl_X0_21 ht rfl (t + 2) (lr_0_3 ht) (gf_aload_n C dX0_copyFrom_48 rfl rfl (gf_getR C dX0_copyFrom_49 fl_X0_21 ha1 rfl (a1 + 2) (lr_0_3 ha1) ?_)))
  refine gf_callV (ε2 := eV) C [.ref (a1 + 2)] dX0_copyFrom_52 mw_X5_copyFrom ml_X0_56 (lq_0_3 ht) (fun rZ hZ eZ => ok_X5_copyFrom (t + 2) (a1 + 2) (lq_0_3 ht) (lq_0_3 ha1) h3 rZ hZ eZ) rfl rfl rfl (Nat.le_of_ble_eq_true rfl) (Nat.le_of_ble_eq_true rfl) (Nat.le_of_ble_eq_true rfl) (fun _ h4 => ?_)
  refine gf_aload_n C dX0_copyFrom_55 rfl rfl (gf_getR C dX0_copyFrom_56 fl_X0_25 ha1 rfl (a1 + 7) (lr_0_4 ha1) (gf_iconst C dX0_copyFrom_59 ki_0 (gf_aload_n C dX0_copyFrom_60 rfl rfl (gf_getR C dX0_copyFrom_61 fl_X0_25 ht rfl (t + 7) (lr_0_4 ht) (gf_iconst C dX0_copyFrom_64 ki_0 (gf_bipush C dX0_copyFrom_65 kb_7 (gf_copyI C dX0_copyFrom_67 cp_X0_60 (lq_0_4 ha1) (lq_0_4 ht) rfl (Nat.le_of_ble_eq_true rfl) (Nat.le_of_ble_eq_true rfl) ?_)))))))
  refine gf_jlH (fun h5 => ?_)
  refine gf_aload_n C dX0_copyFrom_70 rfl rfl (gf_getR C dX0_copyFrom_71 fl_X0_29 ha1 rfl (a1 + 8) (lr_0_5 ha1) (gf_iconst C dX0_copyFrom_74 ki_0 (gf_aload_n C dX0_copyFrom_75 rfl rfl (gf_getR C dX0_copyFrom_76 fl_X0_29 ht rfl (t + 8) (lr_0_5 ht) (gf_iconst C dX0_copyFrom_79 ki_0 (gf_bipush C dX0_copyFrom_80 kb_6 (gf_copyI C dX0_copyFrom_82 cp_X0_60 (lq_0_5 ha1) (lq_0_5 ht) rfl (Nat.le_of_ble_eq_true rfl) (Nat.le_of_ble_eq_true rfl) ?_)))))))
  refine gf_jlH (fun h6 => ?_)
  exact gf_vret C dX0_copyFrom_85 rfl
def F_X0_addPicture (t : Nat) (a1 : Int32) (h : Hp) : Option (Unit × Hp) :=
  jn (fun (h1 : Hp) =>
  some ((), h1)) (fun j2 => if (sG h (64 * t + 0)) < 0 then (
  j2 h) else (
  if (sG h (64 * t + 0)) < (7 : Int32) then (
  gd (inb (sG h (64 * t + 0)) 7) ( jl (aS h (t + 7) (sG h (64 * t + 0)).toNatClampNeg a1) (fun h3 => jl (sS h3 (64 * t + 0) ((sG h3 (64 * t + 0)) + (1 : Int32))) (fun h4 => some ((), h4))))) else (
  j2 h)))
set_option maxRecDepth 100000 in
set_option maxHeartbeats 4000000 in
theorem ok_X0_addPicture (t : Nat) (a1 : Int32) (ht : shp t = (0, 0)) (h : Hp) (rZ : Unit) (hZ : Hp) (eZ : F_X0_addPicture t a1 h = some (rZ, hZ)) : AC yX0_addPicture cX0_addPicture 2 (none) 0 0 [.ref t, .int a1] h (eV rZ) hZ := by
  refine AC_intro (o := F_X0_addPicture t a1 h) RX0 rfl (by decide) [some (.ref t), some (.int a1)] rfl (fun _ => rfl) (fun _ => Nat.le_of_ble_eq_true rfl) eZ (fun K C => ?_)
  unfold F_X0_addPicture
  refine gf_aload_n C dX0_addPicture_0 rfl rfl (gf_getI C dX0_addPicture_1 fl_X0_32 ht rfl (64 * t + 0) rfl ?_)
  refine gf_jn (fun (j2 : Hp → Option (Unit × Hp)) => ∀ (h1 : Hp), GF K eV h1 16 [none, none] [] (j2 h1)) ?_ (fun j2 kj2 => ?_)
  · intro h1
    exact gf_vret C dX0_addPicture_16 rfl
  refine gf_iflt C 16 dX0_addPicture_4 (by decide) (fun _ => ?_) (fun _ => ?_)
  · exact gf_sub [none, none] trivial (kj2 h)
  · refine gf_aload_n C dX0_addPicture_7 rfl rfl (gf_getI C dX0_addPicture_8 fl_X0_32 ht rfl (64 * t + 0) rfl (gf_bipush C dX0_addPicture_11 kb_7 ?_))
    refine gf_icmplt C 17 dX0_addPicture_13 (by decide) (fun _ => ?_) (fun _ => ?_)
    · refine gf_aload_n C dX0_addPicture_17 rfl rfl (gf_getR C dX0_addPicture_18 fl_X0_25 ht rfl (t + 7) (lr_0_4 ht) (gf_aload_n C dX0_addPicture_21 rfl rfl (gf_getI C dX0_addPicture_22 fl_X0_32 ht rfl (64 * t + 0) rfl (gf_iload_n C dX0_addPicture_25 rfl rfl (gf_iast C dX0_addPicture_26 (lq_0_4 ht) ?_)))))
      refine gf_jlH (fun h3 => ?_)
      refine gf_aload_n C dX0_addPicture_27 rfl rfl (gf_dup C dX0_addPicture_28 rfl (gf_getI C dX0_addPicture_29 fl_X0_32 ht rfl (64 * t + 0) rfl (gf_iconst C dX0_addPicture_32 ki_1 (gf_iadd C dX0_addPicture_33 (gf_putI C dX0_addPicture_34 fp_X0_32 ht rfl (64 * t + 0) rfl ?_)))))
      refine gf_jlH (fun h4 => ?_)
      exact gf_vret C dX0_addPicture_37 rfl
    · exact gf_sub [none, none] trivial (kj2 h)
def F_X0_addThing (t : Nat) (a1 : Int32) (h : Hp) : Option (Unit × Hp) :=
  jn (fun (h1 : Hp) =>
  some ((), h1)) (fun j2 => if (sG h (64 * t + 1)) < 0 then (
  j2 h) else (
  if (sG h (64 * t + 1)) < (6 : Int32) then (
  gd (inb (sG h (64 * t + 1)) 6) ( jl (aS h (t + 8) (sG h (64 * t + 1)).toNatClampNeg a1) (fun h3 => jl (sS h3 (64 * t + 1) ((sG h3 (64 * t + 1)) + (1 : Int32))) (fun h4 => some ((), h4))))) else (
  j2 h)))
set_option maxRecDepth 100000 in
set_option maxHeartbeats 4000000 in
theorem ok_X0_addThing (t : Nat) (a1 : Int32) (ht : shp t = (0, 0)) (h : Hp) (rZ : Unit) (hZ : Hp) (eZ : F_X0_addThing t a1 h = some (rZ, hZ)) : AC yX0_addThing cX0_addThing 2 (none) 0 0 [.ref t, .int a1] h (eV rZ) hZ := by
  refine AC_intro (o := F_X0_addThing t a1 h) RX0 rfl (by decide) [some (.ref t), some (.int a1)] rfl (fun _ => rfl) (fun _ => Nat.le_of_ble_eq_true rfl) eZ (fun K C => ?_)
  unfold F_X0_addThing
  refine gf_aload_n C dX0_addThing_0 rfl rfl (gf_getI C dX0_addThing_1 fl_X0_36 ht rfl (64 * t + 1) rfl ?_)
  refine gf_jn (fun (j2 : Hp → Option (Unit × Hp)) => ∀ (h1 : Hp), GF K eV h1 16 [none, none] [] (j2 h1)) ?_ (fun j2 kj2 => ?_)
  · intro h1
    exact gf_vret C dX0_addThing_16 rfl
  refine gf_iflt C 16 dX0_addThing_4 (by decide) (fun _ => ?_) (fun _ => ?_)
  · exact gf_sub [none, none] trivial (kj2 h)
  · refine gf_aload_n C dX0_addThing_7 rfl rfl (gf_getI C dX0_addThing_8 fl_X0_36 ht rfl (64 * t + 1) rfl (gf_bipush C dX0_addThing_11 kb_6 ?_))
    refine gf_icmplt C 17 dX0_addThing_13 (by decide) (fun _ => ?_) (fun _ => ?_)
    · refine gf_aload_n C dX0_addThing_17 rfl rfl (gf_getR C dX0_addThing_18 fl_X0_29 ht rfl (t + 8) (lr_0_5 ht) (gf_aload_n C dX0_addThing_21 rfl rfl (gf_getI C dX0_addThing_22 fl_X0_36 ht rfl (64 * t + 1) rfl (gf_iload_n C dX0_addThing_25 rfl rfl (gf_iast C dX0_addThing_26 (lq_0_5 ht) ?_)))))
      refine gf_jlH (fun h3 => ?_)
      refine gf_aload_n C dX0_addThing_27 rfl rfl (gf_dup C dX0_addThing_28 rfl (gf_getI C dX0_addThing_29 fl_X0_36 ht rfl (64 * t + 1) rfl (gf_iconst C dX0_addThing_32 ki_1 (gf_iadd C dX0_addThing_33 (gf_putI C dX0_addThing_34 fp_X0_36 ht rfl (64 * t + 1) rfl ?_)))))
      refine gf_jlH (fun h4 => ?_)
      exact gf_vret C dX0_addThing_37 rfl
    · exact gf_sub [none, none] trivial (kj2 h)
def F_X0_hasPicture (t : Nat) (a1 : Int32) (h : Hp) : Option (Int32 × Hp) :=
  jn (fun (s1 : Int32) (h2 : Hp) =>
  gd (isB s1) ( some (s1, h2))) (fun j3 => jn (fun (h5 : Hp) =>
  j3 (0 : Int32) h5) (fun j6 => if a1 < 0 then (
  j6 h) else (
  if a1 < (sG h (64 * t + 0)) then (
  j3 (1 : Int32) h) else (
  j6 h))))
set_option maxRecDepth 100000 in
set_option maxHeartbeats 4000000 in
theorem ok_X0_hasPicture (t : Nat) (a1 : Int32) (ht : shp t = (0, 0)) (h : Hp) (rZ : Int32) (hZ : Hp) (eZ : F_X0_hasPicture t a1 h = some (rZ, hZ)) : AC yX0_hasPicture cX0_hasPicture 2 (some .boolean) 0 0 [.ref t, .int a1] h (eI rZ) hZ := by
  refine AC_intro (o := F_X0_hasPicture t a1 h) RX0 rfl (by decide) [some (.ref t), some (.int a1)] rfl (fun _ => rfl) (fun _ => Nat.le_of_ble_eq_true rfl) eZ (fun K C => ?_)
  unfold F_X0_hasPicture
  refine gf_iload_n C dX0_hasPicture_0 rfl rfl ?_
  refine gf_jn (fun (j3 : Int32 → Hp → Option (Int32 × Hp)) => ∀ (s1 : Int32) (h2 : Hp), GF K eI h2 17 [none, none] [.int s1] (j3 s1 h2)) ?_ (fun j3 kj3 => ?_)
  · intro s1 h2
    refine gf_gd (fun b4 => ?_)
    exact gf_zret C dX0_hasPicture_17 (isB_nar b4) rfl
  refine gf_jn (fun (j6 : Hp → Option (Int32 × Hp)) => ∀ (h5 : Hp), GF K eI h5 16 [none, none] [] (j6 h5)) ?_ (fun j6 kj6 => ?_)
  · intro h5
    refine gf_iconst C dX0_hasPicture_16 ki_0 ?_
    exact gf_sub [none, none] trivial (kj3 (0 : Int32) h5)
  refine gf_iflt C 16 dX0_hasPicture_1 (by decide) (fun _ => ?_) (fun _ => ?_)
  · exact gf_sub [none, none] trivial (kj6 h)
  · refine gf_iload_n C dX0_hasPicture_4 rfl rfl (gf_aload_n C dX0_hasPicture_5 rfl rfl (gf_getI C dX0_hasPicture_6 fl_X0_32 ht rfl (64 * t + 0) rfl ?_))
    refine gf_icmpge C 16 dX0_hasPicture_9 (by decide) (fun _ => ?_) (fun _ => ?_)
    · refine gf_iconst C dX0_hasPicture_12 ki_1 ?_
      refine gf_goto C 17 dX0_hasPicture_13 (by decide) ?_
      exact gf_sub [none, none] trivial (kj3 (1 : Int32) h)
    · exact gf_sub [none, none] trivial (kj6 h)
def F_X0_hasThing (t : Nat) (a1 : Int32) (h : Hp) : Option (Int32 × Hp) :=
  jn (fun (s1 : Int32) (h2 : Hp) =>
  gd (isB s1) ( some (s1, h2))) (fun j3 => jn (fun (h5 : Hp) =>
  j3 (0 : Int32) h5) (fun j6 => if a1 < 0 then (
  j6 h) else (
  if a1 < (sG h (64 * t + 1)) then (
  j3 (1 : Int32) h) else (
  j6 h))))
set_option maxRecDepth 100000 in
set_option maxHeartbeats 4000000 in
theorem ok_X0_hasThing (t : Nat) (a1 : Int32) (ht : shp t = (0, 0)) (h : Hp) (rZ : Int32) (hZ : Hp) (eZ : F_X0_hasThing t a1 h = some (rZ, hZ)) : AC yX0_hasThing cX0_hasThing 2 (some .boolean) 0 0 [.ref t, .int a1] h (eI rZ) hZ := by
  refine AC_intro (o := F_X0_hasThing t a1 h) RX0 rfl (by decide) [some (.ref t), some (.int a1)] rfl (fun _ => rfl) (fun _ => Nat.le_of_ble_eq_true rfl) eZ (fun K C => ?_)
  unfold F_X0_hasThing
  refine gf_iload_n C dX0_hasThing_0 rfl rfl ?_
  refine gf_jn (fun (j3 : Int32 → Hp → Option (Int32 × Hp)) => ∀ (s1 : Int32) (h2 : Hp), GF K eI h2 17 [none, none] [.int s1] (j3 s1 h2)) ?_ (fun j3 kj3 => ?_)
  · intro s1 h2
    refine gf_gd (fun b4 => ?_)
    exact gf_zret C dX0_hasThing_17 (isB_nar b4) rfl
  refine gf_jn (fun (j6 : Hp → Option (Int32 × Hp)) => ∀ (h5 : Hp), GF K eI h5 16 [none, none] [] (j6 h5)) ?_ (fun j6 kj6 => ?_)
  · intro h5
    refine gf_iconst C dX0_hasThing_16 ki_0 ?_
    exact gf_sub [none, none] trivial (kj3 (0 : Int32) h5)
  refine gf_iflt C 16 dX0_hasThing_1 (by decide) (fun _ => ?_) (fun _ => ?_)
  · exact gf_sub [none, none] trivial (kj6 h)
  · refine gf_iload_n C dX0_hasThing_4 rfl rfl (gf_aload_n C dX0_hasThing_5 rfl rfl (gf_getI C dX0_hasThing_6 fl_X0_36 ht rfl (64 * t + 1) rfl ?_))
    refine gf_icmpge C 16 dX0_hasThing_9 (by decide) (fun _ => ?_) (fun _ => ?_)
    · refine gf_iconst C dX0_hasThing_12 ki_1 ?_
      refine gf_goto C 17 dX0_hasThing_13 (by decide) ?_
      exact gf_sub [none, none] trivial (kj3 (1 : Int32) h)
    · exact gf_sub [none, none] trivial (kj6 h)
def F_X0_hasMatter (t : Nat) (a1 : Int32) (h : Hp) : Option (Int32 × Hp) :=
  jn (fun (s1 : Int32) (h2 : Hp) =>
  gd (isB s1) ( some (s1, h2))) (fun j3 => jn (fun (h5 : Hp) =>
  j3 (0 : Int32) h5) (fun j6 => if a1 < 0 then (
  j6 h) else (
  if a1 < ((2 : Int32) + (sG h (64 * t + 1))) then (
  j3 (1 : Int32) h) else (
  j6 h))))
set_option maxRecDepth 100000 in
set_option maxHeartbeats 4000000 in
theorem ok_X0_hasMatter (t : Nat) (a1 : Int32) (ht : shp t = (0, 0)) (h : Hp) (rZ : Int32) (hZ : Hp) (eZ : F_X0_hasMatter t a1 h = some (rZ, hZ)) : AC yX0_hasMatter cX0_hasMatter 2 (some .boolean) 0 0 [.ref t, .int a1] h (eI rZ) hZ := by
  refine AC_intro (o := F_X0_hasMatter t a1 h) RX0 rfl (by decide) [some (.ref t), some (.int a1)] rfl (fun _ => rfl) (fun _ => Nat.le_of_ble_eq_true rfl) eZ (fun K C => ?_)
  unfold F_X0_hasMatter
  refine gf_iload_n C dX0_hasMatter_0 rfl rfl ?_
  refine gf_jn (fun (j3 : Int32 → Hp → Option (Int32 × Hp)) => ∀ (s1 : Int32) (h2 : Hp), GF K eI h2 19 [none, none] [.int s1] (j3 s1 h2)) ?_ (fun j3 kj3 => ?_)
  · intro s1 h2
    refine gf_gd (fun b4 => ?_)
    exact gf_zret C dX0_hasMatter_19 (isB_nar b4) rfl
  refine gf_jn (fun (j6 : Hp → Option (Int32 × Hp)) => ∀ (h5 : Hp), GF K eI h5 18 [none, none] [] (j6 h5)) ?_ (fun j6 kj6 => ?_)
  · intro h5
    refine gf_iconst C dX0_hasMatter_18 ki_0 ?_
    exact gf_sub [none, none] trivial (kj3 (0 : Int32) h5)
  refine gf_iflt C 18 dX0_hasMatter_1 (by decide) (fun _ => ?_) (fun _ => ?_)
  · exact gf_sub [none, none] trivial (kj6 h)
  · refine gf_iload_n C dX0_hasMatter_4 rfl rfl (gf_iconst C dX0_hasMatter_5 ki_2 (gf_aload_n C dX0_hasMatter_6 rfl rfl (gf_getI C dX0_hasMatter_7 fl_X0_36 ht rfl (64 * t + 1) rfl (gf_iadd C dX0_hasMatter_10 ?_))))
    refine gf_icmpge C 18 dX0_hasMatter_11 (by decide) (fun _ => ?_) (fun _ => ?_)
    · refine gf_iconst C dX0_hasMatter_14 ki_1 ?_
      refine gf_goto C 19 dX0_hasMatter_15 (by decide) ?_
      exact gf_sub [none, none] trivial (kj3 (1 : Int32) h)
    · exact gf_sub [none, none] trivial (kj6 h)
