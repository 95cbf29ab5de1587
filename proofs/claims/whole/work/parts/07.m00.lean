def F_X9_become (t : Nat) (a1 : Int32) (a2 : Int32) (a3 : Int32) (h : Hp) : Option (Unit × Hp) :=
  jl (sS h (64 * t + 0) a1) (fun h1 => jl (sS h1 (64 * t + 1) a2) (fun h2 => jl (sS h2 (64 * t + 2) a3) (fun h3 => some ((), h3))))
set_option maxRecDepth 100000 in
set_option maxHeartbeats 4000000 in
theorem ok_X9_become (t : Nat) (a1 : Int32) (a2 : Int32) (a3 : Int32) (ht : shp t = (0, 9)) (h : Hp) (rZ : Unit) (hZ : Hp) (eZ : F_X9_become t a1 a2 a3 h = some (rZ, hZ)) : AC yX9_become cX9_become 4 (none) 0 0 [.ref t, .int a1, .int a2, .int a3] h (eV rZ) hZ := by
  refine AC_intro (o := F_X9_become t a1 a2 a3 h) RX9 rfl (plainFor_of_name (by decide)) [some (.ref t), some (.int a1), some (.int a2), some (.int a3)] rfl (fun _ => rfl) (fun _ => Nat.le_of_ble_eq_true rfl) eZ (fun K C => ?_)
  unfold F_X9_become
  refine gf_aload_n C dX9_become_0 rfl rfl (gf_iload_n C dX9_become_1 rfl rfl (gf_putI C dX9_become_2 fp_X9_18 ht rfl (64 * t + 0) rfl ?_))
  refine gf_jlH (fun h1 => ?_)
  refine gf_aload_n C dX9_become_5 rfl rfl (gf_iload_n C dX9_become_6 rfl rfl (gf_putI C dX9_become_7 fp_X9_22 ht rfl (64 * t + 1) rfl ?_))
  refine gf_jlH (fun h2 => ?_)
  refine gf_aload_n C dX9_become_10 rfl rfl (gf_iload_n C dX9_become_11 rfl rfl (gf_putI C dX9_become_12 fp_X9_25 ht rfl (64 * t + 2) rfl ?_))
  refine gf_jlH (fun h3 => ?_)
  exact gf_vret C dX9_become_15 rfl
def F_X9_clear (t : Nat) (h : Hp) : Option (Unit × Hp) :=
  bd (F_X9_become t (24 : Int32) (4 : Int32) (5 : Int32) h) (fun _ h1 => some ((), h1))
set_option maxRecDepth 100000 in
set_option maxHeartbeats 4000000 in
theorem ok_X9_clear (t : Nat) (ht : shp t = (0, 9)) (h : Hp) (rZ : Unit) (hZ : Hp) (eZ : F_X9_clear t h = some (rZ, hZ)) : AC yX9_clear cX9_clear 1 (none) 1 23 [.ref t] h (eV rZ) hZ := by
  refine AC_intro (o := F_X9_clear t h) RX9 rfl (plainFor_of_name (by decide)) [some (.ref t)] rfl (fun _ => rfl) (fun _ => Nat.le_of_ble_eq_true rfl) eZ (fun K C => ?_)
  unfold F_X9_clear
  refine gf_aload_n C dX9_clear_0 rfl rfl (gf_bipush C dX9_clear_1 kb_24 (gf_iconst C dX9_clear_3 ki_4 (gf_iconst C dX9_clear_4 ki_5 ?_)))
  refine gf_callV (ε2 := eV) C [.int (24 : Int32), .int (4 : Int32), .int (5 : Int32)] dX9_clear_5 mw_X9_become ml_X9_14 ht (fun rZ hZ eZ => ok_X9_become t (24 : Int32) (4 : Int32) (5 : Int32) ht h rZ hZ eZ) rfl rfl rfl (Nat.le_of_ble_eq_true rfl) (Nat.le_of_ble_eq_true rfl) (Nat.le_of_ble_eq_true rfl) (fun _ h1 => ?_)
  exact gf_vret C dX9_clear_8 rfl
def F_J7_fill_53178 (a1 : Nat) (n1 : Nat) (a2 : Int32) (h : Hp) : Option (Unit × Hp) :=
  jl (Int32.ofNat n1) (fun x1 => (lp 4000000000 (fun (c4 : Int32 → Hp → Option (Unit × Hp)) (v2 : Int32) (h3 : Hp) =>
  if v2 < x1 then (
  gd (inb v2 n1) ( jl (aS h3 a1 v2.toNatClampNeg a2) (fun h5 => c4 (v2 + (1 : Int32)) h5))) else (
  some ((), h3))) (fun _ _ => none)) (0 : Int32) h)
set_option maxRecDepth 100000 in
set_option maxHeartbeats 4000000 in
theorem ok_J7_fill_53178 (a1 : Nat) (n1 : Nat) (a2 : Int32) (ha1 : shp a1 = (1, n1)) (h : Hp) (rZ : Unit) (hZ : Hp) (eZ : F_J7_fill_53178 a1 n1 a2 h = some (rZ, hZ)) : AC yJ7_fill_53178 cJ7_fill_53178 4 (none) 0 0 [.ref a1, .int a2] h (eV rZ) hZ := by
  refine AC_intro (o := F_J7_fill_53178 a1 n1 a2 h) RJ7 rfl (plainFor_of_name (by decide)) [some (.ref a1), some (.int a2), none, none] rfl (fun _ => rfl) (fun _ => Nat.le_of_ble_eq_true rfl) eZ (fun K C => ?_)
  unfold F_J7_fill_53178
  refine gf_iconst C dJ7_fill_53178_0 ki_0 (gf_istore_n C dJ7_fill_53178_1 rfl [some (.ref a1), some (.int a2), some (.int (0 : Int32)), none] rfl rfl (Nat.le_of_ble_eq_true rfl) (gf_aload_n C dJ7_fill_53178_2 rfl rfl (gf_alen C dJ7_fill_53178_3 ha1 (by decide) rfl ?_)))
  refine gf_jlI (fun x1 => ?_)
  refine gf_istore_n C dJ7_fill_53178_4 rfl [some (.ref a1), some (.int a2), some (.int (0 : Int32)), some (.int x1)] rfl rfl (Nat.le_of_ble_eq_true rfl) ?_
  refine gf_sub [some (.ref a1), some (.int a2), some (.int (0 : Int32)), some (.int x1)] (And.intro rfl (And.intro rfl (And.intro rfl (And.intro rfl trivial)))) ?_
  refine lp_P (fun (c4 : Int32 → Hp → Option (Unit × Hp)) => ∀ (v2 : Int32) (h3 : Hp), GF K eV h3 5 [some (.ref a1), some (.int a2), some (.int v2), some (.int x1)] [] (c4 v2 h3)) (fun _ _ => gf_none) (fun c4 kc4 v2 h3 => ?_) (0 : Int32) h
  refine gf_iload_n C dJ7_fill_53178_5 rfl rfl (gf_iload_n C dJ7_fill_53178_6 rfl rfl ?_)
  refine gf_icmpge C 20 dJ7_fill_53178_7 (by decide) (fun _ => ?_) (fun _ => ?_)
  · refine gf_aload_n C dJ7_fill_53178_10 rfl rfl (gf_iload_n C dJ7_fill_53178_11 rfl rfl (gf_iload_n C dJ7_fill_53178_12 rfl rfl (gf_iast C dJ7_fill_53178_13 ha1 ?_)))
    refine gf_jlH (fun h5 => ?_)
    refine gf_iinc C dJ7_fill_53178_14 rfl (ii_1 _) [some (.ref a1), some (.int a2), some (.int (v2 + (1 : Int32))), some (.int x1)] rfl rfl ?_
    refine gf_goto C 5 dJ7_fill_53178_17 (by decide) ?_
    exact gf_sub [some (.ref a1), some (.int a2), some (.int (v2 + (1 : Int32))), some (.int x1)] (And.intro rfl (And.intro rfl (And.intro rfl (And.intro rfl trivial)))) (kc4 (v2 + (1 : Int32)) h5)
  · exact gf_vret C dJ7_fill_53178_20 rfl
def F_X5_clear (t : Nat) (h : Hp) : Option (Unit × Hp) :=
  jl (sS h (64 * t + 0) (0 : Int32)) (fun h1 => bd (F_J7_fill_53178 (t + 2) 56 (-1 : Int32) h1) (fun _ h2 => bd (F_J7_fill_53178 (t + 3) 56 (-1 : Int32) h2) (fun _ h3 => bd (F_J7_fill_53178 (t + 4) 56 (-1 : Int32) h3) (fun _ h4 => some ((), h4)))))
set_option maxRecDepth 100000 in
set_option maxHeartbeats 4000000 in
theorem ok_X5_clear (t : Nat) (ht : shp t = (0, 5)) (h : Hp) (rZ : Unit) (hZ : Hp) (eZ : F_X5_clear t h = some (rZ, hZ)) : AC yX5_clear cX5_clear 1 (none) 1 23 [.ref t] h (eV rZ) hZ := by
  refine AC_intro (o := F_X5_clear t h) RX5 rfl (plainFor_of_name (by decide)) [some (.ref t)] rfl (fun _ => rfl) (fun _ => Nat.le_of_ble_eq_true rfl) eZ (fun K C => ?_)
  unfold F_X5_clear
  refine gf_aload_n C dX5_clear_0 rfl rfl (gf_iconst C dX5_clear_1 ki_0 (gf_putI C dX5_clear_2 fp_X5_27 ht rfl (64 * t + 0) rfl ?_))
  refine gf_jlH (fun h1 => ?_)
  refine gf_aload_n C dX5_clear_5 rfl rfl (gf_getR C dX5_clear_6 fl_X5_15 ht rfl (t + 2) (lr_5_2 ht) (gf_iconst C dX5_clear_9 ki_m1 ?_))
  refine gf_callS (ε2 := eV) C [.ref (t + 2), .int (-1 : Int32)] dX5_clear_10 mw_J7_fill_53178 ml_X5_31 (fun rZ hZ eZ => ok_J7_fill_53178 (t + 2) 56 (-1 : Int32) (lq_5_2 ht) h1 rZ hZ eZ) rfl rfl rfl (Nat.le_of_ble_eq_true rfl) (Nat.le_of_ble_eq_true rfl) (Nat.le_of_ble_eq_true rfl) (fun _ h2 => ?_)
  refine gf_aload_n C dX5_clear_13 rfl rfl (gf_getR C dX5_clear_14 fl_X5_18 ht rfl (t + 3) (lr_5_3 ht) (gf_iconst C dX5_clear_17 ki_m1 ?_))
  refine gf_callS (ε2 := eV) C [.ref (t + 3), .int (-1 : Int32)] dX5_clear_18 mw_J7_fill_53178 ml_X5_31 (fun rZ hZ eZ => ok_J7_fill_53178 (t + 3) 56 (-1 : Int32) (lq_5_3 ht) h2 rZ hZ eZ) rfl rfl rfl (Nat.le_of_ble_eq_true rfl) (Nat.le_of_ble_eq_true rfl) (Nat.le_of_ble_eq_true rfl) (fun _ h3 => ?_)
  refine gf_aload_n C dX5_clear_21 rfl rfl (gf_getR C dX5_clear_22 fl_X5_21 ht rfl (t + 4) (lr_5_4 ht) (gf_iconst C dX5_clear_25 ki_m1 ?_))
  refine gf_callS (ε2 := eV) C [.ref (t + 4), .int (-1 : Int32)] dX5_clear_26 mw_J7_fill_53178 ml_X5_31 (fun rZ hZ eZ => ok_J7_fill_53178 (t + 4) 56 (-1 : Int32) (lq_5_4 ht) h3 rZ hZ eZ) rfl rfl rfl (Nat.le_of_ble_eq_true rfl) (Nat.le_of_ble_eq_true rfl) (Nat.le_of_ble_eq_true rfl) (fun _ h4 => ?_)
  exact gf_vret C dX5_clear_29 rfl
def F_X0_clear (t : Nat) (h : Hp) : Option (Unit × Hp) :=
  jl (sS h (64 * t + 0) (0 : Int32)) (fun h1 => jl (sS h1 (64 * t + 1) (0 : Int32)) (fun h2 => bd (F_X9_clear (t + 1) h2) (fun _ h3 => bd (F_X5_clear (t + 2) h3) (fun _ h4 => some ((), h4)))))
set_option maxRecDepth 100000 in
set_option maxHeartbeats 4000000 in
theorem ok_X0_clear (t : Nat) (ht : shp t = (0, 0)) (h : Hp) (rZ : Unit) (hZ : Hp) (eZ : F_X0_clear t h = some (rZ, hZ)) : AC yX0_clear cX0_clear 1 (none) 2 43 [.ref t] h (eV rZ) hZ := by
  refine AC_intro (o := F_X0_clear t h) RX0 rfl (plainFor_of_name (by decide)) [some (.ref t)] rfl (fun _ => rfl) (fun _ => Nat.le_of_ble_eq_true rfl) eZ (fun K C => ?_)
  unfold F_X0_clear
  refine gf_aload_n C dX0_clear_0 rfl rfl (gf_iconst C dX0_clear_1 ki_0 (gf_putI C dX0_clear_2 fp_X0_32 ht rfl (64 * t + 0) rfl ?_))
  refine gf_jlH (fun h1 => ?_)
  refine gf_aload_n C dX0_clear_5 rfl rfl (gf_iconst C dX0_clear_6 ki_0 (gf_putI C dX0_clear_7 fp_X0_36 ht rfl (64 * t + 1) rfl ?_))
  refine gf_jlH (fun h2 => ?_)
  refine gf_aload_n C dX0_clear_10 rfl rfl (gf_getR C dX0_clear_11 fl_X0_12 ht rfl (t + 1) (lr_0_2 ht) ?_)
  refine gf_callV (ε2 := eV) C [] dX0_clear_14 mw_X9_clear ml_X0_39 (lq_0_2 ht) (fun rZ hZ eZ => ok_X9_clear (t + 1) (lq_0_2 ht) h2 rZ hZ eZ) rfl rfl rfl (Nat.le_of_ble_eq_true rfl) (Nat.le_of_ble_eq_true rfl) (Nat.le_of_ble_eq_true rfl) (fun _ h3 => ?_)
  refine gf_aload_n C dX0_clear_17 rfl rfl (gf_getR C dX0_clear_18 fl_X0_21 ht rfl (t + 2) (lr_0_3 ht) ?_)
  refine gf_callV (ε2 := eV) C [] dX0_clear_21 mw_X5_clear ml_X0_42 (lq_0_3 ht) (fun rZ hZ eZ => ok_X5_clear (t + 2) (lq_0_3 ht) h3 rZ hZ eZ) rfl rfl rfl (Nat.le_of_ble_eq_true rfl) (Nat.le_of_ble_eq_true rfl) (Nat.le_of_ble_eq_true rfl) (fun _ h4 => ?_)
  exact gf_vret C dX0_clear_24 rfl
def F_X5_copyFrom (t : Nat) (a1 : Nat) (h : Hp) : Option (Unit × Hp) :=
  jl (sS h (64 * t + 0) (sG h (64 * a1 + 0))) (fun h1 => gd (cpB (0 : Int32) (0 : Int32) (56 : Int32) 56 56) ( jl (aV h1 (t + 1) (va_cpy (aF h1 (a1 + 1)) (aF h1 (t + 1)) (0 : Int32).toNatClampNeg (0 : Int32).toNatClampNeg (56 : Int32).toNatClampNeg)) (fun h2 => gd (cpB (0 : Int32) (0 : Int32) (56 : Int32) 56 56) ( jl (aV h2 (t + 2) (va_cpy (aF h2 (a1 + 2)) (aF h2 (t + 2)) (0 : Int32).toNatClampNeg (0 : Int32).toNatClampNeg (56 : Int32).toNatClampNeg)) (fun h3 => gd (cpB (0 : Int32) (0 : Int32) (56 : Int32) 56 56) ( jl (aV h3 (t + 3) (va_cpy (aF h3 (a1 + 3)) (aF h3 (t + 3)) (0 : Int32).toNatClampNeg (0 : Int32).toNatClampNeg (56 : Int32).toNatClampNeg)) (fun h4 => gd (cpB (0 : Int32) (0 : Int32) (56 : Int32) 56 56) ( jl (aV h4 (t + 4) (va_cpy (aF h4 (a1 + 4)) (aF h4 (t + 4)) (0 : Int32).toNatClampNeg (0 : Int32).toNatClampNeg (56 : Int32).toNatClampNeg)) (fun h5 => some ((), h5))))))))))
set_option maxRecDepth 100000 in
set_option maxHeartbeats 4000000 in
theorem ok_X5_copyFrom (t : Nat) (a1 : Nat) (ht : shp t = (0, 5)) (ha1 : shp a1 = (0, 5)) (h : Hp) (rZ : Unit) (hZ : Hp) (eZ : F_X5_copyFrom t a1 h = some (rZ, hZ)) : AC yX5_copyFrom cX5_copyFrom 2 (none) 1 18 [.ref t, .ref a1] h (eV rZ) hZ := by
  refine AC_intro (o := F_X5_copyFrom t a1 h) RX5 rfl (plainFor_of_name (by decide)) [some (.ref t), some (.ref a1)] rfl (fun _ => rfl) (fun _ => Nat.le_of_ble_eq_true rfl) eZ (fun K C => ?_)
  unfold F_X5_copyFrom
  refine gf_aload_n C dX5_copyFrom_0 rfl rfl (gf_aload_n C dX5_copyFrom_1 rfl rfl (gf_getI C dX5_copyFrom_2 fl_X5_27 ha1 rfl (64 * a1 + 0) rfl (gf_putI C dX5_copyFrom_5 fp_X5_27 ht rfl (64 * t + 0) rfl ?_)))
  refine gf_jlH (fun h1 => ?_)
  refine gf_aload_n C dX5_copyFrom_8 rfl rfl (gf_getR C dX5_copyFrom_9 fl_X5_9 ha1 rfl (a1 + 1) (lr_5_1 ha1) (gf_iconst C dX5_copyFrom_12 ki_0 (gf_aload_n C dX5_copyFrom_13 rfl rfl (gf_getR C dX5_copyFrom_14 fl_X5_9 ht rfl (t + 1) (lr_5_1 ht) (gf_iconst C dX5_copyFrom_17 ki_0 (gf_bipush C dX5_copyFrom_18 kb_56 (gf_copyI C dX5_copyFrom_20 cp_X5_37 (lq_5_1 ha1) (lq_5_1 ht) rfl (Nat.le_of_ble_eq_true rfl) (Nat.le_of_ble_eq_true rfl) ?_)))))))
  refine gf_jlH (fun h2 => ?_)
  refine gf_aload_n C dX5_copyFrom_23 rfl rfl (gf_getR C dX5_copyFrom_24 fl_X5_15 ha1 rfl (a1 + 2) (lr_5_2 ha1) (gf_iconst C dX5_copyFrom_27 ki_0 (gf_aload_n C dX5_copyFrom_28 rfl rfl (gf_getR C dX5_copyFrom_29 fl_X5_15 ht rfl (t + 2) (lr_5_2 ht) (gf_iconst C dX5_copyFrom_32 ki_0 (gf_bipush C dX5_copyFrom_33 kb_56 (gf_copyI C dX5_copyFrom_35 cp_X5_37 (lq_5_2 ha1) (lq_5_2 ht) rfl (Nat.le_of_ble_eq_true rfl) (Nat.le_of_ble_eq_true rfl) ?_)))))))
  refine gf_jlH (fun h3 => ?_)
  refine gf_aload_n C dX5_copyFrom_38 rfl rfl (gf_getR C dX5_copyFrom_39 fl_X5_18 ha1 rfl (a1 + 3) (lr_5_3 ha1) (gf_iconst C dX5_copyFrom_42 ki_0 (gf_aload_n C dX5_copyFrom_43 rfl rfl (gf_getR C dX5_copyFrom_44 fl_X5_18 ht rfl (t + 3) (lr_5_3 ht) (gf_iconst C dX5_copyFrom_47 ki_0 (gf_bipush C dX5_copyFrom_48 kb_56 (gf_copyI C dX5_copyFrom_50 cp_X5_37 (lq_5_3 ha1) (lq_5_3 ht) rfl (Nat.le_of_ble_eq_true rfl) (Nat.le_of_ble_eq_true rfl) ?_)))))))
  refine gf_jlH (fun h4 => ?_)
  refine gf_aload_n C dX5_copyFrom_53 rfl rfl (gf_getR C dX5_copyFrom_54 fl_X5_21 ha1 rfl (a1 + 4) (lr_5_4 ha1) (gf_iconst C dX5_copyFrom_57 ki_0 (gf_aload_n C dX5_copyFrom_58 rfl rfl (gf_getR C dX5_copyFrom_59 fl_X5_21 ht rfl (t + 4) (lr_5_4 ht) (gf_iconst C dX5_copyFrom_62 ki_0 (gf_bipush C dX5_copyFrom_63 kb_56 (gf_copyI C dX5_copyFrom_65 cp_X5_37 (lq_5_4 ha1) (lq_5_4 ht) rfl (Nat.le_of_ble_eq_true rfl) (Nat.le_of_ble_eq_true rfl) ?_)))))))
  refine gf_jlH (fun h5 => ?_)
  exact gf_vret C dX5_copyFrom_68 rfl
def F_X0_copyFrom (t : Nat) (a1 : Nat) (h : Hp) : Option (Unit × Hp) :=
  jl (sS h (64 * t + 0) (sG h (64 * a1 + 0))) (fun h1 => jl (sS h1 (64 * t + 1) (sG h1 (64 * a1 + 1))) (fun h2 => bd (F_X9_become (t + 1) (sG h2 (64 * (a1 + 1) + 0)) (sG h2 (64 * (a1 + 1) + 1)) (sG h2 (64 * (a1 + 1) + 2)) h2) (fun _ h3 => bd (F_X5_copyFrom (t + 2) (a1 + 2) h3) (fun _ h4 => gd (cpB (0 : Int32) (0 : Int32) (7 : Int32) 7 7) ( jl (aV h4 (t + 7) (va_cpy (aF h4 (a1 + 7)) (aF h4 (t + 7)) (0 : Int32).toNatClampNeg (0 : Int32).toNatClampNeg (7 : Int32).toNatClampNeg)) (fun h5 => gd (cpB (0 : Int32) (0 : Int32) (6 : Int32) 6 6) ( jl (aV h5 (t + 8) (va_cpy (aF h5 (a1 + 8)) (aF h5 (t + 8)) (0 : Int32).toNatClampNeg (0 : Int32).toNatClampNeg (6 : Int32).toNatClampNeg)) (fun h6 => some ((), h6)))))))))
set_option maxRecDepth 100000 in
set_option maxHeartbeats 4000000 in
theorem ok_X0_copyFrom (t : Nat) (a1 : Nat) (ht : shp t = (0, 0)) (ha1 : shp a1 = (0, 0)) (h : Hp) (rZ : Unit) (hZ : Hp) (eZ : F_X0_copyFrom t a1 h = some (rZ, hZ)) : AC yX0_copyFrom cX0_copyFrom 2 (none) 2 39 [.ref t, .ref a1] h (eV rZ) hZ := by
  refine AC_intro (o := F_X0_copyFrom t a1 h) RX0 rfl (plainFor_of_name (by decide)) [some (.ref t), some (.ref a1)] rfl (fun _ => rfl) (fun _ => Nat.le_of_ble_eq_true rfl) eZ (fun K C => ?_)
  unfold F_X0_copyFrom
  refine gf_aload_n C dX0_copyFrom_0 rfl rfl (gf_aload_n C dX0_copyFrom_1 rfl rfl (gf_getI C dX0_copyFrom_2 fl_X0_32 ha1 rfl (64 * a1 + 0) rfl (gf_putI C dX0_copyFrom_5 fp_X0_32 ht rfl (64 * t + 0) rfl ?_)))
  refine gf_jlH (fun h1 => ?_)
  refine gf_aload_n C dX0_copyFrom_8 rfl rfl (gf_aload_n C dX0_copyFrom_9 rfl rfl (gf_getI C dX0_copyFrom_10 fl_X0_36 ha1 rfl (64 * a1 + 1) rfl (gf_putI C dX0_copyFrom_13 fp_X0_36 ht rfl (64 * t + 1) rfl ?_)))
  refine gf_jlH (fun h2 => ?_)
  refine gf_aload_n C dX0_copyFrom_16 rfl rfl (gf_getR C dX0_copyFrom_17 fl_X0_12 ht rfl (t + 1) (lr_0_2 ht) (gf_aload_n C dX0_copyFrom_20 rfl rfl (gf_getR C dX0_copyFrom_21 fl_X0_12 ha1 rfl (a1 + 1) (lr_0_2 ha1) (gf_getI C dX0_copyFrom_24 fl_X0_43 (lq_0_2 ha1) rfl (64 * (a1 + 1) + 0) rfl (gf_aload_n C dX0_copyFrom_27 rfl rfl (gf_getR C dX0_copyFrom_28 fl_X0_12 ha1 rfl (a1 + 1) (lr_0_2 ha1) (gf_getI C dX0_copyFrom_31 fl_X0_46 (lq_0_2 ha1) rfl (64 * (a1 + 1) + 1) rfl ?_)))))))
  refine gf_aload_n C dX0_copyFrom_34 rfl rfl (gf_getR C dX0_copyFrom_35 fl_X0_12 ha1 rfl (a1 + 1) (lr_0_2 ha1) (gf_getI C dX0_copyFrom_38 fl_X0_49 (lq_0_2 ha1) rfl (64 * (a1 + 1) + 2) rfl ?_))
  refine gf_callV (ε2 := eV) C [.int (sG h2 (64 * (a1 + 1) + 0)), .int (sG h2 (64 * (a1 + 1) + 1)), .int (sG h2 (64 * (a1 + 1) + 2))] dX0_copyFrom_41 mw_X9_become ml_X0_52 (lq_0_2 ht) (fun rZ hZ eZ => ok_X9_become (t + 1) (sG h2 (64 * (a1 + 1) + 0)) (sG h2 (64 * (a1 + 1) + 1)) (sG h2 (64 * (a1 + 1) + 2)) (lq_0_2 ht) h2 rZ hZ eZ) rfl rfl rfl (Nat.le_of_ble_eq_true rfl) (Nat.le_of_ble_eq_true rfl) (Nat.le_of_ble_eq_true rfl) (fun _ h3 => ?_)
  refine gf_aload_n C dX0_copyFrom_44 rfl rfl (gf_getR C dX0_copyFrom_45 fl_X0_21 ht rfl (t + 2) (lr_0_3 ht) (gf_aload_n C dX0_copyFrom_48 rfl rfl (gf_getR C dX0_copyFrom_49 fl_X0_21 ha1 rfl (a1 + 2) (lr_0_3 ha1) ?_)))
  refine gf_callV (ε2 := eV) C [.ref (a1 + 2)] dX0_copyFrom_52 mw_X5_copyFrom ml_X0_56 (lq_0_3 ht) (fun rZ hZ eZ => ok_X5_copyFrom (t + 2) (a1 + 2) (lq_0_3 ht) (lq_0_3 ha1) h3 rZ hZ eZ) rfl rfl rfl (Nat.le_of_ble_eq_true rfl) (Nat.le_of_ble_eq_true rfl) (Nat.le_of_ble_eq_true rfl) (fun _ h4 => ?_)
  refine gf_aload_n C dX0_copyFrom_55 rfl rfl (gf_getR C dX0_copyFrom_56 fl_X0_25 ha1 rfl (a1 + 7) (lr_0_4 ha1) (gf_iconst C dX0_copyFrom_59 ki_0 (gf_aload_n C dX0_copyFrom_60 rfl rfl (gf_getR C dX0_copyFrom_61 fl_X0_25 ht rfl (t + 7) (lr_0_4 ht) (gf_iconst C dX0_copyFrom_64 ki_0 (gf_bipush C dX0_copyFrom_65 kb_7 (gf_copyI C dX0_copyFrom_67 cp_X0_60 (lq_0_4 ha1) (lq_0_4 ht) rfl (Nat.le_of_ble_eq_true rfl) (Nat.le_of_ble_eq_true rfl) ?_)))))))
  refine gf_jlH (fun h5 => ?_)
  refine gf_aload_n C dX0_copyFrom_70 rfl rfl (gf_getR C dX0_copyFrom_71 fl_X0_29 ha1 rfl (a1 + 8) (lr_0_5 ha1) (gf_iconst C dX0_copyFrom_74 ki_0 (gf_aload_n C dX0_copyFrom_75 rfl rfl (gf_getR C dX0_copyFrom_76 fl_X0_29 ht rfl (t + 8) (lr_0_5 ht) (gf_iconst C dX0_copyFrom_79 ki_0 (gf_bipush C dX0_copyFrom_80 kb_6 (gf_copyI C dX0_copyFrom_82 cp_X0_60 (lq_0_5 ha1) (lq_0_5 ht) rfl (Nat.le_of_ble_eq_true rfl) (Nat.le_of_ble_eq_true rfl) ?_)))))))
  refine gf_jlH (fun h6 => ?_)
  exact gf_vret C dX0_copyFrom_85 rfl
def F_X0_addPicture (t : Nat) (a1 : Int32) (h : Hp) : Option (Unit × Hp) :=
  jn (fun (h1 : Hp) =>
  some ((), h1)) (fun j2 => if (sG h (64 * t + 0)) < 0 then (
  j2 h) else (
  if (sG h (64 * t + 0)) < (7 : Int32) then (
  gd (inb (sG h (64 * t + 0)) 7) ( jl (aS h (t + 7) (sG h (64 * t + 0)).toNatClampNeg a1) (fun h3 => jl (sS h3 (64 * t + 0) ((sG h3 (64 * t + 0)) + (1 : Int32))) (fun h4 => some ((), h4))))) else (
  j2 h)))
set_option maxRecDepth 100000 in
set_option maxHeartbeats 4000000 in
theorem ok_X0_addPicture (t : Nat) (a1 : Int32) (ht : shp t = (0, 0)) (h : Hp) (rZ : Unit) (hZ : Hp) (eZ : F_X0_addPicture t a1 h = some (rZ, hZ)) : AC yX0_addPicture cX0_addPicture 2 (none) 0 0 [.ref t, .int a1] h (eV rZ) hZ := by
  refine AC_intro (o := F_X0_addPicture t a1 h) RX0 rfl (plainFor_of_name (by decide)) [some (.ref t), some (.int a1)] rfl (fun _ => rfl) (fun _ => Nat.le_of_ble_eq_true rfl) eZ (fun K C => ?_)
  unfold F_X0_addPicture
  refine gf_aload_n C dX0_addPicture_0 rfl rfl (gf_getI C dX0_addPicture_1 fl_X0_32 ht rfl (64 * t + 0) rfl ?_)
  refine gf_jn (fun (j2 : Hp → Option (Unit × Hp)) => ∀ (h1 : Hp), GF K eV h1 16 [none, none] [] (j2 h1)) ?_ (fun j2 kj2 => ?_)
  · intro h1
    exact gf_vret C dX0_addPicture_16 rfl
  refine gf_iflt C 16 dX0_addPicture_4 (by decide) (fun _ => ?_) (fun _ => ?_)
  · exact gf_sub [none, none] trivial (kj2 h)
  · refine gf_aload_n C dX0_addPicture_7 rfl rfl (gf_getI C dX0_addPicture_8 fl_X0_32 ht rfl (64 * t + 0) rfl (gf_bipush C dX0_addPicture_11 kb_7 ?_))
    refine gf_icmplt C 17 dX0_addPicture_13 (by decide) (fun _ => ?_) (fun _ => ?_)
    · refine gf_aload_n C dX0_addPicture_17 rfl rfl (gf_getR C dX0_addPicture_18 fl_X0_25 ht rfl (t + 7) (lr_0_4 ht) (gf_aload_n C dX0_addPicture_21 rfl rfl (gf_getI C dX0_addPicture_22 fl_X0_32 ht rfl (64 * t + 0) rfl (gf_iload_n C dX0_addPicture_25 rfl rfl (gf_iast C dX0_addPicture_26 (lq_0_4 ht) ?_)))))
      refine gf_jlH (fun h3 => ?_)
      refine gf_aload_n C dX0_addPicture_27 rfl rfl (gf_dup C dX0_addPicture_28 rfl (gf_getI C dX0_addPicture_29 fl_X0_32 ht rfl (64 * t + 0) rfl (gf_iconst C dX0_addPicture_32 ki_1 (gf_iadd C dX0_addPicture_33 (gf_putI C dX0_addPicture_34 fp_X0_32 ht rfl (64 * t + 0) rfl ?_)))))
      refine gf_jlH (fun h4 => ?_)
      exact gf_vret C dX0_addPicture_37 rfl
    · exact gf_sub [none, none] trivial (kj2 h)
def F_X0_addThing (t : Nat) (a1 : Int32) (h : Hp) : Option (Unit × Hp) :=
  jn (fun (h1 : Hp) =>
  some ((), h1)) (fun j2 => if (sG h (64 * t + 1)) < 0 then (
  j2 h) else (
  if (sG h (64 * t + 1)) < (6 : Int32) then (
  gd (inb (sG h (64 * t + 1)) 6) ( jl (aS h (t + 8) (sG h (64 * t + 1)).toNatClampNeg a1) (fun h3 => jl (sS h3 (64 * t + 1) ((sG h3 (64 * t + 1)) + (1 : Int32))) (fun h4 => some ((), h4))))) else (
  j2 h)))
set_option maxRecDepth 100000 in
set_option maxHeartbeats 4000000 in
theorem ok_X0_addThing (t : Nat) (a1 : Int32) (ht : shp t = (0, 0)) (h : Hp) (rZ : Unit) (hZ : Hp) (eZ : F_X0_addThing t a1 h = some (rZ, hZ)) : AC yX0_addThing cX0_addThing 2 (none) 0 0 [.ref t, .int a1] h (eV rZ) hZ := by
  refine AC_intro (o := F_X0_addThing t a1 h) RX0 rfl (plainFor_of_name (by decide)) [some (.ref t), some (.int a1)] rfl (fun _ => rfl) (fun _ => Nat.le_of_ble_eq_true rfl) eZ (fun K C => ?_)
  unfold F_X0_addThing
  refine gf_aload_n C dX0_addThing_0 rfl rfl (gf_getI C dX0_addThing_1 fl_X0_36 ht rfl (64 * t + 1) rfl ?_)
  refine gf_jn (fun (j2 : Hp → Option (Unit × Hp)) => ∀ (h1 : Hp), GF K eV h1 16 [none, none] [] (j2 h1)) ?_ (fun j2 kj2 => ?_)
  · intro h1
    exact gf_vret C dX0_addThing_16 rfl
  refine gf_iflt C 16 dX0_addThing_4 (by decide) (fun _ => ?_) (fun _ => ?_)
  · exact gf_sub [none, none] trivial (kj2 h)
  · refine gf_aload_n C dX0_addThing_7 rfl rfl (gf_getI C dX0_addThing_8 fl_X0_36 ht rfl (64 * t + 1) rfl (gf_bipush C dX0_addThing_11 kb_6 ?_))
    refine gf_icmplt C 17 dX0_addThing_13 (by decide) (fun _ => ?_) (fun _ => ?_)
    · refine gf_aload_n C dX0_addThing_17 rfl rfl (gf_getR C dX0_addThing_18 fl_X0_29 ht rfl (t + 8) (lr_0_5 ht) (gf_aload_n C dX0_addThing_21 rfl rfl (gf_getI C dX0_addThing_22 fl_X0_36 ht rfl (64 * t + 1) rfl (gf_iload_n C dX0_addThing_25 rfl rfl (gf_iast C dX0_addThing_26 (lq_0_5 ht) ?_)))))
      refine gf_jlH (fun h3 => ?_)
      refine gf_aload_n C dX0_addThing_27 rfl rfl (gf_dup C dX0_addThing_28 rfl (gf_getI C dX0_addThing_29 fl_X0_36 ht rfl (64 * t + 1) rfl (gf_iconst C dX0_addThing_32 ki_1 (gf_iadd C dX0_addThing_33 (gf_putI C dX0_addThing_34 fp_X0_36 ht rfl (64 * t + 1) rfl ?_)))))
      refine gf_jlH (fun h4 => ?_)
      exact gf_vret C dX0_addThing_37 rfl
    · exact gf_sub [none, none] trivial (kj2 h)
def F_X0_hasPicture (t : Nat) (a1 : Int32) (h : Hp) : Option (Int32 × Hp) :=
  jn (fun (s1 : Int32) (h2 : Hp) =>
  gd (isB s1) ( some (s1, h2))) (fun j3 => jn (fun (h5 : Hp) =>
  j3 (0 : Int32) h5) (fun j6 => if a1 < 0 then (
  j6 h) else (
  if a1 < (sG h (64 * t + 0)) then (
  j3 (1 : Int32) h) else (
  j6 h))))
set_option maxRecDepth 100000 in
set_option maxHeartbeats 4000000 in
theorem ok_X0_hasPicture (t : Nat) (a1 : Int32) (ht : shp t = (0, 0)) (h : Hp) (rZ : Int32) (hZ : Hp) (eZ : F_X0_hasPicture t a1 h = some (rZ, hZ)) : AC yX0_hasPicture cX0_hasPicture 2 (some .boolean) 0 0 [.ref t, .int a1] h (eI rZ) hZ := by
  refine AC_intro (o := F_X0_hasPicture t a1 h) RX0 rfl (plainFor_of_name (by decide)) [some (.ref t), some (.int a1)] rfl (fun _ => rfl) (fun _ => Nat.le_of_ble_eq_true rfl) eZ (fun K C => ?_)
  unfold F_X0_hasPicture
  refine gf_iload_n C dX0_hasPicture_0 rfl rfl ?_
  refine gf_jn (fun (j3 : Int32 → Hp → Option (Int32 × Hp)) => ∀ (s1 : Int32) (h2 : Hp), GF K eI h2 17 [none, none] [.int s1] (j3 s1 h2)) ?_ (fun j3 kj3 => ?_)
  · intro s1 h2
    refine gf_gd (fun b4 => ?_)
    exact gf_zret C dX0_hasPicture_17 (isB_nar b4) rfl
  refine gf_jn (fun (j6 : Hp → Option (Int32 × Hp)) => ∀ (h5 : Hp), GF K eI h5 16 [none, none] [] (j6 h5)) ?_ (fun j6 kj6 => ?_)
  · intro h5
    refine gf_iconst C dX0_hasPicture_16 ki_0 ?_
    exact gf_sub [none, none] trivial (kj3 (0 : Int32) h5)
  refine gf_iflt C 16 dX0_hasPicture_1 (by decide) (fun _ => ?_) (fun _ => ?_)
  · exact gf_sub [none, none] trivial (kj6 h)
  · refine gf_iload_n C dX0_hasPicture_4 rfl rfl (gf_aload_n C dX0_hasPicture_5 rfl rfl (gf_getI C dX0_hasPicture_6 fl_X0_32 ht rfl (64 * t + 0) rfl ?_))
    refine gf_icmpge C 16 dX0_hasPicture_9 (by decide) (fun _ => ?_) (fun _ => ?_)
    · refine gf_iconst C dX0_hasPicture_12 ki_1 ?_
      refine gf_goto C 17 dX0_hasPicture_13 (by decide) ?_
      exact gf_sub [none, none] trivial (kj3 (1 : Int32) h)
    · exact gf_sub [none, none] trivial (kj6 h)
def F_X0_hasThing (t : Nat) (a1 : Int32) (h : Hp) : Option (Int32 × Hp) :=
  jn (fun (s1 : Int32) (h2 : Hp) =>
  gd (isB s1) ( some (s1, h2))) (fun j3 => jn (fun (h5 : Hp) =>
  j3 (0 : Int32) h5) (fun j6 => if a1 < 0 then (
  j6 h) else (
  if a1 < (sG h (64 * t + 1)) then (
  j3 (1 : Int32) h) else (
  j6 h))))
set_option maxRecDepth 100000 in
set_option maxHeartbeats 4000000 in
theorem ok_X0_hasThing (t : Nat) (a1 : Int32) (ht : shp t = (0, 0)) (h : Hp) (rZ : Int32) (hZ : Hp) (eZ : F_X0_hasThing t a1 h = some (rZ, hZ)) : AC yX0_hasThing cX0_hasThing 2 (some .boolean) 0 0 [.ref t, .int a1] h (eI rZ) hZ := by
  refine AC_intro (o := F_X0_hasThing t a1 h) RX0 rfl (plainFor_of_name (by decide)) [some (.ref t), some (.int a1)] rfl (fun _ => rfl) (fun _ => Nat.le_of_ble_eq_true rfl) eZ (fun K C => ?_)
  unfold F_X0_hasThing
  refine gf_iload_n C dX0_hasThing_0 rfl rfl ?_
  refine gf_jn (fun (j3 : Int32 → Hp → Option (Int32 × Hp)) => ∀ (s1 : Int32) (h2 : Hp), GF K eI h2 17 [none, none] [.int s1] (j3 s1 h2)) ?_ (fun j3 kj3 => ?_)
  · intro s1 h2
    refine gf_gd (fun b4 => ?_)
    exact gf_zret C dX0_hasThing_17 (isB_nar b4) rfl
  refine gf_jn (fun (j6 : Hp → Option (Int32 × Hp)) => ∀ (h5 : Hp), GF K eI h5 16 [none, none] [] (j6 h5)) ?_ (fun j6 kj6 => ?_)
  · intro h5
    refine gf_iconst C dX0_hasThing_16 ki_0 ?_
    exact gf_sub [none, none] trivial (kj3 (0 : Int32) h5)
  refine gf_iflt C 16 dX0_hasThing_1 (by decide) (fun _ => ?_) (fun _ => ?_)
  · exact gf_sub [none, none] trivial (kj6 h)
  · refine gf_iload_n C dX0_hasThing_4 rfl rfl (gf_aload_n C dX0_hasThing_5 rfl rfl (gf_getI C dX0_hasThing_6 fl_X0_36 ht rfl (64 * t + 1) rfl ?_))
    refine gf_icmpge C 16 dX0_hasThing_9 (by decide) (fun _ => ?_) (fun _ => ?_)
    · refine gf_iconst C dX0_hasThing_12 ki_1 ?_
      refine gf_goto C 17 dX0_hasThing_13 (by decide) ?_
      exact gf_sub [none, none] trivial (kj3 (1 : Int32) h)
    · exact gf_sub [none, none] trivial (kj6 h)
def F_X0_hasMatter (t : Nat) (a1 : Int32) (h : Hp) : Option (Int32 × Hp) :=
  jn (fun (s1 : Int32) (h2 : Hp) =>
  gd (isB s1) ( some (s1, h2))) (fun j3 => jn (fun (h5 : Hp) =>
  j3 (0 : Int32) h5) (fun j6 => if a1 < 0 then (
  j6 h) else (
  if a1 < ((2 : Int32) + (sG h (64 * t + 1))) then (
  j3 (1 : Int32) h) else (
  j6 h))))
set_option maxRecDepth 100000 in
set_option maxHeartbeats 4000000 in
theorem ok_X0_hasMatter (t : Nat) (a1 : Int32) (ht : shp t = (0, 0)) (h : Hp) (rZ : Int32) (hZ : Hp) (eZ : F_X0_hasMatter t a1 h = some (rZ, hZ)) : AC yX0_hasMatter cX0_hasMatter 2 (some .boolean) 0 0 [.ref t, .int a1] h (eI rZ) hZ := by
  refine AC_intro (o := F_X0_hasMatter t a1 h) RX0 rfl (plainFor_of_name (by decide)) [some (.ref t), some (.int a1)] rfl (fun _ => rfl) (fun _ => Nat.le_of_ble_eq_true rfl) eZ (fun K C => ?_)
  unfold F_X0_hasMatter
  refine gf_iload_n C dX0_hasMatter_0 rfl rfl ?_
  refine gf_jn (fun (j3 : Int32 → Hp → Option (Int32 × Hp)) => ∀ (s1 : Int32) (h2 : Hp), GF K eI h2 19 [none, none] [.int s1] (j3 s1 h2)) ?_ (fun j3 kj3 => ?_)
  · intro s1 h2
    refine gf_gd (fun b4 => ?_)
    exact gf_zret C dX0_hasMatter_19 (isB_nar b4) rfl
  refine gf_jn (fun (j6 : Hp → Option (Int32 × Hp)) => ∀ (h5 : Hp), GF K eI h5 18 [none, none] [] (j6 h5)) ?_ (fun j6 kj6 => ?_)
  · intro h5
    refine gf_iconst C dX0_hasMatter_18 ki_0 ?_
    exact gf_sub [none, none] trivial (kj3 (0 : Int32) h5)
  refine gf_iflt C 18 dX0_hasMatter_1 (by decide) (fun _ => ?_) (fun _ => ?_)
  · exact gf_sub [none, none] trivial (kj6 h)
  · refine gf_iload_n C dX0_hasMatter_4 rfl rfl (gf_iconst C dX0_hasMatter_5 ki_2 (gf_aload_n C dX0_hasMatter_6 rfl rfl (gf_getI C dX0_hasMatter_7 fl_X0_36 ht rfl (64 * t + 1) rfl (gf_iadd C dX0_hasMatter_10 ?_))))
    refine gf_icmpge C 18 dX0_hasMatter_11 (by decide) (fun _ => ?_) (fun _ => ?_)
    · refine gf_iconst C dX0_hasMatter_14 ki_1 ?_
      refine gf_goto C 19 dX0_hasMatter_15 (by decide) ?_
      exact gf_sub [none, none] trivial (kj3 (1 : Int32) h)
    · exact gf_sub [none, none] trivial (kj6 h)
def F_X0_kindOf (t : Nat) (a1 : Int32) (h : Hp) : Option (Int32 × Hp) :=
  bd (F_X0_hasThing t a1 h) (fun r1 h2 => jn (fun (s3 : Int32) (h4 : Hp) =>
  some (s3, h4)) (fun j5 => jn (fun (h6 : Hp) =>
  j5 (-1 : Int32) h6) (fun j7 => if r1 = 0 then (
  j7 h2) else (
  if a1 < (6 : Int32) then (
  gd (inb a1 6) ( j5 (aG h2 (t + 8) a1.toNatClampNeg) h2)) else (
  j7 h2)))))
set_option maxRecDepth 100000 in
set_option maxHeartbeats 4000000 in
theorem ok_X0_kindOf (t : Nat) (a1 : Int32) (ht : shp t = (0, 0)) (h : Hp) (rZ : Int32) (hZ : Hp) (eZ : F_X0_kindOf t a1 h = some (rZ, hZ)) : AC yX0_kindOf cX0_kindOf 2 (some .int) 1 21 [.ref t, .int a1] h (eI rZ) hZ := by
  refine AC_intro (o := F_X0_kindOf t a1 h) RX0 rfl (plainFor_of_name (by decide)) [some (.ref t), some (.int a1)] rfl (fun _ => rfl) (fun _ => Nat.le_of_ble_eq_true rfl) eZ (fun K C => ?_)
  unfold F_X0_kindOf
  refine gf_aload_n C dX0_kindOf_0 rfl rfl (gf_iload_n C dX0_kindOf_1 rfl rfl ?_)
  refine gf_callV (ε2 := eI) C [.int a1] dX0_kindOf_2 mw_X0_hasThing ml_X0_66 ht (fun rZ hZ eZ => ok_X0_hasThing t a1 ht h rZ hZ eZ) rfl rfl rfl (Nat.le_of_ble_eq_true rfl) (Nat.le_of_ble_eq_true rfl) (Nat.le_of_ble_eq_true rfl) (fun r1 h2 => ?_)
  refine gf_jn (fun (j5 : Int32 → Hp → Option (Int32 × Hp)) => ∀ (s3 : Int32) (h4 : Hp), GF K eI h4 24 [none, none] [.int s3] (j5 s3 h4)) ?_ (fun j5 kj5 => ?_)
  · intro s3 h4
    exact gf_iret C dX0_kindOf_24 rfl
  refine gf_jn (fun (j7 : Hp → Option (Int32 × Hp)) => ∀ (h6 : Hp), GF K eI h6 23 [none, none] [] (j7 h6)) ?_ (fun j7 kj7 => ?_)
  · intro h6
    refine gf_iconst C dX0_kindOf_23 ki_m1 ?_
    exact gf_sub [none, none] trivial (kj5 (-1 : Int32) h6)
  refine gf_ifeq C 23 dX0_kindOf_5 (by decide) (fun _ => ?_) (fun _ => ?_)
  · exact gf_sub [none, none] trivial (kj7 h2)
  · refine gf_iload_n C dX0_kindOf_8 rfl rfl (gf_bipush C dX0_kindOf_9 kb_6 ?_)
    refine gf_icmpge C 23 dX0_kindOf_11 (by decide) (fun _ => ?_) (fun _ => ?_)
    · refine gf_aload_n C dX0_kindOf_14 rfl rfl (gf_getR C dX0_kindOf_15 fl_X0_29 ht rfl (t + 8) (lr_0_5 ht) (gf_iload_n C dX0_kindOf_18 rfl rfl (gf_iald C dX0_kindOf_19 (lq_0_5 ht) ?_)))
      refine gf_goto C 24 dX0_kindOf_20 (by decide) ?_
      exact gf_sub [none, none] trivial (kj5 (aG h2 (t + 8) a1.toNatClampNeg) h2)
    · exact gf_sub [none, none] trivial (kj7 h2)
def F_X0_mostValue (t : Nat) (a1 : Int32) (h : Hp) : Option (Int32 × Hp) :=
  if a1 = 0 then (
  some ((24 : Int32), h)) else (
  if a1 = (1 : Int32) then (
  some ((999 : Int32), h)) else (
  bd (F_X0_kindOf t (a1 - (2 : Int32)) h) (fun r1 h2 => jn (fun (s3 : Int32) (h4 : Hp) =>
  some (s3, h4)) (fun j5 => if r1 = (3 : Int32) then (
  j5 (9 : Int32) h2) else (
  j5 (1 : Int32) h2)))))
set_option maxRecDepth 100000 in
set_option maxHeartbeats 4000000 in
theorem ok_X0_mostValue (t : Nat) (a1 : Int32) (ht : shp t = (0, 0)) (h : Hp) (rZ : Int32) (hZ : Hp) (eZ : F_X0_mostValue t a1 h = some (rZ, hZ)) : AC yX0_mostValue cX0_mostValue 2 (some .int) 2 42 [.ref t, .int a1] h (eI rZ) hZ := by
  refine AC_intro (o := F_X0_mostValue t a1 h) RX0 rfl (plainFor_of_name (by decide)) [some (.ref t), some (.int a1)] rfl (fun _ => rfl) (fun _ => Nat.le_of_ble_eq_true rfl) eZ (fun K C => ?_)
  unfold F_X0_mostValue
  refine gf_iload_n C dX0_mostValue_0 rfl rfl ?_
  refine gf_ifne C 7 dX0_mostValue_1 (by decide) (fun _ => ?_) (fun _ => ?_)
  · refine gf_bipush C dX0_mostValue_4 kb_24 ?_
    exact gf_iret C dX0_mostValue_6 rfl
  · refine gf_iload_n C dX0_mostValue_7 rfl rfl (gf_iconst C dX0_mostValue_8 ki_1 ?_)
    refine gf_icmpne C 16 dX0_mostValue_9 (by decide) (fun _ => ?_) (fun _ => ?_)
    · refine gf_sipush C dX0_mostValue_12 ks_999 ?_
      exact gf_iret C dX0_mostValue_15 rfl
    · refine gf_aload_n C dX0_mostValue_16 rfl rfl (gf_iload_n C dX0_mostValue_17 rfl rfl (gf_iconst C dX0_mostValue_18 ki_2 (gf_isub C dX0_mostValue_19 ?_)))
      refine gf_callV (ε2 := eI) C [.int (a1 - (2 : Int32))] dX0_mostValue_20 mw_X0_kindOf ml_X0_70 ht (fun rZ hZ eZ => ok_X0_kindOf t (a1 - (2 : Int32)) ht h rZ hZ eZ) rfl rfl rfl (Nat.le_of_ble_eq_true rfl) (Nat.le_of_ble_eq_true rfl) (Nat.le_of_ble_eq_true rfl) (fun r1 h2 => ?_)
      refine gf_iconst C dX0_mostValue_23 ki_3 ?_
      refine gf_jn (fun (j5 : Int32 → Hp → Option (Int32 × Hp)) => ∀ (s3 : Int32) (h4 : Hp), GF K eI h4 33 [none, none] [.int s3] (j5 s3 h4)) ?_ (fun j5 kj5 => ?_)
      · intro s3 h4
        exact gf_iret C dX0_mostValue_33 rfl
      refine gf_icmpne C 32 dX0_mostValue_24 (by decide) (fun _ => ?_) (fun _ => ?_)
      · refine gf_bipush C dX0_mostValue_27 kb_9 ?_
        refine gf_goto C 33 dX0_mostValue_29 (by decide) ?_
        exact gf_sub [none, none] trivial (kj5 (9 : Int32) h2)
      · refine gf_iconst C dX0_mostValue_32 ki_1 ?_
        exact gf_sub [none, none] trivial (kj5 (1 : Int32) h2)
def F_X0_takesValue (t : Nat) (a1 : Int32) (a2 : Int32) (h : Hp) : Option (Int32 × Hp) :=
  bd (F_X0_hasMatter t a1 h) (fun r1 h2 => jn (fun (s3 : Int32) (h4 : Hp) =>
  gd (isB s3) ( some (s3, h4))) (fun j5 => jn (fun (h7 : Hp) =>
  j5 (0 : Int32) h7) (fun j8 => if r1 = 0 then (
  j8 h2) else (
  if a2 < 0 then (
  j8 h2) else (
  bd (F_X0_mostValue t a1 h2) (fun r9 h10 => if r9 < a2 then (
  j8 h10) else (
  j5 (1 : Int32) h10)))))))
set_option maxRecDepth 100000 in
set_option maxHeartbeats 4000000 in
theorem ok_X0_takesValue (t : Nat) (a1 : Int32) (a2 : Int32) (ht : shp t = (0, 0)) (h : Hp) (rZ : Int32) (hZ : Hp) (eZ : F_X0_takesValue t a1 a2 h = some (rZ, hZ)) : AC yX0_takesValue cX0_takesValue 3 (some .boolean) 3 63 [.ref t, .int a1, .int a2] h (eI rZ) hZ := by
  refine AC_intro (o := F_X0_takesValue t a1 a2 h) RX0 rfl (plainFor_of_name (by decide)) [some (.ref t), some (.int a1), some (.int a2)] rfl (fun _ => rfl) (fun _ => Nat.le_of_ble_eq_true rfl) eZ (fun K C => ?_)
  unfold F_X0_takesValue
  refine gf_aload_n C dX0_takesValue_0 rfl rfl (gf_iload_n C dX0_takesValue_1 rfl rfl ?_)
  refine gf_callV (ε2 := eI) C [.int a1] dX0_takesValue_2 mw_X0_hasMatter ml_X0_74 ht (fun rZ hZ eZ => ok_X0_hasMatter t a1 ht h rZ hZ eZ) rfl rfl rfl (Nat.le_of_ble_eq_true rfl) (Nat.le_of_ble_eq_true rfl) (Nat.le_of_ble_eq_true rfl) (fun r1 h2 => ?_)
  refine gf_jn (fun (j5 : Int32 → Hp → Option (Int32 × Hp)) => ∀ (s3 : Int32) (h4 : Hp), GF K eI h4 26 [none, none, none] [.int s3] (j5 s3 h4)) ?_ (fun j5 kj5 => ?_)
  · intro s3 h4
    refine gf_gd (fun b6 => ?_)
    exact gf_zret C dX0_takesValue_26 (isB_nar b6) rfl
  refine gf_jn (fun (j8 : Hp → Option (Int32 × Hp)) => ∀ (h7 : Hp), GF K eI h7 25 [none, none, none] [] (j8 h7)) ?_ (fun j8 kj8 => ?_)
  · intro h7
    refine gf_iconst C dX0_takesValue_25 ki_0 ?_
    exact gf_sub [none, none, none] trivial (kj5 (0 : Int32) h7)
  refine gf_ifeq C 25 dX0_takesValue_5 (by decide) (fun _ => ?_) (fun _ => ?_)
  · exact gf_sub [none, none, none] trivial (kj8 h2)
  · refine gf_iload_n C dX0_takesValue_8 rfl rfl ?_
    refine gf_iflt C 25 dX0_takesValue_9 (by decide) (fun _ => ?_) (fun _ => ?_)
    · exact gf_sub [none, none, none] trivial (kj8 h2)
    · refine gf_iload_n C dX0_takesValue_12 rfl rfl (gf_aload_n C dX0_takesValue_13 rfl rfl (gf_iload_n C dX0_takesValue_14 rfl rfl ?_))
      refine gf_callV (ε2 := eI) C [.int a1] dX0_takesValue_15 mw_X0_mostValue ml_X0_77 ht (fun rZ hZ eZ => ok_X0_mostValue t a1 ht h2 rZ hZ eZ) rfl rfl rfl (Nat.le_of_ble_eq_true rfl) (Nat.le_of_ble_eq_true rfl) (Nat.le_of_ble_eq_true rfl) (fun r9 h10 => ?_)
      refine gf_icmpgt C 25 dX0_takesValue_18 (by decide) (fun _ => ?_) (fun _ => ?_)
      · exact gf_sub [none, none, none] trivial (kj8 h10)
      · refine gf_iconst C dX0_takesValue_21 ki_1 ?_
        refine gf_goto C 26 dX0_takesValue_22 (by decide) ?_
        exact gf_sub [none, none, none] trivial (kj5 (1 : Int32) h10)
def F_X0_pictureNamed (t : Nat) (a1 : Int32) (h : Hp) : Option (Int32 × Hp) :=
  (lp 4000000000 (fun (c3 : Int32 → Hp → Option (Int32 × Hp)) (v1 : Int32) (h2 : Hp) =>
  jn (fun (h4 : Hp) =>
  some ((-1 : Int32), h4)) (fun j5 => if v1 < (sG h2 (64 * t + 0)) then (
  if v1 < (7 : Int32) then (
  gd (inb v1 7) ( if (aG h2 (t + 7) v1.toNatClampNeg) = a1 then (
  some (v1, h2)) else (
  c3 (v1 + (1 : Int32)) h2))) else (
  j5 h2)) else (
  j5 h2))) (fun _ _ => none)) (0 : Int32) h
set_option maxRecDepth 100000 in
set_option maxHeartbeats 4000000 in
theorem ok_X0_pictureNamed (t : Nat) (a1 : Int32) (ht : shp t = (0, 0)) (h : Hp) (rZ : Int32) (hZ : Hp) (eZ : F_X0_pictureNamed t a1 h = some (rZ, hZ)) : AC yX0_pictureNamed cX0_pictureNamed 3 (some .int) 0 0 [.ref t, .int a1] h (eI rZ) hZ := by
  refine AC_intro (o := F_X0_pictureNamed t a1 h) RX0 rfl (plainFor_of_name (by decide)) [some (.ref t), some (.int a1), none] rfl (fun _ => rfl) (fun _ => Nat.le_of_ble_eq_true rfl) eZ (fun K C => ?_)
  unfold F_X0_pictureNamed
  refine gf_iconst C dX0_pictureNamed_0 ki_0 (gf_istore_n C dX0_pictureNamed_1 rfl [some (.ref t), some (.int a1), some (.int (0 : Int32))] rfl rfl (Nat.le_of_ble_eq_true rfl) ?_)
  refine gf_sub [some (.ref t), some (.int a1), some (.int (0 : Int32))] (And.intro rfl (And.intro rfl (And.intro rfl trivial))) ?_
  refine lp_P (fun (c3 : Int32 → Hp → Option (Int32 × Hp)) => ∀ (v1 : Int32) (h2 : Hp), GF K eI h2 2 [some (.ref t), some (.int a1), some (.int v1)] [] (c3 v1 h2)) (fun _ _ => gf_none) (fun c3 kc3 v1 h2 => ?_) (0 : Int32) h
  refine gf_iload_n C dX0_pictureNamed_2 rfl rfl (gf_aload_n C dX0_pictureNamed_3 rfl rfl (gf_getI C dX0_pictureNamed_4 fl_X0_32 ht rfl (64 * t + 0) rfl ?_))
  refine gf_jn (fun (j5 : Hp → Option (Int32 × Hp)) => ∀ (h4 : Hp), GF K eI h4 34 [none, none, none] [] (j5 h4)) ?_ (fun j5 kj5 => ?_)
  · intro h4
    refine gf_iconst C dX0_pictureNamed_34 ki_m1 ?_
    exact gf_iret C dX0_pictureNamed_35 rfl
  refine gf_icmpge C 34 dX0_pictureNamed_7 (by decide) (fun _ => ?_) (fun _ => ?_)
  · refine gf_iload_n C dX0_pictureNamed_10 rfl rfl (gf_bipush C dX0_pictureNamed_11 kb_7 ?_)
    refine gf_icmpge C 34 dX0_pictureNamed_13 (by decide) (fun _ => ?_) (fun _ => ?_)
    · refine gf_aload_n C dX0_pictureNamed_16 rfl rfl (gf_getR C dX0_pictureNamed_17 fl_X0_25 ht rfl (t + 7) (lr_0_4 ht) (gf_iload_n C dX0_pictureNamed_20 rfl rfl (gf_iald C dX0_pictureNamed_21 (lq_0_4 ht) (gf_iload_n C dX0_pictureNamed_22 rfl rfl ?_))))
      refine gf_icmpne C 28 dX0_pictureNamed_23 (by decide) (fun _ => ?_) (fun _ => ?_)
      · refine gf_iload_n C dX0_pictureNamed_26 rfl rfl ?_
        exact gf_iret C dX0_pictureNamed_27 rfl
      · refine gf_iinc C dX0_pictureNamed_28 rfl (ii_1 _) [some (.ref t), some (.int a1), some (.int (v1 + (1 : Int32)))] rfl rfl ?_
        refine gf_goto C 2 dX0_pictureNamed_31 (by decide) ?_
        exact gf_sub [some (.ref t), some (.int a1), some (.int (v1 + (1 : Int32)))] (And.intro rfl (And.intro rfl (And.intro rfl trivial))) (kc3 (v1 + (1 : Int32)) h2)
    · exact gf_sub [none, none, none] trivial (kj5 h2)
  · exact gf_sub [none, none, none] trivial (kj5 h2)
def F_X0_wordLetters (t : Nat) (a1 : Int32) (h : Hp) : Option (Int32 × Hp) :=
  bd (F_X0_hasPicture t a1 h) (fun r1 h2 => jn (fun (h3 : Hp) =>
  some ((-1 : Int32), h3)) (fun j4 => if r1 = 0 then (
  j4 h2) else (
  if a1 < (7 : Int32) then (
  (lp 4000000000 (fun (c8 : Int32 → Int32 → Hp → Option (Int32 × Hp)) (v5 : Int32) (v6 : Int32) (h7 : Hp) =>
  if v6 < (5 : Int32) then (
  gd (inb a1 7) ( jn (fun (v9 : Int32) (h10 : Hp) =>
  c8 v9 (v6 + (1 : Int32)) h10) (fun j11 => if ((aG h7 (t + 7) a1.toNatClampNeg) >>> (((5 : Int32) * v6) &&& 31)) = 0 then (
  j11 v5 h7) else (
  j11 (v5 + (1 : Int32)) h7)))) else (
  some (v5, h7))) (fun _ _ _ => none)) (0 : Int32) (0 : Int32) h2) else (
  j4 h2))))
set_option maxRecDepth 100000 in
set_option maxHeartbeats 4000000 in
theorem ok_X0_wordLetters (t : Nat) (a1 : Int32) (ht : shp t = (0, 0)) (h : Hp) (rZ : Int32) (hZ : Hp) (eZ : F_X0_wordLetters t a1 h = some (rZ, hZ)) : AC yX0_wordLetters cX0_wordLetters 4 (some .int) 1 21 [.ref t, .int a1] h (eI rZ) hZ := by
  refine AC_intro (o := F_X0_wordLetters t a1 h) RX0 rfl (plainFor_of_name (by decide)) [some (.ref t), some (.int a1), none, none] rfl (fun _ => rfl) (fun _ => Nat.le_of_ble_eq_true rfl) eZ (fun K C => ?_)
  unfold F_X0_wordLetters
  refine gf_aload_n C dX0_wordLetters_0 rfl rfl (gf_iload_n C dX0_wordLetters_1 rfl rfl ?_)
  refine gf_callV (ε2 := eI) C [.int a1] dX0_wordLetters_2 mw_X0_hasPicture ml_X0_80 ht (fun rZ hZ eZ => ok_X0_hasPicture t a1 ht h rZ hZ eZ) rfl rfl rfl (Nat.le_of_ble_eq_true rfl) (Nat.le_of_ble_eq_true rfl) (Nat.le_of_ble_eq_true rfl) (fun r1 h2 => ?_)
  refine gf_jn (fun (j4 : Hp → Option (Int32 × Hp)) => ∀ (h3 : Hp), GF K eI h3 14 [none, none, none, none] [] (j4 h3)) ?_ (fun j4 kj4 => ?_)
  · intro h3
    refine gf_iconst C dX0_wordLetters_14 ki_m1 ?_
    exact gf_iret C dX0_wordLetters_15 rfl
  refine gf_ifeq C 14 dX0_wordLetters_5 (by decide) (fun _ => ?_) (fun _ => ?_)
  · exact gf_sub [none, none, none, none] trivial (kj4 h2)
  · refine gf_iload_n C dX0_wordLetters_8 rfl rfl (gf_bipush C dX0_wordLetters_9 kb_7 ?_)
    refine gf_icmplt C 16 dX0_wordLetters_11 (by decide) (fun _ => ?_) (fun _ => ?_)
    · refine gf_iconst C dX0_wordLetters_16 ki_0 (gf_istore_n C dX0_wordLetters_17 rfl [some (.ref t), some (.int a1), some (.int (0 : Int32)), none] rfl rfl (Nat.le_of_ble_eq_true rfl) (gf_iconst C dX0_wordLetters_18 ki_0 (gf_istore_n C dX0_wordLetters_19 rfl [some (.ref t), some (.int a1), some (.int (0 : Int32)), some (.int (0 : Int32))] rfl rfl (Nat.le_of_ble_eq_true rfl) ?_)))
      refine gf_sub [some (.ref t), some (.int a1), some (.int (0 : Int32)), some (.int (0 : Int32))] (And.intro rfl (And.intro rfl (And.intro rfl (And.intro rfl trivial)))) ?_
      refine lp_P (fun (c8 : Int32 → Int32 → Hp → Option (Int32 × Hp)) => ∀ (v5 : Int32) (v6 : Int32) (h7 : Hp), GF K eI h7 20 [some (.ref t), some (.int a1), some (.int v5), some (.int v6)] [] (c8 v5 v6 h7)) (fun _ _ _ => gf_none) (fun c8 kc8 v5 v6 h7 => ?_) (0 : Int32) (0 : Int32) h2
      refine gf_iload_n C dX0_wordLetters_20 rfl rfl (gf_iconst C dX0_wordLetters_21 ki_5 ?_)
      refine gf_icmpge C 47 dX0_wordLetters_22 (by decide) (fun _ => ?_) (fun _ => ?_)
      · refine gf_aload_n C dX0_wordLetters_25 rfl rfl (gf_getR C dX0_wordLetters_26 fl_X0_25 ht rfl (t + 7) (lr_0_4 ht) (gf_iload_n C dX0_wordLetters_29 rfl rfl (gf_iald C dX0_wordLetters_30 (lq_0_4 ht) (gf_iconst C dX0_wordLetters_31 ki_5 (gf_iload_n C dX0_wordLetters_32 rfl rfl (gf_imul C dX0_wordLetters_33 (gf_ishr C dX0_wordLetters_34 ?_)))))))
        refine gf_jn (fun (j11 : Int32 → Hp → Option (Int32 × Hp)) => ∀ (v9 : Int32) (h10 : Hp), GF K eI h10 41 [some (.ref t), some (.int a1), some (.int v9), some (.int v6)] [] (j11 v9 h10)) ?_ (fun j11 kj11 => ?_)
        · intro v9 h10
          refine gf_iinc C dX0_wordLetters_41 rfl (ii_1 _) [some (.ref t), some (.int a1), some (.int v9), some (.int (v6 + (1 : Int32)))] rfl rfl ?_
          refine gf_goto C 20 dX0_wordLetters_44 (by decide) ?_
          exact gf_sub [some (.ref t), some (.int a1), some (.int v9), some (.int (v6 + (1 : Int32)))] (And.intro rfl (And.intro rfl (And.intro rfl (And.intro rfl trivial)))) (kc8 v9 (v6 + (1 : Int32)) h10)
        refine gf_ifeq C 41 dX0_wordLetters_35 (by decide) (fun _ => ?_) (fun _ => ?_)
        · exact gf_sub [some (.ref t), some (.int a1), some (.int v5), some (.int v6)] (And.intro rfl (And.intro rfl (And.intro rfl (And.intro rfl trivial)))) (kj11 v5 h7)
        · refine gf_iinc C dX0_wordLetters_38 rfl (ii_1 _) [some (.ref t), some (.int a1), some (.int (v5 + (1 : Int32))), some (.int v6)] rfl rfl ?_
          exact gf_sub [some (.ref t), some (.int a1), some (.int (v5 + (1 : Int32))), some (.int v6)] (And.intro rfl (And.intro rfl (And.intro rfl (And.intro rfl trivial)))) (kj11 (v5 + (1 : Int32)) h7)
      · refine gf_iload_n C dX0_wordLetters_47 rfl rfl ?_
        exact gf_iret C dX0_wordLetters_48 rfl
    · exact gf_sub [none, none, none, none] trivial (kj4 h2)
def F_X5_isKey (a1 : Int32) (a2 : Int32) (h : Hp) : Option (Int32 × Hp) :=
  jn (fun (s1 : Int32) (h2 : Hp) =>
  gd (isB s1) ( some (s1, h2))) (fun j3 => jn (fun (h5 : Hp) =>
  j3 (0 : Int32) h5) (fun j6 => if a1 < 0 then (
  j6 h) else (
  if a1 < (7 : Int32) then (
  if a2 < 0 then (
  j6 h) else (
  if a2 < (8 : Int32) then (
  j3 (1 : Int32) h) else (
  j6 h))) else (
  j6 h))))
set_option maxRecDepth 100000 in
set_option maxHeartbeats 4000000 in
theorem ok_X5_isKey (a1 : Int32) (a2 : Int32) (h : Hp) (rZ : Int32) (hZ : Hp) (eZ : F_X5_isKey a1 a2 h = some (rZ, hZ)) : AC yX5_isKey cX5_isKey 2 (some .boolean) 0 0 [.int a1, .int a2] h (eI rZ) hZ := by
  refine AC_intro (o := F_X5_isKey a1 a2 h) RX5 rfl (plainFor_of_name (by decide)) [some (.int a1), some (.int a2)] rfl (fun _ => rfl) (fun _ => Nat.le_of_ble_eq_true rfl) eZ (fun K C => ?_)
  unfold F_X5_isKey
  refine gf_iload_n C dX5_isKey_0 rfl rfl ?_
  refine gf_jn (fun (j3 : Int32 → Hp → Option (Int32 × Hp)) => ∀ (s1 : Int32) (h2 : Hp), GF K eI h2 25 [none, none] [.int s1] (j3 s1 h2)) ?_ (fun j3 kj3 => ?_)
  · intro s1 h2
    refine gf_gd (fun b4 => ?_)
    exact gf_zret C dX5_isKey_25 (isB_nar b4) rfl
  refine gf_jn (fun (j6 : Hp → Option (Int32 × Hp)) => ∀ (h5 : Hp), GF K eI h5 24 [none, none] [] (j6 h5)) ?_ (fun j6 kj6 => ?_)
  · intro h5
    refine gf_iconst C dX5_isKey_24 ki_0 ?_
    exact gf_sub [none, none] trivial (kj3 (0 : Int32) h5)
  refine gf_iflt C 24 dX5_isKey_1 (by decide) (fun _ => ?_) (fun _ => ?_)
  · exact gf_sub [none, none] trivial (kj6 h)
  · refine gf_iload_n C dX5_isKey_4 rfl rfl (gf_bipush C dX5_isKey_5 kb_7 ?_)
    refine gf_icmpge C 24 dX5_isKey_7 (by decide) (fun _ => ?_) (fun _ => ?_)
    · refine gf_iload_n C dX5_isKey_10 rfl rfl ?_
      refine gf_iflt C 24 dX5_isKey_11 (by decide) (fun _ => ?_) (fun _ => ?_)
      · exact gf_sub [none, none] trivial (kj6 h)
      · refine gf_iload_n C dX5_isKey_14 rfl rfl (gf_bipush C dX5_isKey_15 kb_8 ?_)
        refine gf_icmpge C 24 dX5_isKey_17 (by decide) (fun _ => ?_) (fun _ => ?_)
        · refine gf_iconst C dX5_isKey_20 ki_1 ?_
          refine gf_goto C 25 dX5_isKey_21 (by decide) ?_
          exact gf_sub [none, none] trivial (kj3 (1 : Int32) h)
        · exact gf_sub [none, none] trivial (kj6 h)
    · exact gf_sub [none, none] trivial (kj6 h)
def F_X5_valueOf (t : Nat) (a1 : Int32) (a2 : Int32) (h : Hp) : Option (Int32 × Hp) :=
  bd (F_X5_isKey a1 a2 h) (fun r1 h2 => jn (fun (s3 : Int32) (h4 : Hp) =>
  some (s3, h4)) (fun j5 => if r1 = 0 then (
  j5 (-1 : Int32) h2) else (
  gd (inb ((a1 * (8 : Int32)) + a2) 56) ( j5 (aG h2 (t + 3) ((a1 * (8 : Int32)) + a2).toNatClampNeg) h2))))
set_option maxRecDepth 100000 in
set_option maxHeartbeats 4000000 in
theorem ok_X5_valueOf (t : Nat) (a1 : Int32) (a2 : Int32) (ht : shp t = (0, 5)) (h : Hp) (rZ : Int32) (hZ : Hp) (eZ : F_X5_valueOf t a1 a2 h = some (rZ, hZ)) : AC yX5_valueOf cX5_valueOf 3 (some .int) 1 21 [.ref t, .int a1, .int a2] h (eI rZ) hZ := by
  refine AC_intro (o := F_X5_valueOf t a1 a2 h) RX5 rfl (plainFor_of_name (by decide)) [some (.ref t), some (.int a1), some (.int a2)] rfl (fun _ => rfl) (fun _ => Nat.le_of_ble_eq_true rfl) eZ (fun K C => ?_)
  unfold F_X5_valueOf
  refine gf_iload_n C dX5_valueOf_0 rfl rfl (gf_iload_n C dX5_valueOf_1 rfl rfl ?_)
  refine gf_callS (ε2 := eI) C [.int a1, .int a2] dX5_valueOf_2 mw_X5_isKey ml_X5_43 (fun rZ hZ eZ => ok_X5_isKey a1 a2 h rZ hZ eZ) rfl rfl rfl (Nat.le_of_ble_eq_true rfl) (Nat.le_of_ble_eq_true rfl) (Nat.le_of_ble_eq_true rfl) (fun r1 h2 => ?_)
  refine gf_jn (fun (j5 : Int32 → Hp → Option (Int32 × Hp)) => ∀ (s3 : Int32) (h4 : Hp), GF K eI h4 23 [none, none, none] [.int s3] (j5 s3 h4)) ?_ (fun j5 kj5 => ?_)
  · intro s3 h4
    exact gf_iret C dX5_valueOf_23 rfl
  refine gf_ifeq C 22 dX5_valueOf_5 (by decide) (fun _ => ?_) (fun _ => ?_)
  · refine gf_iconst C dX5_valueOf_22 ki_m1 ?_
    exact gf_sub [none, none, none] trivial (kj5 (-1 : Int32) h2)
  · refine gf_aload_n C dX5_valueOf_8 rfl rfl (gf_getR C dX5_valueOf_9 fl_X5_18 ht rfl (t + 3) (lr_5_3 ht) (gf_iload_n C dX5_valueOf_12 rfl rfl (gf_bipush C dX5_valueOf_13 kb_8 (gf_imul C dX5_valueOf_15 (gf_iload_n C dX5_valueOf_16 rfl rfl (gf_iadd C dX5_valueOf_17 (gf_iald C dX5_valueOf_18 (lq_5_3 ht) ?_)))))))
    refine gf_goto C 23 dX5_valueOf_19 (by decide) ?_
    exact gf_sub [none, none, none] trivial (kj5 (aG h2 (t + 3) ((a1 * (8 : Int32)) + a2).toNatClampNeg) h2)
def F_X0_picturesSeeing (t : Nat) (a1 : Int32) (a2 : Int32) (h : Hp) : Option (Int32 × Hp) :=
  (lp 4000000000 (fun (c4 : Int32 → Int32 → Hp → Option (Int32 × Hp)) (v1 : Int32) (v2 : Int32) (h3 : Hp) =>
  if v2 < (sG h3 (64 * t + 0)) then (
  bd (F_X5_valueOf (t + 2) v2 ((2 : Int32) + a1) h3) (fun r5 h6 => jn (fun (v7 : Int32) (h8 : Hp) =>
  c4 v7 (v2 + (1 : Int32)) h8) (fun j9 => if r5 < a2 then (
  j9 v1 h6) else (
  jl (v1 ||| ((1 : Int32) <<< (v2 &&& 31))) (fun x10 => j9 x10 h6))))) else (
  some (v1, h3))) (fun _ _ _ => none)) (0 : Int32) (0 : Int32) h
set_option maxRecDepth 100000 in
set_option maxHeartbeats 4000000 in
theorem ok_X0_picturesSeeing (t : Nat) (a1 : Int32) (a2 : Int32) (ht : shp t = (0, 0)) (h : Hp) (rZ : Int32) (hZ : Hp) (eZ : F_X0_picturesSeeing t a1 a2 h = some (rZ, hZ)) : AC yX0_picturesSeeing cX0_picturesSeeing 5 (some .int) 2 43 [.ref t, .int a1, .int a2] h (eI rZ) hZ := by
  refine AC_intro (o := F_X0_picturesSeeing t a1 a2 h) RX0 rfl (plainFor_of_name (by decide)) [some (.ref t), some (.int a1), some (.int a2), none, none] rfl (fun _ => rfl) (fun _ => Nat.le_of_ble_eq_true rfl) eZ (fun K C => ?_)
  unfold F_X0_picturesSeeing
  refine gf_iconst C dX0_picturesSeeing_0 ki_0 (gf_istore_n C dX0_picturesSeeing_1 rfl [some (.ref t), some (.int a1), some (.int a2), some (.int (0 : Int32)), none] rfl rfl (Nat.le_of_ble_eq_true rfl) (gf_iconst C dX0_picturesSeeing_2 ki_0 (gf_istore C dX0_picturesSeeing_3 [some (.ref t), some (.int a1), some (.int a2), some (.int (0 : Int32)), some (.int (0 : Int32))] rfl rfl (Nat.le_of_ble_eq_true rfl) ?_)))
  refine gf_sub [some (.ref t), some (.int a1), some (.int a2), some (.int (0 : Int32)), some (.int (0 : Int32))] (And.intro rfl (And.intro rfl (And.intro rfl (And.intro rfl (And.intro rfl trivial))))) ?_
  refine lp_P (fun (c4 : Int32 → Int32 → Hp → Option (Int32 × Hp)) => ∀ (v1 : Int32) (v2 : Int32) (h3 : Hp), GF K eI h3 5 [some (.ref t), some (.int a1), some (.int a2), some (.int v1), some (.int v2)] [] (c4 v1 v2 h3)) (fun _ _ _ => gf_none) (fun c4 kc4 v1 v2 h3 => ?_) (0 : Int32) (0 : Int32) h
  refine gf_iload C dX0_picturesSeeing_5 rfl (gf_aload_n C dX0_picturesSeeing_7 rfl rfl (gf_getI C dX0_picturesSeeing_8 fl_X0_32 ht rfl (64 * t + 0) rfl ?_))
  refine gf_icmpge C 43 dX0_picturesSeeing_11 (by decide) (fun _ => ?_) (fun _ => ?_)
  · refine gf_aload_n C dX0_picturesSeeing_14 rfl rfl (gf_getR C dX0_picturesSeeing_15 fl_X0_21 ht rfl (t + 2) (lr_0_3 ht) (gf_iload C dX0_picturesSeeing_18 rfl (gf_iconst C dX0_picturesSeeing_20 ki_2 (gf_iload_n C dX0_picturesSeeing_21 rfl rfl (gf_iadd C dX0_picturesSeeing_22 ?_)))))
    refine gf_callV (ε2 := eI) C [.int v2, .int ((2 : Int32) + a1)] dX0_picturesSeeing_23 mw_X5_valueOf ml_X0_83 (lq_0_3 ht) (fun rZ hZ eZ => ok_X5_valueOf (t + 2) v2 ((2 : Int32) + a1) (lq_0_3 ht) h3 rZ hZ eZ) rfl rfl rfl (Nat.le_of_ble_eq_true rfl) (Nat.le_of_ble_eq_true rfl) (Nat.le_of_ble_eq_true rfl) (fun r5 h6 => ?_)
    refine gf_iload_n C dX0_picturesSeeing_26 rfl rfl ?_
    refine gf_jn (fun (j9 : Int32 → Hp → Option (Int32 × Hp)) => ∀ (v7 : Int32) (h8 : Hp), GF K eI h8 37 [some (.ref t), some (.int a1), some (.int a2), some (.int v7), some (.int v2)] [] (j9 v7 h8)) ?_ (fun j9 kj9 => ?_)
    · intro v7 h8
      refine gf_iinc C dX0_picturesSeeing_37 rfl (ii_1 _) [some (.ref t), some (.int a1), some (.int a2), some (.int v7), some (.int (v2 + (1 : Int32)))] rfl rfl ?_
      refine gf_goto C 5 dX0_picturesSeeing_40 (by decide) ?_
      exact gf_sub [some (.ref t), some (.int a1), some (.int a2), some (.int v7), some (.int (v2 + (1 : Int32)))] (And.intro rfl (And.intro rfl (And.intro rfl (And.intro rfl (And.intro rfl trivial))))) (kc4 v7 (v2 + (1 : Int32)) h8)
    refine gf_icmplt C 37 dX0_picturesSeeing_27 (by decide) (fun _ => ?_) (fun _ => ?_)
    · exact gf_sub [some (.ref t), some (.int a1), some (.int a2), some (.int v1), some (.int v2)] (And.intro rfl (And.intro rfl (And.intro rfl (And.intro rfl (And.intro rfl trivial))))) (kj9 v1 h6)
    · refine gf_iload_n C dX0_picturesSeeing_30 rfl rfl (gf_iconst C dX0_picturesSeeing_31 ki_1 (gf_iload C dX0_picturesSeeing_32 rfl (gf_ishl C dX0_picturesSeeing_34 (gf_ior C dX0_picturesSeeing_35 ?_))))
      refine gf_jlI (fun x10 => ?_)
      refine gf_istore_n C dX0_picturesSeeing_36 rfl [some (.ref t), some (.int a1), some (.int a2), some (.int x10), some (.int v2)] rfl rfl (Nat.le_of_ble_eq_true rfl) ?_
      exact gf_sub [some (.ref t), some (.int a1), some (.int a2), some (.int x10), some (.int v2)] (And.intro rfl (And.intro rfl (And.intro rfl (And.intro rfl (And.intro rfl trivial))))) (kj9 x10 h6)
  · refine gf_iload_n C dX0_picturesSeeing_43 rfl rfl ?_
    exact gf_iret C dX0_picturesSeeing_44 rfl
def F_X1_forget (h : Hp) : Option (Unit × Hp) :=
  jl (sS h 5829 (0 : Int32)) (fun h1 => jl (sS h1 5830 (0 : Int32)) (fun h2 => jl (sS h2 5831 (0 : Int32)) (fun h3 => some ((), h3))))
set_option maxRecDepth 100000 in
set_option maxHeartbeats 4000000 in
theorem ok_X1_forget (h : Hp) (rZ : Unit) (hZ : Hp) (eZ : F_X1_forget h = some (rZ, hZ)) : AC yX1_forget cX1_forget 1 (none) 0 0 [.ref 91] h (eV rZ) hZ := by
  refine AC_intro (o := F_X1_forget h) RX1 rfl (plainFor_of_name (by decide)) [some (.ref 91)] rfl (fun _ => rfl) (fun _ => Nat.le_of_ble_eq_true rfl) eZ (fun K C => ?_)
  unfold F_X1_forget
  refine gf_aload_n C dX1_forget_0 rfl rfl (gf_iconst C dX1_forget_1 ki_0 (gf_putZ C dX1_forget_2 fp_X1_43 s_91 rfl 5829 rfl rfl ?_))
  refine gf_jlH (fun h1 => ?_)
  refine gf_aload_n C dX1_forget_5 rfl rfl (gf_iconst C dX1_forget_6 ki_0 (gf_putZ C dX1_forget_7 fp_X1_47 s_91 rfl 5830 rfl rfl ?_))
  refine gf_jlH (fun h2 => ?_)
  refine gf_aload_n C dX1_forget_10 rfl rfl (gf_iconst C dX1_forget_11 ki_0 (gf_putZ C dX1_forget_12 fp_X1_50 s_91 rfl 5831 rfl rfl ?_))
  refine gf_jlH (fun h3 => ?_)
  exact gf_vret C dX1_forget_15 rfl
def F_X7_everyone (t : Nat) (h : Hp) : Option (Int32 × Hp) :=
  some (((1 : Int32) <<< ((sG h (64 * t + 1)) &&& 31)) - (1 : Int32), h)
set_option maxRecDepth 100000 in
set_option maxHeartbeats 4000000 in
theorem ok_X7_everyone (t : Nat) (ht : shp t = (0, 7)) (h : Hp) (rZ : Int32) (hZ : Hp) (eZ : F_X7_everyone t h = some (rZ, hZ)) : AC yX7_everyone cX7_everyone 1 (some .int) 0 0 [.ref t] h (eI rZ) hZ := by
  refine AC_intro (o := F_X7_everyone t h) RX7 rfl (plainFor_of_name (by decide)) [some (.ref t)] rfl (fun _ => rfl) (fun _ => Nat.le_of_ble_eq_true rfl) eZ (fun K C => ?_)
  unfold F_X7_everyone
  refine gf_iconst C dX7_everyone_0 ki_1 (gf_aload_n C dX7_everyone_1 rfl rfl (gf_getI C dX7_everyone_2 fl_X7_43 ht rfl (64 * t + 1) rfl (gf_ishl C dX7_everyone_5 (gf_iconst C dX7_everyone_6 ki_1 (gf_isub C dX7_everyone_7 ?_)))))
  exact gf_iret C dX7_everyone_8 rfl
def F_X7_nextOnes (t : Nat) (a1 : Int32) (a2 : Int32) (h : Hp) : Option (Int32 × Hp) :=
  jl (a2 &&& (a1 ^^^ (-1 : Int32))) (fun x1 => (lp 4000000000 (fun (c5 : Int32 → Int32 → Hp → Option (Int32 × Hp)) (v2 : Int32) (v3 : Int32) (h4 : Hp) =>
  if v3 < (6 : Int32) then (
  gd (inb v3 6) ( jn (fun (s6 : Int32) (h7 : Hp) =>
  jn (fun (v9 : Int32) (h10 : Hp) =>
  c5 v9 (v3 + (1 : Int32)) h10) (fun j11 => if s6 = 0 then (
  j11 v2 h7) else (
  gd (inb v3 6) ( if ((aG h7 (t + 4) v3.toNatClampNeg) &&& x1) = 0 then (
  j11 v2 h7) else (
  gd (inb v3 6) ( jl (v2 &&& ((aG h7 (t + 5) v3.toNatClampNeg) ^^^ (-1 : Int32))) (fun x12 => j11 x12 h7))))))) (fun j8 => if (((aG h4 (t + 4) v3.toNatClampNeg) &&& a2) &&& a1) = 0 then (
  j8 (0 : Int32) h4) else (
  j8 (1 : Int32) h4)))) else (
  (lp 4000000000 (fun (c16 : Int32 → Int32 → Hp → Option (Int32 × Hp)) (v13 : Int32) (v14 : Int32) (h15 : Hp) =>
  jn (fun (h17 : Hp) =>
  some (v13, h17)) (fun j18 => if v14 < (sG h15 (64 * t + 1)) then (
  if v14 < (7 : Int32) then (
  gd (inb v14 7) ( jn (fun (v19 : Int32) (h20 : Hp) =>
  c16 v19 (v14 + (1 : Int32)) h20) (fun j21 => if ((aG h15 (t + 2) v14.toNatClampNeg) &&& x1) = 0 then (
  j21 v13 h15) else (
  jl (v13 &&& (((1 : Int32) <<< (v14 &&& 31)) ^^^ (-1 : Int32))) (fun x22 => j21 x22 h15))))) else (
  j18 h15)) else (
  j18 h15))) (fun _ _ _ => none)) v2 (0 : Int32) h4)) (fun _ _ _ => none)) x1 (0 : Int32) h)
set_option maxRecDepth 100000 in
set_option maxHeartbeats 4000000 in
theorem ok_X7_nextOnes (t : Nat) (a1 : Int32) (a2 : Int32) (ht : shp t = (0, 7)) (h : Hp) (rZ : Int32) (hZ : Hp) (eZ : F_X7_nextOnes t a1 a2 h = some (rZ, hZ)) : AC yX7_nextOnes cX7_nextOnes 7 (some .int) 0 0 [.ref t, .int a1, .int a2] h (eI rZ) hZ := by
  refine AC_intro (o := F_X7_nextOnes t a1 a2 h) RX7 rfl (plainFor_of_name (by decide)) [some (.ref t), some (.int a1), some (.int a2), none, none, none, none] rfl (fun _ => rfl) (fun _ => Nat.le_of_ble_eq_true rfl) eZ (fun K C => ?_)
  unfold F_X7_nextOnes
  refine gf_iload_n C dX7_nextOnes_0 rfl rfl (gf_iload_n C dX7_nextOnes_1 rfl rfl (gf_iconst C dX7_nextOnes_2 ki_m1 (gf_ixor C dX7_nextOnes_3 (gf_iand C dX7_nextOnes_4 ?_))))
  refine gf_jlI (fun x1 => ?_)
  refine gf_istore_n C dX7_nextOnes_5 rfl [some (.ref t), some (.int a1), some (.int a2), some (.int x1), none, none, none] rfl rfl (Nat.le_of_ble_eq_true rfl) (gf_iload_n C dX7_nextOnes_6 rfl rfl (gf_istore C dX7_nextOnes_7 [some (.ref t), some (.int a1), some (.int a2), some (.int x1), some (.int x1), none, none] rfl rfl (Nat.le_of_ble_eq_true rfl) (gf_iconst C dX7_nextOnes_9 ki_0 (gf_istore C dX7_nextOnes_10 [some (.ref t), some (.int a1), some (.int a2), some (.int x1), some (.int x1), some (.int (0 : Int32)), none] rfl rfl (Nat.le_of_ble_eq_true rfl) ?_))))
  refine gf_sub [some (.ref t), some (.int a1), some (.int a2), some (.int x1), some (.int x1), some (.int (0 : Int32)), none] (And.intro rfl (And.intro rfl (And.intro rfl (And.intro rfl (And.intro rfl (And.intro rfl trivial)))))) ?_
  refine lp_P (fun (c5 : Int32 → Int32 → Hp → Option (Int32 × Hp)) => ∀ (v2 : Int32) (v3 : Int32) (h4 : Hp), GF K eI h4 12 [some (.ref t), some (.int a1), some (.int a2), some (.int x1), some (.int v2), some (.int v3), none] [] (c5 v2 v3 h4)) (fun _ _ _ => gf_none) (fun c5 kc5 v2 v3 h4 => ?_) x1 (0 : Int32) h
  refine gf_iload C dX7_nextOnes_12 rfl (gf_bipush C dX7_nextOnes_14 kb_6 ?_)
  refine gf_icmpge C 77 dX7_nextOnes_16 (by decide) (fun _ => ?_) (fun _ => ?_)
  · refine gf_aload_n C dX7_nextOnes_19 rfl rfl (gf_getR C dX7_nextOnes_20 fl_X7_22 ht rfl (t + 4) (lr_7_5 ht) (gf_iload C dX7_nextOnes_23 rfl (gf_iald C dX7_nextOnes_25 (lq_7_5 ht) (gf_iload_n C dX7_nextOnes_26 rfl rfl (gf_iand C dX7_nextOnes_27 (gf_iload_n C dX7_nextOnes_28 rfl rfl (gf_iand C dX7_nextOnes_29 ?_)))))))
    refine gf_jn (fun (j8 : Int32 → Hp → Option (Int32 × Hp)) => ∀ (s6 : Int32) (h7 : Hp), GF K eI h7 38 [some (.ref t), some (.int a1), some (.int a2), some (.int x1), some (.int v2), some (.int v3), none] [.int s6] (j8 s6 h7)) ?_ (fun j8 kj8 => ?_)
    · intro s6 h7
      refine gf_istore C dX7_nextOnes_38 [some (.ref t), some (.int a1), some (.int a2), some (.int x1), some (.int v2), some (.int v3), some (.int s6)] rfl rfl (Nat.le_of_ble_eq_true rfl) (gf_iload C dX7_nextOnes_40 rfl ?_)
      refine gf_jn (fun (j11 : Int32 → Hp → Option (Int32 × Hp)) => ∀ (v9 : Int32) (h10 : Hp), GF K eI h10 71 [some (.ref t), some (.int a1), some (.int a2), some (.int x1), some (.int v9), some (.int v3), none] [] (j11 v9 h10)) ?_ (fun j11 kj11 => ?_)
      · intro v9 h10
        refine gf_iinc C dX7_nextOnes_71 rfl (ii_1 _) [some (.ref t), some (.int a1), some (.int a2), some (.int x1), some (.int v9), some (.int (v3 + (1 : Int32))), none] rfl rfl ?_
        refine gf_goto C 12 dX7_nextOnes_74 (by decide) ?_
        exact gf_sub [some (.ref t), some (.int a1), some (.int a2), some (.int x1), some (.int v9), some (.int (v3 + (1 : Int32))), none] (And.intro rfl (And.intro rfl (And.intro rfl (And.intro rfl (And.intro rfl (And.intro rfl trivial)))))) (kc5 v9 (v3 + (1 : Int32)) h10)
      refine gf_ifeq C 71 dX7_nextOnes_42 (by decide) (fun _ => ?_) (fun _ => ?_)
      · exact gf_sub [some (.ref t), some (.int a1), some (.int a2), some (.int x1), some (.int v2), some (.int v3), none] (And.intro rfl (And.intro rfl (And.intro rfl (And.intro rfl (And.intro rfl (And.intro rfl trivial)))))) (kj11 v2 h7)
      · refine gf_aload_n C dX7_nextOnes_45 rfl rfl (gf_getR C dX7_nextOnes_46 fl_X7_22 ht rfl (t + 4) (lr_7_5 ht) (gf_iload C dX7_nextOnes_49 rfl (gf_iald C dX7_nextOnes_51 (lq_7_5 ht) (gf_iload_n C dX7_nextOnes_52 rfl rfl (gf_iand C dX7_nextOnes_53 ?_)))))
        refine gf_ifeq C 71 dX7_nextOnes_54 (by decide) (fun _ => ?_) (fun _ => ?_)
        · exact gf_sub [some (.ref t), some (.int a1), some (.int a2), some (.int x1), some (.int v2), some (.int v3), none] (And.intro rfl (And.intro rfl (And.intro rfl (And.intro rfl (And.intro rfl (And.intro rfl trivial)))))) (kj11 v2 h7)
        · refine gf_iload C dX7_nextOnes_57 rfl (gf_aload_n C dX7_nextOnes_59 rfl rfl (gf_getR C dX7_nextOnes_60 fl_X7_25 ht rfl (t + 5) (lr_7_6 ht) (gf_iload C dX7_nextOnes_63 rfl (gf_iald C dX7_nextOnes_65 (lq_7_6 ht) (gf_iconst C dX7_nextOnes_66 ki_m1 (gf_ixor C dX7_nextOnes_67 (gf_iand C dX7_nextOnes_68 ?_)))))))
          refine gf_jlI (fun x12 => ?_)
          refine gf_istore C dX7_nextOnes_69 [some (.ref t), some (.int a1), some (.int a2), some (.int x1), some (.int x12), some (.int v3), some (.int s6)] rfl rfl (Nat.le_of_ble_eq_true rfl) ?_
          exact gf_sub [some (.ref t), some (.int a1), some (.int a2), some (.int x1), some (.int x12), some (.int v3), none] (And.intro rfl (And.intro rfl (And.intro rfl (And.intro rfl (And.intro rfl (And.intro rfl trivial)))))) (kj11 x12 h7)
    refine gf_ifeq C 37 dX7_nextOnes_30 (by decide) (fun _ => ?_) (fun _ => ?_)
    · refine gf_iconst C dX7_nextOnes_37 ki_0 ?_
      exact gf_sub [some (.ref t), some (.int a1), some (.int a2), some (.int x1), some (.int v2), some (.int v3), none] (And.intro rfl (And.intro rfl (And.intro rfl (And.intro rfl (And.intro rfl (And.intro rfl trivial)))))) (kj8 (0 : Int32) h4)
    · refine gf_iconst C dX7_nextOnes_33 ki_1 ?_
      refine gf_goto C 38 dX7_nextOnes_34 (by decide) ?_
      exact gf_sub [some (.ref t), some (.int a1), some (.int a2), some (.int x1), some (.int v2), some (.int v3), none] (And.intro rfl (And.intro rfl (And.intro rfl (And.intro rfl (And.intro rfl (And.intro rfl trivial)))))) (kj8 (1 : Int32) h4)
  · refine gf_iconst C dX7_nextOnes_77 ki_0 (gf_istore C dX7_nextOnes_78 [some (.ref t), some (.int a1), some (.int a2), some (.int x1), some (.int v2), some (.int (0 : Int32)), none] rfl rfl (Nat.le_of_ble_eq_true rfl) ?_)
    refine gf_sub [some (.ref t), none, none, some (.int x1), some (.int v2), some (.int (0 : Int32)), none] (And.intro rfl (And.intro rfl (And.intro rfl (And.intro rfl trivial)))) ?_
    refine lp_P (fun (c16 : Int32 → Int32 → Hp → Option (Int32 × Hp)) => ∀ (v13 : Int32) (v14 : Int32) (h15 : Hp), GF K eI h15 80 [some (.ref t), none, none, some (.int x1), some (.int v13), some (.int v14), none] [] (c16 v13 v14 h15)) (fun _ _ _ => gf_none) (fun c16 kc16 v13 v14 h15 => ?_) v2 (0 : Int32) h4
    refine gf_iload C dX7_nextOnes_80 rfl (gf_aload_n C dX7_nextOnes_82 rfl rfl (gf_getI C dX7_nextOnes_83 fl_X7_43 ht rfl (64 * t + 1) rfl ?_))
    refine gf_jn (fun (j18 : Hp → Option (Int32 × Hp)) => ∀ (h17 : Hp), GF K eI h17 125 [none, none, none, none, some (.int v13), none, none] [] (j18 h17)) ?_ (fun j18 kj18 => ?_)
    · intro h17
      refine gf_iload C dX7_nextOnes_125 rfl ?_
      exact gf_iret C dX7_nextOnes_127 rfl
    refine gf_icmpge C 125 dX7_nextOnes_86 (by decide) (fun _ => ?_) (fun _ => ?_)
    · refine gf_iload C dX7_nextOnes_89 rfl (gf_bipush C dX7_nextOnes_91 kb_7 ?_)
      refine gf_icmpge C 125 dX7_nextOnes_93 (by decide) (fun _ => ?_) (fun _ => ?_)
      · refine gf_aload_n C dX7_nextOnes_96 rfl rfl (gf_getR C dX7_nextOnes_97 fl_X7_15 ht rfl (t + 2) (lr_7_3 ht) (gf_iload C dX7_nextOnes_100 rfl (gf_iald C dX7_nextOnes_102 (lq_7_3 ht) (gf_iload_n C dX7_nextOnes_103 rfl rfl (gf_iand C dX7_nextOnes_104 ?_)))))
        refine gf_jn (fun (j21 : Int32 → Hp → Option (Int32 × Hp)) => ∀ (v19 : Int32) (h20 : Hp), GF K eI h20 119 [some (.ref t), none, none, some (.int x1), some (.int v19), some (.int v14), none] [] (j21 v19 h20)) ?_ (fun j21 kj21 => ?_)
        · intro v19 h20
          refine gf_iinc C dX7_nextOnes_119 rfl (ii_1 _) [some (.ref t), none, none, some (.int x1), some (.int v19), some (.int (v14 + (1 : Int32))), none] rfl rfl ?_
          refine gf_goto C 80 dX7_nextOnes_122 (by decide) ?_
          exact gf_sub [some (.ref t), none, none, some (.int x1), some (.int v19), some (.int (v14 + (1 : Int32))), none] (And.intro rfl (And.intro rfl (And.intro rfl (And.intro rfl trivial)))) (kc16 v19 (v14 + (1 : Int32)) h20)
        refine gf_ifeq C 119 dX7_nextOnes_105 (by decide) (fun _ => ?_) (fun _ => ?_)
        · exact gf_sub [some (.ref t), none, none, some (.int x1), some (.int v13), some (.int v14), none] (And.intro rfl (And.intro rfl (And.intro rfl (And.intro rfl trivial)))) (kj21 v13 h15)
        · refine gf_iload C dX7_nextOnes_108 rfl (gf_iconst C dX7_nextOnes_110 ki_1 (gf_iload C dX7_nextOnes_111 rfl (gf_ishl C dX7_nextOnes_113 (gf_iconst C dX7_nextOnes_114 ki_m1 (gf_ixor C dX7_nextOnes_115 (gf_iand C dX7_nextOnes_116 ?_))))))
          refine gf_jlI (fun x22 => ?_)
          refine gf_istore C dX7_nextOnes_117 [some (.ref t), none, none, some (.int x1), some (.int x22), some (.int v14), none] rfl rfl (Nat.le_of_ble_eq_true rfl) ?_
          exact gf_sub [some (.ref t), none, none, some (.int x1), some (.int x22), some (.int v14), none] (And.intro rfl (And.intro rfl (And.intro rfl (And.intro rfl trivial)))) (kj21 x22 h15)
      · exact gf_sub [none, none, none, none, some (.int v13), none, none] (And.intro rfl trivial) (kj18 h15)
    · exact gf_sub [none, none, none, none, some (.int v13), none, none] (And.intro rfl trivial) (kj18 h15)
def F_X11_hasBit (a1 : Int32) (a2 : Int32) (h : Hp) : Option (Int32 × Hp) :=
  jn (fun (s1 : Int32) (h2 : Hp) =>
  gd (isB s1) ( some (s1, h2))) (fun j3 => if ((a1 >>> (a2 &&& 31)) &&& (1 : Int32)) = 0 then (
  j3 (0 : Int32) h) else (
  j3 (1 : Int32) h))
set_option maxRecDepth 100000 in
set_option maxHeartbeats 4000000 in
theorem ok_X11_hasBit (a1 : Int32) (a2 : Int32) (h : Hp) (rZ : Int32) (hZ : Hp) (eZ : F_X11_hasBit a1 a2 h = some (rZ, hZ)) : AC yX11_hasBit cX11_hasBit 2 (some .boolean) 0 0 [.int a1, .int a2] h (eI rZ) hZ := by
  refine AC_intro (o := F_X11_hasBit a1 a2 h) RX11 rfl (plainFor_of_name (by decide)) [some (.int a1), some (.int a2)] rfl (fun _ => rfl) (fun _ => Nat.le_of_ble_eq_true rfl) eZ (fun K C => ?_)
  unfold F_X11_hasBit
  refine gf_iload_n C dX11_hasBit_0 rfl rfl (gf_iload_n C dX11_hasBit_1 rfl rfl (gf_ishr C dX11_hasBit_2 (gf_iconst C dX11_hasBit_3 ki_1 (gf_iand C dX11_hasBit_4 ?_))))
  refine gf_jn (fun (j3 : Int32 → Hp → Option (Int32 × Hp)) => ∀ (s1 : Int32) (h2 : Hp), GF K eI h2 13 [none, none] [.int s1] (j3 s1 h2)) ?_ (fun j3 kj3 => ?_)
  · intro s1 h2
    refine gf_gd (fun b4 => ?_)
    exact gf_zret C dX11_hasBit_13 (isB_nar b4) rfl
  refine gf_ifeq C 12 dX11_hasBit_5 (by decide) (fun _ => ?_) (fun _ => ?_)
  · refine gf_iconst C dX11_hasBit_12 ki_0 ?_
    exact gf_sub [none, none] trivial (kj3 (0 : Int32) h)
  · refine gf_iconst C dX11_hasBit_8 ki_1 ?_
    refine gf_goto C 13 dX11_hasBit_9 (by decide) ?_
    exact gf_sub [none, none] trivial (kj3 (1 : Int32) h)
def F_J6_numberOfTrailingZeros_0f7a4 (a1 : Int32) (h : Hp) : Option (Int32 × Hp) :=
  jl ((a1 ^^^ (-1 : Int32)) &&& (a1 - (1 : Int32))) (fun x1 => if 0 < x1 then (
  jn (fun (v2 : Int32) (v3 : Int32) (h4 : Hp) =>
  jn (fun (v6 : Int32) (v7 : Int32) (h8 : Hp) =>
  jn (fun (v10 : Int32) (v11 : Int32) (h12 : Hp) =>
  jn (fun (v14 : Int32) (v15 : Int32) (h16 : Hp) =>
  some (v15 + ((v14.toUInt32 >>> ((1 : Int32).toUInt32 &&& Int32.toUInt32 31)).toInt32), h16)) (fun j17 => if (4 : Int32) < v10 then (
  jl ((v10.toUInt32 >>> ((2 : Int32).toUInt32 &&& Int32.toUInt32 31)).toInt32) (fun x18 => j17 x18 (v11 + (2 : Int32)) h12)) else (
  j17 v10 v11 h12))) (fun j13 => if (16 : Int32) < v6 then (
  jl ((v6.toUInt32 >>> ((4 : Int32).toUInt32 &&& Int32.toUInt32 31)).toInt32) (fun x19 => j13 x19 (v7 + (4 : Int32)) h8)) else (
  j13 v6 v7 h8))) (fun j9 => if (256 : Int32) < v2 then (
  jl ((v2.toUInt32 >>> ((8 : Int32).toUInt32 &&& Int32.toUInt32 31)).toInt32) (fun x20 => j9 x20 (v3 + (8 : Int32)) h4)) else (
  j9 v2 v3 h4))) (fun j5 => if (65536 : Int32) < x1 then (
  jl ((x1.toUInt32 >>> ((16 : Int32).toUInt32 &&& Int32.toUInt32 31)).toInt32) (fun x21 => j5 x21 ((1 : Int32) + (16 : Int32)) h)) else (
  j5 x1 (1 : Int32) h))) else (
  some (x1 &&& (32 : Int32), h)))
set_option maxRecDepth 100000 in
set_option maxHeartbeats 4000000 in
theorem ok_J6_numberOfTrailingZeros_0f7a4 (a1 : Int32) (h : Hp) (rZ : Int32) (hZ : Hp) (eZ : F_J6_numberOfTrailingZeros_0f7a4 a1 h = some (rZ, hZ)) : AC yJ6_numberOfTrailingZeros_0f7a4 cJ6_numberOfTrailingZeros_0f7a4 2 (some .int) 0 0 [.int a1] h (eI rZ) hZ := by
  refine AC_intro (o := F_J6_numberOfTrailingZeros_0f7a4 a1 h) RJ6 rfl (plainFor_of_name (by decide)) [some (.int a1), none] rfl (fun _ => rfl) (fun _ => Nat.le_of_ble_eq_true rfl) eZ (fun K C => ?_)
  unfold F_J6_numberOfTrailingZeros_0f7a4
  refine gf_iload_n C dJ6_numberOfTrailingZeros_0f7a4_0 rfl rfl (gf_iconst C dJ6_numberOfTrailingZeros_0f7a4_1 ki_m1 (gf_ixor C dJ6_numberOfTrailingZeros_0f7a4_2 (gf_iload_n C dJ6_numberOfTrailingZeros_0f7a4_3 rfl rfl (gf_iconst C dJ6_numberOfTrailingZeros_0f7a4_4 ki_1 (gf_isub C dJ6_numberOfTrailingZeros_0f7a4_5 (gf_iand C dJ6_numberOfTrailingZeros_0f7a4_6 ?_))))))
  refine gf_jlI (fun x1 => ?_)
  refine gf_istore_n C dJ6_numberOfTrailingZeros_0f7a4_7 rfl [some (.int x1), none] rfl rfl (Nat.le_of_ble_eq_true rfl) (gf_iload_n C dJ6_numberOfTrailingZeros_0f7a4_8 rfl rfl ?_)
  refine gf_ifgt C 17 dJ6_numberOfTrailingZeros_0f7a4_9 (by decide) (fun _ => ?_) (fun _ => ?_)
  · refine gf_iconst C dJ6_numberOfTrailingZeros_0f7a4_17 ki_1 (gf_istore_n C dJ6_numberOfTrailingZeros_0f7a4_18 rfl [some (.int x1), some (.int (1 : Int32))] rfl rfl (Nat.le_of_ble_eq_true rfl) (gf_iload_n C dJ6_numberOfTrailingZeros_0f7a4_19 rfl rfl (gf_ldc_w C dJ6_numberOfTrailingZeros_0f7a4_20 cw_J6_264 ?_)))
    refine gf_jn (fun (j5 : Int32 → Int32 → Hp → Option (Int32 × Hp)) => ∀ (v2 : Int32) (v3 : Int32) (h4 : Hp), GF K eI h4 34 [some (.int v2), some (.int v3)] [] (j5 v2 v3 h4)) ?_ (fun j5 kj5 => ?_)
    · intro v2 v3 h4
      refine gf_iload_n C dJ6_numberOfTrailingZeros_0f7a4_34 rfl rfl (gf_sipush C dJ6_numberOfTrailingZeros_0f7a4_35 ks_256 ?_)
      refine gf_jn (fun (j9 : Int32 → Int32 → Hp → Option (Int32 × Hp)) => ∀ (v6 : Int32) (v7 : Int32) (h8 : Hp), GF K eI h8 49 [some (.int v6), some (.int v7)] [] (j9 v6 v7 h8)) ?_ (fun j9 kj9 => ?_)
      · intro v6 v7 h8
        refine gf_iload_n C dJ6_numberOfTrailingZeros_0f7a4_49 rfl rfl (gf_bipush C dJ6_numberOfTrailingZeros_0f7a4_50 kb_16 ?_)
        refine gf_jn (fun (j13 : Int32 → Int32 → Hp → Option (Int32 × Hp)) => ∀ (v10 : Int32) (v11 : Int32) (h12 : Hp), GF K eI h12 62 [some (.int v10), some (.int v11)] [] (j13 v10 v11 h12)) ?_ (fun j13 kj13 => ?_)
        · intro v10 v11 h12
          refine gf_iload_n C dJ6_numberOfTrailingZeros_0f7a4_62 rfl rfl (gf_iconst C dJ6_numberOfTrailingZeros_0f7a4_63 ki_4 ?_)
          refine gf_jn (fun (j17 : Int32 → Int32 → Hp → Option (Int32 × Hp)) => ∀ (v14 : Int32) (v15 : Int32) (h16 : Hp), GF K eI h16 74 [some (.int v14), some (.int v15)] [] (j17 v14 v15 h16)) ?_ (fun j17 kj17 => ?_)
          · intro v14 v15 h16
            refine gf_iload_n C dJ6_numberOfTrailingZeros_0f7a4_74 rfl rfl (gf_iload_n C dJ6_numberOfTrailingZeros_0f7a4_75 rfl rfl (gf_iconst C dJ6_numberOfTrailingZeros_0f7a4_76 ki_1 (gf_iushr C dJ6_numberOfTrailingZeros_0f7a4_77 (gf_iadd C dJ6_numberOfTrailingZeros_0f7a4_78 ?_))))
            exact gf_iret C dJ6_numberOfTrailingZeros_0f7a4_79 rfl
          refine gf_icmple C 74 dJ6_numberOfTrailingZeros_0f7a4_64 (by decide) (fun _ => ?_) (fun _ => ?_)
          · refine gf_iinc C dJ6_numberOfTrailingZeros_0f7a4_67 rfl (ii_2 _) [some (.int v10), some (.int (v11 + (2 : Int32)))] rfl rfl (gf_iload_n C dJ6_numberOfTrailingZeros_0f7a4_70 rfl rfl (gf_iconst C dJ6_numberOfTrailingZeros_0f7a4_71 ki_2 (gf_iushr C dJ6_numberOfTrailingZeros_0f7a4_72 ?_)))
            refine gf_jlI (fun x18 => ?_)
            refine gf_istore_n C dJ6_numberOfTrailingZeros_0f7a4_73 rfl [some (.int x18), some (.int (v11 + (2 : Int32)))] rfl rfl (Nat.le_of_ble_eq_true rfl) ?_
            exact gf_sub [some (.int x18), some (.int (v11 + (2 : Int32)))] (And.intro rfl (And.intro rfl trivial)) (kj17 x18 (v11 + (2 : Int32)) h12)
          · exact gf_sub [some (.int v10), some (.int v11)] (And.intro rfl (And.intro rfl trivial)) (kj17 v10 v11 h12)
        refine gf_icmple C 62 dJ6_numberOfTrailingZeros_0f7a4_52 (by decide) (fun _ => ?_) (fun _ => ?_)
        · refine gf_iinc C dJ6_numberOfTrailingZeros_0f7a4_55 rfl (ii_4 _) [some (.int v6), some (.int (v7 + (4 : Int32)))] rfl rfl (gf_iload_n C dJ6_numberOfTrailingZeros_0f7a4_58 rfl rfl (gf_iconst C dJ6_numberOfTrailingZeros_0f7a4_59 ki_4 (gf_iushr C dJ6_numberOfTrailingZeros_0f7a4_60 ?_)))
          refine gf_jlI (fun x19 => ?_)
          refine gf_istore_n C dJ6_numberOfTrailingZeros_0f7a4_61 rfl [some (.int x19), some (.int (v7 + (4 : Int32)))] rfl rfl (Nat.le_of_ble_eq_true rfl) ?_
          exact gf_sub [some (.int x19), some (.int (v7 + (4 : Int32)))] (And.intro rfl (And.intro rfl trivial)) (kj13 x19 (v7 + (4 : Int32)) h8)
        · exact gf_sub [some (.int v6), some (.int v7)] (And.intro rfl (And.intro rfl trivial)) (kj13 v6 v7 h8)
      refine gf_icmple C 49 dJ6_numberOfTrailingZeros_0f7a4_38 (by decide) (fun _ => ?_) (fun _ => ?_)
      · refine gf_iinc C dJ6_numberOfTrailingZeros_0f7a4_41 rfl (ii_8 _) [some (.int v2), some (.int (v3 + (8 : Int32)))] rfl rfl (gf_iload_n C dJ6_numberOfTrailingZeros_0f7a4_44 rfl rfl (gf_bipush C dJ6_numberOfTrailingZeros_0f7a4_45 kb_8 (gf_iushr C dJ6_numberOfTrailingZeros_0f7a4_47 ?_)))
        refine gf_jlI (fun x20 => ?_)
        refine gf_istore_n C dJ6_numberOfTrailingZeros_0f7a4_48 rfl [some (.int x20), some (.int (v3 + (8 : Int32)))] rfl rfl (Nat.le_of_ble_eq_true rfl) ?_
        exact gf_sub [some (.int x20), some (.int (v3 + (8 : Int32)))] (And.intro rfl (And.intro rfl trivial)) (kj9 x20 (v3 + (8 : Int32)) h4)
      · exact gf_sub [some (.int v2), some (.int v3)] (And.intro rfl (And.intro rfl trivial)) (kj9 v2 v3 h4)
    refine gf_icmple C 34 dJ6_numberOfTrailingZeros_0f7a4_23 (by decide) (fun _ => ?_) (fun _ => ?_)
    · refine gf_iinc C dJ6_numberOfTrailingZeros_0f7a4_26 rfl (ii_16 _) [some (.int x1), some (.int ((1 : Int32) + (16 : Int32)))] rfl rfl (gf_iload_n C dJ6_numberOfTrailingZeros_0f7a4_29 rfl rfl (gf_bipush C dJ6_numberOfTrailingZeros_0f7a4_30 kb_16 (gf_iushr C dJ6_numberOfTrailingZeros_0f7a4_32 ?_)))
      refine gf_jlI (fun x21 => ?_)
      refine gf_istore_n C dJ6_numberOfTrailingZeros_0f7a4_33 rfl [some (.int x21), some (.int ((1 : Int32) + (16 : Int32)))] rfl rfl (Nat.le_of_ble_eq_true rfl) ?_
      exact gf_sub [some (.int x21), some (.int ((1 : Int32) + (16 : Int32)))] (And.intro rfl (And.intro rfl trivial)) (kj5 x21 ((1 : Int32) + (16 : Int32)) h)
    · exact gf_sub [some (.int x1), some (.int (1 : Int32))] (And.intro rfl (And.intro rfl trivial)) (kj5 x1 (1 : Int32) h)
  · refine gf_iload_n C dJ6_numberOfTrailingZeros_0f7a4_12 rfl rfl (gf_bipush C dJ6_numberOfTrailingZeros_0f7a4_13 kb_32 (gf_iand C dJ6_numberOfTrailingZeros_0f7a4_15 ?_))
    exact gf_iret C dJ6_numberOfTrailingZeros_0f7a4_16 rfl
def F_J13_numberOfTrailingZeros_95d88 (a1 : Int64) (h : Hp) : Option (Int32 × Hp) :=
  jl a1.toInt32 (fun x1 => jn (fun (s2 : Int32) (h3 : Hp) =>
  some (s2, h3)) (fun j4 => if x1 = 0 then (
  bd (F_J6_numberOfTrailingZeros_0f7a4 (((a1.toUInt64 >>> ((32 : Int32).toInt64.toUInt64 &&& Int64.toUInt64 63)).toInt64).toInt32) h) (fun r5 h6 => j4 ((32 : Int32) + r5) h6)) else (
  bd (F_J6_numberOfTrailingZeros_0f7a4 x1 h) (fun r7 h8 => j4 r7 h8))))
set_option maxRecDepth 100000 in
set_option maxHeartbeats 4000000 in
theorem ok_J13_numberOfTrailingZeros_95d88 (a1 : Int64) (h : Hp) (rZ : Int32) (hZ : Hp) (eZ : F_J13_numberOfTrailingZeros_95d88 a1 h = some (rZ, hZ)) : AC yJ13_numberOfTrailingZeros_95d88 cJ13_numberOfTrailingZeros_95d88 3 (some .int) 1 21 [.long a1] h (eI rZ) hZ := by
  refine AC_intro (o := F_J13_numberOfTrailingZeros_95d88 a1 h) RJ13 rfl (plainFor_of_name (by decide)) [some (.long a1), none, none] rfl (fun _ => rfl) (fun _ => Nat.le_of_ble_eq_true rfl) eZ (fun K C => ?_)
  unfold F_J13_numberOfTrailingZeros_95d88
  refine gf_lload_n C dJ13_numberOfTrailingZeros_95d88_0 rfl rfl (gf_l2i C dJ13_numberOfTrailingZeros_95d88_1 ?_)
  refine gf_jlI (fun x1 => ?_)
  refine gf_istore_n C dJ13_numberOfTrailingZeros_95d88_2 rfl [some (.long a1), none, some (.int x1)] rfl rfl (Nat.le_of_ble_eq_true rfl) (gf_iload_n C dJ13_numberOfTrailingZeros_95d88_3 rfl rfl ?_)
  refine gf_jn (fun (j4 : Int32 → Hp → Option (Int32 × Hp)) => ∀ (s2 : Int32) (h3 : Hp), GF K eI h3 25 [none, none, none] [.int s2] (j4 s2 h3)) ?_ (fun j4 kj4 => ?_)
  · intro s2 h3
    exact gf_iret C dJ13_numberOfTrailingZeros_95d88_25 rfl
  refine gf_ifne C 21 dJ13_numberOfTrailingZeros_95d88_4 (by decide) (fun _ => ?_) (fun _ => ?_)
  · refine gf_bipush C dJ13_numberOfTrailingZeros_95d88_7 kb_32 (gf_lload_n C dJ13_numberOfTrailingZeros_95d88_9 rfl rfl (gf_bipush C dJ13_numberOfTrailingZeros_95d88_10 kb_32 (gf_lushr C dJ13_numberOfTrailingZeros_95d88_12 (gf_l2i C dJ13_numberOfTrailingZeros_95d88_13 ?_))))
    refine gf_callS (ε2 := eI) C [.int (((a1.toUInt64 >>> ((32 : Int32).toInt64.toUInt64 &&& Int64.toUInt64 63)).toInt64).toInt32)] dJ13_numberOfTrailingZeros_95d88_14 mw_J6_numberOfTrailingZeros_0f7a4 ml_J13_311 (fun rZ hZ eZ => ok_J6_numberOfTrailingZeros_0f7a4 (((a1.toUInt64 >>> ((32 : Int32).toInt64.toUInt64 &&& Int64.toUInt64 63)).toInt64).toInt32) h rZ hZ eZ) rfl rfl rfl (Nat.le_of_ble_eq_true rfl) (Nat.le_of_ble_eq_true rfl) (Nat.le_of_ble_eq_true rfl) (fun r5 h6 => ?_)
    refine gf_iadd C dJ13_numberOfTrailingZeros_95d88_17 ?_
    refine gf_goto C 25 dJ13_numberOfTrailingZeros_95d88_18 (by decide) ?_
    exact gf_sub [none, none, none] trivial (kj4 ((32 : Int32) + r5) h6)
  · refine gf_iload_n C dJ13_numberOfTrailingZeros_95d88_21 rfl rfl ?_
    refine gf_callS (ε2 := eI) C [.int x1] dJ13_numberOfTrailingZeros_95d88_22 mw_J6_numberOfTrailingZeros_0f7a4 ml_J13_311 (fun rZ hZ eZ => ok_J6_numberOfTrailingZeros_0f7a4 x1 h rZ hZ eZ) rfl rfl rfl (Nat.le_of_ble_eq_true rfl) (Nat.le_of_ble_eq_true rfl) (Nat.le_of_ble_eq_true rfl) (fun r7 h8 => ?_)
    exact gf_sub [none, none, none] trivial (kj4 r7 h8)
def F_X7_freeBehind (t : Nat) (a1 : Int32) (a2 : Int32) (h : Hp) : Option (Int32 × Hp) :=
  jn (fun (h1 : Hp) =>
  some ((-1 : Int32), h1)) (fun j2 => if a1 < 0 then (
  j2 h) else (
  if a1 < (7 : Int32) then (
  if a2 < 0 then (
  j2 h) else (
  if a2 < (48 : Int32) then (
  gd (inb a1 7) ( jl (((lG h (t + 1) a1.toNatClampNeg).toUInt64 >>> (a2.toInt64.toUInt64 &&& Int64.toUInt64 63)).toInt64) (fun x3 => jn (fun (s4 : Int32) (h5 : Hp) =>
  some (s4, h5)) (fun j6 => if (lg_cmp x3 (0 : Int64)) = 0 then (
  j6 (-1 : Int32) h) else (
  bd (F_J13_numberOfTrailingZeros_95d88 x3 h) (fun r7 h8 => j6 ((a2 + r7) + (1 : Int32)) h8)))))) else (
  j2 h))) else (
  j2 h)))
set_option maxRecDepth 100000 in
set_option maxHeartbeats 4000000 in
theorem ok_X7_freeBehind (t : Nat) (a1 : Int32) (a2 : Int32) (ht : shp t = (0, 7)) (h : Hp) (rZ : Int32) (hZ : Hp) (eZ : F_X7_freeBehind t a1 a2 h = some (rZ, hZ)) : AC yX7_freeBehind cX7_freeBehind 5 (some .int) 2 43 [.ref t, .int a1, .int a2] h (eI rZ) hZ := by
  refine AC_intro (o := F_X7_freeBehind t a1 a2 h) RX7 rfl (plainFor_of_name (by decide)) [some (.ref t), some (.int a1), some (.int a2), none, none] rfl (fun _ => rfl) (fun _ => Nat.le_of_ble_eq_true rfl) eZ (fun K C => ?_)
  unfold F_X7_freeBehind
  refine gf_iload_n C dX7_freeBehind_0 rfl rfl ?_
  refine gf_jn (fun (j2 : Hp → Option (Int32 × Hp)) => ∀ (h1 : Hp), GF K eI h1 20 [none, none, none, none, none] [] (j2 h1)) ?_ (fun j2 kj2 => ?_)
  · intro h1
    refine gf_iconst C dX7_freeBehind_20 ki_m1 ?_
    exact gf_iret C dX7_freeBehind_21 rfl
  refine gf_iflt C 20 dX7_freeBehind_1 (by decide) (fun _ => ?_) (fun _ => ?_)
  · exact gf_sub [none, none, none, none, none] trivial (kj2 h)
  · refine gf_iload_n C dX7_freeBehind_4 rfl rfl (gf_bipush C dX7_freeBehind_5 kb_7 ?_)
    refine gf_icmpge C 20 dX7_freeBehind_7 (by decide) (fun _ => ?_) (fun _ => ?_)
    · refine gf_iload_n C dX7_freeBehind_10 rfl rfl ?_
      refine gf_iflt C 20 dX7_freeBehind_11 (by decide) (fun _ => ?_) (fun _ => ?_)
      · exact gf_sub [none, none, none, none, none] trivial (kj2 h)
      · refine gf_iload_n C dX7_freeBehind_14 rfl rfl (gf_bipush C dX7_freeBehind_15 kb_48 ?_)
        refine gf_icmplt C 22 dX7_freeBehind_17 (by decide) (fun _ => ?_) (fun _ => ?_)
        · refine gf_aload_n C dX7_freeBehind_22 rfl rfl (gf_getR C dX7_freeBehind_23 fl_X7_9 ht rfl (t + 1) (lr_7_2 ht) (gf_iload_n C dX7_freeBehind_26 rfl rfl (gf_lald C dX7_freeBehind_27 (lq_7_2 ht) (gf_iload_n C dX7_freeBehind_28 rfl rfl (gf_lushr C dX7_freeBehind_29 ?_)))))
          refine gf_jlL (fun x3 => ?_)
          refine gf_lstore_n C dX7_freeBehind_30 rfl [some (.ref t), some (.int a1), some (.int a2), some (.long x3), none] rfl rfl (Nat.le_of_ble_eq_true rfl) (gf_lload_n C dX7_freeBehind_31 rfl rfl (gf_lconst C dX7_freeBehind_32 kl_0 (gf_lcmp C dX7_freeBehind_33 ?_)))
          refine gf_jn (fun (j6 : Int32 → Hp → Option (Int32 × Hp)) => ∀ (s4 : Int32) (h5 : Hp), GF K eI h5 49 [none, none, none, none, none] [.int s4] (j6 s4 h5)) ?_ (fun j6 kj6 => ?_)
          · intro s4 h5
            exact gf_iret C dX7_freeBehind_49 rfl
          refine gf_ifne C 41 dX7_freeBehind_34 (by decide) (fun _ => ?_) (fun _ => ?_)
          · refine gf_iconst C dX7_freeBehind_37 ki_m1 ?_
            refine gf_goto C 49 dX7_freeBehind_38 (by decide) ?_
            exact gf_sub [none, none, none, none, none] trivial (kj6 (-1 : Int32) h)
          · refine gf_iload_n C dX7_freeBehind_41 rfl rfl (gf_lload_n C dX7_freeBehind_42 rfl rfl ?_)
            refine gf_callS (ε2 := eI) C [.long x3] dX7_freeBehind_43 mw_J13_numberOfTrailingZeros_95d88 ml_X7_137 (fun rZ hZ eZ => ok_J13_numberOfTrailingZeros_95d88 x3 h rZ hZ eZ) rfl rfl rfl (Nat.le_of_ble_eq_true rfl) (Nat.le_of_ble_eq_true rfl) (Nat.le_of_ble_eq_true rfl) (fun r7 h8 => ?_)
            refine gf_iadd C dX7_freeBehind_46 (gf_iconst C dX7_freeBehind_47 ki_1 (gf_iadd C dX7_freeBehind_48 ?_))
            exact gf_sub [none, none, none, none, none] trivial (kj6 ((a2 + r7) + (1 : Int32)) h8)
        · exact gf_sub [none, none, none, none, none] trivial (kj2 h)
    · exact gf_sub [none, none, none, none, none] trivial (kj2 h)
def F_J9_min_7cf53 (a1 : Int32) (a2 : Int32) (h : Hp) : Option (Int32 × Hp) :=
  jn (fun (s1 : Int32) (h2 : Hp) =>
  some (s1, h2)) (fun j3 => if a2 < a1 then (
  j3 a2 h) else (
  j3 a1 h))
set_option maxRecDepth 100000 in
set_option maxHeartbeats 4000000 in
theorem ok_J9_min_7cf53 (a1 : Int32) (a2 : Int32) (h : Hp) (rZ : Int32) (hZ : Hp) (eZ : F_J9_min_7cf53 a1 a2 h = some (rZ, hZ)) : AC yJ9_min_7cf53 cJ9_min_7cf53 2 (some .int) 0 0 [.int a1, .int a2] h (eI rZ) hZ := by
  refine AC_intro (o := F_J9_min_7cf53 a1 a2 h) RJ9 rfl (by decide +kernel) [some (.int a1), some (.int a2)] rfl (fun _ => rfl) (fun _ => Nat.le_of_ble_eq_true rfl) eZ (fun K C => ?_)
  unfold F_J9_min_7cf53
  refine gf_iload_n C dJ9_min_7cf53_0 rfl rfl (gf_iload_n C dJ9_min_7cf53_1 rfl rfl ?_)
  refine gf_jn (fun (j3 : Int32 → Hp → Option (Int32 × Hp)) => ∀ (s1 : Int32) (h2 : Hp), GF K eI h2 10 [none, none] [.int s1] (j3 s1 h2)) ?_ (fun j3 kj3 => ?_)
  · intro s1 h2
    exact gf_iret C dJ9_min_7cf53_10 rfl
  refine gf_icmpgt C 9 dJ9_min_7cf53_2 (by decide) (fun _ => ?_) (fun _ => ?_)
  · refine gf_iload_n C dJ9_min_7cf53_9 rfl rfl ?_
    exact gf_sub [none, none] trivial (kj3 a2 h)
  · refine gf_iload_n C dJ9_min_7cf53_5 rfl rfl ?_
    refine gf_goto C 10 dJ9_min_7cf53_6 (by decide) ?_
    exact gf_sub [none, none] trivial (kj3 a1 h)
def F_X3_canBe (t : Nat) (a1 : Nat) (a2 : Int32) (h : Hp) : Option (Int32 × Hp) :=
  jn (fun (h1 : Hp) =>
  some ((0 : Int32), h1)) (fun j2 => if a2 < 0 then (
  j2 h) else (
  if a2 < (128 : Int32) then (
  bd (F_J7_fill_53178 (t + 1) 128 (49 : Int32) h) (fun _ h3 => gd (inb (0 : Int32) 128) ( jl (aS h3 (t + 1) (0 : Int32).toNatClampNeg (0 : Int32)) (fun h4 => (lp 4000000000 (fun (c7 : Int32 → Hp → Option (Int32 × Hp)) (v5 : Int32) (h6 : Hp) =>
  if v5 < a2 then (
  jn (fun (h8 : Hp) =>
  c7 (v5 + (1 : Int32)) h8) (fun j9 => if (v5 &&& (a2 ^^^ (-1 : Int32))) = 0 then (
  gd (inb v5 128) ( if (aG h6 (t + 1) v5.toNatClampNeg) = (49 : Int32) then (
  j9 h6) else (
  bd (F_X7_nextOnes a1 v5 a2 h6) (fun r10 h11 => (lp 4000000000 (fun (c14 : Int32 → Hp → Option (Int32 × Hp)) (v12 : Int32) (h13 : Hp) =>
  if v12 < (7 : Int32) then (
  bd (F_X11_hasBit r10 v12 h13) (fun r15 h16 => jn (fun (h17 : Hp) =>
  c14 (v12 + (1 : Int32)) h17) (fun j18 => if r15 = 0 then (
  j18 h16) else (
  gd (inb v5 128) ( bd (F_X7_freeBehind a1 v12 (aG h16 (t + 1) v5.toNatClampNeg) h16) (fun r19 h20 => jl (v5 ||| ((1 : Int32) <<< (v12 &&& 31))) (fun x21 => if r19 = (-1 : Int32) then (
  j18 h20) else (
  if x21 < (128 : Int32) then (
  gd (inb x21 128) ( bd (F_J9_min_7cf53 (aG h20 (t + 1) x21.toNatClampNeg) r19 h20) (fun r22 h23 => gd (inb x21 128) ( jl (aS h23 (t + 1) x21.toNatClampNeg r22) (fun h24 => j18 h24))))) else (
  j18 h20))))))))) else (
  j9 h13)) (fun _ _ => none)) (0 : Int32) h11)))) else (
  j9 h6))) else (
  gd (inb a2 128) ( jn (fun (s25 : Int32) (h26 : Hp) =>
  gd (isB s25) ( some (s25, h26))) (fun j27 => if (aG h6 (t + 1) a2.toNatClampNeg) = (49 : Int32) then (
  j27 (0 : Int32) h6) else (
  j27 (1 : Int32) h6))))) (fun _ _ => none)) (0 : Int32) h4)))) else (
  j2 h)))
set_option maxRecDepth 100000 in
set_option maxHeartbeats 4000000 in
theorem ok_X3_canBe (t : Nat) (a1 : Nat) (a2 : Int32) (ht : shp t = (0, 3)) (ha1 : shp a1 = (0, 7)) (h : Hp) (rZ : Int32) (hZ : Hp) (eZ : F_X3_canBe t a1 a2 h = some (rZ, hZ)) : AC yX3_canBe cX3_canBe 8 (some .boolean) 3 67 [.ref t, .ref a1, .int a2] h (eI rZ) hZ := by
  refine AC_intro (o := F_X3_canBe t a1 a2 h) RX3 rfl (plainFor_of_name (by decide)) [some (.ref t), some (.ref a1), some (.int a2), none, none, none, none, none] rfl (fun _ => rfl) (fun _ => Nat.le_of_ble_eq_true rfl) eZ (fun K C => ?_)
  unfold F_X3_canBe
  refine gf_iload_n C dX3_canBe_0 rfl rfl ?_
  refine gf_jn (fun (j2 : Hp → Option (Int32 × Hp)) => ∀ (h1 : Hp), GF K eI h1 11 [none, none, none, none, none, none, none, none] [] (j2 h1)) ?_ (fun j2 kj2 => ?_)
  · intro h1
    refine gf_iconst C dX3_canBe_11 ki_0 ?_
    exact gf_zret C dX3_canBe_12 rfl rfl
  refine gf_iflt C 11 dX3_canBe_1 (by decide) (fun _ => ?_) (fun _ => ?_)
  · exact gf_sub [none, none, none, none, none, none, none, none] trivial (kj2 h)
  · refine gf_iload_n C dX3_canBe_4 rfl rfl (gf_sipush C dX3_canBe_5 ks_128 ?_)
    refine gf_icmplt C 13 dX3_canBe_8 (by decide) (fun _ => ?_) (fun _ => ?_)
    · refine gf_aload_n C dX3_canBe_13 rfl rfl (gf_getR C dX3_canBe_14 fl_X3_9 ht rfl (t + 1) (lr_3_1 ht) (gf_bipush C dX3_canBe_17 kb_49 ?_))
      refine gf_callS (ε2 := eV) C [.ref (t + 1), .int (49 : Int32)] dX3_canBe_19 mw_J7_fill_53178 ml_X3_25 (fun rZ hZ eZ => ok_J7_fill_53178 (t + 1) 128 (49 : Int32) (lq_3_1 ht) h rZ hZ eZ) rfl rfl rfl (Nat.le_of_ble_eq_true rfl) (Nat.le_of_ble_eq_true rfl) (Nat.le_of_ble_eq_true rfl) (fun _ h3 => ?_)
      refine gf_aload_n C dX3_canBe_22 rfl rfl (gf_getR C dX3_canBe_23 fl_X3_9 ht rfl (t + 1) (lr_3_1 ht) (gf_iconst C dX3_canBe_26 ki_0 (gf_iconst C dX3_canBe_27 ki_0 (gf_iast C dX3_canBe_28 (lq_3_1 ht) ?_))))
      refine gf_jlH (fun h4 => ?_)
      refine gf_iconst C dX3_canBe_29 ki_0 (gf_istore_n C dX3_canBe_30 rfl [some (.ref t), some (.ref a1), some (.int a2), some (.int (0 : Int32)), none, none, none, none] rfl rfl (Nat.le_of_ble_eq_true rfl) ?_)
      refine gf_sub [some (.ref t), some (.ref a1), some (.int a2), some (.int (0 : Int32)), none, none, none, none] (And.intro rfl (And.intro rfl (And.intro rfl (And.intro rfl trivial)))) ?_
      refine lp_P (fun (c7 : Int32 → Hp → Option (Int32 × Hp)) => ∀ (v5 : Int32) (h6 : Hp), GF K eI h6 31 [some (.ref t), some (.ref a1), some (.int a2), some (.int v5), none, none, none, none] [] (c7 v5 h6)) (fun _ _ => gf_none) (fun c7 kc7 v5 h6 => ?_) (0 : Int32) h4
      refine gf_iload_n C dX3_canBe_31 rfl rfl (gf_iload_n C dX3_canBe_32 rfl rfl ?_)
      refine gf_icmpge C 156 dX3_canBe_33 (by decide) (fun _ => ?_) (fun _ => ?_)
      · refine gf_iload_n C dX3_canBe_36 rfl rfl (gf_iload_n C dX3_canBe_37 rfl rfl (gf_iconst C dX3_canBe_38 ki_m1 (gf_ixor C dX3_canBe_39 (gf_iand C dX3_canBe_40 ?_))))
        refine gf_jn (fun (j9 : Hp → Option (Int32 × Hp)) => ∀ (h8 : Hp), GF K eI h8 150 [some (.ref t), some (.ref a1), some (.int a2), some (.int v5), none, none, none, none] [] (j9 h8)) ?_ (fun j9 kj9 => ?_)
        · intro h8
          refine gf_iinc C dX3_canBe_150 rfl (ii_1 _) [some (.ref t), some (.ref a1), some (.int a2), some (.int (v5 + (1 : Int32))), none, none, none, none] rfl rfl ?_
          refine gf_goto C 31 dX3_canBe_153 (by decide) ?_
          exact gf_sub [some (.ref t), some (.ref a1), some (.int a2), some (.int (v5 + (1 : Int32))), none, none, none, none] (And.intro rfl (And.intro rfl (And.intro rfl (And.intro rfl trivial)))) (kc7 (v5 + (1 : Int32)) h8)
        refine gf_ifne C 150 dX3_canBe_41 (by decide) (fun _ => ?_) (fun _ => ?_)
        · refine gf_aload_n C dX3_canBe_44 rfl rfl (gf_getR C dX3_canBe_45 fl_X3_9 ht rfl (t + 1) (lr_3_1 ht) (gf_iload_n C dX3_canBe_48 rfl rfl (gf_iald C dX3_canBe_49 (lq_3_1 ht) (gf_bipush C dX3_canBe_50 kb_49 ?_))))
          refine gf_icmpne C 58 dX3_canBe_52 (by decide) (fun _ => ?_) (fun _ => ?_)
          · refine gf_goto C 150 dX3_canBe_55 (by decide) ?_
            exact gf_sub [some (.ref t), some (.ref a1), some (.int a2), some (.int v5), none, none, none, none] (And.intro rfl (And.intro rfl (And.intro rfl (And.intro rfl trivial)))) (kj9 h6)
          · refine gf_aload_n C dX3_canBe_58 rfl rfl (gf_iload_n C dX3_canBe_59 rfl rfl (gf_iload_n C dX3_canBe_60 rfl rfl ?_))
            refine gf_callV (ε2 := eI) C [.int v5, .int a2] dX3_canBe_61 mw_X7_nextOnes ml_X3_31 ha1 (fun rZ hZ eZ => ok_X7_nextOnes a1 v5 a2 ha1 h6 rZ hZ eZ) rfl rfl rfl (Nat.le_of_ble_eq_true rfl) (Nat.le_of_ble_eq_true rfl) (Nat.le_of_ble_eq_true rfl) (fun r10 h11 => ?_)
            refine gf_istore C dX3_canBe_64 [some (.ref t), some (.ref a1), some (.int a2), some (.int v5), some (.int r10), none, none, none] rfl rfl (Nat.le_of_ble_eq_true rfl) (gf_iconst C dX3_canBe_66 ki_0 (gf_istore C dX3_canBe_67 [some (.ref t), some (.ref a1), some (.int a2), some (.int v5), some (.int r10), some (.int (0 : Int32)), none, none] rfl rfl (Nat.le_of_ble_eq_true rfl) ?_))
            refine gf_sub [some (.ref t), some (.ref a1), some (.int a2), some (.int v5), some (.int r10), some (.int (0 : Int32)), none, none] (And.intro rfl (And.intro rfl (And.intro rfl (And.intro rfl (And.intro rfl (And.intro rfl trivial)))))) ?_
            refine lp_P (fun (c14 : Int32 → Hp → Option (Int32 × Hp)) => ∀ (v12 : Int32) (h13 : Hp), GF K eI h13 69 [some (.ref t), some (.ref a1), some (.int a2), some (.int v5), some (.int r10), some (.int v12), none, none] [] (c14 v12 h13)) (fun _ _ => gf_none) (fun c14 kc14 v12 h13 => ?_) (0 : Int32) h11
            refine gf_iload C dX3_canBe_69 rfl (gf_bipush C dX3_canBe_71 kb_7 ?_)
            refine gf_icmpge C 150 dX3_canBe_73 (by decide) (fun _ => ?_) (fun _ => ?_)
            · refine gf_iload C dX3_canBe_76 rfl (gf_iload C dX3_canBe_78 rfl ?_)
              refine gf_callSN (ε2 := eI) C [.int r10, .int v12] dX3_canBe_80 mw_X11_hasBit ml_X3_37 (fun rZ hZ eZ => ok_X11_hasBit r10 v12 h13 rZ hZ eZ) rfl rfl rfl (Nat.le_of_ble_eq_true rfl) (Nat.le_of_ble_eq_true rfl) (Nat.le_of_ble_eq_true rfl) (fun r15 h16 => ?_)
              refine gf_jn (fun (j18 : Hp → Option (Int32 × Hp)) => ∀ (h17 : Hp), GF K eI h17 144 [some (.ref t), some (.ref a1), some (.int a2), some (.int v5), some (.int r10), some (.int v12), none, none] [] (j18 h17)) ?_ (fun j18 kj18 => ?_)
              · intro h17
                refine gf_iinc C dX3_canBe_144 rfl (ii_1 _) [some (.ref t), some (.ref a1), some (.int a2), some (.int v5), some (.int r10), some (.int (v12 + (1 : Int32))), none, none] rfl rfl ?_
                refine gf_goto C 69 dX3_canBe_147 (by decide) ?_
                exact gf_sub [some (.ref t), some (.ref a1), some (.int a2), some (.int v5), some (.int r10), some (.int (v12 + (1 : Int32))), none, none] (And.intro rfl (And.intro rfl (And.intro rfl (And.intro rfl (And.intro rfl (And.intro rfl trivial)))))) (kc14 (v12 + (1 : Int32)) h17)
              refine gf_ifne C 89 dX3_canBe_83 (by decide) (fun _ => ?_) (fun _ => ?_)
              · refine gf_goto C 144 dX3_canBe_86 (by decide) ?_
                exact gf_sub [some (.ref t), some (.ref a1), some (.int a2), some (.int v5), some (.int r10), some (.int v12), none, none] (And.intro rfl (And.intro rfl (And.intro rfl (And.intro rfl (And.intro rfl (And.intro rfl trivial)))))) (kj18 h16)
              · refine gf_aload_n C dX3_canBe_89 rfl rfl (gf_iload C dX3_canBe_90 rfl (gf_aload_n C dX3_canBe_92 rfl rfl (gf_getR C dX3_canBe_93 fl_X3_9 ht rfl (t + 1) (lr_3_1 ht) (gf_iload_n C dX3_canBe_96 rfl rfl (gf_iald C dX3_canBe_97 (lq_3_1 ht) ?_)))))
                refine gf_callV (ε2 := eI) C [.int v12, .int (aG h16 (t + 1) v5.toNatClampNeg)] dX3_canBe_98 mw_X7_freeBehind ml_X3_41 ha1 (fun rZ hZ eZ => ok_X7_freeBehind a1 v12 (aG h16 (t + 1) v5.toNatClampNeg) ha1 h16 rZ hZ eZ) rfl rfl rfl (Nat.le_of_ble_eq_true rfl) (Nat.le_of_ble_eq_true rfl) (Nat.le_of_ble_eq_true rfl) (fun r19 h20 => ?_)
                refine gf_istore C dX3_canBe_101 [some (.ref t), some (.ref a1), some (.int a2), some (.int v5), some (.int r10), some (.int v12), some (.int r19), none] rfl rfl (Nat.le_of_ble_eq_true rfl) (gf_iload_n C dX3_canBe_103 rfl rfl (gf_iconst C dX3_canBe_104 ki_1 (gf_iload C dX3_canBe_105 rfl (gf_ishl C dX3_canBe_107 (gf_ior C dX3_canBe_108 ?_)))))
                refine gf_jlI (fun x21 => ?_)
                refine gf_istore C dX3_canBe_109 [some (.ref t), some (.ref a1), some (.int a2), some (.int v5), some (.int r10), some (.int v12), some (.int r19), some (.int x21)] rfl rfl (Nat.le_of_ble_eq_true rfl) (gf_iload C dX3_canBe_111 rfl (gf_iconst C dX3_canBe_113 ki_m1 ?_))
                refine gf_icmpeq C 144 dX3_canBe_114 (by decide) (fun _ => ?_) (fun _ => ?_)
                · exact gf_sub [some (.ref t), some (.ref a1), some (.int a2), some (.int v5), some (.int r10), some (.int v12), none, none] (And.intro rfl (And.intro rfl (And.intro rfl (And.intro rfl (And.intro rfl (And.intro rfl trivial)))))) (kj18 h20)
                · refine gf_iload C dX3_canBe_117 rfl (gf_sipush C dX3_canBe_119 ks_128 ?_)
                  refine gf_icmpge C 144 dX3_canBe_122 (by decide) (fun _ => ?_) (fun _ => ?_)
                  · refine gf_aload_n C dX3_canBe_125 rfl rfl (gf_getR C dX3_canBe_126 fl_X3_9 ht rfl (t + 1) (lr_3_1 ht) (gf_iload C dX3_canBe_129 rfl (gf_aload_n C dX3_canBe_131 rfl rfl (gf_getR C dX3_canBe_132 fl_X3_9 ht rfl (t + 1) (lr_3_1 ht) (gf_iload C dX3_canBe_135 rfl (gf_iald C dX3_canBe_137 (lq_3_1 ht) (gf_iload C dX3_canBe_138 rfl ?_)))))))
                    refine gf_callS (ε2 := eI) C [.int (aG h20 (t + 1) x21.toNatClampNeg), .int r19] dX3_canBe_140 mw_J9_min_7cf53 ml_X3_44 (fun rZ hZ eZ => ok_J9_min_7cf53 (aG h20 (t + 1) x21.toNatClampNeg) r19 h20 rZ hZ eZ) rfl rfl rfl (Nat.le_of_ble_eq_true rfl) (Nat.le_of_ble_eq_true rfl) (Nat.le_of_ble_eq_true rfl) (fun r22 h23 => ?_)
                    refine gf_iast C dX3_canBe_143 (lq_3_1 ht) ?_
                    refine gf_jlH (fun h24 => ?_)
                    exact gf_sub [some (.ref t), some (.ref a1), some (.int a2), some (.int v5), some (.int r10), some (.int v12), none, none] (And.intro rfl (And.intro rfl (And.intro rfl (And.intro rfl (And.intro rfl (And.intro rfl trivial)))))) (kj18 h24)
                  · exact gf_sub [some (.ref t), some (.ref a1), some (.int a2), some (.int v5), some (.int r10), some (.int v12), none, none] (And.intro rfl (And.intro rfl (And.intro rfl (And.intro rfl (And.intro rfl (And.intro rfl trivial)))))) (kj18 h20)
            · exact gf_sub [some (.ref t), some (.ref a1), some (.int a2), some (.int v5), none, none, none, none] (And.intro rfl (And.intro rfl (And.intro rfl (And.intro rfl trivial)))) (kj9 h13)
        · exact gf_sub [some (.ref t), some (.ref a1), some (.int a2), some (.int v5), none, none, none, none] (And.intro rfl (And.intro rfl (And.intro rfl (And.intro rfl trivial)))) (kj9 h6)
      · refine gf_aload_n C dX3_canBe_156 rfl rfl (gf_getR C dX3_canBe_157 fl_X3_9 ht rfl (t + 1) (lr_3_1 ht) (gf_iload_n C dX3_canBe_160 rfl rfl (gf_iald C dX3_canBe_161 (lq_3_1 ht) (gf_bipush C dX3_canBe_162 kb_49 ?_))))
        refine gf_jn (fun (j27 : Int32 → Hp → Option (Int32 × Hp)) => ∀ (s25 : Int32) (h26 : Hp), GF K eI h26 172 [none, none, none, none, none, none, none, none] [.int s25] (j27 s25 h26)) ?_ (fun j27 kj27 => ?_)
        · intro s25 h26
          refine gf_gd (fun b28 => ?_)
          exact gf_zret C dX3_canBe_172 (isB_nar b28) rfl
        refine gf_icmpeq C 171 dX3_canBe_164 (by decide) (fun _ => ?_) (fun _ => ?_)
        · refine gf_iconst C dX3_canBe_171 ki_0 ?_
          exact gf_sub [none, none, none, none, none, none, none, none] trivial (kj27 (0 : Int32) h6)
        · refine gf_iconst C dX3_canBe_167 ki_1 ?_
          refine gf_goto C 172 dX3_canBe_168 (by decide) ?_
          exact gf_sub [none, none, none, none, none, none, none, none] trivial (kj27 (1 : Int32) h6)
    · exact gf_sub [none, none, none, none, none, none, none, none] trivial (kj2 h)
def F_J6_bitCount_0f7a4 (a1 : Int32) (h : Hp) : Option (Int32 × Hp) :=
  jl (a1 - (((a1.toUInt32 >>> ((1 : Int32).toUInt32 &&& Int32.toUInt32 31)).toInt32) &&& (1431655765 : Int32))) (fun x1 => jl ((x1 &&& (858993459 : Int32)) + (((x1.toUInt32 >>> ((2 : Int32).toUInt32 &&& Int32.toUInt32 31)).toInt32) &&& (858993459 : Int32))) (fun x2 => jl ((x2 + ((x2.toUInt32 >>> ((4 : Int32).toUInt32 &&& Int32.toUInt32 31)).toInt32)) &&& (252645135 : Int32)) (fun x3 => jl (x3 + ((x3.toUInt32 >>> ((8 : Int32).toUInt32 &&& Int32.toUInt32 31)).toInt32)) (fun x4 => jl (x4 + ((x4.toUInt32 >>> ((16 : Int32).toUInt32 &&& Int32.toUInt32 31)).toInt32)) (fun x5 => some (x5 &&& (63 : Int32), h))))))
set_option maxRecDepth 100000 in
set_option maxHeartbeats 4000000 in
theorem ok_J6_bitCount_0f7a4 (a1 : Int32) (h : Hp) (rZ : Int32) (hZ : Hp) (eZ : F_J6_bitCount_0f7a4 a1 h = some (rZ, hZ)) : AC yJ6_bitCount_0f7a4 cJ6_bitCount_0f7a4 1 (some .int) 0 0 [.int a1] h (eI rZ) hZ := by
  refine AC_intro (o := F_J6_bitCount_0f7a4 a1 h) RJ6 rfl (plainFor_of_name (by decide)) [some (.int a1)] rfl (fun _ => rfl) (fun _ => Nat.le_of_ble_eq_true rfl) eZ (fun K C => ?_)
  unfold F_J6_bitCount_0f7a4
  refine gf_iload_n C dJ6_bitCount_0f7a4_0 rfl rfl (gf_iload_n C dJ6_bitCount_0f7a4_1 rfl rfl (gf_iconst C dJ6_bitCount_0f7a4_2 ki_1 (gf_iushr C dJ6_bitCount_0f7a4_3 (gf_ldc_w C dJ6_bitCount_0f7a4_4 cw_J6_265 (gf_iand C dJ6_bitCount_0f7a4_7 (gf_isub C dJ6_bitCount_0f7a4_8 ?_))))))
  refine gf_jlI (fun x1 => ?_)
  refine gf_istore_n C dJ6_bitCount_0f7a4_9 rfl [some (.int x1)] rfl rfl (Nat.le_of_ble_eq_true rfl) (gf_iload_n C dJ6_bitCount_0f7a4_10 rfl rfl (gf_ldc_w C dJ6_bitCount_0f7a4_11 cw_J6_266 (gf_iand C dJ6_bitCount_0f7a4_14 (gf_iload_n C dJ6_bitCount_0f7a4_15 rfl rfl (gf_iconst C dJ6_bitCount_0f7a4_16 ki_2 (gf_iushr C dJ6_bitCount_0f7a4_17 (gf_ldc_w C dJ6_bitCount_0f7a4_18 cw_J6_266 ?_)))))))
  refine gf_iand C dJ6_bitCount_0f7a4_21 (gf_iadd C dJ6_bitCount_0f7a4_22 ?_)
  refine gf_jlI (fun x2 => ?_)
  refine gf_istore_n C dJ6_bitCount_0f7a4_23 rfl [some (.int x2)] rfl rfl (Nat.le_of_ble_eq_true rfl) (gf_iload_n C dJ6_bitCount_0f7a4_24 rfl rfl (gf_iload_n C dJ6_bitCount_0f7a4_25 rfl rfl (gf_iconst C dJ6_bitCount_0f7a4_26 ki_4 (gf_iushr C dJ6_bitCount_0f7a4_27 (gf_iadd C dJ6_bitCount_0f7a4_28 (gf_ldc_w C dJ6_bitCount_0f7a4_29 cw_J6_267 (gf_iand C dJ6_bitCount_0f7a4_32 ?_)))))))
  refine gf_jlI (fun x3 => ?_)
  refine gf_istore_n C dJ6_bitCount_0f7a4_33 rfl [some (.int x3)] rfl rfl (Nat.le_of_ble_eq_true rfl) (gf_iload_n C dJ6_bitCount_0f7a4_34 rfl rfl (gf_iload_n C dJ6_bitCount_0f7a4_35 rfl rfl (gf_bipush C dJ6_bitCount_0f7a4_36 kb_8 (gf_iushr C dJ6_bitCount_0f7a4_38 (gf_iadd C dJ6_bitCount_0f7a4_39 ?_)))))
  refine gf_jlI (fun x4 => ?_)
  refine gf_istore_n C dJ6_bitCount_0f7a4_40 rfl [some (.int x4)] rfl rfl (Nat.le_of_ble_eq_true rfl) (gf_iload_n C dJ6_bitCount_0f7a4_41 rfl rfl (gf_iload_n C dJ6_bitCount_0f7a4_42 rfl rfl (gf_bipush C dJ6_bitCount_0f7a4_43 kb_16 (gf_iushr C dJ6_bitCount_0f7a4_45 (gf_iadd C dJ6_bitCount_0f7a4_46 ?_)))))
  refine gf_jlI (fun x5 => ?_)
  refine gf_istore_n C dJ6_bitCount_0f7a4_47 rfl [some (.int x5)] rfl rfl (Nat.le_of_ble_eq_true rfl) (gf_iload_n C dJ6_bitCount_0f7a4_48 rfl rfl (gf_bipush C dJ6_bitCount_0f7a4_49 kb_63 (gf_iand C dJ6_bitCount_0f7a4_51 ?_)))
  exact gf_iret C dJ6_bitCount_0f7a4_52 rfl
def F_X1_seekKnot (a1 : Nat) (h : Hp) : Option (Int32 × Hp) :=
  bd (F_X7_everyone a1 h) (fun r1 h2 => bd (F_X3_canBe 109 a1 r1 h2) (fun r3 h4 => if r3 = 0 then (
  (lp 4000000000 (fun (c7 : Int32 → Hp → Option (Int32 × Hp)) (v5 : Int32) (h6 : Hp) =>
  if (7 : Int32) < v5 then (
  some ((-1 : Int32), h6)) else (
  (lp 4000000000 (fun (c10 : Int32 → Hp → Option (Int32 × Hp)) (v8 : Int32) (h9 : Hp) =>
  if r1 < v8 then (
  c7 (v5 + (1 : Int32)) h9) else (
  bd (F_J6_bitCount_0f7a4 v8 h9) (fun r11 h12 => jn (fun (h13 : Hp) =>
  c10 (v8 + (1 : Int32)) h13) (fun j14 => if r11 = v5 then (
  bd (F_X3_canBe 109 a1 v8 h12) (fun r15 h16 => if r15 = 0 then (
  some (v8, h16)) else (
  j14 h16))) else (
  j14 h12))))) (fun _ _ => none)) (1 : Int32) h6)) (fun _ _ => none)) (1 : Int32) h4) else (
  some ((-1 : Int32), h4))))
set_option maxRecDepth 100000 in
set_option maxHeartbeats 4000000 in
theorem ok_X1_seekKnot (a1 : Nat) (ha1 : shp a1 = (0, 7)) (h : Hp) (rZ : Int32) (hZ : Hp) (eZ : F_X1_seekKnot a1 h = some (rZ, hZ)) : AC yX1_seekKnot cX1_seekKnot 5 (some .int) 4 94 [.ref 91, .ref a1] h (eI rZ) hZ := by
  refine AC_intro (o := F_X1_seekKnot a1 h) RX1 rfl (plainFor_of_name (by decide)) [some (.ref 91), some (.ref a1), none, none, none] rfl (fun _ => rfl) (fun _ => Nat.le_of_ble_eq_true rfl) eZ (fun K C => ?_)
  unfold F_X1_seekKnot
  refine gf_aload_n C dX1_seekKnot_0 rfl rfl ?_
  refine gf_callV (ε2 := eI) C [] dX1_seekKnot_1 mw_X7_everyone ml_X1_61 ha1 (fun rZ hZ eZ => ok_X7_everyone a1 ha1 h rZ hZ eZ) rfl rfl rfl (Nat.le_of_ble_eq_true rfl) (Nat.le_of_ble_eq_true rfl) (Nat.le_of_ble_eq_true rfl) (fun r1 h2 => ?_)
  refine gf_istore_n C dX1_seekKnot_4 rfl [some (.ref 91), some (.ref a1), some (.int r1), none, none] rfl rfl (Nat.le_of_ble_eq_true rfl) (gf_aload_n C dX1_seekKnot_5 rfl rfl (gf_getR C dX1_seekKnot_6 fl_X1_39 s_91 rfl 109 rfl (gf_aload_n C dX1_seekKnot_9 rfl rfl (gf_iload_n C dX1_seekKnot_10 rfl rfl ?_))))
  refine gf_callV (ε2 := eI) C [.ref a1, .int r1] dX1_seekKnot_11 mw_X3_canBe ml_X1_65 s_109 (fun rZ hZ eZ => ok_X3_canBe 109 a1 r1 s_109 ha1 h2 rZ hZ eZ) rfl rfl rfl (Nat.le_of_ble_eq_true rfl) (Nat.le_of_ble_eq_true rfl) (Nat.le_of_ble_eq_true rfl) (fun r3 h4 => ?_)
  refine gf_ifeq C 19 dX1_seekKnot_14 (by decide) (fun _ => ?_) (fun _ => ?_)
  · refine gf_iconst C dX1_seekKnot_19 ki_1 (gf_istore_n C dX1_seekKnot_20 rfl [some (.ref 91), some (.ref a1), some (.int r1), some (.int (1 : Int32)), none] rfl rfl (Nat.le_of_ble_eq_true rfl) ?_)
    refine gf_sub [some (.ref 91), some (.ref a1), some (.int r1), some (.int (1 : Int32)), none] (And.intro rfl (And.intro rfl (And.intro rfl (And.intro rfl trivial)))) ?_
    refine lp_P (fun (c7 : Int32 → Hp → Option (Int32 × Hp)) => ∀ (v5 : Int32) (h6 : Hp), GF K eI h6 21 [some (.ref 91), some (.ref a1), some (.int r1), some (.int v5), none] [] (c7 v5 h6)) (fun _ _ => gf_none) (fun c7 kc7 v5 h6 => ?_) (1 : Int32) h4
    refine gf_iload_n C dX1_seekKnot_21 rfl rfl (gf_bipush C dX1_seekKnot_22 kb_7 ?_)
    refine gf_icmpgt C 73 dX1_seekKnot_24 (by decide) (fun _ => ?_) (fun _ => ?_)
    · refine gf_iconst C dX1_seekKnot_73 ki_m1 ?_
      exact gf_iret C dX1_seekKnot_74 rfl
    · refine gf_iconst C dX1_seekKnot_27 ki_1 (gf_istore C dX1_seekKnot_28 [some (.ref 91), some (.ref a1), some (.int r1), some (.int v5), some (.int (1 : Int32))] rfl rfl (Nat.le_of_ble_eq_true rfl) ?_)
      refine gf_sub [some (.ref 91), some (.ref a1), some (.int r1), some (.int v5), some (.int (1 : Int32))] (And.intro rfl (And.intro rfl (And.intro rfl (And.intro rfl (And.intro rfl trivial))))) ?_
      refine lp_P (fun (c10 : Int32 → Hp → Option (Int32 × Hp)) => ∀ (v8 : Int32) (h9 : Hp), GF K eI h9 30 [some (.ref 91), some (.ref a1), some (.int r1), some (.int v5), some (.int v8)] [] (c10 v8 h9)) (fun _ _ => gf_none) (fun c10 kc10 v8 h9 => ?_) (1 : Int32) h6
      refine gf_iload C dX1_seekKnot_30 rfl (gf_iload_n C dX1_seekKnot_32 rfl rfl ?_)
      refine gf_icmpgt C 67 dX1_seekKnot_33 (by decide) (fun _ => ?_) (fun _ => ?_)
      · refine gf_iinc C dX1_seekKnot_67 rfl (ii_1 _) [some (.ref 91), some (.ref a1), some (.int r1), some (.int (v5 + (1 : Int32))), some (.int v8)] rfl rfl ?_
        refine gf_goto C 21 dX1_seekKnot_70 (by decide) ?_
        exact gf_sub [some (.ref 91), some (.ref a1), some (.int r1), some (.int (v5 + (1 : Int32))), none] (And.intro rfl (And.intro rfl (And.intro rfl (And.intro rfl trivial)))) (kc7 (v5 + (1 : Int32)) h9)
      · refine gf_iload C dX1_seekKnot_36 rfl ?_
        refine gf_callS (ε2 := eI) C [.int v8] dX1_seekKnot_38 mw_J6_bitCount_0f7a4 ml_X1_69 (fun rZ hZ eZ => ok_J6_bitCount_0f7a4 v8 h9 rZ hZ eZ) rfl rfl rfl (Nat.le_of_ble_eq_true rfl) (Nat.le_of_ble_eq_true rfl) (Nat.le_of_ble_eq_true rfl) (fun r11 h12 => ?_)
        refine gf_iload_n C dX1_seekKnot_41 rfl rfl ?_
        refine gf_jn (fun (j14 : Hp → Option (Int32 × Hp)) => ∀ (h13 : Hp), GF K eI h13 61 [some (.ref 91), some (.ref a1), some (.int r1), some (.int v5), some (.int v8)] [] (j14 h13)) ?_ (fun j14 kj14 => ?_)
        · intro h13
          refine gf_iinc C dX1_seekKnot_61 rfl (ii_1 _) [some (.ref 91), some (.ref a1), some (.int r1), some (.int v5), some (.int (v8 + (1 : Int32)))] rfl rfl ?_
          refine gf_goto C 30 dX1_seekKnot_64 (by decide) ?_
          exact gf_sub [some (.ref 91), some (.ref a1), some (.int r1), some (.int v5), some (.int (v8 + (1 : Int32)))] (And.intro rfl (And.intro rfl (And.intro rfl (And.intro rfl (And.intro rfl trivial))))) (kc10 (v8 + (1 : Int32)) h13)
        refine gf_icmpne C 61 dX1_seekKnot_42 (by decide) (fun _ => ?_) (fun _ => ?_)
        · refine gf_aload_n C dX1_seekKnot_45 rfl rfl (gf_getR C dX1_seekKnot_46 fl_X1_39 s_91 rfl 109 rfl (gf_aload_n C dX1_seekKnot_49 rfl rfl (gf_iload C dX1_seekKnot_50 rfl ?_)))
          refine gf_callV (ε2 := eI) C [.ref a1, .int v8] dX1_seekKnot_52 mw_X3_canBe ml_X1_65 s_109 (fun rZ hZ eZ => ok_X3_canBe 109 a1 v8 s_109 ha1 h12 rZ hZ eZ) rfl rfl rfl (Nat.le_of_ble_eq_true rfl) (Nat.le_of_ble_eq_true rfl) (Nat.le_of_ble_eq_true rfl) (fun r15 h16 => ?_)
          refine gf_ifne C 61 dX1_seekKnot_55 (by decide) (fun _ => ?_) (fun _ => ?_)
          · refine gf_iload C dX1_seekKnot_58 rfl ?_
            exact gf_iret C dX1_seekKnot_60 rfl
          · exact gf_sub [some (.ref 91), some (.ref a1), some (.int r1), some (.int v5), some (.int v8)] (And.intro rfl (And.intro rfl (And.intro rfl (And.intro rfl (And.intro rfl trivial))))) (kj14 h16)
        · exact gf_sub [some (.ref 91), some (.ref a1), some (.int r1), some (.int v5), some (.int v8)] (And.intro rfl (And.intro rfl (And.intro rfl (And.intro rfl (And.intro rfl trivial))))) (kj14 h12)
  · refine gf_iconst C dX1_seekKnot_17 ki_m1 ?_
    exact gf_iret C dX1_seekKnot_18 rfl
def F_X1_knotOf (a1 : Nat) (h : Hp) : Option (Int32 × Hp) :=
  jn (fun (h1 : Hp) =>
  jl (sS h1 5829 (1 : Int32)) (fun h3 => some (sG h3 5828, h3))) (fun j2 => if (sG h 5829) = 0 then (
  bd (F_X1_seekKnot a1 h) (fun r4 h5 => jl (sS h5 5828 r4) (fun h6 => j2 h6))) else (
  j2 h))
set_option maxRecDepth 100000 in
set_option maxHeartbeats 4000000 in
theorem ok_X1_knotOf (a1 : Nat) (ha1 : shp a1 = (0, 7)) (h : Hp) (rZ : Int32) (hZ : Hp) (eZ : F_X1_knotOf a1 h = some (rZ, hZ)) : AC yX1_knotOf cX1_knotOf 2 (some .int) 5 118 [.ref 91, .ref a1] h (eI rZ) hZ := by
  refine AC_intro (o := F_X1_knotOf a1 h) RX1 rfl (plainFor_of_name (by decide)) [some (.ref 91), some (.ref a1)] rfl (fun _ => rfl) (fun _ => Nat.le_of_ble_eq_true rfl) eZ (fun K C => ?_)
  unfold F_X1_knotOf
  refine gf_aload_n C dX1_knotOf_0 rfl rfl (gf_getI C dX1_knotOf_1 fl_X1_43 s_91 rfl 5829 rfl ?_)
  refine gf_jn (fun (j2 : Hp → Option (Int32 × Hp)) => ∀ (h1 : Hp), GF K eI h1 16 [some (.ref 91), none] [] (j2 h1)) ?_ (fun j2 kj2 => ?_)
  · intro h1
    refine gf_aload_n C dX1_knotOf_16 rfl rfl (gf_iconst C dX1_knotOf_17 ki_1 (gf_putZ C dX1_knotOf_18 fp_X1_43 s_91 rfl 5829 rfl rfl ?_))
    refine gf_jlH (fun h3 => ?_)
    refine gf_aload_n C dX1_knotOf_21 rfl rfl (gf_getI C dX1_knotOf_22 fl_X1_57 s_91 rfl 5828 rfl ?_)
    exact gf_iret C dX1_knotOf_25 rfl
  refine gf_ifne C 16 dX1_knotOf_4 (by decide) (fun _ => ?_) (fun _ => ?_)
  · refine gf_aload_n C dX1_knotOf_7 rfl rfl (gf_aload_n C dX1_knotOf_8 rfl rfl (gf_aload_n C dX1_knotOf_9 rfl rfl ?_))
    refine gf_callV (ε2 := eI) C [.ref a1] dX1_knotOf_10 mw_X1_seekKnot ml_X1_53 s_91 (fun rZ hZ eZ => ok_X1_seekKnot a1 ha1 h rZ hZ eZ) rfl rfl rfl (Nat.le_of_ble_eq_true rfl) (Nat.le_of_ble_eq_true rfl) (Nat.le_of_ble_eq_true rfl) (fun r4 h5 => ?_)
    refine gf_putI C dX1_knotOf_13 fp_X1_57 s_91 rfl 5828 rfl ?_
    refine gf_jlH (fun h6 => ?_)
    exact gf_sub [some (.ref 91), none] (And.intro rfl trivial) (kj2 h6)
  · exact gf_sub [some (.ref 91), none] (And.intro rfl trivial) (kj2 h)
def F_X5_keyOf (t : Nat) (a1 : Int32) (h : Hp) : Option (Int32 × Hp) :=
  jn (fun (s1 : Int32) (h2 : Hp) =>
  some (s1, h2)) (fun j3 => jn (fun (h4 : Hp) =>
  j3 (-1 : Int32) h4) (fun j5 => if a1 < 0 then (
  j5 h) else (
  if a1 < (sG h (64 * t + 0)) then (
  if a1 < (56 : Int32) then (
  gd (inb a1 56) ( j3 (aG h (t + 1) a1.toNatClampNeg) h)) else (
  j5 h)) else (
  j5 h))))
set_option maxRecDepth 100000 in
set_option maxHeartbeats 4000000 in
theorem ok_X5_keyOf (t : Nat) (a1 : Int32) (ht : shp t = (0, 5)) (h : Hp) (rZ : Int32) (hZ : Hp) (eZ : F_X5_keyOf t a1 h = some (rZ, hZ)) : AC yX5_keyOf cX5_keyOf 2 (some .int) 0 0 [.ref t, .int a1] h (eI rZ) hZ := by
  refine AC_intro (o := F_X5_keyOf t a1 h) RX5 rfl (plainFor_of_name (by decide)) [some (.ref t), some (.int a1)] rfl (fun _ => rfl) (fun _ => Nat.le_of_ble_eq_true rfl) eZ (fun K C => ?_)
  unfold F_X5_keyOf
  refine gf_iload_n C dX5_keyOf_0 rfl rfl ?_
  refine gf_jn (fun (j3 : Int32 → Hp → Option (Int32 × Hp)) => ∀ (s1 : Int32) (h2 : Hp), GF K eI h2 28 [none, none] [.int s1] (j3 s1 h2)) ?_ (fun j3 kj3 => ?_)
  · intro s1 h2
    exact gf_iret C dX5_keyOf_28 rfl
  refine gf_jn (fun (j5 : Hp → Option (Int32 × Hp)) => ∀ (h4 : Hp), GF K eI h4 27 [none, none] [] (j5 h4)) ?_ (fun j5 kj5 => ?_)
  · intro h4
    refine gf_iconst C dX5_keyOf_27 ki_m1 ?_
    exact gf_sub [none, none] trivial (kj3 (-1 : Int32) h4)
  refine gf_iflt C 27 dX5_keyOf_1 (by decide) (fun _ => ?_) (fun _ => ?_)
  · exact gf_sub [none, none] trivial (kj5 h)
  · refine gf_iload_n C dX5_keyOf_4 rfl rfl (gf_aload_n C dX5_keyOf_5 rfl rfl (gf_getI C dX5_keyOf_6 fl_X5_27 ht rfl (64 * t + 0) rfl ?_))
    refine gf_icmpge C 27 dX5_keyOf_9 (by decide) (fun _ => ?_) (fun _ => ?_)
    · refine gf_iload_n C dX5_keyOf_12 rfl rfl (gf_bipush C dX5_keyOf_13 kb_56 ?_)
      refine gf_icmpge C 27 dX5_keyOf_15 (by decide) (fun _ => ?_) (fun _ => ?_)
      · refine gf_aload_n C dX5_keyOf_18 rfl rfl (gf_getR C dX5_keyOf_19 fl_X5_9 ht rfl (t + 1) (lr_5_1 ht) (gf_iload_n C dX5_keyOf_22 rfl rfl (gf_iald C dX5_keyOf_23 (lq_5_1 ht) ?_)))
        refine gf_goto C 28 dX5_keyOf_24 (by decide) ?_
        exact gf_sub [none, none] trivial (kj3 (aG h (t + 1) a1.toNatClampNeg) h)
      · exact gf_sub [none, none] trivial (kj5 h)
    · exact gf_sub [none, none] trivial (kj5 h)
def F_X5_pictureOf (t : Nat) (a1 : Int32) (h : Hp) : Option (Int32 × Hp) :=
  bd (F_X5_keyOf t a1 h) (fun r1 h2 => jn (fun (s3 : Int32) (h4 : Hp) =>
  some (s3, h4)) (fun j5 => if r1 = (-1 : Int32) then (
  j5 (-1 : Int32) h2) else (
  j5 (r1 / (8 : Int32)) h2)))
set_option maxRecDepth 100000 in
set_option maxHeartbeats 4000000 in
theorem ok_X5_pictureOf (t : Nat) (a1 : Int32) (ht : shp t = (0, 5)) (h : Hp) (rZ : Int32) (hZ : Hp) (eZ : F_X5_pictureOf t a1 h = some (rZ, hZ)) : AC yX5_pictureOf cX5_pictureOf 3 (some .int) 1 21 [.ref t, .int a1] h (eI rZ) hZ := by
  refine AC_intro (o := F_X5_pictureOf t a1 h) RX5 rfl (plainFor_of_name (by decide)) [some (.ref t), some (.int a1), none] rfl (fun _ => rfl) (fun _ => Nat.le_of_ble_eq_true rfl) eZ (fun K C => ?_)
  unfold F_X5_pictureOf
  refine gf_aload_n C dX5_pictureOf_0 rfl rfl (gf_iload_n C dX5_pictureOf_1 rfl rfl ?_)
  refine gf_callV (ε2 := eI) C [.int a1] dX5_pictureOf_2 mw_X5_keyOf ml_X5_47 ht (fun rZ hZ eZ => ok_X5_keyOf t a1 ht h rZ hZ eZ) rfl rfl rfl (Nat.le_of_ble_eq_true rfl) (Nat.le_of_ble_eq_true rfl) (Nat.le_of_ble_eq_true rfl) (fun r1 h2 => ?_)
  refine gf_istore_n C dX5_pictureOf_5 rfl [some (.ref t), some (.int a1), some (.int r1)] rfl rfl (Nat.le_of_ble_eq_true rfl) (gf_iload_n C dX5_pictureOf_6 rfl rfl (gf_iconst C dX5_pictureOf_7 ki_m1 ?_))
  refine gf_jn (fun (j5 : Int32 → Hp → Option (Int32 × Hp)) => ∀ (s3 : Int32) (h4 : Hp), GF K eI h4 19 [none, none, none] [.int s3] (j5 s3 h4)) ?_ (fun j5 kj5 => ?_)
  · intro s3 h4
    exact gf_iret C dX5_pictureOf_19 rfl
  refine gf_icmpne C 15 dX5_pictureOf_8 (by decide) (fun _ => ?_) (fun _ => ?_)
  · refine gf_iconst C dX5_pictureOf_11 ki_m1 ?_
    refine gf_goto C 19 dX5_pictureOf_12 (by decide) ?_
    exact gf_sub [none, none, none] trivial (kj5 (-1 : Int32) h2)
  · refine gf_iload_n C dX5_pictureOf_15 rfl rfl (gf_bipush C dX5_pictureOf_16 kb_8 (gf_idivC C dX5_pictureOf_18 (by decide) ?_))
    exact gf_sub [none, none, none] trivial (kj5 (r1 / (8 : Int32)) h2)
def F_X5_matterOf (t : Nat) (a1 : Int32) (h : Hp) : Option (Int32 × Hp) :=
  bd (F_X5_keyOf t a1 h) (fun r1 h2 => jn (fun (s3 : Int32) (h4 : Hp) =>
  some (s3, h4)) (fun j5 => if r1 = (-1 : Int32) then (
  j5 (-1 : Int32) h2) else (
  j5 (r1 - r1 / (8 : Int32) * (8 : Int32)) h2)))
set_option maxRecDepth 100000 in
set_option maxHeartbeats 4000000 in
theorem ok_X5_matterOf (t : Nat) (a1 : Int32) (ht : shp t = (0, 5)) (h : Hp) (rZ : Int32) (hZ : Hp) (eZ : F_X5_matterOf t a1 h = some (rZ, hZ)) : AC yX5_matterOf cX5_matterOf 3 (some .int) 1 21 [.ref t, .int a1] h (eI rZ) hZ := by
  refine AC_intro (o := F_X5_matterOf t a1 h) RX5 rfl (plainFor_of_name (by decide)) [some (.ref t), some (.int a1), none] rfl (fun _ => rfl) (fun _ => Nat.le_of_ble_eq_true rfl) eZ (fun K C => ?_)
  unfold F_X5_matterOf
  refine gf_aload_n C dX5_matterOf_0 rfl rfl (gf_iload_n C dX5_matterOf_1 rfl rfl ?_)
  refine gf_callV (ε2 := eI) C [.int a1] dX5_matterOf_2 mw_X5_keyOf ml_X5_47 ht (fun rZ hZ eZ => ok_X5_keyOf t a1 ht h rZ hZ eZ) rfl rfl rfl (Nat.le_of_ble_eq_true rfl) (Nat.le_of_ble_eq_true rfl) (Nat.le_of_ble_eq_true rfl) (fun r1 h2 => ?_)
  refine gf_istore_n C dX5_matterOf_5 rfl [some (.ref t), some (.int a1), some (.int r1)] rfl rfl (Nat.le_of_ble_eq_true rfl) (gf_iload_n C dX5_matterOf_6 rfl rfl (gf_iconst C dX5_matterOf_7 ki_m1 ?_))
  refine gf_jn (fun (j5 : Int32 → Hp → Option (Int32 × Hp)) => ∀ (s3 : Int32) (h4 : Hp), GF K eI h4 19 [none, none, none] [.int s3] (j5 s3 h4)) ?_ (fun j5 kj5 => ?_)
  · intro s3 h4
    exact gf_iret C dX5_matterOf_19 rfl
  refine gf_icmpne C 15 dX5_matterOf_8 (by decide) (fun _ => ?_) (fun _ => ?_)
  · refine gf_iconst C dX5_matterOf_11 ki_m1 ?_
    refine gf_goto C 19 dX5_matterOf_12 (by decide) ?_
    exact gf_sub [none, none, none] trivial (kj5 (-1 : Int32) h2)
  · refine gf_iload_n C dX5_matterOf_15 rfl rfl (gf_bipush C dX5_matterOf_16 kb_8 (gf_iremC C dX5_matterOf_18 (by decide) ?_))
    exact gf_sub [none, none, none] trivial (kj5 (r1 - r1 / (8 : Int32) * (8 : Int32)) h2)
def F_X5_numberOf (t : Nat) (a1 : Int32) (a2 : Int32) (h : Hp) : Option (Int32 × Hp) :=
  bd (F_X5_isKey a1 a2 h) (fun r1 h2 => jn (fun (s3 : Int32) (h4 : Hp) =>
  some (s3, h4)) (fun j5 => if r1 = 0 then (
  j5 (-1 : Int32) h2) else (
  gd (inb ((a1 * (8 : Int32)) + a2) 56) ( j5 (aG h2 (t + 2) ((a1 * (8 : Int32)) + a2).toNatClampNeg) h2))))
set_option maxRecDepth 100000 in
set_option maxHeartbeats 4000000 in
theorem ok_X5_numberOf (t : Nat) (a1 : Int32) (a2 : Int32) (ht : shp t = (0, 5)) (h : Hp) (rZ : Int32) (hZ : Hp) (eZ : F_X5_numberOf t a1 a2 h = some (rZ, hZ)) : AC yX5_numberOf cX5_numberOf 3 (some .int) 1 21 [.ref t, .int a1, .int a2] h (eI rZ) hZ := by
  refine AC_intro (o := F_X5_numberOf t a1 a2 h) RX5 rfl (plainFor_of_name (by decide)) [some (.ref t), some (.int a1), some (.int a2)] rfl (fun _ => rfl) (fun _ => Nat.le_of_ble_eq_true rfl) eZ (fun K C => ?_)
  unfold F_X5_numberOf
  refine gf_iload_n C dX5_numberOf_0 rfl rfl (gf_iload_n C dX5_numberOf_1 rfl rfl ?_)
  refine gf_callS (ε2 := eI) C [.int a1, .int a2] dX5_numberOf_2 mw_X5_isKey ml_X5_43 (fun rZ hZ eZ => ok_X5_isKey a1 a2 h rZ hZ eZ) rfl rfl rfl (Nat.le_of_ble_eq_true rfl) (Nat.le_of_ble_eq_true rfl) (Nat.le_of_ble_eq_true rfl) (fun r1 h2 => ?_)
  refine gf_jn (fun (j5 : Int32 → Hp → Option (Int32 × Hp)) => ∀ (s3 : Int32) (h4 : Hp), GF K eI h4 23 [none, none, none] [.int s3] (j5 s3 h4)) ?_ (fun j5 kj5 => ?_)
  · intro s3 h4
    exact gf_iret C dX5_numberOf_23 rfl
  refine gf_ifeq C 22 dX5_numberOf_5 (by decide) (fun _ => ?_) (fun _ => ?_)
  · refine gf_iconst C dX5_numberOf_22 ki_m1 ?_
    exact gf_sub [none, none, none] trivial (kj5 (-1 : Int32) h2)
  · refine gf_aload_n C dX5_numberOf_8 rfl rfl (gf_getR C dX5_numberOf_9 fl_X5_15 ht rfl (t + 2) (lr_5_2 ht) (gf_iload_n C dX5_numberOf_12 rfl rfl (gf_bipush C dX5_numberOf_13 kb_8 (gf_imul C dX5_numberOf_15 (gf_iload_n C dX5_numberOf_16 rfl rfl (gf_iadd C dX5_numberOf_17 (gf_iald C dX5_numberOf_18 (lq_5_2 ht) ?_)))))))
    refine gf_goto C 23 dX5_numberOf_19 (by decide) ?_
    exact gf_sub [none, none, none] trivial (kj5 (aG h2 (t + 2) ((a1 * (8 : Int32)) + a2).toNatClampNeg) h2)
def F_X5_remove (t : Nat) (a1 : Int32) (a2 : Int32) (h : Hp) : Option (Unit × Hp) :=
  bd (F_X5_numberOf t a1 a2 h) (fun r1 h2 => jn (fun (h3 : Hp) =>
  some ((), h3)) (fun j4 => if r1 < 0 then (
  j4 h2) else (
  if r1 < (sG h2 (64 * t + 0)) then (
  jl ((a1 * (8 : Int32)) + a2) (fun x5 => gd (inb x5 56) ( jl (aS h2 (t + 2) x5.toNatClampNeg (-1 : Int32)) (fun h6 => gd (inb x5 56) ( jl (aS h6 (t + 3) x5.toNatClampNeg (-1 : Int32)) (fun h7 => gd (inb x5 56) ( jl (aS h7 (t + 4) x5.toNatClampNeg (-1 : Int32)) (fun h8 => jl (sS h8 (64 * t + 0) ((sG h8 (64 * t + 0)) - (1 : Int32))) (fun h9 => (lp 4000000000 (fun (c12 : Int32 → Hp → Option (Unit × Hp)) (v10 : Int32) (h11 : Hp) =>
  jn (fun (h13 : Hp) =>
  some ((), h13)) (fun j14 => if v10 < (sG h11 (64 * t + 0)) then (
  if v10 < (55 : Int32) then (
  gd (inb (v10 + (1 : Int32)) 56) ( jl (aG h11 (t + 1) (v10 + (1 : Int32)).toNatClampNeg) (fun x15 => gd (inb v10 56) ( jl (aS h11 (t + 1) v10.toNatClampNeg x15) (fun h16 => jn (fun (h17 : Hp) =>
  c12 (v10 + (1 : Int32)) h17) (fun j18 => if x15 < 0 then (
  j18 h16) else (
  if x15 < (56 : Int32) then (
  gd (inb x15 56) ( jl (aS h16 (t + 2) x15.toNatClampNeg v10) (fun h19 => j18 h19))) else (
  j18 h16)))))))) else (
  j14 h11)) else (
  j14 h11))) (fun _ _ => none)) r1 h9))))))))) else (
  j4 h2))))
set_option maxRecDepth 100000 in
set_option maxHeartbeats 4000000 in
theorem ok_X5_remove (t : Nat) (a1 : Int32) (a2 : Int32) (ht : shp t = (0, 5)) (h : Hp) (rZ : Unit) (hZ : Hp) (eZ : F_X5_remove t a1 a2 h = some (rZ, hZ)) : AC yX5_remove cX5_remove 7 (none) 2 43 [.ref t, .int a1, .int a2] h (eV rZ) hZ := by
  refine AC_intro (o := F_X5_remove t a1 a2 h) RX5 rfl (plainFor_of_name (by decide)) [some (.ref t), some (.int a1), some (.int a2), none, none, none, none] rfl (fun _ => rfl) (fun _ => Nat.le_of_ble_eq_true rfl) eZ (fun K C => ?_)
  unfold F_X5_remove
  refine gf_aload_n C dX5_remove_0 rfl rfl (gf_iload_n C dX5_remove_1 rfl rfl (gf_iload_n C dX5_remove_2 rfl rfl ?_))
  refine gf_callV (ε2 := eI) C [.int a1, .int a2] dX5_remove_3 mw_X5_numberOf ml_X5_51 ht (fun rZ hZ eZ => ok_X5_numberOf t a1 a2 ht h rZ hZ eZ) rfl rfl rfl (Nat.le_of_ble_eq_true rfl) (Nat.le_of_ble_eq_true rfl) (Nat.le_of_ble_eq_true rfl) (fun r1 h2 => ?_)
  refine gf_istore_n C dX5_remove_6 rfl [some (.ref t), some (.int a1), some (.int a2), some (.int r1), none, none, none] rfl rfl (Nat.le_of_ble_eq_true rfl) (gf_iload_n C dX5_remove_7 rfl rfl ?_)
  refine gf_jn (fun (j4 : Hp → Option (Unit × Hp)) => ∀ (h3 : Hp), GF K eV h3 19 [none, none, none, none, none, none, none] [] (j4 h3)) ?_ (fun j4 kj4 => ?_)
  · intro h3
    exact gf_vret C dX5_remove_19 rfl
  refine gf_iflt C 19 dX5_remove_8 (by decide) (fun _ => ?_) (fun _ => ?_)
  · exact gf_sub [none, none, none, none, none, none, none] trivial (kj4 h2)
  · refine gf_iload_n C dX5_remove_11 rfl rfl (gf_aload_n C dX5_remove_12 rfl rfl (gf_getI C dX5_remove_13 fl_X5_27 ht rfl (64 * t + 0) rfl ?_))
    refine gf_icmplt C 20 dX5_remove_16 (by decide) (fun _ => ?_) (fun _ => ?_)
    · refine gf_iload_n C dX5_remove_20 rfl rfl (gf_bipush C dX5_remove_21 kb_8 (gf_imul C dX5_remove_23 (gf_iload_n C dX5_remove_24 rfl rfl (gf_iadd C dX5_remove_25 ?_))))
      refine gf_jlI (fun x5 => ?_)
      refine gf_istore C dX5_remove_26 [some (.ref t), some (.int a1), some (.int a2), some (.int r1), some (.int x5), none, none] rfl rfl (Nat.le_of_ble_eq_true rfl) (gf_aload_n C dX5_remove_28 rfl rfl (gf_getR C dX5_remove_29 fl_X5_15 ht rfl (t + 2) (lr_5_2 ht) (gf_iload C dX5_remove_32 rfl (gf_iconst C dX5_remove_34 ki_m1 (gf_iast C dX5_remove_35 (lq_5_2 ht) ?_)))))
      refine gf_jlH (fun h6 => ?_)
      refine gf_aload_n C dX5_remove_36 rfl rfl (gf_getR C dX5_remove_37 fl_X5_18 ht rfl (t + 3) (lr_5_3 ht) (gf_iload C dX5_remove_40 rfl (gf_iconst C dX5_remove_42 ki_m1 (gf_iast C dX5_remove_43 (lq_5_3 ht) ?_))))
      refine gf_jlH (fun h7 => ?_)
      refine gf_aload_n C dX5_remove_44 rfl rfl (gf_getR C dX5_remove_45 fl_X5_21 ht rfl (t + 4) (lr_5_4 ht) (gf_iload C dX5_remove_48 rfl (gf_iconst C dX5_remove_50 ki_m1 (gf_iast C dX5_remove_51 (lq_5_4 ht) ?_))))
      refine gf_jlH (fun h8 => ?_)
      refine gf_aload_n C dX5_remove_52 rfl rfl (gf_dup C dX5_remove_53 rfl (gf_getI C dX5_remove_54 fl_X5_27 ht rfl (64 * t + 0) rfl (gf_iconst C dX5_remove_57 ki_1 (gf_isub C dX5_remove_58 (gf_putI C dX5_remove_59 fp_X5_27 ht rfl (64 * t + 0) rfl ?_)))))
      refine gf_jlH (fun h9 => ?_)
      refine gf_iload_n C dX5_remove_62 rfl rfl (gf_istore C dX5_remove_63 [some (.ref t), some (.int a1), some (.int a2), some (.int r1), some (.int x5), some (.int r1), none] rfl rfl (Nat.le_of_ble_eq_true rfl) ?_)
      refine gf_sub [some (.ref t), none, none, none, none, some (.int r1), none] (And.intro rfl (And.intro rfl trivial)) ?_
      refine lp_P (fun (c12 : Int32 → Hp → Option (Unit × Hp)) => ∀ (v10 : Int32) (h11 : Hp), GF K eV h11 65 [some (.ref t), none, none, none, none, some (.int v10), none] [] (c12 v10 h11)) (fun _ _ => gf_none) (fun c12 kc12 v10 h11 => ?_) r1 h9
      refine gf_iload C dX5_remove_65 rfl (gf_aload_n C dX5_remove_67 rfl rfl (gf_getI C dX5_remove_68 fl_X5_27 ht rfl (64 * t + 0) rfl ?_))
      refine gf_jn (fun (j14 : Hp → Option (Unit × Hp)) => ∀ (h13 : Hp), GF K eV h13 128 [none, none, none, none, none, none, none] [] (j14 h13)) ?_ (fun j14 kj14 => ?_)
      · intro h13
        exact gf_vret C dX5_remove_128 rfl
      refine gf_icmpge C 128 dX5_remove_71 (by decide) (fun _ => ?_) (fun _ => ?_)
      · refine gf_iload C dX5_remove_74 rfl (gf_bipush C dX5_remove_76 kb_55 ?_)
        refine gf_icmpge C 128 dX5_remove_78 (by decide) (fun _ => ?_) (fun _ => ?_)
        · refine gf_aload_n C dX5_remove_81 rfl rfl (gf_getR C dX5_remove_82 fl_X5_9 ht rfl (t + 1) (lr_5_1 ht) (gf_iload C dX5_remove_85 rfl (gf_iconst C dX5_remove_87 ki_1 (gf_iadd C dX5_remove_88 (gf_iald C dX5_remove_89 (lq_5_1 ht) ?_)))))
          refine gf_jlI (fun x15 => ?_)
          refine gf_istore C dX5_remove_90 [some (.ref t), none, none, none, none, some (.int v10), some (.int x15)] rfl rfl (Nat.le_of_ble_eq_true rfl) (gf_aload_n C dX5_remove_92 rfl rfl (gf_getR C dX5_remove_93 fl_X5_9 ht rfl (t + 1) (lr_5_1 ht) (gf_iload C dX5_remove_96 rfl (gf_iload C dX5_remove_98 rfl (gf_iast C dX5_remove_100 (lq_5_1 ht) ?_)))))
          refine gf_jlH (fun h16 => ?_)
          refine gf_iload C dX5_remove_101 rfl ?_
          refine gf_jn (fun (j18 : Hp → Option (Unit × Hp)) => ∀ (h17 : Hp), GF K eV h17 122 [some (.ref t), none, none, none, none, some (.int v10), none] [] (j18 h17)) ?_ (fun j18 kj18 => ?_)
          · intro h17
            refine gf_iinc C dX5_remove_122 rfl (ii_1 _) [some (.ref t), none, none, none, none, some (.int (v10 + (1 : Int32))), none] rfl rfl ?_
            refine gf_goto C 65 dX5_remove_125 (by decide) ?_
            exact gf_sub [some (.ref t), none, none, none, none, some (.int (v10 + (1 : Int32))), none] (And.intro rfl (And.intro rfl trivial)) (kc12 (v10 + (1 : Int32)) h17)
          refine gf_iflt C 122 dX5_remove_103 (by decide) (fun _ => ?_) (fun _ => ?_)
          · exact gf_sub [some (.ref t), none, none, none, none, some (.int v10), none] (And.intro rfl (And.intro rfl trivial)) (kj18 h16)
          · refine gf_iload C dX5_remove_106 rfl (gf_bipush C dX5_remove_108 kb_56 ?_)
            refine gf_icmpge C 122 dX5_remove_110 (by decide) (fun _ => ?_) (fun _ => ?_)
            · refine gf_aload_n C dX5_remove_113 rfl rfl (gf_getR C dX5_remove_114 fl_X5_15 ht rfl (t + 2) (lr_5_2 ht) (gf_iload C dX5_remove_117 rfl (gf_iload C dX5_remove_119 rfl (gf_iast C dX5_remove_121 (lq_5_2 ht) ?_))))
              refine gf_jlH (fun h19 => ?_)
              exact gf_sub [some (.ref t), none, none, none, none, some (.int v10), none] (And.intro rfl (And.intro rfl trivial)) (kj18 h19)
            · exact gf_sub [some (.ref t), none, none, none, none, some (.int v10), none] (And.intro rfl (And.intro rfl trivial)) (kj18 h16)
        · exact gf_sub [none, none, none, none, none, none, none] trivial (kj14 h11)
      · exact gf_sub [none, none, none, none, none, none, none] trivial (kj14 h11)
    · exact gf_sub [none, none, none, none, none, none, none] trivial (kj4 h2)
def F_X7_copyFrom (t : Nat) (a1 : Nat) (h : Hp) : Option (Unit × Hp) :=
  jl (sS h (64 * t + 1) (sG h (64 * a1 + 1))) (fun h1 => gd (cpB (0 : Int32) (0 : Int32) (7 : Int32) 7 7) ( jl (lV h1 (t + 1) (va_cpy (lF h1 (a1 + 1)) (lF h1 (t + 1)) (0 : Int32).toNatClampNeg (0 : Int32).toNatClampNeg (7 : Int32).toNatClampNeg)) (fun h2 => gd (cpB (0 : Int32) (0 : Int32) (7 : Int32) 7 7) ( jl (aV h2 (t + 2) (va_cpy (aF h2 (a1 + 2)) (aF h2 (t + 2)) (0 : Int32).toNatClampNeg (0 : Int32).toNatClampNeg (7 : Int32).toNatClampNeg)) (fun h3 => gd (cpB (0 : Int32) (0 : Int32) (6 : Int32) 6 6) ( jl (aV h3 (t + 4) (va_cpy (aF h3 (a1 + 4)) (aF h3 (t + 4)) (0 : Int32).toNatClampNeg (0 : Int32).toNatClampNeg (6 : Int32).toNatClampNeg)) (fun h4 => gd (cpB (0 : Int32) (0 : Int32) (6 : Int32) 6 6) ( jl (aV h4 (t + 5) (va_cpy (aF h4 (a1 + 5)) (aF h4 (t + 5)) (0 : Int32).toNatClampNeg (0 : Int32).toNatClampNeg (6 : Int32).toNatClampNeg)) (fun h5 => some ((), h5))))))))))
set_option maxRecDepth 100000 in
set_option maxHeartbeats 4000000 in
theorem ok_X7_copyFrom (t : Nat) (a1 : Nat) (ht : shp t = (0, 7)) (ha1 : shp a1 = (0, 7)) (h : Hp) (rZ : Unit) (hZ : Hp) (eZ : F_X7_copyFrom t a1 h = some (rZ, hZ)) : AC yX7_copyFrom cX7_copyFrom 2 (none) 1 18 [.ref t, .ref a1] h (eV rZ) hZ := by
  refine AC_intro (o := F_X7_copyFrom t a1 h) RX7 rfl (plainFor_of_name (by decide)) [some (.ref t), some (.ref a1)] rfl (fun _ => rfl) (fun _ => Nat.le_of_ble_eq_true rfl) eZ (fun K C => ?_)
  unfold F_X7_copyFrom
  refine gf_aload_n C dX7_copyFrom_0 rfl rfl (gf_aload_n C dX7_copyFrom_1 rfl rfl (gf_getI C dX7_copyFrom_2 fl_X7_43 ha1 rfl (64 * a1 + 1) rfl (gf_putI C dX7_copyFrom_5 fp_X7_43 ht rfl (64 * t + 1) rfl ?_)))
  refine gf_jlH (fun h1 => ?_)
  refine gf_aload_n C dX7_copyFrom_8 rfl rfl (gf_getR C dX7_copyFrom_9 fl_X7_9 ha1 rfl (a1 + 1) (lr_7_2 ha1) (gf_iconst C dX7_copyFrom_12 ki_0 (gf_aload_n C dX7_copyFrom_13 rfl rfl (gf_getR C dX7_copyFrom_14 fl_X7_9 ht rfl (t + 1) (lr_7_2 ht) (gf_iconst C dX7_copyFrom_17 ki_0 (gf_bipush C dX7_copyFrom_18 kb_7 (gf_copyL C dX7_copyFrom_20 cp_X7_63 (lq_7_2 ha1) (lq_7_2 ht) rfl (Nat.le_of_ble_eq_true rfl) (Nat.le_of_ble_eq_true rfl) ?_)))))))
  refine gf_jlH (fun h2 => ?_)
  refine gf_aload_n C dX7_copyFrom_23 rfl rfl (gf_getR C dX7_copyFrom_24 fl_X7_15 ha1 rfl (a1 + 2) (lr_7_3 ha1) (gf_iconst C dX7_copyFrom_27 ki_0 (gf_aload_n C dX7_copyFrom_28 rfl rfl (gf_getR C dX7_copyFrom_29 fl_X7_15 ht rfl (t + 2) (lr_7_3 ht) (gf_iconst C dX7_copyFrom_32 ki_0 (gf_bipush C dX7_copyFrom_33 kb_7 (gf_copyI C dX7_copyFrom_35 cp_X7_63 (lq_7_3 ha1) (lq_7_3 ht) rfl (Nat.le_of_ble_eq_true rfl) (Nat.le_of_ble_eq_true rfl) ?_)))))))
  refine gf_jlH (fun h3 => ?_)
  refine gf_aload_n C dX7_copyFrom_38 rfl rfl (gf_getR C dX7_copyFrom_39 fl_X7_22 ha1 rfl (a1 + 4) (lr_7_5 ha1) (gf_iconst C dX7_copyFrom_42 ki_0 (gf_aload_n C dX7_copyFrom_43 rfl rfl (gf_getR C dX7_copyFrom_44 fl_X7_22 ht rfl (t + 4) (lr_7_5 ht) (gf_iconst C dX7_copyFrom_47 ki_0 (gf_bipush C dX7_copyFrom_48 kb_6 (gf_copyI C dX7_copyFrom_50 cp_X7_63 (lq_7_5 ha1) (lq_7_5 ht) rfl (Nat.le_of_ble_eq_true rfl) (Nat.le_of_ble_eq_true rfl) ?_)))))))
  refine gf_jlH (fun h4 => ?_)
  refine gf_aload_n C dX7_copyFrom_53 rfl rfl (gf_getR C dX7_copyFrom_54 fl_X7_25 ha1 rfl (a1 + 5) (lr_7_6 ha1) (gf_iconst C dX7_copyFrom_57 ki_0 (gf_aload_n C dX7_copyFrom_58 rfl rfl (gf_getR C dX7_copyFrom_59 fl_X7_25 ht rfl (t + 5) (lr_7_6 ht) (gf_iconst C dX7_copyFrom_62 ki_0 (gf_bipush C dX7_copyFrom_63 kb_6 (gf_copyI C dX7_copyFrom_65 cp_X7_63 (lq_7_6 ha1) (lq_7_6 ht) rfl (Nat.le_of_ble_eq_true rfl) (Nat.le_of_ble_eq_true rfl) ?_)))))))
  refine gf_jlH (fun h5 => ?_)
  exact gf_vret C dX7_copyFrom_68 rfl
def F_X5_slackOf (t : Nat) (a1 : Int32) (a2 : Int32) (h : Hp) : Option (Int32 × Hp) :=
  bd (F_X5_isKey a1 a2 h) (fun r1 h2 => jn (fun (s3 : Int32) (h4 : Hp) =>
  some (s3, h4)) (fun j5 => if r1 = 0 then (
  j5 (-1 : Int32) h2) else (
  gd (inb ((a1 * (8 : Int32)) + a2) 56) ( j5 (aG h2 (t + 4) ((a1 * (8 : Int32)) + a2).toNatClampNeg) h2))))
set_option maxRecDepth 100000 in
set_option maxHeartbeats 4000000 in
theorem ok_X5_slackOf (t : Nat) (a1 : Int32) (a2 : Int32) (ht : shp t = (0, 5)) (h : Hp) (rZ : Int32) (hZ : Hp) (eZ : F_X5_slackOf t a1 a2 h = some (rZ, hZ)) : AC yX5_slackOf cX5_slackOf 3 (some .int) 1 21 [.ref t, .int a1, .int a2] h (eI rZ) hZ := by
  refine AC_intro (o := F_X5_slackOf t a1 a2 h) RX5 rfl (plainFor_of_name (by decide)) [some (.ref t), some (.int a1), some (.int a2)] rfl (fun _ => rfl) (fun _ => Nat.le_of_ble_eq_true rfl) eZ (fun K C => ?_)
  unfold F_X5_slackOf
  refine gf_iload_n C dX5_slackOf_0 rfl rfl (gf_iload_n C dX5_slackOf_1 rfl rfl ?_)
  refine gf_callS (ε2 := eI) C [.int a1, .int a2] dX5_slackOf_2 mw_X5_isKey ml_X5_43 (fun rZ hZ eZ => ok_X5_isKey a1 a2 h rZ hZ eZ) rfl rfl rfl (Nat.le_of_ble_eq_true rfl) (Nat.le_of_ble_eq_true rfl) (Nat.le_of_ble_eq_true rfl) (fun r1 h2 => ?_)
  refine gf_jn (fun (j5 : Int32 → Hp → Option (Int32 × Hp)) => ∀ (s3 : Int32) (h4 : Hp), GF K eI h4 23 [none, none, none] [.int s3] (j5 s3 h4)) ?_ (fun j5 kj5 => ?_)
  · intro s3 h4
    exact gf_iret C dX5_slackOf_23 rfl
  refine gf_ifeq C 22 dX5_slackOf_5 (by decide) (fun _ => ?_) (fun _ => ?_)
  · refine gf_iconst C dX5_slackOf_22 ki_m1 ?_
    exact gf_sub [none, none, none] trivial (kj5 (-1 : Int32) h2)
  · refine gf_aload_n C dX5_slackOf_8 rfl rfl (gf_getR C dX5_slackOf_9 fl_X5_21 ht rfl (t + 4) (lr_5_4 ht) (gf_iload_n C dX5_slackOf_12 rfl rfl (gf_bipush C dX5_slackOf_13 kb_8 (gf_imul C dX5_slackOf_15 (gf_iload_n C dX5_slackOf_16 rfl rfl (gf_iadd C dX5_slackOf_17 (gf_iald C dX5_slackOf_18 (lq_5_4 ht) ?_)))))))
    refine gf_goto C 23 dX5_slackOf_19 (by decide) ?_
    exact gf_sub [none, none, none] trivial (kj5 (aG h2 (t + 4) ((a1 * (8 : Int32)) + a2).toNatClampNeg) h2)
def F_J9_abs_0f7a4 (a1 : Int32) (h : Hp) : Option (Int32 × Hp) :=
  jn (fun (s1 : Int32) (h2 : Hp) =>
  some (s1, h2)) (fun j3 => if a1 < 0 then (
  j3 (-a1) h) else (
  j3 a1 h))
set_option maxRecDepth 100000 in
set_option maxHeartbeats 4000000 in
theorem ok_J9_abs_0f7a4 (a1 : Int32) (h : Hp) (rZ : Int32) (hZ : Hp) (eZ : F_J9_abs_0f7a4 a1 h = some (rZ, hZ)) : AC yJ9_abs_0f7a4 cJ9_abs_0f7a4 1 (some .int) 0 0 [.int a1] h (eI rZ) hZ := by
  refine AC_intro (o := F_J9_abs_0f7a4 a1 h) RJ9 rfl (by decide +kernel) [some (.int a1)] rfl (fun _ => rfl) (fun _ => Nat.le_of_ble_eq_true rfl) eZ (fun K C => ?_)
  unfold F_J9_abs_0f7a4
  refine gf_iload_n C dJ9_abs_0f7a4_0 rfl rfl ?_
  refine gf_jn (fun (j3 : Int32 → Hp → Option (Int32 × Hp)) => ∀ (s1 : Int32) (h2 : Hp), GF K eI h2 10 [none] [.int s1] (j3 s1 h2)) ?_ (fun j3 kj3 => ?_)
  · intro s1 h2
    exact gf_iret C dJ9_abs_0f7a4_10 rfl
  refine gf_ifge C 9 dJ9_abs_0f7a4_1 (by decide) (fun _ => ?_) (fun _ => ?_)
  · refine gf_iload_n C dJ9_abs_0f7a4_4 rfl rfl (gf_ineg C dJ9_abs_0f7a4_5 ?_)
    refine gf_goto C 10 dJ9_abs_0f7a4_6 (by decide) ?_
    exact gf_sub [none] trivial (kj3 (-a1) h)
  · refine gf_iload_n C dJ9_abs_0f7a4_9 rfl rfl ?_
    exact gf_sub [none] trivial (kj3 a1 h)
def F_X9_isUp (t : Nat) (a1 : Int32) (h : Hp) : Option (Int32 × Hp) :=
  bd (F_J9_abs_0f7a4 (a1 - (sG h (64 * t + 0))) h) (fun r1 h2 => jn (fun (s3 : Int32) (h4 : Hp) =>
  gd (isB s3) ( some (s3, h4))) (fun j5 => if (12 : Int32) < r1 then (
  j5 (0 : Int32) h2) else (
  j5 (1 : Int32) h2)))
set_option maxRecDepth 100000 in
set_option maxHeartbeats 4000000 in
theorem ok_X9_isUp (t : Nat) (a1 : Int32) (ht : shp t = (0, 9)) (h : Hp) (rZ : Int32) (hZ : Hp) (eZ : F_X9_isUp t a1 h = some (rZ, hZ)) : AC yX9_isUp cX9_isUp 2 (some .boolean) 1 20 [.ref t, .int a1] h (eI rZ) hZ := by
  refine AC_intro (o := F_X9_isUp t a1 h) RX9 rfl (plainFor_of_name (by decide)) [some (.ref t), some (.int a1)] rfl (fun _ => rfl) (fun _ => Nat.le_of_ble_eq_true rfl) eZ (fun K C => ?_)
  unfold F_X9_isUp
  refine gf_iload_n C dX9_isUp_0 rfl rfl (gf_aload_n C dX9_isUp_1 rfl rfl (gf_getI C dX9_isUp_2 fl_X9_18 ht rfl (64 * t + 0) rfl (gf_isub C dX9_isUp_5 ?_)))
  refine gf_callS (ε2 := eI) C [.int (a1 - (sG h (64 * t + 0)))] dX9_isUp_6 mw_J9_abs_0f7a4 ml_X9_28 (fun rZ hZ eZ => ok_J9_abs_0f7a4 (a1 - (sG h (64 * t + 0))) h rZ hZ eZ) rfl rfl rfl (Nat.le_of_ble_eq_true rfl) (Nat.le_of_ble_eq_true rfl) (Nat.le_of_ble_eq_true rfl) (fun r1 h2 => ?_)
  refine gf_bipush C dX9_isUp_9 kb_12 ?_
  refine gf_jn (fun (j5 : Int32 → Hp → Option (Int32 × Hp)) => ∀ (s3 : Int32) (h4 : Hp), GF K eI h4 19 [none, none] [.int s3] (j5 s3 h4)) ?_ (fun j5 kj5 => ?_)
  · intro s3 h4
    refine gf_gd (fun b6 => ?_)
    exact gf_zret C dX9_isUp_19 (isB_nar b6) rfl
  refine gf_icmpgt C 18 dX9_isUp_11 (by decide) (fun _ => ?_) (fun _ => ?_)
  · refine gf_iconst C dX9_isUp_18 ki_0 ?_
    exact gf_sub [none, none] trivial (kj5 (0 : Int32) h2)
  · refine gf_iconst C dX9_isUp_14 ki_1 ?_
    refine gf_goto C 19 dX9_isUp_15 (by decide) ?_
    exact gf_sub [none, none] trivial (kj5 (1 : Int32) h2)
def F_X9_pointAt (t : Nat) (a1 : Int32) (h : Hp) : Option (Int32 × Hp) :=
  bd (F_X9_isUp t a1 h) (fun r1 h2 => jn (fun (s3 : Int32) (h4 : Hp) =>
  some (s3, h4)) (fun j5 => if r1 = 0 then (
  j5 (-1 : Int32) h2) else (
  j5 ((a1 - (sG h2 (64 * t + 0))) + (12 : Int32)) h2)))
set_option maxRecDepth 100000 in
set_option maxHeartbeats 4000000 in
theorem ok_X9_pointAt (t : Nat) (a1 : Int32) (ht : shp t = (0, 9)) (h : Hp) (rZ : Int32) (hZ : Hp) (eZ : F_X9_pointAt t a1 h = some (rZ, hZ)) : AC yX9_pointAt cX9_pointAt 2 (some .int) 2 41 [.ref t, .int a1] h (eI rZ) hZ := by
  refine AC_intro (o := F_X9_pointAt t a1 h) RX9 rfl (plainFor_of_name (by decide)) [some (.ref t), some (.int a1)] rfl (fun _ => rfl) (fun _ => Nat.le_of_ble_eq_true rfl) eZ (fun K C => ?_)
  unfold F_X9_pointAt
  refine gf_aload_n C dX9_pointAt_0 rfl rfl (gf_iload_n C dX9_pointAt_1 rfl rfl ?_)
  refine gf_callV (ε2 := eI) C [.int a1] dX9_pointAt_2 mw_X9_isUp ml_X9_34 ht (fun rZ hZ eZ => ok_X9_isUp t a1 ht h rZ hZ eZ) rfl rfl rfl (Nat.le_of_ble_eq_true rfl) (Nat.le_of_ble_eq_true rfl) (Nat.le_of_ble_eq_true rfl) (fun r1 h2 => ?_)
  refine gf_jn (fun (j5 : Int32 → Hp → Option (Int32 × Hp)) => ∀ (s3 : Int32) (h4 : Hp), GF K eI h4 21 [none, none] [.int s3] (j5 s3 h4)) ?_ (fun j5 kj5 => ?_)
  · intro s3 h4
    exact gf_iret C dX9_pointAt_21 rfl
  refine gf_ifeq C 20 dX9_pointAt_5 (by decide) (fun _ => ?_) (fun _ => ?_)
  · refine gf_iconst C dX9_pointAt_20 ki_m1 ?_
    exact gf_sub [none, none] trivial (kj5 (-1 : Int32) h2)
  · refine gf_iload_n C dX9_pointAt_8 rfl rfl (gf_aload_n C dX9_pointAt_9 rfl rfl (gf_getI C dX9_pointAt_10 fl_X9_18 ht rfl (64 * t + 0) rfl (gf_isub C dX9_pointAt_13 (gf_bipush C dX9_pointAt_14 kb_12 (gf_iadd C dX9_pointAt_16 ?_)))))
    refine gf_goto C 21 dX9_pointAt_17 (by decide) ?_
    exact gf_sub [none, none] trivial (kj5 ((a1 - (sG h2 (64 * t + 0))) + (12 : Int32)) h2)
def F_X7_isNear (a1 : Int32) (a2 : Int32) (a3 : Int32) (h : Hp) : Option (Int32 × Hp) :=
  jn (fun (s1 : Int32) (h2 : Hp) =>
  gd (isB s1) ( some (s1, h2))) (fun j3 => jn (fun (h5 : Hp) =>
  j3 (1 : Int32) h5) (fun j6 => if a3 = (-1 : Int32) then (
  j6 h) else (
  bd (F_J9_abs_0f7a4 (a1 - a2) h) (fun r7 h8 => if a3 < r7 then (
  j3 (0 : Int32) h8) else (
  j6 h8)))))
set_option maxRecDepth 100000 in
set_option maxHeartbeats 4000000 in
theorem ok_X7_isNear (a1 : Int32) (a2 : Int32) (a3 : Int32) (h : Hp) (rZ : Int32) (hZ : Hp) (eZ : F_X7_isNear a1 a2 a3 h = some (rZ, hZ)) : AC yX7_isNear cX7_isNear 3 (some .boolean) 1 20 [.int a1, .int a2, .int a3] h (eI rZ) hZ := by
  refine AC_intro (o := F_X7_isNear a1 a2 a3 h) RX7 rfl (plainFor_of_name (by decide)) [some (.int a1), some (.int a2), some (.int a3)] rfl (fun _ => rfl) (fun _ => Nat.le_of_ble_eq_true rfl) eZ (fun K C => ?_)
  unfold F_X7_isNear
  refine gf_iload_n C dX7_isNear_0 rfl rfl (gf_iconst C dX7_isNear_1 ki_m1 ?_)
  refine gf_jn (fun (j3 : Int32 → Hp → Option (Int32 × Hp)) => ∀ (s1 : Int32) (h2 : Hp), GF K eI h2 20 [none, none, none] [.int s1] (j3 s1 h2)) ?_ (fun j3 kj3 => ?_)
  · intro s1 h2
    refine gf_gd (fun b4 => ?_)
    exact gf_zret C dX7_isNear_20 (isB_nar b4) rfl
  refine gf_jn (fun (j6 : Hp → Option (Int32 × Hp)) => ∀ (h5 : Hp), GF K eI h5 15 [none, none, none] [] (j6 h5)) ?_ (fun j6 kj6 => ?_)
  · intro h5
    refine gf_iconst C dX7_isNear_15 ki_1 ?_
    refine gf_goto C 20 dX7_isNear_16 (by decide) ?_
    exact gf_sub [none, none, none] trivial (kj3 (1 : Int32) h5)
  refine gf_icmpeq C 15 dX7_isNear_2 (by decide) (fun _ => ?_) (fun _ => ?_)
  · exact gf_sub [none, none, none] trivial (kj6 h)
  · refine gf_iload_n C dX7_isNear_5 rfl rfl (gf_iload_n C dX7_isNear_6 rfl rfl (gf_isub C dX7_isNear_7 ?_))
    refine gf_callS (ε2 := eI) C [.int (a1 - a2)] dX7_isNear_8 mw_J9_abs_0f7a4 ml_X7_100 (fun rZ hZ eZ => ok_J9_abs_0f7a4 (a1 - a2) h rZ hZ eZ) rfl rfl rfl (Nat.le_of_ble_eq_true rfl) (Nat.le_of_ble_eq_true rfl) (Nat.le_of_ble_eq_true rfl) (fun r7 h8 => ?_)
    refine gf_iload_n C dX7_isNear_11 rfl rfl ?_
    refine gf_icmpgt C 19 dX7_isNear_12 (by decide) (fun _ => ?_) (fun _ => ?_)
    · refine gf_iconst C dX7_isNear_19 ki_0 ?_
      exact gf_sub [none, none, none] trivial (kj3 (0 : Int32) h8)
    · exact gf_sub [none, none, none] trivial (kj6 h8)
def F_X9_lengthAt (t : Nat) (a1 : Int32) (h : Hp) : Option (Int32 × Hp) :=
  jl (a1 - (sG h (64 * t + 0))) (fun x1 => bd (F_X9_isUp t a1 h) (fun r2 h3 => jn (fun (s4 : Int32) (h5 : Hp) =>
  some (s4, h5)) (fun j6 => if r2 = 0 then (
  j6 (-1 : Int32) h3) else (
  j6 ((sG h3 (64 * t + 2)) + ((((sG h3 (64 * t + 1)) * x1) * x1) / (4 : Int32))) h3))))
set_option maxRecDepth 100000 in
set_option maxHeartbeats 4000000 in
theorem ok_X9_lengthAt (t : Nat) (a1 : Int32) (ht : shp t = (0, 9)) (h : Hp) (rZ : Int32) (hZ : Hp) (eZ : F_X9_lengthAt t a1 h = some (rZ, hZ)) : AC yX9_lengthAt cX9_lengthAt 3 (some .int) 2 41 [.ref t, .int a1] h (eI rZ) hZ := by
  refine AC_intro (o := F_X9_lengthAt t a1 h) RX9 rfl (plainFor_of_name (by decide)) [some (.ref t), some (.int a1), none] rfl (fun _ => rfl) (fun _ => Nat.le_of_ble_eq_true rfl) eZ (fun K C => ?_)
  unfold F_X9_lengthAt
  refine gf_iload_n C dX9_lengthAt_0 rfl rfl (gf_aload_n C dX9_lengthAt_1 rfl rfl (gf_getI C dX9_lengthAt_2 fl_X9_18 ht rfl (64 * t + 0) rfl (gf_isub C dX9_lengthAt_5 ?_)))
  refine gf_jlI (fun x1 => ?_)
  refine gf_istore_n C dX9_lengthAt_6 rfl [some (.ref t), some (.int a1), some (.int x1)] rfl rfl (Nat.le_of_ble_eq_true rfl) (gf_aload_n C dX9_lengthAt_7 rfl rfl (gf_iload_n C dX9_lengthAt_8 rfl rfl ?_))
  refine gf_callV (ε2 := eI) C [.int a1] dX9_lengthAt_9 mw_X9_isUp ml_X9_34 ht (fun rZ hZ eZ => ok_X9_isUp t a1 ht h rZ hZ eZ) rfl rfl rfl (Nat.le_of_ble_eq_true rfl) (Nat.le_of_ble_eq_true rfl) (Nat.le_of_ble_eq_true rfl) (fun r2 h3 => ?_)
  refine gf_jn (fun (j6 : Int32 → Hp → Option (Int32 × Hp)) => ∀ (s4 : Int32) (h5 : Hp), GF K eI h5 34 [none, none, none] [.int s4] (j6 s4 h5)) ?_ (fun j6 kj6 => ?_)
  · intro s4 h5
    exact gf_iret C dX9_lengthAt_34 rfl
  refine gf_ifeq C 33 dX9_lengthAt_12 (by decide) (fun _ => ?_) (fun _ => ?_)
  · refine gf_iconst C dX9_lengthAt_33 ki_m1 ?_
    exact gf_sub [none, none, none] trivial (kj6 (-1 : Int32) h3)
  · refine gf_aload_n C dX9_lengthAt_15 rfl rfl (gf_getI C dX9_lengthAt_16 fl_X9_25 ht rfl (64 * t + 2) rfl (gf_aload_n C dX9_lengthAt_19 rfl rfl (gf_getI C dX9_lengthAt_20 fl_X9_22 ht rfl (64 * t + 1) rfl (gf_iload_n C dX9_lengthAt_23 rfl rfl (gf_imul C dX9_lengthAt_24 (gf_iload_n C dX9_lengthAt_25 rfl rfl (gf_imul C dX9_lengthAt_26 ?_)))))))
    refine gf_iconst C dX9_lengthAt_27 ki_4 (gf_idivC C dX9_lengthAt_28 (by decide) (gf_iadd C dX9_lengthAt_29 ?_))
    refine gf_goto C 34 dX9_lengthAt_30 (by decide) ?_
    exact gf_sub [none, none, none] trivial (kj6 ((sG h3 (64 * t + 2)) + ((((sG h3 (64 * t + 1)) * x1) * x1) / (4 : Int32))) h3)
def F_X7_readWindow (t : Nat) (a1 : Nat) (a2 : Nat) (a3 : Int32) (h : Hp) : Option (Unit × Hp) :=
  jn (fun (h1 : Hp) =>
  some ((), h1)) (fun j2 => if a3 < 0 then (
  j2 h) else (
  if a3 < (7 : Int32) then (
  bd (F_X5_valueOf a2 a3 (0 : Int32) h) (fun r3 h4 => bd (F_X5_slackOf a2 a3 (0 : Int32) h4) (fun r5 h6 => bd (F_X5_valueOf a2 a3 (1 : Int32) h6) (fun r7 h8 => bd (F_X5_slackOf a2 a3 (1 : Int32) h8) (fun r9 h10 => gd (inb a3 7) ( jl (lS h10 (t + 1) a3.toNatClampNeg (281474976710655 : Int64)) (fun h11 => jn (fun (h12 : Hp) =>
  (lp 4000000000 (fun (c17 : Int64 → Int32 → Hp → Option (Unit × Hp)) (v14 : Int64) (v15 : Int32) (h16 : Hp) =>
  if v15 < (48 : Int32) then (
  bd (F_X9_isUp (a1 + 1) v15 h16) (fun r18 h19 => jn (fun (s20 : Int32) (h21 : Hp) =>
  jn (fun (v23 : Int64) (h24 : Hp) =>
  c17 v23 (v15 + (1 : Int32)) h24) (fun j25 => if s20 = 0 then (
  j25 v14 h21) else (
  jl (v14 ||| ((1 : Int64) <<< (v15.toInt64 &&& 63))) (fun x26 => j25 x26 h21)))) (fun j22 => jn (fun (h27 : Hp) =>
  j22 (0 : Int32) h27) (fun j28 => if r18 = 0 then (
  j28 h19) else (
  bd (F_X9_pointAt (a1 + 1) v15 h19) (fun r29 h30 => bd (F_X7_isNear r29 r3 r5 h30) (fun r31 h32 => if r31 = 0 then (
  j28 h32) else (
  bd (F_X9_lengthAt (a1 + 1) v15 h32) (fun r33 h34 => bd (F_X7_isNear r33 r7 r9 h34) (fun r35 h36 => if r35 = 0 then (
  j28 h36) else (
  j22 (1 : Int32) h36))))))))))) else (
  gd (inb a3 7) ( jl (lS h16 (t + 1) a3.toNatClampNeg v14) (fun h37 => some ((), h37))))) (fun _ _ _ => none)) (0 : Int64) (0 : Int32) h12) (fun j13 => if r5 = (-1 : Int32) then (
  if r9 = (-1 : Int32) then (
  some ((), h11)) else (
  j13 h11)) else (
  j13 h11))))))))) else (
  j2 h)))
set_option maxRecDepth 100000 in
set_option maxHeartbeats 4000000 in
theorem ok_X7_readWindow (t : Nat) (a1 : Nat) (a2 : Nat) (a3 : Int32) (ht : shp t = (0, 7)) (ha1 : shp a1 = (0, 0)) (ha2 : shp a2 = (0, 5)) (h : Hp) (rZ : Unit) (hZ : Hp) (eZ : F_X7_readWindow t a1 a2 a3 h = some (rZ, hZ)) : AC yX7_readWindow cX7_readWindow 12 (none) 3 63 [.ref t, .ref a1, .ref a2, .int a3] h (eV rZ) hZ := by
  refine AC_intro (o := F_X7_readWindow t a1 a2 a3 h) RX7 rfl (plainFor_of_name (by decide)) [some (.ref t), some (.ref a1), some (.ref a2), some (.int a3), none, none, none, none, none, none, none, none] rfl (fun _ => rfl) (fun _ => Nat.le_of_ble_eq_true rfl) eZ (fun K C => ?_)
  unfold F_X7_readWindow
  refine gf_iload_n C dX7_readWindow_0 rfl rfl ?_
  refine gf_jn (fun (j2 : Hp → Option (Unit × Hp)) => ∀ (h1 : Hp), GF K eV h1 10 [none, none, none, none, none, none, none, none, none, none, none, none] [] (j2 h1)) ?_ (fun j2 kj2 => ?_)
  · intro h1
    exact gf_vret C dX7_readWindow_10 rfl
  refine gf_iflt C 10 dX7_readWindow_1 (by decide) (fun _ => ?_) (fun _ => ?_)
  · exact gf_sub [none, none, none, none, none, none, none, none, none, none, none, none] trivial (kj2 h)
  · refine gf_iload_n C dX7_readWindow_4 rfl rfl (gf_bipush C dX7_readWindow_5 kb_7 ?_)
    refine gf_icmplt C 11 dX7_readWindow_7 (by decide) (fun _ => ?_) (fun _ => ?_)
    · refine gf_aload_n C dX7_readWindow_11 rfl rfl (gf_iload_n C dX7_readWindow_12 rfl rfl (gf_iconst C dX7_readWindow_13 ki_0 ?_))
      refine gf_callV (ε2 := eI) C [.int a3, .int (0 : Int32)] dX7_readWindow_14 mw_X5_valueOf ml_X7_69 ha2 (fun rZ hZ eZ => ok_X5_valueOf a2 a3 (0 : Int32) ha2 h rZ hZ eZ) rfl rfl rfl (Nat.le_of_ble_eq_true rfl) (Nat.le_of_ble_eq_true rfl) (Nat.le_of_ble_eq_true rfl) (fun r3 h4 => ?_)
      refine gf_istore C dX7_readWindow_17 [some (.ref t), some (.ref a1), some (.ref a2), some (.int a3), some (.int r3), none, none, none, none, none, none, none] rfl rfl (Nat.le_of_ble_eq_true rfl) (gf_aload_n C dX7_readWindow_19 rfl rfl (gf_iload_n C dX7_readWindow_20 rfl rfl (gf_iconst C dX7_readWindow_21 ki_0 ?_)))
      refine gf_callV (ε2 := eI) C [.int a3, .int (0 : Int32)] dX7_readWindow_22 mw_X5_slackOf ml_X7_74 ha2 (fun rZ hZ eZ => ok_X5_slackOf a2 a3 (0 : Int32) ha2 h4 rZ hZ eZ) rfl rfl rfl (Nat.le_of_ble_eq_true rfl) (Nat.le_of_ble_eq_true rfl) (Nat.le_of_ble_eq_true rfl) (fun r5 h6 => ?_)
      refine gf_istore C dX7_readWindow_25 [some (.ref t), some (.ref a1), some (.ref a2), some (.int a3), some (.int r3), some (.int r5), none, none, none, none, none, none] rfl rfl (Nat.le_of_ble_eq_true rfl) (gf_aload_n C dX7_readWindow_27 rfl rfl (gf_iload_n C dX7_readWindow_28 rfl rfl (gf_iconst C dX7_readWindow_29 ki_1 ?_)))
      refine gf_callV (ε2 := eI) C [.int a3, .int (1 : Int32)] dX7_readWindow_30 mw_X5_valueOf ml_X7_69 ha2 (fun rZ hZ eZ => ok_X5_valueOf a2 a3 (1 : Int32) ha2 h6 rZ hZ eZ) rfl rfl rfl (Nat.le_of_ble_eq_true rfl) (Nat.le_of_ble_eq_true rfl) (Nat.le_of_ble_eq_true rfl) (fun r7 h8 => ?_)
      refine gf_istore C dX7_readWindow_33 [some (.ref t), some (.ref a1), some (.ref a2), some (.int a3), some (.int r3), some (.int r5), some (.int r7), none, none, none, none, none] rfl rfl (Nat.le_of_ble_eq_true rfl) (gf_aload_n C dX7_readWindow_35 rfl rfl (gf_iload_n C dX7_readWindow_36 rfl rfl (gf_iconst C dX7_readWindow_37 ki_1 ?_)))
      refine gf_callV (ε2 := eI) C [.int a3, .int (1 : Int32)] dX7_readWindow_38 mw_X5_slackOf ml_X7_74 ha2 (fun rZ hZ eZ => ok_X5_slackOf a2 a3 (1 : Int32) ha2 h8 rZ hZ eZ) rfl rfl rfl (Nat.le_of_ble_eq_true rfl) (Nat.le_of_ble_eq_true rfl) (Nat.le_of_ble_eq_true rfl) (fun r9 h10 => ?_)
      refine gf_istore C dX7_readWindow_41 [some (.ref t), some (.ref a1), some (.ref a2), some (.int a3), some (.int r3), some (.int r5), some (.int r7), some (.int r9), none, none, none, none] rfl rfl (Nat.le_of_ble_eq_true rfl) (gf_aload_n C dX7_readWindow_43 rfl rfl (gf_getR C dX7_readWindow_44 fl_X7_9 ht rfl (t + 1) (lr_7_2 ht) (gf_iload_n C dX7_readWindow_47 rfl rfl (gf_ldc2 C dX7_readWindow_48 cw_X7_77 (gf_last C dX7_readWindow_51 (lq_7_2 ht) ?_)))))
      refine gf_jlH (fun h11 => ?_)
      refine gf_iload C dX7_readWindow_52 rfl (gf_iconst C dX7_readWindow_54 ki_m1 ?_)
      refine gf_jn (fun (j13 : Hp → Option (Unit × Hp)) => ∀ (h12 : Hp), GF K eV h12 65 [some (.ref t), some (.ref a1), none, some (.int a3), some (.int r3), some (.int r5), some (.int r7), some (.int r9), none, none, none, none] [] (j13 h12)) ?_ (fun j13 kj13 => ?_)
      · intro h12
        refine gf_lconst C dX7_readWindow_65 kl_0 (gf_lstore C dX7_readWindow_66 [some (.ref t), some (.ref a1), none, some (.int a3), some (.int r3), some (.int r5), some (.int r7), some (.int r9), some (.long (0 : Int64)), none, none, none] rfl rfl (Nat.le_of_ble_eq_true rfl) (gf_iconst C dX7_readWindow_68 ki_0 (gf_istore C dX7_readWindow_69 [some (.ref t), some (.ref a1), none, some (.int a3), some (.int r3), some (.int r5), some (.int r7), some (.int r9), some (.long (0 : Int64)), none, some (.int (0 : Int32)), none] rfl rfl (Nat.le_of_ble_eq_true rfl) ?_)))
        refine gf_sub [some (.ref t), some (.ref a1), none, some (.int a3), some (.int r3), some (.int r5), some (.int r7), some (.int r9), some (.long (0 : Int64)), none, some (.int (0 : Int32)), none] (And.intro rfl (And.intro rfl (And.intro rfl (And.intro rfl (And.intro rfl (And.intro rfl (And.intro rfl (And.intro rfl (And.intro rfl trivial))))))))) ?_
        refine lp_P (fun (c17 : Int64 → Int32 → Hp → Option (Unit × Hp)) => ∀ (v14 : Int64) (v15 : Int32) (h16 : Hp), GF K eV h16 71 [some (.ref t), some (.ref a1), none, some (.int a3), some (.int r3), some (.int r5), some (.int r7), some (.int r9), some (.long v14), none, some (.int v15), none] [] (c17 v14 v15 h16)) (fun _ _ _ => gf_none) (fun c17 kc17 v14 v15 h16 => ?_) (0 : Int64) (0 : Int32) h12
        refine gf_iload C dX7_readWindow_71 rfl (gf_bipush C dX7_readWindow_73 kb_48 ?_)
        refine gf_icmpge C 155 dX7_readWindow_75 (by decide) (fun _ => ?_) (fun _ => ?_)
        · refine gf_aload_n C dX7_readWindow_78 rfl rfl (gf_getR C dX7_readWindow_79 fl_X7_79 ha1 rfl (a1 + 1) (lr_0_2 ha1) (gf_iload C dX7_readWindow_82 rfl ?_))
          refine gf_callV (ε2 := eI) C [.int v15] dX7_readWindow_84 mw_X9_isUp ml_X7_83 (lq_0_2 ha1) (fun rZ hZ eZ => ok_X9_isUp (a1 + 1) v15 (lq_0_2 ha1) h16 rZ hZ eZ) rfl rfl rfl (Nat.le_of_ble_eq_true rfl) (Nat.le_of_ble_eq_true rfl) (Nat.le_of_ble_eq_true rfl) (fun r18 h19 => ?_)
          refine gf_jn (fun (j22 : Int32 → Hp → Option (Unit × Hp)) => ∀ (s20 : Int32) (h21 : Hp), GF K eV h21 133 [some (.ref t), some (.ref a1), none, some (.int a3), some (.int r3), some (.int r5), some (.int r7), some (.int r9), some (.long v14), none, some (.int v15), none] [.int s20] (j22 s20 h21)) ?_ (fun j22 kj22 => ?_)
          · intro s20 h21
            refine gf_istore C dX7_readWindow_133 [some (.ref t), some (.ref a1), none, some (.int a3), some (.int r3), some (.int r5), some (.int r7), some (.int r9), some (.long v14), none, some (.int v15), some (.int s20)] rfl rfl (Nat.le_of_ble_eq_true rfl) (gf_iload C dX7_readWindow_135 rfl ?_)
            refine gf_jn (fun (j25 : Int64 → Hp → Option (Unit × Hp)) => ∀ (v23 : Int64) (h24 : Hp), GF K eV h24 149 [some (.ref t), some (.ref a1), none, some (.int a3), some (.int r3), some (.int r5), some (.int r7), some (.int r9), some (.long v23), none, some (.int v15), none] [] (j25 v23 h24)) ?_ (fun j25 kj25 => ?_)
            · intro v23 h24
              refine gf_iinc C dX7_readWindow_149 rfl (ii_1 _) [some (.ref t), some (.ref a1), none, some (.int a3), some (.int r3), some (.int r5), some (.int r7), some (.int r9), some (.long v23), none, some (.int (v15 + (1 : Int32))), none] rfl rfl ?_
              refine gf_goto C 71 dX7_readWindow_152 (by decide) ?_
              exact gf_sub [some (.ref t), some (.ref a1), none, some (.int a3), some (.int r3), some (.int r5), some (.int r7), some (.int r9), some (.long v23), none, some (.int (v15 + (1 : Int32))), none] (And.intro rfl (And.intro rfl (And.intro rfl (And.intro rfl (And.intro rfl (And.intro rfl (And.intro rfl (And.intro rfl (And.intro rfl trivial))))))))) (kc17 v23 (v15 + (1 : Int32)) h24)
            refine gf_ifeq C 149 dX7_readWindow_137 (by decide) (fun _ => ?_) (fun _ => ?_)
            · exact gf_sub [some (.ref t), some (.ref a1), none, some (.int a3), some (.int r3), some (.int r5), some (.int r7), some (.int r9), some (.long v14), none, some (.int v15), none] (And.intro rfl (And.intro rfl (And.intro rfl (And.intro rfl (And.intro rfl (And.intro rfl (And.intro rfl (And.intro rfl (And.intro rfl trivial))))))))) (kj25 v14 h21)
            · refine gf_lload C dX7_readWindow_140 rfl (gf_lconst C dX7_readWindow_142 kl_1 (gf_iload C dX7_readWindow_143 rfl (gf_lshl C dX7_readWindow_145 (gf_lor C dX7_readWindow_146 ?_))))
              refine gf_jlL (fun x26 => ?_)
              refine gf_lstore C dX7_readWindow_147 [some (.ref t), some (.ref a1), none, some (.int a3), some (.int r3), some (.int r5), some (.int r7), some (.int r9), some (.long x26), none, some (.int v15), some (.int s20)] rfl rfl (Nat.le_of_ble_eq_true rfl) ?_
              exact gf_sub [some (.ref t), some (.ref a1), none, some (.int a3), some (.int r3), some (.int r5), some (.int r7), some (.int r9), some (.long x26), none, some (.int v15), none] (And.intro rfl (And.intro rfl (And.intro rfl (And.intro rfl (And.intro rfl (And.intro rfl (And.intro rfl (And.intro rfl (And.intro rfl trivial))))))))) (kj25 x26 h21)
          refine gf_jn (fun (j28 : Hp → Option (Unit × Hp)) => ∀ (h27 : Hp), GF K eV h27 132 [some (.ref t), some (.ref a1), none, some (.int a3), some (.int r3), some (.int r5), some (.int r7), some (.int r9), some (.long v14), none, some (.int v15), none] [] (j28 h27)) ?_ (fun j28 kj28 => ?_)
          · intro h27
            refine gf_iconst C dX7_readWindow_132 ki_0 ?_
            exact gf_sub [some (.ref t), some (.ref a1), none, some (.int a3), some (.int r3), some (.int r5), some (.int r7), some (.int r9), some (.long v14), none, some (.int v15), none] (And.intro rfl (And.intro rfl (And.intro rfl (And.intro rfl (And.intro rfl (And.intro rfl (And.intro rfl (And.intro rfl (And.intro rfl trivial))))))))) (kj22 (0 : Int32) h27)
          refine gf_ifeq C 132 dX7_readWindow_87 (by decide) (fun _ => ?_) (fun _ => ?_)
          · exact gf_sub [some (.ref t), some (.ref a1), none, some (.int a3), some (.int r3), some (.int r5), some (.int r7), some (.int r9), some (.long v14), none, some (.int v15), none] (And.intro rfl (And.intro rfl (And.intro rfl (And.intro rfl (And.intro rfl (And.intro rfl (And.intro rfl (And.intro rfl (And.intro rfl trivial))))))))) (kj28 h19)
          · refine gf_aload_n C dX7_readWindow_90 rfl rfl (gf_getR C dX7_readWindow_91 fl_X7_79 ha1 rfl (a1 + 1) (lr_0_2 ha1) (gf_iload C dX7_readWindow_94 rfl ?_))
            refine gf_callV (ε2 := eI) C [.int v15] dX7_readWindow_96 mw_X9_pointAt ml_X7_89 (lq_0_2 ha1) (fun rZ hZ eZ => ok_X9_pointAt (a1 + 1) v15 (lq_0_2 ha1) h19 rZ hZ eZ) rfl rfl rfl (Nat.le_of_ble_eq_true rfl) (Nat.le_of_ble_eq_true rfl) (Nat.le_of_ble_eq_true rfl) (fun r29 h30 => ?_)
            refine gf_iload C dX7_readWindow_99 rfl (gf_iload C dX7_readWindow_101 rfl ?_)
            refine gf_callS (ε2 := eI) C [.int r29, .int r3, .int r5] dX7_readWindow_103 mw_X7_isNear ml_X7_93 (fun rZ hZ eZ => ok_X7_isNear r29 r3 r5 h30 rZ hZ eZ) rfl rfl rfl (Nat.le_of_ble_eq_true rfl) (Nat.le_of_ble_eq_true rfl) (Nat.le_of_ble_eq_true rfl) (fun r31 h32 => ?_)
            refine gf_ifeq C 132 dX7_readWindow_106 (by decide) (fun _ => ?_) (fun _ => ?_)
            · exact gf_sub [some (.ref t), some (.ref a1), none, some (.int a3), some (.int r3), some (.int r5), some (.int r7), some (.int r9), some (.long v14), none, some (.int v15), none] (And.intro rfl (And.intro rfl (And.intro rfl (And.intro rfl (And.intro rfl (And.intro rfl (And.intro rfl (And.intro rfl (And.intro rfl trivial))))))))) (kj28 h32)
            · refine gf_aload_n C dX7_readWindow_109 rfl rfl (gf_getR C dX7_readWindow_110 fl_X7_79 ha1 rfl (a1 + 1) (lr_0_2 ha1) (gf_iload C dX7_readWindow_113 rfl ?_))
              refine gf_callV (ε2 := eI) C [.int v15] dX7_readWindow_115 mw_X9_lengthAt ml_X7_97 (lq_0_2 ha1) (fun rZ hZ eZ => ok_X9_lengthAt (a1 + 1) v15 (lq_0_2 ha1) h32 rZ hZ eZ) rfl rfl rfl (Nat.le_of_ble_eq_true rfl) (Nat.le_of_ble_eq_true rfl) (Nat.le_of_ble_eq_true rfl) (fun r33 h34 => ?_)
              refine gf_iload C dX7_readWindow_118 rfl (gf_iload C dX7_readWindow_120 rfl ?_)
              refine gf_callS (ε2 := eI) C [.int r33, .int r7, .int r9] dX7_readWindow_122 mw_X7_isNear ml_X7_93 (fun rZ hZ eZ => ok_X7_isNear r33 r7 r9 h34 rZ hZ eZ) rfl rfl rfl (Nat.le_of_ble_eq_true rfl) (Nat.le_of_ble_eq_true rfl) (Nat.le_of_ble_eq_true rfl) (fun r35 h36 => ?_)
              refine gf_ifeq C 132 dX7_readWindow_125 (by decide) (fun _ => ?_) (fun _ => ?_)
              · exact gf_sub [some (.ref t), some (.ref a1), none, some (.int a3), some (.int r3), some (.int r5), some (.int r7), some (.int r9), some (.long v14), none, some (.int v15), none] (And.intro rfl (And.intro rfl (And.intro rfl (And.intro rfl (And.intro rfl (And.intro rfl (And.intro rfl (And.intro rfl (And.intro rfl trivial))))))))) (kj28 h36)
              · refine gf_iconst C dX7_readWindow_128 ki_1 ?_
                refine gf_goto C 133 dX7_readWindow_129 (by decide) ?_
                exact gf_sub [some (.ref t), some (.ref a1), none, some (.int a3), some (.int r3), some (.int r5), some (.int r7), some (.int r9), some (.long v14), none, some (.int v15), none] (And.intro rfl (And.intro rfl (And.intro rfl (And.intro rfl (And.intro rfl (And.intro rfl (And.intro rfl (And.intro rfl (And.intro rfl trivial))))))))) (kj22 (1 : Int32) h36)
        · refine gf_aload_n C dX7_readWindow_155 rfl rfl (gf_getR C dX7_readWindow_156 fl_X7_9 ht rfl (t + 1) (lr_7_2 ht) (gf_iload_n C dX7_readWindow_159 rfl rfl (gf_lload C dX7_readWindow_160 rfl (gf_last C dX7_readWindow_162 (lq_7_2 ht) ?_))))
          refine gf_jlH (fun h37 => ?_)
          exact gf_vret C dX7_readWindow_163 rfl
      refine gf_icmpne C 65 dX7_readWindow_55 (by decide) (fun _ => ?_) (fun _ => ?_)
      · refine gf_iload C dX7_readWindow_58 rfl (gf_iconst C dX7_readWindow_60 ki_m1 ?_)
        refine gf_icmpne C 65 dX7_readWindow_61 (by decide) (fun _ => ?_) (fun _ => ?_)
        · exact gf_vret C dX7_readWindow_64 rfl
        · exact gf_sub [some (.ref t), some (.ref a1), none, some (.int a3), some (.int r3), some (.int r5), some (.int r7), some (.int r9), none, none, none, none] (And.intro rfl (And.intro rfl (And.intro rfl (And.intro rfl (And.intro rfl (And.intro rfl (And.intro rfl trivial))))))) (kj13 h11)
      · exact gf_sub [some (.ref t), some (.ref a1), none, some (.int a3), some (.int r3), some (.int r5), some (.int r7), some (.int r9), none, none, none, none] (And.intro rfl (And.intro rfl (And.intro rfl (And.intro rfl (And.intro rfl (And.intro rfl (And.intro rfl trivial))))))) (kj13 h11)
    · exact gf_sub [none, none, none, none, none, none, none, none, none, none, none, none] trivial (kj2 h)
