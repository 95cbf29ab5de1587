def F_X7_readWear (t : Nat) (h : Hp) : Option (Unit × Hp) :=
  (lp 4000000000 (fun (c3 : Int32 → Hp → Option (Unit × Hp)) (v1 : Int32) (h2 : Hp) =>
  if v1 < (7 : Int32) then (
  (lp 4000000000 (fun (c6 : Int32 → Hp → Option (Unit × Hp)) (v4 : Int32) (h5 : Hp) =>
  if v4 < (7 : Int32) then (
  gd (inb v4 7) ( jn (fun (s7 : Int32) (h8 : Hp) =>
  jn (fun (h10 : Hp) =>
  c6 (v4 + (1 : Int32)) h10) (fun j11 => if s7 = 0 then (
  j11 h8) else (
  gd (inb v1 7) ( gd (inb v1 7) ( jl (aS h8 (t + 2) v1.toNatClampNeg ((aG h8 (t + 2) v1.toNatClampNeg) ||| ((1 : Int32) <<< (v4 &&& 31)))) (fun h12 => j11 h12)))))) (fun j9 => jn (fun (h13 : Hp) =>
  j9 (0 : Int32) h13) (fun j14 => if (aG h5 (t + 6) v4.toNatClampNeg) = (-1 : Int32) then (
  j14 h5) else (
  gd (inb v4 7) ( gd (inb v1 7) ( if (aG h5 (t + 6) v4.toNatClampNeg) < (aG h5 (t + 6) v1.toNatClampNeg) then (
  j9 (1 : Int32) h5) else (
  j14 h5)))))))) else (
  c3 (v1 + (1 : Int32)) h5)) (fun _ _ => none)) (0 : Int32) h2) else (
  some ((), h2))) (fun _ _ => none)) (0 : Int32) h
set_option maxRecDepth 100000 in
set_option maxHeartbeats 4000000 in
theorem ok_X7_readWear (t : Nat) (ht : shp t = (0, 7)) (h : Hp) (rZ : Unit) (hZ : Hp) (eZ : F_X7_readWear t h = some (rZ, hZ)) : AC yX7_readWear cX7_readWear 4 (none) 0 0 [.ref t] h (eV rZ) hZ := by
  refine AC_intro (o := F_X7_readWear t h) RX7 rfl (plainFor_of_name (by decide)) [some (.ref t), none, none, none] rfl (fun _ => rfl) (fun _ => Nat.le_of_ble_eq_true rfl) eZ (fun K C => ?_)
  unfold F_X7_readWear
  refine gf_iconst C dX7_readWear_0 ki_0 (gf_istore_n C dX7_readWear_1 rfl [some (.ref t), some (.int (0 : Int32)), none, none] rfl rfl (Nat.le_of_ble_eq_true rfl) ?_)
  refine gf_sub [some (.ref t), some (.int (0 : Int32)), none, none] (And.intro rfl (And.intro rfl trivial)) ?_
  refine lp_P (fun (c3 : Int32 → Hp → Option (Unit × Hp)) => ∀ (v1 : Int32) (h2 : Hp), GF K eV h2 2 [some (.ref t), some (.int v1), none, none] [] (c3 v1 h2)) (fun _ _ => gf_none) (fun c3 kc3 v1 h2 => ?_) (0 : Int32) h
  refine gf_iload_n C dX7_readWear_2 rfl rfl (gf_bipush C dX7_readWear_3 kb_7 ?_)
  refine gf_icmpge C 75 dX7_readWear_5 (by decide) (fun _ => ?_) (fun _ => ?_)
  · refine gf_iconst C dX7_readWear_8 ki_0 (gf_istore_n C dX7_readWear_9 rfl [some (.ref t), some (.int v1), some (.int (0 : Int32)), none] rfl rfl (Nat.le_of_ble_eq_true rfl) ?_)
    refine gf_sub [some (.ref t), some (.int v1), some (.int (0 : Int32)), none] (And.intro rfl (And.intro rfl (And.intro rfl trivial))) ?_
    refine lp_P (fun (c6 : Int32 → Hp → Option (Unit × Hp)) => ∀ (v4 : Int32) (h5 : Hp), GF K eV h5 10 [some (.ref t), some (.int v1), some (.int v4), none] [] (c6 v4 h5)) (fun _ _ => gf_none) (fun c6 kc6 v4 h5 => ?_) (0 : Int32) h2
    refine gf_iload_n C dX7_readWear_10 rfl rfl (gf_bipush C dX7_readWear_11 kb_7 ?_)
    refine gf_icmpge C 69 dX7_readWear_13 (by decide) (fun _ => ?_) (fun _ => ?_)
    · refine gf_aload_n C dX7_readWear_16 rfl rfl (gf_getR C dX7_readWear_17 fl_X7_28 ht rfl (t + 6) (lr_7_7 ht) (gf_iload_n C dX7_readWear_20 rfl rfl (gf_iald C dX7_readWear_21 (lq_7_7 ht) (gf_iconst C dX7_readWear_22 ki_m1 ?_))))
      refine gf_jn (fun (j9 : Int32 → Hp → Option (Unit × Hp)) => ∀ (s7 : Int32) (h8 : Hp), GF K eV h8 46 [some (.ref t), some (.int v1), some (.int v4), none] [.int s7] (j9 s7 h8)) ?_ (fun j9 kj9 => ?_)
      · intro s7 h8
        refine gf_istore_n C dX7_readWear_46 rfl [some (.ref t), some (.int v1), some (.int v4), some (.int s7)] rfl rfl (Nat.le_of_ble_eq_true rfl) (gf_iload_n C dX7_readWear_47 rfl rfl ?_)
        refine gf_jn (fun (j11 : Hp → Option (Unit × Hp)) => ∀ (h10 : Hp), GF K eV h10 63 [some (.ref t), some (.int v1), some (.int v4), none] [] (j11 h10)) ?_ (fun j11 kj11 => ?_)
        · intro h10
          refine gf_iinc C dX7_readWear_63 rfl (ii_1 _) [some (.ref t), some (.int v1), some (.int (v4 + (1 : Int32))), none] rfl rfl ?_
          refine gf_goto C 10 dX7_readWear_66 (by decide) ?_
          exact gf_sub [some (.ref t), some (.int v1), some (.int (v4 + (1 : Int32))), none] (And.intro rfl (And.intro rfl (And.intro rfl trivial))) (kc6 (v4 + (1 : Int32)) h10)
        refine gf_ifeq C 63 dX7_readWear_48 (by decide) (fun _ => ?_) (fun _ => ?_)
        · exact gf_sub [some (.ref t), some (.int v1), some (.int v4), none] (And.intro rfl (And.intro rfl (And.intro rfl trivial))) (kj11 h8)
        · refine gf_aload_n C dX7_readWear_51 rfl rfl (gf_getR C dX7_readWear_52 fl_X7_15 ht rfl (t + 2) (lr_7_3 ht) (gf_iload_n C dX7_readWear_55 rfl rfl (gf_dup2 C dX7_readWear_56 rfl rfl (gf_iald C dX7_readWear_57 (lq_7_3 ht) (gf_iconst C dX7_readWear_58 ki_1 (gf_iload_n C dX7_readWear_59 rfl rfl (gf_ishl C dX7_readWear_60 ?_)))))))
          refine gf_ior C dX7_readWear_61 (gf_iast C dX7_readWear_62 (lq_7_3 ht) ?_)
          refine gf_jlH (fun h12 => ?_)
          exact gf_sub [some (.ref t), some (.int v1), some (.int v4), none] (And.intro rfl (And.intro rfl (And.intro rfl trivial))) (kj11 h12)
      refine gf_jn (fun (j14 : Hp → Option (Unit × Hp)) => ∀ (h13 : Hp), GF K eV h13 45 [some (.ref t), some (.int v1), some (.int v4), none] [] (j14 h13)) ?_ (fun j14 kj14 => ?_)
      · intro h13
        refine gf_iconst C dX7_readWear_45 ki_0 ?_
        exact gf_sub [some (.ref t), some (.int v1), some (.int v4), none] (And.intro rfl (And.intro rfl (And.intro rfl trivial))) (kj9 (0 : Int32) h13)
      refine gf_icmpeq C 45 dX7_readWear_23 (by decide) (fun _ => ?_) (fun _ => ?_)
      · exact gf_sub [some (.ref t), some (.int v1), some (.int v4), none] (And.intro rfl (And.intro rfl (And.intro rfl trivial))) (kj14 h5)
      · refine gf_aload_n C dX7_readWear_26 rfl rfl (gf_getR C dX7_readWear_27 fl_X7_28 ht rfl (t + 6) (lr_7_7 ht) (gf_iload_n C dX7_readWear_30 rfl rfl (gf_iald C dX7_readWear_31 (lq_7_7 ht) (gf_aload_n C dX7_readWear_32 rfl rfl (gf_getR C dX7_readWear_33 fl_X7_28 ht rfl (t + 6) (lr_7_7 ht) (gf_iload_n C dX7_readWear_36 rfl rfl (gf_iald C dX7_readWear_37 (lq_7_7 ht) ?_)))))))
        refine gf_icmpge C 45 dX7_readWear_38 (by decide) (fun _ => ?_) (fun _ => ?_)
        · refine gf_iconst C dX7_readWear_41 ki_1 ?_
          refine gf_goto C 46 dX7_readWear_42 (by decide) ?_
          exact gf_sub [some (.ref t), some (.int v1), some (.int v4), none] (And.intro rfl (And.intro rfl (And.intro rfl trivial))) (kj9 (1 : Int32) h5)
        · exact gf_sub [some (.ref t), some (.int v1), some (.int v4), none] (And.intro rfl (And.intro rfl (And.intro rfl trivial))) (kj14 h5)
    · refine gf_iinc C dX7_readWear_69 rfl (ii_1 _) [some (.ref t), some (.int (v1 + (1 : Int32))), some (.int v4), none] rfl rfl ?_
      refine gf_goto C 2 dX7_readWear_72 (by decide) ?_
      exact gf_sub [some (.ref t), some (.int (v1 + (1 : Int32))), none, none] (And.intro rfl (And.intro rfl trivial)) (kc3 (v1 + (1 : Int32)) h5)
  · exact gf_vret C dX7_readWear_75 rfl
def F_X7_putAhead (t : Nat) (a1 : Int32) (a2 : Int32) (h : Hp) : Option (Unit × Hp) :=
  (lp 4000000000 (fun (c3 : Int32 → Hp → Option (Unit × Hp)) (v1 : Int32) (h2 : Hp) =>
  jn (fun (h4 : Hp) =>
  some ((), h4)) (fun j5 => if v1 < (sG h2 (64 * t + 1)) then (
  if v1 < (7 : Int32) then (
  bd (F_X11_hasBit a2 v1 h2) (fun r6 h7 => jn (fun (h8 : Hp) =>
  c3 (v1 + (1 : Int32)) h8) (fun j9 => if r6 = 0 then (
  j9 h7) else (
  gd (inb v1 7) ( gd (inb v1 7) ( jl (aS h7 (t + 2) v1.toNatClampNeg ((aG h7 (t + 2) v1.toNatClampNeg) ||| a1)) (fun h10 => j9 h10))))))) else (
  j5 h2)) else (
  j5 h2))) (fun _ _ => none)) (0 : Int32) h
set_option maxRecDepth 100000 in
set_option maxHeartbeats 4000000 in
theorem ok_X7_putAhead (t : Nat) (a1 : Int32) (a2 : Int32) (ht : shp t = (0, 7)) (h : Hp) (rZ : Unit) (hZ : Hp) (eZ : F_X7_putAhead t a1 a2 h = some (rZ, hZ)) : AC yX7_putAhead cX7_putAhead 4 (none) 1 21 [.ref t, .int a1, .int a2] h (eV rZ) hZ := by
  refine AC_intro (o := F_X7_putAhead t a1 a2 h) RX7 rfl (plainFor_of_name (by decide)) [some (.ref t), some (.int a1), some (.int a2), none] rfl (fun _ => rfl) (fun _ => Nat.le_of_ble_eq_true rfl) eZ (fun K C => ?_)
  unfold F_X7_putAhead
  refine gf_iconst C dX7_putAhead_0 ki_0 (gf_istore_n C dX7_putAhead_1 rfl [some (.ref t), some (.int a1), some (.int a2), some (.int (0 : Int32))] rfl rfl (Nat.le_of_ble_eq_true rfl) ?_)
  refine gf_sub [some (.ref t), some (.int a1), some (.int a2), some (.int (0 : Int32))] (And.intro rfl (And.intro rfl (And.intro rfl (And.intro rfl trivial)))) ?_
  refine lp_P (fun (c3 : Int32 → Hp → Option (Unit × Hp)) => ∀ (v1 : Int32) (h2 : Hp), GF K eV h2 2 [some (.ref t), some (.int a1), some (.int a2), some (.int v1)] [] (c3 v1 h2)) (fun _ _ => gf_none) (fun c3 kc3 v1 h2 => ?_) (0 : Int32) h
  refine gf_iload_n C dX7_putAhead_2 rfl rfl (gf_aload_n C dX7_putAhead_3 rfl rfl (gf_getI C dX7_putAhead_4 fl_X7_43 ht rfl (64 * t + 1) rfl ?_))
  refine gf_jn (fun (j5 : Hp → Option (Unit × Hp)) => ∀ (h4 : Hp), GF K eV h4 40 [none, none, none, none] [] (j5 h4)) ?_ (fun j5 kj5 => ?_)
  · intro h4
    exact gf_vret C dX7_putAhead_40 rfl
  refine gf_icmpge C 40 dX7_putAhead_7 (by decide) (fun _ => ?_) (fun _ => ?_)
  · refine gf_iload_n C dX7_putAhead_10 rfl rfl (gf_bipush C dX7_putAhead_11 kb_7 ?_)
    refine gf_icmpge C 40 dX7_putAhead_13 (by decide) (fun _ => ?_) (fun _ => ?_)
    · refine gf_iload_n C dX7_putAhead_16 rfl rfl (gf_iload_n C dX7_putAhead_17 rfl rfl ?_)
      refine gf_callSN (ε2 := eI) C [.int a2, .int v1] dX7_putAhead_18 mw_X11_hasBit ml_X7_125 (fun rZ hZ eZ => ok_X11_hasBit a2 v1 h2 rZ hZ eZ) rfl rfl rfl (Nat.le_of_ble_eq_true rfl) (Nat.le_of_ble_eq_true rfl) (Nat.le_of_ble_eq_true rfl) (fun r6 h7 => ?_)
      refine gf_jn (fun (j9 : Hp → Option (Unit × Hp)) => ∀ (h8 : Hp), GF K eV h8 34 [some (.ref t), some (.int a1), some (.int a2), some (.int v1)] [] (j9 h8)) ?_ (fun j9 kj9 => ?_)
      · intro h8
        refine gf_iinc C dX7_putAhead_34 rfl (ii_1 _) [some (.ref t), some (.int a1), some (.int a2), some (.int (v1 + (1 : Int32)))] rfl rfl ?_
        refine gf_goto C 2 dX7_putAhead_37 (by decide) ?_
        exact gf_sub [some (.ref t), some (.int a1), some (.int a2), some (.int (v1 + (1 : Int32)))] (And.intro rfl (And.intro rfl (And.intro rfl (And.intro rfl trivial)))) (kc3 (v1 + (1 : Int32)) h8)
      refine gf_ifeq C 34 dX7_putAhead_21 (by decide) (fun _ => ?_) (fun _ => ?_)
      · exact gf_sub [some (.ref t), some (.int a1), some (.int a2), some (.int v1)] (And.intro rfl (And.intro rfl (And.intro rfl (And.intro rfl trivial)))) (kj9 h7)
      · refine gf_aload_n C dX7_putAhead_24 rfl rfl (gf_getR C dX7_putAhead_25 fl_X7_15 ht rfl (t + 2) (lr_7_3 ht) (gf_iload_n C dX7_putAhead_28 rfl rfl (gf_dup2 C dX7_putAhead_29 rfl rfl (gf_iald C dX7_putAhead_30 (lq_7_3 ht) (gf_iload_n C dX7_putAhead_31 rfl rfl (gf_ior C dX7_putAhead_32 (gf_iast C dX7_putAhead_33 (lq_7_3 ht) ?_)))))))
        refine gf_jlH (fun h10 => ?_)
        exact gf_sub [some (.ref t), some (.int a1), some (.int a2), some (.int v1)] (And.intro rfl (And.intro rfl (And.intro rfl (And.intro rfl trivial)))) (kj9 h10)
    · exact gf_sub [none, none, none, none] trivial (kj5 h2)
  · exact gf_sub [none, none, none, none] trivial (kj5 h2)
def F_X7_readThing (t : Nat) (a1 : Int32) (a2 : Int32) (h : Hp) : Option (Unit × Hp) :=
  jn (fun (h1 : Hp) =>
  some ((), h1)) (fun j2 => if a1 < 0 then (
  j2 h) else (
  if a1 < (6 : Int32) then (
  (lp 4000000000 (fun (c7 : Int32 → Int32 → Int32 → Hp → Option (Unit × Hp)) (v3 : Int32) (v4 : Int32) (v5 : Int32) (h6 : Hp) =>
  if v5 < (7 : Int32) then (
  gd (inb v5 7) ( jn (fun (v8 : Int32) (h9 : Hp) =>
  gd (inb v5 7) ( jn (fun (v11 : Int32) (h12 : Hp) =>
  c7 v8 v11 (v5 + (1 : Int32)) h12) (fun j13 => if (aG h9 (t + 6) v5.toNatClampNeg) = (1 : Int32) then (
  jl (v4 ||| ((1 : Int32) <<< (v5 &&& 31))) (fun x14 => j13 x14 h9)) else (
  j13 v4 h9)))) (fun j10 => if (aG h6 (t + 6) v5.toNatClampNeg) = 0 then (
  jl (v3 ||| ((1 : Int32) <<< (v5 &&& 31))) (fun x15 => j10 x15 h6)) else (
  j10 v3 h6)))) else (
  jn (fun (h16 : Hp) =>
  jn (fun (h18 : Hp) =>
  if a2 = (2 : Int32) then (
  gd (inb a1 6) ( jl (aS h18 (t + 4) a1.toNatClampNeg v4) (fun h20 => gd (inb a1 6) ( jl (aS h20 (t + 5) a1.toNatClampNeg v3) (fun h21 => some ((), h21)))))) else (
  some ((), h18))) (fun j19 => if a2 = (1 : Int32) then (
  bd (F_X7_putAhead t v4 v3 h16) (fun _ h22 => j19 h22)) else (
  j19 h16))) (fun j17 => if a2 = 0 then (
  bd (F_X7_putAhead t v3 v4 h6) (fun _ h23 => j17 h23)) else (
  j17 h6)))) (fun _ _ _ _ => none)) (0 : Int32) (0 : Int32) (0 : Int32) h) else (
  j2 h)))
set_option maxRecDepth 100000 in
set_option maxHeartbeats 4000000 in
theorem ok_X7_readThing (t : Nat) (a1 : Int32) (a2 : Int32) (ht : shp t = (0, 7)) (h : Hp) (rZ : Unit) (hZ : Hp) (eZ : F_X7_readThing t a1 a2 h = some (rZ, hZ)) : AC yX7_readThing cX7_readThing 6 (none) 2 44 [.ref t, .int a1, .int a2] h (eV rZ) hZ := by
  refine AC_intro (o := F_X7_readThing t a1 a2 h) RX7 rfl (plainFor_of_name (by decide)) [some (.ref t), some (.int a1), some (.int a2), none, none, none] rfl (fun _ => rfl) (fun _ => Nat.le_of_ble_eq_true rfl) eZ (fun K C => ?_)
  unfold F_X7_readThing
  refine gf_iload_n C dX7_readThing_0 rfl rfl ?_
  refine gf_jn (fun (j2 : Hp → Option (Unit × Hp)) => ∀ (h1 : Hp), GF K eV h1 10 [none, none, none, none, none, none] [] (j2 h1)) ?_ (fun j2 kj2 => ?_)
  · intro h1
    exact gf_vret C dX7_readThing_10 rfl
  refine gf_iflt C 10 dX7_readThing_1 (by decide) (fun _ => ?_) (fun _ => ?_)
  · exact gf_sub [none, none, none, none, none, none] trivial (kj2 h)
  · refine gf_iload_n C dX7_readThing_4 rfl rfl (gf_bipush C dX7_readThing_5 kb_6 ?_)
    refine gf_icmplt C 11 dX7_readThing_7 (by decide) (fun _ => ?_) (fun _ => ?_)
    · refine gf_iconst C dX7_readThing_11 ki_0 (gf_istore_n C dX7_readThing_12 rfl [some (.ref t), some (.int a1), some (.int a2), some (.int (0 : Int32)), none, none] rfl rfl (Nat.le_of_ble_eq_true rfl) (gf_iconst C dX7_readThing_13 ki_0 (gf_istore C dX7_readThing_14 [some (.ref t), some (.int a1), some (.int a2), some (.int (0 : Int32)), some (.int (0 : Int32)), none] rfl rfl (Nat.le_of_ble_eq_true rfl) (gf_iconst C dX7_readThing_16 ki_0 (gf_istore C dX7_readThing_17 [some (.ref t), some (.int a1), some (.int a2), some (.int (0 : Int32)), some (.int (0 : Int32)), some (.int (0 : Int32))] rfl rfl (Nat.le_of_ble_eq_true rfl) ?_)))))
      refine gf_sub [some (.ref t), some (.int a1), some (.int a2), some (.int (0 : Int32)), some (.int (0 : Int32)), some (.int (0 : Int32))] (And.intro rfl (And.intro rfl (And.intro rfl (And.intro rfl (And.intro rfl (And.intro rfl trivial)))))) ?_
      refine lp_P (fun (c7 : Int32 → Int32 → Int32 → Hp → Option (Unit × Hp)) => ∀ (v3 : Int32) (v4 : Int32) (v5 : Int32) (h6 : Hp), GF K eV h6 19 [some (.ref t), some (.int a1), some (.int a2), some (.int v3), some (.int v4), some (.int v5)] [] (c7 v3 v4 v5 h6)) (fun _ _ _ _ => gf_none) (fun c7 kc7 v3 v4 v5 h6 => ?_) (0 : Int32) (0 : Int32) (0 : Int32) h
      refine gf_iload C dX7_readThing_19 rfl (gf_bipush C dX7_readThing_21 kb_7 ?_)
      refine gf_icmpge C 69 dX7_readThing_23 (by decide) (fun _ => ?_) (fun _ => ?_)
      · refine gf_aload_n C dX7_readThing_26 rfl rfl (gf_getR C dX7_readThing_27 fl_X7_28 ht rfl (t + 6) (lr_7_7 ht) (gf_iload C dX7_readThing_30 rfl (gf_iald C dX7_readThing_32 (lq_7_7 ht) ?_)))
        refine gf_jn (fun (j10 : Int32 → Hp → Option (Unit × Hp)) => ∀ (v8 : Int32) (h9 : Hp), GF K eV h9 43 [some (.ref t), some (.int a1), some (.int a2), some (.int v8), some (.int v4), some (.int v5)] [] (j10 v8 h9)) ?_ (fun j10 kj10 => ?_)
        · intro v8 h9
          refine gf_aload_n C dX7_readThing_43 rfl rfl (gf_getR C dX7_readThing_44 fl_X7_28 ht rfl (t + 6) (lr_7_7 ht) (gf_iload C dX7_readThing_47 rfl (gf_iald C dX7_readThing_49 (lq_7_7 ht) (gf_iconst C dX7_readThing_50 ki_1 ?_))))
          refine gf_jn (fun (j13 : Int32 → Hp → Option (Unit × Hp)) => ∀ (v11 : Int32) (h12 : Hp), GF K eV h12 63 [some (.ref t), some (.int a1), some (.int a2), some (.int v8), some (.int v11), some (.int v5)] [] (j13 v11 h12)) ?_ (fun j13 kj13 => ?_)
          · intro v11 h12
            refine gf_iinc C dX7_readThing_63 rfl (ii_1 _) [some (.ref t), some (.int a1), some (.int a2), some (.int v8), some (.int v11), some (.int (v5 + (1 : Int32)))] rfl rfl ?_
            refine gf_goto C 19 dX7_readThing_66 (by decide) ?_
            exact gf_sub [some (.ref t), some (.int a1), some (.int a2), some (.int v8), some (.int v11), some (.int (v5 + (1 : Int32)))] (And.intro rfl (And.intro rfl (And.intro rfl (And.intro rfl (And.intro rfl (And.intro rfl trivial)))))) (kc7 v8 v11 (v5 + (1 : Int32)) h12)
          refine gf_icmpne C 63 dX7_readThing_51 (by decide) (fun _ => ?_) (fun _ => ?_)
          · refine gf_iload C dX7_readThing_54 rfl (gf_iconst C dX7_readThing_56 ki_1 (gf_iload C dX7_readThing_57 rfl (gf_ishl C dX7_readThing_59 (gf_ior C dX7_readThing_60 ?_))))
            refine gf_jlI (fun x14 => ?_)
            refine gf_istore C dX7_readThing_61 [some (.ref t), some (.int a1), some (.int a2), some (.int v8), some (.int x14), some (.int v5)] rfl rfl (Nat.le_of_ble_eq_true rfl) ?_
            exact gf_sub [some (.ref t), some (.int a1), some (.int a2), some (.int v8), some (.int x14), some (.int v5)] (And.intro rfl (And.intro rfl (And.intro rfl (And.intro rfl (And.intro rfl (And.intro rfl trivial)))))) (kj13 x14 h9)
          · exact gf_sub [some (.ref t), some (.int a1), some (.int a2), some (.int v8), some (.int v4), some (.int v5)] (And.intro rfl (And.intro rfl (And.intro rfl (And.intro rfl (And.intro rfl (And.intro rfl trivial)))))) (kj13 v4 h9)
        refine gf_ifne C 43 dX7_readThing_33 (by decide) (fun _ => ?_) (fun _ => ?_)
        · refine gf_iload_n C dX7_readThing_36 rfl rfl (gf_iconst C dX7_readThing_37 ki_1 (gf_iload C dX7_readThing_38 rfl (gf_ishl C dX7_readThing_40 (gf_ior C dX7_readThing_41 ?_))))
          refine gf_jlI (fun x15 => ?_)
          refine gf_istore_n C dX7_readThing_42 rfl [some (.ref t), some (.int a1), some (.int a2), some (.int x15), some (.int v4), some (.int v5)] rfl rfl (Nat.le_of_ble_eq_true rfl) ?_
          exact gf_sub [some (.ref t), some (.int a1), some (.int a2), some (.int x15), some (.int v4), some (.int v5)] (And.intro rfl (And.intro rfl (And.intro rfl (And.intro rfl (And.intro rfl (And.intro rfl trivial)))))) (kj10 x15 h6)
        · exact gf_sub [some (.ref t), some (.int a1), some (.int a2), some (.int v3), some (.int v4), some (.int v5)] (And.intro rfl (And.intro rfl (And.intro rfl (And.intro rfl (And.intro rfl (And.intro rfl trivial)))))) (kj10 v3 h6)
      · refine gf_iload_n C dX7_readThing_69 rfl rfl ?_
        refine gf_jn (fun (j17 : Hp → Option (Unit × Hp)) => ∀ (h16 : Hp), GF K eV h16 80 [some (.ref t), some (.int a1), some (.int a2), some (.int v3), some (.int v4), none] [] (j17 h16)) ?_ (fun j17 kj17 => ?_)
        · intro h16
          refine gf_iload_n C dX7_readThing_80 rfl rfl (gf_iconst C dX7_readThing_81 ki_1 ?_)
          refine gf_jn (fun (j19 : Hp → Option (Unit × Hp)) => ∀ (h18 : Hp), GF K eV h18 92 [some (.ref t), some (.int a1), some (.int a2), some (.int v3), some (.int v4), none] [] (j19 h18)) ?_ (fun j19 kj19 => ?_)
          · intro h18
            refine gf_iload_n C dX7_readThing_92 rfl rfl (gf_iconst C dX7_readThing_93 ki_2 ?_)
            refine gf_icmpeq C 98 dX7_readThing_94 (by decide) (fun _ => ?_) (fun _ => ?_)
            · refine gf_aload_n C dX7_readThing_98 rfl rfl (gf_getR C dX7_readThing_99 fl_X7_22 ht rfl (t + 4) (lr_7_5 ht) (gf_iload_n C dX7_readThing_102 rfl rfl (gf_iload C dX7_readThing_103 rfl (gf_iast C dX7_readThing_105 (lq_7_5 ht) ?_))))
              refine gf_jlH (fun h20 => ?_)
              refine gf_aload_n C dX7_readThing_106 rfl rfl (gf_getR C dX7_readThing_107 fl_X7_25 ht rfl (t + 5) (lr_7_6 ht) (gf_iload_n C dX7_readThing_110 rfl rfl (gf_iload_n C dX7_readThing_111 rfl rfl (gf_iast C dX7_readThing_112 (lq_7_6 ht) ?_))))
              refine gf_jlH (fun h21 => ?_)
              exact gf_vret C dX7_readThing_113 rfl
            · exact gf_vret C dX7_readThing_97 rfl
          refine gf_icmpne C 92 dX7_readThing_82 (by decide) (fun _ => ?_) (fun _ => ?_)
          · refine gf_aload_n C dX7_readThing_85 rfl rfl (gf_iload C dX7_readThing_86 rfl (gf_iload_n C dX7_readThing_88 rfl rfl ?_))
            refine gf_callV (ε2 := eV) C [.int v4, .int v3] dX7_readThing_89 mw_X7_putAhead ml_X7_122 ht (fun rZ hZ eZ => ok_X7_putAhead t v4 v3 ht h16 rZ hZ eZ) rfl rfl rfl (Nat.le_of_ble_eq_true rfl) (Nat.le_of_ble_eq_true rfl) (Nat.le_of_ble_eq_true rfl) (fun _ h22 => ?_)
            exact gf_sub [some (.ref t), some (.int a1), some (.int a2), some (.int v3), some (.int v4), none] (And.intro rfl (And.intro rfl (And.intro rfl (And.intro rfl (And.intro rfl trivial))))) (kj19 h22)
          · exact gf_sub [some (.ref t), some (.int a1), some (.int a2), some (.int v3), some (.int v4), none] (And.intro rfl (And.intro rfl (And.intro rfl (And.intro rfl (And.intro rfl trivial))))) (kj19 h16)
        refine gf_ifne C 80 dX7_readThing_70 (by decide) (fun _ => ?_) (fun _ => ?_)
        · refine gf_aload_n C dX7_readThing_73 rfl rfl (gf_iload_n C dX7_readThing_74 rfl rfl (gf_iload C dX7_readThing_75 rfl ?_))
          refine gf_callV (ε2 := eV) C [.int v3, .int v4] dX7_readThing_77 mw_X7_putAhead ml_X7_122 ht (fun rZ hZ eZ => ok_X7_putAhead t v3 v4 ht h6 rZ hZ eZ) rfl rfl rfl (Nat.le_of_ble_eq_true rfl) (Nat.le_of_ble_eq_true rfl) (Nat.le_of_ble_eq_true rfl) (fun _ h23 => ?_)
          exact gf_sub [some (.ref t), some (.int a1), some (.int a2), some (.int v3), some (.int v4), none] (And.intro rfl (And.intro rfl (And.intro rfl (And.intro rfl (And.intro rfl trivial))))) (kj17 h23)
        · exact gf_sub [some (.ref t), some (.int a1), some (.int a2), some (.int v3), some (.int v4), none] (And.intro rfl (And.intro rfl (And.intro rfl (And.intro rfl (And.intro rfl trivial))))) (kj17 h6)
    · exact gf_sub [none, none, none, none, none, none] trivial (kj2 h)
def F_X7_readThings (t : Nat) (a1 : Nat) (a2 : Nat) (h : Hp) : Option (Unit × Hp) :=
  bd (F_J7_fill_53178 (t + 2) 7 (0 : Int32) h) (fun _ h1 => bd (F_J7_fill_53178 (t + 4) 6 (0 : Int32) h1) (fun _ h2 => bd (F_J7_fill_53178 (t + 5) 6 (0 : Int32) h2) (fun _ h3 => (lp 4000000000 (fun (c6 : Int32 → Hp → Option (Unit × Hp)) (v4 : Int32) (h5 : Hp) =>
  if v4 < (sG h5 (64 * a1 + 1)) then (
  (lp 4000000000 (fun (c9 : Int32 → Hp → Option (Unit × Hp)) (v7 : Int32) (h8 : Hp) =>
  if v7 < (7 : Int32) then (
  bd (F_X5_valueOf a2 v7 ((2 : Int32) + v4) h8) (fun r10 h11 => gd (inb v7 7) ( jl (aS h11 (t + 6) v7.toNatClampNeg r10) (fun h12 => c9 (v7 + (1 : Int32)) h12)))) else (
  bd (F_X0_kindOf a1 v4 h8) (fun r13 h14 => jn (fun (h15 : Hp) =>
  c6 (v4 + (1 : Int32)) h15) (fun j16 => if r13 = (3 : Int32) then (
  bd (F_X7_readWear t h14) (fun _ h17 => j16 h17)) else (
  bd (F_X0_kindOf a1 v4 h14) (fun r18 h19 => bd (F_X7_readThing t v4 r18 h19) (fun _ h20 => j16 h20))))))) (fun _ _ => none)) (0 : Int32) h5) else (
  some ((), h5))) (fun _ _ => none)) (0 : Int32) h3)))
set_option maxRecDepth 100000 in
set_option maxHeartbeats 4000000 in
theorem ok_X7_readThings (t : Nat) (a1 : Nat) (a2 : Nat) (ht : shp t = (0, 7)) (ha1 : shp a1 = (0, 0)) (ha2 : shp a2 = (0, 5)) (h : Hp) (rZ : Unit) (hZ : Hp) (eZ : F_X7_readThings t a1 a2 h = some (rZ, hZ)) : AC yX7_readThings cX7_readThings 5 (none) 3 69 [.ref t, .ref a1, .ref a2] h (eV rZ) hZ := by
  refine AC_intro (o := F_X7_readThings t a1 a2 h) RX7 rfl (plainFor_of_name (by decide)) [some (.ref t), some (.ref a1), some (.ref a2), none, none] rfl (fun _ => rfl) (fun _ => Nat.le_of_ble_eq_true rfl) eZ (fun K C => ?_)
  unfold F_X7_readThings
  refine gf_aload_n C dX7_readThings_0 rfl rfl (gf_getR C dX7_readThings_1 fl_X7_15 ht rfl (t + 2) (lr_7_3 ht) (gf_iconst C dX7_readThings_4 ki_0 ?_))
  refine gf_callS (ε2 := eV) C [.ref (t + 2), .int (0 : Int32)] dX7_readThings_5 mw_J7_fill_53178 ml_X7_103 (fun rZ hZ eZ => ok_J7_fill_53178 (t + 2) 7 (0 : Int32) (lq_7_3 ht) h rZ hZ eZ) rfl rfl rfl (Nat.le_of_ble_eq_true rfl) (Nat.le_of_ble_eq_true rfl) (Nat.le_of_ble_eq_true rfl) (fun _ h1 => ?_)
  refine gf_aload_n C dX7_readThings_8 rfl rfl (gf_getR C dX7_readThings_9 fl_X7_22 ht rfl (t + 4) (lr_7_5 ht) (gf_iconst C dX7_readThings_12 ki_0 ?_))
  refine gf_callS (ε2 := eV) C [.ref (t + 4), .int (0 : Int32)] dX7_readThings_13 mw_J7_fill_53178 ml_X7_103 (fun rZ hZ eZ => ok_J7_fill_53178 (t + 4) 6 (0 : Int32) (lq_7_5 ht) h1 rZ hZ eZ) rfl rfl rfl (Nat.le_of_ble_eq_true rfl) (Nat.le_of_ble_eq_true rfl) (Nat.le_of_ble_eq_true rfl) (fun _ h2 => ?_)
  refine gf_aload_n C dX7_readThings_16 rfl rfl (gf_getR C dX7_readThings_17 fl_X7_25 ht rfl (t + 5) (lr_7_6 ht) (gf_iconst C dX7_readThings_20 ki_0 ?_))
  refine gf_callS (ε2 := eV) C [.ref (t + 5), .int (0 : Int32)] dX7_readThings_21 mw_J7_fill_53178 ml_X7_103 (fun rZ hZ eZ => ok_J7_fill_53178 (t + 5) 6 (0 : Int32) (lq_7_6 ht) h2 rZ hZ eZ) rfl rfl rfl (Nat.le_of_ble_eq_true rfl) (Nat.le_of_ble_eq_true rfl) (Nat.le_of_ble_eq_true rfl) (fun _ h3 => ?_)
  refine gf_iconst C dX7_readThings_24 ki_0 (gf_istore_n C dX7_readThings_25 rfl [some (.ref t), some (.ref a1), some (.ref a2), some (.int (0 : Int32)), none] rfl rfl (Nat.le_of_ble_eq_true rfl) ?_)
  refine gf_sub [some (.ref t), some (.ref a1), some (.ref a2), some (.int (0 : Int32)), none] (And.intro rfl (And.intro rfl (And.intro rfl (And.intro rfl trivial)))) ?_
  refine lp_P (fun (c6 : Int32 → Hp → Option (Unit × Hp)) => ∀ (v4 : Int32) (h5 : Hp), GF K eV h5 26 [some (.ref t), some (.ref a1), some (.ref a2), some (.int v4), none] [] (c6 v4 h5)) (fun _ _ => gf_none) (fun c6 kc6 v4 h5 => ?_) (0 : Int32) h3
  refine gf_iload_n C dX7_readThings_26 rfl rfl (gf_aload_n C dX7_readThings_27 rfl rfl (gf_getI C dX7_readThings_28 fl_X7_109 ha1 rfl (64 * a1 + 1) rfl ?_))
  refine gf_icmpge C 98 dX7_readThings_31 (by decide) (fun _ => ?_) (fun _ => ?_)
  · refine gf_iconst C dX7_readThings_34 ki_0 (gf_istore C dX7_readThings_35 [some (.ref t), some (.ref a1), some (.ref a2), some (.int v4), some (.int (0 : Int32))] rfl rfl (Nat.le_of_ble_eq_true rfl) ?_)
    refine gf_sub [some (.ref t), some (.ref a1), some (.ref a2), some (.int v4), some (.int (0 : Int32))] (And.intro rfl (And.intro rfl (And.intro rfl (And.intro rfl (And.intro rfl trivial))))) ?_
    refine lp_P (fun (c9 : Int32 → Hp → Option (Unit × Hp)) => ∀ (v7 : Int32) (h8 : Hp), GF K eV h8 37 [some (.ref t), some (.ref a1), some (.ref a2), some (.int v4), some (.int v7)] [] (c9 v7 h8)) (fun _ _ => gf_none) (fun c9 kc9 v7 h8 => ?_) (0 : Int32) h5
    refine gf_iload C dX7_readThings_37 rfl (gf_bipush C dX7_readThings_39 kb_7 ?_)
    refine gf_icmpge C 66 dX7_readThings_41 (by decide) (fun _ => ?_) (fun _ => ?_)
    · refine gf_aload_n C dX7_readThings_44 rfl rfl (gf_getR C dX7_readThings_45 fl_X7_28 ht rfl (t + 6) (lr_7_7 ht) (gf_iload C dX7_readThings_48 rfl (gf_aload_n C dX7_readThings_50 rfl rfl (gf_iload C dX7_readThings_51 rfl (gf_iconst C dX7_readThings_53 ki_2 (gf_iload_n C dX7_readThings_54 rfl rfl (gf_iadd C dX7_readThings_55 ?_)))))))
      refine gf_callV (ε2 := eI) C [.int v7, .int ((2 : Int32) + v4)] dX7_readThings_56 mw_X5_valueOf ml_X7_69 ha2 (fun rZ hZ eZ => ok_X5_valueOf a2 v7 ((2 : Int32) + v4) ha2 h8 rZ hZ eZ) rfl rfl rfl (Nat.le_of_ble_eq_true rfl) (Nat.le_of_ble_eq_true rfl) (Nat.le_of_ble_eq_true rfl) (fun r10 h11 => ?_)
      refine gf_iast C dX7_readThings_59 (lq_7_7 ht) ?_
      refine gf_jlH (fun h12 => ?_)
      refine gf_iinc C dX7_readThings_60 rfl (ii_1 _) [some (.ref t), some (.ref a1), some (.ref a2), some (.int v4), some (.int (v7 + (1 : Int32)))] rfl rfl ?_
      refine gf_goto C 37 dX7_readThings_63 (by decide) ?_
      exact gf_sub [some (.ref t), some (.ref a1), some (.ref a2), some (.int v4), some (.int (v7 + (1 : Int32)))] (And.intro rfl (And.intro rfl (And.intro rfl (And.intro rfl (And.intro rfl trivial))))) (kc9 (v7 + (1 : Int32)) h12)
    · refine gf_aload_n C dX7_readThings_66 rfl rfl (gf_iload_n C dX7_readThings_67 rfl rfl ?_)
      refine gf_callV (ε2 := eI) C [.int v4] dX7_readThings_68 mw_X0_kindOf ml_X7_112 ha1 (fun rZ hZ eZ => ok_X0_kindOf a1 v4 ha1 h8 rZ hZ eZ) rfl rfl rfl (Nat.le_of_ble_eq_true rfl) (Nat.le_of_ble_eq_true rfl) (Nat.le_of_ble_eq_true rfl) (fun r13 h14 => ?_)
      refine gf_iconst C dX7_readThings_71 ki_3 ?_
      refine gf_jn (fun (j16 : Hp → Option (Unit × Hp)) => ∀ (h15 : Hp), GF K eV h15 92 [some (.ref t), some (.ref a1), some (.ref a2), some (.int v4), none] [] (j16 h15)) ?_ (fun j16 kj16 => ?_)
      · intro h15
        refine gf_iinc C dX7_readThings_92 rfl (ii_1 _) [some (.ref t), some (.ref a1), some (.ref a2), some (.int (v4 + (1 : Int32))), none] rfl rfl ?_
        refine gf_goto C 26 dX7_readThings_95 (by decide) ?_
        exact gf_sub [some (.ref t), some (.ref a1), some (.ref a2), some (.int (v4 + (1 : Int32))), none] (And.intro rfl (And.intro rfl (And.intro rfl (And.intro rfl trivial)))) (kc6 (v4 + (1 : Int32)) h15)
      refine gf_icmpne C 82 dX7_readThings_72 (by decide) (fun _ => ?_) (fun _ => ?_)
      · refine gf_aload_n C dX7_readThings_75 rfl rfl ?_
        refine gf_callV (ε2 := eV) C [] dX7_readThings_76 mw_X7_readWear ml_X7_115 ht (fun rZ hZ eZ => ok_X7_readWear t ht h14 rZ hZ eZ) rfl rfl rfl (Nat.le_of_ble_eq_true rfl) (Nat.le_of_ble_eq_true rfl) (Nat.le_of_ble_eq_true rfl) (fun _ h17 => ?_)
        refine gf_goto C 92 dX7_readThings_79 (by decide) ?_
        exact gf_sub [some (.ref t), some (.ref a1), some (.ref a2), some (.int v4), none] (And.intro rfl (And.intro rfl (And.intro rfl (And.intro rfl trivial)))) (kj16 h17)
      · refine gf_aload_n C dX7_readThings_82 rfl rfl (gf_iload_n C dX7_readThings_83 rfl rfl (gf_aload_n C dX7_readThings_84 rfl rfl (gf_iload_n C dX7_readThings_85 rfl rfl ?_)))
        refine gf_callV (ε2 := eI) C [.int v4] dX7_readThings_86 mw_X0_kindOf ml_X7_112 ha1 (fun rZ hZ eZ => ok_X0_kindOf a1 v4 ha1 h14 rZ hZ eZ) rfl rfl rfl (Nat.le_of_ble_eq_true rfl) (Nat.le_of_ble_eq_true rfl) (Nat.le_of_ble_eq_true rfl) (fun r18 h19 => ?_)
        refine gf_callV (ε2 := eV) C [.int v4, .int r18] dX7_readThings_89 mw_X7_readThing ml_X7_118 ht (fun rZ hZ eZ => ok_X7_readThing t v4 r18 ht h19 rZ hZ eZ) rfl rfl rfl (Nat.le_of_ble_eq_true rfl) (Nat.le_of_ble_eq_true rfl) (Nat.le_of_ble_eq_true rfl) (fun _ h20 => ?_)
        exact gf_sub [some (.ref t), some (.ref a1), some (.ref a2), some (.int v4), none] (And.intro rfl (And.intro rfl (And.intro rfl (And.intro rfl trivial)))) (kj16 h20)
  · exact gf_vret C dX7_readThings_98 rfl
def F_X7_readAgain (t : Nat) (a1 : Nat) (a2 : Nat) (a3 : Int32) (a4 : Int32) (h : Hp) : Option (Unit × Hp) :=
  jn (fun (h1 : Hp) =>
  some ((), h1)) (fun j2 => if a4 < (2 : Int32) then (
  bd (F_X7_readWindow t a1 a2 a3 h) (fun _ h3 => j2 h3)) else (
  bd (F_X7_readThings t a1 a2 h) (fun _ h4 => j2 h4)))
set_option maxRecDepth 100000 in
set_option maxHeartbeats 4000000 in
theorem ok_X7_readAgain (t : Nat) (a1 : Nat) (a2 : Nat) (a3 : Int32) (a4 : Int32) (ht : shp t = (0, 7)) (ha1 : shp a1 = (0, 0)) (ha2 : shp a2 = (0, 5)) (h : Hp) (rZ : Unit) (hZ : Hp) (eZ : F_X7_readAgain t a1 a2 a3 a4 h = some (rZ, hZ)) : AC yX7_readAgain cX7_readAgain 5 (none) 4 94 [.ref t, .ref a1, .ref a2, .int a3, .int a4] h (eV rZ) hZ := by
  refine AC_intro (o := F_X7_readAgain t a1 a2 a3 a4 h) RX7 rfl (plainFor_of_name (by decide)) [some (.ref t), some (.ref a1), some (.ref a2), some (.int a3), some (.int a4)] rfl (fun _ => rfl) (fun _ => Nat.le_of_ble_eq_true rfl) eZ (fun K C => ?_)
  unfold F_X7_readAgain
  refine gf_iload C dX7_readAgain_0 rfl (gf_iconst C dX7_readAgain_2 ki_2 ?_)
  refine gf_jn (fun (j2 : Hp → Option (Unit × Hp)) => ∀ (h1 : Hp), GF K eV h1 22 [none, none, none, none, none] [] (j2 h1)) ?_ (fun j2 kj2 => ?_)
  · intro h1
    exact gf_vret C dX7_readAgain_22 rfl
  refine gf_icmpge C 16 dX7_readAgain_3 (by decide) (fun _ => ?_) (fun _ => ?_)
  · refine gf_aload_n C dX7_readAgain_6 rfl rfl (gf_aload_n C dX7_readAgain_7 rfl rfl (gf_aload_n C dX7_readAgain_8 rfl rfl (gf_iload_n C dX7_readAgain_9 rfl rfl ?_)))
    refine gf_callV (ε2 := eV) C [.ref a1, .ref a2, .int a3] dX7_readAgain_10 mw_X7_readWindow ml_X7_48 ht (fun rZ hZ eZ => ok_X7_readWindow t a1 a2 a3 ht ha1 ha2 h rZ hZ eZ) rfl rfl rfl (Nat.le_of_ble_eq_true rfl) (Nat.le_of_ble_eq_true rfl) (Nat.le_of_ble_eq_true rfl) (fun _ h3 => ?_)
    refine gf_goto C 22 dX7_readAgain_13 (by decide) ?_
    exact gf_sub [none, none, none, none, none] trivial (kj2 h3)
  · refine gf_aload_n C dX7_readAgain_16 rfl rfl (gf_aload_n C dX7_readAgain_17 rfl rfl (gf_aload_n C dX7_readAgain_18 rfl rfl ?_))
    refine gf_callV (ε2 := eV) C [.ref a1, .ref a2] dX7_readAgain_19 mw_X7_readThings ml_X7_52 ht (fun rZ hZ eZ => ok_X7_readThings t a1 a2 ht ha1 ha2 h rZ hZ eZ) rfl rfl rfl (Nat.le_of_ble_eq_true rfl) (Nat.le_of_ble_eq_true rfl) (Nat.le_of_ble_eq_true rfl) (fun _ h4 => ?_)
    exact gf_sub [none, none, none, none, none] trivial (kj2 h4)
def F_X1_isLoose (a1 : Nat) (a2 : Nat) (a3 : Int32) (h : Hp) : Option (Int32 × Hp) :=
  bd (F_X5_pictureOf (a1 + 2) a3 h) (fun r1 h2 => bd (F_X5_matterOf (a1 + 2) a3 h2) (fun r3 h4 => bd (F_X5_copyFrom 93 (a1 + 2) h4) (fun _ h5 => bd (F_X5_remove 93 r1 r3 h5) (fun _ h6 => bd (F_X7_copyFrom 98 a2 h6) (fun _ h7 => bd (F_X7_readAgain 98 a1 93 r1 r3 h7) (fun _ h8 => bd (F_X7_everyone 98 h8) (fun r9 h10 => bd (F_X3_canBe 109 98 r9 h10) (fun r11 h12 => gd (isB r11) ( some (r11, h12))))))))))
set_option maxRecDepth 100000 in
set_option maxHeartbeats 4000000 in
theorem ok_X1_isLoose (a1 : Nat) (a2 : Nat) (a3 : Int32) (ha1 : shp a1 = (0, 0)) (ha2 : shp a2 = (0, 7)) (h : Hp) (rZ : Int32) (hZ : Hp) (eZ : F_X1_isLoose a1 a2 a3 h = some (rZ, hZ)) : AC yX1_isLoose cX1_isLoose 6 (some .boolean) 5 118 [.ref 91, .ref a1, .ref a2, .int a3] h (eI rZ) hZ := by
  refine AC_intro (o := F_X1_isLoose a1 a2 a3 h) RX1 rfl (plainFor_of_name (by decide)) [some (.ref 91), some (.ref a1), some (.ref a2), some (.int a3), none, none] rfl (fun _ => rfl) (fun _ => Nat.le_of_ble_eq_true rfl) eZ (fun K C => ?_)
  unfold F_X1_isLoose
  refine gf_aload_n C dX1_isLoose_0 rfl rfl (gf_getR C dX1_isLoose_1 fl_X1_78 ha1 rfl (a1 + 2) (lr_0_3 ha1) (gf_iload_n C dX1_isLoose_4 rfl rfl ?_))
  refine gf_callV (ε2 := eI) C [.int a3] dX1_isLoose_5 mw_X5_pictureOf ml_X1_90 (lq_0_3 ha1) (fun rZ hZ eZ => ok_X5_pictureOf (a1 + 2) a3 (lq_0_3 ha1) h rZ hZ eZ) rfl rfl rfl (Nat.le_of_ble_eq_true rfl) (Nat.le_of_ble_eq_true rfl) (Nat.le_of_ble_eq_true rfl) (fun r1 h2 => ?_)
  refine gf_istore C dX1_isLoose_8 [some (.ref 91), some (.ref a1), some (.ref a2), some (.int a3), some (.int r1), none] rfl rfl (Nat.le_of_ble_eq_true rfl) (gf_aload_n C dX1_isLoose_10 rfl rfl (gf_getR C dX1_isLoose_11 fl_X1_78 ha1 rfl (a1 + 2) (lr_0_3 ha1) (gf_iload_n C dX1_isLoose_14 rfl rfl ?_)))
  refine gf_callV (ε2 := eI) C [.int a3] dX1_isLoose_15 mw_X5_matterOf ml_X1_93 (lq_0_3 ha1) (fun rZ hZ eZ => ok_X5_matterOf (a1 + 2) a3 (lq_0_3 ha1) h2 rZ hZ eZ) rfl rfl rfl (Nat.le_of_ble_eq_true rfl) (Nat.le_of_ble_eq_true rfl) (Nat.le_of_ble_eq_true rfl) (fun r3 h4 => ?_)
  refine gf_istore C dX1_isLoose_18 [some (.ref 91), some (.ref a1), some (.ref a2), some (.int a3), some (.int r1), some (.int r3)] rfl rfl (Nat.le_of_ble_eq_true rfl) (gf_aload_n C dX1_isLoose_20 rfl rfl (gf_getR C dX1_isLoose_21 fl_X1_18 s_91 rfl 93 rfl (gf_aload_n C dX1_isLoose_24 rfl rfl (gf_getR C dX1_isLoose_25 fl_X1_78 ha1 rfl (a1 + 2) (lr_0_3 ha1) ?_))))
  refine gf_callV (ε2 := eV) C [.ref (a1 + 2)] dX1_isLoose_28 mw_X5_copyFrom ml_X1_96 s_93 (fun rZ hZ eZ => ok_X5_copyFrom 93 (a1 + 2) s_93 (lq_0_3 ha1) h4 rZ hZ eZ) rfl rfl rfl (Nat.le_of_ble_eq_true rfl) (Nat.le_of_ble_eq_true rfl) (Nat.le_of_ble_eq_true rfl) (fun _ h5 => ?_)
  refine gf_aload_n C dX1_isLoose_31 rfl rfl (gf_getR C dX1_isLoose_32 fl_X1_18 s_91 rfl 93 rfl (gf_iload C dX1_isLoose_35 rfl (gf_iload C dX1_isLoose_37 rfl ?_)))
  refine gf_callV (ε2 := eV) C [.int r1, .int r3] dX1_isLoose_39 mw_X5_remove ml_X1_100 s_93 (fun rZ hZ eZ => ok_X5_remove 93 r1 r3 s_93 h5 rZ hZ eZ) rfl rfl rfl (Nat.le_of_ble_eq_true rfl) (Nat.le_of_ble_eq_true rfl) (Nat.le_of_ble_eq_true rfl) (fun _ h6 => ?_)
  refine gf_aload_n C dX1_isLoose_42 rfl rfl (gf_getR C dX1_isLoose_43 fl_X1_25 s_91 rfl 98 rfl (gf_aload_n C dX1_isLoose_46 rfl rfl ?_))
  refine gf_callV (ε2 := eV) C [.ref a2] dX1_isLoose_47 mw_X7_copyFrom ml_X1_104 s_98 (fun rZ hZ eZ => ok_X7_copyFrom 98 a2 s_98 ha2 h6 rZ hZ eZ) rfl rfl rfl (Nat.le_of_ble_eq_true rfl) (Nat.le_of_ble_eq_true rfl) (Nat.le_of_ble_eq_true rfl) (fun _ h7 => ?_)
  refine gf_aload_n C dX1_isLoose_50 rfl rfl (gf_getR C dX1_isLoose_51 fl_X1_25 s_91 rfl 98 rfl (gf_aload_n C dX1_isLoose_54 rfl rfl (gf_aload_n C dX1_isLoose_55 rfl rfl (gf_getR C dX1_isLoose_56 fl_X1_18 s_91 rfl 93 rfl (gf_iload C dX1_isLoose_59 rfl (gf_iload C dX1_isLoose_61 rfl ?_))))))
  refine gf_callV (ε2 := eV) C [.ref a1, .ref 93, .int r1, .int r3] dX1_isLoose_63 mw_X7_readAgain ml_X1_107 s_98 (fun rZ hZ eZ => ok_X7_readAgain 98 a1 93 r1 r3 s_98 ha1 s_93 h7 rZ hZ eZ) rfl rfl rfl (Nat.le_of_ble_eq_true rfl) (Nat.le_of_ble_eq_true rfl) (Nat.le_of_ble_eq_true rfl) (fun _ h8 => ?_)
  refine gf_aload_n C dX1_isLoose_66 rfl rfl (gf_getR C dX1_isLoose_67 fl_X1_39 s_91 rfl 109 rfl (gf_aload_n C dX1_isLoose_70 rfl rfl (gf_getR C dX1_isLoose_71 fl_X1_25 s_91 rfl 98 rfl (gf_aload_n C dX1_isLoose_74 rfl rfl (gf_getR C dX1_isLoose_75 fl_X1_25 s_91 rfl 98 rfl ?_)))))
  refine gf_callV (ε2 := eI) C [] dX1_isLoose_78 mw_X7_everyone ml_X1_61 s_98 (fun rZ hZ eZ => ok_X7_everyone 98 s_98 h8 rZ hZ eZ) rfl rfl rfl (Nat.le_of_ble_eq_true rfl) (Nat.le_of_ble_eq_true rfl) (Nat.le_of_ble_eq_true rfl) (fun r9 h10 => ?_)
  refine gf_callV (ε2 := eI) C [.ref 98, .int r9] dX1_isLoose_81 mw_X3_canBe ml_X1_65 s_109 (fun rZ hZ eZ => ok_X3_canBe 109 98 r9 s_109 s_98 h10 rZ hZ eZ) rfl rfl rfl (Nat.le_of_ble_eq_true rfl) (Nat.le_of_ble_eq_true rfl) (Nat.le_of_ble_eq_true rfl) (fun r11 h12 => ?_)
  refine gf_gd (fun b13 => ?_)
  exact gf_zret C dX1_isLoose_84 (isB_nar b13) rfl
def F_X1_seekLoose (a1 : Nat) (a2 : Nat) (h : Hp) : Option (Unit × Hp) :=
  if (sG h 5830) = 0 then (
  jl (sS h 5830 (1 : Int32)) (fun h1 => jl (sS h1 5824 (0 : Int32)) (fun h2 => bd (F_X7_everyone a2 h2) (fun r3 h4 => bd (F_X3_canBe 109 a2 r3 h4) (fun r5 h6 => if r5 = 0 then (
  (lp 4000000000 (fun (c9 : Int32 → Hp → Option (Unit × Hp)) (v7 : Int32) (h8 : Hp) =>
  jn (fun (h10 : Hp) =>
  some ((), h10)) (fun j11 => if v7 < (sG h8 (64 * (a1 + 2) + 0)) then (
  if (sG h8 5824) < (56 : Int32) then (
  bd (F_X1_isLoose a1 a2 v7 h8) (fun r12 h13 => jn (fun (h14 : Hp) =>
  c9 (v7 + (1 : Int32)) h14) (fun j15 => if r12 = 0 then (
  j15 h13) else (
  gd (inb (sG h13 5824) 56) ( jl (aS h13 92 (sG h13 5824).toNatClampNeg v7) (fun h16 => jl (sS h16 5824 ((sG h16 5824) + (1 : Int32))) (fun h17 => j15 h17))))))) else (
  j11 h8)) else (
  j11 h8))) (fun _ _ => none)) (0 : Int32) h6) else (
  some ((), h6))))))) else (
  some ((), h))
set_option maxRecDepth 100000 in
set_option maxHeartbeats 4000000 in
theorem ok_X1_seekLoose (a1 : Nat) (a2 : Nat) (ha1 : shp a1 = (0, 0)) (ha2 : shp a2 = (0, 7)) (h : Hp) (rZ : Unit) (hZ : Hp) (eZ : F_X1_seekLoose a1 a2 h = some (rZ, hZ)) : AC yX1_seekLoose cX1_seekLoose 4 (none) 6 143 [.ref 91, .ref a1, .ref a2] h (eV rZ) hZ := by
  refine AC_intro (o := F_X1_seekLoose a1 a2 h) RX1 rfl (plainFor_of_name (by decide)) [some (.ref 91), some (.ref a1), some (.ref a2), none] rfl (fun _ => rfl) (fun _ => Nat.le_of_ble_eq_true rfl) eZ (fun K C => ?_)
  unfold F_X1_seekLoose
  refine gf_aload_n C dX1_seekLoose_0 rfl rfl (gf_getI C dX1_seekLoose_1 fl_X1_47 s_91 rfl 5830 rfl ?_)
  refine gf_ifeq C 8 dX1_seekLoose_4 (by decide) (fun _ => ?_) (fun _ => ?_)
  · refine gf_aload_n C dX1_seekLoose_8 rfl rfl (gf_iconst C dX1_seekLoose_9 ki_1 (gf_putZ C dX1_seekLoose_10 fp_X1_47 s_91 rfl 5830 rfl rfl ?_))
    refine gf_jlH (fun h1 => ?_)
    refine gf_aload_n C dX1_seekLoose_13 rfl rfl (gf_iconst C dX1_seekLoose_14 ki_0 (gf_putI C dX1_seekLoose_15 fp_X1_75 s_91 rfl 5824 rfl ?_))
    refine gf_jlH (fun h2 => ?_)
    refine gf_aload_n C dX1_seekLoose_18 rfl rfl (gf_getR C dX1_seekLoose_19 fl_X1_39 s_91 rfl 109 rfl (gf_aload_n C dX1_seekLoose_22 rfl rfl (gf_aload_n C dX1_seekLoose_23 rfl rfl ?_)))
    refine gf_callV (ε2 := eI) C [] dX1_seekLoose_24 mw_X7_everyone ml_X1_61 ha2 (fun rZ hZ eZ => ok_X7_everyone a2 ha2 h2 rZ hZ eZ) rfl rfl rfl (Nat.le_of_ble_eq_true rfl) (Nat.le_of_ble_eq_true rfl) (Nat.le_of_ble_eq_true rfl) (fun r3 h4 => ?_)
    refine gf_callV (ε2 := eI) C [.ref a2, .int r3] dX1_seekLoose_27 mw_X3_canBe ml_X1_65 s_109 (fun rZ hZ eZ => ok_X3_canBe 109 a2 r3 s_109 ha2 h4 rZ hZ eZ) rfl rfl rfl (Nat.le_of_ble_eq_true rfl) (Nat.le_of_ble_eq_true rfl) (Nat.le_of_ble_eq_true rfl) (fun r5 h6 => ?_)
    refine gf_ifeq C 34 dX1_seekLoose_30 (by decide) (fun _ => ?_) (fun _ => ?_)
    · refine gf_iconst C dX1_seekLoose_34 ki_0 (gf_istore_n C dX1_seekLoose_35 rfl [some (.ref 91), some (.ref a1), some (.ref a2), some (.int (0 : Int32))] rfl rfl (Nat.le_of_ble_eq_true rfl) ?_)
      refine gf_sub [some (.ref 91), some (.ref a1), some (.ref a2), some (.int (0 : Int32))] (And.intro rfl (And.intro rfl (And.intro rfl (And.intro rfl trivial)))) ?_
      refine lp_P (fun (c9 : Int32 → Hp → Option (Unit × Hp)) => ∀ (v7 : Int32) (h8 : Hp), GF K eV h8 36 [some (.ref 91), some (.ref a1), some (.ref a2), some (.int v7)] [] (c9 v7 h8)) (fun _ _ => gf_none) (fun c9 kc9 v7 h8 => ?_) (0 : Int32) h6
      refine gf_iload_n C dX1_seekLoose_36 rfl rfl (gf_aload_n C dX1_seekLoose_37 rfl rfl (gf_getR C dX1_seekLoose_38 fl_X1_78 ha1 rfl (a1 + 2) (lr_0_3 ha1) (gf_getI C dX1_seekLoose_41 fl_X1_83 (lq_0_3 ha1) rfl (64 * (a1 + 2) + 0) rfl ?_)))
      refine gf_jn (fun (j11 : Hp → Option (Unit × Hp)) => ∀ (h10 : Hp), GF K eV h10 95 [none, none, none, none] [] (j11 h10)) ?_ (fun j11 kj11 => ?_)
      · intro h10
        exact gf_vret C dX1_seekLoose_95 rfl
      refine gf_icmpge C 95 dX1_seekLoose_44 (by decide) (fun _ => ?_) (fun _ => ?_)
      · refine gf_aload_n C dX1_seekLoose_47 rfl rfl (gf_getI C dX1_seekLoose_48 fl_X1_75 s_91 rfl 5824 rfl (gf_bipush C dX1_seekLoose_51 kb_56 ?_))
        refine gf_icmpge C 95 dX1_seekLoose_53 (by decide) (fun _ => ?_) (fun _ => ?_)
        · refine gf_aload_n C dX1_seekLoose_56 rfl rfl (gf_aload_n C dX1_seekLoose_57 rfl rfl (gf_aload_n C dX1_seekLoose_58 rfl rfl (gf_iload_n C dX1_seekLoose_59 rfl rfl ?_)))
          refine gf_callV (ε2 := eI) C [.ref a1, .ref a2, .int v7] dX1_seekLoose_60 mw_X1_isLoose ml_X1_86 s_91 (fun rZ hZ eZ => ok_X1_isLoose a1 a2 v7 ha1 ha2 h8 rZ hZ eZ) rfl rfl rfl (Nat.le_of_ble_eq_true rfl) (Nat.le_of_ble_eq_true rfl) (Nat.le_of_ble_eq_true rfl) (fun r12 h13 => ?_)
          refine gf_jn (fun (j15 : Hp → Option (Unit × Hp)) => ∀ (h14 : Hp), GF K eV h14 89 [some (.ref 91), some (.ref a1), some (.ref a2), some (.int v7)] [] (j15 h14)) ?_ (fun j15 kj15 => ?_)
          · intro h14
            refine gf_iinc C dX1_seekLoose_89 rfl (ii_1 _) [some (.ref 91), some (.ref a1), some (.ref a2), some (.int (v7 + (1 : Int32)))] rfl rfl ?_
            refine gf_goto C 36 dX1_seekLoose_92 (by decide) ?_
            exact gf_sub [some (.ref 91), some (.ref a1), some (.ref a2), some (.int (v7 + (1 : Int32)))] (And.intro rfl (And.intro rfl (And.intro rfl (And.intro rfl trivial)))) (kc9 (v7 + (1 : Int32)) h14)
          refine gf_ifne C 69 dX1_seekLoose_63 (by decide) (fun _ => ?_) (fun _ => ?_)
          · refine gf_goto C 89 dX1_seekLoose_66 (by decide) ?_
            exact gf_sub [some (.ref 91), some (.ref a1), some (.ref a2), some (.int v7)] (And.intro rfl (And.intro rfl (And.intro rfl (And.intro rfl trivial)))) (kj15 h13)
          · refine gf_aload_n C dX1_seekLoose_69 rfl rfl (gf_getR C dX1_seekLoose_70 fl_X1_9 s_91 rfl 92 rfl (gf_aload_n C dX1_seekLoose_73 rfl rfl (gf_getI C dX1_seekLoose_74 fl_X1_75 s_91 rfl 5824 rfl (gf_iload_n C dX1_seekLoose_77 rfl rfl (gf_iast C dX1_seekLoose_78 s_92 ?_)))))
            refine gf_jlH (fun h16 => ?_)
            refine gf_aload_n C dX1_seekLoose_79 rfl rfl (gf_dup C dX1_seekLoose_80 rfl (gf_getI C dX1_seekLoose_81 fl_X1_75 s_91 rfl 5824 rfl (gf_iconst C dX1_seekLoose_84 ki_1 (gf_iadd C dX1_seekLoose_85 (gf_putI C dX1_seekLoose_86 fp_X1_75 s_91 rfl 5824 rfl ?_)))))
            refine gf_jlH (fun h17 => ?_)
            exact gf_sub [some (.ref 91), some (.ref a1), some (.ref a2), some (.int v7)] (And.intro rfl (And.intro rfl (And.intro rfl (And.intro rfl trivial)))) (kj15 h17)
        · exact gf_sub [none, none, none, none] trivial (kj11 h8)
      · exact gf_sub [none, none, none, none] trivial (kj11 h8)
    · exact gf_vret C dX1_seekLoose_33 rfl
  · exact gf_vret C dX1_seekLoose_7 rfl
def F_X1_looseNumber (a1 : Int32) (h : Hp) : Option (Int32 × Hp) :=
  jn (fun (s1 : Int32) (h2 : Hp) =>
  some (s1, h2)) (fun j3 => jn (fun (h4 : Hp) =>
  j3 (-1 : Int32) h4) (fun j5 => if a1 < 0 then (
  j5 h) else (
  if a1 < (sG h 5824) then (
  if a1 < (56 : Int32) then (
  gd (inb a1 56) ( j3 (aG h 92 a1.toNatClampNeg) h)) else (
  j5 h)) else (
  j5 h))))
set_option maxRecDepth 100000 in
set_option maxHeartbeats 4000000 in
theorem ok_X1_looseNumber (a1 : Int32) (h : Hp) (rZ : Int32) (hZ : Hp) (eZ : F_X1_looseNumber a1 h = some (rZ, hZ)) : AC yX1_looseNumber cX1_looseNumber 2 (some .int) 0 0 [.ref 91, .int a1] h (eI rZ) hZ := by
  refine AC_intro (o := F_X1_looseNumber a1 h) RX1 rfl (plainFor_of_name (by decide)) [some (.ref 91), some (.int a1)] rfl (fun _ => rfl) (fun _ => Nat.le_of_ble_eq_true rfl) eZ (fun K C => ?_)
  unfold F_X1_looseNumber
  refine gf_iload_n C dX1_looseNumber_0 rfl rfl ?_
  refine gf_jn (fun (j3 : Int32 → Hp → Option (Int32 × Hp)) => ∀ (s1 : Int32) (h2 : Hp), GF K eI h2 28 [none, none] [.int s1] (j3 s1 h2)) ?_ (fun j3 kj3 => ?_)
  · intro s1 h2
    exact gf_iret C dX1_looseNumber_28 rfl
  refine gf_jn (fun (j5 : Hp → Option (Int32 × Hp)) => ∀ (h4 : Hp), GF K eI h4 27 [none, none] [] (j5 h4)) ?_ (fun j5 kj5 => ?_)
  · intro h4
    refine gf_iconst C dX1_looseNumber_27 ki_m1 ?_
    exact gf_sub [none, none] trivial (kj3 (-1 : Int32) h4)
  refine gf_iflt C 27 dX1_looseNumber_1 (by decide) (fun _ => ?_) (fun _ => ?_)
  · exact gf_sub [none, none] trivial (kj5 h)
  · refine gf_iload_n C dX1_looseNumber_4 rfl rfl (gf_aload_n C dX1_looseNumber_5 rfl rfl (gf_getI C dX1_looseNumber_6 fl_X1_75 s_91 rfl 5824 rfl ?_))
    refine gf_icmpge C 27 dX1_looseNumber_9 (by decide) (fun _ => ?_) (fun _ => ?_)
    · refine gf_iload_n C dX1_looseNumber_12 rfl rfl (gf_bipush C dX1_looseNumber_13 kb_56 ?_)
      refine gf_icmpge C 27 dX1_looseNumber_15 (by decide) (fun _ => ?_) (fun _ => ?_)
      · refine gf_aload_n C dX1_looseNumber_18 rfl rfl (gf_getR C dX1_looseNumber_19 fl_X1_9 s_91 rfl 92 rfl (gf_iload_n C dX1_looseNumber_22 rfl rfl (gf_iald C dX1_looseNumber_23 s_92 ?_)))
        refine gf_goto C 28 dX1_looseNumber_24 (by decide) ?_
        exact gf_sub [none, none] trivial (kj3 (aG h 92 a1.toNatClampNeg) h)
      · exact gf_sub [none, none] trivial (kj5 h)
    · exact gf_sub [none, none] trivial (kj5 h)
def F_X5_put (t : Nat) (a1 : Int32) (a2 : Int32) (a3 : Int32) (a4 : Int32) (h : Hp) : Option (Unit × Hp) :=
  bd (F_X5_isKey a1 a2 h) (fun r1 h2 => if r1 = 0 then (
  some ((), h2)) else (
  jl ((a1 * (8 : Int32)) + a2) (fun x3 => gd (inb x3 56) ( jl (aS h2 (t + 3) x3.toNatClampNeg a3) (fun h4 => gd (inb x3 56) ( jl (aS h4 (t + 4) x3.toNatClampNeg a4) (fun h5 => gd (inb x3 56) ( jn (fun (h6 : Hp) =>
  some ((), h6)) (fun j7 => if (aG h5 (t + 2) x3.toNatClampNeg) = (-1 : Int32) then (
  if (sG h5 (64 * t + 0)) < 0 then (
  j7 h5) else (
  if (sG h5 (64 * t + 0)) < (56 : Int32) then (
  gd (inb x3 56) ( jl (aS h5 (t + 2) x3.toNatClampNeg (sG h5 (64 * t + 0))) (fun h8 => gd (inb (sG h8 (64 * t + 0)) 56) ( jl (aS h8 (t + 1) (sG h8 (64 * t + 0)).toNatClampNeg x3) (fun h9 => jl (sS h9 (64 * t + 0) ((sG h9 (64 * t + 0)) + (1 : Int32))) (fun h10 => some ((), h10))))))) else (
  j7 h5))) else (
  j7 h5))))))))))
set_option maxRecDepth 100000 in
set_option maxHeartbeats 4000000 in
theorem ok_X5_put (t : Nat) (a1 : Int32) (a2 : Int32) (a3 : Int32) (a4 : Int32) (ht : shp t = (0, 5)) (h : Hp) (rZ : Unit) (hZ : Hp) (eZ : F_X5_put t a1 a2 a3 a4 h = some (rZ, hZ)) : AC yX5_put cX5_put 6 (none) 1 21 [.ref t, .int a1, .int a2, .int a3, .int a4] h (eV rZ) hZ := by
  refine AC_intro (o := F_X5_put t a1 a2 a3 a4 h) RX5 rfl (plainFor_of_name (by decide)) [some (.ref t), some (.int a1), some (.int a2), some (.int a3), some (.int a4), none] rfl (fun _ => rfl) (fun _ => Nat.le_of_ble_eq_true rfl) eZ (fun K C => ?_)
  unfold F_X5_put
  refine gf_iload_n C dX5_put_0 rfl rfl (gf_iload_n C dX5_put_1 rfl rfl ?_)
  refine gf_callS (ε2 := eI) C [.int a1, .int a2] dX5_put_2 mw_X5_isKey ml_X5_43 (fun rZ hZ eZ => ok_X5_isKey a1 a2 h rZ hZ eZ) rfl rfl rfl (Nat.le_of_ble_eq_true rfl) (Nat.le_of_ble_eq_true rfl) (Nat.le_of_ble_eq_true rfl) (fun r1 h2 => ?_)
  refine gf_ifne C 9 dX5_put_5 (by decide) (fun _ => ?_) (fun _ => ?_)
  · exact gf_vret C dX5_put_8 rfl
  · refine gf_iload_n C dX5_put_9 rfl rfl (gf_bipush C dX5_put_10 kb_8 (gf_imul C dX5_put_12 (gf_iload_n C dX5_put_13 rfl rfl (gf_iadd C dX5_put_14 ?_))))
    refine gf_jlI (fun x3 => ?_)
    refine gf_istore C dX5_put_15 [some (.ref t), some (.int a1), some (.int a2), some (.int a3), some (.int a4), some (.int x3)] rfl rfl (Nat.le_of_ble_eq_true rfl) (gf_aload_n C dX5_put_17 rfl rfl (gf_getR C dX5_put_18 fl_X5_18 ht rfl (t + 3) (lr_5_3 ht) (gf_iload C dX5_put_21 rfl (gf_iload_n C dX5_put_23 rfl rfl (gf_iast C dX5_put_24 (lq_5_3 ht) ?_)))))
    refine gf_jlH (fun h4 => ?_)
    refine gf_aload_n C dX5_put_25 rfl rfl (gf_getR C dX5_put_26 fl_X5_21 ht rfl (t + 4) (lr_5_4 ht) (gf_iload C dX5_put_29 rfl (gf_iload C dX5_put_31 rfl (gf_iast C dX5_put_33 (lq_5_4 ht) ?_))))
    refine gf_jlH (fun h5 => ?_)
    refine gf_aload_n C dX5_put_34 rfl rfl (gf_getR C dX5_put_35 fl_X5_15 ht rfl (t + 2) (lr_5_2 ht) (gf_iload C dX5_put_38 rfl (gf_iald C dX5_put_40 (lq_5_2 ht) (gf_iconst C dX5_put_41 ki_m1 ?_))))
    refine gf_jn (fun (j7 : Hp → Option (Unit × Hp)) => ∀ (h6 : Hp), GF K eV h6 61 [none, none, none, none, none, none] [] (j7 h6)) ?_ (fun j7 kj7 => ?_)
    · intro h6
      exact gf_vret C dX5_put_61 rfl
    refine gf_icmpne C 61 dX5_put_42 (by decide) (fun _ => ?_) (fun _ => ?_)
    · refine gf_aload_n C dX5_put_45 rfl rfl (gf_getI C dX5_put_46 fl_X5_27 ht rfl (64 * t + 0) rfl ?_)
      refine gf_iflt C 61 dX5_put_49 (by decide) (fun _ => ?_) (fun _ => ?_)
      · exact gf_sub [none, none, none, none, none, none] trivial (kj7 h5)
      · refine gf_aload_n C dX5_put_52 rfl rfl (gf_getI C dX5_put_53 fl_X5_27 ht rfl (64 * t + 0) rfl (gf_bipush C dX5_put_56 kb_56 ?_))
        refine gf_icmplt C 62 dX5_put_58 (by decide) (fun _ => ?_) (fun _ => ?_)
        · refine gf_aload_n C dX5_put_62 rfl rfl (gf_getR C dX5_put_63 fl_X5_15 ht rfl (t + 2) (lr_5_2 ht) (gf_iload C dX5_put_66 rfl (gf_aload_n C dX5_put_68 rfl rfl (gf_getI C dX5_put_69 fl_X5_27 ht rfl (64 * t + 0) rfl (gf_iast C dX5_put_72 (lq_5_2 ht) ?_)))))
          refine gf_jlH (fun h8 => ?_)
          refine gf_aload_n C dX5_put_73 rfl rfl (gf_getR C dX5_put_74 fl_X5_9 ht rfl (t + 1) (lr_5_1 ht) (gf_aload_n C dX5_put_77 rfl rfl (gf_getI C dX5_put_78 fl_X5_27 ht rfl (64 * t + 0) rfl (gf_iload C dX5_put_81 rfl (gf_iast C dX5_put_83 (lq_5_1 ht) ?_)))))
          refine gf_jlH (fun h9 => ?_)
          refine gf_aload_n C dX5_put_84 rfl rfl (gf_dup C dX5_put_85 rfl (gf_getI C dX5_put_86 fl_X5_27 ht rfl (64 * t + 0) rfl (gf_iconst C dX5_put_89 ki_1 (gf_iadd C dX5_put_90 (gf_putI C dX5_put_91 fp_X5_27 ht rfl (64 * t + 0) rfl ?_)))))
          refine gf_jlH (fun h10 => ?_)
          exact gf_vret C dX5_put_94 rfl
        · exact gf_sub [none, none, none, none, none, none] trivial (kj7 h5)
    · exact gf_sub [none, none, none, none, none, none] trivial (kj7 h5)
def F_J7_fill_d0a16 (a1 : Nat) (n1 : Nat) (a2 : Int64) (h : Hp) : Option (Unit × Hp) :=
  jl (Int32.ofNat n1) (fun x1 => (lp 4000000000 (fun (c4 : Int32 → Hp → Option (Unit × Hp)) (v2 : Int32) (h3 : Hp) =>
  if v2 < x1 then (
  gd (inb v2 n1) ( jl (lS h3 a1 v2.toNatClampNeg a2) (fun h5 => c4 (v2 + (1 : Int32)) h5))) else (
  some ((), h3))) (fun _ _ => none)) (0 : Int32) h)
set_option maxRecDepth 100000 in
set_option maxHeartbeats 4000000 in
theorem ok_J7_fill_d0a16 (a1 : Nat) (n1 : Nat) (a2 : Int64) (ha1 : shp a1 = (2, n1)) (h : Hp) (rZ : Unit) (hZ : Hp) (eZ : F_J7_fill_d0a16 a1 n1 a2 h = some (rZ, hZ)) : AC yJ7_fill_d0a16 cJ7_fill_d0a16 5 (none) 0 0 [.ref a1, .long a2] h (eV rZ) hZ := by
  refine AC_intro (o := F_J7_fill_d0a16 a1 n1 a2 h) RJ7 rfl (plainFor_of_name (by decide)) [some (.ref a1), some (.long a2), none, none, none] rfl (fun _ => rfl) (fun _ => Nat.le_of_ble_eq_true rfl) eZ (fun K C => ?_)
  unfold F_J7_fill_d0a16
  refine gf_iconst C dJ7_fill_d0a16_0 ki_0 (gf_istore_n C dJ7_fill_d0a16_1 rfl [some (.ref a1), some (.long a2), none, some (.int (0 : Int32)), none] rfl rfl (Nat.le_of_ble_eq_true rfl) (gf_aload_n C dJ7_fill_d0a16_2 rfl rfl (gf_alen C dJ7_fill_d0a16_3 ha1 (by decide) rfl ?_)))
  refine gf_jlI (fun x1 => ?_)
  refine gf_istore C dJ7_fill_d0a16_4 [some (.ref a1), some (.long a2), none, some (.int (0 : Int32)), some (.int x1)] rfl rfl (Nat.le_of_ble_eq_true rfl) ?_
  refine gf_sub [some (.ref a1), some (.long a2), none, some (.int (0 : Int32)), some (.int x1)] (And.intro rfl (And.intro rfl (And.intro rfl (And.intro rfl trivial)))) ?_
  refine lp_P (fun (c4 : Int32 → Hp → Option (Unit × Hp)) => ∀ (v2 : Int32) (h3 : Hp), GF K eV h3 6 [some (.ref a1), some (.long a2), none, some (.int v2), some (.int x1)] [] (c4 v2 h3)) (fun _ _ => gf_none) (fun c4 kc4 v2 h3 => ?_) (0 : Int32) h
  refine gf_iload_n C dJ7_fill_d0a16_6 rfl rfl (gf_iload C dJ7_fill_d0a16_7 rfl ?_)
  refine gf_icmpge C 22 dJ7_fill_d0a16_9 (by decide) (fun _ => ?_) (fun _ => ?_)
  · refine gf_aload_n C dJ7_fill_d0a16_12 rfl rfl (gf_iload_n C dJ7_fill_d0a16_13 rfl rfl (gf_lload_n C dJ7_fill_d0a16_14 rfl rfl (gf_last C dJ7_fill_d0a16_15 ha1 ?_)))
    refine gf_jlH (fun h5 => ?_)
    refine gf_iinc C dJ7_fill_d0a16_16 rfl (ii_1 _) [some (.ref a1), some (.long a2), none, some (.int (v2 + (1 : Int32))), some (.int x1)] rfl rfl ?_
    refine gf_goto C 6 dJ7_fill_d0a16_19 (by decide) ?_
    exact gf_sub [some (.ref a1), some (.long a2), none, some (.int (v2 + (1 : Int32))), some (.int x1)] (And.intro rfl (And.intro rfl (And.intro rfl (And.intro rfl trivial)))) (kc4 (v2 + (1 : Int32)) h5)
  · exact gf_vret C dJ7_fill_d0a16_22 rfl
def F_J13_bitCount_95d88 (a1 : Int64) (h : Hp) : Option (Int32 × Hp) :=
  jl (a1 - (((a1.toUInt64 >>> ((1 : Int32).toInt64.toUInt64 &&& Int64.toUInt64 63)).toInt64) &&& (6148914691236517205 : Int64))) (fun x1 => jl ((x1 &&& (3689348814741910323 : Int64)) + (((x1.toUInt64 >>> ((2 : Int32).toInt64.toUInt64 &&& Int64.toUInt64 63)).toInt64) &&& (3689348814741910323 : Int64))) (fun x2 => jl ((x2 + ((x2.toUInt64 >>> ((4 : Int32).toInt64.toUInt64 &&& Int64.toUInt64 63)).toInt64)) &&& (1085102592571150095 : Int64)) (fun x3 => jl (x3 + ((x3.toUInt64 >>> ((8 : Int32).toInt64.toUInt64 &&& Int64.toUInt64 63)).toInt64)) (fun x4 => jl (x4 + ((x4.toUInt64 >>> ((16 : Int32).toInt64.toUInt64 &&& Int64.toUInt64 63)).toInt64)) (fun x5 => jl (x5 + ((x5.toUInt64 >>> ((32 : Int32).toInt64.toUInt64 &&& Int64.toUInt64 63)).toInt64)) (fun x6 => some (x6.toInt32 &&& (127 : Int32), h)))))))
set_option maxRecDepth 100000 in
set_option maxHeartbeats 4000000 in
theorem ok_J13_bitCount_95d88 (a1 : Int64) (h : Hp) (rZ : Int32) (hZ : Hp) (eZ : F_J13_bitCount_95d88 a1 h = some (rZ, hZ)) : AC yJ13_bitCount_95d88 cJ13_bitCount_95d88 2 (some .int) 0 0 [.long a1] h (eI rZ) hZ := by
  refine AC_intro (o := F_J13_bitCount_95d88 a1 h) RJ13 rfl (plainFor_of_name (by decide)) [some (.long a1), none] rfl (fun _ => rfl) (fun _ => Nat.le_of_ble_eq_true rfl) eZ (fun K C => ?_)
  unfold F_J13_bitCount_95d88
  refine gf_lload_n C dJ13_bitCount_95d88_0 rfl rfl (gf_lload_n C dJ13_bitCount_95d88_1 rfl rfl (gf_iconst C dJ13_bitCount_95d88_2 ki_1 (gf_lushr C dJ13_bitCount_95d88_3 (gf_ldc2 C dJ13_bitCount_95d88_4 cw_J13_314 (gf_land C dJ13_bitCount_95d88_7 (gf_lsub C dJ13_bitCount_95d88_8 ?_))))))
  refine gf_jlL (fun x1 => ?_)
  refine gf_lstore_n C dJ13_bitCount_95d88_9 rfl [some (.long x1), none] rfl rfl (Nat.le_of_ble_eq_true rfl) (gf_lload_n C dJ13_bitCount_95d88_10 rfl rfl (gf_ldc2 C dJ13_bitCount_95d88_11 cw_J13_316 (gf_land C dJ13_bitCount_95d88_14 (gf_lload_n C dJ13_bitCount_95d88_15 rfl rfl (gf_iconst C dJ13_bitCount_95d88_16 ki_2 (gf_lushr C dJ13_bitCount_95d88_17 (gf_ldc2 C dJ13_bitCount_95d88_18 cw_J13_316 ?_)))))))
  refine gf_land C dJ13_bitCount_95d88_21 (gf_ladd C dJ13_bitCount_95d88_22 ?_)
  refine gf_jlL (fun x2 => ?_)
  refine gf_lstore_n C dJ13_bitCount_95d88_23 rfl [some (.long x2), none] rfl rfl (Nat.le_of_ble_eq_true rfl) (gf_lload_n C dJ13_bitCount_95d88_24 rfl rfl (gf_lload_n C dJ13_bitCount_95d88_25 rfl rfl (gf_iconst C dJ13_bitCount_95d88_26 ki_4 (gf_lushr C dJ13_bitCount_95d88_27 (gf_ladd C dJ13_bitCount_95d88_28 (gf_ldc2 C dJ13_bitCount_95d88_29 cw_J13_318 (gf_land C dJ13_bitCount_95d88_32 ?_)))))))
  refine gf_jlL (fun x3 => ?_)
  refine gf_lstore_n C dJ13_bitCount_95d88_33 rfl [some (.long x3), none] rfl rfl (Nat.le_of_ble_eq_true rfl) (gf_lload_n C dJ13_bitCount_95d88_34 rfl rfl (gf_lload_n C dJ13_bitCount_95d88_35 rfl rfl (gf_bipush C dJ13_bitCount_95d88_36 kb_8 (gf_lushr C dJ13_bitCount_95d88_38 (gf_ladd C dJ13_bitCount_95d88_39 ?_)))))
  refine gf_jlL (fun x4 => ?_)
  refine gf_lstore_n C dJ13_bitCount_95d88_40 rfl [some (.long x4), none] rfl rfl (Nat.le_of_ble_eq_true rfl) (gf_lload_n C dJ13_bitCount_95d88_41 rfl rfl (gf_lload_n C dJ13_bitCount_95d88_42 rfl rfl (gf_bipush C dJ13_bitCount_95d88_43 kb_16 (gf_lushr C dJ13_bitCount_95d88_45 (gf_ladd C dJ13_bitCount_95d88_46 ?_)))))
  refine gf_jlL (fun x5 => ?_)
  refine gf_lstore_n C dJ13_bitCount_95d88_47 rfl [some (.long x5), none] rfl rfl (Nat.le_of_ble_eq_true rfl) (gf_lload_n C dJ13_bitCount_95d88_48 rfl rfl (gf_lload_n C dJ13_bitCount_95d88_49 rfl rfl (gf_bipush C dJ13_bitCount_95d88_50 kb_32 (gf_lushr C dJ13_bitCount_95d88_52 (gf_ladd C dJ13_bitCount_95d88_53 ?_)))))
  refine gf_jlL (fun x6 => ?_)
  refine gf_lstore_n C dJ13_bitCount_95d88_54 rfl [some (.long x6), none] rfl rfl (Nat.le_of_ble_eq_true rfl) (gf_lload_n C dJ13_bitCount_95d88_55 rfl rfl (gf_l2i C dJ13_bitCount_95d88_56 (gf_bipush C dJ13_bitCount_95d88_57 kb_127 (gf_iand C dJ13_bitCount_95d88_59 ?_))))
  exact gf_iret C dJ13_bitCount_95d88_60 rfl
def F_X4_freeThen (a1 : Nat) (a2 : Int32) (a3 : Int64) (h : Hp) : Option (Int64 × Hp) :=
  bd (F_J13_bitCount_95d88 a3 h) (fun r1 h2 => (lp 4000000000 (fun (c7 : Int64 → Int64 → Int32 → Hp → Option (Int64 × Hp)) (v3 : Int64) (v4 : Int64) (v5 : Int32) (h6 : Hp) =>
  if v5 < r1 then (
  bd (F_J13_numberOfTrailingZeros_95d88 v4 h6) (fun r8 h9 => bd (F_X7_freeBehind a1 a2 r8 h9) (fun r10 h11 => jn (fun (v12 : Int64) (h13 : Hp) =>
  jl (v4 &&& (v4 - (1 : Int64))) (fun x15 => c7 v12 x15 (v5 + (1 : Int32)) h13)) (fun j14 => if r10 = (-1 : Int32) then (
  j14 v3 h11) else (
  jl (v3 ||| ((1 : Int64) <<< (r10.toInt64 &&& 63))) (fun x16 => j14 x16 h11)))))) else (
  some (v3, h6))) (fun _ _ _ _ => none)) (0 : Int64) a3 (0 : Int32) h2)
set_option maxRecDepth 100000 in
set_option maxHeartbeats 4000000 in
theorem ok_X4_freeThen (a1 : Nat) (a2 : Int32) (a3 : Int64) (ha1 : shp a1 = (0, 7)) (h : Hp) (rZ : Int64) (hZ : Hp) (eZ : F_X4_freeThen a1 a2 a3 h = some (rZ, hZ)) : AC yX4_freeThen cX4_freeThen 11 (some .long) 3 67 [.ref a1, .int a2, .long a3] h (eL rZ) hZ := by
  refine AC_intro (o := F_X4_freeThen a1 a2 a3 h) RX4 rfl (plainFor_of_name (by decide)) [some (.ref a1), some (.int a2), some (.long a3), none, none, none, none, none, none, none, none] rfl (fun _ => rfl) (fun _ => Nat.le_of_ble_eq_true rfl) eZ (fun K C => ?_)
  unfold F_X4_freeThen
  refine gf_lconst C dX4_freeThen_0 kl_0 (gf_lstore C dX4_freeThen_1 [some (.ref a1), some (.int a2), some (.long a3), none, some (.long (0 : Int64)), none, none, none, none, none, none] rfl rfl (Nat.le_of_ble_eq_true rfl) (gf_lload_n C dX4_freeThen_3 rfl rfl (gf_lstore C dX4_freeThen_4 [some (.ref a1), some (.int a2), some (.long a3), none, some (.long (0 : Int64)), none, some (.long a3), none, none, none, none] rfl rfl (Nat.le_of_ble_eq_true rfl) (gf_lload_n C dX4_freeThen_6 rfl rfl ?_))))
  refine gf_callS (ε2 := eI) C [.long a3] dX4_freeThen_7 mw_J13_bitCount_95d88 ml_X4_68 (fun rZ hZ eZ => ok_J13_bitCount_95d88 a3 h rZ hZ eZ) rfl rfl rfl (Nat.le_of_ble_eq_true rfl) (Nat.le_of_ble_eq_true rfl) (Nat.le_of_ble_eq_true rfl) (fun r1 h2 => ?_)
  refine gf_istore C dX4_freeThen_10 [some (.ref a1), some (.int a2), some (.long a3), none, some (.long (0 : Int64)), none, some (.long a3), none, some (.int r1), none, none] rfl rfl (Nat.le_of_ble_eq_true rfl) (gf_iconst C dX4_freeThen_12 ki_0 (gf_istore C dX4_freeThen_13 [some (.ref a1), some (.int a2), some (.long a3), none, some (.long (0 : Int64)), none, some (.long a3), none, some (.int r1), some (.int (0 : Int32)), none] rfl rfl (Nat.le_of_ble_eq_true rfl) ?_))
  refine gf_sub [some (.ref a1), some (.int a2), none, none, some (.long (0 : Int64)), none, some (.long a3), none, some (.int r1), some (.int (0 : Int32)), none] (And.intro rfl (And.intro rfl (And.intro rfl (And.intro rfl (And.intro rfl (And.intro rfl trivial)))))) ?_
  refine lp_P (fun (c7 : Int64 → Int64 → Int32 → Hp → Option (Int64 × Hp)) => ∀ (v3 : Int64) (v4 : Int64) (v5 : Int32) (h6 : Hp), GF K eL h6 15 [some (.ref a1), some (.int a2), none, none, some (.long v3), none, some (.long v4), none, some (.int r1), some (.int v5), none] [] (c7 v3 v4 v5 h6)) (fun _ _ _ _ => gf_none) (fun c7 kc7 v3 v4 v5 h6 => ?_) (0 : Int64) a3 (0 : Int32) h2
  refine gf_iload C dX4_freeThen_15 rfl (gf_iload C dX4_freeThen_17 rfl ?_)
  refine gf_icmpge C 64 dX4_freeThen_19 (by decide) (fun _ => ?_) (fun _ => ?_)
  · refine gf_aload_n C dX4_freeThen_22 rfl rfl (gf_iload_n C dX4_freeThen_23 rfl rfl (gf_lload C dX4_freeThen_24 rfl ?_))
    refine gf_callS (ε2 := eI) C [.long v4] dX4_freeThen_26 mw_J13_numberOfTrailingZeros_95d88 ml_X4_74 (fun rZ hZ eZ => ok_J13_numberOfTrailingZeros_95d88 v4 h6 rZ hZ eZ) rfl rfl rfl (Nat.le_of_ble_eq_true rfl) (Nat.le_of_ble_eq_true rfl) (Nat.le_of_ble_eq_true rfl) (fun r8 h9 => ?_)
    refine gf_callV (ε2 := eI) C [.int a2, .int r8] dX4_freeThen_29 mw_X7_freeBehind ml_X4_77 ha1 (fun rZ hZ eZ => ok_X7_freeBehind a1 a2 r8 ha1 h9 rZ hZ eZ) rfl rfl rfl (Nat.le_of_ble_eq_true rfl) (Nat.le_of_ble_eq_true rfl) (Nat.le_of_ble_eq_true rfl) (fun r10 h11 => ?_)
    refine gf_istore C dX4_freeThen_32 [some (.ref a1), some (.int a2), none, none, some (.long v3), none, some (.long v4), none, some (.int r1), some (.int v5), some (.int r10)] rfl rfl (Nat.le_of_ble_eq_true rfl) (gf_iload C dX4_freeThen_34 rfl (gf_iconst C dX4_freeThen_36 ki_m1 ?_))
    refine gf_jn (fun (j14 : Int64 → Hp → Option (Int64 × Hp)) => ∀ (v12 : Int64) (h13 : Hp), GF K eL h13 49 [some (.ref a1), some (.int a2), none, none, some (.long v12), none, some (.long v4), none, some (.int r1), some (.int v5), none] [] (j14 v12 h13)) ?_ (fun j14 kj14 => ?_)
    · intro v12 h13
      refine gf_lload C dX4_freeThen_49 rfl (gf_lload C dX4_freeThen_51 rfl (gf_lconst C dX4_freeThen_53 kl_1 (gf_lsub C dX4_freeThen_54 (gf_land C dX4_freeThen_55 ?_))))
      refine gf_jlL (fun x15 => ?_)
      refine gf_lstore C dX4_freeThen_56 [some (.ref a1), some (.int a2), none, none, some (.long v12), none, some (.long x15), none, some (.int r1), some (.int v5), none] rfl rfl (Nat.le_of_ble_eq_true rfl) (gf_iinc C dX4_freeThen_58 rfl (ii_1 _) [some (.ref a1), some (.int a2), none, none, some (.long v12), none, some (.long x15), none, some (.int r1), some (.int (v5 + (1 : Int32))), none] rfl rfl ?_)
      refine gf_goto C 15 dX4_freeThen_61 (by decide) ?_
      exact gf_sub [some (.ref a1), some (.int a2), none, none, some (.long v12), none, some (.long x15), none, some (.int r1), some (.int (v5 + (1 : Int32))), none] (And.intro rfl (And.intro rfl (And.intro rfl (And.intro rfl (And.intro rfl (And.intro rfl trivial)))))) (kc7 v12 x15 (v5 + (1 : Int32)) h13)
    refine gf_icmpeq C 49 dX4_freeThen_37 (by decide) (fun _ => ?_) (fun _ => ?_)
    · exact gf_sub [some (.ref a1), some (.int a2), none, none, some (.long v3), none, some (.long v4), none, some (.int r1), some (.int v5), none] (And.intro rfl (And.intro rfl (And.intro rfl (And.intro rfl (And.intro rfl (And.intro rfl trivial)))))) (kj14 v3 h11)
    · refine gf_lload C dX4_freeThen_40 rfl (gf_lconst C dX4_freeThen_42 kl_1 (gf_iload C dX4_freeThen_43 rfl (gf_lshl C dX4_freeThen_45 (gf_lor C dX4_freeThen_46 ?_))))
      refine gf_jlL (fun x16 => ?_)
      refine gf_lstore C dX4_freeThen_47 [some (.ref a1), some (.int a2), none, none, some (.long x16), none, some (.long v4), none, some (.int r1), some (.int v5), some (.int r10)] rfl rfl (Nat.le_of_ble_eq_true rfl) ?_
      exact gf_sub [some (.ref a1), some (.int a2), none, none, some (.long x16), none, some (.long v4), none, some (.int r1), some (.int v5), none] (And.intro rfl (And.intro rfl (And.intro rfl (And.intro rfl (And.intro rfl (And.intro rfl trivial)))))) (kj14 x16 h11)
  · refine gf_lload C dX4_freeThen_64 rfl ?_
    exact gf_lret C dX4_freeThen_66 rfl
def F_X4_reachOn (t : Nat) (a1 : Nat) (a2 : Int32) (a3 : Int32) (h : Hp) : Option (Unit × Hp) :=
  jn (fun (h1 : Hp) =>
  some ((), h1)) (fun j2 => if a2 < 0 then (
  j2 h) else (
  if a2 < (128 : Int32) then (
  gd (inb a2 128) ( jn (fun (s3 : Int32) (h4 : Hp) =>
  gd (inb a2 128) ( jl (aS h4 (t + 1) a2.toNatClampNeg s3) (fun h6 => (lp 4000000000 (fun (c9 : Int32 → Hp → Option (Unit × Hp)) (v7 : Int32) (h8 : Hp) =>
  if v7 < (7 : Int32) then (
  jl (a2 ||| ((1 : Int32) <<< (v7 &&& 31))) (fun x10 => gd (inb a2 128) ( bd (F_X11_hasBit (aG h8 (t + 1) a2.toNatClampNeg) v7 h8) (fun r11 h12 => jn (fun (h13 : Hp) =>
  c9 (v7 + (1 : Int32)) h13) (fun j14 => if r11 = 0 then (
  j14 h12) else (
  if x10 < (128 : Int32) then (
  gd (inb x10 128) ( gd (inb a2 128) ( bd (F_X4_freeThen a1 v7 (lG h12 (t + 2) a2.toNatClampNeg) h12) (fun r15 h16 => gd (inb x10 128) ( jl (lS h16 (t + 2) x10.toNatClampNeg ((lG h12 (t + 2) x10.toNatClampNeg) ||| r15)) (fun h17 => j14 h17)))))) else (
  j14 h12))))))) else (
  some ((), h8))) (fun _ _ => none)) (0 : Int32) h6))) (fun j5 => if (lg_cmp (lG h (t + 2) a2.toNatClampNeg) (0 : Int64)) = 0 then (
  j5 (0 : Int32) h) else (
  bd (F_X7_nextOnes a1 a2 a3 h) (fun r18 h19 => j5 r18 h19))))) else (
  j2 h)))
set_option maxRecDepth 100000 in
set_option maxHeartbeats 4000000 in
theorem ok_X4_reachOn (t : Nat) (a1 : Nat) (a2 : Int32) (a3 : Int32) (ht : shp t = (0, 4)) (ha1 : shp a1 = (0, 7)) (h : Hp) (rZ : Unit) (hZ : Hp) (eZ : F_X4_reachOn t a1 a2 a3 h = some (rZ, hZ)) : AC yX4_reachOn cX4_reachOn 6 (none) 4 97 [.ref t, .ref a1, .int a2, .int a3] h (eV rZ) hZ := by
  refine AC_intro (o := F_X4_reachOn t a1 a2 a3 h) RX4 rfl (plainFor_of_name (by decide)) [some (.ref t), some (.ref a1), some (.int a2), some (.int a3), none, none] rfl (fun _ => rfl) (fun _ => Nat.le_of_ble_eq_true rfl) eZ (fun K C => ?_)
  unfold F_X4_reachOn
  refine gf_iload_n C dX4_reachOn_0 rfl rfl ?_
  refine gf_jn (fun (j2 : Hp → Option (Unit × Hp)) => ∀ (h1 : Hp), GF K eV h1 11 [none, none, none, none, none, none] [] (j2 h1)) ?_ (fun j2 kj2 => ?_)
  · intro h1
    exact gf_vret C dX4_reachOn_11 rfl
  refine gf_iflt C 11 dX4_reachOn_1 (by decide) (fun _ => ?_) (fun _ => ?_)
  · exact gf_sub [none, none, none, none, none, none] trivial (kj2 h)
  · refine gf_iload_n C dX4_reachOn_4 rfl rfl (gf_sipush C dX4_reachOn_5 ks_128 ?_)
    refine gf_icmplt C 12 dX4_reachOn_8 (by decide) (fun _ => ?_) (fun _ => ?_)
    · refine gf_aload_n C dX4_reachOn_12 rfl rfl (gf_getR C dX4_reachOn_13 fl_X4_9 ht rfl (t + 1) (lr_4_3 ht) (gf_iload_n C dX4_reachOn_16 rfl rfl (gf_aload_n C dX4_reachOn_17 rfl rfl (gf_getR C dX4_reachOn_18 fl_X4_15 ht rfl (t + 2) (lr_4_4 ht) (gf_iload_n C dX4_reachOn_21 rfl rfl (gf_lald C dX4_reachOn_22 (lq_4_4 ht) (gf_lconst C dX4_reachOn_23 kl_0 ?_)))))))
      refine gf_lcmp C dX4_reachOn_24 ?_
      refine gf_jn (fun (j5 : Int32 → Hp → Option (Unit × Hp)) => ∀ (s3 : Int32) (h4 : Hp), GF K eV h4 38 [some (.ref t), some (.ref a1), some (.int a2), none, none, none] [.int s3, .int a2, .ref (t + 1)] (j5 s3 h4)) ?_ (fun j5 kj5 => ?_)
      · intro s3 h4
        refine gf_iast C dX4_reachOn_38 (lq_4_3 ht) ?_
        refine gf_jlH (fun h6 => ?_)
        refine gf_iconst C dX4_reachOn_39 ki_0 (gf_istore C dX4_reachOn_40 [some (.ref t), some (.ref a1), some (.int a2), none, some (.int (0 : Int32)), none] rfl rfl (Nat.le_of_ble_eq_true rfl) ?_)
        refine gf_sub [some (.ref t), some (.ref a1), some (.int a2), none, some (.int (0 : Int32)), none] (And.intro rfl (And.intro rfl (And.intro rfl (And.intro rfl trivial)))) ?_
        refine lp_P (fun (c9 : Int32 → Hp → Option (Unit × Hp)) => ∀ (v7 : Int32) (h8 : Hp), GF K eV h8 42 [some (.ref t), some (.ref a1), some (.int a2), none, some (.int v7), none] [] (c9 v7 h8)) (fun _ _ => gf_none) (fun c9 kc9 v7 h8 => ?_) (0 : Int32) h6
        refine gf_iload C dX4_reachOn_42 rfl (gf_bipush C dX4_reachOn_44 kb_7 ?_)
        refine gf_icmpge C 107 dX4_reachOn_46 (by decide) (fun _ => ?_) (fun _ => ?_)
        · refine gf_iload_n C dX4_reachOn_49 rfl rfl (gf_iconst C dX4_reachOn_50 ki_1 (gf_iload C dX4_reachOn_51 rfl (gf_ishl C dX4_reachOn_53 (gf_ior C dX4_reachOn_54 ?_))))
          refine gf_jlI (fun x10 => ?_)
          refine gf_istore C dX4_reachOn_55 [some (.ref t), some (.ref a1), some (.int a2), none, some (.int v7), some (.int x10)] rfl rfl (Nat.le_of_ble_eq_true rfl) (gf_aload_n C dX4_reachOn_57 rfl rfl (gf_getR C dX4_reachOn_58 fl_X4_9 ht rfl (t + 1) (lr_4_3 ht) (gf_iload_n C dX4_reachOn_61 rfl rfl (gf_iald C dX4_reachOn_62 (lq_4_3 ht) (gf_iload C dX4_reachOn_63 rfl ?_)))))
          refine gf_callSN (ε2 := eI) C [.int (aG h8 (t + 1) a2.toNatClampNeg), .int v7] dX4_reachOn_65 mw_X11_hasBit ml_X4_60 (fun rZ hZ eZ => ok_X11_hasBit (aG h8 (t + 1) a2.toNatClampNeg) v7 h8 rZ hZ eZ) rfl rfl rfl (Nat.le_of_ble_eq_true rfl) (Nat.le_of_ble_eq_true rfl) (Nat.le_of_ble_eq_true rfl) (fun r11 h12 => ?_)
          refine gf_jn (fun (j14 : Hp → Option (Unit × Hp)) => ∀ (h13 : Hp), GF K eV h13 101 [some (.ref t), some (.ref a1), some (.int a2), none, some (.int v7), none] [] (j14 h13)) ?_ (fun j14 kj14 => ?_)
          · intro h13
            refine gf_iinc C dX4_reachOn_101 rfl (ii_1 _) [some (.ref t), some (.ref a1), some (.int a2), none, some (.int (v7 + (1 : Int32))), none] rfl rfl ?_
            refine gf_goto C 42 dX4_reachOn_104 (by decide) ?_
            exact gf_sub [some (.ref t), some (.ref a1), some (.int a2), none, some (.int (v7 + (1 : Int32))), none] (And.intro rfl (And.intro rfl (And.intro rfl (And.intro rfl trivial)))) (kc9 (v7 + (1 : Int32)) h13)
          refine gf_ifeq C 101 dX4_reachOn_68 (by decide) (fun _ => ?_) (fun _ => ?_)
          · exact gf_sub [some (.ref t), some (.ref a1), some (.int a2), none, some (.int v7), none] (And.intro rfl (And.intro rfl (And.intro rfl (And.intro rfl trivial)))) (kj14 h12)
          · refine gf_iload C dX4_reachOn_71 rfl (gf_sipush C dX4_reachOn_73 ks_128 ?_)
            refine gf_icmpge C 101 dX4_reachOn_76 (by decide) (fun _ => ?_) (fun _ => ?_)
            · refine gf_aload_n C dX4_reachOn_79 rfl rfl (gf_getR C dX4_reachOn_80 fl_X4_15 ht rfl (t + 2) (lr_4_4 ht) (gf_iload C dX4_reachOn_83 rfl (gf_dup2 C dX4_reachOn_85 rfl rfl (gf_lald C dX4_reachOn_86 (lq_4_4 ht) (gf_aload_n C dX4_reachOn_87 rfl rfl (gf_iload C dX4_reachOn_88 rfl (gf_aload_n C dX4_reachOn_90 rfl rfl ?_)))))))
              refine gf_getR C dX4_reachOn_91 fl_X4_15 ht rfl (t + 2) (lr_4_4 ht) (gf_iload_n C dX4_reachOn_94 rfl rfl (gf_lald C dX4_reachOn_95 (lq_4_4 ht) ?_))
              refine gf_callS (ε2 := eL) C [.ref a1, .int v7, .long (lG h12 (t + 2) a2.toNatClampNeg)] dX4_reachOn_96 mw_X4_freeThen ml_X4_64 (fun rZ hZ eZ => ok_X4_freeThen a1 v7 (lG h12 (t + 2) a2.toNatClampNeg) ha1 h12 rZ hZ eZ) rfl rfl rfl (Nat.le_of_ble_eq_true rfl) (Nat.le_of_ble_eq_true rfl) (Nat.le_of_ble_eq_true rfl) (fun r15 h16 => ?_)
              refine gf_lor C dX4_reachOn_99 (gf_last C dX4_reachOn_100 (lq_4_4 ht) ?_)
              refine gf_jlH (fun h17 => ?_)
              exact gf_sub [some (.ref t), some (.ref a1), some (.int a2), none, some (.int v7), none] (And.intro rfl (And.intro rfl (And.intro rfl (And.intro rfl trivial)))) (kj14 h17)
            · exact gf_sub [some (.ref t), some (.ref a1), some (.int a2), none, some (.int v7), none] (And.intro rfl (And.intro rfl (And.intro rfl (And.intro rfl trivial)))) (kj14 h12)
        · exact gf_vret C dX4_reachOn_107 rfl
      refine gf_ifne C 32 dX4_reachOn_25 (by decide) (fun _ => ?_) (fun _ => ?_)
      · refine gf_iconst C dX4_reachOn_28 ki_0 ?_
        refine gf_goto C 38 dX4_reachOn_29 (by decide) ?_
        exact gf_sub [some (.ref t), some (.ref a1), some (.int a2), none, none, none] (And.intro rfl (And.intro rfl (And.intro rfl trivial))) (kj5 (0 : Int32) h)
      · refine gf_aload_n C dX4_reachOn_32 rfl rfl (gf_iload_n C dX4_reachOn_33 rfl rfl (gf_iload_n C dX4_reachOn_34 rfl rfl ?_))
        refine gf_callV (ε2 := eI) C [.int a2, .int a3] dX4_reachOn_35 mw_X7_nextOnes ml_X4_57 ha1 (fun rZ hZ eZ => ok_X7_nextOnes a1 a2 a3 ha1 h rZ hZ eZ) rfl rfl rfl (Nat.le_of_ble_eq_true rfl) (Nat.le_of_ble_eq_true rfl) (Nat.le_of_ble_eq_true rfl) (fun r18 h19 => ?_)
        exact gf_sub [some (.ref t), some (.ref a1), some (.int a2), none, none, none] (And.intro rfl (And.intro rfl (And.intro rfl trivial))) (kj5 r18 h19)
    · exact gf_sub [none, none, none, none, none, none] trivial (kj2 h)
def F_X4_waysFrom (t : Nat) (a1 : Int32) (a2 : Int32) (h : Hp) : Option (Int32 × Hp) :=
  jn (fun (s1 : Int32) (h2 : Hp) =>
  jn (fun (s4 : Int32) (h5 : Hp) =>
  some (s4, h5)) (fun j6 => if s1 = 0 then (
  j6 (0 : Int32) h2) else (
  gd (inb ((a1 * (49 : Int32)) + a2) 6272) ( j6 (aG h2 (t + 3) ((a1 * (49 : Int32)) + a2).toNatClampNeg) h2)))) (fun j3 => jn (fun (h7 : Hp) =>
  j3 (0 : Int32) h7) (fun j8 => if a1 < 0 then (
  j8 h) else (
  if a1 < (128 : Int32) then (
  if a2 < 0 then (
  j8 h) else (
  if a2 < (49 : Int32) then (
  j3 (1 : Int32) h) else (
  j8 h))) else (
  j8 h))))
set_option maxRecDepth 100000 in
set_option maxHeartbeats 4000000 in
theorem ok_X4_waysFrom (t : Nat) (a1 : Int32) (a2 : Int32) (ht : shp t = (0, 4)) (h : Hp) (rZ : Int32) (hZ : Hp) (eZ : F_X4_waysFrom t a1 a2 h = some (rZ, hZ)) : AC yX4_waysFrom cX4_waysFrom 4 (some .int) 0 0 [.ref t, .int a1, .int a2] h (eI rZ) hZ := by
  refine AC_intro (o := F_X4_waysFrom t a1 a2 h) RX4 rfl (plainFor_of_name (by decide)) [some (.ref t), some (.int a1), some (.int a2), none] rfl (fun _ => rfl) (fun _ => Nat.le_of_ble_eq_true rfl) eZ (fun K C => ?_)
  unfold F_X4_waysFrom
  refine gf_iload_n C dX4_waysFrom_0 rfl rfl ?_
  refine gf_jn (fun (j3 : Int32 → Hp → Option (Int32 × Hp)) => ∀ (s1 : Int32) (h2 : Hp), GF K eI h2 26 [some (.ref t), some (.int a1), some (.int a2), none] [.int s1] (j3 s1 h2)) ?_ (fun j3 kj3 => ?_)
  · intro s1 h2
    refine gf_istore_n C dX4_waysFrom_26 rfl [some (.ref t), some (.int a1), some (.int a2), some (.int s1)] rfl rfl (Nat.le_of_ble_eq_true rfl) (gf_iload_n C dX4_waysFrom_27 rfl rfl ?_)
    refine gf_jn (fun (j6 : Int32 → Hp → Option (Int32 × Hp)) => ∀ (s4 : Int32) (h5 : Hp), GF K eI h5 46 [none, none, none, none] [.int s4] (j6 s4 h5)) ?_ (fun j6 kj6 => ?_)
    · intro s4 h5
      exact gf_iret C dX4_waysFrom_46 rfl
    refine gf_ifeq C 45 dX4_waysFrom_28 (by decide) (fun _ => ?_) (fun _ => ?_)
    · refine gf_iconst C dX4_waysFrom_45 ki_0 ?_
      exact gf_sub [none, none, none, none] trivial (kj6 (0 : Int32) h2)
    · refine gf_aload_n C dX4_waysFrom_31 rfl rfl (gf_getR C dX4_waysFrom_32 fl_X4_19 ht rfl (t + 3) (lr_4_5 ht) (gf_iload_n C dX4_waysFrom_35 rfl rfl (gf_bipush C dX4_waysFrom_36 kb_49 (gf_imul C dX4_waysFrom_38 (gf_iload_n C dX4_waysFrom_39 rfl rfl (gf_iadd C dX4_waysFrom_40 (gf_iald C dX4_waysFrom_41 (lq_4_5 ht) ?_)))))))
      refine gf_goto C 46 dX4_waysFrom_42 (by decide) ?_
      exact gf_sub [none, none, none, none] trivial (kj6 (aG h2 (t + 3) ((a1 * (49 : Int32)) + a2).toNatClampNeg) h2)
  refine gf_jn (fun (j8 : Hp → Option (Int32 × Hp)) => ∀ (h7 : Hp), GF K eI h7 25 [some (.ref t), some (.int a1), some (.int a2), none] [] (j8 h7)) ?_ (fun j8 kj8 => ?_)
  · intro h7
    refine gf_iconst C dX4_waysFrom_25 ki_0 ?_
    exact gf_sub [some (.ref t), some (.int a1), some (.int a2), none] (And.intro rfl (And.intro rfl (And.intro rfl trivial))) (kj3 (0 : Int32) h7)
  refine gf_iflt C 25 dX4_waysFrom_1 (by decide) (fun _ => ?_) (fun _ => ?_)
  · exact gf_sub [some (.ref t), some (.int a1), some (.int a2), none] (And.intro rfl (And.intro rfl (And.intro rfl trivial))) (kj8 h)
  · refine gf_iload_n C dX4_waysFrom_4 rfl rfl (gf_sipush C dX4_waysFrom_5 ks_128 ?_)
    refine gf_icmpge C 25 dX4_waysFrom_8 (by decide) (fun _ => ?_) (fun _ => ?_)
    · refine gf_iload_n C dX4_waysFrom_11 rfl rfl ?_
      refine gf_iflt C 25 dX4_waysFrom_12 (by decide) (fun _ => ?_) (fun _ => ?_)
      · exact gf_sub [some (.ref t), some (.int a1), some (.int a2), none] (And.intro rfl (And.intro rfl (And.intro rfl trivial))) (kj8 h)
      · refine gf_iload_n C dX4_waysFrom_15 rfl rfl (gf_bipush C dX4_waysFrom_16 kb_49 ?_)
        refine gf_icmpge C 25 dX4_waysFrom_18 (by decide) (fun _ => ?_) (fun _ => ?_)
        · refine gf_iconst C dX4_waysFrom_21 ki_1 ?_
          refine gf_goto C 26 dX4_waysFrom_22 (by decide) ?_
          exact gf_sub [some (.ref t), some (.int a1), some (.int a2), none] (And.intro rfl (And.intro rfl (And.intro rfl trivial))) (kj3 (1 : Int32) h)
        · exact gf_sub [some (.ref t), some (.int a1), some (.int a2), none] (And.intro rfl (And.intro rfl (And.intro rfl trivial))) (kj8 h)
    · exact gf_sub [some (.ref t), some (.int a1), some (.int a2), none] (And.intro rfl (And.intro rfl (And.intro rfl trivial))) (kj8 h)
def F_X4_waysBy (t : Nat) (a1 : Nat) (a2 : Int32) (a3 : Int32) (a4 : Int32) (h : Hp) : Option (Int32 × Hp) :=
  jn (fun (h1 : Hp) =>
  some ((0 : Int32), h1)) (fun j2 => if a2 < 0 then (
  j2 h) else (
  if a2 < (128 : Int32) then (
  gd (inb a2 128) ( bd (F_X11_hasBit (aG h (t + 1) a2.toNatClampNeg) a4 h) (fun r3 h4 => if r3 = 0 then (
  j2 h4) else (
  bd (F_X7_freeBehind a1 a4 a3 h4) (fun r5 h6 => jn (fun (s7 : Int32) (h8 : Hp) =>
  some (s7, h8)) (fun j9 => if r5 = (-1 : Int32) then (
  j9 (0 : Int32) h6) else (
  bd (F_X4_waysFrom t (a2 ||| ((1 : Int32) <<< (a4 &&& 31))) r5 h6) (fun r10 h11 => j9 r10 h11)))))))) else (
  j2 h)))
set_option maxRecDepth 100000 in
set_option maxHeartbeats 4000000 in
theorem ok_X4_waysBy (t : Nat) (a1 : Nat) (a2 : Int32) (a3 : Int32) (a4 : Int32) (ht : shp t = (0, 4)) (ha1 : shp a1 = (0, 7)) (h : Hp) (rZ : Int32) (hZ : Hp) (eZ : F_X4_waysBy t a1 a2 a3 a4 h = some (rZ, hZ)) : AC yX4_waysBy cX4_waysBy 6 (some .int) 3 67 [.ref t, .ref a1, .int a2, .int a3, .int a4] h (eI rZ) hZ := by
  refine AC_intro (o := F_X4_waysBy t a1 a2 a3 a4 h) RX4 rfl (plainFor_of_name (by decide)) [some (.ref t), some (.ref a1), some (.int a2), some (.int a3), some (.int a4), none] rfl (fun _ => rfl) (fun _ => Nat.le_of_ble_eq_true rfl) eZ (fun K C => ?_)
  unfold F_X4_waysBy
  refine gf_iload_n C dX4_waysBy_0 rfl rfl ?_
  refine gf_jn (fun (j2 : Hp → Option (Int32 × Hp)) => ∀ (h1 : Hp), GF K eI h1 25 [none, none, none, none, none, none] [] (j2 h1)) ?_ (fun j2 kj2 => ?_)
  · intro h1
    refine gf_iconst C dX4_waysBy_25 ki_0 ?_
    exact gf_iret C dX4_waysBy_26 rfl
  refine gf_iflt C 25 dX4_waysBy_1 (by decide) (fun _ => ?_) (fun _ => ?_)
  · exact gf_sub [none, none, none, none, none, none] trivial (kj2 h)
  · refine gf_iload_n C dX4_waysBy_4 rfl rfl (gf_sipush C dX4_waysBy_5 ks_128 ?_)
    refine gf_icmpge C 25 dX4_waysBy_8 (by decide) (fun _ => ?_) (fun _ => ?_)
    · refine gf_aload_n C dX4_waysBy_11 rfl rfl (gf_getR C dX4_waysBy_12 fl_X4_9 ht rfl (t + 1) (lr_4_3 ht) (gf_iload_n C dX4_waysBy_15 rfl rfl (gf_iald C dX4_waysBy_16 (lq_4_3 ht) (gf_iload C dX4_waysBy_17 rfl ?_))))
      refine gf_callSN (ε2 := eI) C [.int (aG h (t + 1) a2.toNatClampNeg), .int a4] dX4_waysBy_19 mw_X11_hasBit ml_X4_60 (fun rZ hZ eZ => ok_X11_hasBit (aG h (t + 1) a2.toNatClampNeg) a4 h rZ hZ eZ) rfl rfl rfl (Nat.le_of_ble_eq_true rfl) (Nat.le_of_ble_eq_true rfl) (Nat.le_of_ble_eq_true rfl) (fun r3 h4 => ?_)
      refine gf_ifne C 27 dX4_waysBy_22 (by decide) (fun _ => ?_) (fun _ => ?_)
      · exact gf_sub [none, none, none, none, none, none] trivial (kj2 h4)
      · refine gf_aload_n C dX4_waysBy_27 rfl rfl (gf_iload C dX4_waysBy_28 rfl (gf_iload_n C dX4_waysBy_30 rfl rfl ?_))
        refine gf_callV (ε2 := eI) C [.int a4, .int a3] dX4_waysBy_31 mw_X7_freeBehind ml_X4_77 ha1 (fun rZ hZ eZ => ok_X7_freeBehind a1 a4 a3 ha1 h4 rZ hZ eZ) rfl rfl rfl (Nat.le_of_ble_eq_true rfl) (Nat.le_of_ble_eq_true rfl) (Nat.le_of_ble_eq_true rfl) (fun r5 h6 => ?_)
        refine gf_istore C dX4_waysBy_34 [some (.ref t), some (.ref a1), some (.int a2), some (.int a3), some (.int a4), some (.int r5)] rfl rfl (Nat.le_of_ble_eq_true rfl) (gf_iload C dX4_waysBy_36 rfl (gf_iconst C dX4_waysBy_38 ki_m1 ?_))
        refine gf_jn (fun (j9 : Int32 → Hp → Option (Int32 × Hp)) => ∀ (s7 : Int32) (h8 : Hp), GF K eI h8 58 [none, none, none, none, none, none] [.int s7] (j9 s7 h8)) ?_ (fun j9 kj9 => ?_)
        · intro s7 h8
          exact gf_iret C dX4_waysBy_58 rfl
        refine gf_icmpne C 46 dX4_waysBy_39 (by decide) (fun _ => ?_) (fun _ => ?_)
        · refine gf_iconst C dX4_waysBy_42 ki_0 ?_
          refine gf_goto C 58 dX4_waysBy_43 (by decide) ?_
          exact gf_sub [none, none, none, none, none, none] trivial (kj9 (0 : Int32) h6)
        · refine gf_aload_n C dX4_waysBy_46 rfl rfl (gf_iload_n C dX4_waysBy_47 rfl rfl (gf_iconst C dX4_waysBy_48 ki_1 (gf_iload C dX4_waysBy_49 rfl (gf_ishl C dX4_waysBy_51 (gf_ior C dX4_waysBy_52 (gf_iload C dX4_waysBy_53 rfl ?_))))))
          refine gf_callV (ε2 := eI) C [.int (a2 ||| ((1 : Int32) <<< (a4 &&& 31))), .int r5] dX4_waysBy_55 mw_X4_waysFrom ml_X4_45 ht (fun rZ hZ eZ => ok_X4_waysFrom t (a2 ||| ((1 : Int32) <<< (a4 &&& 31))) r5 ht h6 rZ hZ eZ) rfl rfl rfl (Nat.le_of_ble_eq_true rfl) (Nat.le_of_ble_eq_true rfl) (Nat.le_of_ble_eq_true rfl) (fun r10 h11 => ?_)
          exact gf_sub [none, none, none, none, none, none] trivial (kj9 r10 h11)
    · exact gf_sub [none, none, none, none, none, none] trivial (kj2 h)
def F_X4_countOn (t : Nat) (a1 : Nat) (a2 : Int32) (a3 : Int32) (h : Hp) : Option (Unit × Hp) :=
  jn (fun (h1 : Hp) =>
  some ((), h1)) (fun j2 => if a2 < 0 then (
  j2 h) else (
  if a2 < (128 : Int32) then (
  gd (inb a2 128) ( jl (lG h (t + 2) a2.toNatClampNeg) (fun x3 => bd (F_J13_bitCount_95d88 x3 h) (fun r4 h5 => (lp 4000000000 (fun (c9 : Int64 → Int32 → Hp → Option (Unit × Hp)) (v6 : Int64) (v7 : Int32) (h8 : Hp) =>
  if v7 < r4 then (
  bd (F_J13_numberOfTrailingZeros_95d88 v6 h8) (fun r10 h11 => jn (fun (s12 : Int32) (h13 : Hp) =>
  (lp 4000000000 (fun (c18 : Int32 → Int32 → Hp → Option (Unit × Hp)) (v15 : Int32) (v16 : Int32) (h17 : Hp) =>
  jn (fun (h19 : Hp) =>
  jn (fun (h21 : Hp) =>
  jl (v6 &&& (v6 - (1 : Int64))) (fun x23 => c9 x23 (v7 + (1 : Int32)) h21)) (fun j22 => if r10 < (49 : Int32) then (
  gd (inb ((a2 * (49 : Int32)) + r10) 6272) ( jl (aS h19 (t + 3) ((a2 * (49 : Int32)) + r10).toNatClampNeg v15) (fun h24 => j22 h24))) else (
  j22 h19))) (fun j20 => if v16 < (7 : Int32) then (
  if a2 = a3 then (
  j20 h17) else (
  bd (F_X4_waysBy t a1 a2 r10 v16 h17) (fun r25 h26 => jl (v15 + r25) (fun x27 => c18 x27 (v16 + (1 : Int32)) h26)))) else (
  j20 h17))) (fun _ _ _ => none)) s12 (0 : Int32) h13) (fun j14 => if a2 = a3 then (
  j14 (1 : Int32) h11) else (
  j14 (0 : Int32) h11)))) else (
  some ((), h8))) (fun _ _ _ => none)) x3 (0 : Int32) h5)))) else (
  j2 h)))
set_option maxRecDepth 100000 in
set_option maxHeartbeats 4000000 in
theorem ok_X4_countOn (t : Nat) (a1 : Nat) (a2 : Int32) (a3 : Int32) (ht : shp t = (0, 4)) (ha1 : shp a1 = (0, 7)) (h : Hp) (rZ : Unit) (hZ : Hp) (eZ : F_X4_countOn t a1 a2 a3 h = some (rZ, hZ)) : AC yX4_countOn cX4_countOn 11 (none) 4 92 [.ref t, .ref a1, .int a2, .int a3] h (eV rZ) hZ := by
  refine AC_intro (o := F_X4_countOn t a1 a2 a3 h) RX4 rfl (plainFor_of_name (by decide)) [some (.ref t), some (.ref a1), some (.int a2), some (.int a3), none, none, none, none, none, none, none] rfl (fun _ => rfl) (fun _ => Nat.le_of_ble_eq_true rfl) eZ (fun K C => ?_)
  unfold F_X4_countOn
  refine gf_iload_n C dX4_countOn_0 rfl rfl ?_
  refine gf_jn (fun (j2 : Hp → Option (Unit × Hp)) => ∀ (h1 : Hp), GF K eV h1 11 [none, none, none, none, none, none, none, none, none, none, none] [] (j2 h1)) ?_ (fun j2 kj2 => ?_)
  · intro h1
    exact gf_vret C dX4_countOn_11 rfl
  refine gf_iflt C 11 dX4_countOn_1 (by decide) (fun _ => ?_) (fun _ => ?_)
  · exact gf_sub [none, none, none, none, none, none, none, none, none, none, none] trivial (kj2 h)
  · refine gf_iload_n C dX4_countOn_4 rfl rfl (gf_sipush C dX4_countOn_5 ks_128 ?_)
    refine gf_icmplt C 12 dX4_countOn_8 (by decide) (fun _ => ?_) (fun _ => ?_)
    · refine gf_aload_n C dX4_countOn_12 rfl rfl (gf_getR C dX4_countOn_13 fl_X4_15 ht rfl (t + 2) (lr_4_4 ht) (gf_iload_n C dX4_countOn_16 rfl rfl (gf_lald C dX4_countOn_17 (lq_4_4 ht) ?_)))
      refine gf_jlL (fun x3 => ?_)
      refine gf_lstore C dX4_countOn_18 [some (.ref t), some (.ref a1), some (.int a2), some (.int a3), some (.long x3), none, none, none, none, none, none] rfl rfl (Nat.le_of_ble_eq_true rfl) (gf_lload C dX4_countOn_20 rfl ?_)
      refine gf_callS (ε2 := eI) C [.long x3] dX4_countOn_22 mw_J13_bitCount_95d88 ml_X4_68 (fun rZ hZ eZ => ok_J13_bitCount_95d88 x3 h rZ hZ eZ) rfl rfl rfl (Nat.le_of_ble_eq_true rfl) (Nat.le_of_ble_eq_true rfl) (Nat.le_of_ble_eq_true rfl) (fun r4 h5 => ?_)
      refine gf_istore C dX4_countOn_25 [some (.ref t), some (.ref a1), some (.int a2), some (.int a3), some (.long x3), none, some (.int r4), none, none, none, none] rfl rfl (Nat.le_of_ble_eq_true rfl) (gf_iconst C dX4_countOn_27 ki_0 (gf_istore C dX4_countOn_28 [some (.ref t), some (.ref a1), some (.int a2), some (.int a3), some (.long x3), none, some (.int r4), some (.int (0 : Int32)), none, none, none] rfl rfl (Nat.le_of_ble_eq_true rfl) ?_))
      refine gf_sub [some (.ref t), some (.ref a1), some (.int a2), some (.int a3), some (.long x3), none, some (.int r4), some (.int (0 : Int32)), none, none, none] (And.intro rfl (And.intro rfl (And.intro rfl (And.intro rfl (And.intro rfl (And.intro rfl (And.intro rfl trivial))))))) ?_
      refine lp_P (fun (c9 : Int64 → Int32 → Hp → Option (Unit × Hp)) => ∀ (v6 : Int64) (v7 : Int32) (h8 : Hp), GF K eV h8 30 [some (.ref t), some (.ref a1), some (.int a2), some (.int a3), some (.long v6), none, some (.int r4), some (.int v7), none, none, none] [] (c9 v6 v7 h8)) (fun _ _ _ => gf_none) (fun c9 kc9 v6 v7 h8 => ?_) x3 (0 : Int32) h5
      refine gf_iload C dX4_countOn_30 rfl (gf_iload C dX4_countOn_32 rfl ?_)
      refine gf_icmpge C 128 dX4_countOn_34 (by decide) (fun _ => ?_) (fun _ => ?_)
      · refine gf_lload C dX4_countOn_37 rfl ?_
        refine gf_callS (ε2 := eI) C [.long v6] dX4_countOn_39 mw_J13_numberOfTrailingZeros_95d88 ml_X4_74 (fun rZ hZ eZ => ok_J13_numberOfTrailingZeros_95d88 v6 h8 rZ hZ eZ) rfl rfl rfl (Nat.le_of_ble_eq_true rfl) (Nat.le_of_ble_eq_true rfl) (Nat.le_of_ble_eq_true rfl) (fun r10 h11 => ?_)
        refine gf_istore C dX4_countOn_42 [some (.ref t), some (.ref a1), some (.int a2), some (.int a3), some (.long v6), none, some (.int r4), some (.int v7), some (.int r10), none, none] rfl rfl (Nat.le_of_ble_eq_true rfl) (gf_iload_n C dX4_countOn_44 rfl rfl (gf_iload_n C dX4_countOn_45 rfl rfl ?_))
        refine gf_jn (fun (j14 : Int32 → Hp → Option (Unit × Hp)) => ∀ (s12 : Int32) (h13 : Hp), GF K eV h13 54 [some (.ref t), some (.ref a1), some (.int a2), some (.int a3), some (.long v6), none, some (.int r4), some (.int v7), some (.int r10), none, none] [.int s12] (j14 s12 h13)) ?_ (fun j14 kj14 => ?_)
        · intro s12 h13
          refine gf_istore C dX4_countOn_54 [some (.ref t), some (.ref a1), some (.int a2), some (.int a3), some (.long v6), none, some (.int r4), some (.int v7), some (.int r10), some (.int s12), none] rfl rfl (Nat.le_of_ble_eq_true rfl) (gf_iconst C dX4_countOn_56 ki_0 (gf_istore C dX4_countOn_57 [some (.ref t), some (.ref a1), some (.int a2), some (.int a3), some (.long v6), none, some (.int r4), some (.int v7), some (.int r10), some (.int s12), some (.int (0 : Int32))] rfl rfl (Nat.le_of_ble_eq_true rfl) ?_))
          refine gf_sub [some (.ref t), some (.ref a1), some (.int a2), some (.int a3), some (.long v6), none, some (.int r4), some (.int v7), some (.int r10), some (.int s12), some (.int (0 : Int32))] (And.intro rfl (And.intro rfl (And.intro rfl (And.intro rfl (And.intro rfl (And.intro rfl (And.intro rfl (And.intro rfl (And.intro rfl (And.intro rfl trivial)))))))))) ?_
          refine lp_P (fun (c18 : Int32 → Int32 → Hp → Option (Unit × Hp)) => ∀ (v15 : Int32) (v16 : Int32) (h17 : Hp), GF K eV h17 59 [some (.ref t), some (.ref a1), some (.int a2), some (.int a3), some (.long v6), none, some (.int r4), some (.int v7), some (.int r10), some (.int v15), some (.int v16)] [] (c18 v15 v16 h17)) (fun _ _ _ => gf_none) (fun c18 kc18 v15 v16 h17 => ?_) s12 (0 : Int32) h13
          refine gf_iload C dX4_countOn_59 rfl (gf_bipush C dX4_countOn_61 kb_7 ?_)
          refine gf_jn (fun (j20 : Hp → Option (Unit × Hp)) => ∀ (h19 : Hp), GF K eV h19 92 [some (.ref t), some (.ref a1), some (.int a2), some (.int a3), some (.long v6), none, some (.int r4), some (.int v7), some (.int r10), some (.int v15), none] [] (j20 h19)) ?_ (fun j20 kj20 => ?_)
          · intro h19
            refine gf_iload C dX4_countOn_92 rfl (gf_bipush C dX4_countOn_94 kb_49 ?_)
            refine gf_jn (fun (j22 : Hp → Option (Unit × Hp)) => ∀ (h21 : Hp), GF K eV h21 113 [some (.ref t), some (.ref a1), some (.int a2), some (.int a3), some (.long v6), none, some (.int r4), some (.int v7), none, none, none] [] (j22 h21)) ?_ (fun j22 kj22 => ?_)
            · intro h21
              refine gf_lload C dX4_countOn_113 rfl (gf_lload C dX4_countOn_115 rfl (gf_lconst C dX4_countOn_117 kl_1 (gf_lsub C dX4_countOn_118 (gf_land C dX4_countOn_119 ?_))))
              refine gf_jlL (fun x23 => ?_)
              refine gf_lstore C dX4_countOn_120 [some (.ref t), some (.ref a1), some (.int a2), some (.int a3), some (.long x23), none, some (.int r4), some (.int v7), none, none, none] rfl rfl (Nat.le_of_ble_eq_true rfl) (gf_iinc C dX4_countOn_122 rfl (ii_1 _) [some (.ref t), some (.ref a1), some (.int a2), some (.int a3), some (.long x23), none, some (.int r4), some (.int (v7 + (1 : Int32))), none, none, none] rfl rfl ?_)
              refine gf_goto C 30 dX4_countOn_125 (by decide) ?_
              exact gf_sub [some (.ref t), some (.ref a1), some (.int a2), some (.int a3), some (.long x23), none, some (.int r4), some (.int (v7 + (1 : Int32))), none, none, none] (And.intro rfl (And.intro rfl (And.intro rfl (And.intro rfl (And.intro rfl (And.intro rfl (And.intro rfl trivial))))))) (kc9 x23 (v7 + (1 : Int32)) h21)
            refine gf_icmpge C 113 dX4_countOn_96 (by decide) (fun _ => ?_) (fun _ => ?_)
            · refine gf_aload_n C dX4_countOn_99 rfl rfl (gf_getR C dX4_countOn_100 fl_X4_19 ht rfl (t + 3) (lr_4_5 ht) (gf_iload_n C dX4_countOn_103 rfl rfl (gf_bipush C dX4_countOn_104 kb_49 (gf_imul C dX4_countOn_106 (gf_iload C dX4_countOn_107 rfl (gf_iadd C dX4_countOn_109 (gf_iload C dX4_countOn_110 rfl ?_)))))))
              refine gf_iast C dX4_countOn_112 (lq_4_5 ht) ?_
              refine gf_jlH (fun h24 => ?_)
              exact gf_sub [some (.ref t), some (.ref a1), some (.int a2), some (.int a3), some (.long v6), none, some (.int r4), some (.int v7), none, none, none] (And.intro rfl (And.intro rfl (And.intro rfl (And.intro rfl (And.intro rfl (And.intro rfl (And.intro rfl trivial))))))) (kj22 h24)
            · exact gf_sub [some (.ref t), some (.ref a1), some (.int a2), some (.int a3), some (.long v6), none, some (.int r4), some (.int v7), none, none, none] (And.intro rfl (And.intro rfl (And.intro rfl (And.intro rfl (And.intro rfl (And.intro rfl (And.intro rfl trivial))))))) (kj22 h19)
          refine gf_icmpge C 92 dX4_countOn_63 (by decide) (fun _ => ?_) (fun _ => ?_)
          · refine gf_iload_n C dX4_countOn_66 rfl rfl (gf_iload_n C dX4_countOn_67 rfl rfl ?_)
            refine gf_icmpeq C 92 dX4_countOn_68 (by decide) (fun _ => ?_) (fun _ => ?_)
            · exact gf_sub [some (.ref t), some (.ref a1), some (.int a2), some (.int a3), some (.long v6), none, some (.int r4), some (.int v7), some (.int r10), some (.int v15), none] (And.intro rfl (And.intro rfl (And.intro rfl (And.intro rfl (And.intro rfl (And.intro rfl (And.intro rfl (And.intro rfl (And.intro rfl trivial))))))))) (kj20 h17)
            · refine gf_iload C dX4_countOn_71 rfl (gf_aload_n C dX4_countOn_73 rfl rfl (gf_aload_n C dX4_countOn_74 rfl rfl (gf_iload_n C dX4_countOn_75 rfl rfl (gf_iload C dX4_countOn_76 rfl (gf_iload C dX4_countOn_78 rfl ?_)))))
              refine gf_callV (ε2 := eI) C [.ref a1, .int a2, .int r10, .int v16] dX4_countOn_80 mw_X4_waysBy ml_X4_80 ht (fun rZ hZ eZ => ok_X4_waysBy t a1 a2 r10 v16 ht ha1 h17 rZ hZ eZ) rfl rfl rfl (Nat.le_of_ble_eq_true rfl) (Nat.le_of_ble_eq_true rfl) (Nat.le_of_ble_eq_true rfl) (fun r25 h26 => ?_)
              refine gf_iadd C dX4_countOn_83 ?_
              refine gf_jlI (fun x27 => ?_)
              refine gf_istore C dX4_countOn_84 [some (.ref t), some (.ref a1), some (.int a2), some (.int a3), some (.long v6), none, some (.int r4), some (.int v7), some (.int r10), some (.int x27), some (.int v16)] rfl rfl (Nat.le_of_ble_eq_true rfl) (gf_iinc C dX4_countOn_86 rfl (ii_1 _) [some (.ref t), some (.ref a1), some (.int a2), some (.int a3), some (.long v6), none, some (.int r4), some (.int v7), some (.int r10), some (.int x27), some (.int (v16 + (1 : Int32)))] rfl rfl ?_)
              refine gf_goto C 59 dX4_countOn_89 (by decide) ?_
              exact gf_sub [some (.ref t), some (.ref a1), some (.int a2), some (.int a3), some (.long v6), none, some (.int r4), some (.int v7), some (.int r10), some (.int x27), some (.int (v16 + (1 : Int32)))] (And.intro rfl (And.intro rfl (And.intro rfl (And.intro rfl (And.intro rfl (And.intro rfl (And.intro rfl (And.intro rfl (And.intro rfl (And.intro rfl trivial)))))))))) (kc18 x27 (v16 + (1 : Int32)) h26)
          · exact gf_sub [some (.ref t), some (.ref a1), some (.int a2), some (.int a3), some (.long v6), none, some (.int r4), some (.int v7), some (.int r10), some (.int v15), none] (And.intro rfl (And.intro rfl (And.intro rfl (And.intro rfl (And.intro rfl (And.intro rfl (And.intro rfl (And.intro rfl (And.intro rfl trivial))))))))) (kj20 h17)
        refine gf_icmpne C 53 dX4_countOn_46 (by decide) (fun _ => ?_) (fun _ => ?_)
        · refine gf_iconst C dX4_countOn_49 ki_1 ?_
          refine gf_goto C 54 dX4_countOn_50 (by decide) ?_
          exact gf_sub [some (.ref t), some (.ref a1), some (.int a2), some (.int a3), some (.long v6), none, some (.int r4), some (.int v7), some (.int r10), none, none] (And.intro rfl (And.intro rfl (And.intro rfl (And.intro rfl (And.intro rfl (And.intro rfl (And.intro rfl (And.intro rfl trivial)))))))) (kj14 (1 : Int32) h11)
        · refine gf_iconst C dX4_countOn_53 ki_0 ?_
          exact gf_sub [some (.ref t), some (.ref a1), some (.int a2), some (.int a3), some (.long v6), none, some (.int r4), some (.int v7), some (.int r10), none, none] (And.intro rfl (And.intro rfl (And.intro rfl (And.intro rfl (And.intro rfl (And.intro rfl (And.intro rfl (And.intro rfl trivial)))))))) (kj14 (0 : Int32) h11)
      · exact gf_vret C dX4_countOn_128 rfl
    · exact gf_sub [none, none, none, none, none, none, none, none, none, none, none] trivial (kj2 h)
def F_X4_seek (t : Nat) (a1 : Nat) (h : Hp) : Option (Unit × Hp) :=
  jl (oS h (64 * t + 2) (some a1)) (fun h1 => bd (F_X7_everyone a1 h1) (fun r2 h3 => bd (F_J7_fill_d0a16 (t + 2) 128 (0 : Int64) h3) (fun _ h4 => gd (inb (0 : Int32) 128) ( jl (lS h4 (t + 2) (0 : Int32).toNatClampNeg (1 : Int64)) (fun h5 => (lp 4000000000 (fun (c8 : Int32 → Hp → Option (Unit × Hp)) (v6 : Int32) (h7 : Hp) =>
  if v6 < r2 then (
  bd (F_X4_reachOn t a1 v6 r2 h7) (fun _ h9 => c8 (v6 + (1 : Int32)) h9)) else (
  (lp 4000000000 (fun (c12 : Int32 → Hp → Option (Unit × Hp)) (v10 : Int32) (h11 : Hp) =>
  if v10 < 0 then (
  bd (F_X4_waysFrom t (0 : Int32) (0 : Int32) h11) (fun r13 h14 => jl (sS h14 (64 * t + 1) r13) (fun h15 => jl (sS h15 (64 * t + 0) (1 : Int32)) (fun h16 => some ((), h16))))) else (
  bd (F_X4_countOn t a1 v10 r2 h11) (fun _ h17 => c12 (v10 + (-1 : Int32)) h17))) (fun _ _ => none)) r2 h7)) (fun _ _ => none)) (0 : Int32) h5)))))
set_option maxRecDepth 100000 in
set_option maxHeartbeats 4000000 in
theorem ok_X4_seek (t : Nat) (a1 : Nat) (ht : shp t = (0, 4)) (ha1 : shp a1 = (0, 7)) (h : Hp) (rZ : Unit) (hZ : Hp) (eZ : F_X4_seek t a1 h = some (rZ, hZ)) : AC yX4_seek cX4_seek 4 (none) 5 122 [.ref t, .ref a1] h (eV rZ) hZ := by
  refine AC_intro (o := F_X4_seek t a1 h) RX4 rfl (plainFor_of_name (by decide)) [some (.ref t), some (.ref a1), none, none] rfl (fun _ => rfl) (fun _ => Nat.le_of_ble_eq_true rfl) eZ (fun K C => ?_)
  unfold F_X4_seek
  refine gf_aload_n C dX4_seek_0 rfl rfl (gf_aload_n C dX4_seek_1 rfl rfl (gf_putO C dX4_seek_2 fp_X4_22 ht rfl (64 * t + 2) rfl ?_))
  refine gf_jlH (fun h1 => ?_)
  refine gf_aload_n C dX4_seek_5 rfl rfl ?_
  refine gf_callV (ε2 := eI) C [] dX4_seek_6 mw_X7_everyone ml_X4_26 ha1 (fun rZ hZ eZ => ok_X7_everyone a1 ha1 h1 rZ hZ eZ) rfl rfl rfl (Nat.le_of_ble_eq_true rfl) (Nat.le_of_ble_eq_true rfl) (Nat.le_of_ble_eq_true rfl) (fun r2 h3 => ?_)
  refine gf_istore_n C dX4_seek_9 rfl [some (.ref t), some (.ref a1), some (.int r2), none] rfl rfl (Nat.le_of_ble_eq_true rfl) (gf_aload_n C dX4_seek_10 rfl rfl (gf_getR C dX4_seek_11 fl_X4_15 ht rfl (t + 2) (lr_4_4 ht) (gf_lconst C dX4_seek_14 kl_0 ?_)))
  refine gf_callS (ε2 := eV) C [.ref (t + 2), .long (0 : Int64)] dX4_seek_15 mw_J7_fill_d0a16 ml_X4_32 (fun rZ hZ eZ => ok_J7_fill_d0a16 (t + 2) 128 (0 : Int64) (lq_4_4 ht) h3 rZ hZ eZ) rfl rfl rfl (Nat.le_of_ble_eq_true rfl) (Nat.le_of_ble_eq_true rfl) (Nat.le_of_ble_eq_true rfl) (fun _ h4 => ?_)
  refine gf_aload_n C dX4_seek_18 rfl rfl (gf_getR C dX4_seek_19 fl_X4_15 ht rfl (t + 2) (lr_4_4 ht) (gf_iconst C dX4_seek_22 ki_0 (gf_lconst C dX4_seek_23 kl_1 (gf_last C dX4_seek_24 (lq_4_4 ht) ?_))))
  refine gf_jlH (fun h5 => ?_)
  refine gf_iconst C dX4_seek_25 ki_0 (gf_istore_n C dX4_seek_26 rfl [some (.ref t), some (.ref a1), some (.int r2), some (.int (0 : Int32))] rfl rfl (Nat.le_of_ble_eq_true rfl) ?_)
  refine gf_sub [some (.ref t), some (.ref a1), some (.int r2), some (.int (0 : Int32))] (And.intro rfl (And.intro rfl (And.intro rfl (And.intro rfl trivial)))) ?_
  refine lp_P (fun (c8 : Int32 → Hp → Option (Unit × Hp)) => ∀ (v6 : Int32) (h7 : Hp), GF K eV h7 27 [some (.ref t), some (.ref a1), some (.int r2), some (.int v6)] [] (c8 v6 h7)) (fun _ _ => gf_none) (fun c8 kc8 v6 h7 => ?_) (0 : Int32) h5
  refine gf_iload_n C dX4_seek_27 rfl rfl (gf_iload_n C dX4_seek_28 rfl rfl ?_)
  refine gf_icmpge C 45 dX4_seek_29 (by decide) (fun _ => ?_) (fun _ => ?_)
  · refine gf_aload_n C dX4_seek_32 rfl rfl (gf_aload_n C dX4_seek_33 rfl rfl (gf_iload_n C dX4_seek_34 rfl rfl (gf_iload_n C dX4_seek_35 rfl rfl ?_)))
    refine gf_callV (ε2 := eV) C [.ref a1, .int v6, .int r2] dX4_seek_36 mw_X4_reachOn ml_X4_38 ht (fun rZ hZ eZ => ok_X4_reachOn t a1 v6 r2 ht ha1 h7 rZ hZ eZ) rfl rfl rfl (Nat.le_of_ble_eq_true rfl) (Nat.le_of_ble_eq_true rfl) (Nat.le_of_ble_eq_true rfl) (fun _ h9 => ?_)
    refine gf_iinc C dX4_seek_39 rfl (ii_1 _) [some (.ref t), some (.ref a1), some (.int r2), some (.int (v6 + (1 : Int32)))] rfl rfl ?_
    refine gf_goto C 27 dX4_seek_42 (by decide) ?_
    exact gf_sub [some (.ref t), some (.ref a1), some (.int r2), some (.int (v6 + (1 : Int32)))] (And.intro rfl (And.intro rfl (And.intro rfl (And.intro rfl trivial)))) (kc8 (v6 + (1 : Int32)) h9)
  · refine gf_iload_n C dX4_seek_45 rfl rfl (gf_istore_n C dX4_seek_46 rfl [some (.ref t), some (.ref a1), some (.int r2), some (.int r2)] rfl rfl (Nat.le_of_ble_eq_true rfl) ?_)
    refine gf_sub [some (.ref t), some (.ref a1), some (.int r2), some (.int r2)] (And.intro rfl (And.intro rfl (And.intro rfl (And.intro rfl trivial)))) ?_
    refine lp_P (fun (c12 : Int32 → Hp → Option (Unit × Hp)) => ∀ (v10 : Int32) (h11 : Hp), GF K eV h11 47 [some (.ref t), some (.ref a1), some (.int r2), some (.int v10)] [] (c12 v10 h11)) (fun _ _ => gf_none) (fun c12 kc12 v10 h11 => ?_) r2 h7
    refine gf_iload_n C dX4_seek_47 rfl rfl ?_
    refine gf_iflt C 64 dX4_seek_48 (by decide) (fun _ => ?_) (fun _ => ?_)
    · refine gf_aload_n C dX4_seek_64 rfl rfl (gf_aload_n C dX4_seek_65 rfl rfl (gf_iconst C dX4_seek_66 ki_0 (gf_iconst C dX4_seek_67 ki_0 ?_)))
      refine gf_callV (ε2 := eI) C [.int (0 : Int32), .int (0 : Int32)] dX4_seek_68 mw_X4_waysFrom ml_X4_45 ht (fun rZ hZ eZ => ok_X4_waysFrom t (0 : Int32) (0 : Int32) ht h11 rZ hZ eZ) rfl rfl rfl (Nat.le_of_ble_eq_true rfl) (Nat.le_of_ble_eq_true rfl) (Nat.le_of_ble_eq_true rfl) (fun r13 h14 => ?_)
      refine gf_putI C dX4_seek_71 fp_X4_49 ht rfl (64 * t + 1) rfl ?_
      refine gf_jlH (fun h15 => ?_)
      refine gf_aload_n C dX4_seek_74 rfl rfl (gf_iconst C dX4_seek_75 ki_1 (gf_putZ C dX4_seek_76 fp_X4_53 ht rfl (64 * t + 0) rfl rfl ?_))
      refine gf_jlH (fun h16 => ?_)
      exact gf_vret C dX4_seek_79 rfl
    · refine gf_aload_n C dX4_seek_51 rfl rfl (gf_aload_n C dX4_seek_52 rfl rfl (gf_iload_n C dX4_seek_53 rfl rfl (gf_iload_n C dX4_seek_54 rfl rfl ?_)))
      refine gf_callV (ε2 := eV) C [.ref a1, .int v10, .int r2] dX4_seek_55 mw_X4_countOn ml_X4_42 ht (fun rZ hZ eZ => ok_X4_countOn t a1 v10 r2 ht ha1 h11 rZ hZ eZ) rfl rfl rfl (Nat.le_of_ble_eq_true rfl) (Nat.le_of_ble_eq_true rfl) (Nat.le_of_ble_eq_true rfl) (fun _ h17 => ?_)
      refine gf_iinc C dX4_seek_58 rfl (ii_m1 _) [some (.ref t), some (.ref a1), some (.int r2), some (.int (v10 + (-1 : Int32)))] rfl rfl ?_
      refine gf_goto C 47 dX4_seek_61 (by decide) ?_
      exact gf_sub [some (.ref t), some (.ref a1), some (.int r2), some (.int (v10 + (-1 : Int32)))] (And.intro rfl (And.intro rfl (And.intro rfl (And.intro rfl trivial)))) (kc12 (v10 + (-1 : Int32)) h17)
def F_X1_ordersWithPiece (a1 : Nat) (a2 : Nat) (a3 : Int32) (a4 : Int32) (a5 : Int32) (h : Hp) : Option (Int32 × Hp) :=
  bd (F_X5_copyFrom 93 (a1 + 2) h) (fun _ h1 => bd (F_X5_put 93 a3 a4 a5 (0 : Int32) h1) (fun _ h2 => bd (F_X7_copyFrom 98 a2 h2) (fun _ h3 => bd (F_X7_readAgain 98 a1 93 a3 a4 h3) (fun _ h4 => bd (F_X4_seek 105 98 h4) (fun _ h5 => some (sG h5 6721, h5))))))
set_option maxRecDepth 100000 in
set_option maxHeartbeats 4000000 in
theorem ok_X1_ordersWithPiece (a1 : Nat) (a2 : Nat) (a3 : Int32) (a4 : Int32) (a5 : Int32) (ha1 : shp a1 = (0, 0)) (ha2 : shp a2 = (0, 7)) (h : Hp) (rZ : Int32) (hZ : Hp) (eZ : F_X1_ordersWithPiece a1 a2 a3 a4 a5 h = some (rZ, hZ)) : AC yX1_ordersWithPiece cX1_ordersWithPiece 6 (some .int) 6 145 [.ref 91, .ref a1, .ref a2, .int a3, .int a4, .int a5] h (eI rZ) hZ := by
  refine AC_intro (o := F_X1_ordersWithPiece a1 a2 a3 a4 a5 h) RX1 rfl (plainFor_of_name (by decide)) [some (.ref 91), some (.ref a1), some (.ref a2), some (.int a3), some (.int a4), some (.int a5)] rfl (fun _ => rfl) (fun _ => Nat.le_of_ble_eq_true rfl) eZ (fun K C => ?_)
  unfold F_X1_ordersWithPiece
  refine gf_aload_n C dX1_ordersWithPiece_0 rfl rfl (gf_getR C dX1_ordersWithPiece_1 fl_X1_18 s_91 rfl 93 rfl (gf_aload_n C dX1_ordersWithPiece_4 rfl rfl (gf_getR C dX1_ordersWithPiece_5 fl_X1_78 ha1 rfl (a1 + 2) (lr_0_3 ha1) ?_)))
  refine gf_callV (ε2 := eV) C [.ref (a1 + 2)] dX1_ordersWithPiece_8 mw_X5_copyFrom ml_X1_96 s_93 (fun rZ hZ eZ => ok_X5_copyFrom 93 (a1 + 2) s_93 (lq_0_3 ha1) h rZ hZ eZ) rfl rfl rfl (Nat.le_of_ble_eq_true rfl) (Nat.le_of_ble_eq_true rfl) (Nat.le_of_ble_eq_true rfl) (fun _ h1 => ?_)
  refine gf_aload_n C dX1_ordersWithPiece_11 rfl rfl (gf_getR C dX1_ordersWithPiece_12 fl_X1_18 s_91 rfl 93 rfl (gf_iload_n C dX1_ordersWithPiece_15 rfl rfl (gf_iload C dX1_ordersWithPiece_16 rfl (gf_iload C dX1_ordersWithPiece_18 rfl (gf_iconst C dX1_ordersWithPiece_20 ki_0 ?_)))))
  refine gf_callV (ε2 := eV) C [.int a3, .int a4, .int a5, .int (0 : Int32)] dX1_ordersWithPiece_21 mw_X5_put ml_X1_111 s_93 (fun rZ hZ eZ => ok_X5_put 93 a3 a4 a5 (0 : Int32) s_93 h1 rZ hZ eZ) rfl rfl rfl (Nat.le_of_ble_eq_true rfl) (Nat.le_of_ble_eq_true rfl) (Nat.le_of_ble_eq_true rfl) (fun _ h2 => ?_)
  refine gf_aload_n C dX1_ordersWithPiece_24 rfl rfl (gf_getR C dX1_ordersWithPiece_25 fl_X1_25 s_91 rfl 98 rfl (gf_aload_n C dX1_ordersWithPiece_28 rfl rfl ?_))
  refine gf_callV (ε2 := eV) C [.ref a2] dX1_ordersWithPiece_29 mw_X7_copyFrom ml_X1_104 s_98 (fun rZ hZ eZ => ok_X7_copyFrom 98 a2 s_98 ha2 h2 rZ hZ eZ) rfl rfl rfl (Nat.le_of_ble_eq_true rfl) (Nat.le_of_ble_eq_true rfl) (Nat.le_of_ble_eq_true rfl) (fun _ h3 => ?_)
  refine gf_aload_n C dX1_ordersWithPiece_32 rfl rfl (gf_getR C dX1_ordersWithPiece_33 fl_X1_25 s_91 rfl 98 rfl (gf_aload_n C dX1_ordersWithPiece_36 rfl rfl (gf_aload_n C dX1_ordersWithPiece_37 rfl rfl (gf_getR C dX1_ordersWithPiece_38 fl_X1_18 s_91 rfl 93 rfl (gf_iload_n C dX1_ordersWithPiece_41 rfl rfl (gf_iload C dX1_ordersWithPiece_42 rfl ?_))))))
  refine gf_callV (ε2 := eV) C [.ref a1, .ref 93, .int a3, .int a4] dX1_ordersWithPiece_44 mw_X7_readAgain ml_X1_107 s_98 (fun rZ hZ eZ => ok_X7_readAgain 98 a1 93 a3 a4 s_98 ha1 s_93 h3 rZ hZ eZ) rfl rfl rfl (Nat.le_of_ble_eq_true rfl) (Nat.le_of_ble_eq_true rfl) (Nat.le_of_ble_eq_true rfl) (fun _ h4 => ?_)
  refine gf_aload_n C dX1_ordersWithPiece_47 rfl rfl (gf_getR C dX1_ordersWithPiece_48 fl_X1_32 s_91 rfl 105 rfl (gf_aload_n C dX1_ordersWithPiece_51 rfl rfl (gf_getR C dX1_ordersWithPiece_52 fl_X1_25 s_91 rfl 98 rfl ?_)))
  refine gf_callV (ε2 := eV) C [.ref 98] dX1_ordersWithPiece_55 mw_X4_seek ml_X1_115 s_105 (fun rZ hZ eZ => ok_X4_seek 105 98 s_105 s_98 h4 rZ hZ eZ) rfl rfl rfl (Nat.le_of_ble_eq_true rfl) (Nat.le_of_ble_eq_true rfl) (Nat.le_of_ble_eq_true rfl) (fun _ h5 => ?_)
  refine gf_aload_n C dX1_ordersWithPiece_58 rfl rfl (gf_getR C dX1_ordersWithPiece_59 fl_X1_32 s_91 rfl 105 rfl (gf_getI C dX1_ordersWithPiece_62 fl_X1_118 s_105 rfl 6721 rfl ?_))
  exact gf_iret C dX1_ordersWithPiece_65 rfl
def F_X1_ordersWithAhead (a1 : Nat) (a2 : Int32) (a3 : Int32) (h : Hp) : Option (Int32 × Hp) :=
  bd (F_X7_copyFrom 98 a1 h) (fun _ h1 => bd (F_X7_putAhead 98 ((1 : Int32) <<< (a2 &&& 31)) ((1 : Int32) <<< (a3 &&& 31)) h1) (fun _ h2 => bd (F_X4_seek 105 98 h2) (fun _ h3 => some (sG h3 6721, h3))))
set_option maxRecDepth 100000 in
set_option maxHeartbeats 4000000 in
theorem ok_X1_ordersWithAhead (a1 : Nat) (a2 : Int32) (a3 : Int32) (ha1 : shp a1 = (0, 7)) (h : Hp) (rZ : Int32) (hZ : Hp) (eZ : F_X1_ordersWithAhead a1 a2 a3 h = some (rZ, hZ)) : AC yX1_ordersWithAhead cX1_ordersWithAhead 4 (some .int) 6 145 [.ref 91, .ref a1, .int a2, .int a3] h (eI rZ) hZ := by
  refine AC_intro (o := F_X1_ordersWithAhead a1 a2 a3 h) RX1 rfl (plainFor_of_name (by decide)) [some (.ref 91), some (.ref a1), some (.int a2), some (.int a3)] rfl (fun _ => rfl) (fun _ => Nat.le_of_ble_eq_true rfl) eZ (fun K C => ?_)
  unfold F_X1_ordersWithAhead
  refine gf_aload_n C dX1_ordersWithAhead_0 rfl rfl (gf_getR C dX1_ordersWithAhead_1 fl_X1_25 s_91 rfl 98 rfl (gf_aload_n C dX1_ordersWithAhead_4 rfl rfl ?_))
  refine gf_callV (ε2 := eV) C [.ref a1] dX1_ordersWithAhead_5 mw_X7_copyFrom ml_X1_104 s_98 (fun rZ hZ eZ => ok_X7_copyFrom 98 a1 s_98 ha1 h rZ hZ eZ) rfl rfl rfl (Nat.le_of_ble_eq_true rfl) (Nat.le_of_ble_eq_true rfl) (Nat.le_of_ble_eq_true rfl) (fun _ h1 => ?_)
  refine gf_aload_n C dX1_ordersWithAhead_8 rfl rfl (gf_getR C dX1_ordersWithAhead_9 fl_X1_25 s_91 rfl 98 rfl (gf_iconst C dX1_ordersWithAhead_12 ki_1 (gf_iload_n C dX1_ordersWithAhead_13 rfl rfl (gf_ishl C dX1_ordersWithAhead_14 (gf_iconst C dX1_ordersWithAhead_15 ki_1 (gf_iload_n C dX1_ordersWithAhead_16 rfl rfl (gf_ishl C dX1_ordersWithAhead_17 ?_)))))))
  refine gf_callV (ε2 := eV) C [.int ((1 : Int32) <<< (a2 &&& 31)), .int ((1 : Int32) <<< (a3 &&& 31))] dX1_ordersWithAhead_18 mw_X7_putAhead ml_X1_121 s_98 (fun rZ hZ eZ => ok_X7_putAhead 98 ((1 : Int32) <<< (a2 &&& 31)) ((1 : Int32) <<< (a3 &&& 31)) s_98 h1 rZ hZ eZ) rfl rfl rfl (Nat.le_of_ble_eq_true rfl) (Nat.le_of_ble_eq_true rfl) (Nat.le_of_ble_eq_true rfl) (fun _ h2 => ?_)
  refine gf_aload_n C dX1_ordersWithAhead_21 rfl rfl (gf_getR C dX1_ordersWithAhead_22 fl_X1_32 s_91 rfl 105 rfl (gf_aload_n C dX1_ordersWithAhead_25 rfl rfl (gf_getR C dX1_ordersWithAhead_26 fl_X1_25 s_91 rfl 98 rfl ?_)))
  refine gf_callV (ε2 := eV) C [.ref 98] dX1_ordersWithAhead_29 mw_X4_seek ml_X1_115 s_105 (fun rZ hZ eZ => ok_X4_seek 105 98 s_105 s_98 h2 rZ hZ eZ) rfl rfl rfl (Nat.le_of_ble_eq_true rfl) (Nat.le_of_ble_eq_true rfl) (Nat.le_of_ble_eq_true rfl) (fun _ h3 => ?_)
  refine gf_aload_n C dX1_ordersWithAhead_32 rfl rfl (gf_getR C dX1_ordersWithAhead_33 fl_X1_32 s_91 rfl 105 rfl (gf_getI C dX1_ordersWithAhead_36 fl_X1_118 s_105 rfl 6721 rfl ?_))
  exact gf_iret C dX1_ordersWithAhead_39 rfl
def F_X1_canNarrow (a1 : Nat) (a2 : Int32) (a3 : Int32) (h : Hp) : Option (Int32 × Hp) :=
  bd (F_X0_kindOf a1 a3 h) (fun r1 h2 => if r1 = (3 : Int32) then (
  some ((0 : Int32), h2)) else (
  bd (F_X0_picturesSeeing a1 a3 (0 : Int32) h2) (fun r3 h4 => bd (F_X0_picturesSeeing a1 a3 (1 : Int32) h4) (fun r5 h6 => bd (F_X11_hasBit r3 a2 h6) (fun r7 h8 => jn (fun (s9 : Int32) (h10 : Hp) =>
  gd (isB s9) ( some (s9, h10))) (fun j11 => jn (fun (h13 : Hp) =>
  j11 (0 : Int32) h13) (fun j14 => if r7 = 0 then (
  if r5 = 0 then (
  j14 h8) else (
  if r5 = r3 then (
  j14 h8) else (
  j11 (1 : Int32) h8))) else (
  j14 h8))))))))
set_option maxRecDepth 100000 in
set_option maxHeartbeats 4000000 in
theorem ok_X1_canNarrow (a1 : Nat) (a2 : Int32) (a3 : Int32) (ha1 : shp a1 = (0, 0)) (h : Hp) (rZ : Int32) (hZ : Hp) (eZ : F_X1_canNarrow a1 a2 a3 h = some (rZ, hZ)) : AC yX1_canNarrow cX1_canNarrow 5 (some .boolean) 3 67 [.ref a1, .int a2, .int a3] h (eI rZ) hZ := by
  refine AC_intro (o := F_X1_canNarrow a1 a2 a3 h) RX1 rfl (plainFor_of_name (by decide)) [some (.ref a1), some (.int a2), some (.int a3), none, none] rfl (fun _ => rfl) (fun _ => Nat.le_of_ble_eq_true rfl) eZ (fun K C => ?_)
  unfold F_X1_canNarrow
  refine gf_aload_n C dX1_canNarrow_0 rfl rfl (gf_iload_n C dX1_canNarrow_1 rfl rfl ?_)
  refine gf_callV (ε2 := eI) C [.int a3] dX1_canNarrow_2 mw_X0_kindOf ml_X1_150 ha1 (fun rZ hZ eZ => ok_X0_kindOf a1 a3 ha1 h rZ hZ eZ) rfl rfl rfl (Nat.le_of_ble_eq_true rfl) (Nat.le_of_ble_eq_true rfl) (Nat.le_of_ble_eq_true rfl) (fun r1 h2 => ?_)
  refine gf_iconst C dX1_canNarrow_5 ki_3 ?_
  refine gf_icmpne C 11 dX1_canNarrow_6 (by decide) (fun _ => ?_) (fun _ => ?_)
  · refine gf_iconst C dX1_canNarrow_9 ki_0 ?_
    exact gf_zret C dX1_canNarrow_10 rfl rfl
  · refine gf_aload_n C dX1_canNarrow_11 rfl rfl (gf_iload_n C dX1_canNarrow_12 rfl rfl (gf_iconst C dX1_canNarrow_13 ki_0 ?_))
    refine gf_callV (ε2 := eI) C [.int a3, .int (0 : Int32)] dX1_canNarrow_14 mw_X0_picturesSeeing ml_X1_153 ha1 (fun rZ hZ eZ => ok_X0_picturesSeeing a1 a3 (0 : Int32) ha1 h2 rZ hZ eZ) rfl rfl rfl (Nat.le_of_ble_eq_true rfl) (Nat.le_of_ble_eq_true rfl) (Nat.le_of_ble_eq_true rfl) (fun r3 h4 => ?_)
    refine gf_istore_n C dX1_canNarrow_17 rfl [some (.ref a1), some (.int a2), some (.int a3), some (.int r3), none] rfl rfl (Nat.le_of_ble_eq_true rfl) (gf_aload_n C dX1_canNarrow_18 rfl rfl (gf_iload_n C dX1_canNarrow_19 rfl rfl (gf_iconst C dX1_canNarrow_20 ki_1 ?_)))
    refine gf_callV (ε2 := eI) C [.int a3, .int (1 : Int32)] dX1_canNarrow_21 mw_X0_picturesSeeing ml_X1_153 ha1 (fun rZ hZ eZ => ok_X0_picturesSeeing a1 a3 (1 : Int32) ha1 h4 rZ hZ eZ) rfl rfl rfl (Nat.le_of_ble_eq_true rfl) (Nat.le_of_ble_eq_true rfl) (Nat.le_of_ble_eq_true rfl) (fun r5 h6 => ?_)
    refine gf_istore C dX1_canNarrow_24 [some (.ref a1), some (.int a2), some (.int a3), some (.int r3), some (.int r5)] rfl rfl (Nat.le_of_ble_eq_true rfl) (gf_iload_n C dX1_canNarrow_26 rfl rfl (gf_iload_n C dX1_canNarrow_27 rfl rfl ?_))
    refine gf_callSN (ε2 := eI) C [.int r3, .int a2] dX1_canNarrow_28 mw_X11_hasBit ml_X1_156 (fun rZ hZ eZ => ok_X11_hasBit r3 a2 h6 rZ hZ eZ) rfl rfl rfl (Nat.le_of_ble_eq_true rfl) (Nat.le_of_ble_eq_true rfl) (Nat.le_of_ble_eq_true rfl) (fun r7 h8 => ?_)
    refine gf_jn (fun (j11 : Int32 → Hp → Option (Int32 × Hp)) => ∀ (s9 : Int32) (h10 : Hp), GF K eI h10 50 [none, none, none, none, none] [.int s9] (j11 s9 h10)) ?_ (fun j11 kj11 => ?_)
    · intro s9 h10
      refine gf_gd (fun b12 => ?_)
      exact gf_zret C dX1_canNarrow_50 (isB_nar b12) rfl
    refine gf_jn (fun (j14 : Hp → Option (Int32 × Hp)) => ∀ (h13 : Hp), GF K eI h13 49 [none, none, none, none, none] [] (j14 h13)) ?_ (fun j14 kj14 => ?_)
    · intro h13
      refine gf_iconst C dX1_canNarrow_49 ki_0 ?_
      exact gf_sub [none, none, none, none, none] trivial (kj11 (0 : Int32) h13)
    refine gf_ifne C 49 dX1_canNarrow_31 (by decide) (fun _ => ?_) (fun _ => ?_)
    · refine gf_iload C dX1_canNarrow_34 rfl ?_
      refine gf_ifeq C 49 dX1_canNarrow_36 (by decide) (fun _ => ?_) (fun _ => ?_)
      · exact gf_sub [none, none, none, none, none] trivial (kj14 h8)
      · refine gf_iload C dX1_canNarrow_39 rfl (gf_iload_n C dX1_canNarrow_41 rfl rfl ?_)
        refine gf_icmpeq C 49 dX1_canNarrow_42 (by decide) (fun _ => ?_) (fun _ => ?_)
        · exact gf_sub [none, none, none, none, none] trivial (kj14 h8)
        · refine gf_iconst C dX1_canNarrow_45 ki_1 ?_
          refine gf_goto C 50 dX1_canNarrow_46 (by decide) ?_
          exact gf_sub [none, none, none, none, none] trivial (kj11 (1 : Int32) h8)
    · exact gf_sub [none, none, none, none, none] trivial (kj14 h8)
def F_J9_max_7cf53 (a1 : Int32) (a2 : Int32) (h : Hp) : Option (Int32 × Hp) :=
  jn (fun (s1 : Int32) (h2 : Hp) =>
  some (s1, h2)) (fun j3 => if a1 < a2 then (
  j3 a2 h) else (
  j3 a1 h))
set_option maxRecDepth 100000 in
set_option maxHeartbeats 4000000 in
theorem ok_J9_max_7cf53 (a1 : Int32) (a2 : Int32) (h : Hp) (rZ : Int32) (hZ : Hp) (eZ : F_J9_max_7cf53 a1 a2 h = some (rZ, hZ)) : AC yJ9_max_7cf53 cJ9_max_7cf53 2 (some .int) 0 0 [.int a1, .int a2] h (eI rZ) hZ := by
  refine AC_intro (o := F_J9_max_7cf53 a1 a2 h) RJ9 rfl (by decide +kernel) [some (.int a1), some (.int a2)] rfl (fun _ => rfl) (fun _ => Nat.le_of_ble_eq_true rfl) eZ (fun K C => ?_)
  unfold F_J9_max_7cf53
  refine gf_iload_n C dJ9_max_7cf53_0 rfl rfl (gf_iload_n C dJ9_max_7cf53_1 rfl rfl ?_)
  refine gf_jn (fun (j3 : Int32 → Hp → Option (Int32 × Hp)) => ∀ (s1 : Int32) (h2 : Hp), GF K eI h2 10 [none, none] [.int s1] (j3 s1 h2)) ?_ (fun j3 kj3 => ?_)
  · intro s1 h2
    exact gf_iret C dJ9_max_7cf53_10 rfl
  refine gf_icmplt C 9 dJ9_max_7cf53_2 (by decide) (fun _ => ?_) (fun _ => ?_)
  · refine gf_iload_n C dJ9_max_7cf53_9 rfl rfl ?_
    exact gf_sub [none, none] trivial (kj3 a2 h)
  · refine gf_iload_n C dJ9_max_7cf53_5 rfl rfl ?_
    refine gf_goto C 10 dJ9_max_7cf53_6 (by decide) ?_
    exact gf_sub [none, none] trivial (kj3 a1 h)
def F_X1_seekAsk (a1 : Nat) (a2 : Nat) (a3 : Int32) (h : Hp) : Option (Unit × Hp) :=
  if (sG h 5831) = 0 then (
  jl (sS h 5831 (1 : Int32)) (fun h1 => jl (sS h1 5825 (-1 : Int32)) (fun h2 => jl (sS h2 5826 (-1 : Int32)) (fun h3 => (lp 4000000000 (fun (c7 : Int32 → Int32 → Hp → Option (Unit × Hp)) (v4 : Int32) (v5 : Int32) (h6 : Hp) =>
  if v5 < (sG h6 (64 * a1 + 0)) then (
  (lp 4000000000 (fun (c11 : Int32 → Int32 → Hp → Option (Unit × Hp)) (v8 : Int32) (v9 : Int32) (h10 : Hp) =>
  if v9 < (sG h10 (64 * a1 + 1)) then (
  bd (F_X1_canNarrow a1 v5 v9 h10) (fun r12 h13 => jn (fun (v14 : Int32) (h15 : Hp) =>
  c11 v14 (v9 + (1 : Int32)) h15) (fun j16 => if r12 = 0 then (
  j16 v8 h13) else (
  jl ((2 : Int32) + v9) (fun x17 => bd (F_X1_ordersWithPiece a1 a2 v5 x17 (0 : Int32) h13) (fun r18 h19 => if r18 < v8 then (
  bd (F_X1_ordersWithPiece a1 a2 v5 x17 (1 : Int32) h19) (fun r20 h21 => bd (F_J9_max_7cf53 r18 r20 h21) (fun r22 h23 => if r22 < v8 then (
  jl (sS h23 5826 r22) (fun h24 => jl (sS h24 5825 (((10 : Int32) * v5) + x17)) (fun h25 => j16 r22 h25))) else (
  j16 v8 h23)))) else (
  j16 v8 h19))))))) else (
  c7 v8 (v5 + (1 : Int32)) h10)) (fun _ _ _ => none)) v4 (0 : Int32) h6) else (
  some ((), h6))) (fun _ _ _ => none)) a3 (0 : Int32) h3)))) else (
  some ((), h))
set_option maxRecDepth 100000 in
set_option maxHeartbeats 4000000 in
theorem ok_X1_seekAsk (a1 : Nat) (a2 : Nat) (a3 : Int32) (ha1 : shp a1 = (0, 0)) (ha2 : shp a2 = (0, 7)) (h : Hp) (rZ : Unit) (hZ : Hp) (eZ : F_X1_seekAsk a1 a2 a3 h = some (rZ, hZ)) : AC yX1_seekAsk cX1_seekAsk 9 (none) 7 170 [.ref 91, .ref a1, .ref a2, .int a3] h (eV rZ) hZ := by
  refine AC_intro (o := F_X1_seekAsk a1 a2 a3 h) RX1 rfl (plainFor_of_name (by decide)) [some (.ref 91), some (.ref a1), some (.ref a2), some (.int a3), none, none, none, none, none] rfl (fun _ => rfl) (fun _ => Nat.le_of_ble_eq_true rfl) eZ (fun K C => ?_)
  unfold F_X1_seekAsk
  refine gf_aload_n C dX1_seekAsk_0 rfl rfl (gf_getI C dX1_seekAsk_1 fl_X1_50 s_91 rfl 5831 rfl ?_)
  refine gf_ifeq C 8 dX1_seekAsk_4 (by decide) (fun _ => ?_) (fun _ => ?_)
  · refine gf_aload_n C dX1_seekAsk_8 rfl rfl (gf_iconst C dX1_seekAsk_9 ki_1 (gf_putZ C dX1_seekAsk_10 fp_X1_50 s_91 rfl 5831 rfl rfl ?_))
    refine gf_jlH (fun h1 => ?_)
    refine gf_aload_n C dX1_seekAsk_13 rfl rfl (gf_iconst C dX1_seekAsk_14 ki_m1 (gf_putI C dX1_seekAsk_15 fp_X1_124 s_91 rfl 5825 rfl ?_))
    refine gf_jlH (fun h2 => ?_)
    refine gf_aload_n C dX1_seekAsk_18 rfl rfl (gf_iconst C dX1_seekAsk_19 ki_m1 (gf_putI C dX1_seekAsk_20 fp_X1_127 s_91 rfl 5826 rfl ?_))
    refine gf_jlH (fun h3 => ?_)
    refine gf_iload_n C dX1_seekAsk_23 rfl rfl (gf_istore C dX1_seekAsk_24 [some (.ref 91), some (.ref a1), some (.ref a2), some (.int a3), some (.int a3), none, none, none, none] rfl rfl (Nat.le_of_ble_eq_true rfl) (gf_iconst C dX1_seekAsk_26 ki_0 (gf_istore C dX1_seekAsk_27 [some (.ref 91), some (.ref a1), some (.ref a2), some (.int a3), some (.int a3), some (.int (0 : Int32)), none, none, none] rfl rfl (Nat.le_of_ble_eq_true rfl) ?_)))
    refine gf_sub [some (.ref 91), some (.ref a1), some (.ref a2), none, some (.int a3), some (.int (0 : Int32)), none, none, none] (And.intro rfl (And.intro rfl (And.intro rfl (And.intro rfl (And.intro rfl trivial))))) ?_
    refine lp_P (fun (c7 : Int32 → Int32 → Hp → Option (Unit × Hp)) => ∀ (v4 : Int32) (v5 : Int32) (h6 : Hp), GF K eV h6 29 [some (.ref 91), some (.ref a1), some (.ref a2), none, some (.int v4), some (.int v5), none, none, none] [] (c7 v4 v5 h6)) (fun _ _ _ => gf_none) (fun c7 kc7 v4 v5 h6 => ?_) a3 (0 : Int32) h3
    refine gf_iload C dX1_seekAsk_29 rfl (gf_aload_n C dX1_seekAsk_31 rfl rfl (gf_getI C dX1_seekAsk_32 fl_X1_130 ha1 rfl (64 * a1 + 0) rfl ?_))
    refine gf_icmpge C 155 dX1_seekAsk_35 (by decide) (fun _ => ?_) (fun _ => ?_)
    · refine gf_iconst C dX1_seekAsk_38 ki_0 (gf_istore C dX1_seekAsk_39 [some (.ref 91), some (.ref a1), some (.ref a2), none, some (.int v4), some (.int v5), some (.int (0 : Int32)), none, none] rfl rfl (Nat.le_of_ble_eq_true rfl) ?_)
      refine gf_sub [some (.ref 91), some (.ref a1), some (.ref a2), none, some (.int v4), some (.int v5), some (.int (0 : Int32)), none, none] (And.intro rfl (And.intro rfl (And.intro rfl (And.intro rfl (And.intro rfl (And.intro rfl trivial)))))) ?_
      refine lp_P (fun (c11 : Int32 → Int32 → Hp → Option (Unit × Hp)) => ∀ (v8 : Int32) (v9 : Int32) (h10 : Hp), GF K eV h10 41 [some (.ref 91), some (.ref a1), some (.ref a2), none, some (.int v8), some (.int v5), some (.int v9), none, none] [] (c11 v8 v9 h10)) (fun _ _ _ => gf_none) (fun c11 kc11 v8 v9 h10 => ?_) v4 (0 : Int32) h6
      refine gf_iload C dX1_seekAsk_41 rfl (gf_aload_n C dX1_seekAsk_43 rfl rfl (gf_getI C dX1_seekAsk_44 fl_X1_133 ha1 rfl (64 * a1 + 1) rfl ?_))
      refine gf_icmpge C 149 dX1_seekAsk_47 (by decide) (fun _ => ?_) (fun _ => ?_)
      · refine gf_aload_n C dX1_seekAsk_50 rfl rfl (gf_iload C dX1_seekAsk_51 rfl (gf_iload C dX1_seekAsk_53 rfl ?_))
        refine gf_callS (ε2 := eI) C [.ref a1, .int v5, .int v9] dX1_seekAsk_55 mw_X1_canNarrow ml_X1_136 (fun rZ hZ eZ => ok_X1_canNarrow a1 v5 v9 ha1 h10 rZ hZ eZ) rfl rfl rfl (Nat.le_of_ble_eq_true rfl) (Nat.le_of_ble_eq_true rfl) (Nat.le_of_ble_eq_true rfl) (fun r12 h13 => ?_)
        refine gf_jn (fun (j16 : Int32 → Hp → Option (Unit × Hp)) => ∀ (v14 : Int32) (h15 : Hp), GF K eV h15 143 [some (.ref 91), some (.ref a1), some (.ref a2), none, some (.int v14), some (.int v5), some (.int v9), none, none] [] (j16 v14 h15)) ?_ (fun j16 kj16 => ?_)
        · intro v14 h15
          refine gf_iinc C dX1_seekAsk_143 rfl (ii_1 _) [some (.ref 91), some (.ref a1), some (.ref a2), none, some (.int v14), some (.int v5), some (.int (v9 + (1 : Int32))), none, none] rfl rfl ?_
          refine gf_goto C 41 dX1_seekAsk_146 (by decide) ?_
          exact gf_sub [some (.ref 91), some (.ref a1), some (.ref a2), none, some (.int v14), some (.int v5), some (.int (v9 + (1 : Int32))), none, none] (And.intro rfl (And.intro rfl (And.intro rfl (And.intro rfl (And.intro rfl (And.intro rfl trivial)))))) (kc11 v14 (v9 + (1 : Int32)) h15)
        refine gf_ifne C 64 dX1_seekAsk_58 (by decide) (fun _ => ?_) (fun _ => ?_)
        · refine gf_goto C 143 dX1_seekAsk_61 (by decide) ?_
          exact gf_sub [some (.ref 91), some (.ref a1), some (.ref a2), none, some (.int v8), some (.int v5), some (.int v9), none, none] (And.intro rfl (And.intro rfl (And.intro rfl (And.intro rfl (And.intro rfl (And.intro rfl trivial)))))) (kj16 v8 h13)
        · refine gf_iconst C dX1_seekAsk_64 ki_2 (gf_iload C dX1_seekAsk_65 rfl (gf_iadd C dX1_seekAsk_67 ?_))
          refine gf_jlI (fun x17 => ?_)
          refine gf_istore C dX1_seekAsk_68 [some (.ref 91), some (.ref a1), some (.ref a2), none, some (.int v8), some (.int v5), some (.int v9), some (.int x17), none] rfl rfl (Nat.le_of_ble_eq_true rfl) (gf_aload_n C dX1_seekAsk_70 rfl rfl (gf_aload_n C dX1_seekAsk_71 rfl rfl (gf_aload_n C dX1_seekAsk_72 rfl rfl (gf_iload C dX1_seekAsk_73 rfl (gf_iload C dX1_seekAsk_75 rfl (gf_iconst C dX1_seekAsk_77 ki_0 ?_))))))
          refine gf_callV (ε2 := eI) C [.ref a1, .ref a2, .int v5, .int x17, .int (0 : Int32)] dX1_seekAsk_78 mw_X1_ordersWithPiece ml_X1_140 s_91 (fun rZ hZ eZ => ok_X1_ordersWithPiece a1 a2 v5 x17 (0 : Int32) ha1 ha2 h13 rZ hZ eZ) rfl rfl rfl (Nat.le_of_ble_eq_true rfl) (Nat.le_of_ble_eq_true rfl) (Nat.le_of_ble_eq_true rfl) (fun r18 h19 => ?_)
          refine gf_istore C dX1_seekAsk_81 [some (.ref 91), some (.ref a1), some (.ref a2), none, some (.int v8), some (.int v5), some (.int v9), some (.int x17), some (.int r18)] rfl rfl (Nat.le_of_ble_eq_true rfl) (gf_iload C dX1_seekAsk_83 rfl (gf_iload C dX1_seekAsk_85 rfl ?_))
          refine gf_icmplt C 93 dX1_seekAsk_87 (by decide) (fun _ => ?_) (fun _ => ?_)
          · refine gf_iload C dX1_seekAsk_93 rfl (gf_aload_n C dX1_seekAsk_95 rfl rfl (gf_aload_n C dX1_seekAsk_96 rfl rfl (gf_aload_n C dX1_seekAsk_97 rfl rfl (gf_iload C dX1_seekAsk_98 rfl (gf_iload C dX1_seekAsk_100 rfl (gf_iconst C dX1_seekAsk_102 ki_1 ?_))))))
            refine gf_callV (ε2 := eI) C [.ref a1, .ref a2, .int v5, .int x17, .int (1 : Int32)] dX1_seekAsk_103 mw_X1_ordersWithPiece ml_X1_140 s_91 (fun rZ hZ eZ => ok_X1_ordersWithPiece a1 a2 v5 x17 (1 : Int32) ha1 ha2 h19 rZ hZ eZ) rfl rfl rfl (Nat.le_of_ble_eq_true rfl) (Nat.le_of_ble_eq_true rfl) (Nat.le_of_ble_eq_true rfl) (fun r20 h21 => ?_)
            refine gf_callS (ε2 := eI) C [.int r18, .int r20] dX1_seekAsk_106 mw_J9_max_7cf53 ml_X1_144 (fun rZ hZ eZ => ok_J9_max_7cf53 r18 r20 h21 rZ hZ eZ) rfl rfl rfl (Nat.le_of_ble_eq_true rfl) (Nat.le_of_ble_eq_true rfl) (Nat.le_of_ble_eq_true rfl) (fun r22 h23 => ?_)
            refine gf_istore C dX1_seekAsk_109 [some (.ref 91), some (.ref a1), some (.ref a2), none, some (.int v8), some (.int v5), some (.int v9), some (.int x17), some (.int r22)] rfl rfl (Nat.le_of_ble_eq_true rfl) (gf_iload C dX1_seekAsk_111 rfl (gf_iload C dX1_seekAsk_113 rfl ?_))
            refine gf_icmplt C 121 dX1_seekAsk_115 (by decide) (fun _ => ?_) (fun _ => ?_)
            · refine gf_iload C dX1_seekAsk_121 rfl (gf_istore C dX1_seekAsk_123 [some (.ref 91), some (.ref a1), some (.ref a2), none, some (.int r22), some (.int v5), some (.int v9), some (.int x17), some (.int r22)] rfl rfl (Nat.le_of_ble_eq_true rfl) (gf_aload_n C dX1_seekAsk_125 rfl rfl (gf_iload C dX1_seekAsk_126 rfl (gf_putI C dX1_seekAsk_128 fp_X1_127 s_91 rfl 5826 rfl ?_))))
              refine gf_jlH (fun h24 => ?_)
              refine gf_aload_n C dX1_seekAsk_131 rfl rfl (gf_bipush C dX1_seekAsk_132 kb_10 (gf_iload C dX1_seekAsk_134 rfl (gf_imul C dX1_seekAsk_136 (gf_iload C dX1_seekAsk_137 rfl (gf_iadd C dX1_seekAsk_139 (gf_putI C dX1_seekAsk_140 fp_X1_124 s_91 rfl 5825 rfl ?_))))))
              refine gf_jlH (fun h25 => ?_)
              exact gf_sub [some (.ref 91), some (.ref a1), some (.ref a2), none, some (.int r22), some (.int v5), some (.int v9), none, none] (And.intro rfl (And.intro rfl (And.intro rfl (And.intro rfl (And.intro rfl (And.intro rfl trivial)))))) (kj16 r22 h25)
            · refine gf_goto C 143 dX1_seekAsk_118 (by decide) ?_
              exact gf_sub [some (.ref 91), some (.ref a1), some (.ref a2), none, some (.int v8), some (.int v5), some (.int v9), none, none] (And.intro rfl (And.intro rfl (And.intro rfl (And.intro rfl (And.intro rfl (And.intro rfl trivial)))))) (kj16 v8 h23)
          · refine gf_goto C 143 dX1_seekAsk_90 (by decide) ?_
            exact gf_sub [some (.ref 91), some (.ref a1), some (.ref a2), none, some (.int v8), some (.int v5), some (.int v9), none, none] (And.intro rfl (And.intro rfl (And.intro rfl (And.intro rfl (And.intro rfl (And.intro rfl trivial)))))) (kj16 v8 h19)
      · refine gf_iinc C dX1_seekAsk_149 rfl (ii_1 _) [some (.ref 91), some (.ref a1), some (.ref a2), none, some (.int v8), some (.int (v5 + (1 : Int32))), some (.int v9), none, none] rfl rfl ?_
        refine gf_goto C 29 dX1_seekAsk_152 (by decide) ?_
        exact gf_sub [some (.ref 91), some (.ref a1), some (.ref a2), none, some (.int v8), some (.int (v5 + (1 : Int32))), none, none, none] (And.intro rfl (And.intro rfl (And.intro rfl (And.intro rfl (And.intro rfl trivial))))) (kc7 v8 (v5 + (1 : Int32)) h10)
    · exact gf_vret C dX1_seekAsk_155 rfl
  · exact gf_vret C dX1_seekAsk_7 rfl
def F_X2_clear (h : Hp) : Option (Unit × Hp) :=
  jl (sS h 1408 (0 : Int32)) (fun h1 => jl (sS h1 1412 (0 : Int32)) (fun h2 => some ((), h2)))
set_option maxRecDepth 100000 in
set_option maxHeartbeats 4000000 in
theorem ok_X2_clear (h : Hp) (rZ : Unit) (hZ : Hp) (eZ : F_X2_clear h = some (rZ, hZ)) : AC yX2_clear cX2_clear 1 (none) 0 0 [.ref 22] h (eV rZ) hZ := by
  refine AC_intro (o := F_X2_clear h) RX2 rfl (plainFor_of_name (by decide)) [some (.ref 22)] rfl (fun _ => rfl) (fun _ => Nat.le_of_ble_eq_true rfl) eZ (fun K C => ?_)
  unfold F_X2_clear
  refine gf_aload_n C dX2_clear_0 rfl rfl (gf_iconst C dX2_clear_1 ki_0 (gf_putI C dX2_clear_2 fp_X2_21 s_22 rfl 1408 rfl ?_))
  refine gf_jlH (fun h1 => ?_)
  refine gf_aload_n C dX2_clear_5 rfl rfl (gf_iconst C dX2_clear_6 ki_0 (gf_putI C dX2_clear_7 fp_X2_25 s_22 rfl 1412 rfl ?_))
  refine gf_jlH (fun h2 => ?_)
  exact gf_vret C dX2_clear_10 rfl
def F_J9_floorMod_7cf53 (a1 : Int32) (a2 : Int32) (h : Hp) : Option (Int32 × Hp) :=
  gd (nz a2) ( jl (a1 - a1 / a2 * a2) (fun x1 => jn (fun (h2 : Hp) =>
  some (x1, h2)) (fun j3 => if (a1 ^^^ a2) < 0 then (
  if x1 = 0 then (
  j3 h) else (
  some (x1 + a2, h))) else (
  j3 h))))
set_option maxRecDepth 100000 in
set_option maxHeartbeats 4000000 in
theorem ok_J9_floorMod_7cf53 (a1 : Int32) (a2 : Int32) (h : Hp) (rZ : Int32) (hZ : Hp) (eZ : F_J9_floorMod_7cf53 a1 a2 h = some (rZ, hZ)) : AC yJ9_floorMod_7cf53 cJ9_floorMod_7cf53 3 (some .int) 0 0 [.int a1, .int a2] h (eI rZ) hZ := by
  refine AC_intro (o := F_J9_floorMod_7cf53 a1 a2 h) RJ9 rfl (by decide +kernel) [some (.int a1), some (.int a2), none] rfl (fun _ => rfl) (fun _ => Nat.le_of_ble_eq_true rfl) eZ (fun K C => ?_)
  unfold F_J9_floorMod_7cf53
  refine gf_iload_n C dJ9_floorMod_7cf53_0 rfl rfl (gf_iload_n C dJ9_floorMod_7cf53_1 rfl rfl (gf_irem C dJ9_floorMod_7cf53_2 ?_))
  refine gf_jlI (fun x1 => ?_)
  refine gf_istore_n C dJ9_floorMod_7cf53_3 rfl [some (.int a1), some (.int a2), some (.int x1)] rfl rfl (Nat.le_of_ble_eq_true rfl) (gf_iload_n C dJ9_floorMod_7cf53_4 rfl rfl (gf_iload_n C dJ9_floorMod_7cf53_5 rfl rfl (gf_ixor C dJ9_floorMod_7cf53_6 ?_)))
  refine gf_jn (fun (j3 : Hp → Option (Int32 × Hp)) => ∀ (h2 : Hp), GF K eI h2 18 [none, none, some (.int x1)] [] (j3 h2)) ?_ (fun j3 kj3 => ?_)
  · intro h2
    refine gf_iload_n C dJ9_floorMod_7cf53_18 rfl rfl ?_
    exact gf_iret C dJ9_floorMod_7cf53_19 rfl
  refine gf_ifge C 18 dJ9_floorMod_7cf53_7 (by decide) (fun _ => ?_) (fun _ => ?_)
  · refine gf_iload_n C dJ9_floorMod_7cf53_10 rfl rfl ?_
    refine gf_ifeq C 18 dJ9_floorMod_7cf53_11 (by decide) (fun _ => ?_) (fun _ => ?_)
    · exact gf_sub [none, none, some (.int x1)] (And.intro rfl trivial) (kj3 h)
    · refine gf_iload_n C dJ9_floorMod_7cf53_14 rfl rfl (gf_iload_n C dJ9_floorMod_7cf53_15 rfl rfl (gf_iadd C dJ9_floorMod_7cf53_16 ?_))
      exact gf_iret C dJ9_floorMod_7cf53_17 rfl
  · exact gf_sub [none, none, some (.int x1)] (And.intro rfl trivial) (kj3 h)
def F_X2_pastAt (a1 : Int32) (h : Hp) : Option ((Option Nat) × Hp) :=
  bd (F_J9_floorMod_7cf53 ((sG h 1409) + a1) (8 : Int32) h) (fun r1 h2 => jn (fun (s3 : (Option Nat)) (h4 : Hp) =>
  some (s3, h4)) (fun j5 => if r1 < (8 : Int32) then (
  gd (inb r1 8) ( jl (rf 23 r1.toNatClampNeg) (fun q6 => j5 q6 h2))) else (
  j5 none h2)))
set_option maxRecDepth 100000 in
set_option maxHeartbeats 4000000 in
theorem ok_X2_pastAt (a1 : Int32) (h : Hp) (rZ : (Option Nat)) (hZ : Hp) (eZ : F_X2_pastAt a1 h = some (rZ, hZ)) : AC yX2_pastAt cX2_pastAt 3 (some (.object "AlbumHours$Pieces")) 1 22 [.ref 22, .int a1] h (eQ rZ) hZ := by
  refine AC_intro (o := F_X2_pastAt a1 h) RX2 rfl (plainFor_of_name (by decide)) [some (.ref 22), some (.int a1), none] rfl (fun _ => rfl) (fun _ => Nat.le_of_ble_eq_true rfl) eZ (fun K C => ?_)
  unfold F_X2_pastAt
  refine gf_aload_n C dX2_pastAt_0 rfl rfl (gf_getI C dX2_pastAt_1 fl_X2_28 s_22 rfl 1409 rfl (gf_iload_n C dX2_pastAt_4 rfl rfl (gf_iadd C dX2_pastAt_5 (gf_bipush C dX2_pastAt_6 kb_8 ?_))))
  refine gf_callS (ε2 := eI) C [.int ((sG h 1409) + a1), .int (8 : Int32)] dX2_pastAt_8 mw_J9_floorMod_7cf53 ml_X2_39 (fun rZ hZ eZ => ok_J9_floorMod_7cf53 ((sG h 1409) + a1) (8 : Int32) h rZ hZ eZ) rfl rfl rfl (Nat.le_of_ble_eq_true rfl) (Nat.le_of_ble_eq_true rfl) (Nat.le_of_ble_eq_true rfl) (fun r1 h2 => ?_)
  refine gf_istore_n C dX2_pastAt_11 rfl [some (.ref 22), some (.int a1), some (.int r1)] rfl rfl (Nat.le_of_ble_eq_true rfl) (gf_iload_n C dX2_pastAt_12 rfl rfl (gf_bipush C dX2_pastAt_13 kb_8 ?_))
  refine gf_jn (fun (j5 : (Option Nat) → Hp → Option ((Option Nat) × Hp)) => ∀ (s3 : (Option Nat)) (h4 : Hp), GF K eQ h4 28 [none, none, none] [va_rf s3] (j5 s3 h4)) ?_ (fun j5 kj5 => ?_)
  · intro s3 h4
    exact gf_qret C dX2_pastAt_28 (Or.inl ⟨_, rfl⟩) rfl
  refine gf_icmpge C 27 dX2_pastAt_15 (by decide) (fun _ => ?_) (fun _ => ?_)
  · refine gf_aload_n C dX2_pastAt_18 rfl rfl (gf_getR C dX2_pastAt_19 fl_X2_11 s_22 rfl 23 rfl (gf_iload_n C dX2_pastAt_22 rfl rfl (gf_aald C dX2_pastAt_23 s_23 ?_)))
    refine gf_jlQ (fun q6 => ?_)
    refine gf_goto C 28 dX2_pastAt_24 (by decide) ?_
    exact gf_sub [none, none, none] trivial (kj5 q6 h2)
  · refine gf_null C dX2_pastAt_27 ?_
    exact gf_sub [none, none, none] trivial (kj5 none h2)
def F_X2_remember (a1 : Nat) (h : Hp) : Option (Unit × Hp) :=
  jn (fun (h1 : Hp) =>
  bd (F_X2_pastAt (sG h1 1408) h1) (fun r3 h4 => jn (fun (h5 : Hp) =>
  jl (sS h5 1408 ((sG h5 1408) + (1 : Int32))) (fun h7 => some ((), h7))) (fun j6 => jo r3 (
  j6 h4) (fun a8 =>
  gd (shB a8 0 5) ( bd (F_X5_copyFrom a8 a1 h4) (fun _ h10 => j6 h10)))))) (fun j2 => if (sG h 1408) = (8 : Int32) then (
  jl (sS h 1409 (((sG h 1409) + (1 : Int32)) - ((sG h 1409) + (1 : Int32)) / (8 : Int32) * (8 : Int32))) (fun h11 => jl (sS h11 1408 ((sG h11 1408) - (1 : Int32))) (fun h12 => j2 h12))) else (
  j2 h))
set_option maxRecDepth 100000 in
set_option maxHeartbeats 4000000 in
theorem ok_X2_remember (a1 : Nat) (ha1 : shp a1 = (0, 5)) (h : Hp) (rZ : Unit) (hZ : Hp) (eZ : F_X2_remember a1 h = some (rZ, hZ)) : AC yX2_remember cX2_remember 3 (none) 2 44 [.ref 22, .ref a1] h (eV rZ) hZ := by
  refine AC_intro (o := F_X2_remember a1 h) RX2 rfl (plainFor_of_name (by decide)) [some (.ref 22), some (.ref a1), none] rfl (fun _ => rfl) (fun _ => Nat.le_of_ble_eq_true rfl) eZ (fun K C => ?_)
  unfold F_X2_remember
  refine gf_aload_n C dX2_remember_0 rfl rfl (gf_getI C dX2_remember_1 fl_X2_21 s_22 rfl 1408 rfl (gf_bipush C dX2_remember_4 kb_8 ?_))
  refine gf_jn (fun (j2 : Hp → Option (Unit × Hp)) => ∀ (h1 : Hp), GF K eV h1 32 [some (.ref 22), some (.ref a1), none] [] (j2 h1)) ?_ (fun j2 kj2 => ?_)
  · intro h1
    refine gf_aload_n C dX2_remember_32 rfl rfl (gf_aload_n C dX2_remember_33 rfl rfl (gf_getI C dX2_remember_34 fl_X2_21 s_22 rfl 1408 rfl ?_))
    refine gf_callV (ε2 := eQ) C [.int (sG h1 1408)] dX2_remember_37 mw_X2_pastAt ml_X2_31 s_22 (fun rZ hZ eZ => ok_X2_pastAt (sG h1 1408) h1 rZ hZ eZ) rfl rfl rfl (Nat.le_of_ble_eq_true rfl) (Nat.le_of_ble_eq_true rfl) (Nat.le_of_ble_eq_true rfl) (fun r3 h4 => ?_)
    refine gf_astore_nq C dX2_remember_40 rfl [some (.ref 22), some (.ref a1), some (va_rf r3)] rfl rfl (Nat.le_of_ble_eq_true rfl) (gf_aload_nq C dX2_remember_41 rfl rfl ?_)
    refine gf_jn (fun (j6 : Hp → Option (Unit × Hp)) => ∀ (h5 : Hp), GF K eV h5 50 [some (.ref 22), none, none] [] (j6 h5)) ?_ (fun j6 kj6 => ?_)
    · intro h5
      refine gf_aload_n C dX2_remember_50 rfl rfl (gf_dup C dX2_remember_51 rfl (gf_getI C dX2_remember_52 fl_X2_21 s_22 rfl 1408 rfl (gf_iconst C dX2_remember_55 ki_1 (gf_iadd C dX2_remember_56 (gf_putI C dX2_remember_57 fp_X2_21 s_22 rfl 1408 rfl ?_)))))
      refine gf_jlH (fun h7 => ?_)
      exact gf_vret C dX2_remember_60 rfl
    refine gf_jo (fun ea8 => ?_) (fun a8 ea8 => ?_)
    · subst ea8
      refine gf_ifnullN C 50 dX2_remember_42 (by decide) ?_
      exact gf_sub [some (.ref 22), none, none] (And.intro rfl trivial) (kj6 h4)
    · subst ea8
      refine gf_ifnull C dX2_remember_42 ?_
      refine gf_aload_n C dX2_remember_45 rfl rfl (gf_aload_n C dX2_remember_46 rfl rfl ?_)
      refine gf_gd (fun s9 => ?_)
      refine gf_callV (ε2 := eV) C [.ref a1] dX2_remember_47 mw_X5_copyFrom ml_X2_35 (of_decide_eq_true s9) (fun rZ hZ eZ => ok_X5_copyFrom a8 a1 (of_decide_eq_true s9) ha1 h4 rZ hZ eZ) rfl rfl rfl (Nat.le_of_ble_eq_true rfl) (Nat.le_of_ble_eq_true rfl) (Nat.le_of_ble_eq_true rfl) (fun _ h10 => ?_)
      exact gf_sub [some (.ref 22), none, none] (And.intro rfl trivial) (kj6 h10)
  refine gf_icmpne C 32 dX2_remember_6 (by decide) (fun _ => ?_) (fun _ => ?_)
  · refine gf_aload_n C dX2_remember_9 rfl rfl (gf_aload_n C dX2_remember_10 rfl rfl (gf_getI C dX2_remember_11 fl_X2_28 s_22 rfl 1409 rfl (gf_iconst C dX2_remember_14 ki_1 (gf_iadd C dX2_remember_15 (gf_bipush C dX2_remember_16 kb_8 (gf_iremC C dX2_remember_18 (by decide) (gf_putI C dX2_remember_19 fp_X2_28 s_22 rfl 1409 rfl ?_)))))))
    refine gf_jlH (fun h11 => ?_)
    refine gf_aload_n C dX2_remember_22 rfl rfl (gf_dup C dX2_remember_23 rfl (gf_getI C dX2_remember_24 fl_X2_21 s_22 rfl 1408 rfl (gf_iconst C dX2_remember_27 ki_1 (gf_isub C dX2_remember_28 (gf_putI C dX2_remember_29 fp_X2_21 s_22 rfl 1408 rfl ?_)))))
    refine gf_jlH (fun h12 => ?_)
    exact gf_sub [some (.ref 22), some (.ref a1), none] (And.intro rfl (And.intro rfl trivial)) (kj2 h12)
  · exact gf_sub [some (.ref 22), some (.ref a1), none] (And.intro rfl (And.intro rfl trivial)) (kj2 h)
def F_X2_restoreLatest (a1 : Nat) (h : Hp) : Option (Int32 × Hp) :=
  if 0 < (sG h 1408) then (
  jl (sS h 1408 ((sG h 1408) - (1 : Int32))) (fun h1 => bd (F_X2_pastAt (sG h1 1408) h1) (fun r2 h3 => jn (fun (h4 : Hp) =>
  some ((1 : Int32), h4)) (fun j5 => jo r2 (
  j5 h3) (fun a6 =>
  gd (shB a6 0 5) ( bd (F_X5_copyFrom a1 a6 h3) (fun _ h8 => j5 h8))))))) else (
  some ((0 : Int32), h))
set_option maxRecDepth 100000 in
set_option maxHeartbeats 4000000 in
theorem ok_X2_restoreLatest (a1 : Nat) (ha1 : shp a1 = (0, 5)) (h : Hp) (rZ : Int32) (hZ : Hp) (eZ : F_X2_restoreLatest a1 h = some (rZ, hZ)) : AC yX2_restoreLatest cX2_restoreLatest 3 (some .boolean) 2 44 [.ref 22, .ref a1] h (eI rZ) hZ := by
  refine AC_intro (o := F_X2_restoreLatest a1 h) RX2 rfl (plainFor_of_name (by decide)) [some (.ref 22), some (.ref a1), none] rfl (fun _ => rfl) (fun _ => Nat.le_of_ble_eq_true rfl) eZ (fun K C => ?_)
  unfold F_X2_restoreLatest
  refine gf_aload_n C dX2_restoreLatest_0 rfl rfl (gf_getI C dX2_restoreLatest_1 fl_X2_21 s_22 rfl 1408 rfl ?_)
  refine gf_ifgt C 9 dX2_restoreLatest_4 (by decide) (fun _ => ?_) (fun _ => ?_)
  · refine gf_aload_n C dX2_restoreLatest_9 rfl rfl (gf_dup C dX2_restoreLatest_10 rfl (gf_getI C dX2_restoreLatest_11 fl_X2_21 s_22 rfl 1408 rfl (gf_iconst C dX2_restoreLatest_14 ki_1 (gf_isub C dX2_restoreLatest_15 (gf_putI C dX2_restoreLatest_16 fp_X2_21 s_22 rfl 1408 rfl ?_)))))
    refine gf_jlH (fun h1 => ?_)
    refine gf_aload_n C dX2_restoreLatest_19 rfl rfl (gf_aload_n C dX2_restoreLatest_20 rfl rfl (gf_getI C dX2_restoreLatest_21 fl_X2_21 s_22 rfl 1408 rfl ?_))
    refine gf_callV (ε2 := eQ) C [.int (sG h1 1408)] dX2_restoreLatest_24 mw_X2_pastAt ml_X2_31 s_22 (fun rZ hZ eZ => ok_X2_pastAt (sG h1 1408) h1 rZ hZ eZ) rfl rfl rfl (Nat.le_of_ble_eq_true rfl) (Nat.le_of_ble_eq_true rfl) (Nat.le_of_ble_eq_true rfl) (fun r2 h3 => ?_)
    refine gf_astore_nq C dX2_restoreLatest_27 rfl [some (.ref 22), some (.ref a1), some (va_rf r2)] rfl rfl (Nat.le_of_ble_eq_true rfl) (gf_aload_nq C dX2_restoreLatest_28 rfl rfl ?_)
    refine gf_jn (fun (j5 : Hp → Option (Int32 × Hp)) => ∀ (h4 : Hp), GF K eI h4 37 [none, none, none] [] (j5 h4)) ?_ (fun j5 kj5 => ?_)
    · intro h4
      refine gf_iconst C dX2_restoreLatest_37 ki_1 ?_
      exact gf_zret C dX2_restoreLatest_38 rfl rfl
    refine gf_jo (fun ea6 => ?_) (fun a6 ea6 => ?_)
    · subst ea6
      refine gf_ifnullN C 37 dX2_restoreLatest_29 (by decide) ?_
      exact gf_sub [none, none, none] trivial (kj5 h3)
    · subst ea6
      refine gf_ifnull C dX2_restoreLatest_29 ?_
      refine gf_aload_n C dX2_restoreLatest_32 rfl rfl (gf_aload_n C dX2_restoreLatest_33 rfl rfl ?_)
      refine gf_gd (fun s7 => ?_)
      refine gf_callV (ε2 := eV) C [.ref a6] dX2_restoreLatest_34 mw_X5_copyFrom ml_X2_35 ha1 (fun rZ hZ eZ => ok_X5_copyFrom a1 a6 ha1 (of_decide_eq_true s7) h3 rZ hZ eZ) rfl rfl rfl (Nat.le_of_ble_eq_true rfl) (Nat.le_of_ble_eq_true rfl) (Nat.le_of_ble_eq_true rfl) (fun _ h8 => ?_)
      exact gf_sub [none, none, none] trivial (kj5 h8)
  · refine gf_iconst C dX2_restoreLatest_7 ki_0 ?_
    exact gf_zret C dX2_restoreLatest_8 rfl rfl
def F_X2_store (a1 : Int32) (a2 : Nat) (h : Hp) : Option (Unit × Hp) :=
  jn (fun (h1 : Hp) =>
  some ((), h1)) (fun j2 => if a1 < 0 then (
  j2 h) else (
  if a1 < (2 : Int32) then (
  gd (inb a1 2) ( jl (rf 24 a1.toNatClampNeg) (fun q3 => jo q3 (
  j2 h) (fun a4 =>
  gd (inb a1 2) ( jl (rf 24 a1.toNatClampNeg) (fun q5 => jo q5 none (fun a6 => gd (shB a6 0 5) ( bd (F_X5_copyFrom a6 a2 h) (fun _ h7 => jl (sS h7 1412 ((sG h7 1412) ||| ((1 : Int32) <<< (a1 &&& 31)))) (fun h8 => some ((), h8))))))))))) else (
  j2 h)))
set_option maxRecDepth 100000 in
set_option maxHeartbeats 4000000 in
theorem ok_X2_store (a1 : Int32) (a2 : Nat) (ha2 : shp a2 = (0, 5)) (h : Hp) (rZ : Unit) (hZ : Hp) (eZ : F_X2_store a1 a2 h = some (rZ, hZ)) : AC yX2_store cX2_store 3 (none) 2 39 [.ref 22, .int a1, .ref a2] h (eV rZ) hZ := by
  refine AC_intro (o := F_X2_store a1 a2 h) RX2 rfl (plainFor_of_name (by decide)) [some (.ref 22), some (.int a1), some (.ref a2)] rfl (fun _ => rfl) (fun _ => Nat.le_of_ble_eq_true rfl) eZ (fun K C => ?_)
  unfold F_X2_store
  refine gf_iload_n C dX2_store_0 rfl rfl ?_
  refine gf_jn (fun (j2 : Hp → Option (Unit × Hp)) => ∀ (h1 : Hp), GF K eV h1 18 [none, none, none] [] (j2 h1)) ?_ (fun j2 kj2 => ?_)
  · intro h1
    exact gf_vret C dX2_store_18 rfl
  refine gf_iflt C 18 dX2_store_1 (by decide) (fun _ => ?_) (fun _ => ?_)
  · exact gf_sub [none, none, none] trivial (kj2 h)
  · refine gf_iload_n C dX2_store_4 rfl rfl (gf_iconst C dX2_store_5 ki_2 ?_)
    refine gf_icmpge C 18 dX2_store_6 (by decide) (fun _ => ?_) (fun _ => ?_)
    · refine gf_aload_n C dX2_store_9 rfl rfl (gf_getR C dX2_store_10 fl_X2_17 s_22 rfl 24 rfl (gf_iload_n C dX2_store_13 rfl rfl (gf_aald C dX2_store_14 s_24 ?_)))
      refine gf_jlQ (fun q3 => ?_)
      refine gf_jo (fun ea4 => ?_) (fun a4 ea4 => ?_)
      · subst ea4
        refine gf_ifnonnullN C dX2_store_15 ?_
        exact gf_sub [none, none, none] trivial (kj2 h)
      · subst ea4
        refine gf_ifnonnull C 19 dX2_store_15 (by decide) ?_
        refine gf_aload_n C dX2_store_19 rfl rfl (gf_getR C dX2_store_20 fl_X2_17 s_22 rfl 24 rfl (gf_iload_n C dX2_store_23 rfl rfl (gf_aald C dX2_store_24 s_24 ?_)))
        refine gf_jlQ (fun q5 => ?_)
        refine gf_aload_n C dX2_store_25 rfl rfl ?_
        refine gf_jo (fun _ => gf_none) (fun a6 ea6 => ?_)
        subst ea6
        refine gf_gd (fun sa6 => ?_)
        refine gf_callV (ε2 := eV) C [.ref a2] dX2_store_26 mw_X5_copyFrom ml_X2_35 (of_decide_eq_true sa6) (fun rZ hZ eZ => ok_X5_copyFrom a6 a2 (of_decide_eq_true sa6) ha2 h rZ hZ eZ) rfl rfl rfl (Nat.le_of_ble_eq_true rfl) (Nat.le_of_ble_eq_true rfl) (Nat.le_of_ble_eq_true rfl) (fun _ h7 => ?_)
        refine gf_aload_n C dX2_store_29 rfl rfl (gf_dup C dX2_store_30 rfl (gf_getI C dX2_store_31 fl_X2_25 s_22 rfl 1412 rfl (gf_iconst C dX2_store_34 ki_1 (gf_iload_n C dX2_store_35 rfl rfl (gf_ishl C dX2_store_36 (gf_ior C dX2_store_37 (gf_putI C dX2_store_38 fp_X2_25 s_22 rfl 1412 rfl ?_)))))))
        refine gf_jlH (fun h8 => ?_)
        exact gf_vret C dX2_store_41 rfl
    · exact gf_sub [none, none, none] trivial (kj2 h)
def F_X2_restoreKept (a1 : Int32) (a2 : Nat) (h : Hp) : Option (Int32 × Hp) :=
  jn (fun (h1 : Hp) =>
  some ((0 : Int32), h1)) (fun j2 => if a1 < 0 then (
  j2 h) else (
  if a1 < (2 : Int32) then (
  gd (inb a1 2) ( jl (rf 24 a1.toNatClampNeg) (fun q3 => jo q3 (
  j2 h) (fun a4 =>
  bd (F_X11_hasBit (sG h 1412) a1 h) (fun r5 h6 => if r5 = 0 then (
  j2 h6) else (
  gd (inb a1 2) ( jl (rf 24 a1.toNatClampNeg) (fun q7 => jo q7 none (fun a8 => gd (shB a8 0 5) ( bd (F_X5_copyFrom a2 a8 h6) (fun _ h9 => jl (sS h9 1408 (0 : Int32)) (fun h10 => some ((1 : Int32), h10))))))))))))) else (
  j2 h)))
set_option maxRecDepth 100000 in
set_option maxHeartbeats 4000000 in
theorem ok_X2_restoreKept (a1 : Int32) (a2 : Nat) (ha2 : shp a2 = (0, 5)) (h : Hp) (rZ : Int32) (hZ : Hp) (eZ : F_X2_restoreKept a1 a2 h = some (rZ, hZ)) : AC yX2_restoreKept cX2_restoreKept 3 (some .boolean) 2 39 [.ref 22, .int a1, .ref a2] h (eI rZ) hZ := by
  refine AC_intro (o := F_X2_restoreKept a1 a2 h) RX2 rfl (plainFor_of_name (by decide)) [some (.ref 22), some (.int a1), some (.ref a2)] rfl (fun _ => rfl) (fun _ => Nat.le_of_ble_eq_true rfl) eZ (fun K C => ?_)
  unfold F_X2_restoreKept
  refine gf_iload_n C dX2_restoreKept_0 rfl rfl ?_
  refine gf_jn (fun (j2 : Hp → Option (Int32 × Hp)) => ∀ (h1 : Hp), GF K eI h1 29 [none, none, none] [] (j2 h1)) ?_ (fun j2 kj2 => ?_)
  · intro h1
    refine gf_iconst C dX2_restoreKept_29 ki_0 ?_
    exact gf_zret C dX2_restoreKept_30 rfl rfl
  refine gf_iflt C 29 dX2_restoreKept_1 (by decide) (fun _ => ?_) (fun _ => ?_)
  · exact gf_sub [none, none, none] trivial (kj2 h)
  · refine gf_iload_n C dX2_restoreKept_4 rfl rfl (gf_iconst C dX2_restoreKept_5 ki_2 ?_)
    refine gf_icmpge C 29 dX2_restoreKept_6 (by decide) (fun _ => ?_) (fun _ => ?_)
    · refine gf_aload_n C dX2_restoreKept_9 rfl rfl (gf_getR C dX2_restoreKept_10 fl_X2_17 s_22 rfl 24 rfl (gf_iload_n C dX2_restoreKept_13 rfl rfl (gf_aald C dX2_restoreKept_14 s_24 ?_)))
      refine gf_jlQ (fun q3 => ?_)
      refine gf_jo (fun ea4 => ?_) (fun a4 ea4 => ?_)
      · subst ea4
        refine gf_ifnullN C 29 dX2_restoreKept_15 (by decide) ?_
        exact gf_sub [none, none, none] trivial (kj2 h)
      · subst ea4
        refine gf_ifnull C dX2_restoreKept_15 ?_
        refine gf_aload_n C dX2_restoreKept_18 rfl rfl (gf_getI C dX2_restoreKept_19 fl_X2_25 s_22 rfl 1412 rfl (gf_iload_n C dX2_restoreKept_22 rfl rfl ?_))
        refine gf_callSN (ε2 := eI) C [.int (sG h 1412), .int a1] dX2_restoreKept_23 mw_X11_hasBit ml_X2_45 (fun rZ hZ eZ => ok_X11_hasBit (sG h 1412) a1 h rZ hZ eZ) rfl rfl rfl (Nat.le_of_ble_eq_true rfl) (Nat.le_of_ble_eq_true rfl) (Nat.le_of_ble_eq_true rfl) (fun r5 h6 => ?_)
        refine gf_ifne C 31 dX2_restoreKept_26 (by decide) (fun _ => ?_) (fun _ => ?_)
        · exact gf_sub [none, none, none] trivial (kj2 h6)
        · refine gf_aload_n C dX2_restoreKept_31 rfl rfl (gf_aload_n C dX2_restoreKept_32 rfl rfl (gf_getR C dX2_restoreKept_33 fl_X2_17 s_22 rfl 24 rfl (gf_iload_n C dX2_restoreKept_36 rfl rfl (gf_aald C dX2_restoreKept_37 s_24 ?_))))
          refine gf_jlQ (fun q7 => ?_)
          refine gf_jo (fun _ => gf_none) (fun a8 ea8 => ?_)
          subst ea8
          refine gf_gd (fun sa8 => ?_)
          refine gf_callV (ε2 := eV) C [.ref a8] dX2_restoreKept_38 mw_X5_copyFrom ml_X2_35 ha2 (fun rZ hZ eZ => ok_X5_copyFrom a2 a8 ha2 (of_decide_eq_true sa8) h6 rZ hZ eZ) rfl rfl rfl (Nat.le_of_ble_eq_true rfl) (Nat.le_of_ble_eq_true rfl) (Nat.le_of_ble_eq_true rfl) (fun _ h9 => ?_)
          refine gf_aload_n C dX2_restoreKept_41 rfl rfl (gf_iconst C dX2_restoreKept_42 ki_0 (gf_putI C dX2_restoreKept_43 fp_X2_21 s_22 rfl 1408 rfl ?_))
          refine gf_jlH (fun h10 => ?_)
          refine gf_iconst C dX2_restoreKept_46 ki_1 ?_
          exact gf_zret C dX2_restoreKept_47 rfl rfl
    · exact gf_sub [none, none, none] trivial (kj2 h)
def F_X7_windowOf (t : Nat) (a1 : Int32) (h : Hp) : Option (Int64 × Hp) :=
  jn (fun (s1 : Int64) (h2 : Hp) =>
  some (s1, h2)) (fun j3 => jn (fun (h4 : Hp) =>
  j3 (0 : Int64) h4) (fun j5 => if a1 < 0 then (
  j5 h) else (
  if a1 < (7 : Int32) then (
  gd (inb a1 7) ( j3 (lG h (t + 1) a1.toNatClampNeg) h)) else (
  j5 h))))
set_option maxRecDepth 100000 in
set_option maxHeartbeats 4000000 in
theorem ok_X7_windowOf (t : Nat) (a1 : Int32) (ht : shp t = (0, 7)) (h : Hp) (rZ : Int64) (hZ : Hp) (eZ : F_X7_windowOf t a1 h = some (rZ, hZ)) : AC yX7_windowOf cX7_windowOf 2 (some .long) 0 0 [.ref t, .int a1] h (eL rZ) hZ := by
  refine AC_intro (o := F_X7_windowOf t a1 h) RX7 rfl (plainFor_of_name (by decide)) [some (.ref t), some (.int a1)] rfl (fun _ => rfl) (fun _ => Nat.le_of_ble_eq_true rfl) eZ (fun K C => ?_)
  unfold F_X7_windowOf
  refine gf_iload_n C dX7_windowOf_0 rfl rfl ?_
  refine gf_jn (fun (j3 : Int64 → Hp → Option (Int64 × Hp)) => ∀ (s1 : Int64) (h2 : Hp), GF K eL h2 20 [none, none] [.long s1] (j3 s1 h2)) ?_ (fun j3 kj3 => ?_)
  · intro s1 h2
    exact gf_lret C dX7_windowOf_20 rfl
  refine gf_jn (fun (j5 : Hp → Option (Int64 × Hp)) => ∀ (h4 : Hp), GF K eL h4 19 [none, none] [] (j5 h4)) ?_ (fun j5 kj5 => ?_)
  · intro h4
    refine gf_lconst C dX7_windowOf_19 kl_0 ?_
    exact gf_sub [none, none] trivial (kj3 (0 : Int64) h4)
  refine gf_iflt C 19 dX7_windowOf_1 (by decide) (fun _ => ?_) (fun _ => ?_)
  · exact gf_sub [none, none] trivial (kj5 h)
  · refine gf_iload_n C dX7_windowOf_4 rfl rfl (gf_bipush C dX7_windowOf_5 kb_7 ?_)
    refine gf_icmpge C 19 dX7_windowOf_7 (by decide) (fun _ => ?_) (fun _ => ?_)
    · refine gf_aload_n C dX7_windowOf_10 rfl rfl (gf_getR C dX7_windowOf_11 fl_X7_9 ht rfl (t + 1) (lr_7_2 ht) (gf_iload_n C dX7_windowOf_14 rfl rfl (gf_lald C dX7_windowOf_15 (lq_7_2 ht) ?_)))
      refine gf_goto C 20 dX7_windowOf_16 (by decide) ?_
      exact gf_sub [none, none] trivial (kj3 (lG h (t + 1) a1.toNatClampNeg) h)
    · exact gf_sub [none, none] trivial (kj5 h)
def F_J6_numberOfLeadingZeros_0f7a4 (a1 : Int32) (h : Hp) : Option (Int32 × Hp) :=
  if 0 < a1 then (
  jn (fun (v1 : Int32) (v2 : Int32) (h3 : Hp) =>
  jn (fun (v5 : Int32) (v6 : Int32) (h7 : Hp) =>
  jn (fun (v9 : Int32) (v10 : Int32) (h11 : Hp) =>
  jn (fun (v13 : Int32) (v14 : Int32) (h15 : Hp) =>
  some (v14 - ((v13.toUInt32 >>> ((1 : Int32).toUInt32 &&& Int32.toUInt32 31)).toInt32), h15)) (fun j16 => if v9 < (4 : Int32) then (
  j16 v9 v10 h11) else (
  jl ((v9.toUInt32 >>> ((2 : Int32).toUInt32 &&& Int32.toUInt32 31)).toInt32) (fun x17 => j16 x17 (v10 + (-2 : Int32)) h11)))) (fun j12 => if v5 < (16 : Int32) then (
  j12 v5 v6 h7) else (
  jl ((v5.toUInt32 >>> ((4 : Int32).toUInt32 &&& Int32.toUInt32 31)).toInt32) (fun x18 => j12 x18 (v6 + (-4 : Int32)) h7)))) (fun j8 => if v1 < (256 : Int32) then (
  j8 v1 v2 h3) else (
  jl ((v1.toUInt32 >>> ((8 : Int32).toUInt32 &&& Int32.toUInt32 31)).toInt32) (fun x19 => j8 x19 (v2 + (-8 : Int32)) h3)))) (fun j4 => if a1 < (65536 : Int32) then (
  j4 a1 (31 : Int32) h) else (
  jl ((a1.toUInt32 >>> ((16 : Int32).toUInt32 &&& Int32.toUInt32 31)).toInt32) (fun x20 => j4 x20 ((31 : Int32) + (-16 : Int32)) h)))) else (
  jn (fun (s21 : Int32) (h22 : Hp) =>
  some (s21, h22)) (fun j23 => if a1 = 0 then (
  j23 (32 : Int32) h) else (
  j23 (0 : Int32) h)))
set_option maxRecDepth 100000 in
set_option maxHeartbeats 4000000 in
theorem ok_J6_numberOfLeadingZeros_0f7a4 (a1 : Int32) (h : Hp) (rZ : Int32) (hZ : Hp) (eZ : F_J6_numberOfLeadingZeros_0f7a4 a1 h = some (rZ, hZ)) : AC yJ6_numberOfLeadingZeros_0f7a4 cJ6_numberOfLeadingZeros_0f7a4 2 (some .int) 0 0 [.int a1] h (eI rZ) hZ := by
  refine AC_intro (o := F_J6_numberOfLeadingZeros_0f7a4 a1 h) RJ6 rfl (plainFor_of_name (by decide)) [some (.int a1), none] rfl (fun _ => rfl) (fun _ => Nat.le_of_ble_eq_true rfl) eZ (fun K C => ?_)
  unfold F_J6_numberOfLeadingZeros_0f7a4
  refine gf_iload_n C dJ6_numberOfLeadingZeros_0f7a4_0 rfl rfl ?_
  refine gf_ifgt C 15 dJ6_numberOfLeadingZeros_0f7a4_1 (by decide) (fun _ => ?_) (fun _ => ?_)
  · refine gf_bipush C dJ6_numberOfLeadingZeros_0f7a4_15 kb_31 (gf_istore_n C dJ6_numberOfLeadingZeros_0f7a4_17 rfl [some (.int a1), some (.int (31 : Int32))] rfl rfl (Nat.le_of_ble_eq_true rfl) (gf_iload_n C dJ6_numberOfLeadingZeros_0f7a4_18 rfl rfl (gf_ldc_w C dJ6_numberOfLeadingZeros_0f7a4_19 cw_J6_264 ?_)))
    refine gf_jn (fun (j4 : Int32 → Int32 → Hp → Option (Int32 × Hp)) => ∀ (v1 : Int32) (v2 : Int32) (h3 : Hp), GF K eI h3 33 [some (.int v1), some (.int v2)] [] (j4 v1 v2 h3)) ?_ (fun j4 kj4 => ?_)
    · intro v1 v2 h3
      refine gf_iload_n C dJ6_numberOfLeadingZeros_0f7a4_33 rfl rfl (gf_sipush C dJ6_numberOfLeadingZeros_0f7a4_34 ks_256 ?_)
      refine gf_jn (fun (j8 : Int32 → Int32 → Hp → Option (Int32 × Hp)) => ∀ (v5 : Int32) (v6 : Int32) (h7 : Hp), GF K eI h7 48 [some (.int v5), some (.int v6)] [] (j8 v5 v6 h7)) ?_ (fun j8 kj8 => ?_)
      · intro v5 v6 h7
        refine gf_iload_n C dJ6_numberOfLeadingZeros_0f7a4_48 rfl rfl (gf_bipush C dJ6_numberOfLeadingZeros_0f7a4_49 kb_16 ?_)
        refine gf_jn (fun (j12 : Int32 → Int32 → Hp → Option (Int32 × Hp)) => ∀ (v9 : Int32) (v10 : Int32) (h11 : Hp), GF K eI h11 61 [some (.int v9), some (.int v10)] [] (j12 v9 v10 h11)) ?_ (fun j12 kj12 => ?_)
        · intro v9 v10 h11
          refine gf_iload_n C dJ6_numberOfLeadingZeros_0f7a4_61 rfl rfl (gf_iconst C dJ6_numberOfLeadingZeros_0f7a4_62 ki_4 ?_)
          refine gf_jn (fun (j16 : Int32 → Int32 → Hp → Option (Int32 × Hp)) => ∀ (v13 : Int32) (v14 : Int32) (h15 : Hp), GF K eI h15 73 [some (.int v13), some (.int v14)] [] (j16 v13 v14 h15)) ?_ (fun j16 kj16 => ?_)
          · intro v13 v14 h15
            refine gf_iload_n C dJ6_numberOfLeadingZeros_0f7a4_73 rfl rfl (gf_iload_n C dJ6_numberOfLeadingZeros_0f7a4_74 rfl rfl (gf_iconst C dJ6_numberOfLeadingZeros_0f7a4_75 ki_1 (gf_iushr C dJ6_numberOfLeadingZeros_0f7a4_76 (gf_isub C dJ6_numberOfLeadingZeros_0f7a4_77 ?_))))
            exact gf_iret C dJ6_numberOfLeadingZeros_0f7a4_78 rfl
          refine gf_icmplt C 73 dJ6_numberOfLeadingZeros_0f7a4_63 (by decide) (fun _ => ?_) (fun _ => ?_)
          · exact gf_sub [some (.int v9), some (.int v10)] (And.intro rfl (And.intro rfl trivial)) (kj16 v9 v10 h11)
          · refine gf_iinc C dJ6_numberOfLeadingZeros_0f7a4_66 rfl (ii_m2 _) [some (.int v9), some (.int (v10 + (-2 : Int32)))] rfl rfl (gf_iload_n C dJ6_numberOfLeadingZeros_0f7a4_69 rfl rfl (gf_iconst C dJ6_numberOfLeadingZeros_0f7a4_70 ki_2 (gf_iushr C dJ6_numberOfLeadingZeros_0f7a4_71 ?_)))
            refine gf_jlI (fun x17 => ?_)
            refine gf_istore_n C dJ6_numberOfLeadingZeros_0f7a4_72 rfl [some (.int x17), some (.int (v10 + (-2 : Int32)))] rfl rfl (Nat.le_of_ble_eq_true rfl) ?_
            exact gf_sub [some (.int x17), some (.int (v10 + (-2 : Int32)))] (And.intro rfl (And.intro rfl trivial)) (kj16 x17 (v10 + (-2 : Int32)) h11)
        refine gf_icmplt C 61 dJ6_numberOfLeadingZeros_0f7a4_51 (by decide) (fun _ => ?_) (fun _ => ?_)
        · exact gf_sub [some (.int v5), some (.int v6)] (And.intro rfl (And.intro rfl trivial)) (kj12 v5 v6 h7)
        · refine gf_iinc C dJ6_numberOfLeadingZeros_0f7a4_54 rfl (ii_m4 _) [some (.int v5), some (.int (v6 + (-4 : Int32)))] rfl rfl (gf_iload_n C dJ6_numberOfLeadingZeros_0f7a4_57 rfl rfl (gf_iconst C dJ6_numberOfLeadingZeros_0f7a4_58 ki_4 (gf_iushr C dJ6_numberOfLeadingZeros_0f7a4_59 ?_)))
          refine gf_jlI (fun x18 => ?_)
          refine gf_istore_n C dJ6_numberOfLeadingZeros_0f7a4_60 rfl [some (.int x18), some (.int (v6 + (-4 : Int32)))] rfl rfl (Nat.le_of_ble_eq_true rfl) ?_
          exact gf_sub [some (.int x18), some (.int (v6 + (-4 : Int32)))] (And.intro rfl (And.intro rfl trivial)) (kj12 x18 (v6 + (-4 : Int32)) h7)
      refine gf_icmplt C 48 dJ6_numberOfLeadingZeros_0f7a4_37 (by decide) (fun _ => ?_) (fun _ => ?_)
      · exact gf_sub [some (.int v1), some (.int v2)] (And.intro rfl (And.intro rfl trivial)) (kj8 v1 v2 h3)
      · refine gf_iinc C dJ6_numberOfLeadingZeros_0f7a4_40 rfl (ii_m8 _) [some (.int v1), some (.int (v2 + (-8 : Int32)))] rfl rfl (gf_iload_n C dJ6_numberOfLeadingZeros_0f7a4_43 rfl rfl (gf_bipush C dJ6_numberOfLeadingZeros_0f7a4_44 kb_8 (gf_iushr C dJ6_numberOfLeadingZeros_0f7a4_46 ?_)))
        refine gf_jlI (fun x19 => ?_)
        refine gf_istore_n C dJ6_numberOfLeadingZeros_0f7a4_47 rfl [some (.int x19), some (.int (v2 + (-8 : Int32)))] rfl rfl (Nat.le_of_ble_eq_true rfl) ?_
        exact gf_sub [some (.int x19), some (.int (v2 + (-8 : Int32)))] (And.intro rfl (And.intro rfl trivial)) (kj8 x19 (v2 + (-8 : Int32)) h3)
    refine gf_icmplt C 33 dJ6_numberOfLeadingZeros_0f7a4_22 (by decide) (fun _ => ?_) (fun _ => ?_)
    · exact gf_sub [some (.int a1), some (.int (31 : Int32))] (And.intro rfl (And.intro rfl trivial)) (kj4 a1 (31 : Int32) h)
    · refine gf_iinc C dJ6_numberOfLeadingZeros_0f7a4_25 rfl (ii_m16 _) [some (.int a1), some (.int ((31 : Int32) + (-16 : Int32)))] rfl rfl (gf_iload_n C dJ6_numberOfLeadingZeros_0f7a4_28 rfl rfl (gf_bipush C dJ6_numberOfLeadingZeros_0f7a4_29 kb_16 (gf_iushr C dJ6_numberOfLeadingZeros_0f7a4_31 ?_)))
      refine gf_jlI (fun x20 => ?_)
      refine gf_istore_n C dJ6_numberOfLeadingZeros_0f7a4_32 rfl [some (.int x20), some (.int ((31 : Int32) + (-16 : Int32)))] rfl rfl (Nat.le_of_ble_eq_true rfl) ?_
      exact gf_sub [some (.int x20), some (.int ((31 : Int32) + (-16 : Int32)))] (And.intro rfl (And.intro rfl trivial)) (kj4 x20 ((31 : Int32) + (-16 : Int32)) h)
  · refine gf_iload_n C dJ6_numberOfLeadingZeros_0f7a4_4 rfl rfl ?_
    refine gf_jn (fun (j23 : Int32 → Hp → Option (Int32 × Hp)) => ∀ (s21 : Int32) (h22 : Hp), GF K eI h22 14 [none, none] [.int s21] (j23 s21 h22)) ?_ (fun j23 kj23 => ?_)
    · intro s21 h22
      exact gf_iret C dJ6_numberOfLeadingZeros_0f7a4_14 rfl
    refine gf_ifne C 13 dJ6_numberOfLeadingZeros_0f7a4_5 (by decide) (fun _ => ?_) (fun _ => ?_)
    · refine gf_bipush C dJ6_numberOfLeadingZeros_0f7a4_8 kb_32 ?_
      refine gf_goto C 14 dJ6_numberOfLeadingZeros_0f7a4_10 (by decide) ?_
      exact gf_sub [none, none] trivial (kj23 (32 : Int32) h)
    · refine gf_iconst C dJ6_numberOfLeadingZeros_0f7a4_13 ki_0 ?_
      exact gf_sub [none, none] trivial (kj23 (0 : Int32) h)
def F_J13_numberOfLeadingZeros_95d88 (a1 : Int64) (h : Hp) : Option (Int32 × Hp) :=
  jl (((a1.toUInt64 >>> ((32 : Int32).toInt64.toUInt64 &&& Int64.toUInt64 63)).toInt64).toInt32) (fun x1 => jn (fun (s2 : Int32) (h3 : Hp) =>
  some (s2, h3)) (fun j4 => if x1 = 0 then (
  bd (F_J6_numberOfLeadingZeros_0f7a4 a1.toInt32 h) (fun r5 h6 => j4 ((32 : Int32) + r5) h6)) else (
  bd (F_J6_numberOfLeadingZeros_0f7a4 x1 h) (fun r7 h8 => j4 r7 h8))))
set_option maxRecDepth 100000 in
set_option maxHeartbeats 4000000 in
theorem ok_J13_numberOfLeadingZeros_95d88 (a1 : Int64) (h : Hp) (rZ : Int32) (hZ : Hp) (eZ : F_J13_numberOfLeadingZeros_95d88 a1 h = some (rZ, hZ)) : AC yJ13_numberOfLeadingZeros_95d88 cJ13_numberOfLeadingZeros_95d88 3 (some .int) 1 21 [.long a1] h (eI rZ) hZ := by
  refine AC_intro (o := F_J13_numberOfLeadingZeros_95d88 a1 h) RJ13 rfl (plainFor_of_name (by decide)) [some (.long a1), none, none] rfl (fun _ => rfl) (fun _ => Nat.le_of_ble_eq_true rfl) eZ (fun K C => ?_)
  unfold F_J13_numberOfLeadingZeros_95d88
  refine gf_lload_n C dJ13_numberOfLeadingZeros_95d88_0 rfl rfl (gf_bipush C dJ13_numberOfLeadingZeros_95d88_1 kb_32 (gf_lushr C dJ13_numberOfLeadingZeros_95d88_3 (gf_l2i C dJ13_numberOfLeadingZeros_95d88_4 ?_)))
  refine gf_jlI (fun x1 => ?_)
  refine gf_istore_n C dJ13_numberOfLeadingZeros_95d88_5 rfl [some (.long a1), none, some (.int x1)] rfl rfl (Nat.le_of_ble_eq_true rfl) (gf_iload_n C dJ13_numberOfLeadingZeros_95d88_6 rfl rfl ?_)
  refine gf_jn (fun (j4 : Int32 → Hp → Option (Int32 × Hp)) => ∀ (s2 : Int32) (h3 : Hp), GF K eI h3 25 [none, none, none] [.int s2] (j4 s2 h3)) ?_ (fun j4 kj4 => ?_)
  · intro s2 h3
    exact gf_iret C dJ13_numberOfLeadingZeros_95d88_25 rfl
  refine gf_ifne C 21 dJ13_numberOfLeadingZeros_95d88_7 (by decide) (fun _ => ?_) (fun _ => ?_)
  · refine gf_bipush C dJ13_numberOfLeadingZeros_95d88_10 kb_32 (gf_lload_n C dJ13_numberOfLeadingZeros_95d88_12 rfl rfl (gf_l2i C dJ13_numberOfLeadingZeros_95d88_13 ?_))
    refine gf_callS (ε2 := eI) C [.int a1.toInt32] dJ13_numberOfLeadingZeros_95d88_14 mw_J6_numberOfLeadingZeros_0f7a4 ml_J13_308 (fun rZ hZ eZ => ok_J6_numberOfLeadingZeros_0f7a4 a1.toInt32 h rZ hZ eZ) rfl rfl rfl (Nat.le_of_ble_eq_true rfl) (Nat.le_of_ble_eq_true rfl) (Nat.le_of_ble_eq_true rfl) (fun r5 h6 => ?_)
    refine gf_iadd C dJ13_numberOfLeadingZeros_95d88_17 ?_
    refine gf_goto C 25 dJ13_numberOfLeadingZeros_95d88_18 (by decide) ?_
    exact gf_sub [none, none, none] trivial (kj4 ((32 : Int32) + r5) h6)
  · refine gf_iload_n C dJ13_numberOfLeadingZeros_95d88_21 rfl rfl ?_
    refine gf_callS (ε2 := eI) C [.int x1] dJ13_numberOfLeadingZeros_95d88_22 mw_J6_numberOfLeadingZeros_0f7a4 ml_J13_308 (fun rZ hZ eZ => ok_J6_numberOfLeadingZeros_0f7a4 x1 h rZ hZ eZ) rfl rfl rfl (Nat.le_of_ble_eq_true rfl) (Nat.le_of_ble_eq_true rfl) (Nat.le_of_ble_eq_true rfl) (fun r7 h8 => ?_)
    exact gf_sub [none, none, none] trivial (kj4 r7 h8)
def F_X11_lastSlot (a1 : Int64) (h : Hp) : Option (Int32 × Hp) :=
  jn (fun (s1 : Int32) (h2 : Hp) =>
  some (s1, h2)) (fun j3 => if (lg_cmp a1 (0 : Int64)) = 0 then (
  j3 (-1 : Int32) h) else (
  bd (F_J13_numberOfLeadingZeros_95d88 a1 h) (fun r4 h5 => j3 ((63 : Int32) - r4) h5)))
set_option maxRecDepth 100000 in
set_option maxHeartbeats 4000000 in
theorem ok_X11_lastSlot (a1 : Int64) (h : Hp) (rZ : Int32) (hZ : Hp) (eZ : F_X11_lastSlot a1 h = some (rZ, hZ)) : AC yX11_lastSlot cX11_lastSlot 2 (some .int) 2 43 [.long a1] h (eI rZ) hZ := by
  refine AC_intro (o := F_X11_lastSlot a1 h) RX11 rfl (plainFor_of_name (by decide)) [some (.long a1), none] rfl (fun _ => rfl) (fun _ => Nat.le_of_ble_eq_true rfl) eZ (fun K C => ?_)
  unfold F_X11_lastSlot
  refine gf_lload_n C dX11_lastSlot_0 rfl rfl (gf_lconst C dX11_lastSlot_1 kl_0 (gf_lcmp C dX11_lastSlot_2 ?_))
  refine gf_jn (fun (j3 : Int32 → Hp → Option (Int32 × Hp)) => ∀ (s1 : Int32) (h2 : Hp), GF K eI h2 17 [none, none] [.int s1] (j3 s1 h2)) ?_ (fun j3 kj3 => ?_)
  · intro s1 h2
    exact gf_iret C dX11_lastSlot_17 rfl
  refine gf_ifne C 10 dX11_lastSlot_3 (by decide) (fun _ => ?_) (fun _ => ?_)
  · refine gf_iconst C dX11_lastSlot_6 ki_m1 ?_
    refine gf_goto C 17 dX11_lastSlot_7 (by decide) ?_
    exact gf_sub [none, none] trivial (kj3 (-1 : Int32) h)
  · refine gf_bipush C dX11_lastSlot_10 kb_63 (gf_lload_n C dX11_lastSlot_12 rfl rfl ?_)
    refine gf_callS (ε2 := eI) C [.long a1] dX11_lastSlot_13 mw_J13_numberOfLeadingZeros_95d88 ml_X11_361 (fun rZ hZ eZ => ok_J13_numberOfLeadingZeros_95d88 a1 h rZ hZ eZ) rfl rfl rfl (Nat.le_of_ble_eq_true rfl) (Nat.le_of_ble_eq_true rfl) (Nat.le_of_ble_eq_true rfl) (fun r4 h5 => ?_)
    refine gf_isub C dX11_lastSlot_16 ?_
    exact gf_sub [none, none] trivial (kj3 ((63 : Int32) - r4) h5)
def F_X3_seekBetween (t : Nat) (a1 : Nat) (a2 : Int32) (a3 : Int32) (h : Hp) : Option (Unit × Hp) :=
  jl (a2 ||| ((1 : Int32) <<< (a3 &&& 31))) (fun x1 => jn (fun (h2 : Hp) =>
  some ((), h2)) (fun j3 => if a2 < 0 then (
  j3 h) else (
  if x1 < (128 : Int32) then (
  if a3 < (7 : Int32) then (
  gd (inb x1 128) ( if (aG h (t + 2) x1.toNatClampNeg) = (-1 : Int32) then (
  j3 h) else (
  bd (F_X7_windowOf a1 a3 h) (fun r4 h5 => gd (inb x1 128) ( jl (r4 &&& (((1 : Int64) <<< ((aG h5 (t + 2) x1.toNatClampNeg).toInt64 &&& 63)) - (1 : Int64))) (fun x6 => gd (inb a2 128) ( bd (F_X11_lastSlot x6 h5) (fun r7 h8 => bd (F_J9_max_7cf53 (aG h5 (t + 2) a2.toNatClampNeg) r7 h8) (fun r9 h10 => gd (inb a2 128) ( jl (aS h10 (t + 2) a2.toNatClampNeg r9) (fun h11 => gd (inb a2 128) ( if (aG h11 (t + 1) a2.toNatClampNeg) = (49 : Int32) then (
  some ((), h11)) else (
  gd (inb a2 128) ( gd (inb a2 128) ( jl (((x6.toUInt64 >>> ((aG h11 (t + 1) a2.toNatClampNeg).toInt64.toUInt64 &&& Int64.toUInt64 63)).toInt64) <<< ((aG h11 (t + 1) a2.toNatClampNeg).toInt64 &&& 63)) (fun x12 => if (lg_cmp x12 (0 : Int64)) = 0 then (
  some ((), h11)) else (
  gd (inb a3 7) ( gd (inb a3 7) ( jl (lS h11 (t + 3) a3.toNatClampNeg ((lG h11 (t + 3) a3.toNatClampNeg) ||| x12)) (fun h13 => gd (inb a3 7) ( bd (F_J6_bitCount_0f7a4 a2 h13) (fun r14 h15 => gd (inb a3 7) ( jl (aS h15 (t + 4) a3.toNatClampNeg ((aG h13 (t + 4) a3.toNatClampNeg) ||| ((1 : Int32) <<< (r14 &&& 31)))) (fun h16 => some ((), h16))))))))))))))))))))))))) else (
  j3 h)) else (
  j3 h))))
set_option maxRecDepth 100000 in
set_option maxHeartbeats 4000000 in
theorem ok_X3_seekBetween (t : Nat) (a1 : Nat) (a2 : Int32) (a3 : Int32) (ht : shp t = (0, 3)) (ha1 : shp a1 = (0, 7)) (h : Hp) (rZ : Unit) (hZ : Hp) (eZ : F_X3_seekBetween t a1 a2 a3 h = some (rZ, hZ)) : AC yX3_seekBetween cX3_seekBetween 9 (none) 3 64 [.ref t, .ref a1, .int a2, .int a3] h (eV rZ) hZ := by
  refine AC_intro (o := F_X3_seekBetween t a1 a2 a3 h) RX3 rfl (plainFor_of_name (by decide)) [some (.ref t), some (.ref a1), some (.int a2), some (.int a3), none, none, none, none, none] rfl (fun _ => rfl) (fun _ => Nat.le_of_ble_eq_true rfl) eZ (fun K C => ?_)
  unfold F_X3_seekBetween
  refine gf_iload_n C dX3_seekBetween_0 rfl rfl (gf_iconst C dX3_seekBetween_1 ki_1 (gf_iload_n C dX3_seekBetween_2 rfl rfl (gf_ishl C dX3_seekBetween_3 (gf_ior C dX3_seekBetween_4 ?_))))
  refine gf_jlI (fun x1 => ?_)
  refine gf_istore C dX3_seekBetween_5 [some (.ref t), some (.ref a1), some (.int a2), some (.int a3), some (.int x1), none, none, none, none] rfl rfl (Nat.le_of_ble_eq_true rfl) (gf_iload_n C dX3_seekBetween_7 rfl rfl ?_)
  refine gf_jn (fun (j3 : Hp → Option (Unit × Hp)) => ∀ (h2 : Hp), GF K eV h2 36 [none, none, none, none, none, none, none, none, none] [] (j3 h2)) ?_ (fun j3 kj3 => ?_)
  · intro h2
    exact gf_vret C dX3_seekBetween_36 rfl
  refine gf_iflt C 36 dX3_seekBetween_8 (by decide) (fun _ => ?_) (fun _ => ?_)
  · exact gf_sub [none, none, none, none, none, none, none, none, none] trivial (kj3 h)
  · refine gf_iload C dX3_seekBetween_11 rfl (gf_sipush C dX3_seekBetween_13 ks_128 ?_)
    refine gf_icmpge C 36 dX3_seekBetween_16 (by decide) (fun _ => ?_) (fun _ => ?_)
    · refine gf_iload_n C dX3_seekBetween_19 rfl rfl (gf_bipush C dX3_seekBetween_20 kb_7 ?_)
      refine gf_icmpge C 36 dX3_seekBetween_22 (by decide) (fun _ => ?_) (fun _ => ?_)
      · refine gf_aload_n C dX3_seekBetween_25 rfl rfl (gf_getR C dX3_seekBetween_26 fl_X3_15 ht rfl (t + 2) (lr_3_2 ht) (gf_iload C dX3_seekBetween_29 rfl (gf_iald C dX3_seekBetween_31 (lq_3_2 ht) (gf_iconst C dX3_seekBetween_32 ki_m1 ?_))))
        refine gf_icmpne C 37 dX3_seekBetween_33 (by decide) (fun _ => ?_) (fun _ => ?_)
        · exact gf_sub [none, none, none, none, none, none, none, none, none] trivial (kj3 h)
        · refine gf_aload_n C dX3_seekBetween_37 rfl rfl (gf_iload_n C dX3_seekBetween_38 rfl rfl ?_)
          refine gf_callV (ε2 := eL) C [.int a3] dX3_seekBetween_39 mw_X7_windowOf ml_X3_68 ha1 (fun rZ hZ eZ => ok_X7_windowOf a1 a3 ha1 h rZ hZ eZ) rfl rfl rfl (Nat.le_of_ble_eq_true rfl) (Nat.le_of_ble_eq_true rfl) (Nat.le_of_ble_eq_true rfl) (fun r4 h5 => ?_)
          refine gf_lconst C dX3_seekBetween_42 kl_1 (gf_aload_n C dX3_seekBetween_43 rfl rfl (gf_getR C dX3_seekBetween_44 fl_X3_15 ht rfl (t + 2) (lr_3_2 ht) (gf_iload C dX3_seekBetween_47 rfl (gf_iald C dX3_seekBetween_49 (lq_3_2 ht) (gf_lshl C dX3_seekBetween_50 (gf_lconst C dX3_seekBetween_51 kl_1 (gf_lsub C dX3_seekBetween_52 ?_)))))))
          refine gf_land C dX3_seekBetween_53 ?_
          refine gf_jlL (fun x6 => ?_)
          refine gf_lstore C dX3_seekBetween_54 [some (.ref t), some (.ref a1), some (.int a2), some (.int a3), some (.int x1), some (.long x6), none, none, none] rfl rfl (Nat.le_of_ble_eq_true rfl) (gf_aload_n C dX3_seekBetween_56 rfl rfl (gf_getR C dX3_seekBetween_57 fl_X3_15 ht rfl (t + 2) (lr_3_2 ht) (gf_iload_n C dX3_seekBetween_60 rfl rfl (gf_aload_n C dX3_seekBetween_61 rfl rfl (gf_getR C dX3_seekBetween_62 fl_X3_15 ht rfl (t + 2) (lr_3_2 ht) (gf_iload_n C dX3_seekBetween_65 rfl rfl (gf_iald C dX3_seekBetween_66 (lq_3_2 ht) ?_)))))))
          refine gf_lload C dX3_seekBetween_67 rfl ?_
          refine gf_callSN (ε2 := eI) C [.long x6] dX3_seekBetween_69 mw_X11_lastSlot ml_X3_72 (fun rZ hZ eZ => ok_X11_lastSlot x6 h5 rZ hZ eZ) rfl rfl rfl (Nat.le_of_ble_eq_true rfl) (Nat.le_of_ble_eq_true rfl) (Nat.le_of_ble_eq_true rfl) (fun r7 h8 => ?_)
          refine gf_callS (ε2 := eI) C [.int (aG h5 (t + 2) a2.toNatClampNeg), .int r7] dX3_seekBetween_72 mw_J9_max_7cf53 ml_X3_76 (fun rZ hZ eZ => ok_J9_max_7cf53 (aG h5 (t + 2) a2.toNatClampNeg) r7 h8 rZ hZ eZ) rfl rfl rfl (Nat.le_of_ble_eq_true rfl) (Nat.le_of_ble_eq_true rfl) (Nat.le_of_ble_eq_true rfl) (fun r9 h10 => ?_)
          refine gf_iast C dX3_seekBetween_75 (lq_3_2 ht) ?_
          refine gf_jlH (fun h11 => ?_)
          refine gf_aload_n C dX3_seekBetween_76 rfl rfl (gf_getR C dX3_seekBetween_77 fl_X3_9 ht rfl (t + 1) (lr_3_1 ht) (gf_iload_n C dX3_seekBetween_80 rfl rfl (gf_iald C dX3_seekBetween_81 (lq_3_1 ht) (gf_bipush C dX3_seekBetween_82 kb_49 ?_))))
          refine gf_icmpne C 88 dX3_seekBetween_84 (by decide) (fun _ => ?_) (fun _ => ?_)
          · exact gf_vret C dX3_seekBetween_87 rfl
          · refine gf_lload C dX3_seekBetween_88 rfl (gf_aload_n C dX3_seekBetween_90 rfl rfl (gf_getR C dX3_seekBetween_91 fl_X3_9 ht rfl (t + 1) (lr_3_1 ht) (gf_iload_n C dX3_seekBetween_94 rfl rfl (gf_iald C dX3_seekBetween_95 (lq_3_1 ht) (gf_lushr C dX3_seekBetween_96 (gf_aload_n C dX3_seekBetween_97 rfl rfl (gf_getR C dX3_seekBetween_98 fl_X3_9 ht rfl (t + 1) (lr_3_1 ht) ?_)))))))
            refine gf_iload_n C dX3_seekBetween_101 rfl rfl (gf_iald C dX3_seekBetween_102 (lq_3_1 ht) (gf_lshl C dX3_seekBetween_103 ?_))
            refine gf_jlL (fun x12 => ?_)
            refine gf_lstore C dX3_seekBetween_104 [some (.ref t), some (.ref a1), some (.int a2), some (.int a3), some (.int x1), some (.long x6), none, some (.long x12), none] rfl rfl (Nat.le_of_ble_eq_true rfl) (gf_lload C dX3_seekBetween_106 rfl (gf_lconst C dX3_seekBetween_108 kl_0 (gf_lcmp C dX3_seekBetween_109 ?_)))
            refine gf_ifne C 114 dX3_seekBetween_110 (by decide) (fun _ => ?_) (fun _ => ?_)
            · exact gf_vret C dX3_seekBetween_113 rfl
            · refine gf_aload_n C dX3_seekBetween_114 rfl rfl (gf_getR C dX3_seekBetween_115 fl_X3_18 ht rfl (t + 3) (lr_3_3 ht) (gf_iload_n C dX3_seekBetween_118 rfl rfl (gf_dup2 C dX3_seekBetween_119 rfl rfl (gf_lald C dX3_seekBetween_120 (lq_3_3 ht) (gf_lload C dX3_seekBetween_121 rfl (gf_lor C dX3_seekBetween_123 (gf_last C dX3_seekBetween_124 (lq_3_3 ht) ?_)))))))
              refine gf_jlH (fun h13 => ?_)
              refine gf_aload_n C dX3_seekBetween_125 rfl rfl (gf_getR C dX3_seekBetween_126 fl_X3_22 ht rfl (t + 4) (lr_3_4 ht) (gf_iload_n C dX3_seekBetween_129 rfl rfl (gf_dup2 C dX3_seekBetween_130 rfl rfl (gf_iald C dX3_seekBetween_131 (lq_3_4 ht) (gf_iconst C dX3_seekBetween_132 ki_1 (gf_iload_n C dX3_seekBetween_133 rfl rfl ?_))))))
              refine gf_callS (ε2 := eI) C [.int a2] dX3_seekBetween_134 mw_J6_bitCount_0f7a4 ml_X3_79 (fun rZ hZ eZ => ok_J6_bitCount_0f7a4 a2 h13 rZ hZ eZ) rfl rfl rfl (Nat.le_of_ble_eq_true rfl) (Nat.le_of_ble_eq_true rfl) (Nat.le_of_ble_eq_true rfl) (fun r14 h15 => ?_)
              refine gf_ishl C dX3_seekBetween_137 (gf_ior C dX3_seekBetween_138 (gf_iast C dX3_seekBetween_139 (lq_3_4 ht) ?_))
              refine gf_jlH (fun h16 => ?_)
              exact gf_vret C dX3_seekBetween_140 rfl
      · exact gf_sub [none, none, none, none, none, none, none, none, none] trivial (kj3 h)
    · exact gf_sub [none, none, none, none, none, none, none, none, none] trivial (kj3 h)
def F_X3_seek (t : Nat) (a1 : Nat) (h : Hp) : Option (Unit × Hp) :=
  bd (F_X7_everyone a1 h) (fun r1 h2 => bd (F_J7_fill_d0a16 (t + 3) 7 (0 : Int64) h2) (fun _ h3 => bd (F_J7_fill_53178 (t + 4) 7 (0 : Int32) h3) (fun _ h4 => jl (sS h4 (64 * t + 0) (1 : Int32)) (fun h5 => bd (F_X3_canBe t a1 r1 h5) (fun r6 h7 => if r6 = 0 then (
  some ((), h7)) else (
  bd (F_J7_fill_53178 (t + 2) 128 (-1 : Int32) h7) (fun _ h8 => jn (fun (h9 : Hp) =>
  bd (F_J9_min_7cf53 r1 (128 : Int32) h9) (fun r11 h12 => jl (r11 - (1 : Int32)) (fun x13 => (lp 4000000000 (fun (c16 : Int32 → Hp → Option (Unit × Hp)) (v14 : Int32) (h15 : Hp) =>
  if v14 < 0 then (
  some ((), h15)) else (
  bd (F_X7_nextOnes a1 v14 r1 h15) (fun r17 h18 => (lp 4000000000 (fun (c21 : Int32 → Hp → Option (Unit × Hp)) (v19 : Int32) (h20 : Hp) =>
  if v19 < (7 : Int32) then (
  bd (F_X11_hasBit r17 v19 h20) (fun r22 h23 => jn (fun (h24 : Hp) =>
  c21 (v19 + (1 : Int32)) h24) (fun j25 => if r22 = 0 then (
  j25 h23) else (
  bd (F_X3_seekBetween t a1 v14 v19 h23) (fun _ h26 => j25 h26))))) else (
  c16 (v14 + (-1 : Int32)) h20)) (fun _ _ => none)) (0 : Int32) h18))) (fun _ _ => none)) x13 h12))) (fun j10 => if r1 < (128 : Int32) then (
  gd (inb r1 128) ( jl (aS h8 (t + 2) r1.toNatClampNeg (48 : Int32)) (fun h27 => j10 h27))) else (
  j10 h8)))))))))
set_option maxRecDepth 100000 in
set_option maxHeartbeats 4000000 in
theorem ok_X3_seek (t : Nat) (a1 : Nat) (ht : shp t = (0, 3)) (ha1 : shp a1 = (0, 7)) (h : Hp) (rZ : Unit) (hZ : Hp) (eZ : F_X3_seek t a1 h = some (rZ, hZ)) : AC yX3_seek cX3_seek 6 (none) 4 94 [.ref t, .ref a1] h (eV rZ) hZ := by
  refine AC_intro (o := F_X3_seek t a1 h) RX3 rfl (plainFor_of_name (by decide)) [some (.ref t), some (.ref a1), none, none, none, none] rfl (fun _ => rfl) (fun _ => Nat.le_of_ble_eq_true rfl) eZ (fun K C => ?_)
  unfold F_X3_seek
  refine gf_aload_n C dX3_seek_0 rfl rfl ?_
  refine gf_callV (ε2 := eI) C [] dX3_seek_1 mw_X7_everyone ml_X3_49 ha1 (fun rZ hZ eZ => ok_X7_everyone a1 ha1 h rZ hZ eZ) rfl rfl rfl (Nat.le_of_ble_eq_true rfl) (Nat.le_of_ble_eq_true rfl) (Nat.le_of_ble_eq_true rfl) (fun r1 h2 => ?_)
  refine gf_istore_n C dX3_seek_4 rfl [some (.ref t), some (.ref a1), some (.int r1), none, none, none] rfl rfl (Nat.le_of_ble_eq_true rfl) (gf_aload_n C dX3_seek_5 rfl rfl (gf_getR C dX3_seek_6 fl_X3_18 ht rfl (t + 3) (lr_3_3 ht) (gf_lconst C dX3_seek_9 kl_0 ?_)))
  refine gf_callS (ε2 := eV) C [.ref (t + 3), .long (0 : Int64)] dX3_seek_10 mw_J7_fill_d0a16 ml_X3_53 (fun rZ hZ eZ => ok_J7_fill_d0a16 (t + 3) 7 (0 : Int64) (lq_3_3 ht) h2 rZ hZ eZ) rfl rfl rfl (Nat.le_of_ble_eq_true rfl) (Nat.le_of_ble_eq_true rfl) (Nat.le_of_ble_eq_true rfl) (fun _ h3 => ?_)
  refine gf_aload_n C dX3_seek_13 rfl rfl (gf_getR C dX3_seek_14 fl_X3_22 ht rfl (t + 4) (lr_3_4 ht) (gf_iconst C dX3_seek_17 ki_0 ?_))
  refine gf_callS (ε2 := eV) C [.ref (t + 4), .int (0 : Int32)] dX3_seek_18 mw_J7_fill_53178 ml_X3_25 (fun rZ hZ eZ => ok_J7_fill_53178 (t + 4) 7 (0 : Int32) (lq_3_4 ht) h3 rZ hZ eZ) rfl rfl rfl (Nat.le_of_ble_eq_true rfl) (Nat.le_of_ble_eq_true rfl) (Nat.le_of_ble_eq_true rfl) (fun _ h4 => ?_)
  refine gf_aload_n C dX3_seek_21 rfl rfl (gf_iconst C dX3_seek_22 ki_1 (gf_putZ C dX3_seek_23 fp_X3_56 ht rfl (64 * t + 0) rfl rfl ?_))
  refine gf_jlH (fun h5 => ?_)
  refine gf_aload_n C dX3_seek_26 rfl rfl (gf_aload_n C dX3_seek_27 rfl rfl (gf_iload_n C dX3_seek_28 rfl rfl ?_))
  refine gf_callV (ε2 := eI) C [.ref a1, .int r1] dX3_seek_29 mw_X3_canBe ml_X3_60 ht (fun rZ hZ eZ => ok_X3_canBe t a1 r1 ht ha1 h5 rZ hZ eZ) rfl rfl rfl (Nat.le_of_ble_eq_true rfl) (Nat.le_of_ble_eq_true rfl) (Nat.le_of_ble_eq_true rfl) (fun r6 h7 => ?_)
  refine gf_ifne C 36 dX3_seek_32 (by decide) (fun _ => ?_) (fun _ => ?_)
  · exact gf_vret C dX3_seek_35 rfl
  · refine gf_aload_n C dX3_seek_36 rfl rfl (gf_getR C dX3_seek_37 fl_X3_15 ht rfl (t + 2) (lr_3_2 ht) (gf_iconst C dX3_seek_40 ki_m1 ?_))
    refine gf_callS (ε2 := eV) C [.ref (t + 2), .int (-1 : Int32)] dX3_seek_41 mw_J7_fill_53178 ml_X3_25 (fun rZ hZ eZ => ok_J7_fill_53178 (t + 2) 128 (-1 : Int32) (lq_3_2 ht) h7 rZ hZ eZ) rfl rfl rfl (Nat.le_of_ble_eq_true rfl) (Nat.le_of_ble_eq_true rfl) (Nat.le_of_ble_eq_true rfl) (fun _ h8 => ?_)
    refine gf_iload_n C dX3_seek_44 rfl rfl (gf_sipush C dX3_seek_45 ks_128 ?_)
    refine gf_jn (fun (j10 : Hp → Option (Unit × Hp)) => ∀ (h9 : Hp), GF K eV h9 59 [some (.ref t), some (.ref a1), some (.int r1), none, none, none] [] (j10 h9)) ?_ (fun j10 kj10 => ?_)
    · intro h9
      refine gf_iload_n C dX3_seek_59 rfl rfl (gf_sipush C dX3_seek_60 ks_128 ?_)
      refine gf_callS (ε2 := eI) C [.int r1, .int (128 : Int32)] dX3_seek_63 mw_J9_min_7cf53 ml_X3_44 (fun rZ hZ eZ => ok_J9_min_7cf53 r1 (128 : Int32) h9 rZ hZ eZ) rfl rfl rfl (Nat.le_of_ble_eq_true rfl) (Nat.le_of_ble_eq_true rfl) (Nat.le_of_ble_eq_true rfl) (fun r11 h12 => ?_)
      refine gf_iconst C dX3_seek_66 ki_1 (gf_isub C dX3_seek_67 ?_)
      refine gf_jlI (fun x13 => ?_)
      refine gf_istore_n C dX3_seek_68 rfl [some (.ref t), some (.ref a1), some (.int r1), some (.int x13), none, none] rfl rfl (Nat.le_of_ble_eq_true rfl) ?_
      refine gf_sub [some (.ref t), some (.ref a1), some (.int r1), some (.int x13), none, none] (And.intro rfl (And.intro rfl (And.intro rfl (And.intro rfl trivial)))) ?_
      refine lp_P (fun (c16 : Int32 → Hp → Option (Unit × Hp)) => ∀ (v14 : Int32) (h15 : Hp), GF K eV h15 69 [some (.ref t), some (.ref a1), some (.int r1), some (.int v14), none, none] [] (c16 v14 h15)) (fun _ _ => gf_none) (fun c16 kc16 v14 h15 => ?_) x13 h12
      refine gf_iload_n C dX3_seek_69 rfl rfl ?_
      refine gf_iflt C 121 dX3_seek_70 (by decide) (fun _ => ?_) (fun _ => ?_)
      · exact gf_vret C dX3_seek_121 rfl
      · refine gf_aload_n C dX3_seek_73 rfl rfl (gf_iload_n C dX3_seek_74 rfl rfl (gf_iload_n C dX3_seek_75 rfl rfl ?_))
        refine gf_callV (ε2 := eI) C [.int v14, .int r1] dX3_seek_76 mw_X7_nextOnes ml_X3_31 ha1 (fun rZ hZ eZ => ok_X7_nextOnes a1 v14 r1 ha1 h15 rZ hZ eZ) rfl rfl rfl (Nat.le_of_ble_eq_true rfl) (Nat.le_of_ble_eq_true rfl) (Nat.le_of_ble_eq_true rfl) (fun r17 h18 => ?_)
        refine gf_istore C dX3_seek_79 [some (.ref t), some (.ref a1), some (.int r1), some (.int v14), some (.int r17), none] rfl rfl (Nat.le_of_ble_eq_true rfl) (gf_iconst C dX3_seek_81 ki_0 (gf_istore C dX3_seek_82 [some (.ref t), some (.ref a1), some (.int r1), some (.int v14), some (.int r17), some (.int (0 : Int32))] rfl rfl (Nat.le_of_ble_eq_true rfl) ?_))
        refine gf_sub [some (.ref t), some (.ref a1), some (.int r1), some (.int v14), some (.int r17), some (.int (0 : Int32))] (And.intro rfl (And.intro rfl (And.intro rfl (And.intro rfl (And.intro rfl (And.intro rfl trivial)))))) ?_
        refine lp_P (fun (c21 : Int32 → Hp → Option (Unit × Hp)) => ∀ (v19 : Int32) (h20 : Hp), GF K eV h20 84 [some (.ref t), some (.ref a1), some (.int r1), some (.int v14), some (.int r17), some (.int v19)] [] (c21 v19 h20)) (fun _ _ => gf_none) (fun c21 kc21 v19 h20 => ?_) (0 : Int32) h18
        refine gf_iload C dX3_seek_84 rfl (gf_bipush C dX3_seek_86 kb_7 ?_)
        refine gf_icmpge C 115 dX3_seek_88 (by decide) (fun _ => ?_) (fun _ => ?_)
        · refine gf_iload C dX3_seek_91 rfl (gf_iload C dX3_seek_93 rfl ?_)
          refine gf_callSN (ε2 := eI) C [.int r17, .int v19] dX3_seek_95 mw_X11_hasBit ml_X3_37 (fun rZ hZ eZ => ok_X11_hasBit r17 v19 h20 rZ hZ eZ) rfl rfl rfl (Nat.le_of_ble_eq_true rfl) (Nat.le_of_ble_eq_true rfl) (Nat.le_of_ble_eq_true rfl) (fun r22 h23 => ?_)
          refine gf_jn (fun (j25 : Hp → Option (Unit × Hp)) => ∀ (h24 : Hp), GF K eV h24 109 [some (.ref t), some (.ref a1), some (.int r1), some (.int v14), some (.int r17), some (.int v19)] [] (j25 h24)) ?_ (fun j25 kj25 => ?_)
          · intro h24
            refine gf_iinc C dX3_seek_109 rfl (ii_1 _) [some (.ref t), some (.ref a1), some (.int r1), some (.int v14), some (.int r17), some (.int (v19 + (1 : Int32)))] rfl rfl ?_
            refine gf_goto C 84 dX3_seek_112 (by decide) ?_
            exact gf_sub [some (.ref t), some (.ref a1), some (.int r1), some (.int v14), some (.int r17), some (.int (v19 + (1 : Int32)))] (And.intro rfl (And.intro rfl (And.intro rfl (And.intro rfl (And.intro rfl (And.intro rfl trivial)))))) (kc21 (v19 + (1 : Int32)) h24)
          refine gf_ifeq C 109 dX3_seek_98 (by decide) (fun _ => ?_) (fun _ => ?_)
          · exact gf_sub [some (.ref t), some (.ref a1), some (.int r1), some (.int v14), some (.int r17), some (.int v19)] (And.intro rfl (And.intro rfl (And.intro rfl (And.intro rfl (And.intro rfl (And.intro rfl trivial)))))) (kj25 h23)
          · refine gf_aload_n C dX3_seek_101 rfl rfl (gf_aload_n C dX3_seek_102 rfl rfl (gf_iload_n C dX3_seek_103 rfl rfl (gf_iload C dX3_seek_104 rfl ?_)))
            refine gf_callV (ε2 := eV) C [.ref a1, .int v14, .int v19] dX3_seek_106 mw_X3_seekBetween ml_X3_64 ht (fun rZ hZ eZ => ok_X3_seekBetween t a1 v14 v19 ht ha1 h23 rZ hZ eZ) rfl rfl rfl (Nat.le_of_ble_eq_true rfl) (Nat.le_of_ble_eq_true rfl) (Nat.le_of_ble_eq_true rfl) (fun _ h26 => ?_)
            exact gf_sub [some (.ref t), some (.ref a1), some (.int r1), some (.int v14), some (.int r17), some (.int v19)] (And.intro rfl (And.intro rfl (And.intro rfl (And.intro rfl (And.intro rfl (And.intro rfl trivial)))))) (kj25 h26)
        · refine gf_iinc C dX3_seek_115 rfl (ii_m1 _) [some (.ref t), some (.ref a1), some (.int r1), some (.int (v14 + (-1 : Int32))), some (.int r17), some (.int v19)] rfl rfl ?_
          refine gf_goto C 69 dX3_seek_118 (by decide) ?_
          exact gf_sub [some (.ref t), some (.ref a1), some (.int r1), some (.int (v14 + (-1 : Int32))), none, none] (And.intro rfl (And.intro rfl (And.intro rfl (And.intro rfl trivial)))) (kc16 (v14 + (-1 : Int32)) h20)
    refine gf_icmpge C 59 dX3_seek_48 (by decide) (fun _ => ?_) (fun _ => ?_)
    · refine gf_aload_n C dX3_seek_51 rfl rfl (gf_getR C dX3_seek_52 fl_X3_15 ht rfl (t + 2) (lr_3_2 ht) (gf_iload_n C dX3_seek_55 rfl rfl (gf_bipush C dX3_seek_56 kb_48 (gf_iast C dX3_seek_58 (lq_3_2 ht) ?_))))
      refine gf_jlH (fun h27 => ?_)
      exact gf_sub [some (.ref t), some (.ref a1), some (.int r1), none, none, none] (And.intro rfl (And.intro rfl (And.intro rfl trivial))) (kj10 h27)
    · exact gf_sub [some (.ref t), some (.ref a1), some (.int r1), none, none, none] (And.intro rfl (And.intro rfl (And.intro rfl trivial))) (kj10 h8)
def F_X3_leftTo (t : Nat) (a1 : Int32) (h : Hp) : Option (Int64 × Hp) :=
  jn (fun (s1 : Int64) (h2 : Hp) =>
  some (s1, h2)) (fun j3 => jn (fun (h4 : Hp) =>
  j3 (0 : Int64) h4) (fun j5 => if a1 < 0 then (
  j5 h) else (
  if a1 < (7 : Int32) then (
  gd (inb a1 7) ( j3 (lG h (t + 3) a1.toNatClampNeg) h)) else (
  j5 h))))
set_option maxRecDepth 100000 in
set_option maxHeartbeats 4000000 in
theorem ok_X3_leftTo (t : Nat) (a1 : Int32) (ht : shp t = (0, 3)) (h : Hp) (rZ : Int64) (hZ : Hp) (eZ : F_X3_leftTo t a1 h = some (rZ, hZ)) : AC yX3_leftTo cX3_leftTo 2 (some .long) 0 0 [.ref t, .int a1] h (eL rZ) hZ := by
  refine AC_intro (o := F_X3_leftTo t a1 h) RX3 rfl (plainFor_of_name (by decide)) [some (.ref t), some (.int a1)] rfl (fun _ => rfl) (fun _ => Nat.le_of_ble_eq_true rfl) eZ (fun K C => ?_)
  unfold F_X3_leftTo
  refine gf_iload_n C dX3_leftTo_0 rfl rfl ?_
  refine gf_jn (fun (j3 : Int64 → Hp → Option (Int64 × Hp)) => ∀ (s1 : Int64) (h2 : Hp), GF K eL h2 20 [none, none] [.long s1] (j3 s1 h2)) ?_ (fun j3 kj3 => ?_)
  · intro s1 h2
    exact gf_lret C dX3_leftTo_20 rfl
  refine gf_jn (fun (j5 : Hp → Option (Int64 × Hp)) => ∀ (h4 : Hp), GF K eL h4 19 [none, none] [] (j5 h4)) ?_ (fun j5 kj5 => ?_)
  · intro h4
    refine gf_lconst C dX3_leftTo_19 kl_0 ?_
    exact gf_sub [none, none] trivial (kj3 (0 : Int64) h4)
  refine gf_iflt C 19 dX3_leftTo_1 (by decide) (fun _ => ?_) (fun _ => ?_)
  · exact gf_sub [none, none] trivial (kj5 h)
  · refine gf_iload_n C dX3_leftTo_4 rfl rfl (gf_bipush C dX3_leftTo_5 kb_7 ?_)
    refine gf_icmpge C 19 dX3_leftTo_7 (by decide) (fun _ => ?_) (fun _ => ?_)
    · refine gf_aload_n C dX3_leftTo_10 rfl rfl (gf_getR C dX3_leftTo_11 fl_X3_18 ht rfl (t + 3) (lr_3_3 ht) (gf_iload_n C dX3_leftTo_14 rfl rfl (gf_lald C dX3_leftTo_15 (lq_3_3 ht) ?_)))
      refine gf_goto C 20 dX3_leftTo_16 (by decide) ?_
      exact gf_sub [none, none] trivial (kj3 (lG h (t + 3) a1.toNatClampNeg) h)
    · exact gf_sub [none, none] trivial (kj5 h)
def F_X3_placesOf (t : Nat) (a1 : Int32) (h : Hp) : Option (Int32 × Hp) :=
  jn (fun (s1 : Int32) (h2 : Hp) =>
  some (s1, h2)) (fun j3 => jn (fun (h4 : Hp) =>
  j3 (0 : Int32) h4) (fun j5 => if a1 < 0 then (
  j5 h) else (
  if a1 < (7 : Int32) then (
  gd (inb a1 7) ( j3 (aG h (t + 4) a1.toNatClampNeg) h)) else (
  j5 h))))
set_option maxRecDepth 100000 in
set_option maxHeartbeats 4000000 in
theorem ok_X3_placesOf (t : Nat) (a1 : Int32) (ht : shp t = (0, 3)) (h : Hp) (rZ : Int32) (hZ : Hp) (eZ : F_X3_placesOf t a1 h = some (rZ, hZ)) : AC yX3_placesOf cX3_placesOf 2 (some .int) 0 0 [.ref t, .int a1] h (eI rZ) hZ := by
  refine AC_intro (o := F_X3_placesOf t a1 h) RX3 rfl (plainFor_of_name (by decide)) [some (.ref t), some (.int a1)] rfl (fun _ => rfl) (fun _ => Nat.le_of_ble_eq_true rfl) eZ (fun K C => ?_)
  unfold F_X3_placesOf
  refine gf_iload_n C dX3_placesOf_0 rfl rfl ?_
  refine gf_jn (fun (j3 : Int32 → Hp → Option (Int32 × Hp)) => ∀ (s1 : Int32) (h2 : Hp), GF K eI h2 20 [none, none] [.int s1] (j3 s1 h2)) ?_ (fun j3 kj3 => ?_)
  · intro s1 h2
    exact gf_iret C dX3_placesOf_20 rfl
  refine gf_jn (fun (j5 : Hp → Option (Int32 × Hp)) => ∀ (h4 : Hp), GF K eI h4 19 [none, none] [] (j5 h4)) ?_ (fun j5 kj5 => ?_)
  · intro h4
    refine gf_iconst C dX3_placesOf_19 ki_0 ?_
    exact gf_sub [none, none] trivial (kj3 (0 : Int32) h4)
  refine gf_iflt C 19 dX3_placesOf_1 (by decide) (fun _ => ?_) (fun _ => ?_)
  · exact gf_sub [none, none] trivial (kj5 h)
  · refine gf_iload_n C dX3_placesOf_4 rfl rfl (gf_bipush C dX3_placesOf_5 kb_7 ?_)
    refine gf_icmpge C 19 dX3_placesOf_7 (by decide) (fun _ => ?_) (fun _ => ?_)
    · refine gf_aload_n C dX3_placesOf_10 rfl rfl (gf_getR C dX3_placesOf_11 fl_X3_22 ht rfl (t + 4) (lr_3_4 ht) (gf_iload_n C dX3_placesOf_14 rfl rfl (gf_iald C dX3_placesOf_15 (lq_3_4 ht) ?_)))
      refine gf_goto C 20 dX3_placesOf_16 (by decide) ?_
      exact gf_sub [none, none] trivial (kj3 (aG h (t + 4) a1.toNatClampNeg) h)
    · exact gf_sub [none, none] trivial (kj5 h)
def F_X4_pictureAt (t : Nat) (a1 : Int32) (a2 : Int32) (h : Hp) : Option (Int32 × Hp) :=
  jl (oG h (64 * t + 2)) (fun q1 => jn (fun (h2 : Hp) =>
  some ((-1 : Int32), h2)) (fun j3 => jo q1 (
  j3 h) (fun a4 =>
  if a1 < 0 then (
  j3 h) else (
  if a1 < (sG h (64 * t + 1)) then (
  if a2 < 0 then (
  j3 h) else (
  jl (oG h (64 * t + 2)) (fun q5 => jo q5 none (fun a6 => gd (shB a6 0 7) ( if a2 < (sG h (64 * a6 + 1)) then (
  (lp 4000000000 (fun (c13 : Int32 → Int32 → Int32 → Int32 → Int32 → Hp → Option (Int32 × Hp)) (v7 : Int32) (v8 : Int32) (v9 : Int32) (v10 : Int32) (v11 : Int32) (h12 : Hp) =>
  jn (fun (h14 : Hp) =>
  some (v9, h14)) (fun j15 => if a2 < v11 then (
  j15 h12) else (
  if v11 < (7 : Int32) then (
  (lp 4000000000 (fun (c19 : Int32 → Int32 → Hp → Option (Int32 × Hp)) (v16 : Int32) (v17 : Int32) (h18 : Hp) =>
  jn (fun (h20 : Hp) =>
  jl (v7 ||| ((1 : Int32) <<< (v16 &&& 31))) (fun x22 => jl (oG h20 (64 * t + 2)) (fun q23 => jo q23 none (fun a24 => gd (shB a24 0 7) ( bd (F_X7_freeBehind a24 v16 v8 h20) (fun r25 h26 => c13 x22 r25 v16 v17 (v11 + (1 : Int32)) h26)))))) (fun j21 => if v16 < (6 : Int32) then (
  jl (oG h18 (64 * t + 2)) (fun q27 => jo q27 none (fun a28 => gd (shB a28 0 7) ( bd (F_X4_waysBy t a28 v7 v8 v16 h18) (fun r29 h30 => if v17 < r29 then (
  j21 h30) else (
  jl (v17 - r29) (fun x31 => c19 (v16 + (1 : Int32)) x31 h30))))))) else (
  j21 h18))) (fun _ _ _ => none)) (0 : Int32) v10 h12) else (
  j15 h12)))) (fun _ _ _ _ _ _ => none)) (0 : Int32) (0 : Int32) (-1 : Int32) a1 (0 : Int32) h) else (
  j3 h)))))) else (
  j3 h)))))
set_option maxRecDepth 100000 in
set_option maxHeartbeats 4000000 in
theorem ok_X4_pictureAt (t : Nat) (a1 : Int32) (a2 : Int32) (ht : shp t = (0, 4)) (h : Hp) (rZ : Int32) (hZ : Hp) (eZ : F_X4_pictureAt t a1 a2 h = some (rZ, hZ)) : AC yX4_pictureAt cX4_pictureAt 9 (some .int) 4 92 [.ref t, .int a1, .int a2] h (eI rZ) hZ := by
  refine AC_intro (o := F_X4_pictureAt t a1 a2 h) RX4 rfl (plainFor_of_name (by decide)) [some (.ref t), some (.int a1), some (.int a2), none, none, none, none, none, none] rfl (fun _ => rfl) (fun _ => Nat.le_of_ble_eq_true rfl) eZ (fun K C => ?_)
  unfold F_X4_pictureAt
  refine gf_aload_n C dX4_pictureAt_0 rfl rfl (gf_getO C dX4_pictureAt_1 fl_X4_22 ht rfl (64 * t + 2) rfl ?_)
  refine gf_jlQ (fun q1 => ?_)
  refine gf_jn (fun (j3 : Hp → Option (Int32 × Hp)) => ∀ (h2 : Hp), GF K eI h2 34 [none, none, none, none, none, none, none, none, none] [] (j3 h2)) ?_ (fun j3 kj3 => ?_)
  · intro h2
    refine gf_iconst C dX4_pictureAt_34 ki_m1 ?_
    exact gf_iret C dX4_pictureAt_35 rfl
  refine gf_jo (fun ea4 => ?_) (fun a4 ea4 => ?_)
  · subst ea4
    refine gf_ifnullN C 34 dX4_pictureAt_4 (by decide) ?_
    exact gf_sub [none, none, none, none, none, none, none, none, none] trivial (kj3 h)
  · subst ea4
    refine gf_ifnull C dX4_pictureAt_4 ?_
    refine gf_iload_n C dX4_pictureAt_7 rfl rfl ?_
    refine gf_iflt C 34 dX4_pictureAt_8 (by decide) (fun _ => ?_) (fun _ => ?_)
    · exact gf_sub [none, none, none, none, none, none, none, none, none] trivial (kj3 h)
    · refine gf_iload_n C dX4_pictureAt_11 rfl rfl (gf_aload_n C dX4_pictureAt_12 rfl rfl (gf_getI C dX4_pictureAt_13 fl_X4_49 ht rfl (64 * t + 1) rfl ?_))
      refine gf_icmpge C 34 dX4_pictureAt_16 (by decide) (fun _ => ?_) (fun _ => ?_)
      · refine gf_iload_n C dX4_pictureAt_19 rfl rfl ?_
        refine gf_iflt C 34 dX4_pictureAt_20 (by decide) (fun _ => ?_) (fun _ => ?_)
        · exact gf_sub [none, none, none, none, none, none, none, none, none] trivial (kj3 h)
        · refine gf_iload_n C dX4_pictureAt_23 rfl rfl (gf_aload_n C dX4_pictureAt_24 rfl rfl (gf_getO C dX4_pictureAt_25 fl_X4_22 ht rfl (64 * t + 2) rfl ?_))
          refine gf_jlQ (fun q5 => ?_)
          refine gf_jo (fun _ => gf_none) (fun a6 ea6 => ?_)
          subst ea6
          refine gf_gd (fun sa6 => ?_)
          refine gf_getI C dX4_pictureAt_28 fl_X4_84 (of_decide_eq_true sa6) rfl (64 * a6 + 1) rfl ?_
          refine gf_icmplt C 36 dX4_pictureAt_31 (by decide) (fun _ => ?_) (fun _ => ?_)
          · refine gf_iconst C dX4_pictureAt_36 ki_0 (gf_istore_n C dX4_pictureAt_37 rfl [some (.ref t), some (.int a1), some (.int a2), some (.int (0 : Int32)), none, none, none, none, none] rfl rfl (Nat.le_of_ble_eq_true rfl) (gf_iconst C dX4_pictureAt_38 ki_0 (gf_istore C dX4_pictureAt_39 [some (.ref t), some (.int a1), some (.int a2), some (.int (0 : Int32)), some (.int (0 : Int32)), none, none, none, none] rfl rfl (Nat.le_of_ble_eq_true rfl) (gf_iconst C dX4_pictureAt_41 ki_m1 (gf_istore C dX4_pictureAt_42 [some (.ref t), some (.int a1), some (.int a2), some (.int (0 : Int32)), some (.int (0 : Int32)), some (.int (-1 : Int32)), none, none, none] rfl rfl (Nat.le_of_ble_eq_true rfl) (gf_iload_n C dX4_pictureAt_44 rfl rfl (gf_istore C dX4_pictureAt_45 [some (.ref t), some (.int a1), some (.int a2), some (.int (0 : Int32)), some (.int (0 : Int32)), some (.int (-1 : Int32)), some (.int a1), none, none] rfl rfl (Nat.le_of_ble_eq_true rfl) ?_)))))))
            refine gf_iconst C dX4_pictureAt_47 ki_0 (gf_istore C dX4_pictureAt_48 [some (.ref t), some (.int a1), some (.int a2), some (.int (0 : Int32)), some (.int (0 : Int32)), some (.int (-1 : Int32)), some (.int a1), some (.int (0 : Int32)), none] rfl rfl (Nat.le_of_ble_eq_true rfl) ?_)
            refine gf_sub [some (.ref t), none, some (.int a2), some (.int (0 : Int32)), some (.int (0 : Int32)), some (.int (-1 : Int32)), some (.int a1), some (.int (0 : Int32)), none] (And.intro rfl (And.intro rfl (And.intro rfl (And.intro rfl (And.intro rfl (And.intro rfl (And.intro rfl trivial))))))) ?_
            refine lp_P (fun (c13 : Int32 → Int32 → Int32 → Int32 → Int32 → Hp → Option (Int32 × Hp)) => ∀ (v7 : Int32) (v8 : Int32) (v9 : Int32) (v10 : Int32) (v11 : Int32) (h12 : Hp), GF K eI h12 50 [some (.ref t), none, some (.int a2), some (.int v7), some (.int v8), some (.int v9), some (.int v10), some (.int v11), none] [] (c13 v7 v8 v9 v10 v11 h12)) (fun _ _ _ _ _ _ => gf_none) (fun c13 kc13 v7 v8 v9 v10 v11 h12 => ?_) (0 : Int32) (0 : Int32) (-1 : Int32) a1 (0 : Int32) h
            refine gf_iload C dX4_pictureAt_50 rfl (gf_iload_n C dX4_pictureAt_52 rfl rfl ?_)
            refine gf_jn (fun (j15 : Hp → Option (Int32 × Hp)) => ∀ (h14 : Hp), GF K eI h14 137 [none, none, none, none, none, some (.int v9), none, none, none] [] (j15 h14)) ?_ (fun j15 kj15 => ?_)
            · intro h14
              refine gf_iload C dX4_pictureAt_137 rfl ?_
              exact gf_iret C dX4_pictureAt_139 rfl
            refine gf_icmpgt C 137 dX4_pictureAt_53 (by decide) (fun _ => ?_) (fun _ => ?_)
            · exact gf_sub [none, none, none, none, none, some (.int v9), none, none, none] (And.intro rfl trivial) (kj15 h12)
            · refine gf_iload C dX4_pictureAt_56 rfl (gf_bipush C dX4_pictureAt_58 kb_7 ?_)
              refine gf_icmpge C 137 dX4_pictureAt_60 (by decide) (fun _ => ?_) (fun _ => ?_)
              · refine gf_iconst C dX4_pictureAt_63 ki_0 (gf_istore C dX4_pictureAt_64 [some (.ref t), none, some (.int a2), some (.int v7), some (.int v8), some (.int (0 : Int32)), some (.int v10), some (.int v11), none] rfl rfl (Nat.le_of_ble_eq_true rfl) ?_)
                refine gf_sub [some (.ref t), none, some (.int a2), some (.int v7), some (.int v8), some (.int (0 : Int32)), some (.int v10), some (.int v11), none] (And.intro rfl (And.intro rfl (And.intro rfl (And.intro rfl (And.intro rfl (And.intro rfl (And.intro rfl trivial))))))) ?_
                refine lp_P (fun (c19 : Int32 → Int32 → Hp → Option (Int32 × Hp)) => ∀ (v16 : Int32) (v17 : Int32) (h18 : Hp), GF K eI h18 66 [some (.ref t), none, some (.int a2), some (.int v7), some (.int v8), some (.int v16), some (.int v17), some (.int v11), none] [] (c19 v16 v17 h18)) (fun _ _ _ => gf_none) (fun c19 kc19 v16 v17 h18 => ?_) (0 : Int32) v10 h12
                refine gf_iload C dX4_pictureAt_66 rfl (gf_bipush C dX4_pictureAt_68 kb_6 ?_)
                refine gf_jn (fun (j21 : Hp → Option (Int32 × Hp)) => ∀ (h20 : Hp), GF K eI h20 111 [some (.ref t), none, some (.int a2), some (.int v7), some (.int v8), some (.int v16), some (.int v17), some (.int v11), none] [] (j21 h20)) ?_ (fun j21 kj21 => ?_)
                · intro h20
                  refine gf_iload_n C dX4_pictureAt_111 rfl rfl (gf_iconst C dX4_pictureAt_112 ki_1 (gf_iload C dX4_pictureAt_113 rfl (gf_ishl C dX4_pictureAt_115 (gf_ior C dX4_pictureAt_116 ?_))))
                  refine gf_jlI (fun x22 => ?_)
                  refine gf_istore_n C dX4_pictureAt_117 rfl [some (.ref t), none, some (.int a2), some (.int x22), some (.int v8), some (.int v16), some (.int v17), some (.int v11), none] rfl rfl (Nat.le_of_ble_eq_true rfl) (gf_aload_n C dX4_pictureAt_118 rfl rfl (gf_getO C dX4_pictureAt_119 fl_X4_22 ht rfl (64 * t + 2) rfl ?_))
                  refine gf_jlQ (fun q23 => ?_)
                  refine gf_iload C dX4_pictureAt_122 rfl (gf_iload C dX4_pictureAt_124 rfl ?_)
                  refine gf_jo (fun _ => gf_none) (fun a24 ea24 => ?_)
                  subst ea24
                  refine gf_gd (fun sa24 => ?_)
                  refine gf_callV (ε2 := eI) C [.int v16, .int v8] dX4_pictureAt_126 mw_X7_freeBehind ml_X4_77 (of_decide_eq_true sa24) (fun rZ hZ eZ => ok_X7_freeBehind a24 v16 v8 (of_decide_eq_true sa24) h20 rZ hZ eZ) rfl rfl rfl (Nat.le_of_ble_eq_true rfl) (Nat.le_of_ble_eq_true rfl) (Nat.le_of_ble_eq_true rfl) (fun r25 h26 => ?_)
                  refine gf_istore C dX4_pictureAt_129 [some (.ref t), none, some (.int a2), some (.int x22), some (.int r25), some (.int v16), some (.int v17), some (.int v11), none] rfl rfl (Nat.le_of_ble_eq_true rfl) (gf_iinc C dX4_pictureAt_131 rfl (ii_1 _) [some (.ref t), none, some (.int a2), some (.int x22), some (.int r25), some (.int v16), some (.int v17), some (.int (v11 + (1 : Int32))), none] rfl rfl ?_)
                  refine gf_goto C 50 dX4_pictureAt_134 (by decide) ?_
                  exact gf_sub [some (.ref t), none, some (.int a2), some (.int x22), some (.int r25), some (.int v16), some (.int v17), some (.int (v11 + (1 : Int32))), none] (And.intro rfl (And.intro rfl (And.intro rfl (And.intro rfl (And.intro rfl (And.intro rfl (And.intro rfl trivial))))))) (kc13 x22 r25 v16 v17 (v11 + (1 : Int32)) h26)
                refine gf_icmpge C 111 dX4_pictureAt_70 (by decide) (fun _ => ?_) (fun _ => ?_)
                · refine gf_aload_n C dX4_pictureAt_73 rfl rfl (gf_aload_n C dX4_pictureAt_74 rfl rfl (gf_getO C dX4_pictureAt_75 fl_X4_22 ht rfl (64 * t + 2) rfl ?_))
                  refine gf_jlQ (fun q27 => ?_)
                  refine gf_iload_n C dX4_pictureAt_78 rfl rfl (gf_iload C dX4_pictureAt_79 rfl (gf_iload C dX4_pictureAt_81 rfl ?_))
                  refine gf_jo (fun _ => gf_none) (fun a28 ea28 => ?_)
                  subst ea28
                  refine gf_gd (fun sa28 => ?_)
                  refine gf_callV (ε2 := eI) C [.ref a28, .int v7, .int v8, .int v16] dX4_pictureAt_83 mw_X4_waysBy ml_X4_80 ht (fun rZ hZ eZ => ok_X4_waysBy t a28 v7 v8 v16 ht (of_decide_eq_true sa28) h18 rZ hZ eZ) rfl rfl rfl (Nat.le_of_ble_eq_true rfl) (Nat.le_of_ble_eq_true rfl) (Nat.le_of_ble_eq_true rfl) (fun r29 h30 => ?_)
                  refine gf_istore C dX4_pictureAt_86 [some (.ref t), none, some (.int a2), some (.int v7), some (.int v8), some (.int v16), some (.int v17), some (.int v11), some (.int r29)] rfl rfl (Nat.le_of_ble_eq_true rfl) (gf_iload C dX4_pictureAt_88 rfl (gf_iload C dX4_pictureAt_90 rfl ?_))
                  refine gf_icmpge C 98 dX4_pictureAt_92 (by decide) (fun _ => ?_) (fun _ => ?_)
                  · refine gf_goto C 111 dX4_pictureAt_95 (by decide) ?_
                    exact gf_sub [some (.ref t), none, some (.int a2), some (.int v7), some (.int v8), some (.int v16), some (.int v17), some (.int v11), none] (And.intro rfl (And.intro rfl (And.intro rfl (And.intro rfl (And.intro rfl (And.intro rfl (And.intro rfl trivial))))))) (kj21 h30)
                  · refine gf_iload C dX4_pictureAt_98 rfl (gf_iload C dX4_pictureAt_100 rfl (gf_isub C dX4_pictureAt_102 ?_))
                    refine gf_jlI (fun x31 => ?_)
                    refine gf_istore C dX4_pictureAt_103 [some (.ref t), none, some (.int a2), some (.int v7), some (.int v8), some (.int v16), some (.int x31), some (.int v11), some (.int r29)] rfl rfl (Nat.le_of_ble_eq_true rfl) (gf_iinc C dX4_pictureAt_105 rfl (ii_1 _) [some (.ref t), none, some (.int a2), some (.int v7), some (.int v8), some (.int (v16 + (1 : Int32))), some (.int x31), some (.int v11), some (.int r29)] rfl rfl ?_)
                    refine gf_goto C 66 dX4_pictureAt_108 (by decide) ?_
                    exact gf_sub [some (.ref t), none, some (.int a2), some (.int v7), some (.int v8), some (.int (v16 + (1 : Int32))), some (.int x31), some (.int v11), none] (And.intro rfl (And.intro rfl (And.intro rfl (And.intro rfl (And.intro rfl (And.intro rfl (And.intro rfl trivial))))))) (kc19 (v16 + (1 : Int32)) x31 h30)
                · exact gf_sub [some (.ref t), none, some (.int a2), some (.int v7), some (.int v8), some (.int v16), some (.int v17), some (.int v11), none] (And.intro rfl (And.intro rfl (And.intro rfl (And.intro rfl (And.intro rfl (And.intro rfl (And.intro rfl trivial))))))) (kj21 h18)
              · exact gf_sub [none, none, none, none, none, some (.int v9), none, none, none] (And.intro rfl trivial) (kj15 h12)
          · exact gf_sub [none, none, none, none, none, none, none, none, none] trivial (kj3 h)
      · exact gf_sub [none, none, none, none, none, none, none, none, none] trivial (kj3 h)
def F_X5_manyOf (t : Nat) (a1 : Int32) (h : Hp) : Option (Int32 × Hp) :=
  (lp 4000000000 (fun (c4 : Int32 → Int32 → Hp → Option (Int32 × Hp)) (v1 : Int32) (v2 : Int32) (h3 : Hp) =>
  if v2 < (8 : Int32) then (
  bd (F_X5_numberOf t a1 v2 h3) (fun r5 h6 => jn (fun (v7 : Int32) (h8 : Hp) =>
  c4 v7 (v2 + (1 : Int32)) h8) (fun j9 => if r5 = (-1 : Int32) then (
  j9 v1 h6) else (
  j9 (v1 + (1 : Int32)) h6)))) else (
  some (v1, h3))) (fun _ _ _ => none)) (0 : Int32) (0 : Int32) h
set_option maxRecDepth 100000 in
set_option maxHeartbeats 4000000 in
theorem ok_X5_manyOf (t : Nat) (a1 : Int32) (ht : shp t = (0, 5)) (h : Hp) (rZ : Int32) (hZ : Hp) (eZ : F_X5_manyOf t a1 h = some (rZ, hZ)) : AC yX5_manyOf cX5_manyOf 4 (some .int) 2 43 [.ref t, .int a1] h (eI rZ) hZ := by
  refine AC_intro (o := F_X5_manyOf t a1 h) RX5 rfl (plainFor_of_name (by decide)) [some (.ref t), some (.int a1), none, none] rfl (fun _ => rfl) (fun _ => Nat.le_of_ble_eq_true rfl) eZ (fun K C => ?_)
  unfold F_X5_manyOf
  refine gf_iconst C dX5_manyOf_0 ki_0 (gf_istore_n C dX5_manyOf_1 rfl [some (.ref t), some (.int a1), some (.int (0 : Int32)), none] rfl rfl (Nat.le_of_ble_eq_true rfl) (gf_iconst C dX5_manyOf_2 ki_0 (gf_istore_n C dX5_manyOf_3 rfl [some (.ref t), some (.int a1), some (.int (0 : Int32)), some (.int (0 : Int32))] rfl rfl (Nat.le_of_ble_eq_true rfl) ?_)))
  refine gf_sub [some (.ref t), some (.int a1), some (.int (0 : Int32)), some (.int (0 : Int32))] (And.intro rfl (And.intro rfl (And.intro rfl (And.intro rfl trivial)))) ?_
  refine lp_P (fun (c4 : Int32 → Int32 → Hp → Option (Int32 × Hp)) => ∀ (v1 : Int32) (v2 : Int32) (h3 : Hp), GF K eI h3 4 [some (.ref t), some (.int a1), some (.int v1), some (.int v2)] [] (c4 v1 v2 h3)) (fun _ _ _ => gf_none) (fun c4 kc4 v1 v2 h3 => ?_) (0 : Int32) (0 : Int32) h
  refine gf_iload_n C dX5_manyOf_4 rfl rfl (gf_bipush C dX5_manyOf_5 kb_8 ?_)
  refine gf_icmpge C 29 dX5_manyOf_7 (by decide) (fun _ => ?_) (fun _ => ?_)
  · refine gf_aload_n C dX5_manyOf_10 rfl rfl (gf_iload_n C dX5_manyOf_11 rfl rfl (gf_iload_n C dX5_manyOf_12 rfl rfl ?_))
    refine gf_callV (ε2 := eI) C [.int a1, .int v2] dX5_manyOf_13 mw_X5_numberOf ml_X5_51 ht (fun rZ hZ eZ => ok_X5_numberOf t a1 v2 ht h3 rZ hZ eZ) rfl rfl rfl (Nat.le_of_ble_eq_true rfl) (Nat.le_of_ble_eq_true rfl) (Nat.le_of_ble_eq_true rfl) (fun r5 h6 => ?_)
    refine gf_iconst C dX5_manyOf_16 ki_m1 ?_
    refine gf_jn (fun (j9 : Int32 → Hp → Option (Int32 × Hp)) => ∀ (v7 : Int32) (h8 : Hp), GF K eI h8 23 [some (.ref t), some (.int a1), some (.int v7), some (.int v2)] [] (j9 v7 h8)) ?_ (fun j9 kj9 => ?_)
    · intro v7 h8
      refine gf_iinc C dX5_manyOf_23 rfl (ii_1 _) [some (.ref t), some (.int a1), some (.int v7), some (.int (v2 + (1 : Int32)))] rfl rfl ?_
      refine gf_goto C 4 dX5_manyOf_26 (by decide) ?_
      exact gf_sub [some (.ref t), some (.int a1), some (.int v7), some (.int (v2 + (1 : Int32)))] (And.intro rfl (And.intro rfl (And.intro rfl (And.intro rfl trivial)))) (kc4 v7 (v2 + (1 : Int32)) h8)
    refine gf_icmpeq C 23 dX5_manyOf_17 (by decide) (fun _ => ?_) (fun _ => ?_)
    · exact gf_sub [some (.ref t), some (.int a1), some (.int v1), some (.int v2)] (And.intro rfl (And.intro rfl (And.intro rfl (And.intro rfl trivial)))) (kj9 v1 h6)
    · refine gf_iinc C dX5_manyOf_20 rfl (ii_1 _) [some (.ref t), some (.int a1), some (.int (v1 + (1 : Int32))), some (.int v2)] rfl rfl ?_
      exact gf_sub [some (.ref t), some (.int a1), some (.int (v1 + (1 : Int32))), some (.int v2)] (And.intro rfl (And.intro rfl (And.intro rfl (And.intro rfl trivial)))) (kj9 (v1 + (1 : Int32)) h6)
  · refine gf_iload_n C dX5_manyOf_29 rfl rfl ?_
    exact gf_iret C dX5_manyOf_30 rfl
def F_X10_letterAt (a1 : Int32) (h : Hp) : Option (Int32 × Hp) :=
  jn (fun (s1 : Int32) (h2 : Hp) =>
  some (s1, h2)) (fun j3 => jn (fun (h4 : Hp) =>
  j3 (-1 : Int32) h4) (fun j5 => if a1 < 0 then (
  j5 h) else (
  if a1 < (sG h 64) then (
  if a1 < (200 : Int32) then (
  gd (inb a1 200) ( j3 (aG h 2 a1.toNatClampNeg) h)) else (
  j5 h)) else (
  j5 h))))
set_option maxRecDepth 100000 in
set_option maxHeartbeats 4000000 in
theorem ok_X10_letterAt (a1 : Int32) (h : Hp) (rZ : Int32) (hZ : Hp) (eZ : F_X10_letterAt a1 h = some (rZ, hZ)) : AC yX10_letterAt cX10_letterAt 2 (some .int) 0 0 [.ref 1, .int a1] h (eI rZ) hZ := by
  refine AC_intro (o := F_X10_letterAt a1 h) RX10 rfl (plainFor_of_name (by decide)) [some (.ref 1), some (.int a1)] rfl (fun _ => rfl) (fun _ => Nat.le_of_ble_eq_true rfl) eZ (fun K C => ?_)
  unfold F_X10_letterAt
  refine gf_iload_n C dX10_letterAt_0 rfl rfl ?_
  refine gf_jn (fun (j3 : Int32 → Hp → Option (Int32 × Hp)) => ∀ (s1 : Int32) (h2 : Hp), GF K eI h2 29 [none, none] [.int s1] (j3 s1 h2)) ?_ (fun j3 kj3 => ?_)
  · intro s1 h2
    exact gf_iret C dX10_letterAt_29 rfl
  refine gf_jn (fun (j5 : Hp → Option (Int32 × Hp)) => ∀ (h4 : Hp), GF K eI h4 28 [none, none] [] (j5 h4)) ?_ (fun j5 kj5 => ?_)
  · intro h4
    refine gf_iconst C dX10_letterAt_28 ki_m1 ?_
    exact gf_sub [none, none] trivial (kj3 (-1 : Int32) h4)
  refine gf_iflt C 28 dX10_letterAt_1 (by decide) (fun _ => ?_) (fun _ => ?_)
  · exact gf_sub [none, none] trivial (kj5 h)
  · refine gf_iload_n C dX10_letterAt_4 rfl rfl (gf_aload_n C dX10_letterAt_5 rfl rfl (gf_getI C dX10_letterAt_6 fl_X10_15 s_1 rfl 64 rfl ?_))
    refine gf_icmpge C 28 dX10_letterAt_9 (by decide) (fun _ => ?_) (fun _ => ?_)
    · refine gf_iload_n C dX10_letterAt_12 rfl rfl (gf_sipush C dX10_letterAt_13 ks_200 ?_)
      refine gf_icmpge C 28 dX10_letterAt_16 (by decide) (fun _ => ?_) (fun _ => ?_)
      · refine gf_aload_n C dX10_letterAt_19 rfl rfl (gf_getR C dX10_letterAt_20 fl_X10_9 s_1 rfl 2 rfl (gf_iload_n C dX10_letterAt_23 rfl rfl (gf_iald C dX10_letterAt_24 s_2 ?_)))
        refine gf_goto C 29 dX10_letterAt_25 (by decide) ?_
        exact gf_sub [none, none] trivial (kj3 (aG h 2 a1.toNatClampNeg) h)
      · exact gf_sub [none, none] trivial (kj5 h)
    · exact gf_sub [none, none] trivial (kj5 h)
def F_X10_kindOf (a1 : Int32) (h : Hp) : Option (Int32 × Hp) :=
  if a1 = (-1 : Int32) then (
  some ((0 : Int32), h)) else (
  jn (fun (h1 : Hp) =>
  jn (fun (s3 : Int32) (h4 : Hp) =>
  some (s3, h4)) (fun j5 => jn (fun (h6 : Hp) =>
  j5 (3 : Int32) h6) (fun j7 => if a1 < (48 : Int32) then (
  j7 h1) else (
  if (57 : Int32) < a1 then (
  j7 h1) else (
  j5 (2 : Int32) h1))))) (fun j2 => if a1 < (97 : Int32) then (
  j2 h) else (
  if (122 : Int32) < a1 then (
  j2 h) else (
  some ((1 : Int32), h)))))
set_option maxRecDepth 100000 in
set_option maxHeartbeats 4000000 in
theorem ok_X10_kindOf (a1 : Int32) (h : Hp) (rZ : Int32) (hZ : Hp) (eZ : F_X10_kindOf a1 h = some (rZ, hZ)) : AC yX10_kindOf cX10_kindOf 1 (some .int) 0 0 [.int a1] h (eI rZ) hZ := by
  refine AC_intro (o := F_X10_kindOf a1 h) RX10 rfl (plainFor_of_name (by decide)) [some (.int a1)] rfl (fun _ => rfl) (fun _ => Nat.le_of_ble_eq_true rfl) eZ (fun K C => ?_)
  unfold F_X10_kindOf
  refine gf_iload_n C dX10_kindOf_0 rfl rfl (gf_iconst C dX10_kindOf_1 ki_m1 ?_)
  refine gf_icmpne C 7 dX10_kindOf_2 (by decide) (fun _ => ?_) (fun _ => ?_)
  · refine gf_iconst C dX10_kindOf_5 ki_0 ?_
    exact gf_iret C dX10_kindOf_6 rfl
  · refine gf_iload_n C dX10_kindOf_7 rfl rfl (gf_bipush C dX10_kindOf_8 kb_97 ?_)
    refine gf_jn (fun (j2 : Hp → Option (Int32 × Hp)) => ∀ (h1 : Hp), GF K eI h1 21 [some (.int a1)] [] (j2 h1)) ?_ (fun j2 kj2 => ?_)
    · intro h1
      refine gf_iload_n C dX10_kindOf_21 rfl rfl (gf_bipush C dX10_kindOf_22 kb_48 ?_)
      refine gf_jn (fun (j5 : Int32 → Hp → Option (Int32 × Hp)) => ∀ (s3 : Int32) (h4 : Hp), GF K eI h4 38 [none] [.int s3] (j5 s3 h4)) ?_ (fun j5 kj5 => ?_)
      · intro s3 h4
        exact gf_iret C dX10_kindOf_38 rfl
      refine gf_jn (fun (j7 : Hp → Option (Int32 × Hp)) => ∀ (h6 : Hp), GF K eI h6 37 [none] [] (j7 h6)) ?_ (fun j7 kj7 => ?_)
      · intro h6
        refine gf_iconst C dX10_kindOf_37 ki_3 ?_
        exact gf_sub [none] trivial (kj5 (3 : Int32) h6)
      refine gf_icmplt C 37 dX10_kindOf_24 (by decide) (fun _ => ?_) (fun _ => ?_)
      · exact gf_sub [none] trivial (kj7 h1)
      · refine gf_iload_n C dX10_kindOf_27 rfl rfl (gf_bipush C dX10_kindOf_28 kb_57 ?_)
        refine gf_icmpgt C 37 dX10_kindOf_30 (by decide) (fun _ => ?_) (fun _ => ?_)
        · exact gf_sub [none] trivial (kj7 h1)
        · refine gf_iconst C dX10_kindOf_33 ki_2 ?_
          refine gf_goto C 38 dX10_kindOf_34 (by decide) ?_
          exact gf_sub [none] trivial (kj5 (2 : Int32) h1)
    refine gf_icmplt C 21 dX10_kindOf_10 (by decide) (fun _ => ?_) (fun _ => ?_)
    · exact gf_sub [some (.int a1)] (And.intro rfl trivial) (kj2 h)
    · refine gf_iload_n C dX10_kindOf_13 rfl rfl (gf_bipush C dX10_kindOf_14 kb_122 ?_)
      refine gf_icmpgt C 21 dX10_kindOf_16 (by decide) (fun _ => ?_) (fun _ => ?_)
      · exact gf_sub [some (.int a1)] (And.intro rfl trivial) (kj2 h)
      · refine gf_iconst C dX10_kindOf_19 ki_1 ?_
        exact gf_iret C dX10_kindOf_20 rfl
def F_X6_step (h : Hp) : Option (Unit × Hp) :=
  jl (sS h 772 (sG h 773)) (fun h1 => (lp 4000000000 (fun (c4 : Int32 → Hp → Option (Unit × Hp)) (v2 : Int32) (h3 : Hp) =>
  jn (fun (h5 : Hp) =>
  bd (F_X10_letterAt (sG h5 772) h5) (fun r7 h8 => bd (F_X10_kindOf r7 h8) (fun r9 h10 => jl (sS h10 771 r9) (fun h11 => jn (fun (s12 : Int32) (h13 : Hp) =>
  jl (sS h13 773 s12) (fun h15 => jn (fun (h16 : Hp) =>
  (lp 4000000000 (fun (c20 : Int32 → Hp → Option (Unit × Hp)) (v18 : Int32) (h19 : Hp) =>
  jn (fun (h21 : Hp) =>
  some ((), h21)) (fun j22 => if v18 < (200 : Int32) then (
  bd (F_X10_letterAt (sG h19 773) h19) (fun r23 h24 => bd (F_X10_kindOf r23 h24) (fun r25 h26 => if r25 = (sG h26 771) then (
  jl (sS h26 773 ((sG h26 773) + (1 : Int32))) (fun h27 => c20 (v18 + (1 : Int32)) h27)) else (
  j22 h26)))) else (
  j22 h19))) (fun _ _ => none)) (0 : Int32) h16) (fun j17 => if (sG h15 771) = (1 : Int32) then (
  j17 h15) else (
  if (sG h15 771) = (2 : Int32) then (
  j17 h15) else (
  some ((), h15)))))) (fun j14 => if (sG h11 771) = 0 then (
  j14 (sG h11 772) h11) else (
  j14 ((sG h11 772) + (1 : Int32)) h11)))))) (fun j6 => if v2 < (200 : Int32) then (
  bd (F_X10_letterAt (sG h3 772) h3) (fun r28 h29 => if r28 = (32 : Int32) then (
  jl (sS h29 772 ((sG h29 772) + (1 : Int32))) (fun h30 => c4 (v2 + (1 : Int32)) h30)) else (
  j6 h29))) else (
  j6 h3))) (fun _ _ => none)) (0 : Int32) h1)
set_option maxRecDepth 100000 in
set_option maxHeartbeats 4000000 in
theorem ok_X6_step (h : Hp) (rZ : Unit) (hZ : Hp) (eZ : F_X6_step h = some (rZ, hZ)) : AC yX6_step cX6_step 2 (none) 1 21 [.ref 12] h (eV rZ) hZ := by
  refine AC_intro (o := F_X6_step h) RX6 rfl (plainFor_of_name (by decide)) [some (.ref 12), none] rfl (fun _ => rfl) (fun _ => Nat.le_of_ble_eq_true rfl) eZ (fun K C => ?_)
  unfold F_X6_step
  refine gf_aload_n C dX6_step_0 rfl rfl (gf_aload_n C dX6_step_1 rfl rfl (gf_getI C dX6_step_2 fl_X6_30 s_12 rfl 773 rfl (gf_putI C dX6_step_5 fp_X6_40 s_12 rfl 772 rfl ?_)))
  refine gf_jlH (fun h1 => ?_)
  refine gf_iconst C dX6_step_8 ki_0 (gf_istore_n C dX6_step_9 rfl [some (.ref 12), some (.int (0 : Int32))] rfl rfl (Nat.le_of_ble_eq_true rfl) ?_)
  refine gf_sub [some (.ref 12), some (.int (0 : Int32))] (And.intro rfl (And.intro rfl trivial)) ?_
  refine lp_P (fun (c4 : Int32 → Hp → Option (Unit × Hp)) => ∀ (v2 : Int32) (h3 : Hp), GF K eV h3 10 [some (.ref 12), some (.int v2)] [] (c4 v2 h3)) (fun _ _ => gf_none) (fun c4 kc4 v2 h3 => ?_) (0 : Int32) h1
  refine gf_iload_n C dX6_step_10 rfl rfl (gf_sipush C dX6_step_11 ks_200 ?_)
  refine gf_jn (fun (j6 : Hp → Option (Unit × Hp)) => ∀ (h5 : Hp), GF K eV h5 49 [some (.ref 12), none] [] (j6 h5)) ?_ (fun j6 kj6 => ?_)
  · intro h5
    refine gf_aload_n C dX6_step_49 rfl rfl (gf_aload_n C dX6_step_50 rfl rfl (gf_getR C dX6_step_51 fl_X6_18 s_12 rfl 1 rfl (gf_aload_n C dX6_step_54 rfl rfl (gf_getI C dX6_step_55 fl_X6_40 s_12 rfl 772 rfl ?_))))
    refine gf_callV (ε2 := eI) C [.int (sG h5 772)] dX6_step_58 mw_X10_letterAt ml_X6_48 s_1 (fun rZ hZ eZ => ok_X10_letterAt (sG h5 772) h5 rZ hZ eZ) rfl rfl rfl (Nat.le_of_ble_eq_true rfl) (Nat.le_of_ble_eq_true rfl) (Nat.le_of_ble_eq_true rfl) (fun r7 h8 => ?_)
    refine gf_callS (ε2 := eI) C [.int r7] dX6_step_61 mw_X10_kindOf ml_X6_52 (fun rZ hZ eZ => ok_X10_kindOf r7 h8 rZ hZ eZ) rfl rfl rfl (Nat.le_of_ble_eq_true rfl) (Nat.le_of_ble_eq_true rfl) (Nat.le_of_ble_eq_true rfl) (fun r9 h10 => ?_)
    refine gf_putI C dX6_step_64 fp_X6_43 s_12 rfl 771 rfl ?_
    refine gf_jlH (fun h11 => ?_)
    refine gf_aload_n C dX6_step_67 rfl rfl (gf_aload_n C dX6_step_68 rfl rfl (gf_getI C dX6_step_69 fl_X6_43 s_12 rfl 771 rfl ?_))
    refine gf_jn (fun (j14 : Int32 → Hp → Option (Unit × Hp)) => ∀ (s12 : Int32) (h13 : Hp), GF K eV h13 88 [some (.ref 12), none] [.int s12, .ref 12] (j14 s12 h13)) ?_ (fun j14 kj14 => ?_)
    · intro s12 h13
      refine gf_putI C dX6_step_88 fp_X6_30 s_12 rfl 773 rfl ?_
      refine gf_jlH (fun h15 => ?_)
      refine gf_aload_n C dX6_step_91 rfl rfl (gf_getI C dX6_step_92 fl_X6_43 s_12 rfl 771 rfl (gf_iconst C dX6_step_95 ki_1 ?_))
      refine gf_jn (fun (j17 : Hp → Option (Unit × Hp)) => ∀ (h16 : Hp), GF K eV h16 108 [some (.ref 12), none] [] (j17 h16)) ?_ (fun j17 kj17 => ?_)
      · intro h16
        refine gf_iconst C dX6_step_108 ki_0 (gf_istore_n C dX6_step_109 rfl [some (.ref 12), some (.int (0 : Int32))] rfl rfl (Nat.le_of_ble_eq_true rfl) ?_)
        refine gf_sub [some (.ref 12), some (.int (0 : Int32))] (And.intro rfl (And.intro rfl trivial)) ?_
        refine lp_P (fun (c20 : Int32 → Hp → Option (Unit × Hp)) => ∀ (v18 : Int32) (h19 : Hp), GF K eV h19 110 [some (.ref 12), some (.int v18)] [] (c20 v18 h19)) (fun _ _ => gf_none) (fun c20 kc20 v18 h19 => ?_) (0 : Int32) h16
        refine gf_iload_n C dX6_step_110 rfl rfl (gf_sipush C dX6_step_111 ks_200 ?_)
        refine gf_jn (fun (j22 : Hp → Option (Unit × Hp)) => ∀ (h21 : Hp), GF K eV h21 154 [none, none] [] (j22 h21)) ?_ (fun j22 kj22 => ?_)
        · intro h21
          exact gf_vret C dX6_step_154 rfl
        refine gf_icmpge C 154 dX6_step_114 (by decide) (fun _ => ?_) (fun _ => ?_)
        · refine gf_aload_n C dX6_step_117 rfl rfl (gf_getR C dX6_step_118 fl_X6_18 s_12 rfl 1 rfl (gf_aload_n C dX6_step_121 rfl rfl (gf_getI C dX6_step_122 fl_X6_30 s_12 rfl 773 rfl ?_)))
          refine gf_callV (ε2 := eI) C [.int (sG h19 773)] dX6_step_125 mw_X10_letterAt ml_X6_48 s_1 (fun rZ hZ eZ => ok_X10_letterAt (sG h19 773) h19 rZ hZ eZ) rfl rfl rfl (Nat.le_of_ble_eq_true rfl) (Nat.le_of_ble_eq_true rfl) (Nat.le_of_ble_eq_true rfl) (fun r23 h24 => ?_)
          refine gf_callS (ε2 := eI) C [.int r23] dX6_step_128 mw_X10_kindOf ml_X6_52 (fun rZ hZ eZ => ok_X10_kindOf r23 h24 rZ hZ eZ) rfl rfl rfl (Nat.le_of_ble_eq_true rfl) (Nat.le_of_ble_eq_true rfl) (Nat.le_of_ble_eq_true rfl) (fun r25 h26 => ?_)
          refine gf_aload_n C dX6_step_131 rfl rfl (gf_getI C dX6_step_132 fl_X6_43 s_12 rfl 771 rfl ?_)
          refine gf_icmpne C 154 dX6_step_135 (by decide) (fun _ => ?_) (fun _ => ?_)
          · refine gf_aload_n C dX6_step_138 rfl rfl (gf_dup C dX6_step_139 rfl (gf_getI C dX6_step_140 fl_X6_30 s_12 rfl 773 rfl (gf_iconst C dX6_step_143 ki_1 (gf_iadd C dX6_step_144 (gf_putI C dX6_step_145 fp_X6_30 s_12 rfl 773 rfl ?_)))))
            refine gf_jlH (fun h27 => ?_)
            refine gf_iinc C dX6_step_148 rfl (ii_1 _) [some (.ref 12), some (.int (v18 + (1 : Int32)))] rfl rfl ?_
            refine gf_goto C 110 dX6_step_151 (by decide) ?_
            exact gf_sub [some (.ref 12), some (.int (v18 + (1 : Int32)))] (And.intro rfl (And.intro rfl trivial)) (kc20 (v18 + (1 : Int32)) h27)
          · exact gf_sub [none, none] trivial (kj22 h26)
        · exact gf_sub [none, none] trivial (kj22 h19)
      refine gf_icmpeq C 108 dX6_step_96 (by decide) (fun _ => ?_) (fun _ => ?_)
      · exact gf_sub [some (.ref 12), none] (And.intro rfl trivial) (kj17 h15)
      · refine gf_aload_n C dX6_step_99 rfl rfl (gf_getI C dX6_step_100 fl_X6_43 s_12 rfl 771 rfl (gf_iconst C dX6_step_103 ki_2 ?_))
        refine gf_icmpeq C 108 dX6_step_104 (by decide) (fun _ => ?_) (fun _ => ?_)
        · exact gf_sub [some (.ref 12), none] (And.intro rfl trivial) (kj17 h15)
        · exact gf_vret C dX6_step_107 rfl
    refine gf_ifne C 82 dX6_step_72 (by decide) (fun _ => ?_) (fun _ => ?_)
    · refine gf_aload_n C dX6_step_75 rfl rfl (gf_getI C dX6_step_76 fl_X6_40 s_12 rfl 772 rfl ?_)
      refine gf_goto C 88 dX6_step_79 (by decide) ?_
      exact gf_sub [some (.ref 12), none] (And.intro rfl trivial) (kj14 (sG h11 772) h11)
    · refine gf_aload_n C dX6_step_82 rfl rfl (gf_getI C dX6_step_83 fl_X6_40 s_12 rfl 772 rfl (gf_iconst C dX6_step_86 ki_1 (gf_iadd C dX6_step_87 ?_)))
      exact gf_sub [some (.ref 12), none] (And.intro rfl trivial) (kj14 ((sG h11 772) + (1 : Int32)) h11)
  refine gf_icmpge C 49 dX6_step_14 (by decide) (fun _ => ?_) (fun _ => ?_)
  · refine gf_aload_n C dX6_step_17 rfl rfl (gf_getR C dX6_step_18 fl_X6_18 s_12 rfl 1 rfl (gf_aload_n C dX6_step_21 rfl rfl (gf_getI C dX6_step_22 fl_X6_40 s_12 rfl 772 rfl ?_)))
    refine gf_callV (ε2 := eI) C [.int (sG h3 772)] dX6_step_25 mw_X10_letterAt ml_X6_48 s_1 (fun rZ hZ eZ => ok_X10_letterAt (sG h3 772) h3 rZ hZ eZ) rfl rfl rfl (Nat.le_of_ble_eq_true rfl) (Nat.le_of_ble_eq_true rfl) (Nat.le_of_ble_eq_true rfl) (fun r28 h29 => ?_)
    refine gf_bipush C dX6_step_28 kb_32 ?_
    refine gf_icmpne C 49 dX6_step_30 (by decide) (fun _ => ?_) (fun _ => ?_)
    · refine gf_aload_n C dX6_step_33 rfl rfl (gf_dup C dX6_step_34 rfl (gf_getI C dX6_step_35 fl_X6_40 s_12 rfl 772 rfl (gf_iconst C dX6_step_38 ki_1 (gf_iadd C dX6_step_39 (gf_putI C dX6_step_40 fp_X6_40 s_12 rfl 772 rfl ?_)))))
      refine gf_jlH (fun h30 => ?_)
      refine gf_iinc C dX6_step_43 rfl (ii_1 _) [some (.ref 12), some (.int (v2 + (1 : Int32)))] rfl rfl ?_
      refine gf_goto C 10 dX6_step_46 (by decide) ?_
      exact gf_sub [some (.ref 12), some (.int (v2 + (1 : Int32)))] (And.intro rfl (And.intro rfl trivial)) (kc4 (v2 + (1 : Int32)) h30)
    · exact gf_sub [some (.ref 12), none] (And.intro rfl trivial) (kj6 h29)
  · exact gf_sub [some (.ref 12), none] (And.intro rfl trivial) (kj6 h3)
def F_X6_is (a1 : Nat) (h : Hp) : Option (Int32 × Hp) :=
  jn (fun (h1 : Hp) =>
  some ((0 : Int32), h1)) (fun j2 => if (sG h 771) = (1 : Int32) then (
  if ((sG h 773) - (sG h 772)) = (slen a1) then (
  (lp 4000000000 (fun (c5 : Int32 → Hp → Option (Int32 × Hp)) (v3 : Int32) (h4 : Hp) =>
  if v3 < (slen a1) then (
  bd (F_X10_letterAt ((sG h4 772) + v3) h4) (fun r6 h7 => gd (inb v3 (sw_len.getD a1 0)) ( if r6 = (schr a1 v3) then (
  c5 (v3 + (1 : Int32)) h7) else (
  some ((0 : Int32), h7))))) else (
  some ((1 : Int32), h4))) (fun _ _ => none)) (0 : Int32) h) else (
  j2 h)) else (
  j2 h))
set_option maxRecDepth 100000 in
set_option maxHeartbeats 4000000 in
theorem ok_X6_is (a1 : Nat) (ha1 : a1 < sw_N) (h : Hp) (rZ : Int32) (hZ : Hp) (eZ : F_X6_is a1 h = some (rZ, hZ)) : AC yX6_is cX6_is 3 (some .boolean) 4 85 [.ref 12, .ref (1000 + a1)] h (eI rZ) hZ := by
  refine AC_intro (o := F_X6_is a1 h) RX6 rfl (plainFor_of_name (by decide)) [some (.ref 12), some (.ref (1000 + a1)), none] rfl (fun _ => rfl) (fun _ => Nat.le_of_ble_eq_true rfl) eZ (fun K C => ?_)
  unfold F_X6_is
  refine gf_aload_n C dX6_is_0 rfl rfl (gf_getI C dX6_is_1 fl_X6_43 s_12 rfl 771 rfl (gf_iconst C dX6_is_4 ki_1 ?_))
  refine gf_jn (fun (j2 : Hp → Option (Int32 × Hp)) => ∀ (h1 : Hp), GF K eI h1 24 [none, none, none] [] (j2 h1)) ?_ (fun j2 kj2 => ?_)
  · intro h1
    refine gf_iconst C dX6_is_24 ki_0 ?_
    exact gf_zret C dX6_is_25 rfl rfl
  refine gf_icmpne C 24 dX6_is_5 (by decide) (fun _ => ?_) (fun _ => ?_)
  · refine gf_aload_n C dX6_is_8 rfl rfl (gf_getI C dX6_is_9 fl_X6_30 s_12 rfl 773 rfl (gf_aload_n C dX6_is_12 rfl rfl (gf_getI C dX6_is_13 fl_X6_40 s_12 rfl 772 rfl (gf_isub C dX6_is_16 (gf_aload_n C dX6_is_17 rfl rfl ?_)))))
    refine gf_strlen C dX6_is_18 ha1 ml_X6_92 rfl (Nat.le_of_ble_eq_true rfl) (Nat.le_of_ble_eq_true rfl) (Nat.le_of_ble_eq_true rfl) ?_
    refine gf_icmpeq C 26 dX6_is_21 (by decide) (fun _ => ?_) (fun _ => ?_)
    · refine gf_iconst C dX6_is_26 ki_0 (gf_istore_n C dX6_is_27 rfl [some (.ref 12), some (.ref (1000 + a1)), some (.int (0 : Int32))] rfl rfl (Nat.le_of_ble_eq_true rfl) ?_)
      refine gf_sub [some (.ref 12), some (.ref (1000 + a1)), some (.int (0 : Int32))] (And.intro rfl (And.intro rfl (And.intro rfl trivial))) ?_
      refine lp_P (fun (c5 : Int32 → Hp → Option (Int32 × Hp)) => ∀ (v3 : Int32) (h4 : Hp), GF K eI h4 28 [some (.ref 12), some (.ref (1000 + a1)), some (.int v3)] [] (c5 v3 h4)) (fun _ _ => gf_none) (fun c5 kc5 v3 h4 => ?_) (0 : Int32) h
      refine gf_iload_n C dX6_is_28 rfl rfl (gf_aload_n C dX6_is_29 rfl rfl ?_)
      refine gf_strlen C dX6_is_30 ha1 ml_X6_92 rfl (Nat.le_of_ble_eq_true rfl) (Nat.le_of_ble_eq_true rfl) (Nat.le_of_ble_eq_true rfl) ?_
      refine gf_icmpge C 65 dX6_is_33 (by decide) (fun _ => ?_) (fun _ => ?_)
      · refine gf_aload_n C dX6_is_36 rfl rfl (gf_getR C dX6_is_37 fl_X6_18 s_12 rfl 1 rfl (gf_aload_n C dX6_is_40 rfl rfl (gf_getI C dX6_is_41 fl_X6_40 s_12 rfl 772 rfl (gf_iload_n C dX6_is_44 rfl rfl (gf_iadd C dX6_is_45 ?_)))))
        refine gf_callV (ε2 := eI) C [.int ((sG h4 772) + v3)] dX6_is_46 mw_X10_letterAt ml_X6_48 s_1 (fun rZ hZ eZ => ok_X10_letterAt ((sG h4 772) + v3) h4 rZ hZ eZ) rfl rfl rfl (Nat.le_of_ble_eq_true rfl) (Nat.le_of_ble_eq_true rfl) (Nat.le_of_ble_eq_true rfl) (fun r6 h7 => ?_)
        refine gf_aload_n C dX6_is_49 rfl rfl (gf_iload_n C dX6_is_50 rfl rfl ?_)
        refine gf_strchr C dX6_is_51 ha1 ml_X6_98 rfl (Nat.le_of_ble_eq_true rfl) (Nat.le_of_ble_eq_true rfl) (Nat.le_of_ble_eq_true rfl) ?_
        refine gf_icmpeq C 59 dX6_is_54 (by decide) (fun _ => ?_) (fun _ => ?_)
        · refine gf_iinc C dX6_is_59 rfl (ii_1 _) [some (.ref 12), some (.ref (1000 + a1)), some (.int (v3 + (1 : Int32)))] rfl rfl ?_
          refine gf_goto C 28 dX6_is_62 (by decide) ?_
          exact gf_sub [some (.ref 12), some (.ref (1000 + a1)), some (.int (v3 + (1 : Int32)))] (And.intro rfl (And.intro rfl (And.intro rfl trivial))) (kc5 (v3 + (1 : Int32)) h7)
        · refine gf_iconst C dX6_is_57 ki_0 ?_
          exact gf_zret C dX6_is_58 rfl rfl
      · refine gf_iconst C dX6_is_65 ki_1 ?_
        exact gf_zret C dX6_is_66 rfl rfl
    · exact gf_sub [none, none, none] trivial (kj2 h)
  · exact gf_sub [none, none, none] trivial (kj2 h)
def F_X6_readNumber (a1 : Int32) (a2 : Int32) (h : Hp) : Option (Int32 × Hp) :=
  jn (fun (h1 : Hp) =>
  some ((0 : Int32), h1)) (fun j2 => if (sG h 771) = (2 : Int32) then (
  if (3 : Int32) < ((sG h 773) - (sG h 772)) then (
  j2 h) else (
  jl (sS h 774 (0 : Int32)) (fun h3 => jl (sG h3 772) (fun x4 => (lp 4000000000 (fun (c7 : Int32 → Hp → Option (Int32 × Hp)) (v5 : Int32) (h6 : Hp) =>
  if v5 < (sG h6 773) then (
  bd (F_X10_letterAt v5 h6) (fun r8 h9 => jl (sS h9 774 ((((10 : Int32) * (sG h6 774)) + r8) - (48 : Int32))) (fun h10 => c7 (v5 + (1 : Int32)) h10))) else (
  jn (fun (h11 : Hp) =>
  some ((0 : Int32), h11)) (fun j12 => if (sG h6 774) < a1 then (
  j12 h6) else (
  if a2 < (sG h6 774) then (
  j12 h6) else (
  bd (F_X6_step h6) (fun _ h13 => some ((1 : Int32), h13))))))) (fun _ _ => none)) x4 h3)))) else (
  j2 h))
set_option maxRecDepth 100000 in
set_option maxHeartbeats 4000000 in
theorem ok_X6_readNumber (a1 : Int32) (a2 : Int32) (h : Hp) (rZ : Int32) (hZ : Hp) (eZ : F_X6_readNumber a1 a2 h = some (rZ, hZ)) : AC yX6_readNumber cX6_readNumber 4 (some .boolean) 2 42 [.ref 12, .int a1, .int a2] h (eI rZ) hZ := by
  refine AC_intro (o := F_X6_readNumber a1 a2 h) RX6 rfl (plainFor_of_name (by decide)) [some (.ref 12), some (.int a1), some (.int a2), none] rfl (fun _ => rfl) (fun _ => Nat.le_of_ble_eq_true rfl) eZ (fun K C => ?_)
  unfold F_X6_readNumber
  refine gf_aload_n C dX6_readNumber_0 rfl rfl (gf_getI C dX6_readNumber_1 fl_X6_43 s_12 rfl 771 rfl (gf_iconst C dX6_readNumber_4 ki_2 ?_))
  refine gf_jn (fun (j2 : Hp → Option (Int32 × Hp)) => ∀ (h1 : Hp), GF K eI h1 21 [none, none, none, none] [] (j2 h1)) ?_ (fun j2 kj2 => ?_)
  · intro h1
    refine gf_iconst C dX6_readNumber_21 ki_0 ?_
    exact gf_zret C dX6_readNumber_22 rfl rfl
  refine gf_icmpne C 21 dX6_readNumber_5 (by decide) (fun _ => ?_) (fun _ => ?_)
  · refine gf_aload_n C dX6_readNumber_8 rfl rfl (gf_getI C dX6_readNumber_9 fl_X6_30 s_12 rfl 773 rfl (gf_aload_n C dX6_readNumber_12 rfl rfl (gf_getI C dX6_readNumber_13 fl_X6_40 s_12 rfl 772 rfl (gf_isub C dX6_readNumber_16 (gf_iconst C dX6_readNumber_17 ki_3 ?_)))))
    refine gf_icmple C 23 dX6_readNumber_18 (by decide) (fun _ => ?_) (fun _ => ?_)
    · exact gf_sub [none, none, none, none] trivial (kj2 h)
    · refine gf_aload_n C dX6_readNumber_23 rfl rfl (gf_iconst C dX6_readNumber_24 ki_0 (gf_putI C dX6_readNumber_25 fp_X6_109 s_12 rfl 774 rfl ?_))
      refine gf_jlH (fun h3 => ?_)
      refine gf_aload_n C dX6_readNumber_28 rfl rfl (gf_getI C dX6_readNumber_29 fl_X6_40 s_12 rfl 772 rfl ?_)
      refine gf_jlI (fun x4 => ?_)
      refine gf_istore_n C dX6_readNumber_32 rfl [some (.ref 12), some (.int a1), some (.int a2), some (.int x4)] rfl rfl (Nat.le_of_ble_eq_true rfl) ?_
      refine gf_sub [some (.ref 12), some (.int a1), some (.int a2), some (.int x4)] (And.intro rfl (And.intro rfl (And.intro rfl (And.intro rfl trivial)))) ?_
      refine lp_P (fun (c7 : Int32 → Hp → Option (Int32 × Hp)) => ∀ (v5 : Int32) (h6 : Hp), GF K eI h6 33 [some (.ref 12), some (.int a1), some (.int a2), some (.int v5)] [] (c7 v5 h6)) (fun _ _ => gf_none) (fun c7 kc7 v5 h6 => ?_) x4 h3
      refine gf_iload_n C dX6_readNumber_33 rfl rfl (gf_aload_n C dX6_readNumber_34 rfl rfl (gf_getI C dX6_readNumber_35 fl_X6_30 s_12 rfl 773 rfl ?_))
      refine gf_icmpge C 70 dX6_readNumber_38 (by decide) (fun _ => ?_) (fun _ => ?_)
      · refine gf_aload_n C dX6_readNumber_41 rfl rfl (gf_bipush C dX6_readNumber_42 kb_10 (gf_aload_n C dX6_readNumber_44 rfl rfl (gf_getI C dX6_readNumber_45 fl_X6_109 s_12 rfl 774 rfl (gf_imul C dX6_readNumber_48 (gf_aload_n C dX6_readNumber_49 rfl rfl (gf_getR C dX6_readNumber_50 fl_X6_18 s_12 rfl 1 rfl (gf_iload_n C dX6_readNumber_53 rfl rfl ?_)))))))
        refine gf_callV (ε2 := eI) C [.int v5] dX6_readNumber_54 mw_X10_letterAt ml_X6_48 s_1 (fun rZ hZ eZ => ok_X10_letterAt v5 h6 rZ hZ eZ) rfl rfl rfl (Nat.le_of_ble_eq_true rfl) (Nat.le_of_ble_eq_true rfl) (Nat.le_of_ble_eq_true rfl) (fun r8 h9 => ?_)
        refine gf_iadd C dX6_readNumber_57 (gf_bipush C dX6_readNumber_58 kb_48 (gf_isub C dX6_readNumber_60 (gf_putI C dX6_readNumber_61 fp_X6_109 s_12 rfl 774 rfl ?_)))
        refine gf_jlH (fun h10 => ?_)
        refine gf_iinc C dX6_readNumber_64 rfl (ii_1 _) [some (.ref 12), some (.int a1), some (.int a2), some (.int (v5 + (1 : Int32)))] rfl rfl ?_
        refine gf_goto C 33 dX6_readNumber_67 (by decide) ?_
        exact gf_sub [some (.ref 12), some (.int a1), some (.int a2), some (.int (v5 + (1 : Int32)))] (And.intro rfl (And.intro rfl (And.intro rfl (And.intro rfl trivial)))) (kc7 (v5 + (1 : Int32)) h10)
      · refine gf_aload_n C dX6_readNumber_70 rfl rfl (gf_getI C dX6_readNumber_71 fl_X6_109 s_12 rfl 774 rfl (gf_iload_n C dX6_readNumber_74 rfl rfl ?_))
        refine gf_jn (fun (j12 : Hp → Option (Int32 × Hp)) => ∀ (h11 : Hp), GF K eI h11 86 [none, none, none, none] [] (j12 h11)) ?_ (fun j12 kj12 => ?_)
        · intro h11
          refine gf_iconst C dX6_readNumber_86 ki_0 ?_
          exact gf_zret C dX6_readNumber_87 rfl rfl
        refine gf_icmplt C 86 dX6_readNumber_75 (by decide) (fun _ => ?_) (fun _ => ?_)
        · exact gf_sub [none, none, none, none] trivial (kj12 h6)
        · refine gf_aload_n C dX6_readNumber_78 rfl rfl (gf_getI C dX6_readNumber_79 fl_X6_109 s_12 rfl 774 rfl (gf_iload_n C dX6_readNumber_82 rfl rfl ?_))
          refine gf_icmple C 88 dX6_readNumber_83 (by decide) (fun _ => ?_) (fun _ => ?_)
          · exact gf_sub [none, none, none, none] trivial (kj12 h6)
          · refine gf_aload_n C dX6_readNumber_88 rfl rfl ?_
            refine gf_callV (ε2 := eV) C [] dX6_readNumber_89 mw_X6_step ml_X6_33 s_12 (fun rZ hZ eZ => ok_X6_step  h6 rZ hZ eZ) rfl rfl rfl (Nat.le_of_ble_eq_true rfl) (Nat.le_of_ble_eq_true rfl) (Nat.le_of_ble_eq_true rfl) (fun _ h13 => ?_)
            refine gf_iconst C dX6_readNumber_92 ki_1 ?_
            exact gf_zret C dX6_readNumber_93 rfl rfl
  · exact gf_sub [none, none, none, none] trivial (kj2 h)
def F_X6_readSight (h : Hp) : Option (Int32 × Hp) :=
  bd (F_X6_step h) (fun _ h1 => bd (F_X6_readNumber (0 : Int32) ((sG h1 832) - (1 : Int32)) h1) (fun r2 h3 => if r2 = 0 then (
  some ((0 : Int32), h3)) else (
  jl (sG h3 774) (fun x4 => bd (F_X6_readNumber (0 : Int32) ((sG h3 833) - (1 : Int32)) h3) (fun r5 h6 => if r5 = 0 then (
  some ((0 : Int32), h6)) else (
  jl ((2 : Int32) + (sG h6 774)) (fun x7 => bd (F_X0_mostValue 13 x7 h6) (fun r8 h9 => bd (F_X6_readNumber (0 : Int32) r8 h9) (fun r10 h11 => if r10 = 0 then (
  some ((0 : Int32), h11)) else (
  bd (F_X5_put 15 x4 x7 (sG h11 774) (0 : Int32) h11) (fun _ h12 => some ((1 : Int32), h12))))))))))))
set_option maxRecDepth 100000 in
set_option maxHeartbeats 4000000 in
theorem ok_X6_readSight (h : Hp) (rZ : Int32) (hZ : Hp) (eZ : F_X6_readSight h = some (rZ, hZ)) : AC yX6_readSight cX6_readSight 3 (some .boolean) 3 65 [.ref 12] h (eI rZ) hZ := by
  refine AC_intro (o := F_X6_readSight h) RX6 rfl (plainFor_of_name (by decide)) [some (.ref 12), none, none] rfl (fun _ => rfl) (fun _ => Nat.le_of_ble_eq_true rfl) eZ (fun K C => ?_)
  unfold F_X6_readSight
  refine gf_aload_n C dX6_readSight_0 rfl rfl ?_
  refine gf_callV (ε2 := eV) C [] dX6_readSight_1 mw_X6_step ml_X6_33 s_12 (fun rZ hZ eZ => ok_X6_step  h rZ hZ eZ) rfl rfl rfl (Nat.le_of_ble_eq_true rfl) (Nat.le_of_ble_eq_true rfl) (Nat.le_of_ble_eq_true rfl) (fun _ h1 => ?_)
  refine gf_aload_n C dX6_readSight_4 rfl rfl (gf_iconst C dX6_readSight_5 ki_0 (gf_aload_n C dX6_readSight_6 rfl rfl (gf_getR C dX6_readSight_7 fl_X6_12 s_12 rfl 13 rfl (gf_getI C dX6_readSight_10 fl_X6_121 s_13 rfl 832 rfl (gf_iconst C dX6_readSight_13 ki_1 (gf_isub C dX6_readSight_14 ?_))))))
  refine gf_callV (ε2 := eI) C [.int (0 : Int32), .int ((sG h1 832) - (1 : Int32))] dX6_readSight_15 mw_X6_readNumber ml_X6_105 s_12 (fun rZ hZ eZ => ok_X6_readNumber (0 : Int32) ((sG h1 832) - (1 : Int32)) h1 rZ hZ eZ) rfl rfl rfl (Nat.le_of_ble_eq_true rfl) (Nat.le_of_ble_eq_true rfl) (Nat.le_of_ble_eq_true rfl) (fun r2 h3 => ?_)
  refine gf_ifne C 23 dX6_readSight_18 (by decide) (fun _ => ?_) (fun _ => ?_)
  · refine gf_iconst C dX6_readSight_21 ki_0 ?_
    exact gf_zret C dX6_readSight_22 rfl rfl
  · refine gf_aload_n C dX6_readSight_23 rfl rfl (gf_getI C dX6_readSight_24 fl_X6_109 s_12 rfl 774 rfl ?_)
    refine gf_jlI (fun x4 => ?_)
    refine gf_istore_n C dX6_readSight_27 rfl [some (.ref 12), some (.int x4), none] rfl rfl (Nat.le_of_ble_eq_true rfl) (gf_aload_n C dX6_readSight_28 rfl rfl (gf_iconst C dX6_readSight_29 ki_0 (gf_aload_n C dX6_readSight_30 rfl rfl (gf_getR C dX6_readSight_31 fl_X6_12 s_12 rfl 13 rfl (gf_getI C dX6_readSight_34 fl_X6_135 s_13 rfl 833 rfl (gf_iconst C dX6_readSight_37 ki_1 (gf_isub C dX6_readSight_38 ?_)))))))
    refine gf_callV (ε2 := eI) C [.int (0 : Int32), .int ((sG h3 833) - (1 : Int32))] dX6_readSight_39 mw_X6_readNumber ml_X6_105 s_12 (fun rZ hZ eZ => ok_X6_readNumber (0 : Int32) ((sG h3 833) - (1 : Int32)) h3 rZ hZ eZ) rfl rfl rfl (Nat.le_of_ble_eq_true rfl) (Nat.le_of_ble_eq_true rfl) (Nat.le_of_ble_eq_true rfl) (fun r5 h6 => ?_)
    refine gf_ifne C 47 dX6_readSight_42 (by decide) (fun _ => ?_) (fun _ => ?_)
    · refine gf_iconst C dX6_readSight_45 ki_0 ?_
      exact gf_zret C dX6_readSight_46 rfl rfl
    · refine gf_iconst C dX6_readSight_47 ki_2 (gf_aload_n C dX6_readSight_48 rfl rfl (gf_getI C dX6_readSight_49 fl_X6_109 s_12 rfl 774 rfl (gf_iadd C dX6_readSight_52 ?_)))
      refine gf_jlI (fun x7 => ?_)
      refine gf_istore_n C dX6_readSight_53 rfl [some (.ref 12), some (.int x4), some (.int x7)] rfl rfl (Nat.le_of_ble_eq_true rfl) (gf_aload_n C dX6_readSight_54 rfl rfl (gf_iconst C dX6_readSight_55 ki_0 (gf_aload_n C dX6_readSight_56 rfl rfl (gf_getR C dX6_readSight_57 fl_X6_12 s_12 rfl 13 rfl (gf_iload_n C dX6_readSight_60 rfl rfl ?_)))))
      refine gf_callV (ε2 := eI) C [.int x7] dX6_readSight_61 mw_X0_mostValue ml_X6_152 s_13 (fun rZ hZ eZ => ok_X0_mostValue 13 x7 s_13 h6 rZ hZ eZ) rfl rfl rfl (Nat.le_of_ble_eq_true rfl) (Nat.le_of_ble_eq_true rfl) (Nat.le_of_ble_eq_true rfl) (fun r8 h9 => ?_)
      refine gf_callV (ε2 := eI) C [.int (0 : Int32), .int r8] dX6_readSight_64 mw_X6_readNumber ml_X6_105 s_12 (fun rZ hZ eZ => ok_X6_readNumber (0 : Int32) r8 h9 rZ hZ eZ) rfl rfl rfl (Nat.le_of_ble_eq_true rfl) (Nat.le_of_ble_eq_true rfl) (Nat.le_of_ble_eq_true rfl) (fun r10 h11 => ?_)
      refine gf_ifne C 72 dX6_readSight_67 (by decide) (fun _ => ?_) (fun _ => ?_)
      · refine gf_iconst C dX6_readSight_70 ki_0 ?_
        exact gf_zret C dX6_readSight_71 rfl rfl
      · refine gf_aload_n C dX6_readSight_72 rfl rfl (gf_getR C dX6_readSight_73 fl_X6_12 s_12 rfl 13 rfl (gf_getR C dX6_readSight_76 fl_X6_158 s_13 rfl 15 rfl (gf_iload_n C dX6_readSight_79 rfl rfl (gf_iload_n C dX6_readSight_80 rfl rfl (gf_aload_n C dX6_readSight_81 rfl rfl (gf_getI C dX6_readSight_82 fl_X6_109 s_12 rfl 774 rfl (gf_iconst C dX6_readSight_85 ki_0 ?_)))))))
        refine gf_callV (ε2 := eV) C [.int x4, .int x7, .int (sG h11 774), .int (0 : Int32)] dX6_readSight_86 mw_X5_put ml_X6_162 s_15 (fun rZ hZ eZ => ok_X5_put 15 x4 x7 (sG h11 774) (0 : Int32) s_15 h11 rZ hZ eZ) rfl rfl rfl (Nat.le_of_ble_eq_true rfl) (Nat.le_of_ble_eq_true rfl) (Nat.le_of_ble_eq_true rfl) (fun _ h12 => ?_)
        refine gf_iconst C dX6_readSight_89 ki_1 ?_
        exact gf_zret C dX6_readSight_90 rfl rfl
