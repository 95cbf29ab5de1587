def F_X11_mostSlack (a1 : Int32) (h : Hp) : Option (Int32 × Hp) :=
  if a1 = 0 then (
  some ((9 : Int32), h)) else (
  jn (fun (s1 : Int32) (h2 : Hp) =>
  some (s1, h2)) (fun j3 => if a1 = (1 : Int32) then (
  j3 (99 : Int32) h) else (
  j3 (0 : Int32) h)))
set_option maxRecDepth 100000 in
set_option maxHeartbeats 4000000 in
theorem ok_X11_mostSlack (a1 : Int32) (h : Hp) (rZ : Int32) (hZ : Hp) (eZ : F_X11_mostSlack a1 h = some (rZ, hZ)) : AC yX11_mostSlack cX11_mostSlack 1 (some .int) 0 0 [.int a1] h (eI rZ) hZ := by
  refine AC_intro (o := F_X11_mostSlack a1 h) RX11 rfl (plainFor_of_name (by decide)) [some (.int a1)] rfl (fun _ => rfl) (fun _ => Nat.le_of_ble_eq_true rfl) eZ (fun K C => ?_)
  unfold F_X11_mostSlack
  refine gf_iload_n C dX11_mostSlack_0 rfl rfl ?_
  refine gf_ifne C 7 dX11_mostSlack_1 (by decide) (fun _ => ?_) (fun _ => ?_)
  · refine gf_bipush C dX11_mostSlack_4 kb_9 ?_
    exact gf_iret C dX11_mostSlack_6 rfl
  · refine gf_iload_n C dX11_mostSlack_7 rfl rfl (gf_iconst C dX11_mostSlack_8 ki_1 ?_)
    refine gf_jn (fun (j3 : Int32 → Hp → Option (Int32 × Hp)) => ∀ (s1 : Int32) (h2 : Hp), GF K eI h2 18 [none] [.int s1] (j3 s1 h2)) ?_ (fun j3 kj3 => ?_)
    · intro s1 h2
      exact gf_iret C dX11_mostSlack_18 rfl
    refine gf_icmpne C 17 dX11_mostSlack_9 (by decide) (fun _ => ?_) (fun _ => ?_)
    · refine gf_bipush C dX11_mostSlack_12 kb_99 ?_
      refine gf_goto C 18 dX11_mostSlack_14 (by decide) ?_
      exact gf_sub [none] trivial (kj3 (99 : Int32) h)
    · refine gf_iconst C dX11_mostSlack_17 ki_0 ?_
      exact gf_sub [none] trivial (kj3 (0 : Int32) h)
def F_X6_readShadow (a1 : Int32) (h : Hp) : Option (Int32 × Hp) :=
  bd (F_X6_step h) (fun _ h1 => bd (F_X6_readNumber (0 : Int32) ((sG h1 832) - (1 : Int32)) h1) (fun r2 h3 => if r2 = 0 then (
  some ((0 : Int32), h3)) else (
  jl (sG h3 774) (fun x4 => bd (F_X0_mostValue 13 a1 h3) (fun r5 h6 => bd (F_X6_readNumber (0 : Int32) r5 h6) (fun r7 h8 => if r7 = 0 then (
  some ((0 : Int32), h8)) else (
  jl (sG h8 774) (fun x9 => bd (F_X11_mostSlack a1 h8) (fun r10 h11 => bd (F_X6_readNumber (0 : Int32) r10 h11) (fun r12 h13 => if r12 = 0 then (
  some ((0 : Int32), h13)) else (
  bd (F_X5_put 15 x4 a1 x9 (sG h13 774) h13) (fun _ h14 => some ((1 : Int32), h14)))))))))))))
set_option maxRecDepth 100000 in
set_option maxHeartbeats 4000000 in
theorem ok_X6_readShadow (a1 : Int32) (h : Hp) (rZ : Int32) (hZ : Hp) (eZ : F_X6_readShadow a1 h = some (rZ, hZ)) : AC yX6_readShadow cX6_readShadow 4 (some .boolean) 3 65 [.ref 12, .int a1] h (eI rZ) hZ := by
  refine AC_intro (o := F_X6_readShadow a1 h) RX6 rfl (plainFor_of_name (by decide)) [some (.ref 12), some (.int a1), none, none] rfl (fun _ => rfl) (fun _ => Nat.le_of_ble_eq_true rfl) eZ (fun K C => ?_)
  unfold F_X6_readShadow
  refine gf_aload_n C dX6_readShadow_0 rfl rfl ?_
  refine gf_callV (ε2 := eV) C [] dX6_readShadow_1 mw_X6_step ml_X6_33 s_12 (fun rZ hZ eZ => ok_X6_step  h rZ hZ eZ) rfl rfl rfl (Nat.le_of_ble_eq_true rfl) (Nat.le_of_ble_eq_true rfl) (Nat.le_of_ble_eq_true rfl) (fun _ h1 => ?_)
  refine gf_aload_n C dX6_readShadow_4 rfl rfl (gf_iconst C dX6_readShadow_5 ki_0 (gf_aload_n C dX6_readShadow_6 rfl rfl (gf_getR C dX6_readShadow_7 fl_X6_12 s_12 rfl 13 rfl (gf_getI C dX6_readShadow_10 fl_X6_121 s_13 rfl 832 rfl (gf_iconst C dX6_readShadow_13 ki_1 (gf_isub C dX6_readShadow_14 ?_))))))
  refine gf_callV (ε2 := eI) C [.int (0 : Int32), .int ((sG h1 832) - (1 : Int32))] dX6_readShadow_15 mw_X6_readNumber ml_X6_105 s_12 (fun rZ hZ eZ => ok_X6_readNumber (0 : Int32) ((sG h1 832) - (1 : Int32)) h1 rZ hZ eZ) rfl rfl rfl (Nat.le_of_ble_eq_true rfl) (Nat.le_of_ble_eq_true rfl) (Nat.le_of_ble_eq_true rfl) (fun r2 h3 => ?_)
  refine gf_ifne C 23 dX6_readShadow_18 (by decide) (fun _ => ?_) (fun _ => ?_)
  · refine gf_iconst C dX6_readShadow_21 ki_0 ?_
    exact gf_zret C dX6_readShadow_22 rfl rfl
  · refine gf_aload_n C dX6_readShadow_23 rfl rfl (gf_getI C dX6_readShadow_24 fl_X6_109 s_12 rfl 774 rfl ?_)
    refine gf_jlI (fun x4 => ?_)
    refine gf_istore_n C dX6_readShadow_27 rfl [some (.ref 12), some (.int a1), some (.int x4), none] rfl rfl (Nat.le_of_ble_eq_true rfl) (gf_aload_n C dX6_readShadow_28 rfl rfl (gf_iconst C dX6_readShadow_29 ki_0 (gf_aload_n C dX6_readShadow_30 rfl rfl (gf_getR C dX6_readShadow_31 fl_X6_12 s_12 rfl 13 rfl (gf_iload_n C dX6_readShadow_34 rfl rfl ?_)))))
    refine gf_callV (ε2 := eI) C [.int a1] dX6_readShadow_35 mw_X0_mostValue ml_X6_152 s_13 (fun rZ hZ eZ => ok_X0_mostValue 13 a1 s_13 h3 rZ hZ eZ) rfl rfl rfl (Nat.le_of_ble_eq_true rfl) (Nat.le_of_ble_eq_true rfl) (Nat.le_of_ble_eq_true rfl) (fun r5 h6 => ?_)
    refine gf_callV (ε2 := eI) C [.int (0 : Int32), .int r5] dX6_readShadow_38 mw_X6_readNumber ml_X6_105 s_12 (fun rZ hZ eZ => ok_X6_readNumber (0 : Int32) r5 h6 rZ hZ eZ) rfl rfl rfl (Nat.le_of_ble_eq_true rfl) (Nat.le_of_ble_eq_true rfl) (Nat.le_of_ble_eq_true rfl) (fun r7 h8 => ?_)
    refine gf_ifne C 46 dX6_readShadow_41 (by decide) (fun _ => ?_) (fun _ => ?_)
    · refine gf_iconst C dX6_readShadow_44 ki_0 ?_
      exact gf_zret C dX6_readShadow_45 rfl rfl
    · refine gf_aload_n C dX6_readShadow_46 rfl rfl (gf_getI C dX6_readShadow_47 fl_X6_109 s_12 rfl 774 rfl ?_)
      refine gf_jlI (fun x9 => ?_)
      refine gf_istore_n C dX6_readShadow_50 rfl [some (.ref 12), some (.int a1), some (.int x4), some (.int x9)] rfl rfl (Nat.le_of_ble_eq_true rfl) (gf_aload_n C dX6_readShadow_51 rfl rfl (gf_iconst C dX6_readShadow_52 ki_0 (gf_iload_n C dX6_readShadow_53 rfl rfl ?_)))
      refine gf_callSN (ε2 := eI) C [.int a1] dX6_readShadow_54 mw_X11_mostSlack ml_X6_155 (fun rZ hZ eZ => ok_X11_mostSlack a1 h8 rZ hZ eZ) rfl rfl rfl (Nat.le_of_ble_eq_true rfl) (Nat.le_of_ble_eq_true rfl) (Nat.le_of_ble_eq_true rfl) (fun r10 h11 => ?_)
      refine gf_callV (ε2 := eI) C [.int (0 : Int32), .int r10] dX6_readShadow_57 mw_X6_readNumber ml_X6_105 s_12 (fun rZ hZ eZ => ok_X6_readNumber (0 : Int32) r10 h11 rZ hZ eZ) rfl rfl rfl (Nat.le_of_ble_eq_true rfl) (Nat.le_of_ble_eq_true rfl) (Nat.le_of_ble_eq_true rfl) (fun r12 h13 => ?_)
      refine gf_ifne C 65 dX6_readShadow_60 (by decide) (fun _ => ?_) (fun _ => ?_)
      · refine gf_iconst C dX6_readShadow_63 ki_0 ?_
        exact gf_zret C dX6_readShadow_64 rfl rfl
      · refine gf_aload_n C dX6_readShadow_65 rfl rfl (gf_getR C dX6_readShadow_66 fl_X6_12 s_12 rfl 13 rfl (gf_getR C dX6_readShadow_69 fl_X6_158 s_13 rfl 15 rfl (gf_iload_n C dX6_readShadow_72 rfl rfl (gf_iload_n C dX6_readShadow_73 rfl rfl (gf_iload_n C dX6_readShadow_74 rfl rfl (gf_aload_n C dX6_readShadow_75 rfl rfl (gf_getI C dX6_readShadow_76 fl_X6_109 s_12 rfl 774 rfl ?_)))))))
        refine gf_callV (ε2 := eV) C [.int x4, .int a1, .int x9, .int (sG h13 774)] dX6_readShadow_79 mw_X5_put ml_X6_162 s_15 (fun rZ hZ eZ => ok_X5_put 15 x4 a1 x9 (sG h13 774) s_15 h13 rZ hZ eZ) rfl rfl rfl (Nat.le_of_ble_eq_true rfl) (Nat.le_of_ble_eq_true rfl) (Nat.le_of_ble_eq_true rfl) (fun _ h14 => ?_)
        refine gf_iconst C dX6_readShadow_82 ki_1 ?_
        exact gf_zret C dX6_readShadow_83 rfl rfl
def F_X6_thingKindNamed (h : Hp) : Option (Int32 × Hp) :=
  bd (F_X6_is 4 h) (fun r1 h2 => if r1 = 0 then (
  bd (F_X6_is 5 h2) (fun r3 h4 => if r3 = 0 then (
  bd (F_X6_is 6 h4) (fun r5 h6 => if r5 = 0 then (
  bd (F_X6_is 7 h6) (fun r7 h8 => jn (fun (s9 : Int32) (h10 : Hp) =>
  some (s9, h10)) (fun j11 => if r7 = 0 then (
  j11 (-1 : Int32) h8) else (
  j11 (3 : Int32) h8)))) else (
  some ((2 : Int32), h6)))) else (
  some ((1 : Int32), h4)))) else (
  some ((0 : Int32), h2)))
set_option maxRecDepth 100000 in
set_option maxHeartbeats 4000000 in
theorem ok_X6_thingKindNamed (h : Hp) (rZ : Int32) (hZ : Hp) (eZ : F_X6_thingKindNamed h = some (rZ, hZ)) : AC yX6_thingKindNamed cX6_thingKindNamed 1 (some .int) 5 107 [.ref 12] h (eI rZ) hZ := by
  refine AC_intro (o := F_X6_thingKindNamed h) RX6 rfl (plainFor_of_name (by decide)) [some (.ref 12)] rfl (fun _ => rfl) (fun _ => Nat.le_of_ble_eq_true rfl) eZ (fun K C => ?_)
  unfold F_X6_thingKindNamed
  refine gf_aload_n C dX6_thingKindNamed_0 rfl rfl (gf_ldcS C dX6_thingKindNamed_1 (i := 4) (by decide) rfl ?_)
  refine gf_callV (ε2 := eI) C [.ref (1000 + 4)] dX6_thingKindNamed_3 mw_X6_is ml_X6_57 s_12 (fun rZ hZ eZ => ok_X6_is 4 (by decide) h rZ hZ eZ) rfl rfl rfl (Nat.le_of_ble_eq_true rfl) (Nat.le_of_ble_eq_true rfl) (Nat.le_of_ble_eq_true rfl) (fun r1 h2 => ?_)
  refine gf_ifeq C 11 dX6_thingKindNamed_6 (by decide) (fun _ => ?_) (fun _ => ?_)
  · refine gf_aload_n C dX6_thingKindNamed_11 rfl rfl (gf_ldcS C dX6_thingKindNamed_12 (i := 5) (by decide) rfl ?_)
    refine gf_callV (ε2 := eI) C [.ref (1000 + 5)] dX6_thingKindNamed_14 mw_X6_is ml_X6_57 s_12 (fun rZ hZ eZ => ok_X6_is 5 (by decide) h2 rZ hZ eZ) rfl rfl rfl (Nat.le_of_ble_eq_true rfl) (Nat.le_of_ble_eq_true rfl) (Nat.le_of_ble_eq_true rfl) (fun r3 h4 => ?_)
    refine gf_ifeq C 22 dX6_thingKindNamed_17 (by decide) (fun _ => ?_) (fun _ => ?_)
    · refine gf_aload_n C dX6_thingKindNamed_22 rfl rfl (gf_ldcS C dX6_thingKindNamed_23 (i := 6) (by decide) rfl ?_)
      refine gf_callV (ε2 := eI) C [.ref (1000 + 6)] dX6_thingKindNamed_25 mw_X6_is ml_X6_57 s_12 (fun rZ hZ eZ => ok_X6_is 6 (by decide) h4 rZ hZ eZ) rfl rfl rfl (Nat.le_of_ble_eq_true rfl) (Nat.le_of_ble_eq_true rfl) (Nat.le_of_ble_eq_true rfl) (fun r5 h6 => ?_)
      refine gf_ifeq C 33 dX6_thingKindNamed_28 (by decide) (fun _ => ?_) (fun _ => ?_)
      · refine gf_aload_n C dX6_thingKindNamed_33 rfl rfl (gf_ldcS C dX6_thingKindNamed_34 (i := 7) (by decide) rfl ?_)
        refine gf_callV (ε2 := eI) C [.ref (1000 + 7)] dX6_thingKindNamed_36 mw_X6_is ml_X6_57 s_12 (fun rZ hZ eZ => ok_X6_is 7 (by decide) h6 rZ hZ eZ) rfl rfl rfl (Nat.le_of_ble_eq_true rfl) (Nat.le_of_ble_eq_true rfl) (Nat.le_of_ble_eq_true rfl) (fun r7 h8 => ?_)
        refine gf_jn (fun (j11 : Int32 → Hp → Option (Int32 × Hp)) => ∀ (s9 : Int32) (h10 : Hp), GF K eI h10 47 [none] [.int s9] (j11 s9 h10)) ?_ (fun j11 kj11 => ?_)
        · intro s9 h10
          exact gf_iret C dX6_thingKindNamed_47 rfl
        refine gf_ifeq C 46 dX6_thingKindNamed_39 (by decide) (fun _ => ?_) (fun _ => ?_)
        · refine gf_iconst C dX6_thingKindNamed_46 ki_m1 ?_
          exact gf_sub [none] trivial (kj11 (-1 : Int32) h8)
        · refine gf_iconst C dX6_thingKindNamed_42 ki_3 ?_
          refine gf_goto C 47 dX6_thingKindNamed_43 (by decide) ?_
          exact gf_sub [none] trivial (kj11 (3 : Int32) h8)
      · refine gf_iconst C dX6_thingKindNamed_31 ki_2 ?_
        exact gf_iret C dX6_thingKindNamed_32 rfl
    · refine gf_iconst C dX6_thingKindNamed_20 ki_1 ?_
      exact gf_iret C dX6_thingKindNamed_21 rfl
  · refine gf_iconst C dX6_thingKindNamed_9 ki_0 ?_
    exact gf_iret C dX6_thingKindNamed_10 rfl
def F_X6_readThing (h : Hp) : Option (Int32 × Hp) :=
  if (sG h 833) < (6 : Int32) then (
  bd (F_X6_step h) (fun _ h1 => bd (F_X6_thingKindNamed h1) (fun r2 h3 => if r2 = (-1 : Int32) then (
  some ((0 : Int32), h3)) else (
  bd (F_X0_addThing 13 r2 h3) (fun _ h4 => bd (F_X6_step h4) (fun _ h5 => some ((1 : Int32), h5))))))) else (
  some ((0 : Int32), h))
set_option maxRecDepth 100000 in
set_option maxHeartbeats 4000000 in
theorem ok_X6_readThing (h : Hp) (rZ : Int32) (hZ : Hp) (eZ : F_X6_readThing h = some (rZ, hZ)) : AC yX6_readThing cX6_readThing 2 (some .boolean) 6 127 [.ref 12] h (eI rZ) hZ := by
  refine AC_intro (o := F_X6_readThing h) RX6 rfl (plainFor_of_name (by decide)) [some (.ref 12), none] rfl (fun _ => rfl) (fun _ => Nat.le_of_ble_eq_true rfl) eZ (fun K C => ?_)
  unfold F_X6_readThing
  refine gf_aload_n C dX6_readThing_0 rfl rfl (gf_getR C dX6_readThing_1 fl_X6_12 s_12 rfl 13 rfl (gf_getI C dX6_readThing_4 fl_X6_135 s_13 rfl 833 rfl (gf_bipush C dX6_readThing_7 kb_6 ?_)))
  refine gf_icmplt C 14 dX6_readThing_9 (by decide) (fun _ => ?_) (fun _ => ?_)
  · refine gf_aload_n C dX6_readThing_14 rfl rfl ?_
    refine gf_callV (ε2 := eV) C [] dX6_readThing_15 mw_X6_step ml_X6_33 s_12 (fun rZ hZ eZ => ok_X6_step  h rZ hZ eZ) rfl rfl rfl (Nat.le_of_ble_eq_true rfl) (Nat.le_of_ble_eq_true rfl) (Nat.le_of_ble_eq_true rfl) (fun _ h1 => ?_)
    refine gf_aload_n C dX6_readThing_18 rfl rfl ?_
    refine gf_callV (ε2 := eI) C [] dX6_readThing_19 mw_X6_thingKindNamed ml_X6_138 s_12 (fun rZ hZ eZ => ok_X6_thingKindNamed  h1 rZ hZ eZ) rfl rfl rfl (Nat.le_of_ble_eq_true rfl) (Nat.le_of_ble_eq_true rfl) (Nat.le_of_ble_eq_true rfl) (fun r2 h3 => ?_)
    refine gf_istore_n C dX6_readThing_22 rfl [some (.ref 12), some (.int r2)] rfl rfl (Nat.le_of_ble_eq_true rfl) (gf_iload_n C dX6_readThing_23 rfl rfl (gf_iconst C dX6_readThing_24 ki_m1 ?_))
    refine gf_icmpne C 30 dX6_readThing_25 (by decide) (fun _ => ?_) (fun _ => ?_)
    · refine gf_iconst C dX6_readThing_28 ki_0 ?_
      exact gf_zret C dX6_readThing_29 rfl rfl
    · refine gf_aload_n C dX6_readThing_30 rfl rfl (gf_getR C dX6_readThing_31 fl_X6_12 s_12 rfl 13 rfl (gf_iload_n C dX6_readThing_34 rfl rfl ?_))
      refine gf_callV (ε2 := eV) C [.int r2] dX6_readThing_35 mw_X0_addThing ml_X6_141 s_13 (fun rZ hZ eZ => ok_X0_addThing 13 r2 s_13 h3 rZ hZ eZ) rfl rfl rfl (Nat.le_of_ble_eq_true rfl) (Nat.le_of_ble_eq_true rfl) (Nat.le_of_ble_eq_true rfl) (fun _ h4 => ?_)
      refine gf_aload_n C dX6_readThing_38 rfl rfl ?_
      refine gf_callV (ε2 := eV) C [] dX6_readThing_39 mw_X6_step ml_X6_33 s_12 (fun rZ hZ eZ => ok_X6_step  h4 rZ hZ eZ) rfl rfl rfl (Nat.le_of_ble_eq_true rfl) (Nat.le_of_ble_eq_true rfl) (Nat.le_of_ble_eq_true rfl) (fun _ h5 => ?_)
      refine gf_iconst C dX6_readThing_42 ki_1 ?_
      exact gf_zret C dX6_readThing_43 rfl rfl
  · refine gf_iconst C dX6_readThing_12 ki_0 ?_
    exact gf_zret C dX6_readThing_13 rfl rfl
def F_X11_lengthened (a1 : Int32) (a2 : Int32) (h : Hp) : Option (Int32 × Hp) :=
  some ((a1 <<< ((5 : Int32) &&& 31)) ||| ((a2 - (97 : Int32)) + (1 : Int32)), h)
set_option maxRecDepth 100000 in
set_option maxHeartbeats 4000000 in
theorem ok_X11_lengthened (a1 : Int32) (a2 : Int32) (h : Hp) (rZ : Int32) (hZ : Hp) (eZ : F_X11_lengthened a1 a2 h = some (rZ, hZ)) : AC yX11_lengthened cX11_lengthened 2 (some .int) 0 0 [.int a1, .int a2] h (eI rZ) hZ := by
  refine AC_intro (o := F_X11_lengthened a1 a2 h) RX11 rfl (plainFor_of_name (by decide)) [some (.int a1), some (.int a2)] rfl (fun _ => rfl) (fun _ => Nat.le_of_ble_eq_true rfl) eZ (fun K C => ?_)
  unfold F_X11_lengthened
  refine gf_iload_n C dX11_lengthened_0 rfl rfl (gf_iconst C dX11_lengthened_1 ki_5 (gf_ishl C dX11_lengthened_2 (gf_iload_n C dX11_lengthened_3 rfl rfl (gf_bipush C dX11_lengthened_4 kb_97 (gf_isub C dX11_lengthened_6 (gf_iconst C dX11_lengthened_7 ki_1 (gf_iadd C dX11_lengthened_8 ?_)))))))
  refine gf_ior C dX11_lengthened_9 ?_
  exact gf_iret C dX11_lengthened_10 rfl
def F_X6_readPicture (h : Hp) : Option (Int32 × Hp) :=
  if (sG h 832) < (7 : Int32) then (
  bd (F_X6_step h) (fun _ h1 => jn (fun (h2 : Hp) =>
  some ((0 : Int32), h2)) (fun j3 => if (sG h1 771) = (1 : Int32) then (
  if (5 : Int32) < ((sG h1 773) - (sG h1 772)) then (
  j3 h1) else (
  jl (sG h1 772) (fun x4 => (lp 4000000000 (fun (c8 : Int32 → Int32 → Hp → Option (Int32 × Hp)) (v5 : Int32) (v6 : Int32) (h7 : Hp) =>
  if v6 < (sG h7 773) then (
  bd (F_X10_letterAt v6 h7) (fun r9 h10 => bd (F_X11_lengthened v5 r9 h10) (fun r11 h12 => c8 r11 (v6 + (1 : Int32)) h12))) else (
  bd (F_X0_pictureNamed 13 v5 h7) (fun r13 h14 => if r13 = (-1 : Int32) then (
  bd (F_X0_addPicture 13 v5 h14) (fun _ h15 => bd (F_X6_step h15) (fun _ h16 => some ((1 : Int32), h16)))) else (
  some ((0 : Int32), h14))))) (fun _ _ _ => none)) (0 : Int32) x4 h1))) else (
  j3 h1)))) else (
  some ((0 : Int32), h))
set_option maxRecDepth 100000 in
set_option maxHeartbeats 4000000 in
theorem ok_X6_readPicture (h : Hp) (rZ : Int32) (hZ : Hp) (eZ : F_X6_readPicture h = some (rZ, hZ)) : AC yX6_readPicture cX6_readPicture 3 (some .boolean) 2 42 [.ref 12] h (eI rZ) hZ := by
  refine AC_intro (o := F_X6_readPicture h) RX6 rfl (plainFor_of_name (by decide)) [some (.ref 12), none, none] rfl (fun _ => rfl) (fun _ => Nat.le_of_ble_eq_true rfl) eZ (fun K C => ?_)
  unfold F_X6_readPicture
  refine gf_aload_n C dX6_readPicture_0 rfl rfl (gf_getR C dX6_readPicture_1 fl_X6_12 s_12 rfl 13 rfl (gf_getI C dX6_readPicture_4 fl_X6_121 s_13 rfl 832 rfl (gf_bipush C dX6_readPicture_7 kb_7 ?_)))
  refine gf_icmplt C 14 dX6_readPicture_9 (by decide) (fun _ => ?_) (fun _ => ?_)
  · refine gf_aload_n C dX6_readPicture_14 rfl rfl ?_
    refine gf_callV (ε2 := eV) C [] dX6_readPicture_15 mw_X6_step ml_X6_33 s_12 (fun rZ hZ eZ => ok_X6_step  h rZ hZ eZ) rfl rfl rfl (Nat.le_of_ble_eq_true rfl) (Nat.le_of_ble_eq_true rfl) (Nat.le_of_ble_eq_true rfl) (fun _ h1 => ?_)
    refine gf_aload_n C dX6_readPicture_18 rfl rfl (gf_getI C dX6_readPicture_19 fl_X6_43 s_12 rfl 771 rfl (gf_iconst C dX6_readPicture_22 ki_1 ?_))
    refine gf_jn (fun (j3 : Hp → Option (Int32 × Hp)) => ∀ (h2 : Hp), GF K eI h2 39 [none, none, none] [] (j3 h2)) ?_ (fun j3 kj3 => ?_)
    · intro h2
      refine gf_iconst C dX6_readPicture_39 ki_0 ?_
      exact gf_zret C dX6_readPicture_40 rfl rfl
    refine gf_icmpne C 39 dX6_readPicture_23 (by decide) (fun _ => ?_) (fun _ => ?_)
    · refine gf_aload_n C dX6_readPicture_26 rfl rfl (gf_getI C dX6_readPicture_27 fl_X6_30 s_12 rfl 773 rfl (gf_aload_n C dX6_readPicture_30 rfl rfl (gf_getI C dX6_readPicture_31 fl_X6_40 s_12 rfl 772 rfl (gf_isub C dX6_readPicture_34 (gf_iconst C dX6_readPicture_35 ki_5 ?_)))))
      refine gf_icmple C 41 dX6_readPicture_36 (by decide) (fun _ => ?_) (fun _ => ?_)
      · exact gf_sub [none, none, none] trivial (kj3 h1)
      · refine gf_iconst C dX6_readPicture_41 ki_0 (gf_istore_n C dX6_readPicture_42 rfl [some (.ref 12), some (.int (0 : Int32)), none] rfl rfl (Nat.le_of_ble_eq_true rfl) (gf_aload_n C dX6_readPicture_43 rfl rfl (gf_getI C dX6_readPicture_44 fl_X6_40 s_12 rfl 772 rfl ?_)))
        refine gf_jlI (fun x4 => ?_)
        refine gf_istore_n C dX6_readPicture_47 rfl [some (.ref 12), some (.int (0 : Int32)), some (.int x4)] rfl rfl (Nat.le_of_ble_eq_true rfl) ?_
        refine gf_sub [some (.ref 12), some (.int (0 : Int32)), some (.int x4)] (And.intro rfl (And.intro rfl (And.intro rfl trivial))) ?_
        refine lp_P (fun (c8 : Int32 → Int32 → Hp → Option (Int32 × Hp)) => ∀ (v5 : Int32) (v6 : Int32) (h7 : Hp), GF K eI h7 48 [some (.ref 12), some (.int v5), some (.int v6)] [] (c8 v5 v6 h7)) (fun _ _ _ => gf_none) (fun c8 kc8 v5 v6 h7 => ?_) (0 : Int32) x4 h1
        refine gf_iload_n C dX6_readPicture_48 rfl rfl (gf_aload_n C dX6_readPicture_49 rfl rfl (gf_getI C dX6_readPicture_50 fl_X6_30 s_12 rfl 773 rfl ?_))
        refine gf_icmpge C 75 dX6_readPicture_53 (by decide) (fun _ => ?_) (fun _ => ?_)
        · refine gf_iload_n C dX6_readPicture_56 rfl rfl (gf_aload_n C dX6_readPicture_57 rfl rfl (gf_getR C dX6_readPicture_58 fl_X6_18 s_12 rfl 1 rfl (gf_iload_n C dX6_readPicture_61 rfl rfl ?_)))
          refine gf_callV (ε2 := eI) C [.int v6] dX6_readPicture_62 mw_X10_letterAt ml_X6_48 s_1 (fun rZ hZ eZ => ok_X10_letterAt v6 h7 rZ hZ eZ) rfl rfl rfl (Nat.le_of_ble_eq_true rfl) (Nat.le_of_ble_eq_true rfl) (Nat.le_of_ble_eq_true rfl) (fun r9 h10 => ?_)
          refine gf_callSN (ε2 := eI) C [.int v5, .int r9] dX6_readPicture_65 mw_X11_lengthened ml_X6_124 (fun rZ hZ eZ => ok_X11_lengthened v5 r9 h10 rZ hZ eZ) rfl rfl rfl (Nat.le_of_ble_eq_true rfl) (Nat.le_of_ble_eq_true rfl) (Nat.le_of_ble_eq_true rfl) (fun r11 h12 => ?_)
          refine gf_istore_n C dX6_readPicture_68 rfl [some (.ref 12), some (.int r11), some (.int v6)] rfl rfl (Nat.le_of_ble_eq_true rfl) (gf_iinc C dX6_readPicture_69 rfl (ii_1 _) [some (.ref 12), some (.int r11), some (.int (v6 + (1 : Int32)))] rfl rfl ?_)
          refine gf_goto C 48 dX6_readPicture_72 (by decide) ?_
          exact gf_sub [some (.ref 12), some (.int r11), some (.int (v6 + (1 : Int32)))] (And.intro rfl (And.intro rfl (And.intro rfl trivial))) (kc8 r11 (v6 + (1 : Int32)) h12)
        · refine gf_aload_n C dX6_readPicture_75 rfl rfl (gf_getR C dX6_readPicture_76 fl_X6_12 s_12 rfl 13 rfl (gf_iload_n C dX6_readPicture_79 rfl rfl ?_))
          refine gf_callV (ε2 := eI) C [.int v5] dX6_readPicture_80 mw_X0_pictureNamed ml_X6_128 s_13 (fun rZ hZ eZ => ok_X0_pictureNamed 13 v5 s_13 h7 rZ hZ eZ) rfl rfl rfl (Nat.le_of_ble_eq_true rfl) (Nat.le_of_ble_eq_true rfl) (Nat.le_of_ble_eq_true rfl) (fun r13 h14 => ?_)
          refine gf_iconst C dX6_readPicture_83 ki_m1 ?_
          refine gf_icmpeq C 89 dX6_readPicture_84 (by decide) (fun _ => ?_) (fun _ => ?_)
          · refine gf_aload_n C dX6_readPicture_89 rfl rfl (gf_getR C dX6_readPicture_90 fl_X6_12 s_12 rfl 13 rfl (gf_iload_n C dX6_readPicture_93 rfl rfl ?_))
            refine gf_callV (ε2 := eV) C [.int v5] dX6_readPicture_94 mw_X0_addPicture ml_X6_131 s_13 (fun rZ hZ eZ => ok_X0_addPicture 13 v5 s_13 h14 rZ hZ eZ) rfl rfl rfl (Nat.le_of_ble_eq_true rfl) (Nat.le_of_ble_eq_true rfl) (Nat.le_of_ble_eq_true rfl) (fun _ h15 => ?_)
            refine gf_aload_n C dX6_readPicture_97 rfl rfl ?_
            refine gf_callV (ε2 := eV) C [] dX6_readPicture_98 mw_X6_step ml_X6_33 s_12 (fun rZ hZ eZ => ok_X6_step  h15 rZ hZ eZ) rfl rfl rfl (Nat.le_of_ble_eq_true rfl) (Nat.le_of_ble_eq_true rfl) (Nat.le_of_ble_eq_true rfl) (fun _ h16 => ?_)
            refine gf_iconst C dX6_readPicture_101 ki_1 ?_
            exact gf_zret C dX6_readPicture_102 rfl rfl
          · refine gf_iconst C dX6_readPicture_87 ki_0 ?_
            exact gf_zret C dX6_readPicture_88 rfl rfl
    · exact gf_sub [none, none, none] trivial (kj3 h1)
  · refine gf_iconst C dX6_readPicture_12 ki_0 ?_
    exact gf_zret C dX6_readPicture_13 rfl rfl
def F_X6_readSun (h : Hp) : Option (Int32 × Hp) :=
  bd (F_X6_step h) (fun _ h1 => bd (F_X6_readNumber (18 : Int32) (30 : Int32) h1) (fun r2 h3 => if r2 = 0 then (
  some ((0 : Int32), h3)) else (
  jl (sG h3 774) (fun x4 => bd (F_X6_readNumber (1 : Int32) (9 : Int32) h3) (fun r5 h6 => if r5 = 0 then (
  some ((0 : Int32), h6)) else (
  jl (sG h6 774) (fun x7 => bd (F_X6_readNumber (1 : Int32) (40 : Int32) h6) (fun r8 h9 => if r8 = 0 then (
  some ((0 : Int32), h9)) else (
  bd (F_X9_become 14 x4 x7 (sG h9 774) h9) (fun _ h10 => some ((1 : Int32), h10)))))))))))
set_option maxRecDepth 100000 in
set_option maxHeartbeats 4000000 in
theorem ok_X6_readSun (h : Hp) (rZ : Int32) (hZ : Hp) (eZ : F_X6_readSun h = some (rZ, hZ)) : AC yX6_readSun cX6_readSun 3 (some .boolean) 3 65 [.ref 12] h (eI rZ) hZ := by
  refine AC_intro (o := F_X6_readSun h) RX6 rfl (plainFor_of_name (by decide)) [some (.ref 12), none, none] rfl (fun _ => rfl) (fun _ => Nat.le_of_ble_eq_true rfl) eZ (fun K C => ?_)
  unfold F_X6_readSun
  refine gf_aload_n C dX6_readSun_0 rfl rfl ?_
  refine gf_callV (ε2 := eV) C [] dX6_readSun_1 mw_X6_step ml_X6_33 s_12 (fun rZ hZ eZ => ok_X6_step  h rZ hZ eZ) rfl rfl rfl (Nat.le_of_ble_eq_true rfl) (Nat.le_of_ble_eq_true rfl) (Nat.le_of_ble_eq_true rfl) (fun _ h1 => ?_)
  refine gf_aload_n C dX6_readSun_4 rfl rfl (gf_bipush C dX6_readSun_5 kb_18 (gf_bipush C dX6_readSun_7 kb_30 ?_))
  refine gf_callV (ε2 := eI) C [.int (18 : Int32), .int (30 : Int32)] dX6_readSun_9 mw_X6_readNumber ml_X6_105 s_12 (fun rZ hZ eZ => ok_X6_readNumber (18 : Int32) (30 : Int32) h1 rZ hZ eZ) rfl rfl rfl (Nat.le_of_ble_eq_true rfl) (Nat.le_of_ble_eq_true rfl) (Nat.le_of_ble_eq_true rfl) (fun r2 h3 => ?_)
  refine gf_ifne C 17 dX6_readSun_12 (by decide) (fun _ => ?_) (fun _ => ?_)
  · refine gf_iconst C dX6_readSun_15 ki_0 ?_
    exact gf_zret C dX6_readSun_16 rfl rfl
  · refine gf_aload_n C dX6_readSun_17 rfl rfl (gf_getI C dX6_readSun_18 fl_X6_109 s_12 rfl 774 rfl ?_)
    refine gf_jlI (fun x4 => ?_)
    refine gf_istore_n C dX6_readSun_21 rfl [some (.ref 12), some (.int x4), none] rfl rfl (Nat.le_of_ble_eq_true rfl) (gf_aload_n C dX6_readSun_22 rfl rfl (gf_iconst C dX6_readSun_23 ki_1 (gf_bipush C dX6_readSun_24 kb_9 ?_)))
    refine gf_callV (ε2 := eI) C [.int (1 : Int32), .int (9 : Int32)] dX6_readSun_26 mw_X6_readNumber ml_X6_105 s_12 (fun rZ hZ eZ => ok_X6_readNumber (1 : Int32) (9 : Int32) h3 rZ hZ eZ) rfl rfl rfl (Nat.le_of_ble_eq_true rfl) (Nat.le_of_ble_eq_true rfl) (Nat.le_of_ble_eq_true rfl) (fun r5 h6 => ?_)
    refine gf_ifne C 34 dX6_readSun_29 (by decide) (fun _ => ?_) (fun _ => ?_)
    · refine gf_iconst C dX6_readSun_32 ki_0 ?_
      exact gf_zret C dX6_readSun_33 rfl rfl
    · refine gf_aload_n C dX6_readSun_34 rfl rfl (gf_getI C dX6_readSun_35 fl_X6_109 s_12 rfl 774 rfl ?_)
      refine gf_jlI (fun x7 => ?_)
      refine gf_istore_n C dX6_readSun_38 rfl [some (.ref 12), some (.int x4), some (.int x7)] rfl rfl (Nat.le_of_ble_eq_true rfl) (gf_aload_n C dX6_readSun_39 rfl rfl (gf_iconst C dX6_readSun_40 ki_1 (gf_bipush C dX6_readSun_41 kb_40 ?_)))
      refine gf_callV (ε2 := eI) C [.int (1 : Int32), .int (40 : Int32)] dX6_readSun_43 mw_X6_readNumber ml_X6_105 s_12 (fun rZ hZ eZ => ok_X6_readNumber (1 : Int32) (40 : Int32) h6 rZ hZ eZ) rfl rfl rfl (Nat.le_of_ble_eq_true rfl) (Nat.le_of_ble_eq_true rfl) (Nat.le_of_ble_eq_true rfl) (fun r8 h9 => ?_)
      refine gf_ifne C 51 dX6_readSun_46 (by decide) (fun _ => ?_) (fun _ => ?_)
      · refine gf_iconst C dX6_readSun_49 ki_0 ?_
        exact gf_zret C dX6_readSun_50 rfl rfl
      · refine gf_aload_n C dX6_readSun_51 rfl rfl (gf_getR C dX6_readSun_52 fl_X6_12 s_12 rfl 13 rfl (gf_getR C dX6_readSun_55 fl_X6_112 s_13 rfl 14 rfl (gf_iload_n C dX6_readSun_58 rfl rfl (gf_iload_n C dX6_readSun_59 rfl rfl (gf_aload_n C dX6_readSun_60 rfl rfl (gf_getI C dX6_readSun_61 fl_X6_109 s_12 rfl 774 rfl ?_))))))
        refine gf_callV (ε2 := eV) C [.int x4, .int x7, .int (sG h9 774)] dX6_readSun_64 mw_X9_become ml_X6_115 s_14 (fun rZ hZ eZ => ok_X9_become 14 x4 x7 (sG h9 774) s_14 h9 rZ hZ eZ) rfl rfl rfl (Nat.le_of_ble_eq_true rfl) (Nat.le_of_ble_eq_true rfl) (Nat.le_of_ble_eq_true rfl) (fun _ h10 => ?_)
        refine gf_iconst C dX6_readSun_67 ki_1 ?_
        exact gf_zret C dX6_readSun_68 rfl rfl
def F_X6_readAlbum (h : Hp) : Option (Int32 × Hp) :=
  bd (F_X0_clear 13 h) (fun _ h1 => bd (F_X6_step h1) (fun _ h2 => some ((1 : Int32), h2)))
set_option maxRecDepth 100000 in
set_option maxHeartbeats 4000000 in
theorem ok_X6_readAlbum (h : Hp) (rZ : Int32) (hZ : Hp) (eZ : F_X6_readAlbum h = some (rZ, hZ)) : AC yX6_readAlbum cX6_readAlbum 1 (some .boolean) 3 63 [.ref 12] h (eI rZ) hZ := by
  refine AC_intro (o := F_X6_readAlbum h) RX6 rfl (plainFor_of_name (by decide)) [some (.ref 12)] rfl (fun _ => rfl) (fun _ => Nat.le_of_ble_eq_true rfl) eZ (fun K C => ?_)
  unfold F_X6_readAlbum
  refine gf_aload_n C dX6_readAlbum_0 rfl rfl (gf_getR C dX6_readAlbum_1 fl_X6_12 s_12 rfl 13 rfl ?_)
  refine gf_callV (ε2 := eV) C [] dX6_readAlbum_4 mw_X0_clear ml_X6_102 s_13 (fun rZ hZ eZ => ok_X0_clear 13 s_13 h rZ hZ eZ) rfl rfl rfl (Nat.le_of_ble_eq_true rfl) (Nat.le_of_ble_eq_true rfl) (Nat.le_of_ble_eq_true rfl) (fun _ h1 => ?_)
  refine gf_aload_n C dX6_readAlbum_7 rfl rfl ?_
  refine gf_callV (ε2 := eV) C [] dX6_readAlbum_8 mw_X6_step ml_X6_33 s_12 (fun rZ hZ eZ => ok_X6_step  h1 rZ hZ eZ) rfl rfl rfl (Nat.le_of_ble_eq_true rfl) (Nat.le_of_ble_eq_true rfl) (Nat.le_of_ble_eq_true rfl) (fun _ h2 => ?_)
  refine gf_iconst C dX6_readAlbum_11 ki_1 ?_
  exact gf_zret C dX6_readAlbum_12 rfl rfl
def F_X6_readClause (h : Hp) : Option (Int32 × Hp) :=
  bd (F_X6_is 0 h) (fun r1 h2 => if r1 = 0 then (
  bd (F_X6_is 1 h2) (fun r3 h4 => if r3 = 0 then (
  bd (F_X6_is 2 h4) (fun r5 h6 => if r5 = 0 then (
  bd (F_X6_is 3 h6) (fun r7 h8 => if r7 = 0 then (
  bd (F_X6_is 8 h8) (fun r9 h10 => if r9 = 0 then (
  bd (F_X6_is 9 h10) (fun r11 h12 => if r11 = 0 then (
  bd (F_X6_is 10 h12) (fun r13 h14 => jn (fun (s15 : Int32) (h16 : Hp) =>
  gd (isB s15) ( some (s15, h16))) (fun j17 => jn (fun (h19 : Hp) =>
  j17 (0 : Int32) h19) (fun j20 => if r13 = 0 then (
  j20 h14) else (
  bd (F_X6_readSight h14) (fun r21 h22 => if r21 = 0 then (
  j20 h22) else (
  j17 (1 : Int32) h22))))))) else (
  bd (F_X6_readShadow (1 : Int32) h12) (fun r23 h24 => gd (isB r23) ( some (r23, h24)))))) else (
  bd (F_X6_readShadow (0 : Int32) h10) (fun r26 h27 => gd (isB r26) ( some (r26, h27)))))) else (
  bd (F_X6_readThing h8) (fun r29 h30 => gd (isB r29) ( some (r29, h30)))))) else (
  bd (F_X6_readPicture h6) (fun r32 h33 => gd (isB r32) ( some (r32, h33)))))) else (
  bd (F_X6_readSun h4) (fun r35 h36 => gd (isB r35) ( some (r35, h36)))))) else (
  bd (F_X6_readAlbum h2) (fun r38 h39 => gd (isB r38) ( some (r38, h39)))))
set_option maxRecDepth 100000 in
set_option maxHeartbeats 4000000 in
theorem ok_X6_readClause (h : Hp) (rZ : Int32) (hZ : Hp) (eZ : F_X6_readClause h = some (rZ, hZ)) : AC yX6_readClause cX6_readClause 1 (some .boolean) 7 148 [.ref 12] h (eI rZ) hZ := by
  refine AC_intro (o := F_X6_readClause h) RX6 rfl (plainFor_of_name (by decide)) [some (.ref 12)] rfl (fun _ => rfl) (fun _ => Nat.le_of_ble_eq_true rfl) eZ (fun K C => ?_)
  unfold F_X6_readClause
  refine gf_aload_n C dX6_readClause_0 rfl rfl (gf_ldcS C dX6_readClause_1 (i := 0) (by decide) rfl ?_)
  refine gf_callV (ε2 := eI) C [.ref (1000 + 0)] dX6_readClause_3 mw_X6_is ml_X6_57 s_12 (fun rZ hZ eZ => ok_X6_is 0 (by decide) h rZ hZ eZ) rfl rfl rfl (Nat.le_of_ble_eq_true rfl) (Nat.le_of_ble_eq_true rfl) (Nat.le_of_ble_eq_true rfl) (fun r1 h2 => ?_)
  refine gf_ifeq C 14 dX6_readClause_6 (by decide) (fun _ => ?_) (fun _ => ?_)
  · refine gf_aload_n C dX6_readClause_14 rfl rfl (gf_ldcS C dX6_readClause_15 (i := 1) (by decide) rfl ?_)
    refine gf_callV (ε2 := eI) C [.ref (1000 + 1)] dX6_readClause_17 mw_X6_is ml_X6_57 s_12 (fun rZ hZ eZ => ok_X6_is 1 (by decide) h2 rZ hZ eZ) rfl rfl rfl (Nat.le_of_ble_eq_true rfl) (Nat.le_of_ble_eq_true rfl) (Nat.le_of_ble_eq_true rfl) (fun r3 h4 => ?_)
    refine gf_ifeq C 28 dX6_readClause_20 (by decide) (fun _ => ?_) (fun _ => ?_)
    · refine gf_aload_n C dX6_readClause_28 rfl rfl (gf_ldcS C dX6_readClause_29 (i := 2) (by decide) rfl ?_)
      refine gf_callV (ε2 := eI) C [.ref (1000 + 2)] dX6_readClause_31 mw_X6_is ml_X6_57 s_12 (fun rZ hZ eZ => ok_X6_is 2 (by decide) h4 rZ hZ eZ) rfl rfl rfl (Nat.le_of_ble_eq_true rfl) (Nat.le_of_ble_eq_true rfl) (Nat.le_of_ble_eq_true rfl) (fun r5 h6 => ?_)
      refine gf_ifeq C 42 dX6_readClause_34 (by decide) (fun _ => ?_) (fun _ => ?_)
      · refine gf_aload_n C dX6_readClause_42 rfl rfl (gf_ldcS C dX6_readClause_43 (i := 3) (by decide) rfl ?_)
        refine gf_callV (ε2 := eI) C [.ref (1000 + 3)] dX6_readClause_45 mw_X6_is ml_X6_57 s_12 (fun rZ hZ eZ => ok_X6_is 3 (by decide) h6 rZ hZ eZ) rfl rfl rfl (Nat.le_of_ble_eq_true rfl) (Nat.le_of_ble_eq_true rfl) (Nat.le_of_ble_eq_true rfl) (fun r7 h8 => ?_)
        refine gf_ifeq C 56 dX6_readClause_48 (by decide) (fun _ => ?_) (fun _ => ?_)
        · refine gf_aload_n C dX6_readClause_56 rfl rfl (gf_ldcS C dX6_readClause_57 (i := 8) (by decide) rfl ?_)
          refine gf_callV (ε2 := eI) C [.ref (1000 + 8)] dX6_readClause_59 mw_X6_is ml_X6_57 s_12 (fun rZ hZ eZ => ok_X6_is 8 (by decide) h8 rZ hZ eZ) rfl rfl rfl (Nat.le_of_ble_eq_true rfl) (Nat.le_of_ble_eq_true rfl) (Nat.le_of_ble_eq_true rfl) (fun r9 h10 => ?_)
          refine gf_ifeq C 71 dX6_readClause_62 (by decide) (fun _ => ?_) (fun _ => ?_)
          · refine gf_aload_n C dX6_readClause_71 rfl rfl (gf_ldcS C dX6_readClause_72 (i := 9) (by decide) rfl ?_)
            refine gf_callV (ε2 := eI) C [.ref (1000 + 9)] dX6_readClause_74 mw_X6_is ml_X6_57 s_12 (fun rZ hZ eZ => ok_X6_is 9 (by decide) h10 rZ hZ eZ) rfl rfl rfl (Nat.le_of_ble_eq_true rfl) (Nat.le_of_ble_eq_true rfl) (Nat.le_of_ble_eq_true rfl) (fun r11 h12 => ?_)
            refine gf_ifeq C 86 dX6_readClause_77 (by decide) (fun _ => ?_) (fun _ => ?_)
            · refine gf_aload_n C dX6_readClause_86 rfl rfl (gf_ldcS C dX6_readClause_87 (i := 10) (by decide) rfl ?_)
              refine gf_callV (ε2 := eI) C [.ref (1000 + 10)] dX6_readClause_89 mw_X6_is ml_X6_57 s_12 (fun rZ hZ eZ => ok_X6_is 10 (by decide) h12 rZ hZ eZ) rfl rfl rfl (Nat.le_of_ble_eq_true rfl) (Nat.le_of_ble_eq_true rfl) (Nat.le_of_ble_eq_true rfl) (fun r13 h14 => ?_)
              refine gf_jn (fun (j17 : Int32 → Hp → Option (Int32 × Hp)) => ∀ (s15 : Int32) (h16 : Hp), GF K eI h16 107 [none] [.int s15] (j17 s15 h16)) ?_ (fun j17 kj17 => ?_)
              · intro s15 h16
                refine gf_gd (fun b18 => ?_)
                exact gf_zret C dX6_readClause_107 (isB_nar b18) rfl
              refine gf_jn (fun (j20 : Hp → Option (Int32 × Hp)) => ∀ (h19 : Hp), GF K eI h19 106 [none] [] (j20 h19)) ?_ (fun j20 kj20 => ?_)
              · intro h19
                refine gf_iconst C dX6_readClause_106 ki_0 ?_
                exact gf_sub [none] trivial (kj17 (0 : Int32) h19)
              refine gf_ifeq C 106 dX6_readClause_92 (by decide) (fun _ => ?_) (fun _ => ?_)
              · exact gf_sub [none] trivial (kj20 h14)
              · refine gf_aload_n C dX6_readClause_95 rfl rfl ?_
                refine gf_callV (ε2 := eI) C [] dX6_readClause_96 mw_X6_readSight ml_X6_89 s_12 (fun rZ hZ eZ => ok_X6_readSight  h14 rZ hZ eZ) rfl rfl rfl (Nat.le_of_ble_eq_true rfl) (Nat.le_of_ble_eq_true rfl) (Nat.le_of_ble_eq_true rfl) (fun r21 h22 => ?_)
                refine gf_ifeq C 106 dX6_readClause_99 (by decide) (fun _ => ?_) (fun _ => ?_)
                · exact gf_sub [none] trivial (kj20 h22)
                · refine gf_iconst C dX6_readClause_102 ki_1 ?_
                  refine gf_goto C 107 dX6_readClause_103 (by decide) ?_
                  exact gf_sub [none] trivial (kj17 (1 : Int32) h22)
            · refine gf_aload_n C dX6_readClause_80 rfl rfl (gf_iconst C dX6_readClause_81 ki_1 ?_)
              refine gf_callV (ε2 := eI) C [.int (1 : Int32)] dX6_readClause_82 mw_X6_readShadow ml_X6_81 s_12 (fun rZ hZ eZ => ok_X6_readShadow (1 : Int32) h12 rZ hZ eZ) rfl rfl rfl (Nat.le_of_ble_eq_true rfl) (Nat.le_of_ble_eq_true rfl) (Nat.le_of_ble_eq_true rfl) (fun r23 h24 => ?_)
              refine gf_gd (fun b25 => ?_)
              exact gf_zret C dX6_readClause_85 (isB_nar b25) rfl
          · refine gf_aload_n C dX6_readClause_65 rfl rfl (gf_iconst C dX6_readClause_66 ki_0 ?_)
            refine gf_callV (ε2 := eI) C [.int (0 : Int32)] dX6_readClause_67 mw_X6_readShadow ml_X6_81 s_12 (fun rZ hZ eZ => ok_X6_readShadow (0 : Int32) h10 rZ hZ eZ) rfl rfl rfl (Nat.le_of_ble_eq_true rfl) (Nat.le_of_ble_eq_true rfl) (Nat.le_of_ble_eq_true rfl) (fun r26 h27 => ?_)
            refine gf_gd (fun b28 => ?_)
            exact gf_zret C dX6_readClause_70 (isB_nar b28) rfl
        · refine gf_aload_n C dX6_readClause_51 rfl rfl ?_
          refine gf_callV (ε2 := eI) C [] dX6_readClause_52 mw_X6_readThing ml_X6_76 s_12 (fun rZ hZ eZ => ok_X6_readThing  h8 rZ hZ eZ) rfl rfl rfl (Nat.le_of_ble_eq_true rfl) (Nat.le_of_ble_eq_true rfl) (Nat.le_of_ble_eq_true rfl) (fun r29 h30 => ?_)
          refine gf_gd (fun b31 => ?_)
          exact gf_zret C dX6_readClause_55 (isB_nar b31) rfl
      · refine gf_aload_n C dX6_readClause_37 rfl rfl ?_
        refine gf_callV (ε2 := eI) C [] dX6_readClause_38 mw_X6_readPicture ml_X6_71 s_12 (fun rZ hZ eZ => ok_X6_readPicture  h6 rZ hZ eZ) rfl rfl rfl (Nat.le_of_ble_eq_true rfl) (Nat.le_of_ble_eq_true rfl) (Nat.le_of_ble_eq_true rfl) (fun r32 h33 => ?_)
        refine gf_gd (fun b34 => ?_)
        exact gf_zret C dX6_readClause_41 (isB_nar b34) rfl
    · refine gf_aload_n C dX6_readClause_23 rfl rfl ?_
      refine gf_callV (ε2 := eI) C [] dX6_readClause_24 mw_X6_readSun ml_X6_66 s_12 (fun rZ hZ eZ => ok_X6_readSun  h4 rZ hZ eZ) rfl rfl rfl (Nat.le_of_ble_eq_true rfl) (Nat.le_of_ble_eq_true rfl) (Nat.le_of_ble_eq_true rfl) (fun r35 h36 => ?_)
      refine gf_gd (fun b37 => ?_)
      exact gf_zret C dX6_readClause_27 (isB_nar b37) rfl
  · refine gf_aload_n C dX6_readClause_9 rfl rfl ?_
    refine gf_callV (ε2 := eI) C [] dX6_readClause_10 mw_X6_readAlbum ml_X6_61 s_12 (fun rZ hZ eZ => ok_X6_readAlbum  h2 rZ hZ eZ) rfl rfl rfl (Nat.le_of_ble_eq_true rfl) (Nat.le_of_ble_eq_true rfl) (Nat.le_of_ble_eq_true rfl) (fun r38 h39 => ?_)
    refine gf_gd (fun b40 => ?_)
    exact gf_zret C dX6_readClause_13 (isB_nar b40) rfl
def F_X6_read (a1 : Nat) (h : Hp) : Option (Int32 × Hp) :=
  bd (F_X0_copyFrom 13 a1 h) (fun _ h1 => jl (sS h1 769 (0 : Int32)) (fun h2 => jl (sS h2 773 (0 : Int32)) (fun h3 => bd (F_X6_step h3) (fun _ h4 => (lp 4000000000 (fun (c7 : Int32 → Hp → Option (Int32 × Hp)) (v5 : Int32) (h6 : Hp) =>
  if v5 < (24 : Int32) then (
  bd (F_X6_readClause h6) (fun r8 h9 => if r8 = 0 then (
  some (sG h9 772, h9)) else (
  jl (sS h9 769 ((sG h9 769) + (1 : Int32))) (fun h10 => if (sG h10 771) = 0 then (
  some ((-1 : Int32), h10)) else (
  jn (fun (h11 : Hp) =>
  some (sG h11 772, h11)) (fun j12 => if (sG h10 771) = (3 : Int32) then (
  bd (F_X10_letterAt (sG h10 772) h10) (fun r13 h14 => if r13 = (59 : Int32) then (
  jn (fun (h15 : Hp) =>
  c7 (v5 + (1 : Int32)) h15) (fun j16 => if (sG h14 769) < (24 : Int32) then (
  bd (F_X6_step h14) (fun _ h17 => j16 h17)) else (
  j16 h14))) else (
  j12 h14))) else (
  j12 h10))))))) else (
  some (sG h6 772, h6))) (fun _ _ => none)) (0 : Int32) h4))))
set_option maxRecDepth 100000 in
set_option maxHeartbeats 4000000 in
theorem ok_X6_read (a1 : Nat) (ha1 : shp a1 = (0, 0)) (h : Hp) (rZ : Int32) (hZ : Hp) (eZ : F_X6_read a1 h = some (rZ, hZ)) : AC yX6_read cX6_read 3 (some .int) 8 168 [.ref 12, .ref a1] h (eI rZ) hZ := by
  refine AC_intro (o := F_X6_read a1 h) RX6 rfl (plainFor_of_name (by decide)) [some (.ref 12), some (.ref a1), none] rfl (fun _ => rfl) (fun _ => Nat.le_of_ble_eq_true rfl) eZ (fun K C => ?_)
  unfold F_X6_read
  refine gf_aload_n C dX6_read_0 rfl rfl (gf_getR C dX6_read_1 fl_X6_12 s_12 rfl 13 rfl (gf_aload_n C dX6_read_4 rfl rfl ?_))
  refine gf_callV (ε2 := eV) C [.ref a1] dX6_read_5 mw_X0_copyFrom ml_X6_22 s_13 (fun rZ hZ eZ => ok_X0_copyFrom 13 a1 s_13 ha1 h rZ hZ eZ) rfl rfl rfl (Nat.le_of_ble_eq_true rfl) (Nat.le_of_ble_eq_true rfl) (Nat.le_of_ble_eq_true rfl) (fun _ h1 => ?_)
  refine gf_aload_n C dX6_read_8 rfl rfl (gf_iconst C dX6_read_9 ki_0 (gf_putI C dX6_read_10 fp_X6_26 s_12 rfl 769 rfl ?_))
  refine gf_jlH (fun h2 => ?_)
  refine gf_aload_n C dX6_read_13 rfl rfl (gf_iconst C dX6_read_14 ki_0 (gf_putI C dX6_read_15 fp_X6_30 s_12 rfl 773 rfl ?_))
  refine gf_jlH (fun h3 => ?_)
  refine gf_aload_n C dX6_read_18 rfl rfl ?_
  refine gf_callV (ε2 := eV) C [] dX6_read_19 mw_X6_step ml_X6_33 s_12 (fun rZ hZ eZ => ok_X6_step  h3 rZ hZ eZ) rfl rfl rfl (Nat.le_of_ble_eq_true rfl) (Nat.le_of_ble_eq_true rfl) (Nat.le_of_ble_eq_true rfl) (fun _ h4 => ?_)
  refine gf_iconst C dX6_read_22 ki_0 (gf_istore_n C dX6_read_23 rfl [some (.ref 12), some (.ref a1), some (.int (0 : Int32))] rfl rfl (Nat.le_of_ble_eq_true rfl) ?_)
  refine gf_sub [some (.ref 12), none, some (.int (0 : Int32))] (And.intro rfl (And.intro rfl trivial)) ?_
  refine lp_P (fun (c7 : Int32 → Hp → Option (Int32 × Hp)) => ∀ (v5 : Int32) (h6 : Hp), GF K eI h6 24 [some (.ref 12), none, some (.int v5)] [] (c7 v5 h6)) (fun _ _ => gf_none) (fun c7 kc7 v5 h6 => ?_) (0 : Int32) h4
  refine gf_iload_n C dX6_read_24 rfl rfl (gf_bipush C dX6_read_25 kb_24 ?_)
  refine gf_icmpge C 109 dX6_read_27 (by decide) (fun _ => ?_) (fun _ => ?_)
  · refine gf_aload_n C dX6_read_30 rfl rfl ?_
    refine gf_callV (ε2 := eI) C [] dX6_read_31 mw_X6_readClause ml_X6_36 s_12 (fun rZ hZ eZ => ok_X6_readClause  h6 rZ hZ eZ) rfl rfl rfl (Nat.le_of_ble_eq_true rfl) (Nat.le_of_ble_eq_true rfl) (Nat.le_of_ble_eq_true rfl) (fun r8 h9 => ?_)
    refine gf_ifne C 42 dX6_read_34 (by decide) (fun _ => ?_) (fun _ => ?_)
    · refine gf_aload_n C dX6_read_37 rfl rfl (gf_getI C dX6_read_38 fl_X6_40 s_12 rfl 772 rfl ?_)
      exact gf_iret C dX6_read_41 rfl
    · refine gf_aload_n C dX6_read_42 rfl rfl (gf_dup C dX6_read_43 rfl (gf_getI C dX6_read_44 fl_X6_26 s_12 rfl 769 rfl (gf_iconst C dX6_read_47 ki_1 (gf_iadd C dX6_read_48 (gf_putI C dX6_read_49 fp_X6_26 s_12 rfl 769 rfl ?_)))))
      refine gf_jlH (fun h10 => ?_)
      refine gf_aload_n C dX6_read_52 rfl rfl (gf_getI C dX6_read_53 fl_X6_43 s_12 rfl 771 rfl ?_)
      refine gf_ifne C 61 dX6_read_56 (by decide) (fun _ => ?_) (fun _ => ?_)
      · refine gf_iconst C dX6_read_59 ki_m1 ?_
        exact gf_iret C dX6_read_60 rfl
      · refine gf_aload_n C dX6_read_61 rfl rfl (gf_getI C dX6_read_62 fl_X6_43 s_12 rfl 771 rfl (gf_iconst C dX6_read_65 ki_3 ?_))
        refine gf_jn (fun (j12 : Hp → Option (Int32 × Hp)) => ∀ (h11 : Hp), GF K eI h11 85 [some (.ref 12), none, none] [] (j12 h11)) ?_ (fun j12 kj12 => ?_)
        · intro h11
          refine gf_aload_n C dX6_read_85 rfl rfl (gf_getI C dX6_read_86 fl_X6_40 s_12 rfl 772 rfl ?_)
          exact gf_iret C dX6_read_89 rfl
        refine gf_icmpne C 85 dX6_read_66 (by decide) (fun _ => ?_) (fun _ => ?_)
        · refine gf_aload_n C dX6_read_69 rfl rfl (gf_getR C dX6_read_70 fl_X6_18 s_12 rfl 1 rfl (gf_aload_n C dX6_read_73 rfl rfl (gf_getI C dX6_read_74 fl_X6_40 s_12 rfl 772 rfl ?_)))
          refine gf_callV (ε2 := eI) C [.int (sG h10 772)] dX6_read_77 mw_X10_letterAt ml_X6_48 s_1 (fun rZ hZ eZ => ok_X10_letterAt (sG h10 772) h10 rZ hZ eZ) rfl rfl rfl (Nat.le_of_ble_eq_true rfl) (Nat.le_of_ble_eq_true rfl) (Nat.le_of_ble_eq_true rfl) (fun r13 h14 => ?_)
          refine gf_bipush C dX6_read_80 kb_59 ?_
          refine gf_icmpeq C 90 dX6_read_82 (by decide) (fun _ => ?_) (fun _ => ?_)
          · refine gf_aload_n C dX6_read_90 rfl rfl (gf_getI C dX6_read_91 fl_X6_26 s_12 rfl 769 rfl (gf_bipush C dX6_read_94 kb_24 ?_))
            refine gf_jn (fun (j16 : Hp → Option (Int32 × Hp)) => ∀ (h15 : Hp), GF K eI h15 103 [some (.ref 12), none, some (.int v5)] [] (j16 h15)) ?_ (fun j16 kj16 => ?_)
            · intro h15
              refine gf_iinc C dX6_read_103 rfl (ii_1 _) [some (.ref 12), none, some (.int (v5 + (1 : Int32)))] rfl rfl ?_
              refine gf_goto C 24 dX6_read_106 (by decide) ?_
              exact gf_sub [some (.ref 12), none, some (.int (v5 + (1 : Int32)))] (And.intro rfl (And.intro rfl trivial)) (kc7 (v5 + (1 : Int32)) h15)
            refine gf_icmpge C 103 dX6_read_96 (by decide) (fun _ => ?_) (fun _ => ?_)
            · refine gf_aload_n C dX6_read_99 rfl rfl ?_
              refine gf_callV (ε2 := eV) C [] dX6_read_100 mw_X6_step ml_X6_33 s_12 (fun rZ hZ eZ => ok_X6_step  h14 rZ hZ eZ) rfl rfl rfl (Nat.le_of_ble_eq_true rfl) (Nat.le_of_ble_eq_true rfl) (Nat.le_of_ble_eq_true rfl) (fun _ h17 => ?_)
              exact gf_sub [some (.ref 12), none, some (.int v5)] (And.intro rfl (And.intro rfl trivial)) (kj16 h17)
            · exact gf_sub [some (.ref 12), none, some (.int v5)] (And.intro rfl (And.intro rfl trivial)) (kj16 h14)
          · exact gf_sub [some (.ref 12), none, none] (And.intro rfl trivial) (kj12 h14)
        · exact gf_sub [some (.ref 12), none, none] (And.intro rfl trivial) (kj12 h10)
  · refine gf_aload_n C dX6_read_109 rfl rfl (gf_getI C dX6_read_110 fl_X6_40 s_12 rfl 772 rfl ?_)
    exact gf_iret C dX6_read_113 rfl
def F_X7_chainAhead (t : Nat) (h : Hp) : Option (Unit × Hp) :=
  gd (cpB (0 : Int32) (0 : Int32) (7 : Int32) 7 7) ( jl (aV h (t + 3) (va_cpy (aF h (t + 2)) (aF h (t + 3)) (0 : Int32).toNatClampNeg (0 : Int32).toNatClampNeg (7 : Int32).toNatClampNeg)) (fun h1 => (lp 4000000000 (fun (c4 : Int32 → Hp → Option (Unit × Hp)) (v2 : Int32) (h3 : Hp) =>
  if v2 < (7 : Int32) then (
  (lp 4000000000 (fun (c7 : Int32 → Hp → Option (Unit × Hp)) (v5 : Int32) (h6 : Hp) =>
  if v5 < (7 : Int32) then (
  gd (inb v5 7) ( bd (F_X11_hasBit (aG h6 (t + 3) v5.toNatClampNeg) v2 h6) (fun r8 h9 => jn (fun (h10 : Hp) =>
  c7 (v5 + (1 : Int32)) h10) (fun j11 => if r8 = 0 then (
  j11 h9) else (
  gd (inb v5 7) ( gd (inb v2 7) ( gd (inb v5 7) ( jl (aS h9 (t + 3) v5.toNatClampNeg ((aG h9 (t + 3) v5.toNatClampNeg) ||| (aG h9 (t + 3) v2.toNatClampNeg))) (fun h12 => j11 h12))))))))) else (
  c4 (v2 + (1 : Int32)) h6)) (fun _ _ => none)) (0 : Int32) h3) else (
  some ((), h3))) (fun _ _ => none)) (0 : Int32) h1))
set_option maxRecDepth 100000 in
set_option maxHeartbeats 4000000 in
theorem ok_X7_chainAhead (t : Nat) (ht : shp t = (0, 7)) (h : Hp) (rZ : Unit) (hZ : Hp) (eZ : F_X7_chainAhead t h = some (rZ, hZ)) : AC yX7_chainAhead cX7_chainAhead 3 (none) 1 21 [.ref t] h (eV rZ) hZ := by
  refine AC_intro (o := F_X7_chainAhead t h) RX7 rfl (plainFor_of_name (by decide)) [some (.ref t), none, none] rfl (fun _ => rfl) (fun _ => Nat.le_of_ble_eq_true rfl) eZ (fun K C => ?_)
  unfold F_X7_chainAhead
  refine gf_aload_n C dX7_chainAhead_0 rfl rfl (gf_getR C dX7_chainAhead_1 fl_X7_15 ht rfl (t + 2) (lr_7_3 ht) (gf_iconst C dX7_chainAhead_4 ki_0 (gf_aload_n C dX7_chainAhead_5 rfl rfl (gf_getR C dX7_chainAhead_6 fl_X7_19 ht rfl (t + 3) (lr_7_4 ht) (gf_iconst C dX7_chainAhead_9 ki_0 (gf_bipush C dX7_chainAhead_10 kb_7 (gf_copyI C dX7_chainAhead_12 cp_X7_63 (lq_7_3 ht) (lq_7_4 ht) rfl (Nat.le_of_ble_eq_true rfl) (Nat.le_of_ble_eq_true rfl) ?_)))))))
  refine gf_jlH (fun h1 => ?_)
  refine gf_iconst C dX7_chainAhead_15 ki_0 (gf_istore_n C dX7_chainAhead_16 rfl [some (.ref t), some (.int (0 : Int32)), none] rfl rfl (Nat.le_of_ble_eq_true rfl) ?_)
  refine gf_sub [some (.ref t), some (.int (0 : Int32)), none] (And.intro rfl (And.intro rfl trivial)) ?_
  refine lp_P (fun (c4 : Int32 → Hp → Option (Unit × Hp)) => ∀ (v2 : Int32) (h3 : Hp), GF K eV h3 17 [some (.ref t), some (.int v2), none] [] (c4 v2 h3)) (fun _ _ => gf_none) (fun c4 kc4 v2 h3 => ?_) (0 : Int32) h1
  refine gf_iload_n C dX7_chainAhead_17 rfl rfl (gf_bipush C dX7_chainAhead_18 kb_7 ?_)
  refine gf_icmpge C 71 dX7_chainAhead_20 (by decide) (fun _ => ?_) (fun _ => ?_)
  · refine gf_iconst C dX7_chainAhead_23 ki_0 (gf_istore_n C dX7_chainAhead_24 rfl [some (.ref t), some (.int v2), some (.int (0 : Int32))] rfl rfl (Nat.le_of_ble_eq_true rfl) ?_)
    refine gf_sub [some (.ref t), some (.int v2), some (.int (0 : Int32))] (And.intro rfl (And.intro rfl (And.intro rfl trivial))) ?_
    refine lp_P (fun (c7 : Int32 → Hp → Option (Unit × Hp)) => ∀ (v5 : Int32) (h6 : Hp), GF K eV h6 25 [some (.ref t), some (.int v2), some (.int v5)] [] (c7 v5 h6)) (fun _ _ => gf_none) (fun c7 kc7 v5 h6 => ?_) (0 : Int32) h3
    refine gf_iload_n C dX7_chainAhead_25 rfl rfl (gf_bipush C dX7_chainAhead_26 kb_7 ?_)
    refine gf_icmpge C 65 dX7_chainAhead_28 (by decide) (fun _ => ?_) (fun _ => ?_)
    · refine gf_aload_n C dX7_chainAhead_31 rfl rfl (gf_getR C dX7_chainAhead_32 fl_X7_19 ht rfl (t + 3) (lr_7_4 ht) (gf_iload_n C dX7_chainAhead_35 rfl rfl (gf_iald C dX7_chainAhead_36 (lq_7_4 ht) (gf_iload_n C dX7_chainAhead_37 rfl rfl ?_))))
      refine gf_callSN (ε2 := eI) C [.int (aG h6 (t + 3) v5.toNatClampNeg), .int v2] dX7_chainAhead_38 mw_X11_hasBit ml_X7_125 (fun rZ hZ eZ => ok_X11_hasBit (aG h6 (t + 3) v5.toNatClampNeg) v2 h6 rZ hZ eZ) rfl rfl rfl (Nat.le_of_ble_eq_true rfl) (Nat.le_of_ble_eq_true rfl) (Nat.le_of_ble_eq_true rfl) (fun r8 h9 => ?_)
      refine gf_jn (fun (j11 : Hp → Option (Unit × Hp)) => ∀ (h10 : Hp), GF K eV h10 59 [some (.ref t), some (.int v2), some (.int v5)] [] (j11 h10)) ?_ (fun j11 kj11 => ?_)
      · intro h10
        refine gf_iinc C dX7_chainAhead_59 rfl (ii_1 _) [some (.ref t), some (.int v2), some (.int (v5 + (1 : Int32)))] rfl rfl ?_
        refine gf_goto C 25 dX7_chainAhead_62 (by decide) ?_
        exact gf_sub [some (.ref t), some (.int v2), some (.int (v5 + (1 : Int32)))] (And.intro rfl (And.intro rfl (And.intro rfl trivial))) (kc7 (v5 + (1 : Int32)) h10)
      refine gf_ifeq C 59 dX7_chainAhead_41 (by decide) (fun _ => ?_) (fun _ => ?_)
      · exact gf_sub [some (.ref t), some (.int v2), some (.int v5)] (And.intro rfl (And.intro rfl (And.intro rfl trivial))) (kj11 h9)
      · refine gf_aload_n C dX7_chainAhead_44 rfl rfl (gf_getR C dX7_chainAhead_45 fl_X7_19 ht rfl (t + 3) (lr_7_4 ht) (gf_iload_n C dX7_chainAhead_48 rfl rfl (gf_dup2 C dX7_chainAhead_49 rfl rfl (gf_iald C dX7_chainAhead_50 (lq_7_4 ht) (gf_aload_n C dX7_chainAhead_51 rfl rfl (gf_getR C dX7_chainAhead_52 fl_X7_19 ht rfl (t + 3) (lr_7_4 ht) (gf_iload_n C dX7_chainAhead_55 rfl rfl ?_)))))))
        refine gf_iald C dX7_chainAhead_56 (lq_7_4 ht) (gf_ior C dX7_chainAhead_57 (gf_iast C dX7_chainAhead_58 (lq_7_4 ht) ?_))
        refine gf_jlH (fun h12 => ?_)
        exact gf_sub [some (.ref t), some (.int v2), some (.int v5)] (And.intro rfl (And.intro rfl (And.intro rfl trivial))) (kj11 h12)
    · refine gf_iinc C dX7_chainAhead_65 rfl (ii_1 _) [some (.ref t), some (.int (v2 + (1 : Int32))), some (.int v5)] rfl rfl ?_
      refine gf_goto C 17 dX7_chainAhead_68 (by decide) ?_
      exact gf_sub [some (.ref t), some (.int (v2 + (1 : Int32))), none] (And.intro rfl (And.intro rfl trivial)) (kc4 (v2 + (1 : Int32)) h6)
  · exact gf_vret C dX7_chainAhead_71 rfl
def F_X7_read (t : Nat) (a1 : Nat) (h : Hp) : Option (Unit × Hp) :=
  bd (F_J9_min_7cf53 (sG h (64 * a1 + 0)) (7 : Int32) h) (fun r1 h2 => jl (sS h2 (64 * t + 1) r1) (fun h3 => (lp 4000000000 (fun (c6 : Int32 → Hp → Option (Unit × Hp)) (v4 : Int32) (h5 : Hp) =>
  if v4 < (sG h5 (64 * t + 1)) then (
  bd (F_X7_readWindow t a1 (a1 + 2) v4 h5) (fun _ h7 => c6 (v4 + (1 : Int32)) h7)) else (
  bd (F_X7_readThings t a1 (a1 + 2) h5) (fun _ h8 => bd (F_X7_chainAhead t h8) (fun _ h9 => jl (sS h9 (64 * t + 0) (1 : Int32)) (fun h10 => some ((), h10)))))) (fun _ _ => none)) (0 : Int32) h3))
set_option maxRecDepth 100000 in
set_option maxHeartbeats 4000000 in
theorem ok_X7_read (t : Nat) (a1 : Nat) (ht : shp t = (0, 7)) (ha1 : shp a1 = (0, 0)) (h : Hp) (rZ : Unit) (hZ : Hp) (eZ : F_X7_read t a1 h = some (rZ, hZ)) : AC yX7_read cX7_read 3 (none) 4 94 [.ref t, .ref a1] h (eV rZ) hZ := by
  refine AC_intro (o := F_X7_read t a1 h) RX7 rfl (plainFor_of_name (by decide)) [some (.ref t), some (.ref a1), none] rfl (fun _ => rfl) (fun _ => Nat.le_of_ble_eq_true rfl) eZ (fun K C => ?_)
  unfold F_X7_read
  refine gf_aload_n C dX7_read_0 rfl rfl (gf_aload_n C dX7_read_1 rfl rfl (gf_getI C dX7_read_2 fl_X7_31 ha1 rfl (64 * a1 + 0) rfl (gf_bipush C dX7_read_5 kb_7 ?_)))
  refine gf_callS (ε2 := eI) C [.int (sG h (64 * a1 + 0)), .int (7 : Int32)] dX7_read_7 mw_J9_min_7cf53 ml_X7_37 (fun rZ hZ eZ => ok_J9_min_7cf53 (sG h (64 * a1 + 0)) (7 : Int32) h rZ hZ eZ) rfl rfl rfl (Nat.le_of_ble_eq_true rfl) (Nat.le_of_ble_eq_true rfl) (Nat.le_of_ble_eq_true rfl) (fun r1 h2 => ?_)
  refine gf_putI C dX7_read_10 fp_X7_43 ht rfl (64 * t + 1) rfl ?_
  refine gf_jlH (fun h3 => ?_)
  refine gf_iconst C dX7_read_13 ki_0 (gf_istore_n C dX7_read_14 rfl [some (.ref t), some (.ref a1), some (.int (0 : Int32))] rfl rfl (Nat.le_of_ble_eq_true rfl) ?_)
  refine gf_sub [some (.ref t), some (.ref a1), some (.int (0 : Int32))] (And.intro rfl (And.intro rfl (And.intro rfl trivial))) ?_
  refine lp_P (fun (c6 : Int32 → Hp → Option (Unit × Hp)) => ∀ (v4 : Int32) (h5 : Hp), GF K eV h5 15 [some (.ref t), some (.ref a1), some (.int v4)] [] (c6 v4 h5)) (fun _ _ => gf_none) (fun c6 kc6 v4 h5 => ?_) (0 : Int32) h3
  refine gf_iload_n C dX7_read_15 rfl rfl (gf_aload_n C dX7_read_16 rfl rfl (gf_getI C dX7_read_17 fl_X7_43 ht rfl (64 * t + 1) rfl ?_))
  refine gf_icmpge C 39 dX7_read_20 (by decide) (fun _ => ?_) (fun _ => ?_)
  · refine gf_aload_n C dX7_read_23 rfl rfl (gf_aload_n C dX7_read_24 rfl rfl (gf_aload_n C dX7_read_25 rfl rfl (gf_getR C dX7_read_26 fl_X7_44 ha1 rfl (a1 + 2) (lr_0_3 ha1) (gf_iload_n C dX7_read_29 rfl rfl ?_))))
    refine gf_callV (ε2 := eV) C [.ref a1, .ref (a1 + 2), .int v4] dX7_read_30 mw_X7_readWindow ml_X7_48 ht (fun rZ hZ eZ => ok_X7_readWindow t a1 (a1 + 2) v4 ht ha1 (lq_0_3 ha1) h5 rZ hZ eZ) rfl rfl rfl (Nat.le_of_ble_eq_true rfl) (Nat.le_of_ble_eq_true rfl) (Nat.le_of_ble_eq_true rfl) (fun _ h7 => ?_)
    refine gf_iinc C dX7_read_33 rfl (ii_1 _) [some (.ref t), some (.ref a1), some (.int (v4 + (1 : Int32)))] rfl rfl ?_
    refine gf_goto C 15 dX7_read_36 (by decide) ?_
    exact gf_sub [some (.ref t), some (.ref a1), some (.int (v4 + (1 : Int32)))] (And.intro rfl (And.intro rfl (And.intro rfl trivial))) (kc6 (v4 + (1 : Int32)) h7)
  · refine gf_aload_n C dX7_read_39 rfl rfl (gf_aload_n C dX7_read_40 rfl rfl (gf_aload_n C dX7_read_41 rfl rfl (gf_getR C dX7_read_42 fl_X7_44 ha1 rfl (a1 + 2) (lr_0_3 ha1) ?_)))
    refine gf_callV (ε2 := eV) C [.ref a1, .ref (a1 + 2)] dX7_read_45 mw_X7_readThings ml_X7_52 ht (fun rZ hZ eZ => ok_X7_readThings t a1 (a1 + 2) ht ha1 (lq_0_3 ha1) h5 rZ hZ eZ) rfl rfl rfl (Nat.le_of_ble_eq_true rfl) (Nat.le_of_ble_eq_true rfl) (Nat.le_of_ble_eq_true rfl) (fun _ h8 => ?_)
    refine gf_aload_n C dX7_read_48 rfl rfl ?_
    refine gf_callV (ε2 := eV) C [] dX7_read_49 mw_X7_chainAhead ml_X7_56 ht (fun rZ hZ eZ => ok_X7_chainAhead t ht h8 rZ hZ eZ) rfl rfl rfl (Nat.le_of_ble_eq_true rfl) (Nat.le_of_ble_eq_true rfl) (Nat.le_of_ble_eq_true rfl) (fun _ h9 => ?_)
    refine gf_aload_n C dX7_read_52 rfl rfl (gf_iconst C dX7_read_53 ki_1 (gf_putZ C dX7_read_54 fp_X7_59 ht rfl (64 * t + 0) rfl rfl ?_))
    refine gf_jlH (fun h10 => ?_)
    exact gf_vret C dX7_read_57 rfl
def F_X7_earlierThan (t : Nat) (a1 : Int32) (h : Hp) : Option (Int32 × Hp) :=
  jn (fun (s1 : Int32) (h2 : Hp) =>
  some (s1, h2)) (fun j3 => jn (fun (h4 : Hp) =>
  j3 (0 : Int32) h4) (fun j5 => if a1 < 0 then (
  j5 h) else (
  if a1 < (7 : Int32) then (
  gd (inb a1 7) ( j3 (aG h (t + 3) a1.toNatClampNeg) h)) else (
  j5 h))))
set_option maxRecDepth 100000 in
set_option maxHeartbeats 4000000 in
theorem ok_X7_earlierThan (t : Nat) (a1 : Int32) (ht : shp t = (0, 7)) (h : Hp) (rZ : Int32) (hZ : Hp) (eZ : F_X7_earlierThan t a1 h = some (rZ, hZ)) : AC yX7_earlierThan cX7_earlierThan 2 (some .int) 0 0 [.ref t, .int a1] h (eI rZ) hZ := by
  refine AC_intro (o := F_X7_earlierThan t a1 h) RX7 rfl (plainFor_of_name (by decide)) [some (.ref t), some (.int a1)] rfl (fun _ => rfl) (fun _ => Nat.le_of_ble_eq_true rfl) eZ (fun K C => ?_)
  unfold F_X7_earlierThan
  refine gf_iload_n C dX7_earlierThan_0 rfl rfl ?_
  refine gf_jn (fun (j3 : Int32 → Hp → Option (Int32 × Hp)) => ∀ (s1 : Int32) (h2 : Hp), GF K eI h2 20 [none, none] [.int s1] (j3 s1 h2)) ?_ (fun j3 kj3 => ?_)
  · intro s1 h2
    exact gf_iret C dX7_earlierThan_20 rfl
  refine gf_jn (fun (j5 : Hp → Option (Int32 × Hp)) => ∀ (h4 : Hp), GF K eI h4 19 [none, none] [] (j5 h4)) ?_ (fun j5 kj5 => ?_)
  · intro h4
    refine gf_iconst C dX7_earlierThan_19 ki_0 ?_
    exact gf_sub [none, none] trivial (kj3 (0 : Int32) h4)
  refine gf_iflt C 19 dX7_earlierThan_1 (by decide) (fun _ => ?_) (fun _ => ?_)
  · exact gf_sub [none, none] trivial (kj5 h)
  · refine gf_iload_n C dX7_earlierThan_4 rfl rfl (gf_bipush C dX7_earlierThan_5 kb_7 ?_)
    refine gf_icmpge C 19 dX7_earlierThan_7 (by decide) (fun _ => ?_) (fun _ => ?_)
    · refine gf_aload_n C dX7_earlierThan_10 rfl rfl (gf_getR C dX7_earlierThan_11 fl_X7_19 ht rfl (t + 3) (lr_7_4 ht) (gf_iload_n C dX7_earlierThan_14 rfl rfl (gf_iald C dX7_earlierThan_15 (lq_7_4 ht) ?_)))
      refine gf_goto C 20 dX7_earlierThan_16 (by decide) ?_
      exact gf_sub [none, none] trivial (kj3 (aG h (t + 3) a1.toNatClampNeg) h)
    · exact gf_sub [none, none] trivial (kj5 h)
def F_X7_pairsBefore (t : Nat) (h : Hp) : Option (Int32 × Hp) :=
  (lp 4000000000 (fun (c4 : Int32 → Int32 → Hp → Option (Int32 × Hp)) (v1 : Int32) (v2 : Int32) (h3 : Hp) =>
  if v2 < (sG h3 (64 * t + 1)) then (
  bd (F_X7_earlierThan t v2 h3) (fun r5 h6 => bd (F_J6_bitCount_0f7a4 (r5 &&& (((1 : Int32) <<< (v2 &&& 31)) ^^^ (-1 : Int32))) h6) (fun r7 h8 => jl (v1 + r7) (fun x9 => c4 x9 (v2 + (1 : Int32)) h8)))) else (
  some (v1, h3))) (fun _ _ _ => none)) (0 : Int32) (0 : Int32) h
set_option maxRecDepth 100000 in
set_option maxHeartbeats 4000000 in
theorem ok_X7_pairsBefore (t : Nat) (ht : shp t = (0, 7)) (h : Hp) (rZ : Int32) (hZ : Hp) (eZ : F_X7_pairsBefore t h = some (rZ, hZ)) : AC yX7_pairsBefore cX7_pairsBefore 3 (some .int) 1 21 [.ref t] h (eI rZ) hZ := by
  refine AC_intro (o := F_X7_pairsBefore t h) RX7 rfl (plainFor_of_name (by decide)) [some (.ref t), none, none] rfl (fun _ => rfl) (fun _ => Nat.le_of_ble_eq_true rfl) eZ (fun K C => ?_)
  unfold F_X7_pairsBefore
  refine gf_iconst C dX7_pairsBefore_0 ki_0 (gf_istore_n C dX7_pairsBefore_1 rfl [some (.ref t), some (.int (0 : Int32)), none] rfl rfl (Nat.le_of_ble_eq_true rfl) (gf_iconst C dX7_pairsBefore_2 ki_0 (gf_istore_n C dX7_pairsBefore_3 rfl [some (.ref t), some (.int (0 : Int32)), some (.int (0 : Int32))] rfl rfl (Nat.le_of_ble_eq_true rfl) ?_)))
  refine gf_sub [some (.ref t), some (.int (0 : Int32)), some (.int (0 : Int32))] (And.intro rfl (And.intro rfl (And.intro rfl trivial))) ?_
  refine lp_P (fun (c4 : Int32 → Int32 → Hp → Option (Int32 × Hp)) => ∀ (v1 : Int32) (v2 : Int32) (h3 : Hp), GF K eI h3 4 [some (.ref t), some (.int v1), some (.int v2)] [] (c4 v1 v2 h3)) (fun _ _ _ => gf_none) (fun c4 kc4 v1 v2 h3 => ?_) (0 : Int32) (0 : Int32) h
  refine gf_iload_n C dX7_pairsBefore_4 rfl rfl (gf_aload_n C dX7_pairsBefore_5 rfl rfl (gf_getI C dX7_pairsBefore_6 fl_X7_43 ht rfl (64 * t + 1) rfl ?_))
  refine gf_icmpge C 35 dX7_pairsBefore_9 (by decide) (fun _ => ?_) (fun _ => ?_)
  · refine gf_iload_n C dX7_pairsBefore_12 rfl rfl (gf_aload_n C dX7_pairsBefore_13 rfl rfl (gf_iload_n C dX7_pairsBefore_14 rfl rfl ?_))
    refine gf_callV (ε2 := eI) C [.int v2] dX7_pairsBefore_15 mw_X7_earlierThan ml_X7_129 ht (fun rZ hZ eZ => ok_X7_earlierThan t v2 ht h3 rZ hZ eZ) rfl rfl rfl (Nat.le_of_ble_eq_true rfl) (Nat.le_of_ble_eq_true rfl) (Nat.le_of_ble_eq_true rfl) (fun r5 h6 => ?_)
    refine gf_iconst C dX7_pairsBefore_18 ki_1 (gf_iload_n C dX7_pairsBefore_19 rfl rfl (gf_ishl C dX7_pairsBefore_20 (gf_iconst C dX7_pairsBefore_21 ki_m1 (gf_ixor C dX7_pairsBefore_22 (gf_iand C dX7_pairsBefore_23 ?_)))))
    refine gf_callS (ε2 := eI) C [.int (r5 &&& (((1 : Int32) <<< (v2 &&& 31)) ^^^ (-1 : Int32)))] dX7_pairsBefore_24 mw_J6_bitCount_0f7a4 ml_X7_132 (fun rZ hZ eZ => ok_J6_bitCount_0f7a4 (r5 &&& (((1 : Int32) <<< (v2 &&& 31)) ^^^ (-1 : Int32))) h6 rZ hZ eZ) rfl rfl rfl (Nat.le_of_ble_eq_true rfl) (Nat.le_of_ble_eq_true rfl) (Nat.le_of_ble_eq_true rfl) (fun r7 h8 => ?_)
    refine gf_iadd C dX7_pairsBefore_27 ?_
    refine gf_jlI (fun x9 => ?_)
    refine gf_istore_n C dX7_pairsBefore_28 rfl [some (.ref t), some (.int x9), some (.int v2)] rfl rfl (Nat.le_of_ble_eq_true rfl) (gf_iinc C dX7_pairsBefore_29 rfl (ii_1 _) [some (.ref t), some (.int x9), some (.int (v2 + (1 : Int32)))] rfl rfl ?_)
    refine gf_goto C 4 dX7_pairsBefore_32 (by decide) ?_
    exact gf_sub [some (.ref t), some (.int x9), some (.int (v2 + (1 : Int32)))] (And.intro rfl (And.intro rfl (And.intro rfl trivial))) (kc4 x9 (v2 + (1 : Int32)) h8)
  · refine gf_iload_n C dX7_pairsBefore_35 rfl rfl ?_
    exact gf_iret C dX7_pairsBefore_36 rfl
def F_X8_clear (h : Hp) : Option (Unit × Hp) :=
  bd (F_J7_fill_53178 115 3 (-1 : Int32) h) (fun _ h1 => some ((), h1))
set_option maxRecDepth 100000 in
set_option maxHeartbeats 4000000 in
theorem ok_X8_clear (h : Hp) (rZ : Unit) (hZ : Hp) (eZ : F_X8_clear h = some (rZ, hZ)) : AC yX8_clear cX8_clear 1 (none) 1 23 [.ref 114] h (eV rZ) hZ := by
  refine AC_intro (o := F_X8_clear h) RX8 rfl (plainFor_of_name (by decide)) [some (.ref 114)] rfl (fun _ => rfl) (fun _ => Nat.le_of_ble_eq_true rfl) eZ (fun K C => ?_)
  unfold F_X8_clear
  refine gf_aload_n C dX8_clear_0 rfl rfl (gf_getR C dX8_clear_1 fl_X8_11 s_114 rfl 115 rfl (gf_iconst C dX8_clear_4 ki_m1 ?_))
  refine gf_callS (ε2 := eV) C [.ref 115, .int (-1 : Int32)] dX8_clear_5 mw_J7_fill_53178 ml_X8_22 (fun rZ hZ eZ => ok_J7_fill_53178 115 3 (-1 : Int32) s_115 h rZ hZ eZ) rfl rfl rfl (Nat.le_of_ble_eq_true rfl) (Nat.le_of_ble_eq_true rfl) (Nat.le_of_ble_eq_true rfl) (fun _ h1 => ?_)
  exact gf_vret C dX8_clear_8 rfl
def F_X8_has (a1 : Int32) (h : Hp) : Option (Int32 × Hp) :=
  jn (fun (s1 : Int32) (h2 : Hp) =>
  gd (isB s1) ( some (s1, h2))) (fun j3 => jn (fun (h5 : Hp) =>
  j3 (0 : Int32) h5) (fun j6 => if a1 < 0 then (
  j6 h) else (
  if a1 < (3 : Int32) then (
  j3 (1 : Int32) h) else (
  j6 h))))
set_option maxRecDepth 100000 in
set_option maxHeartbeats 4000000 in
theorem ok_X8_has (a1 : Int32) (h : Hp) (rZ : Int32) (hZ : Hp) (eZ : F_X8_has a1 h = some (rZ, hZ)) : AC yX8_has cX8_has 2 (some .boolean) 0 0 [.ref 114, .int a1] h (eI rZ) hZ := by
  refine AC_intro (o := F_X8_has a1 h) RX8 rfl (plainFor_of_name (by decide)) [some (.ref 114), some (.int a1)] rfl (fun _ => rfl) (fun _ => Nat.le_of_ble_eq_true rfl) eZ (fun K C => ?_)
  unfold F_X8_has
  refine gf_iload_n C dX8_has_0 rfl rfl ?_
  refine gf_jn (fun (j3 : Int32 → Hp → Option (Int32 × Hp)) => ∀ (s1 : Int32) (h2 : Hp), GF K eI h2 14 [none, none] [.int s1] (j3 s1 h2)) ?_ (fun j3 kj3 => ?_)
  · intro s1 h2
    refine gf_gd (fun b4 => ?_)
    exact gf_zret C dX8_has_14 (isB_nar b4) rfl
  refine gf_jn (fun (j6 : Hp → Option (Int32 × Hp)) => ∀ (h5 : Hp), GF K eI h5 13 [none, none] [] (j6 h5)) ?_ (fun j6 kj6 => ?_)
  · intro h5
    refine gf_iconst C dX8_has_13 ki_0 ?_
    exact gf_sub [none, none] trivial (kj3 (0 : Int32) h5)
  refine gf_iflt C 13 dX8_has_1 (by decide) (fun _ => ?_) (fun _ => ?_)
  · exact gf_sub [none, none] trivial (kj6 h)
  · refine gf_iload_n C dX8_has_4 rfl rfl (gf_iconst C dX8_has_5 ki_3 ?_)
    refine gf_icmpge C 13 dX8_has_6 (by decide) (fun _ => ?_) (fun _ => ?_)
    · refine gf_iconst C dX8_has_9 ki_1 ?_
      refine gf_goto C 14 dX8_has_10 (by decide) ?_
      exact gf_sub [none, none] trivial (kj3 (1 : Int32) h)
    · exact gf_sub [none, none] trivial (kj6 h)
def F_X8_sizeOf (a1 : Int32) (h : Hp) : Option (Int32 × Hp) :=
  bd (F_X8_has a1 h) (fun r1 h2 => jn (fun (s3 : Int32) (h4 : Hp) =>
  some (s3, h4)) (fun j5 => if r1 = 0 then (
  j5 (-1 : Int32) h2) else (
  gd (inb a1 3) ( j5 (aG h2 115 a1.toNatClampNeg) h2))))
set_option maxRecDepth 100000 in
set_option maxHeartbeats 4000000 in
theorem ok_X8_sizeOf (a1 : Int32) (h : Hp) (rZ : Int32) (hZ : Hp) (eZ : F_X8_sizeOf a1 h = some (rZ, hZ)) : AC yX8_sizeOf cX8_sizeOf 2 (some .int) 1 21 [.ref 114, .int a1] h (eI rZ) hZ := by
  refine AC_intro (o := F_X8_sizeOf a1 h) RX8 rfl (plainFor_of_name (by decide)) [some (.ref 114), some (.int a1)] rfl (fun _ => rfl) (fun _ => Nat.le_of_ble_eq_true rfl) eZ (fun K C => ?_)
  unfold F_X8_sizeOf
  refine gf_aload_n C dX8_sizeOf_0 rfl rfl (gf_iload_n C dX8_sizeOf_1 rfl rfl ?_)
  refine gf_callV (ε2 := eI) C [.int a1] dX8_sizeOf_2 mw_X8_has ml_X8_28 s_114 (fun rZ hZ eZ => ok_X8_has a1 h rZ hZ eZ) rfl rfl rfl (Nat.le_of_ble_eq_true rfl) (Nat.le_of_ble_eq_true rfl) (Nat.le_of_ble_eq_true rfl) (fun r1 h2 => ?_)
  refine gf_jn (fun (j5 : Int32 → Hp → Option (Int32 × Hp)) => ∀ (s3 : Int32) (h4 : Hp), GF K eI h4 18 [none, none] [.int s3] (j5 s3 h4)) ?_ (fun j5 kj5 => ?_)
  · intro s3 h4
    exact gf_iret C dX8_sizeOf_18 rfl
  refine gf_ifeq C 17 dX8_sizeOf_5 (by decide) (fun _ => ?_) (fun _ => ?_)
  · refine gf_iconst C dX8_sizeOf_17 ki_m1 ?_
    exact gf_sub [none, none] trivial (kj5 (-1 : Int32) h2)
  · refine gf_aload_n C dX8_sizeOf_8 rfl rfl (gf_getR C dX8_sizeOf_9 fl_X8_11 s_114 rfl 115 rfl (gf_iload_n C dX8_sizeOf_12 rfl rfl (gf_iald C dX8_sizeOf_13 s_115 ?_)))
    refine gf_goto C 18 dX8_sizeOf_14 (by decide) ?_
    exact gf_sub [none, none] trivial (kj5 (aG h2 115 a1.toNatClampNeg) h2)
def F_X8_isMissing (a1 : Int32) (h : Hp) : Option (Int32 × Hp) :=
  bd (F_X8_sizeOf a1 h) (fun r1 h2 => jn (fun (s3 : Int32) (h4 : Hp) =>
  gd (isB s3) ( some (s3, h4))) (fun j5 => if r1 = (-1 : Int32) then (
  j5 (1 : Int32) h2) else (
  j5 (0 : Int32) h2)))
set_option maxRecDepth 100000 in
set_option maxHeartbeats 4000000 in
theorem ok_X8_isMissing (a1 : Int32) (h : Hp) (rZ : Int32) (hZ : Hp) (eZ : F_X8_isMissing a1 h = some (rZ, hZ)) : AC yX8_isMissing cX8_isMissing 2 (some .boolean) 2 42 [.ref 114, .int a1] h (eI rZ) hZ := by
  refine AC_intro (o := F_X8_isMissing a1 h) RX8 rfl (plainFor_of_name (by decide)) [some (.ref 114), some (.int a1)] rfl (fun _ => rfl) (fun _ => Nat.le_of_ble_eq_true rfl) eZ (fun K C => ?_)
  unfold F_X8_isMissing
  refine gf_aload_n C dX8_isMissing_0 rfl rfl (gf_iload_n C dX8_isMissing_1 rfl rfl ?_)
  refine gf_callV (ε2 := eI) C [.int a1] dX8_isMissing_2 mw_X8_sizeOf ml_X8_32 s_114 (fun rZ hZ eZ => ok_X8_sizeOf a1 h rZ hZ eZ) rfl rfl rfl (Nat.le_of_ble_eq_true rfl) (Nat.le_of_ble_eq_true rfl) (Nat.le_of_ble_eq_true rfl) (fun r1 h2 => ?_)
  refine gf_iconst C dX8_isMissing_5 ki_m1 ?_
  refine gf_jn (fun (j5 : Int32 → Hp → Option (Int32 × Hp)) => ∀ (s3 : Int32) (h4 : Hp), GF K eI h4 14 [none, none] [.int s3] (j5 s3 h4)) ?_ (fun j5 kj5 => ?_)
  · intro s3 h4
    refine gf_gd (fun b6 => ?_)
    exact gf_zret C dX8_isMissing_14 (isB_nar b6) rfl
  refine gf_icmpne C 13 dX8_isMissing_6 (by decide) (fun _ => ?_) (fun _ => ?_)
  · refine gf_iconst C dX8_isMissing_9 ki_1 ?_
    refine gf_goto C 14 dX8_isMissing_10 (by decide) ?_
    exact gf_sub [none, none] trivial (kj5 (1 : Int32) h2)
  · refine gf_iconst C dX8_isMissing_13 ki_0 ?_
    exact gf_sub [none, none] trivial (kj5 (0 : Int32) h2)
def F_X8_hasPlace (a1 : Int32) (a2 : Int32) (h : Hp) : Option (Int32 × Hp) :=
  jn (fun (s1 : Int32) (h2 : Hp) =>
  gd (isB s1) ( some (s1, h2))) (fun j3 => jn (fun (h5 : Hp) =>
  j3 (0 : Int32) h5) (fun j6 => if a2 < 0 then (
  j6 h) else (
  if a2 < (8 : Int32) then (
  bd (F_X8_sizeOf a1 h) (fun r7 h8 => if a2 < r7 then (
  j3 (1 : Int32) h8) else (
  j6 h8))) else (
  j6 h))))
set_option maxRecDepth 100000 in
set_option maxHeartbeats 4000000 in
theorem ok_X8_hasPlace (a1 : Int32) (a2 : Int32) (h : Hp) (rZ : Int32) (hZ : Hp) (eZ : F_X8_hasPlace a1 a2 h = some (rZ, hZ)) : AC yX8_hasPlace cX8_hasPlace 3 (some .boolean) 2 42 [.ref 114, .int a1, .int a2] h (eI rZ) hZ := by
  refine AC_intro (o := F_X8_hasPlace a1 a2 h) RX8 rfl (plainFor_of_name (by decide)) [some (.ref 114), some (.int a1), some (.int a2)] rfl (fun _ => rfl) (fun _ => Nat.le_of_ble_eq_true rfl) eZ (fun K C => ?_)
  unfold F_X8_hasPlace
  refine gf_iload_n C dX8_hasPlace_0 rfl rfl ?_
  refine gf_jn (fun (j3 : Int32 → Hp → Option (Int32 × Hp)) => ∀ (s1 : Int32) (h2 : Hp), GF K eI h2 24 [none, none, none] [.int s1] (j3 s1 h2)) ?_ (fun j3 kj3 => ?_)
  · intro s1 h2
    refine gf_gd (fun b4 => ?_)
    exact gf_zret C dX8_hasPlace_24 (isB_nar b4) rfl
  refine gf_jn (fun (j6 : Hp → Option (Int32 × Hp)) => ∀ (h5 : Hp), GF K eI h5 23 [none, none, none] [] (j6 h5)) ?_ (fun j6 kj6 => ?_)
  · intro h5
    refine gf_iconst C dX8_hasPlace_23 ki_0 ?_
    exact gf_sub [none, none, none] trivial (kj3 (0 : Int32) h5)
  refine gf_iflt C 23 dX8_hasPlace_1 (by decide) (fun _ => ?_) (fun _ => ?_)
  · exact gf_sub [none, none, none] trivial (kj6 h)
  · refine gf_iload_n C dX8_hasPlace_4 rfl rfl (gf_bipush C dX8_hasPlace_5 kb_8 ?_)
    refine gf_icmpge C 23 dX8_hasPlace_7 (by decide) (fun _ => ?_) (fun _ => ?_)
    · refine gf_iload_n C dX8_hasPlace_10 rfl rfl (gf_aload_n C dX8_hasPlace_11 rfl rfl (gf_iload_n C dX8_hasPlace_12 rfl rfl ?_))
      refine gf_callV (ε2 := eI) C [.int a1] dX8_hasPlace_13 mw_X8_sizeOf ml_X8_32 s_114 (fun rZ hZ eZ => ok_X8_sizeOf a1 h rZ hZ eZ) rfl rfl rfl (Nat.le_of_ble_eq_true rfl) (Nat.le_of_ble_eq_true rfl) (Nat.le_of_ble_eq_true rfl) (fun r7 h8 => ?_)
      refine gf_icmpge C 23 dX8_hasPlace_16 (by decide) (fun _ => ?_) (fun _ => ?_)
      · refine gf_iconst C dX8_hasPlace_19 ki_1 ?_
        refine gf_goto C 24 dX8_hasPlace_20 (by decide) ?_
        exact gf_sub [none, none, none] trivial (kj3 (1 : Int32) h8)
      · exact gf_sub [none, none, none] trivial (kj6 h8)
    · exact gf_sub [none, none, none] trivial (kj6 h)
def F_X8_put (a1 : Int32) (a2 : Int32) (a3 : Int64) (h : Hp) : Option (Unit × Hp) :=
  bd (F_X8_hasPlace a1 a2 h) (fun r1 h2 => jn (fun (h3 : Hp) =>
  some ((), h3)) (fun j4 => if r1 = 0 then (
  j4 h2) else (
  gd (inb ((a1 * (8 : Int32)) + a2) 24) ( jl (lS h2 116 ((a1 * (8 : Int32)) + a2).toNatClampNeg a3) (fun h5 => j4 h5)))))
set_option maxRecDepth 100000 in
set_option maxHeartbeats 4000000 in
theorem ok_X8_put (a1 : Int32) (a2 : Int32) (a3 : Int64) (h : Hp) (rZ : Unit) (hZ : Hp) (eZ : F_X8_put a1 a2 a3 h = some (rZ, hZ)) : AC yX8_put cX8_put 5 (none) 3 64 [.ref 114, .int a1, .int a2, .long a3] h (eV rZ) hZ := by
  refine AC_intro (o := F_X8_put a1 a2 a3 h) RX8 rfl (plainFor_of_name (by decide)) [some (.ref 114), some (.int a1), some (.int a2), some (.long a3), none] rfl (fun _ => rfl) (fun _ => Nat.le_of_ble_eq_true rfl) eZ (fun K C => ?_)
  unfold F_X8_put
  refine gf_aload_n C dX8_put_0 rfl rfl (gf_iload_n C dX8_put_1 rfl rfl (gf_iload_n C dX8_put_2 rfl rfl ?_))
  refine gf_callV (ε2 := eI) C [.int a1, .int a2] dX8_put_3 mw_X8_hasPlace ml_X8_40 s_114 (fun rZ hZ eZ => ok_X8_hasPlace a1 a2 h rZ hZ eZ) rfl rfl rfl (Nat.le_of_ble_eq_true rfl) (Nat.le_of_ble_eq_true rfl) (Nat.le_of_ble_eq_true rfl) (fun r1 h2 => ?_)
  refine gf_jn (fun (j4 : Hp → Option (Unit × Hp)) => ∀ (h3 : Hp), GF K eV h3 21 [none, none, none, none, none] [] (j4 h3)) ?_ (fun j4 kj4 => ?_)
  · intro h3
    exact gf_vret C dX8_put_21 rfl
  refine gf_ifeq C 21 dX8_put_6 (by decide) (fun _ => ?_) (fun _ => ?_)
  · exact gf_sub [none, none, none, none, none] trivial (kj4 h2)
  · refine gf_aload_n C dX8_put_9 rfl rfl (gf_getR C dX8_put_10 fl_X8_15 s_114 rfl 116 rfl (gf_iload_n C dX8_put_13 rfl rfl (gf_bipush C dX8_put_14 kb_8 (gf_imul C dX8_put_16 (gf_iload_n C dX8_put_17 rfl rfl (gf_iadd C dX8_put_18 (gf_lload_n C dX8_put_19 rfl rfl ?_)))))))
    refine gf_last C dX8_put_20 s_116 ?_
    refine gf_jlH (fun h5 => ?_)
    exact gf_sub [none, none, none, none, none] trivial (kj4 h5)
def F_X8_renew (a1 : Int32) (a2 : Int32) (h : Hp) : Option (Unit × Hp) :=
  bd (F_X8_has a1 h) (fun r1 h2 => jn (fun (h3 : Hp) =>
  some ((), h3)) (fun j4 => if r1 = 0 then (
  j4 h2) else (
  if a2 < 0 then (
  j4 h2) else (
  if (8 : Int32) < a2 then (
  j4 h2) else (
  gd (inb a1 3) ( jl (aS h2 115 a1.toNatClampNeg a2) (fun h5 => (lp 4000000000 (fun (c8 : Int32 → Hp → Option (Unit × Hp)) (v6 : Int32) (h7 : Hp) =>
  if v6 < a2 then (
  bd (F_X8_put a1 v6 (0 : Int64) h7) (fun _ h9 => c8 (v6 + (1 : Int32)) h9)) else (
  some ((), h7))) (fun _ _ => none)) (0 : Int32) h5)))))))
set_option maxRecDepth 100000 in
set_option maxHeartbeats 4000000 in
theorem ok_X8_renew (a1 : Int32) (a2 : Int32) (h : Hp) (rZ : Unit) (hZ : Hp) (eZ : F_X8_renew a1 a2 h = some (rZ, hZ)) : AC yX8_renew cX8_renew 4 (none) 4 88 [.ref 114, .int a1, .int a2] h (eV rZ) hZ := by
  refine AC_intro (o := F_X8_renew a1 a2 h) RX8 rfl (plainFor_of_name (by decide)) [some (.ref 114), some (.int a1), some (.int a2), none] rfl (fun _ => rfl) (fun _ => Nat.le_of_ble_eq_true rfl) eZ (fun K C => ?_)
  unfold F_X8_renew
  refine gf_aload_n C dX8_renew_0 rfl rfl (gf_iload_n C dX8_renew_1 rfl rfl ?_)
  refine gf_callV (ε2 := eI) C [.int a1] dX8_renew_2 mw_X8_has ml_X8_28 s_114 (fun rZ hZ eZ => ok_X8_has a1 h rZ hZ eZ) rfl rfl rfl (Nat.le_of_ble_eq_true rfl) (Nat.le_of_ble_eq_true rfl) (Nat.le_of_ble_eq_true rfl) (fun r1 h2 => ?_)
  refine gf_jn (fun (j4 : Hp → Option (Unit × Hp)) => ∀ (h3 : Hp), GF K eV h3 18 [none, none, none, none] [] (j4 h3)) ?_ (fun j4 kj4 => ?_)
  · intro h3
    exact gf_vret C dX8_renew_18 rfl
  refine gf_ifeq C 18 dX8_renew_5 (by decide) (fun _ => ?_) (fun _ => ?_)
  · exact gf_sub [none, none, none, none] trivial (kj4 h2)
  · refine gf_iload_n C dX8_renew_8 rfl rfl ?_
    refine gf_iflt C 18 dX8_renew_9 (by decide) (fun _ => ?_) (fun _ => ?_)
    · exact gf_sub [none, none, none, none] trivial (kj4 h2)
    · refine gf_iload_n C dX8_renew_12 rfl rfl (gf_bipush C dX8_renew_13 kb_8 ?_)
      refine gf_icmple C 19 dX8_renew_15 (by decide) (fun _ => ?_) (fun _ => ?_)
      · exact gf_sub [none, none, none, none] trivial (kj4 h2)
      · refine gf_aload_n C dX8_renew_19 rfl rfl (gf_getR C dX8_renew_20 fl_X8_11 s_114 rfl 115 rfl (gf_iload_n C dX8_renew_23 rfl rfl (gf_iload_n C dX8_renew_24 rfl rfl (gf_iast C dX8_renew_25 s_115 ?_))))
        refine gf_jlH (fun h5 => ?_)
        refine gf_iconst C dX8_renew_26 ki_0 (gf_istore_n C dX8_renew_27 rfl [some (.ref 114), some (.int a1), some (.int a2), some (.int (0 : Int32))] rfl rfl (Nat.le_of_ble_eq_true rfl) ?_)
        refine gf_sub [some (.ref 114), some (.int a1), some (.int a2), some (.int (0 : Int32))] (And.intro rfl (And.intro rfl (And.intro rfl (And.intro rfl trivial)))) ?_
        refine lp_P (fun (c8 : Int32 → Hp → Option (Unit × Hp)) => ∀ (v6 : Int32) (h7 : Hp), GF K eV h7 28 [some (.ref 114), some (.int a1), some (.int a2), some (.int v6)] [] (c8 v6 h7)) (fun _ _ => gf_none) (fun c8 kc8 v6 h7 => ?_) (0 : Int32) h5
        refine gf_iload_n C dX8_renew_28 rfl rfl (gf_iload_n C dX8_renew_29 rfl rfl ?_)
        refine gf_icmpge C 46 dX8_renew_30 (by decide) (fun _ => ?_) (fun _ => ?_)
        · refine gf_aload_n C dX8_renew_33 rfl rfl (gf_iload_n C dX8_renew_34 rfl rfl (gf_iload_n C dX8_renew_35 rfl rfl (gf_lconst C dX8_renew_36 kl_0 ?_)))
          refine gf_callV (ε2 := eV) C [.int a1, .int v6, .long (0 : Int64)] dX8_renew_37 mw_X8_put ml_X8_36 s_114 (fun rZ hZ eZ => ok_X8_put a1 v6 (0 : Int64) h7 rZ hZ eZ) rfl rfl rfl (Nat.le_of_ble_eq_true rfl) (Nat.le_of_ble_eq_true rfl) (Nat.le_of_ble_eq_true rfl) (fun _ h9 => ?_)
          refine gf_iinc C dX8_renew_40 rfl (ii_1 _) [some (.ref 114), some (.int a1), some (.int a2), some (.int (v6 + (1 : Int32)))] rfl rfl ?_
          refine gf_goto C 28 dX8_renew_43 (by decide) ?_
          exact gf_sub [some (.ref 114), some (.int a1), some (.int a2), some (.int (v6 + (1 : Int32)))] (And.intro rfl (And.intro rfl (And.intro rfl (And.intro rfl trivial)))) (kc8 (v6 + (1 : Int32)) h9)
        · exact gf_vret C dX8_renew_46 rfl
def F_X8_at (a1 : Int32) (a2 : Int32) (h : Hp) : Option (Int64 × Hp) :=
  bd (F_X8_hasPlace a1 a2 h) (fun r1 h2 => jn (fun (s3 : Int64) (h4 : Hp) =>
  some (s3, h4)) (fun j5 => if r1 = 0 then (
  j5 (0 : Int64) h2) else (
  gd (inb ((a1 * (8 : Int32)) + a2) 24) ( j5 (lG h2 116 ((a1 * (8 : Int32)) + a2).toNatClampNeg) h2))))
set_option maxRecDepth 100000 in
set_option maxHeartbeats 4000000 in
theorem ok_X8_at (a1 : Int32) (a2 : Int32) (h : Hp) (rZ : Int64) (hZ : Hp) (eZ : F_X8_at a1 a2 h = some (rZ, hZ)) : AC yX8_at cX8_at 3 (some .long) 3 64 [.ref 114, .int a1, .int a2] h (eL rZ) hZ := by
  refine AC_intro (o := F_X8_at a1 a2 h) RX8 rfl (plainFor_of_name (by decide)) [some (.ref 114), some (.int a1), some (.int a2)] rfl (fun _ => rfl) (fun _ => Nat.le_of_ble_eq_true rfl) eZ (fun K C => ?_)
  unfold F_X8_at
  refine gf_aload_n C dX8_at_0 rfl rfl (gf_iload_n C dX8_at_1 rfl rfl (gf_iload_n C dX8_at_2 rfl rfl ?_))
  refine gf_callV (ε2 := eI) C [.int a1, .int a2] dX8_at_3 mw_X8_hasPlace ml_X8_40 s_114 (fun rZ hZ eZ => ok_X8_hasPlace a1 a2 h rZ hZ eZ) rfl rfl rfl (Nat.le_of_ble_eq_true rfl) (Nat.le_of_ble_eq_true rfl) (Nat.le_of_ble_eq_true rfl) (fun r1 h2 => ?_)
  refine gf_jn (fun (j5 : Int64 → Hp → Option (Int64 × Hp)) => ∀ (s3 : Int64) (h4 : Hp), GF K eL h4 24 [none, none, none] [.long s3] (j5 s3 h4)) ?_ (fun j5 kj5 => ?_)
  · intro s3 h4
    exact gf_lret C dX8_at_24 rfl
  refine gf_ifeq C 23 dX8_at_6 (by decide) (fun _ => ?_) (fun _ => ?_)
  · refine gf_lconst C dX8_at_23 kl_0 ?_
    exact gf_sub [none, none, none] trivial (kj5 (0 : Int64) h2)
  · refine gf_aload_n C dX8_at_9 rfl rfl (gf_getR C dX8_at_10 fl_X8_15 s_114 rfl 116 rfl (gf_iload_n C dX8_at_13 rfl rfl (gf_bipush C dX8_at_14 kb_8 (gf_imul C dX8_at_16 (gf_iload_n C dX8_at_17 rfl rfl (gf_iadd C dX8_at_18 (gf_lald C dX8_at_19 s_116 ?_)))))))
    refine gf_goto C 24 dX8_at_20 (by decide) ?_
    exact gf_sub [none, none, none] trivial (kj5 (lG h2 116 ((a1 * (8 : Int32)) + a2).toNatClampNeg) h2)
def F_X8_change (a1 : Int32) (a2 : Int32) (a3 : Int32) (a4 : Int32) (h : Hp) : Option (Unit × Hp) :=
  bd (F_X8_at a1 a2 h) (fun r1 h2 => jn (fun (h3 : Hp) =>
  bd (F_X8_put a1 a2 (tG h3 7296) h3) (fun _ h5 => some ((), h5))) (fun j4 => if a3 = 0 then (
  bd (F_X8_at a1 a4 h2) (fun r6 h7 => jl (tS h7 7296 (r1 &&& r6)) (fun h8 => j4 h8))) else (
  if a3 = (1 : Int32) then (
  bd (F_X8_at a1 a4 h2) (fun r9 h10 => jl (tS h10 7296 (r1 ||| r9)) (fun h11 => j4 h11))) else (
  jn (fun (s12 : Int64) (h13 : Hp) =>
  jl (tS h13 7296 s12) (fun h15 => j4 h15)) (fun j14 => if a3 = (2 : Int32) then (
  j14 (r1 <<< (a4.toInt64 &&& 63)) h2) else (
  j14 (r1 >>> (a4.toInt64 &&& 63)) h2))))))
set_option maxRecDepth 100000 in
set_option maxHeartbeats 4000000 in
theorem ok_X8_change (a1 : Int32) (a2 : Int32) (a3 : Int32) (a4 : Int32) (h : Hp) (rZ : Unit) (hZ : Hp) (eZ : F_X8_change a1 a2 a3 a4 h = some (rZ, hZ)) : AC yX8_change cX8_change 7 (none) 4 88 [.ref 114, .int a1, .int a2, .int a3, .int a4] h (eV rZ) hZ := by
  refine AC_intro (o := F_X8_change a1 a2 a3 a4 h) RX8 rfl (plainFor_of_name (by decide)) [some (.ref 114), some (.int a1), some (.int a2), some (.int a3), some (.int a4), none, none] rfl (fun _ => rfl) (fun _ => Nat.le_of_ble_eq_true rfl) eZ (fun K C => ?_)
  unfold F_X8_change
  refine gf_aload_n C dX8_change_0 rfl rfl (gf_iload_n C dX8_change_1 rfl rfl (gf_iload_n C dX8_change_2 rfl rfl ?_))
  refine gf_callV (ε2 := eL) C [.int a1, .int a2] dX8_change_3 mw_X8_at ml_X8_44 s_114 (fun rZ hZ eZ => ok_X8_at a1 a2 h rZ hZ eZ) rfl rfl rfl (Nat.le_of_ble_eq_true rfl) (Nat.le_of_ble_eq_true rfl) (Nat.le_of_ble_eq_true rfl) (fun r1 h2 => ?_)
  refine gf_lstore C dX8_change_6 [some (.ref 114), some (.int a1), some (.int a2), some (.int a3), some (.int a4), some (.long r1), none] rfl rfl (Nat.le_of_ble_eq_true rfl) (gf_iload_n C dX8_change_8 rfl rfl ?_)
  refine gf_jn (fun (j4 : Hp → Option (Unit × Hp)) => ∀ (h3 : Hp), GF K eV h3 73 [some (.ref 114), some (.int a1), some (.int a2), none, none, none, none] [] (j4 h3)) ?_ (fun j4 kj4 => ?_)
  · intro h3
    refine gf_aload_n C dX8_change_73 rfl rfl (gf_iload_n C dX8_change_74 rfl rfl (gf_iload_n C dX8_change_75 rfl rfl (gf_aload_n C dX8_change_76 rfl rfl (gf_getL C dX8_change_77 fl_X8_48 s_114 rfl 7296 rfl ?_))))
    refine gf_callV (ε2 := eV) C [.int a1, .int a2, .long (tG h3 7296)] dX8_change_80 mw_X8_put ml_X8_36 s_114 (fun rZ hZ eZ => ok_X8_put a1 a2 (tG h3 7296) h3 rZ hZ eZ) rfl rfl rfl (Nat.le_of_ble_eq_true rfl) (Nat.le_of_ble_eq_true rfl) (Nat.le_of_ble_eq_true rfl) (fun _ h5 => ?_)
    exact gf_vret C dX8_change_83 rfl
  refine gf_ifne C 29 dX8_change_9 (by decide) (fun _ => ?_) (fun _ => ?_)
  · refine gf_aload_n C dX8_change_12 rfl rfl (gf_lload C dX8_change_13 rfl (gf_aload_n C dX8_change_15 rfl rfl (gf_iload_n C dX8_change_16 rfl rfl (gf_iload C dX8_change_17 rfl ?_))))
    refine gf_callV (ε2 := eL) C [.int a1, .int a4] dX8_change_19 mw_X8_at ml_X8_44 s_114 (fun rZ hZ eZ => ok_X8_at a1 a4 h2 rZ hZ eZ) rfl rfl rfl (Nat.le_of_ble_eq_true rfl) (Nat.le_of_ble_eq_true rfl) (Nat.le_of_ble_eq_true rfl) (fun r6 h7 => ?_)
    refine gf_land C dX8_change_22 (gf_putL C dX8_change_23 fp_X8_48 s_114 rfl 7296 rfl ?_)
    refine gf_jlH (fun h8 => ?_)
    refine gf_goto C 73 dX8_change_26 (by decide) ?_
    exact gf_sub [some (.ref 114), some (.int a1), some (.int a2), none, none, none, none] (And.intro rfl (And.intro rfl (And.intro rfl trivial))) (kj4 h8)
  · refine gf_iload_n C dX8_change_29 rfl rfl (gf_iconst C dX8_change_30 ki_1 ?_)
    refine gf_icmpne C 51 dX8_change_31 (by decide) (fun _ => ?_) (fun _ => ?_)
    · refine gf_aload_n C dX8_change_34 rfl rfl (gf_lload C dX8_change_35 rfl (gf_aload_n C dX8_change_37 rfl rfl (gf_iload_n C dX8_change_38 rfl rfl (gf_iload C dX8_change_39 rfl ?_))))
      refine gf_callV (ε2 := eL) C [.int a1, .int a4] dX8_change_41 mw_X8_at ml_X8_44 s_114 (fun rZ hZ eZ => ok_X8_at a1 a4 h2 rZ hZ eZ) rfl rfl rfl (Nat.le_of_ble_eq_true rfl) (Nat.le_of_ble_eq_true rfl) (Nat.le_of_ble_eq_true rfl) (fun r9 h10 => ?_)
      refine gf_lor C dX8_change_44 (gf_putL C dX8_change_45 fp_X8_48 s_114 rfl 7296 rfl ?_)
      refine gf_jlH (fun h11 => ?_)
      refine gf_goto C 73 dX8_change_48 (by decide) ?_
      exact gf_sub [some (.ref 114), some (.int a1), some (.int a2), none, none, none, none] (And.intro rfl (And.intro rfl (And.intro rfl trivial))) (kj4 h11)
    · refine gf_aload_n C dX8_change_51 rfl rfl (gf_iload_n C dX8_change_52 rfl rfl (gf_iconst C dX8_change_53 ki_2 ?_))
      refine gf_jn (fun (j14 : Int64 → Hp → Option (Unit × Hp)) => ∀ (s12 : Int64) (h13 : Hp), GF K eV h13 70 [some (.ref 114), some (.int a1), some (.int a2), none, none, none, none] [.long s12, .ref 114] (j14 s12 h13)) ?_ (fun j14 kj14 => ?_)
      · intro s12 h13
        refine gf_putL C dX8_change_70 fp_X8_48 s_114 rfl 7296 rfl ?_
        refine gf_jlH (fun h15 => ?_)
        exact gf_sub [some (.ref 114), some (.int a1), some (.int a2), none, none, none, none] (And.intro rfl (And.intro rfl (And.intro rfl trivial))) (kj4 h15)
      refine gf_icmpne C 65 dX8_change_54 (by decide) (fun _ => ?_) (fun _ => ?_)
      · refine gf_lload C dX8_change_57 rfl (gf_iload C dX8_change_59 rfl (gf_lshl C dX8_change_61 ?_))
        refine gf_goto C 70 dX8_change_62 (by decide) ?_
        exact gf_sub [some (.ref 114), some (.int a1), some (.int a2), none, none, none, none] (And.intro rfl (And.intro rfl (And.intro rfl trivial))) (kj14 (r1 <<< (a4.toInt64 &&& 63)) h2)
      · refine gf_lload C dX8_change_65 rfl (gf_iload C dX8_change_67 rfl (gf_lshr C dX8_change_69 ?_))
        exact gf_sub [some (.ref 114), some (.int a1), some (.int a2), none, none, none, none] (And.intro rfl (And.intro rfl (And.intro rfl trivial))) (kj14 (r1 >>> (a4.toInt64 &&& 63)) h2)
def F_X8_addUp (a1 : Int32) (h : Hp) : Option (Int32 × Hp) :=
  bd (F_X8_sizeOf a1 h) (fun r1 h2 => jl (tS h2 7296 (0 : Int64)) (fun h3 => (lp 4000000000 (fun (c6 : Int32 → Hp → Option (Int32 × Hp)) (v4 : Int32) (h5 : Hp) =>
  if v4 < r1 then (
  bd (F_X8_at a1 v4 h5) (fun r7 h8 => jl (tS h8 7296 ((tG h5 7296) + r7)) (fun h9 => c6 (v4 + (1 : Int32)) h9))) else (
  some (r1, h5))) (fun _ _ => none)) (0 : Int32) h3))
set_option maxRecDepth 100000 in
set_option maxHeartbeats 4000000 in
theorem ok_X8_addUp (a1 : Int32) (h : Hp) (rZ : Int32) (hZ : Hp) (eZ : F_X8_addUp a1 h = some (rZ, hZ)) : AC yX8_addUp cX8_addUp 4 (some .int) 4 86 [.ref 114, .int a1] h (eI rZ) hZ := by
  refine AC_intro (o := F_X8_addUp a1 h) RX8 rfl (plainFor_of_name (by decide)) [some (.ref 114), some (.int a1), none, none] rfl (fun _ => rfl) (fun _ => Nat.le_of_ble_eq_true rfl) eZ (fun K C => ?_)
  unfold F_X8_addUp
  refine gf_aload_n C dX8_addUp_0 rfl rfl (gf_iload_n C dX8_addUp_1 rfl rfl ?_)
  refine gf_callV (ε2 := eI) C [.int a1] dX8_addUp_2 mw_X8_sizeOf ml_X8_32 s_114 (fun rZ hZ eZ => ok_X8_sizeOf a1 h rZ hZ eZ) rfl rfl rfl (Nat.le_of_ble_eq_true rfl) (Nat.le_of_ble_eq_true rfl) (Nat.le_of_ble_eq_true rfl) (fun r1 h2 => ?_)
  refine gf_istore_n C dX8_addUp_5 rfl [some (.ref 114), some (.int a1), some (.int r1), none] rfl rfl (Nat.le_of_ble_eq_true rfl) (gf_aload_n C dX8_addUp_6 rfl rfl (gf_lconst C dX8_addUp_7 kl_0 (gf_putL C dX8_addUp_8 fp_X8_48 s_114 rfl 7296 rfl ?_)))
  refine gf_jlH (fun h3 => ?_)
  refine gf_iconst C dX8_addUp_11 ki_0 (gf_istore_n C dX8_addUp_12 rfl [some (.ref 114), some (.int a1), some (.int r1), some (.int (0 : Int32))] rfl rfl (Nat.le_of_ble_eq_true rfl) ?_)
  refine gf_sub [some (.ref 114), some (.int a1), some (.int r1), some (.int (0 : Int32))] (And.intro rfl (And.intro rfl (And.intro rfl (And.intro rfl trivial)))) ?_
  refine lp_P (fun (c6 : Int32 → Hp → Option (Int32 × Hp)) => ∀ (v4 : Int32) (h5 : Hp), GF K eI h5 13 [some (.ref 114), some (.int a1), some (.int r1), some (.int v4)] [] (c6 v4 h5)) (fun _ _ => gf_none) (fun c6 kc6 v4 h5 => ?_) (0 : Int32) h3
  refine gf_iload_n C dX8_addUp_13 rfl rfl (gf_iload_n C dX8_addUp_14 rfl rfl ?_)
  refine gf_icmpge C 39 dX8_addUp_15 (by decide) (fun _ => ?_) (fun _ => ?_)
  · refine gf_aload_n C dX8_addUp_18 rfl rfl (gf_dup C dX8_addUp_19 rfl (gf_getL C dX8_addUp_20 fl_X8_48 s_114 rfl 7296 rfl (gf_aload_n C dX8_addUp_23 rfl rfl (gf_iload_n C dX8_addUp_24 rfl rfl (gf_iload_n C dX8_addUp_25 rfl rfl ?_)))))
    refine gf_callV (ε2 := eL) C [.int a1, .int v4] dX8_addUp_26 mw_X8_at ml_X8_44 s_114 (fun rZ hZ eZ => ok_X8_at a1 v4 h5 rZ hZ eZ) rfl rfl rfl (Nat.le_of_ble_eq_true rfl) (Nat.le_of_ble_eq_true rfl) (Nat.le_of_ble_eq_true rfl) (fun r7 h8 => ?_)
    refine gf_ladd C dX8_addUp_29 (gf_putL C dX8_addUp_30 fp_X8_48 s_114 rfl 7296 rfl ?_)
    refine gf_jlH (fun h9 => ?_)
    refine gf_iinc C dX8_addUp_33 rfl (ii_1 _) [some (.ref 114), some (.int a1), some (.int r1), some (.int (v4 + (1 : Int32)))] rfl rfl ?_
    refine gf_goto C 13 dX8_addUp_36 (by decide) ?_
    exact gf_sub [some (.ref 114), some (.int a1), some (.int r1), some (.int (v4 + (1 : Int32)))] (And.intro rfl (And.intro rfl (And.intro rfl (And.intro rfl trivial)))) (kc6 (v4 + (1 : Int32)) h9)
  · refine gf_iload_n C dX8_addUp_39 rfl rfl ?_
    exact gf_iret C dX8_addUp_40 rfl
def F_X8_remove (a1 : Int32) (h : Hp) : Option (Int32 × Hp) :=
  bd (F_X8_sizeOf a1 h) (fun r1 h2 => bd (F_X8_has a1 h2) (fun r3 h4 => jn (fun (h5 : Hp) =>
  some (r1, h5)) (fun j6 => if r3 = 0 then (
  j6 h4) else (
  gd (inb a1 3) ( jl (aS h4 115 a1.toNatClampNeg (-1 : Int32)) (fun h7 => j6 h7))))))
set_option maxRecDepth 100000 in
set_option maxHeartbeats 4000000 in
theorem ok_X8_remove (a1 : Int32) (h : Hp) (rZ : Int32) (hZ : Hp) (eZ : F_X8_remove a1 h = some (rZ, hZ)) : AC yX8_remove cX8_remove 3 (some .int) 2 42 [.ref 114, .int a1] h (eI rZ) hZ := by
  refine AC_intro (o := F_X8_remove a1 h) RX8 rfl (plainFor_of_name (by decide)) [some (.ref 114), some (.int a1), none] rfl (fun _ => rfl) (fun _ => Nat.le_of_ble_eq_true rfl) eZ (fun K C => ?_)
  unfold F_X8_remove
  refine gf_aload_n C dX8_remove_0 rfl rfl (gf_iload_n C dX8_remove_1 rfl rfl ?_)
  refine gf_callV (ε2 := eI) C [.int a1] dX8_remove_2 mw_X8_sizeOf ml_X8_32 s_114 (fun rZ hZ eZ => ok_X8_sizeOf a1 h rZ hZ eZ) rfl rfl rfl (Nat.le_of_ble_eq_true rfl) (Nat.le_of_ble_eq_true rfl) (Nat.le_of_ble_eq_true rfl) (fun r1 h2 => ?_)
  refine gf_istore_n C dX8_remove_5 rfl [some (.ref 114), some (.int a1), some (.int r1)] rfl rfl (Nat.le_of_ble_eq_true rfl) (gf_aload_n C dX8_remove_6 rfl rfl (gf_iload_n C dX8_remove_7 rfl rfl ?_))
  refine gf_callV (ε2 := eI) C [.int a1] dX8_remove_8 mw_X8_has ml_X8_28 s_114 (fun rZ hZ eZ => ok_X8_has a1 h2 rZ hZ eZ) rfl rfl rfl (Nat.le_of_ble_eq_true rfl) (Nat.le_of_ble_eq_true rfl) (Nat.le_of_ble_eq_true rfl) (fun r3 h4 => ?_)
  refine gf_jn (fun (j6 : Hp → Option (Int32 × Hp)) => ∀ (h5 : Hp), GF K eI h5 21 [none, none, some (.int r1)] [] (j6 h5)) ?_ (fun j6 kj6 => ?_)
  · intro h5
    refine gf_iload_n C dX8_remove_21 rfl rfl ?_
    exact gf_iret C dX8_remove_22 rfl
  refine gf_ifeq C 21 dX8_remove_11 (by decide) (fun _ => ?_) (fun _ => ?_)
  · exact gf_sub [none, none, some (.int r1)] (And.intro rfl trivial) (kj6 h4)
  · refine gf_aload_n C dX8_remove_14 rfl rfl (gf_getR C dX8_remove_15 fl_X8_11 s_114 rfl 115 rfl (gf_iload_n C dX8_remove_18 rfl rfl (gf_iconst C dX8_remove_19 ki_m1 (gf_iast C dX8_remove_20 s_115 ?_))))
    refine gf_jlH (fun h7 => ?_)
    exact gf_sub [none, none, some (.int r1)] (And.intro rfl trivial) (kj6 h7)
def F_X8_allPlaces (h : Hp) : Option (Int32 × Hp) :=
  (lp 4000000000 (fun (c4 : Int32 → Int32 → Hp → Option (Int32 × Hp)) (v1 : Int32) (v2 : Int32) (h3 : Hp) =>
  if v2 < (3 : Int32) then (
  bd (F_X8_sizeOf v2 h3) (fun r5 h6 => bd (F_J9_max_7cf53 (0 : Int32) r5 h6) (fun r7 h8 => jl (v1 + r7) (fun x9 => c4 x9 (v2 + (1 : Int32)) h8)))) else (
  some (v1, h3))) (fun _ _ _ => none)) (0 : Int32) (0 : Int32) h
set_option maxRecDepth 100000 in
set_option maxHeartbeats 4000000 in
theorem ok_X8_allPlaces (h : Hp) (rZ : Int32) (hZ : Hp) (eZ : F_X8_allPlaces h = some (rZ, hZ)) : AC yX8_allPlaces cX8_allPlaces 3 (some .int) 2 42 [.ref 114] h (eI rZ) hZ := by
  refine AC_intro (o := F_X8_allPlaces h) RX8 rfl (plainFor_of_name (by decide)) [some (.ref 114), none, none] rfl (fun _ => rfl) (fun _ => Nat.le_of_ble_eq_true rfl) eZ (fun K C => ?_)
  unfold F_X8_allPlaces
  refine gf_iconst C dX8_allPlaces_0 ki_0 (gf_istore_n C dX8_allPlaces_1 rfl [some (.ref 114), some (.int (0 : Int32)), none] rfl rfl (Nat.le_of_ble_eq_true rfl) (gf_iconst C dX8_allPlaces_2 ki_0 (gf_istore_n C dX8_allPlaces_3 rfl [some (.ref 114), some (.int (0 : Int32)), some (.int (0 : Int32))] rfl rfl (Nat.le_of_ble_eq_true rfl) ?_)))
  refine gf_sub [some (.ref 114), some (.int (0 : Int32)), some (.int (0 : Int32))] (And.intro rfl (And.intro rfl (And.intro rfl trivial))) ?_
  refine lp_P (fun (c4 : Int32 → Int32 → Hp → Option (Int32 × Hp)) => ∀ (v1 : Int32) (v2 : Int32) (h3 : Hp), GF K eI h3 4 [some (.ref 114), some (.int v1), some (.int v2)] [] (c4 v1 v2 h3)) (fun _ _ _ => gf_none) (fun c4 kc4 v1 v2 h3 => ?_) (0 : Int32) (0 : Int32) h
  refine gf_iload_n C dX8_allPlaces_4 rfl rfl (gf_iconst C dX8_allPlaces_5 ki_3 ?_)
  refine gf_icmpge C 27 dX8_allPlaces_6 (by decide) (fun _ => ?_) (fun _ => ?_)
  · refine gf_iload_n C dX8_allPlaces_9 rfl rfl (gf_iconst C dX8_allPlaces_10 ki_0 (gf_aload_n C dX8_allPlaces_11 rfl rfl (gf_iload_n C dX8_allPlaces_12 rfl rfl ?_)))
    refine gf_callV (ε2 := eI) C [.int v2] dX8_allPlaces_13 mw_X8_sizeOf ml_X8_32 s_114 (fun rZ hZ eZ => ok_X8_sizeOf v2 h3 rZ hZ eZ) rfl rfl rfl (Nat.le_of_ble_eq_true rfl) (Nat.le_of_ble_eq_true rfl) (Nat.le_of_ble_eq_true rfl) (fun r5 h6 => ?_)
    refine gf_callS (ε2 := eI) C [.int (0 : Int32), .int r5] dX8_allPlaces_16 mw_J9_max_7cf53 ml_X8_52 (fun rZ hZ eZ => ok_J9_max_7cf53 (0 : Int32) r5 h6 rZ hZ eZ) rfl rfl rfl (Nat.le_of_ble_eq_true rfl) (Nat.le_of_ble_eq_true rfl) (Nat.le_of_ble_eq_true rfl) (fun r7 h8 => ?_)
    refine gf_iadd C dX8_allPlaces_19 ?_
    refine gf_jlI (fun x9 => ?_)
    refine gf_istore_n C dX8_allPlaces_20 rfl [some (.ref 114), some (.int x9), some (.int v2)] rfl rfl (Nat.le_of_ble_eq_true rfl) (gf_iinc C dX8_allPlaces_21 rfl (ii_1 _) [some (.ref 114), some (.int x9), some (.int (v2 + (1 : Int32)))] rfl rfl ?_)
    refine gf_goto C 4 dX8_allPlaces_24 (by decide) ?_
    exact gf_sub [some (.ref 114), some (.int x9), some (.int (v2 + (1 : Int32)))] (And.intro rfl (And.intro rfl (And.intro rfl trivial))) (kc4 x9 (v2 + (1 : Int32)) h8)
  · refine gf_iload_n C dX8_allPlaces_27 rfl rfl ?_
    exact gf_iret C dX8_allPlaces_28 rfl
def F_X10_add (a1 : Int32) (h : Hp) : Option (Int32 × Hp) :=
  jn (fun (h1 : Hp) =>
  some ((0 : Int32), h1)) (fun j2 => if (sG h 64) < 0 then (
  j2 h) else (
  if (sG h 64) < (200 : Int32) then (
  gd (inb (sG h 64) 200) ( jl (aS h 2 (sG h 64).toNatClampNeg a1) (fun h3 => jl (sS h3 64 ((sG h3 64) + (1 : Int32))) (fun h4 => some ((1 : Int32), h4))))) else (
  j2 h)))
set_option maxRecDepth 100000 in
set_option maxHeartbeats 4000000 in
theorem ok_X10_add (a1 : Int32) (h : Hp) (rZ : Int32) (hZ : Hp) (eZ : F_X10_add a1 h = some (rZ, hZ)) : AC yX10_add cX10_add 2 (some .boolean) 0 0 [.ref 1, .int a1] h (eI rZ) hZ := by
  refine AC_intro (o := F_X10_add a1 h) RX10 rfl (plainFor_of_name (by decide)) [some (.ref 1), some (.int a1)] rfl (fun _ => rfl) (fun _ => Nat.le_of_ble_eq_true rfl) eZ (fun K C => ?_)
  unfold F_X10_add
  refine gf_aload_n C dX10_add_0 rfl rfl (gf_getI C dX10_add_1 fl_X10_15 s_1 rfl 64 rfl ?_)
  refine gf_jn (fun (j2 : Hp → Option (Int32 × Hp)) => ∀ (h1 : Hp), GF K eI h1 17 [none, none] [] (j2 h1)) ?_ (fun j2 kj2 => ?_)
  · intro h1
    refine gf_iconst C dX10_add_17 ki_0 ?_
    exact gf_zret C dX10_add_18 rfl rfl
  refine gf_iflt C 17 dX10_add_4 (by decide) (fun _ => ?_) (fun _ => ?_)
  · exact gf_sub [none, none] trivial (kj2 h)
  · refine gf_aload_n C dX10_add_7 rfl rfl (gf_getI C dX10_add_8 fl_X10_15 s_1 rfl 64 rfl (gf_sipush C dX10_add_11 ks_200 ?_))
    refine gf_icmplt C 19 dX10_add_14 (by decide) (fun _ => ?_) (fun _ => ?_)
    · refine gf_aload_n C dX10_add_19 rfl rfl (gf_getR C dX10_add_20 fl_X10_9 s_1 rfl 2 rfl (gf_aload_n C dX10_add_23 rfl rfl (gf_getI C dX10_add_24 fl_X10_15 s_1 rfl 64 rfl (gf_iload_n C dX10_add_27 rfl rfl (gf_iast C dX10_add_28 s_2 ?_)))))
      refine gf_jlH (fun h3 => ?_)
      refine gf_aload_n C dX10_add_29 rfl rfl (gf_dup C dX10_add_30 rfl (gf_getI C dX10_add_31 fl_X10_15 s_1 rfl 64 rfl (gf_iconst C dX10_add_34 ki_1 (gf_iadd C dX10_add_35 (gf_putI C dX10_add_36 fp_X10_15 s_1 rfl 64 rfl ?_)))))
      refine gf_jlH (fun h4 => ?_)
      refine gf_iconst C dX10_add_39 ki_1 ?_
      exact gf_zret C dX10_add_40 rfl rfl
    · exact gf_sub [none, none] trivial (kj2 h)
def F_X10_clear (h : Hp) : Option (Int32 × Hp) :=
  jl (sG h 64) (fun x1 => jl (sS h 64 (0 : Int32)) (fun h2 => some (x1, h2)))
set_option maxRecDepth 100000 in
set_option maxHeartbeats 4000000 in
theorem ok_X10_clear (h : Hp) (rZ : Int32) (hZ : Hp) (eZ : F_X10_clear h = some (rZ, hZ)) : AC yX10_clear cX10_clear 2 (some .int) 0 0 [.ref 1] h (eI rZ) hZ := by
  refine AC_intro (o := F_X10_clear h) RX10 rfl (plainFor_of_name (by decide)) [some (.ref 1), none] rfl (fun _ => rfl) (fun _ => Nat.le_of_ble_eq_true rfl) eZ (fun K C => ?_)
  unfold F_X10_clear
  refine gf_aload_n C dX10_clear_0 rfl rfl (gf_getI C dX10_clear_1 fl_X10_15 s_1 rfl 64 rfl ?_)
  refine gf_jlI (fun x1 => ?_)
  refine gf_istore_n C dX10_clear_4 rfl [some (.ref 1), some (.int x1)] rfl rfl (Nat.le_of_ble_eq_true rfl) (gf_aload_n C dX10_clear_5 rfl rfl (gf_iconst C dX10_clear_6 ki_0 (gf_putI C dX10_clear_7 fp_X10_15 s_1 rfl 64 rfl ?_)))
  refine gf_jlH (fun h2 => ?_)
  refine gf_iload_n C dX10_clear_10 rfl rfl ?_
  exact gf_iret C dX10_clear_11 rfl
def F_X10_wholeWord (h : Hp) : Option (Int32 × Hp) :=
  (lp 4000000000 (fun (c5 : Int32 → Int32 → Int32 → Hp → Option (Int32 × Hp)) (v1 : Int32) (v2 : Int32) (v3 : Int32) (h4 : Hp) =>
  if v3 < (sG h4 64) then (
  bd (F_X10_letterAt v3 h4) (fun r6 h7 => jn (fun (v8 : Int32) (v9 : Int32) (h10 : Hp) =>
  c5 v8 v9 (v3 + (1 : Int32)) h10) (fun j11 => if r6 = (32 : Int32) then (
  j11 v1 v2 h7) else (
  bd (F_X10_kindOf r6 h7) (fun r12 h13 => jn (fun (h14 : Hp) =>
  some ((-1 : Int32), h14)) (fun j15 => if r12 = (1 : Int32) then (
  if v2 = (5 : Int32) then (
  j15 h13) else (
  bd (F_X11_lengthened v1 r6 h13) (fun r16 h17 => j11 r16 (v2 + (1 : Int32)) h17))) else (
  j15 h13))))))) else (
  jn (fun (s18 : Int32) (h19 : Hp) =>
  some (s18, h19)) (fun j20 => if v2 = 0 then (
  j20 (-1 : Int32) h4) else (
  j20 v1 h4)))) (fun _ _ _ _ => none)) (0 : Int32) (0 : Int32) (0 : Int32) h
set_option maxRecDepth 100000 in
set_option maxHeartbeats 4000000 in
theorem ok_X10_wholeWord (h : Hp) (rZ : Int32) (hZ : Hp) (eZ : F_X10_wholeWord h = some (rZ, hZ)) : AC yX10_wholeWord cX10_wholeWord 5 (some .int) 1 21 [.ref 1] h (eI rZ) hZ := by
  refine AC_intro (o := F_X10_wholeWord h) RX10 rfl (plainFor_of_name (by decide)) [some (.ref 1), none, none, none, none] rfl (fun _ => rfl) (fun _ => Nat.le_of_ble_eq_true rfl) eZ (fun K C => ?_)
  unfold F_X10_wholeWord
  refine gf_iconst C dX10_wholeWord_0 ki_0 (gf_istore_n C dX10_wholeWord_1 rfl [some (.ref 1), some (.int (0 : Int32)), none, none, none] rfl rfl (Nat.le_of_ble_eq_true rfl) (gf_iconst C dX10_wholeWord_2 ki_0 (gf_istore_n C dX10_wholeWord_3 rfl [some (.ref 1), some (.int (0 : Int32)), some (.int (0 : Int32)), none, none] rfl rfl (Nat.le_of_ble_eq_true rfl) (gf_iconst C dX10_wholeWord_4 ki_0 (gf_istore_n C dX10_wholeWord_5 rfl [some (.ref 1), some (.int (0 : Int32)), some (.int (0 : Int32)), some (.int (0 : Int32)), none] rfl rfl (Nat.le_of_ble_eq_true rfl) ?_)))))
  refine gf_sub [some (.ref 1), some (.int (0 : Int32)), some (.int (0 : Int32)), some (.int (0 : Int32)), none] (And.intro rfl (And.intro rfl (And.intro rfl (And.intro rfl trivial)))) ?_
  refine lp_P (fun (c5 : Int32 → Int32 → Int32 → Hp → Option (Int32 × Hp)) => ∀ (v1 : Int32) (v2 : Int32) (v3 : Int32) (h4 : Hp), GF K eI h4 6 [some (.ref 1), some (.int v1), some (.int v2), some (.int v3), none] [] (c5 v1 v2 v3 h4)) (fun _ _ _ _ => gf_none) (fun c5 kc5 v1 v2 v3 h4 => ?_) (0 : Int32) (0 : Int32) (0 : Int32) h
  refine gf_iload_n C dX10_wholeWord_6 rfl rfl (gf_aload_n C dX10_wholeWord_7 rfl rfl (gf_getI C dX10_wholeWord_8 fl_X10_15 s_1 rfl 64 rfl ?_))
  refine gf_icmpge C 63 dX10_wholeWord_11 (by decide) (fun _ => ?_) (fun _ => ?_)
  · refine gf_aload_n C dX10_wholeWord_14 rfl rfl (gf_iload_n C dX10_wholeWord_15 rfl rfl ?_)
    refine gf_callV (ε2 := eI) C [.int v3] dX10_wholeWord_16 mw_X10_letterAt ml_X10_19 s_1 (fun rZ hZ eZ => ok_X10_letterAt v3 h4 rZ hZ eZ) rfl rfl rfl (Nat.le_of_ble_eq_true rfl) (Nat.le_of_ble_eq_true rfl) (Nat.le_of_ble_eq_true rfl) (fun r6 h7 => ?_)
    refine gf_istore C dX10_wholeWord_19 [some (.ref 1), some (.int v1), some (.int v2), some (.int v3), some (.int r6)] rfl rfl (Nat.le_of_ble_eq_true rfl) (gf_iload C dX10_wholeWord_21 rfl (gf_bipush C dX10_wholeWord_23 kb_32 ?_))
    refine gf_jn (fun (j11 : Int32 → Int32 → Hp → Option (Int32 × Hp)) => ∀ (v8 : Int32) (v9 : Int32) (h10 : Hp), GF K eI h10 57 [some (.ref 1), some (.int v8), some (.int v9), some (.int v3), none] [] (j11 v8 v9 h10)) ?_ (fun j11 kj11 => ?_)
    · intro v8 v9 h10
      refine gf_iinc C dX10_wholeWord_57 rfl (ii_1 _) [some (.ref 1), some (.int v8), some (.int v9), some (.int (v3 + (1 : Int32))), none] rfl rfl ?_
      refine gf_goto C 6 dX10_wholeWord_60 (by decide) ?_
      exact gf_sub [some (.ref 1), some (.int v8), some (.int v9), some (.int (v3 + (1 : Int32))), none] (And.intro rfl (And.intro rfl (And.intro rfl (And.intro rfl trivial)))) (kc5 v8 v9 (v3 + (1 : Int32)) h10)
    refine gf_icmpne C 31 dX10_wholeWord_25 (by decide) (fun _ => ?_) (fun _ => ?_)
    · refine gf_goto C 57 dX10_wholeWord_28 (by decide) ?_
      exact gf_sub [some (.ref 1), some (.int v1), some (.int v2), some (.int v3), none] (And.intro rfl (And.intro rfl (And.intro rfl (And.intro rfl trivial)))) (kj11 v1 v2 h7)
    · refine gf_iload C dX10_wholeWord_31 rfl ?_
      refine gf_callS (ε2 := eI) C [.int r6] dX10_wholeWord_33 mw_X10_kindOf ml_X10_23 (fun rZ hZ eZ => ok_X10_kindOf r6 h7 rZ hZ eZ) rfl rfl rfl (Nat.le_of_ble_eq_true rfl) (Nat.le_of_ble_eq_true rfl) (Nat.le_of_ble_eq_true rfl) (fun r12 h13 => ?_)
      refine gf_iconst C dX10_wholeWord_36 ki_1 ?_
      refine gf_jn (fun (j15 : Hp → Option (Int32 × Hp)) => ∀ (h14 : Hp), GF K eI h14 45 [none, none, none, none, none] [] (j15 h14)) ?_ (fun j15 kj15 => ?_)
      · intro h14
        refine gf_iconst C dX10_wholeWord_45 ki_m1 ?_
        exact gf_iret C dX10_wholeWord_46 rfl
      refine gf_icmpne C 45 dX10_wholeWord_37 (by decide) (fun _ => ?_) (fun _ => ?_)
      · refine gf_iload_n C dX10_wholeWord_40 rfl rfl (gf_iconst C dX10_wholeWord_41 ki_5 ?_)
        refine gf_icmpne C 47 dX10_wholeWord_42 (by decide) (fun _ => ?_) (fun _ => ?_)
        · exact gf_sub [none, none, none, none, none] trivial (kj15 h13)
        · refine gf_iload_n C dX10_wholeWord_47 rfl rfl (gf_iload C dX10_wholeWord_48 rfl ?_)
          refine gf_callSN (ε2 := eI) C [.int v1, .int r6] dX10_wholeWord_50 mw_X11_lengthened ml_X10_26 (fun rZ hZ eZ => ok_X11_lengthened v1 r6 h13 rZ hZ eZ) rfl rfl rfl (Nat.le_of_ble_eq_true rfl) (Nat.le_of_ble_eq_true rfl) (Nat.le_of_ble_eq_true rfl) (fun r16 h17 => ?_)
          refine gf_istore_n C dX10_wholeWord_53 rfl [some (.ref 1), some (.int r16), some (.int v2), some (.int v3), some (.int r6)] rfl rfl (Nat.le_of_ble_eq_true rfl) (gf_iinc C dX10_wholeWord_54 rfl (ii_1 _) [some (.ref 1), some (.int r16), some (.int (v2 + (1 : Int32))), some (.int v3), some (.int r6)] rfl rfl ?_)
          exact gf_sub [some (.ref 1), some (.int r16), some (.int (v2 + (1 : Int32))), some (.int v3), none] (And.intro rfl (And.intro rfl (And.intro rfl (And.intro rfl trivial)))) (kj11 r16 (v2 + (1 : Int32)) h17)
      · exact gf_sub [none, none, none, none, none] trivial (kj15 h13)
  · refine gf_iload_n C dX10_wholeWord_63 rfl rfl ?_
    refine gf_jn (fun (j20 : Int32 → Hp → Option (Int32 × Hp)) => ∀ (s18 : Int32) (h19 : Hp), GF K eI h19 72 [none, none, none, none, none] [.int s18] (j20 s18 h19)) ?_ (fun j20 kj20 => ?_)
    · intro s18 h19
      exact gf_iret C dX10_wholeWord_72 rfl
    refine gf_ifne C 71 dX10_wholeWord_64 (by decide) (fun _ => ?_) (fun _ => ?_)
    · refine gf_iconst C dX10_wholeWord_67 ki_m1 ?_
      refine gf_goto C 72 dX10_wholeWord_68 (by decide) ?_
      exact gf_sub [none, none, none, none, none] trivial (kj20 (-1 : Int32) h4)
    · refine gf_iload_n C dX10_wholeWord_71 rfl rfl ?_
      exact gf_sub [none, none, none, none, none] trivial (kj20 v1 h4)
def F_X11_write (a1 : Int32) (h : Hp) : Option (Int32 × Hp) :=
  jn (fun (h1 : Hp) =>
  some ((-3 : Int32), h1)) (fun j2 => if a1 < 0 then (
  j2 h) else (
  if (255 : Int32) < a1 then (
  j2 h) else (
  bd (F_X10_add a1 h) (fun r3 h4 => jn (fun (s5 : Int32) (h6 : Hp) =>
  some (s5, h6)) (fun j7 => if r3 = 0 then (
  j7 (-5 : Int32) h4) else (
  j7 (sG h4 64) h4))))))
set_option maxRecDepth 100000 in
set_option maxHeartbeats 4000000 in
theorem ok_X11_write (a1 : Int32) (h : Hp) (rZ : Int32) (hZ : Hp) (eZ : F_X11_write a1 h = some (rZ, hZ)) : AC yX11_write cX11_write 2 (some .int) 1 21 [.ref 0, .int a1] h (eI rZ) hZ := by
  refine AC_intro (o := F_X11_write a1 h) RX11 rfl (plainFor_of_name (by decide)) [some (.ref 0), some (.int a1)] rfl (fun _ => rfl) (fun _ => Nat.le_of_ble_eq_true rfl) eZ (fun K C => ?_)
  unfold F_X11_write
  refine gf_iload_n C dX11_write_0 rfl rfl ?_
  refine gf_jn (fun (j2 : Hp → Option (Int32 × Hp)) => ∀ (h1 : Hp), GF K eI h1 11 [none, none] [] (j2 h1)) ?_ (fun j2 kj2 => ?_)
  · intro h1
    refine gf_bipush C dX11_write_11 kb_m3 ?_
    exact gf_iret C dX11_write_13 rfl
  refine gf_iflt C 11 dX11_write_1 (by decide) (fun _ => ?_) (fun _ => ?_)
  · exact gf_sub [none, none] trivial (kj2 h)
  · refine gf_iload_n C dX11_write_4 rfl rfl (gf_sipush C dX11_write_5 ks_255 ?_)
    refine gf_icmple C 14 dX11_write_8 (by decide) (fun _ => ?_) (fun _ => ?_)
    · exact gf_sub [none, none] trivial (kj2 h)
    · refine gf_aload_n C dX11_write_14 rfl rfl (gf_getR C dX11_write_15 fl_X11_12 s_0 rfl 1 rfl (gf_iload_n C dX11_write_18 rfl rfl ?_))
      refine gf_callV (ε2 := eI) C [.int a1] dX11_write_19 mw_X10_add ml_X11_74 s_1 (fun rZ hZ eZ => ok_X10_add a1 h rZ hZ eZ) rfl rfl rfl (Nat.le_of_ble_eq_true rfl) (Nat.le_of_ble_eq_true rfl) (Nat.le_of_ble_eq_true rfl) (fun r3 h4 => ?_)
      refine gf_jn (fun (j7 : Int32 → Hp → Option (Int32 × Hp)) => ∀ (s5 : Int32) (h6 : Hp), GF K eI h6 37 [none, none] [.int s5] (j7 s5 h6)) ?_ (fun j7 kj7 => ?_)
      · intro s5 h6
        exact gf_iret C dX11_write_37 rfl
      refine gf_ifeq C 35 dX11_write_22 (by decide) (fun _ => ?_) (fun _ => ?_)
      · refine gf_bipush C dX11_write_35 kb_m5 ?_
        exact gf_sub [none, none] trivial (kj7 (-5 : Int32) h4)
      · refine gf_aload_n C dX11_write_25 rfl rfl (gf_getR C dX11_write_26 fl_X11_12 s_0 rfl 1 rfl (gf_getI C dX11_write_29 fl_X11_78 s_1 rfl 64 rfl ?_))
        refine gf_goto C 37 dX11_write_32 (by decide) ?_
        exact gf_sub [none, none] trivial (kj7 (sG h4 64) h4)
def F_X11_erase (h : Hp) : Option (Int32 × Hp) :=
  bd (F_X10_clear h) (fun r1 h2 => some (r1, h2))
set_option maxRecDepth 100000 in
set_option maxHeartbeats 4000000 in
theorem ok_X11_erase (h : Hp) (rZ : Int32) (hZ : Hp) (eZ : F_X11_erase h = some (rZ, hZ)) : AC yX11_erase cX11_erase 1 (some .int) 1 21 [.ref 0] h (eI rZ) hZ := by
  refine AC_intro (o := F_X11_erase h) RX11 rfl (plainFor_of_name (by decide)) [some (.ref 0)] rfl (fun _ => rfl) (fun _ => Nat.le_of_ble_eq_true rfl) eZ (fun K C => ?_)
  unfold F_X11_erase
  refine gf_aload_n C dX11_erase_0 rfl rfl (gf_getR C dX11_erase_1 fl_X11_12 s_0 rfl 1 rfl ?_)
  refine gf_callV (ε2 := eI) C [] dX11_erase_4 mw_X10_clear ml_X11_82 s_1 (fun rZ hZ eZ => ok_X10_clear  h rZ hZ eZ) rfl rfl rfl (Nat.le_of_ble_eq_true rfl) (Nat.le_of_ble_eq_true rfl) (Nat.le_of_ble_eq_true rfl) (fun r1 h2 => ?_)
  exact gf_iret C dX11_erase_7 rfl
def F_X11_fault (h : Hp) : Option (Int32 × Hp) :=
  bd (F_X6_read 3 h) (fun r1 h2 => some (r1, h2))
set_option maxRecDepth 100000 in
set_option maxHeartbeats 4000000 in
theorem ok_X11_fault (h : Hp) (rZ : Int32) (hZ : Hp) (eZ : F_X11_fault h = some (rZ, hZ)) : AC yX11_fault cX11_fault 1 (some .int) 9 190 [.ref 0] h (eI rZ) hZ := by
  refine AC_intro (o := F_X11_fault h) RX11 rfl (plainFor_of_name (by decide)) [some (.ref 0)] rfl (fun _ => rfl) (fun _ => Nat.le_of_ble_eq_true rfl) eZ (fun K C => ?_)
  unfold F_X11_fault
  refine gf_aload_n C dX11_fault_0 rfl rfl (gf_getR C dX11_fault_1 fl_X11_28 s_0 rfl 12 rfl (gf_aload_n C dX11_fault_4 rfl rfl (gf_getR C dX11_fault_5 fl_X11_19 s_0 rfl 3 rfl ?_)))
  refine gf_callV (ε2 := eI) C [.ref 3] dX11_fault_8 mw_X6_read ml_X11_86 s_12 (fun rZ hZ eZ => ok_X6_read 3 s_3 h rZ hZ eZ) rfl rfl rfl (Nat.le_of_ble_eq_true rfl) (Nat.le_of_ble_eq_true rfl) (Nat.le_of_ble_eq_true rfl) (fun r1 h2 => ?_)
  exact gf_iret C dX11_fault_11 rfl
def F_X11_forgetFindings (h : Hp) : Option (Unit × Hp) :=
  jl (sS h 4800 (0 : Int32)) (fun h1 => jl (sS h1 5248 (0 : Int32)) (fun h2 => jl (sS h2 5504 (0 : Int32)) (fun h3 => bd (F_X1_forget h3) (fun _ h4 => some ((), h4)))))
set_option maxRecDepth 100000 in
set_option maxHeartbeats 4000000 in
theorem ok_X11_forgetFindings (h : Hp) (rZ : Unit) (hZ : Hp) (eZ : F_X11_forgetFindings h = some (rZ, hZ)) : AC yX11_forgetFindings cX11_forgetFindings 1 (none) 1 20 [.ref 0] h (eV rZ) hZ := by
  refine AC_intro (o := F_X11_forgetFindings h) RX11 rfl (plainFor_of_name (by decide)) [some (.ref 0)] rfl (fun _ => rfl) (fun _ => Nat.le_of_ble_eq_true rfl) eZ (fun K C => ?_)
  unfold F_X11_forgetFindings
  refine gf_aload_n C dX11_forgetFindings_0 rfl rfl (gf_getR C dX11_forgetFindings_1 fl_X11_42 s_0 rfl 75 rfl (gf_iconst C dX11_forgetFindings_4 ki_0 (gf_putZ C dX11_forgetFindings_5 fp_X11_342 s_75 rfl 4800 rfl rfl ?_)))
  refine gf_jlH (fun h1 => ?_)
  refine gf_aload_n C dX11_forgetFindings_8 rfl rfl (gf_getR C dX11_forgetFindings_9 fl_X11_49 s_0 rfl 82 rfl (gf_iconst C dX11_forgetFindings_12 ki_0 (gf_putZ C dX11_forgetFindings_13 fp_X11_346 s_82 rfl 5248 rfl rfl ?_)))
  refine gf_jlH (fun h2 => ?_)
  refine gf_aload_n C dX11_forgetFindings_16 rfl rfl (gf_getR C dX11_forgetFindings_17 fl_X11_56 s_0 rfl 86 rfl (gf_iconst C dX11_forgetFindings_20 ki_0 (gf_putZ C dX11_forgetFindings_21 fp_X11_347 s_86 rfl 5504 rfl rfl ?_)))
  refine gf_jlH (fun h3 => ?_)
  refine gf_aload_n C dX11_forgetFindings_24 rfl rfl (gf_getR C dX11_forgetFindings_25 fl_X11_63 s_0 rfl 91 rfl ?_)
  refine gf_callV (ε2 := eV) C [] dX11_forgetFindings_28 mw_X1_forget ml_X11_348 s_91 (fun rZ hZ eZ => ok_X1_forget  h3 rZ hZ eZ) rfl rfl rfl (Nat.le_of_ble_eq_true rfl) (Nat.le_of_ble_eq_true rfl) (Nat.le_of_ble_eq_true rfl) (fun _ h4 => ?_)
  exact gf_vret C dX11_forgetFindings_31 rfl
def F_X11_album (h : Hp) : Option (Int32 × Hp) :=
  bd (F_X6_read 3 h) (fun r1 h2 => if r1 = (-1 : Int32) then (
  bd (F_X0_copyFrom 3 13 h2) (fun _ h3 => bd (F_X10_clear h3) (fun r4 h5 => bd (F_X2_clear h5) (fun _ h6 => bd (F_X8_clear h6) (fun _ h7 => bd (F_X11_forgetFindings h7) (fun _ h8 => some (sG h8 769, h8))))))) else (
  some ((-4 : Int32), h2)))
set_option maxRecDepth 100000 in
set_option maxHeartbeats 4000000 in
theorem ok_X11_album (h : Hp) (rZ : Int32) (hZ : Hp) (eZ : F_X11_album h = some (rZ, hZ)) : AC yX11_album cX11_album 1 (some .int) 9 190 [.ref 0] h (eI rZ) hZ := by
  refine AC_intro (o := F_X11_album h) RX11 rfl (plainFor_of_name (by decide)) [some (.ref 0)] rfl (fun _ => rfl) (fun _ => Nat.le_of_ble_eq_true rfl) eZ (fun K C => ?_)
  unfold F_X11_album
  refine gf_aload_n C dX11_album_0 rfl rfl (gf_getR C dX11_album_1 fl_X11_28 s_0 rfl 12 rfl (gf_aload_n C dX11_album_4 rfl rfl (gf_getR C dX11_album_5 fl_X11_19 s_0 rfl 3 rfl ?_)))
  refine gf_callV (ε2 := eI) C [.ref 3] dX11_album_8 mw_X6_read ml_X11_86 s_12 (fun rZ hZ eZ => ok_X6_read 3 s_3 h rZ hZ eZ) rfl rfl rfl (Nat.le_of_ble_eq_true rfl) (Nat.le_of_ble_eq_true rfl) (Nat.le_of_ble_eq_true rfl) (fun r1 h2 => ?_)
  refine gf_iconst C dX11_album_11 ki_m1 ?_
  refine gf_icmpeq C 18 dX11_album_12 (by decide) (fun _ => ?_) (fun _ => ?_)
  · refine gf_aload_n C dX11_album_18 rfl rfl (gf_getR C dX11_album_19 fl_X11_19 s_0 rfl 3 rfl (gf_aload_n C dX11_album_22 rfl rfl (gf_getR C dX11_album_23 fl_X11_28 s_0 rfl 12 rfl (gf_getR C dX11_album_26 fl_X11_90 s_12 rfl 13 rfl ?_))))
    refine gf_callV (ε2 := eV) C [.ref 13] dX11_album_29 mw_X0_copyFrom ml_X11_93 s_3 (fun rZ hZ eZ => ok_X0_copyFrom 3 13 s_3 s_13 h2 rZ hZ eZ) rfl rfl rfl (Nat.le_of_ble_eq_true rfl) (Nat.le_of_ble_eq_true rfl) (Nat.le_of_ble_eq_true rfl) (fun _ h3 => ?_)
    refine gf_aload_n C dX11_album_32 rfl rfl (gf_getR C dX11_album_33 fl_X11_12 s_0 rfl 1 rfl ?_)
    refine gf_callV (ε2 := eI) C [] dX11_album_36 mw_X10_clear ml_X11_82 s_1 (fun rZ hZ eZ => ok_X10_clear  h3 rZ hZ eZ) rfl rfl rfl (Nat.le_of_ble_eq_true rfl) (Nat.le_of_ble_eq_true rfl) (Nat.le_of_ble_eq_true rfl) (fun r4 h5 => ?_)
    refine gf_pop C dX11_album_39 rfl (gf_aload_n C dX11_album_40 rfl rfl (gf_getR C dX11_album_41 fl_X11_35 s_0 rfl 22 rfl ?_))
    refine gf_callV (ε2 := eV) C [] dX11_album_44 mw_X2_clear ml_X11_97 s_22 (fun rZ hZ eZ => ok_X2_clear  h5 rZ hZ eZ) rfl rfl rfl (Nat.le_of_ble_eq_true rfl) (Nat.le_of_ble_eq_true rfl) (Nat.le_of_ble_eq_true rfl) (fun _ h6 => ?_)
    refine gf_aload_n C dX11_album_47 rfl rfl (gf_getR C dX11_album_48 fl_X11_70 s_0 rfl 114 rfl ?_)
    refine gf_callV (ε2 := eV) C [] dX11_album_51 mw_X8_clear ml_X11_99 s_114 (fun rZ hZ eZ => ok_X8_clear  h6 rZ hZ eZ) rfl rfl rfl (Nat.le_of_ble_eq_true rfl) (Nat.le_of_ble_eq_true rfl) (Nat.le_of_ble_eq_true rfl) (fun _ h7 => ?_)
    refine gf_aload_n C dX11_album_54 rfl rfl ?_
    refine gf_callV (ε2 := eV) C [] dX11_album_55 mw_X11_forgetFindings ml_X11_100 s_0 (fun rZ hZ eZ => ok_X11_forgetFindings  h7 rZ hZ eZ) rfl rfl rfl (Nat.le_of_ble_eq_true rfl) (Nat.le_of_ble_eq_true rfl) (Nat.le_of_ble_eq_true rfl) (fun _ h8 => ?_)
    refine gf_aload_n C dX11_album_58 rfl rfl (gf_getR C dX11_album_59 fl_X11_28 s_0 rfl 12 rfl (gf_getI C dX11_album_62 fl_X11_103 s_12 rfl 769 rfl ?_))
    exact gf_iret C dX11_album_65 rfl
  · refine gf_bipush C dX11_album_15 kb_m4 ?_
    exact gf_iret C dX11_album_17 rfl
def F_X11_find (h : Hp) : Option (Int32 × Hp) :=
  bd (F_X10_wholeWord h) (fun r1 h2 => bd (F_X0_pictureNamed 3 r1 h2) (fun r3 h4 => some (r3, h4)))
set_option maxRecDepth 100000 in
set_option maxHeartbeats 4000000 in
theorem ok_X11_find (h : Hp) (rZ : Int32) (hZ : Hp) (eZ : F_X11_find h = some (rZ, hZ)) : AC yX11_find cX11_find 1 (some .int) 2 45 [.ref 0] h (eI rZ) hZ := by
  refine AC_intro (o := F_X11_find h) RX11 rfl (plainFor_of_name (by decide)) [some (.ref 0)] rfl (fun _ => rfl) (fun _ => Nat.le_of_ble_eq_true rfl) eZ (fun K C => ?_)
  unfold F_X11_find
  refine gf_aload_n C dX11_find_0 rfl rfl (gf_getR C dX11_find_1 fl_X11_19 s_0 rfl 3 rfl (gf_aload_n C dX11_find_4 rfl rfl (gf_getR C dX11_find_5 fl_X11_12 s_0 rfl 1 rfl ?_)))
  refine gf_callV (ε2 := eI) C [] dX11_find_8 mw_X10_wholeWord ml_X11_106 s_1 (fun rZ hZ eZ => ok_X10_wholeWord  h rZ hZ eZ) rfl rfl rfl (Nat.le_of_ble_eq_true rfl) (Nat.le_of_ble_eq_true rfl) (Nat.le_of_ble_eq_true rfl) (fun r1 h2 => ?_)
  refine gf_callV (ε2 := eI) C [.int r1] dX11_find_11 mw_X0_pictureNamed ml_X11_109 s_3 (fun rZ hZ eZ => ok_X0_pictureNamed 3 r1 s_3 h2 rZ hZ eZ) rfl rfl rfl (Nat.le_of_ble_eq_true rfl) (Nat.le_of_ble_eq_true rfl) (Nat.le_of_ble_eq_true rfl) (fun r3 h4 => ?_)
  exact gf_iret C dX11_find_14 rfl
def F_X11_rulesNow (h : Hp) : Option (Unit × Hp) :=
  jn (fun (h1 : Hp) =>
  some ((), h1)) (fun j2 => if (sG h 4800) = 0 then (
  bd (F_X7_read 75 3 h) (fun _ h3 => j2 h3)) else (
  j2 h))
set_option maxRecDepth 100000 in
set_option maxHeartbeats 4000000 in
theorem ok_X11_rulesNow (h : Hp) (rZ : Unit) (hZ : Hp) (eZ : F_X11_rulesNow h = some (rZ, hZ)) : AC yX11_rulesNow cX11_rulesNow 1 (some (.object "AlbumHours$Rules")) 5 116 [.ref 0] h ((eR 75) rZ) hZ := by
  refine AC_intro (o := F_X11_rulesNow h) RX11 rfl (plainFor_of_name (by decide)) [some (.ref 0)] rfl (fun _ => rfl) (fun _ => Nat.le_of_ble_eq_true rfl) eZ (fun K C => ?_)
  unfold F_X11_rulesNow
  refine gf_aload_n C dX11_rulesNow_0 rfl rfl (gf_getR C dX11_rulesNow_1 fl_X11_42 s_0 rfl 75 rfl (gf_getI C dX11_rulesNow_4 fl_X11_342 s_75 rfl 4800 rfl ?_))
  refine gf_jn (fun (j2 : Hp → Option (Unit × Hp)) => ∀ (h1 : Hp), GF K (eR 75) h1 21 [some (.ref 0)] [] (j2 h1)) ?_ (fun j2 kj2 => ?_)
  · intro h1
    refine gf_aload_n C dX11_rulesNow_21 rfl rfl (gf_getR C dX11_rulesNow_22 fl_X11_42 s_0 rfl 75 rfl ?_)
    exact gf_aret C dX11_rulesNow_25 (Or.inl ⟨_, rfl⟩) rfl
  refine gf_ifne C 21 dX11_rulesNow_7 (by decide) (fun _ => ?_) (fun _ => ?_)
  · refine gf_aload_n C dX11_rulesNow_10 rfl rfl (gf_getR C dX11_rulesNow_11 fl_X11_42 s_0 rfl 75 rfl (gf_aload_n C dX11_rulesNow_14 rfl rfl (gf_getR C dX11_rulesNow_15 fl_X11_19 s_0 rfl 3 rfl ?_)))
    refine gf_callV (ε2 := eV) C [.ref 3] dX11_rulesNow_18 mw_X7_read ml_X11_351 s_75 (fun rZ hZ eZ => ok_X7_read 75 3 s_75 s_3 h rZ hZ eZ) rfl rfl rfl (Nat.le_of_ble_eq_true rfl) (Nat.le_of_ble_eq_true rfl) (Nat.le_of_ble_eq_true rfl) (fun _ h3 => ?_)
    exact gf_sub [some (.ref 0)] (And.intro rfl trivial) (kj2 h3)
  · exact gf_sub [some (.ref 0)] (And.intro rfl trivial) (kj2 h)
def F_X11_firstSlot (a1 : Int64) (h : Hp) : Option (Int32 × Hp) :=
  jn (fun (s1 : Int32) (h2 : Hp) =>
  some (s1, h2)) (fun j3 => if (lg_cmp a1 (0 : Int64)) = 0 then (
  j3 (-1 : Int32) h) else (
  bd (F_J13_numberOfTrailingZeros_95d88 a1 h) (fun r4 h5 => j3 r4 h5)))
set_option maxRecDepth 100000 in
set_option maxHeartbeats 4000000 in
theorem ok_X11_firstSlot (a1 : Int64) (h : Hp) (rZ : Int32) (hZ : Hp) (eZ : F_X11_firstSlot a1 h = some (rZ, hZ)) : AC yX11_firstSlot cX11_firstSlot 2 (some .int) 2 43 [.long a1] h (eI rZ) hZ := by
  refine AC_intro (o := F_X11_firstSlot a1 h) RX11 rfl (plainFor_of_name (by decide)) [some (.long a1), none] rfl (fun _ => rfl) (fun _ => Nat.le_of_ble_eq_true rfl) eZ (fun K C => ?_)
  unfold F_X11_firstSlot
  refine gf_lload_n C dX11_firstSlot_0 rfl rfl (gf_lconst C dX11_firstSlot_1 kl_0 (gf_lcmp C dX11_firstSlot_2 ?_))
  refine gf_jn (fun (j3 : Int32 → Hp → Option (Int32 × Hp)) => ∀ (s1 : Int32) (h2 : Hp), GF K eI h2 14 [none, none] [.int s1] (j3 s1 h2)) ?_ (fun j3 kj3 => ?_)
  · intro s1 h2
    exact gf_iret C dX11_firstSlot_14 rfl
  refine gf_ifne C 10 dX11_firstSlot_3 (by decide) (fun _ => ?_) (fun _ => ?_)
  · refine gf_iconst C dX11_firstSlot_6 ki_m1 ?_
    refine gf_goto C 14 dX11_firstSlot_7 (by decide) ?_
    exact gf_sub [none, none] trivial (kj3 (-1 : Int32) h)
  · refine gf_lload_n C dX11_firstSlot_10 rfl rfl ?_
    refine gf_callS (ε2 := eI) C [.long a1] dX11_firstSlot_11 mw_J13_numberOfTrailingZeros_95d88 ml_X11_358 (fun rZ hZ eZ => ok_J13_numberOfTrailingZeros_95d88 a1 h rZ hZ eZ) rfl rfl rfl (Nat.le_of_ble_eq_true rfl) (Nat.le_of_ble_eq_true rfl) (Nat.le_of_ble_eq_true rfl) (fun r4 h5 => ?_)
    exact gf_sub [none, none] trivial (kj3 r4 h5)
def F_X11_picture (a1 : Int32) (a2 : Int32) (h : Hp) : Option (Int32 × Hp) :=
  bd (F_X0_hasPicture 3 a1 h) (fun r1 h2 => if r1 = 0 then (
  some ((-2 : Int32), h2)) else (
  if a2 = (0 : Int32) then (
  bd (F_X0_wordLetters 3 a1 h2) (fun r3 h4 => some (r3, h4))) else (if a2 = (1 : Int32) then (
  bd (F_X5_manyOf 5 a1 h2) (fun r6 h7 => some (r6, h7))) else (if a2 = (2 : Int32) then (
  bd (F_X11_rulesNow h2) (fun _ h9 => bd (F_X7_windowOf 75 a1 h9) (fun r10 h11 => bd (F_J13_bitCount_95d88 r10 h11) (fun r12 h13 => some (r12, h13))))) else (if a2 = (3 : Int32) then (
  bd (F_X11_rulesNow h2) (fun _ h15 => bd (F_X7_windowOf 75 a1 h15) (fun r16 h17 => bd (F_X11_firstSlot r16 h17) (fun r18 h19 => some (r18, h19))))) else (if a2 = (4 : Int32) then (
  bd (F_X11_rulesNow h2) (fun _ h21 => bd (F_X7_windowOf 75 a1 h21) (fun r22 h23 => bd (F_X11_lastSlot r22 h23) (fun r24 h25 => some (r24, h25))))) else (if a2 = (5 : Int32) then (
  bd (F_X11_rulesNow h2) (fun _ h27 => bd (F_X7_earlierThan 75 a1 h27) (fun r28 h29 => bd (F_J6_bitCount_0f7a4 r28 h29) (fun r30 h31 => some (r30, h31))))) else (
  some ((-3 : Int32), h2)))))))))
set_option maxRecDepth 100000 in
set_option maxHeartbeats 4000000 in
theorem ok_X11_picture (a1 : Int32) (a2 : Int32) (h : Hp) (rZ : Int32) (hZ : Hp) (eZ : F_X11_picture a1 a2 h = some (rZ, hZ)) : AC yX11_picture cX11_picture 3 (some .int) 6 136 [.ref 0, .int a1, .int a2] h (eI rZ) hZ := by
  refine AC_intro (o := F_X11_picture a1 a2 h) RX11 rfl (plainFor_of_name (by decide)) [some (.ref 0), some (.int a1), some (.int a2)] rfl (fun _ => rfl) (fun _ => Nat.le_of_ble_eq_true rfl) eZ (fun K C => ?_)
  unfold F_X11_picture
  refine gf_aload_n C dX11_picture_0 rfl rfl (gf_getR C dX11_picture_1 fl_X11_19 s_0 rfl 3 rfl (gf_iload_n C dX11_picture_4 rfl rfl ?_))
  refine gf_callV (ε2 := eI) C [.int a1] dX11_picture_5 mw_X0_hasPicture ml_X11_113 s_3 (fun rZ hZ eZ => ok_X0_hasPicture 3 a1 s_3 h rZ hZ eZ) rfl rfl rfl (Nat.le_of_ble_eq_true rfl) (Nat.le_of_ble_eq_true rfl) (Nat.le_of_ble_eq_true rfl) (fun r1 h2 => ?_)
  refine gf_ifne C 14 dX11_picture_8 (by decide) (fun _ => ?_) (fun _ => ?_)
  · refine gf_bipush C dX11_picture_11 kb_m2 ?_
    exact gf_iret C dX11_picture_13 rfl
  · refine gf_iload_n C dX11_picture_14 rfl rfl ?_
    refine gf_swC (off := 37) C (0 : Int32) 52 dX11_picture_15 (by decide) (by decide) (by decide) (by decide) (fun _ => ?_) (fun c5 => ?_)
    · refine gf_aload_n C dX11_picture_52 rfl rfl (gf_getR C dX11_picture_53 fl_X11_19 s_0 rfl 3 rfl (gf_iload_n C dX11_picture_56 rfl rfl ?_))
      refine gf_callV (ε2 := eI) C [.int a1] dX11_picture_57 mw_X0_wordLetters ml_X11_116 s_3 (fun rZ hZ eZ => ok_X0_wordLetters 3 a1 s_3 h2 rZ hZ eZ) rfl rfl rfl (Nat.le_of_ble_eq_true rfl) (Nat.le_of_ble_eq_true rfl) (Nat.le_of_ble_eq_true rfl) (fun r3 h4 => ?_)
      exact gf_iret C dX11_picture_60 rfl
    refine gf_swC (off := 46) C (1 : Int32) 61 dX11_picture_15 (by decide) (by decide) (by decide) (by decide) (fun _ => ?_) (fun c8 => ?_)
    · refine gf_aload_n C dX11_picture_61 rfl rfl (gf_getR C dX11_picture_62 fl_X11_19 s_0 rfl 3 rfl (gf_getR C dX11_picture_65 fl_X11_119 s_3 rfl 5 rfl (gf_iload_n C dX11_picture_68 rfl rfl ?_)))
      refine gf_callV (ε2 := eI) C [.int a1] dX11_picture_69 mw_X5_manyOf ml_X11_123 s_5 (fun rZ hZ eZ => ok_X5_manyOf 5 a1 s_5 h2 rZ hZ eZ) rfl rfl rfl (Nat.le_of_ble_eq_true rfl) (Nat.le_of_ble_eq_true rfl) (Nat.le_of_ble_eq_true rfl) (fun r6 h7 => ?_)
      exact gf_iret C dX11_picture_72 rfl
    refine gf_swC (off := 58) C (2 : Int32) 73 dX11_picture_15 (by decide) (by decide) (by decide) (by decide) (fun _ => ?_) (fun c14 => ?_)
    · refine gf_aload_n C dX11_picture_73 rfl rfl ?_
      refine gf_callV (ε2 := (eR 75)) C [] dX11_picture_74 mw_X11_rulesNow ml_X11_128 s_0 (fun rZ hZ eZ => ok_X11_rulesNow  h2 rZ hZ eZ) rfl rfl rfl (Nat.le_of_ble_eq_true rfl) (Nat.le_of_ble_eq_true rfl) (Nat.le_of_ble_eq_true rfl) (fun _ h9 => ?_)
      refine gf_iload_n C dX11_picture_77 rfl rfl ?_
      refine gf_callV (ε2 := eL) C [.int a1] dX11_picture_78 mw_X7_windowOf ml_X11_132 s_75 (fun rZ hZ eZ => ok_X7_windowOf 75 a1 s_75 h9 rZ hZ eZ) rfl rfl rfl (Nat.le_of_ble_eq_true rfl) (Nat.le_of_ble_eq_true rfl) (Nat.le_of_ble_eq_true rfl) (fun r10 h11 => ?_)
      refine gf_callS (ε2 := eI) C [.long r10] dX11_picture_81 mw_J13_bitCount_95d88 ml_X11_136 (fun rZ hZ eZ => ok_J13_bitCount_95d88 r10 h11 rZ hZ eZ) rfl rfl rfl (Nat.le_of_ble_eq_true rfl) (Nat.le_of_ble_eq_true rfl) (Nat.le_of_ble_eq_true rfl) (fun r12 h13 => ?_)
      exact gf_iret C dX11_picture_84 rfl
    refine gf_swC (off := 70) C (3 : Int32) 85 dX11_picture_15 (by decide) (by decide) (by decide) (by decide) (fun _ => ?_) (fun c20 => ?_)
    · refine gf_aload_n C dX11_picture_85 rfl rfl ?_
      refine gf_callV (ε2 := (eR 75)) C [] dX11_picture_86 mw_X11_rulesNow ml_X11_128 s_0 (fun rZ hZ eZ => ok_X11_rulesNow  h2 rZ hZ eZ) rfl rfl rfl (Nat.le_of_ble_eq_true rfl) (Nat.le_of_ble_eq_true rfl) (Nat.le_of_ble_eq_true rfl) (fun _ h15 => ?_)
      refine gf_iload_n C dX11_picture_89 rfl rfl ?_
      refine gf_callV (ε2 := eL) C [.int a1] dX11_picture_90 mw_X7_windowOf ml_X11_132 s_75 (fun rZ hZ eZ => ok_X7_windowOf 75 a1 s_75 h15 rZ hZ eZ) rfl rfl rfl (Nat.le_of_ble_eq_true rfl) (Nat.le_of_ble_eq_true rfl) (Nat.le_of_ble_eq_true rfl) (fun r16 h17 => ?_)
      refine gf_callS (ε2 := eI) C [.long r16] dX11_picture_93 mw_X11_firstSlot ml_X11_142 (fun rZ hZ eZ => ok_X11_firstSlot r16 h17 rZ hZ eZ) rfl rfl rfl (Nat.le_of_ble_eq_true rfl) (Nat.le_of_ble_eq_true rfl) (Nat.le_of_ble_eq_true rfl) (fun r18 h19 => ?_)
      exact gf_iret C dX11_picture_96 rfl
    refine gf_swC (off := 82) C (4 : Int32) 97 dX11_picture_15 (by decide) (by decide) (by decide) (by decide) (fun _ => ?_) (fun c26 => ?_)
    · refine gf_aload_n C dX11_picture_97 rfl rfl ?_
      refine gf_callV (ε2 := (eR 75)) C [] dX11_picture_98 mw_X11_rulesNow ml_X11_128 s_0 (fun rZ hZ eZ => ok_X11_rulesNow  h2 rZ hZ eZ) rfl rfl rfl (Nat.le_of_ble_eq_true rfl) (Nat.le_of_ble_eq_true rfl) (Nat.le_of_ble_eq_true rfl) (fun _ h21 => ?_)
      refine gf_iload_n C dX11_picture_101 rfl rfl ?_
      refine gf_callV (ε2 := eL) C [.int a1] dX11_picture_102 mw_X7_windowOf ml_X11_132 s_75 (fun rZ hZ eZ => ok_X7_windowOf 75 a1 s_75 h21 rZ hZ eZ) rfl rfl rfl (Nat.le_of_ble_eq_true rfl) (Nat.le_of_ble_eq_true rfl) (Nat.le_of_ble_eq_true rfl) (fun r22 h23 => ?_)
      refine gf_callS (ε2 := eI) C [.long r22] dX11_picture_105 mw_X11_lastSlot ml_X11_145 (fun rZ hZ eZ => ok_X11_lastSlot r22 h23 rZ hZ eZ) rfl rfl rfl (Nat.le_of_ble_eq_true rfl) (Nat.le_of_ble_eq_true rfl) (Nat.le_of_ble_eq_true rfl) (fun r24 h25 => ?_)
      exact gf_iret C dX11_picture_108 rfl
    refine gf_swC (off := 94) C (5 : Int32) 109 dX11_picture_15 (by decide) (by decide) (by decide) (by decide) (fun _ => ?_) (fun c32 => ?_)
    · refine gf_aload_n C dX11_picture_109 rfl rfl ?_
      refine gf_callV (ε2 := (eR 75)) C [] dX11_picture_110 mw_X11_rulesNow ml_X11_128 s_0 (fun rZ hZ eZ => ok_X11_rulesNow  h2 rZ hZ eZ) rfl rfl rfl (Nat.le_of_ble_eq_true rfl) (Nat.le_of_ble_eq_true rfl) (Nat.le_of_ble_eq_true rfl) (fun _ h27 => ?_)
      refine gf_iload_n C dX11_picture_113 rfl rfl ?_
      refine gf_callV (ε2 := eI) C [.int a1] dX11_picture_114 mw_X7_earlierThan ml_X11_148 s_75 (fun rZ hZ eZ => ok_X7_earlierThan 75 a1 s_75 h27 rZ hZ eZ) rfl rfl rfl (Nat.le_of_ble_eq_true rfl) (Nat.le_of_ble_eq_true rfl) (Nat.le_of_ble_eq_true rfl) (fun r28 h29 => ?_)
      refine gf_callS (ε2 := eI) C [.int r28] dX11_picture_117 mw_J6_bitCount_0f7a4 ml_X11_151 (fun rZ hZ eZ => ok_J6_bitCount_0f7a4 r28 h29 rZ hZ eZ) rfl rfl rfl (Nat.le_of_ble_eq_true rfl) (Nat.le_of_ble_eq_true rfl) (Nat.le_of_ble_eq_true rfl) (fun r30 h31 => ?_)
      exact gf_iret C dX11_picture_120 rfl
    have c5 := lv_neT c5 (a := 0) (by decide)
    have c8 := lv_neT c8 (a := 1) (by decide)
    have c14 := lv_neT c14 (a := 2) (by decide)
    have c20 := lv_neT c20 (a := 3) (by decide)
    have c26 := lv_neT c26 (a := 4) (by decide)
    have c32 := lv_neT c32 (a := 5) (by decide)
    refine gf_swD C 121 dX11_picture_15 (by omega) (by decide) ?_
    refine gf_bipush C dX11_picture_121 kb_m3 ?_
    exact gf_iret C dX11_picture_123 rfl
def F_X11_thing (a1 : Int32) (a2 : Int32) (h : Hp) : Option (Int32 × Hp) :=
  bd (F_X0_hasThing 3 a1 h) (fun r1 h2 => if r1 = 0 then (
  some ((-2 : Int32), h2)) else (
  if a2 = (0 : Int32) then (
  bd (F_X0_kindOf 3 a1 h2) (fun r3 h4 => some (r3, h4))) else (if a2 = (1 : Int32) then (
  bd (F_X0_picturesSeeing 3 a1 (0 : Int32) h2) (fun r6 h7 => some (r6, h7))) else (if a2 = (2 : Int32) then (
  bd (F_X0_picturesSeeing 3 a1 (1 : Int32) h2) (fun r9 h10 => some (r9, h10))) else (
  some ((-3 : Int32), h2))))))
set_option maxRecDepth 100000 in
set_option maxHeartbeats 4000000 in
theorem ok_X11_thing (a1 : Int32) (a2 : Int32) (h : Hp) (rZ : Int32) (hZ : Hp) (eZ : F_X11_thing a1 a2 h = some (rZ, hZ)) : AC yX11_thing cX11_thing 3 (some .int) 3 67 [.ref 0, .int a1, .int a2] h (eI rZ) hZ := by
  refine AC_intro (o := F_X11_thing a1 a2 h) RX11 rfl (plainFor_of_name (by decide)) [some (.ref 0), some (.int a1), some (.int a2)] rfl (fun _ => rfl) (fun _ => Nat.le_of_ble_eq_true rfl) eZ (fun K C => ?_)
  unfold F_X11_thing
  refine gf_aload_n C dX11_thing_0 rfl rfl (gf_getR C dX11_thing_1 fl_X11_19 s_0 rfl 3 rfl (gf_iload_n C dX11_thing_4 rfl rfl ?_))
  refine gf_callV (ε2 := eI) C [.int a1] dX11_thing_5 mw_X0_hasThing ml_X11_155 s_3 (fun rZ hZ eZ => ok_X0_hasThing 3 a1 s_3 h rZ hZ eZ) rfl rfl rfl (Nat.le_of_ble_eq_true rfl) (Nat.le_of_ble_eq_true rfl) (Nat.le_of_ble_eq_true rfl) (fun r1 h2 => ?_)
  refine gf_ifne C 14 dX11_thing_8 (by decide) (fun _ => ?_) (fun _ => ?_)
  · refine gf_bipush C dX11_thing_11 kb_m2 ?_
    exact gf_iret C dX11_thing_13 rfl
  · refine gf_iload_n C dX11_thing_14 rfl rfl ?_
    refine gf_swC (off := 25) C (0 : Int32) 40 dX11_thing_15 (by decide) (by decide) (by decide) (by decide) (fun _ => ?_) (fun c5 => ?_)
    · refine gf_aload_n C dX11_thing_40 rfl rfl (gf_getR C dX11_thing_41 fl_X11_19 s_0 rfl 3 rfl (gf_iload_n C dX11_thing_44 rfl rfl ?_))
      refine gf_callV (ε2 := eI) C [.int a1] dX11_thing_45 mw_X0_kindOf ml_X11_158 s_3 (fun rZ hZ eZ => ok_X0_kindOf 3 a1 s_3 h2 rZ hZ eZ) rfl rfl rfl (Nat.le_of_ble_eq_true rfl) (Nat.le_of_ble_eq_true rfl) (Nat.le_of_ble_eq_true rfl) (fun r3 h4 => ?_)
      exact gf_iret C dX11_thing_48 rfl
    refine gf_swC (off := 34) C (1 : Int32) 49 dX11_thing_15 (by decide) (by decide) (by decide) (by decide) (fun _ => ?_) (fun c8 => ?_)
    · refine gf_aload_n C dX11_thing_49 rfl rfl (gf_getR C dX11_thing_50 fl_X11_19 s_0 rfl 3 rfl (gf_iload_n C dX11_thing_53 rfl rfl (gf_iconst C dX11_thing_54 ki_0 ?_)))
      refine gf_callV (ε2 := eI) C [.int a1, .int (0 : Int32)] dX11_thing_55 mw_X0_picturesSeeing ml_X11_161 s_3 (fun rZ hZ eZ => ok_X0_picturesSeeing 3 a1 (0 : Int32) s_3 h2 rZ hZ eZ) rfl rfl rfl (Nat.le_of_ble_eq_true rfl) (Nat.le_of_ble_eq_true rfl) (Nat.le_of_ble_eq_true rfl) (fun r6 h7 => ?_)
      exact gf_iret C dX11_thing_58 rfl
    refine gf_swC (off := 44) C (2 : Int32) 59 dX11_thing_15 (by decide) (by decide) (by decide) (by decide) (fun _ => ?_) (fun c11 => ?_)
    · refine gf_aload_n C dX11_thing_59 rfl rfl (gf_getR C dX11_thing_60 fl_X11_19 s_0 rfl 3 rfl (gf_iload_n C dX11_thing_63 rfl rfl (gf_iconst C dX11_thing_64 ki_1 ?_)))
      refine gf_callV (ε2 := eI) C [.int a1, .int (1 : Int32)] dX11_thing_65 mw_X0_picturesSeeing ml_X11_161 s_3 (fun rZ hZ eZ => ok_X0_picturesSeeing 3 a1 (1 : Int32) s_3 h2 rZ hZ eZ) rfl rfl rfl (Nat.le_of_ble_eq_true rfl) (Nat.le_of_ble_eq_true rfl) (Nat.le_of_ble_eq_true rfl) (fun r9 h10 => ?_)
      exact gf_iret C dX11_thing_68 rfl
    have c5 := lv_neT c5 (a := 0) (by decide)
    have c8 := lv_neT c8 (a := 1) (by decide)
    have c11 := lv_neT c11 (a := 2) (by decide)
    refine gf_swD C 69 dX11_thing_15 (by omega) (by decide) ?_
    refine gf_bipush C dX11_thing_69 kb_m3 ?_
    exact gf_iret C dX11_thing_71 rfl
def F_X11_piece (a1 : Int32) (a2 : Int32) (a3 : Int32) (h : Hp) : Option (Int32 × Hp) :=
  bd (F_X0_hasPicture 3 a1 h) (fun r1 h2 => if r1 = 0 then (
  some ((-2 : Int32), h2)) else (
  bd (F_X0_hasMatter 3 a2 h2) (fun r3 h4 => if r3 = 0 then (
  some ((-3 : Int32), h4)) else (
  if a3 = (0 : Int32) then (
  bd (F_X5_valueOf 5 a1 a2 h4) (fun r5 h6 => some (r5, h6))) else (if a3 = (1 : Int32) then (
  bd (F_X5_slackOf 5 a1 a2 h4) (fun r8 h9 => some (r8, h9))) else (if a3 = (2 : Int32) then (
  bd (F_X5_numberOf 5 a1 a2 h4) (fun r11 h12 => some (r11, h12))) else (
  some ((-3 : Int32), h4))))))))
set_option maxRecDepth 100000 in
set_option maxHeartbeats 4000000 in
theorem ok_X11_piece (a1 : Int32) (a2 : Int32) (a3 : Int32) (h : Hp) (rZ : Int32) (hZ : Hp) (eZ : F_X11_piece a1 a2 a3 h = some (rZ, hZ)) : AC yX11_piece cX11_piece 4 (some .int) 2 43 [.ref 0, .int a1, .int a2, .int a3] h (eI rZ) hZ := by
  refine AC_intro (o := F_X11_piece a1 a2 a3 h) RX11 rfl (plainFor_of_name (by decide)) [some (.ref 0), some (.int a1), some (.int a2), some (.int a3)] rfl (fun _ => rfl) (fun _ => Nat.le_of_ble_eq_true rfl) eZ (fun K C => ?_)
  unfold F_X11_piece
  refine gf_aload_n C dX11_piece_0 rfl rfl (gf_getR C dX11_piece_1 fl_X11_19 s_0 rfl 3 rfl (gf_iload_n C dX11_piece_4 rfl rfl ?_))
  refine gf_callV (ε2 := eI) C [.int a1] dX11_piece_5 mw_X0_hasPicture ml_X11_113 s_3 (fun rZ hZ eZ => ok_X0_hasPicture 3 a1 s_3 h rZ hZ eZ) rfl rfl rfl (Nat.le_of_ble_eq_true rfl) (Nat.le_of_ble_eq_true rfl) (Nat.le_of_ble_eq_true rfl) (fun r1 h2 => ?_)
  refine gf_ifne C 14 dX11_piece_8 (by decide) (fun _ => ?_) (fun _ => ?_)
  · refine gf_bipush C dX11_piece_11 kb_m2 ?_
    exact gf_iret C dX11_piece_13 rfl
  · refine gf_aload_n C dX11_piece_14 rfl rfl (gf_getR C dX11_piece_15 fl_X11_19 s_0 rfl 3 rfl (gf_iload_n C dX11_piece_18 rfl rfl ?_))
    refine gf_callV (ε2 := eI) C [.int a2] dX11_piece_19 mw_X0_hasMatter ml_X11_165 s_3 (fun rZ hZ eZ => ok_X0_hasMatter 3 a2 s_3 h2 rZ hZ eZ) rfl rfl rfl (Nat.le_of_ble_eq_true rfl) (Nat.le_of_ble_eq_true rfl) (Nat.le_of_ble_eq_true rfl) (fun r3 h4 => ?_)
    refine gf_ifne C 28 dX11_piece_22 (by decide) (fun _ => ?_) (fun _ => ?_)
    · refine gf_bipush C dX11_piece_25 kb_m3 ?_
      exact gf_iret C dX11_piece_27 rfl
    · refine gf_iload_n C dX11_piece_28 rfl rfl ?_
      refine gf_swC (off := 27) C (0 : Int32) 56 dX11_piece_29 (by decide) (by decide) (by decide) (by decide) (fun _ => ?_) (fun c7 => ?_)
      · refine gf_aload_n C dX11_piece_56 rfl rfl (gf_getR C dX11_piece_57 fl_X11_19 s_0 rfl 3 rfl (gf_getR C dX11_piece_60 fl_X11_119 s_3 rfl 5 rfl (gf_iload_n C dX11_piece_63 rfl rfl (gf_iload_n C dX11_piece_64 rfl rfl ?_))))
        refine gf_callV (ε2 := eI) C [.int a1, .int a2] dX11_piece_65 mw_X5_valueOf ml_X11_168 s_5 (fun rZ hZ eZ => ok_X5_valueOf 5 a1 a2 s_5 h4 rZ hZ eZ) rfl rfl rfl (Nat.le_of_ble_eq_true rfl) (Nat.le_of_ble_eq_true rfl) (Nat.le_of_ble_eq_true rfl) (fun r5 h6 => ?_)
        exact gf_iret C dX11_piece_68 rfl
      refine gf_swC (off := 40) C (1 : Int32) 69 dX11_piece_29 (by decide) (by decide) (by decide) (by decide) (fun _ => ?_) (fun c10 => ?_)
      · refine gf_aload_n C dX11_piece_69 rfl rfl (gf_getR C dX11_piece_70 fl_X11_19 s_0 rfl 3 rfl (gf_getR C dX11_piece_73 fl_X11_119 s_3 rfl 5 rfl (gf_iload_n C dX11_piece_76 rfl rfl (gf_iload_n C dX11_piece_77 rfl rfl ?_))))
        refine gf_callV (ε2 := eI) C [.int a1, .int a2] dX11_piece_78 mw_X5_slackOf ml_X11_171 s_5 (fun rZ hZ eZ => ok_X5_slackOf 5 a1 a2 s_5 h4 rZ hZ eZ) rfl rfl rfl (Nat.le_of_ble_eq_true rfl) (Nat.le_of_ble_eq_true rfl) (Nat.le_of_ble_eq_true rfl) (fun r8 h9 => ?_)
        exact gf_iret C dX11_piece_81 rfl
      refine gf_swC (off := 53) C (2 : Int32) 82 dX11_piece_29 (by decide) (by decide) (by decide) (by decide) (fun _ => ?_) (fun c13 => ?_)
      · refine gf_aload_n C dX11_piece_82 rfl rfl (gf_getR C dX11_piece_83 fl_X11_19 s_0 rfl 3 rfl (gf_getR C dX11_piece_86 fl_X11_119 s_3 rfl 5 rfl (gf_iload_n C dX11_piece_89 rfl rfl (gf_iload_n C dX11_piece_90 rfl rfl ?_))))
        refine gf_callV (ε2 := eI) C [.int a1, .int a2] dX11_piece_91 mw_X5_numberOf ml_X11_174 s_5 (fun rZ hZ eZ => ok_X5_numberOf 5 a1 a2 s_5 h4 rZ hZ eZ) rfl rfl rfl (Nat.le_of_ble_eq_true rfl) (Nat.le_of_ble_eq_true rfl) (Nat.le_of_ble_eq_true rfl) (fun r11 h12 => ?_)
        exact gf_iret C dX11_piece_94 rfl
      have c7 := lv_neT c7 (a := 0) (by decide)
      have c10 := lv_neT c10 (a := 1) (by decide)
      have c13 := lv_neT c13 (a := 2) (by decide)
      refine gf_swD C 95 dX11_piece_29 (by omega) (by decide) ?_
      refine gf_bipush C dX11_piece_95 kb_m3 ?_
      exact gf_iret C dX11_piece_97 rfl
def F_X11_told (a1 : Int32) (a2 : Int32) (h : Hp) : Option (Int32 × Hp) :=
  if a1 < 0 then (
  some ((-3 : Int32), h)) else (
  if a2 = (0 : Int32) then (
  bd (F_X5_pictureOf 5 a1 h) (fun r1 h2 => some (r1, h2))) else (if a2 = (1 : Int32) then (
  bd (F_X5_matterOf 5 a1 h) (fun r4 h5 => some (r4, h5))) else (
  some ((-3 : Int32), h))))
set_option maxRecDepth 100000 in
set_option maxHeartbeats 4000000 in
theorem ok_X11_told (a1 : Int32) (a2 : Int32) (h : Hp) (rZ : Int32) (hZ : Hp) (eZ : F_X11_told a1 a2 h = some (rZ, hZ)) : AC yX11_told cX11_told 3 (some .int) 2 43 [.ref 0, .int a1, .int a2] h (eI rZ) hZ := by
  refine AC_intro (o := F_X11_told a1 a2 h) RX11 rfl (plainFor_of_name (by decide)) [some (.ref 0), some (.int a1), some (.int a2)] rfl (fun _ => rfl) (fun _ => Nat.le_of_ble_eq_true rfl) eZ (fun K C => ?_)
  unfold F_X11_told
  refine gf_iload_n C dX11_told_0 rfl rfl ?_
  refine gf_ifge C 7 dX11_told_1 (by decide) (fun _ => ?_) (fun _ => ?_)
  · refine gf_bipush C dX11_told_4 kb_m3 ?_
    exact gf_iret C dX11_told_6 rfl
  · refine gf_iload_n C dX11_told_7 rfl rfl ?_
    refine gf_lkC (off := 28) C (0 : Int32) 36 dX11_told_8 (by decide) (by decide) (by decide) (fun _ => ?_) (fun c3 => ?_)
    · refine gf_aload_n C dX11_told_36 rfl rfl (gf_getR C dX11_told_37 fl_X11_19 s_0 rfl 3 rfl (gf_getR C dX11_told_40 fl_X11_119 s_3 rfl 5 rfl (gf_iload_n C dX11_told_43 rfl rfl ?_)))
      refine gf_callV (ε2 := eI) C [.int a1] dX11_told_44 mw_X5_pictureOf ml_X11_177 s_5 (fun rZ hZ eZ => ok_X5_pictureOf 5 a1 s_5 h rZ hZ eZ) rfl rfl rfl (Nat.le_of_ble_eq_true rfl) (Nat.le_of_ble_eq_true rfl) (Nat.le_of_ble_eq_true rfl) (fun r1 h2 => ?_)
      exact gf_iret C dX11_told_47 rfl
    refine gf_lkC (off := 40) C (1 : Int32) 48 dX11_told_8 (by decide) (by decide) (by decide) (fun _ => ?_) (fun c6 => ?_)
    · refine gf_aload_n C dX11_told_48 rfl rfl (gf_getR C dX11_told_49 fl_X11_19 s_0 rfl 3 rfl (gf_getR C dX11_told_52 fl_X11_119 s_3 rfl 5 rfl (gf_iload_n C dX11_told_55 rfl rfl ?_)))
      refine gf_callV (ε2 := eI) C [.int a1] dX11_told_56 mw_X5_matterOf ml_X11_180 s_5 (fun rZ hZ eZ => ok_X5_matterOf 5 a1 s_5 h rZ hZ eZ) rfl rfl rfl (Nat.le_of_ble_eq_true rfl) (Nat.le_of_ble_eq_true rfl) (Nat.le_of_ble_eq_true rfl) (fun r4 h5 => ?_)
      exact gf_iret C dX11_told_59 rfl
    have c3 := lv_neT c3 (a := 0) (by decide)
    have c6 := lv_neT c6 (a := 1) (by decide)
    refine gf_lkD C 60 dX11_told_8 (by decide) (by simp [Op.lookupswitch.offset, Ne.symm c3, Ne.symm c6]) (by decide) ?_
    refine gf_bipush C dX11_told_60 kb_m3 ?_
    exact gf_iret C dX11_told_62 rfl
def F_X11_sun (a1 : Int32) (a2 : Int32) (h : Hp) : Option (Int32 × Hp) :=
  jn (fun (h1 : Hp) =>
  some ((-3 : Int32), h1)) (fun j2 => if a1 < 0 then (
  j2 h) else (
  if a1 < (48 : Int32) then (
  if a2 = (0 : Int32) then (
  bd (F_X9_pointAt 4 a1 h) (fun r3 h4 => some (r3, h4))) else (if a2 = (1 : Int32) then (
  bd (F_X9_lengthAt 4 a1 h) (fun r6 h7 => some (r6, h7))) else (
  some ((-3 : Int32), h)))) else (
  j2 h)))
set_option maxRecDepth 100000 in
set_option maxHeartbeats 4000000 in
theorem ok_X11_sun (a1 : Int32) (a2 : Int32) (h : Hp) (rZ : Int32) (hZ : Hp) (eZ : F_X11_sun a1 a2 h = some (rZ, hZ)) : AC yX11_sun cX11_sun 3 (some .int) 3 63 [.ref 0, .int a1, .int a2] h (eI rZ) hZ := by
  refine AC_intro (o := F_X11_sun a1 a2 h) RX11 rfl (plainFor_of_name (by decide)) [some (.ref 0), some (.int a1), some (.int a2)] rfl (fun _ => rfl) (fun _ => Nat.le_of_ble_eq_true rfl) eZ (fun K C => ?_)
  unfold F_X11_sun
  refine gf_iload_n C dX11_sun_0 rfl rfl ?_
  refine gf_jn (fun (j2 : Hp → Option (Int32 × Hp)) => ∀ (h1 : Hp), GF K eI h1 10 [none, none, none] [] (j2 h1)) ?_ (fun j2 kj2 => ?_)
  · intro h1
    refine gf_bipush C dX11_sun_10 kb_m3 ?_
    exact gf_iret C dX11_sun_12 rfl
  refine gf_iflt C 10 dX11_sun_1 (by decide) (fun _ => ?_) (fun _ => ?_)
  · exact gf_sub [none, none, none] trivial (kj2 h)
  · refine gf_iload_n C dX11_sun_4 rfl rfl (gf_bipush C dX11_sun_5 kb_48 ?_)
    refine gf_icmplt C 13 dX11_sun_7 (by decide) (fun _ => ?_) (fun _ => ?_)
    · refine gf_iload_n C dX11_sun_13 rfl rfl ?_
      refine gf_lkC (off := 26) C (0 : Int32) 40 dX11_sun_14 (by decide) (by decide) (by decide) (fun _ => ?_) (fun c5 => ?_)
      · refine gf_aload_n C dX11_sun_40 rfl rfl (gf_getR C dX11_sun_41 fl_X11_19 s_0 rfl 3 rfl (gf_getR C dX11_sun_44 fl_X11_183 s_3 rfl 4 rfl (gf_iload_n C dX11_sun_47 rfl rfl ?_)))
        refine gf_callV (ε2 := eI) C [.int a1] dX11_sun_48 mw_X9_pointAt ml_X11_187 s_4 (fun rZ hZ eZ => ok_X9_pointAt 4 a1 s_4 h rZ hZ eZ) rfl rfl rfl (Nat.le_of_ble_eq_true rfl) (Nat.le_of_ble_eq_true rfl) (Nat.le_of_ble_eq_true rfl) (fun r3 h4 => ?_)
        exact gf_iret C dX11_sun_51 rfl
      refine gf_lkC (off := 38) C (1 : Int32) 52 dX11_sun_14 (by decide) (by decide) (by decide) (fun _ => ?_) (fun c8 => ?_)
      · refine gf_aload_n C dX11_sun_52 rfl rfl (gf_getR C dX11_sun_53 fl_X11_19 s_0 rfl 3 rfl (gf_getR C dX11_sun_56 fl_X11_183 s_3 rfl 4 rfl (gf_iload_n C dX11_sun_59 rfl rfl ?_)))
        refine gf_callV (ε2 := eI) C [.int a1] dX11_sun_60 mw_X9_lengthAt ml_X11_192 s_4 (fun rZ hZ eZ => ok_X9_lengthAt 4 a1 s_4 h rZ hZ eZ) rfl rfl rfl (Nat.le_of_ble_eq_true rfl) (Nat.le_of_ble_eq_true rfl) (Nat.le_of_ble_eq_true rfl) (fun r6 h7 => ?_)
        exact gf_iret C dX11_sun_63 rfl
      have c5 := lv_neT c5 (a := 0) (by decide)
      have c8 := lv_neT c8 (a := 1) (by decide)
      refine gf_lkD C 64 dX11_sun_14 (by decide) (by simp [Op.lookupswitch.offset, Ne.symm c5, Ne.symm c8]) (by decide) ?_
      refine gf_bipush C dX11_sun_64 kb_m3 ?_
      exact gf_iret C dX11_sun_66 rfl
    · exact gf_sub [none, none, none] trivial (kj2 h)
def F_X11_tell (a1 : Int32) (a2 : Int32) (a3 : Int32) (a4 : Int32) (h : Hp) : Option (Int32 × Hp) :=
  bd (F_X0_hasPicture 3 a1 h) (fun r1 h2 => if r1 = 0 then (
  some ((-2 : Int32), h2)) else (
  bd (F_X0_takesValue 3 a2 a3 h2) (fun r3 h4 => jn (fun (h5 : Hp) =>
  some ((-3 : Int32), h5)) (fun j6 => if r3 = 0 then (
  j6 h4) else (
  if a4 < 0 then (
  j6 h4) else (
  bd (F_X11_mostSlack a2 h4) (fun r7 h8 => if r7 < a4 then (
  j6 h8) else (
  bd (F_X2_remember 5 h8) (fun _ h9 => bd (F_X5_put 5 a1 a2 a3 a4 h9) (fun _ h10 => bd (F_X11_forgetFindings h10) (fun _ h11 => some (sG h11 320, h11))))))))))))
set_option maxRecDepth 100000 in
set_option maxHeartbeats 4000000 in
theorem ok_X11_tell (a1 : Int32) (a2 : Int32) (a3 : Int32) (a4 : Int32) (h : Hp) (rZ : Int32) (hZ : Hp) (eZ : F_X11_tell a1 a2 a3 a4 h = some (rZ, hZ)) : AC yX11_tell cX11_tell 5 (some .int) 4 85 [.ref 0, .int a1, .int a2, .int a3, .int a4] h (eI rZ) hZ := by
  refine AC_intro (o := F_X11_tell a1 a2 a3 a4 h) RX11 rfl (plainFor_of_name (by decide)) [some (.ref 0), some (.int a1), some (.int a2), some (.int a3), some (.int a4)] rfl (fun _ => rfl) (fun _ => Nat.le_of_ble_eq_true rfl) eZ (fun K C => ?_)
  unfold F_X11_tell
  refine gf_aload_n C dX11_tell_0 rfl rfl (gf_getR C dX11_tell_1 fl_X11_19 s_0 rfl 3 rfl (gf_iload_n C dX11_tell_4 rfl rfl ?_))
  refine gf_callV (ε2 := eI) C [.int a1] dX11_tell_5 mw_X0_hasPicture ml_X11_113 s_3 (fun rZ hZ eZ => ok_X0_hasPicture 3 a1 s_3 h rZ hZ eZ) rfl rfl rfl (Nat.le_of_ble_eq_true rfl) (Nat.le_of_ble_eq_true rfl) (Nat.le_of_ble_eq_true rfl) (fun r1 h2 => ?_)
  refine gf_ifne C 14 dX11_tell_8 (by decide) (fun _ => ?_) (fun _ => ?_)
  · refine gf_bipush C dX11_tell_11 kb_m2 ?_
    exact gf_iret C dX11_tell_13 rfl
  · refine gf_aload_n C dX11_tell_14 rfl rfl (gf_getR C dX11_tell_15 fl_X11_19 s_0 rfl 3 rfl (gf_iload_n C dX11_tell_18 rfl rfl (gf_iload_n C dX11_tell_19 rfl rfl ?_)))
    refine gf_callV (ε2 := eI) C [.int a2, .int a3] dX11_tell_20 mw_X0_takesValue ml_X11_199 s_3 (fun rZ hZ eZ => ok_X0_takesValue 3 a2 a3 s_3 h2 rZ hZ eZ) rfl rfl rfl (Nat.le_of_ble_eq_true rfl) (Nat.le_of_ble_eq_true rfl) (Nat.le_of_ble_eq_true rfl) (fun r3 h4 => ?_)
    refine gf_jn (fun (j6 : Hp → Option (Int32 × Hp)) => ∀ (h5 : Hp), GF K eI h5 40 [none, none, none, none, none] [] (j6 h5)) ?_ (fun j6 kj6 => ?_)
    · intro h5
      refine gf_bipush C dX11_tell_40 kb_m3 ?_
      exact gf_iret C dX11_tell_42 rfl
    refine gf_ifeq C 40 dX11_tell_23 (by decide) (fun _ => ?_) (fun _ => ?_)
    · exact gf_sub [none, none, none, none, none] trivial (kj6 h4)
    · refine gf_iload C dX11_tell_26 rfl ?_
      refine gf_iflt C 40 dX11_tell_28 (by decide) (fun _ => ?_) (fun _ => ?_)
      · exact gf_sub [none, none, none, none, none] trivial (kj6 h4)
      · refine gf_iload C dX11_tell_31 rfl (gf_iload_n C dX11_tell_33 rfl rfl ?_)
        refine gf_callS (ε2 := eI) C [.int a2] dX11_tell_34 mw_X11_mostSlack ml_X11_203 (fun rZ hZ eZ => ok_X11_mostSlack a2 h4 rZ hZ eZ) rfl rfl rfl (Nat.le_of_ble_eq_true rfl) (Nat.le_of_ble_eq_true rfl) (Nat.le_of_ble_eq_true rfl) (fun r7 h8 => ?_)
        refine gf_icmple C 43 dX11_tell_37 (by decide) (fun _ => ?_) (fun _ => ?_)
        · exact gf_sub [none, none, none, none, none] trivial (kj6 h8)
        · refine gf_aload_n C dX11_tell_43 rfl rfl (gf_getR C dX11_tell_44 fl_X11_35 s_0 rfl 22 rfl (gf_aload_n C dX11_tell_47 rfl rfl (gf_getR C dX11_tell_48 fl_X11_19 s_0 rfl 3 rfl (gf_getR C dX11_tell_51 fl_X11_119 s_3 rfl 5 rfl ?_))))
          refine gf_callV (ε2 := eV) C [.ref 5] dX11_tell_54 mw_X2_remember ml_X11_206 s_22 (fun rZ hZ eZ => ok_X2_remember 5 s_5 h8 rZ hZ eZ) rfl rfl rfl (Nat.le_of_ble_eq_true rfl) (Nat.le_of_ble_eq_true rfl) (Nat.le_of_ble_eq_true rfl) (fun _ h9 => ?_)
          refine gf_aload_n C dX11_tell_57 rfl rfl (gf_getR C dX11_tell_58 fl_X11_19 s_0 rfl 3 rfl (gf_getR C dX11_tell_61 fl_X11_119 s_3 rfl 5 rfl (gf_iload_n C dX11_tell_64 rfl rfl (gf_iload_n C dX11_tell_65 rfl rfl (gf_iload_n C dX11_tell_66 rfl rfl (gf_iload C dX11_tell_67 rfl ?_))))))
          refine gf_callV (ε2 := eV) C [.int a1, .int a2, .int a3, .int a4] dX11_tell_69 mw_X5_put ml_X11_210 s_5 (fun rZ hZ eZ => ok_X5_put 5 a1 a2 a3 a4 s_5 h9 rZ hZ eZ) rfl rfl rfl (Nat.le_of_ble_eq_true rfl) (Nat.le_of_ble_eq_true rfl) (Nat.le_of_ble_eq_true rfl) (fun _ h10 => ?_)
          refine gf_aload_n C dX11_tell_72 rfl rfl ?_
          refine gf_callV (ε2 := eV) C [] dX11_tell_73 mw_X11_forgetFindings ml_X11_100 s_0 (fun rZ hZ eZ => ok_X11_forgetFindings  h10 rZ hZ eZ) rfl rfl rfl (Nat.le_of_ble_eq_true rfl) (Nat.le_of_ble_eq_true rfl) (Nat.le_of_ble_eq_true rfl) (fun _ h11 => ?_)
          refine gf_aload_n C dX11_tell_76 rfl rfl (gf_getR C dX11_tell_77 fl_X11_19 s_0 rfl 3 rfl (gf_getR C dX11_tell_80 fl_X11_119 s_3 rfl 5 rfl (gf_getI C dX11_tell_83 fl_X11_214 s_5 rfl 320 rfl ?_)))
          exact gf_iret C dX11_tell_86 rfl
def F_X11_point (a1 : Int32) (a2 : Int32) (a3 : Int32) (h : Hp) : Option (Int32 × Hp) :=
  bd (F_X11_tell a1 (0 : Int32) a2 a3 h) (fun r1 h2 => some (r1, h2))
set_option maxRecDepth 100000 in
set_option maxHeartbeats 4000000 in
theorem ok_X11_point (a1 : Int32) (a2 : Int32) (a3 : Int32) (h : Hp) (rZ : Int32) (hZ : Hp) (eZ : F_X11_point a1 a2 a3 h = some (rZ, hZ)) : AC yX11_point cX11_point 4 (some .int) 5 109 [.ref 0, .int a1, .int a2, .int a3] h (eI rZ) hZ := by
  refine AC_intro (o := F_X11_point a1 a2 a3 h) RX11 rfl (plainFor_of_name (by decide)) [some (.ref 0), some (.int a1), some (.int a2), some (.int a3)] rfl (fun _ => rfl) (fun _ => Nat.le_of_ble_eq_true rfl) eZ (fun K C => ?_)
  unfold F_X11_point
  refine gf_aload_n C dX11_point_0 rfl rfl (gf_iload_n C dX11_point_1 rfl rfl (gf_iconst C dX11_point_2 ki_0 (gf_iload_n C dX11_point_3 rfl rfl (gf_iload_n C dX11_point_4 rfl rfl ?_))))
  refine gf_callV (ε2 := eI) C [.int a1, .int (0 : Int32), .int a2, .int a3] dX11_point_5 mw_X11_tell ml_X11_195 s_0 (fun rZ hZ eZ => ok_X11_tell a1 (0 : Int32) a2 a3 h rZ hZ eZ) rfl rfl rfl (Nat.le_of_ble_eq_true rfl) (Nat.le_of_ble_eq_true rfl) (Nat.le_of_ble_eq_true rfl) (fun r1 h2 => ?_)
  exact gf_iret C dX11_point_8 rfl
def F_X11_length (a1 : Int32) (a2 : Int32) (a3 : Int32) (h : Hp) : Option (Int32 × Hp) :=
  bd (F_X11_tell a1 (1 : Int32) a2 a3 h) (fun r1 h2 => some (r1, h2))
set_option maxRecDepth 100000 in
set_option maxHeartbeats 4000000 in
theorem ok_X11_length (a1 : Int32) (a2 : Int32) (a3 : Int32) (h : Hp) (rZ : Int32) (hZ : Hp) (eZ : F_X11_length a1 a2 a3 h = some (rZ, hZ)) : AC yX11_length cX11_length 4 (some .int) 5 109 [.ref 0, .int a1, .int a2, .int a3] h (eI rZ) hZ := by
  refine AC_intro (o := F_X11_length a1 a2 a3 h) RX11 rfl (plainFor_of_name (by decide)) [some (.ref 0), some (.int a1), some (.int a2), some (.int a3)] rfl (fun _ => rfl) (fun _ => Nat.le_of_ble_eq_true rfl) eZ (fun K C => ?_)
  unfold F_X11_length
  refine gf_aload_n C dX11_length_0 rfl rfl (gf_iload_n C dX11_length_1 rfl rfl (gf_iconst C dX11_length_2 ki_1 (gf_iload_n C dX11_length_3 rfl rfl (gf_iload_n C dX11_length_4 rfl rfl ?_))))
  refine gf_callV (ε2 := eI) C [.int a1, .int (1 : Int32), .int a2, .int a3] dX11_length_5 mw_X11_tell ml_X11_195 s_0 (fun rZ hZ eZ => ok_X11_tell a1 (1 : Int32) a2 a3 h rZ hZ eZ) rfl rfl rfl (Nat.le_of_ble_eq_true rfl) (Nat.le_of_ble_eq_true rfl) (Nat.le_of_ble_eq_true rfl) (fun r1 h2 => ?_)
  exact gf_iret C dX11_length_8 rfl
