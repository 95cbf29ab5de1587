def F_X11_see (a1 : Int32) (a2 : Int32) (a3 : Int32) (h : Hp) : Option (Int32 × Hp) :=
  bd (F_X0_hasThing 3 a2 h) (fun r1 h2 => if r1 = 0 then (
  some ((-2 : Int32), h2)) else (
  bd (F_X11_tell a1 ((2 : Int32) + a2) a3 (0 : Int32) h2) (fun r3 h4 => some (r3, h4))))
set_option maxRecDepth 100000 in
set_option maxHeartbeats 4000000 in
theorem ok_X11_see (a1 : Int32) (a2 : Int32) (a3 : Int32) (h : Hp) (rZ : Int32) (hZ : Hp) (eZ : F_X11_see a1 a2 a3 h = some (rZ, hZ)) : AC yX11_see cX11_see 4 (some .int) 5 109 [.ref 0, .int a1, .int a2, .int a3] h (eI rZ) hZ := by
  refine AC_intro (o := F_X11_see a1 a2 a3 h) RX11 rfl (plainFor_of_name (by decide)) [some (.ref 0), some (.int a1), some (.int a2), some (.int a3)] rfl (fun _ => rfl) (fun _ => Nat.le_of_ble_eq_true rfl) eZ (fun K C => ?_)
  unfold F_X11_see
  refine gf_aload_n C dX11_see_0 rfl rfl (gf_getR C dX11_see_1 fl_X11_19 s_0 rfl 3 rfl (gf_iload_n C dX11_see_4 rfl rfl ?_))
  refine gf_callV (ε2 := eI) C [.int a2] dX11_see_5 mw_X0_hasThing ml_X11_155 s_3 (fun rZ hZ eZ => ok_X0_hasThing 3 a2 s_3 h rZ hZ eZ) rfl rfl rfl (Nat.le_of_ble_eq_true rfl) (Nat.le_of_ble_eq_true rfl) (Nat.le_of_ble_eq_true rfl) (fun r1 h2 => ?_)
  refine gf_ifne C 14 dX11_see_8 (by decide) (fun _ => ?_) (fun _ => ?_)
  · refine gf_bipush C dX11_see_11 kb_m2 ?_
    exact gf_iret C dX11_see_13 rfl
  · refine gf_aload_n C dX11_see_14 rfl rfl (gf_iload_n C dX11_see_15 rfl rfl (gf_iconst C dX11_see_16 ki_2 (gf_iload_n C dX11_see_17 rfl rfl (gf_iadd C dX11_see_18 (gf_iload_n C dX11_see_19 rfl rfl (gf_iconst C dX11_see_20 ki_0 ?_))))))
    refine gf_callV (ε2 := eI) C [.int a1, .int ((2 : Int32) + a2), .int a3, .int (0 : Int32)] dX11_see_21 mw_X11_tell ml_X11_195 s_0 (fun rZ hZ eZ => ok_X11_tell a1 ((2 : Int32) + a2) a3 (0 : Int32) h2 rZ hZ eZ) rfl rfl rfl (Nat.le_of_ble_eq_true rfl) (Nat.le_of_ble_eq_true rfl) (Nat.le_of_ble_eq_true rfl) (fun r3 h4 => ?_)
    exact gf_iret C dX11_see_24 rfl
def F_X11_strike (a1 : Int32) (a2 : Int32) (h : Hp) : Option (Int32 × Hp) :=
  bd (F_X0_hasPicture 3 a1 h) (fun r1 h2 => if r1 = 0 then (
  some ((-2 : Int32), h2)) else (
  bd (F_X0_hasMatter 3 a2 h2) (fun r3 h4 => if r3 = 0 then (
  some ((-3 : Int32), h4)) else (
  bd (F_X5_numberOf 5 a1 a2 h4) (fun r5 h6 => if r5 = (-1 : Int32) then (
  some ((-4 : Int32), h6)) else (
  bd (F_X2_remember 5 h6) (fun _ h7 => bd (F_X5_remove 5 a1 a2 h7) (fun _ h8 => bd (F_X11_forgetFindings h8) (fun _ h9 => some (sG h9 320, h9))))))))))
set_option maxRecDepth 100000 in
set_option maxHeartbeats 4000000 in
theorem ok_X11_strike (a1 : Int32) (a2 : Int32) (h : Hp) (rZ : Int32) (hZ : Hp) (eZ : F_X11_strike a1 a2 h = some (rZ, hZ)) : AC yX11_strike cX11_strike 3 (some .int) 3 69 [.ref 0, .int a1, .int a2] h (eI rZ) hZ := by
  refine AC_intro (o := F_X11_strike a1 a2 h) RX11 rfl (plainFor_of_name (by decide)) [some (.ref 0), some (.int a1), some (.int a2)] rfl (fun _ => rfl) (fun _ => Nat.le_of_ble_eq_true rfl) eZ (fun K C => ?_)
  unfold F_X11_strike
  refine gf_aload_n C dX11_strike_0 rfl rfl (gf_getR C dX11_strike_1 fl_X11_19 s_0 rfl 3 rfl (gf_iload_n C dX11_strike_4 rfl rfl ?_))
  refine gf_callV (ε2 := eI) C [.int a1] dX11_strike_5 mw_X0_hasPicture ml_X11_113 s_3 (fun rZ hZ eZ => ok_X0_hasPicture 3 a1 s_3 h rZ hZ eZ) rfl rfl rfl (Nat.le_of_ble_eq_true rfl) (Nat.le_of_ble_eq_true rfl) (Nat.le_of_ble_eq_true rfl) (fun r1 h2 => ?_)
  refine gf_ifne C 14 dX11_strike_8 (by decide) (fun _ => ?_) (fun _ => ?_)
  · refine gf_bipush C dX11_strike_11 kb_m2 ?_
    exact gf_iret C dX11_strike_13 rfl
  · refine gf_aload_n C dX11_strike_14 rfl rfl (gf_getR C dX11_strike_15 fl_X11_19 s_0 rfl 3 rfl (gf_iload_n C dX11_strike_18 rfl rfl ?_))
    refine gf_callV (ε2 := eI) C [.int a2] dX11_strike_19 mw_X0_hasMatter ml_X11_165 s_3 (fun rZ hZ eZ => ok_X0_hasMatter 3 a2 s_3 h2 rZ hZ eZ) rfl rfl rfl (Nat.le_of_ble_eq_true rfl) (Nat.le_of_ble_eq_true rfl) (Nat.le_of_ble_eq_true rfl) (fun r3 h4 => ?_)
    refine gf_ifne C 28 dX11_strike_22 (by decide) (fun _ => ?_) (fun _ => ?_)
    · refine gf_bipush C dX11_strike_25 kb_m3 ?_
      exact gf_iret C dX11_strike_27 rfl
    · refine gf_aload_n C dX11_strike_28 rfl rfl (gf_getR C dX11_strike_29 fl_X11_19 s_0 rfl 3 rfl (gf_getR C dX11_strike_32 fl_X11_119 s_3 rfl 5 rfl (gf_iload_n C dX11_strike_35 rfl rfl (gf_iload_n C dX11_strike_36 rfl rfl ?_))))
      refine gf_callV (ε2 := eI) C [.int a1, .int a2] dX11_strike_37 mw_X5_numberOf ml_X11_174 s_5 (fun rZ hZ eZ => ok_X5_numberOf 5 a1 a2 s_5 h4 rZ hZ eZ) rfl rfl rfl (Nat.le_of_ble_eq_true rfl) (Nat.le_of_ble_eq_true rfl) (Nat.le_of_ble_eq_true rfl) (fun r5 h6 => ?_)
      refine gf_iconst C dX11_strike_40 ki_m1 ?_
      refine gf_icmpne C 47 dX11_strike_41 (by decide) (fun _ => ?_) (fun _ => ?_)
      · refine gf_bipush C dX11_strike_44 kb_m4 ?_
        exact gf_iret C dX11_strike_46 rfl
      · refine gf_aload_n C dX11_strike_47 rfl rfl (gf_getR C dX11_strike_48 fl_X11_35 s_0 rfl 22 rfl (gf_aload_n C dX11_strike_51 rfl rfl (gf_getR C dX11_strike_52 fl_X11_19 s_0 rfl 3 rfl (gf_getR C dX11_strike_55 fl_X11_119 s_3 rfl 5 rfl ?_))))
        refine gf_callV (ε2 := eV) C [.ref 5] dX11_strike_58 mw_X2_remember ml_X11_206 s_22 (fun rZ hZ eZ => ok_X2_remember 5 s_5 h6 rZ hZ eZ) rfl rfl rfl (Nat.le_of_ble_eq_true rfl) (Nat.le_of_ble_eq_true rfl) (Nat.le_of_ble_eq_true rfl) (fun _ h7 => ?_)
        refine gf_aload_n C dX11_strike_61 rfl rfl (gf_getR C dX11_strike_62 fl_X11_19 s_0 rfl 3 rfl (gf_getR C dX11_strike_65 fl_X11_119 s_3 rfl 5 rfl (gf_iload_n C dX11_strike_68 rfl rfl (gf_iload_n C dX11_strike_69 rfl rfl ?_))))
        refine gf_callV (ε2 := eV) C [.int a1, .int a2] dX11_strike_70 mw_X5_remove ml_X11_215 s_5 (fun rZ hZ eZ => ok_X5_remove 5 a1 a2 s_5 h7 rZ hZ eZ) rfl rfl rfl (Nat.le_of_ble_eq_true rfl) (Nat.le_of_ble_eq_true rfl) (Nat.le_of_ble_eq_true rfl) (fun _ h8 => ?_)
        refine gf_aload_n C dX11_strike_73 rfl rfl ?_
        refine gf_callV (ε2 := eV) C [] dX11_strike_74 mw_X11_forgetFindings ml_X11_100 s_0 (fun rZ hZ eZ => ok_X11_forgetFindings  h8 rZ hZ eZ) rfl rfl rfl (Nat.le_of_ble_eq_true rfl) (Nat.le_of_ble_eq_true rfl) (Nat.le_of_ble_eq_true rfl) (fun _ h9 => ?_)
        refine gf_aload_n C dX11_strike_77 rfl rfl (gf_getR C dX11_strike_78 fl_X11_19 s_0 rfl 3 rfl (gf_getR C dX11_strike_81 fl_X11_119 s_3 rfl 5 rfl (gf_getI C dX11_strike_84 fl_X11_214 s_5 rfl 320 rfl ?_)))
        exact gf_iret C dX11_strike_87 rfl
def F_X11_undo (h : Hp) : Option (Int32 × Hp) :=
  bd (F_X2_restoreLatest 5 h) (fun r1 h2 => if r1 = 0 then (
  some ((-4 : Int32), h2)) else (
  bd (F_X11_forgetFindings h2) (fun _ h3 => some (sG h3 1408, h3))))
set_option maxRecDepth 100000 in
set_option maxHeartbeats 4000000 in
theorem ok_X11_undo (h : Hp) (rZ : Int32) (hZ : Hp) (eZ : F_X11_undo h = some (rZ, hZ)) : AC yX11_undo cX11_undo 1 (some .int) 3 66 [.ref 0] h (eI rZ) hZ := by
  refine AC_intro (o := F_X11_undo h) RX11 rfl (plainFor_of_name (by decide)) [some (.ref 0)] rfl (fun _ => rfl) (fun _ => Nat.le_of_ble_eq_true rfl) eZ (fun K C => ?_)
  unfold F_X11_undo
  refine gf_aload_n C dX11_undo_0 rfl rfl (gf_getR C dX11_undo_1 fl_X11_35 s_0 rfl 22 rfl (gf_aload_n C dX11_undo_4 rfl rfl (gf_getR C dX11_undo_5 fl_X11_19 s_0 rfl 3 rfl (gf_getR C dX11_undo_8 fl_X11_119 s_3 rfl 5 rfl ?_))))
  refine gf_callV (ε2 := eI) C [.ref 5] dX11_undo_11 mw_X2_restoreLatest ml_X11_219 s_22 (fun rZ hZ eZ => ok_X2_restoreLatest 5 s_5 h rZ hZ eZ) rfl rfl rfl (Nat.le_of_ble_eq_true rfl) (Nat.le_of_ble_eq_true rfl) (Nat.le_of_ble_eq_true rfl) (fun r1 h2 => ?_)
  refine gf_ifne C 20 dX11_undo_14 (by decide) (fun _ => ?_) (fun _ => ?_)
  · refine gf_bipush C dX11_undo_17 kb_m4 ?_
    exact gf_iret C dX11_undo_19 rfl
  · refine gf_aload_n C dX11_undo_20 rfl rfl ?_
    refine gf_callV (ε2 := eV) C [] dX11_undo_21 mw_X11_forgetFindings ml_X11_100 s_0 (fun rZ hZ eZ => ok_X11_forgetFindings  h2 rZ hZ eZ) rfl rfl rfl (Nat.le_of_ble_eq_true rfl) (Nat.le_of_ble_eq_true rfl) (Nat.le_of_ble_eq_true rfl) (fun _ h3 => ?_)
    refine gf_aload_n C dX11_undo_24 rfl rfl (gf_getR C dX11_undo_25 fl_X11_35 s_0 rfl 22 rfl (gf_getI C dX11_undo_28 fl_X11_223 s_22 rfl 1408 rfl ?_))
    exact gf_iret C dX11_undo_31 rfl
def F_X11_keep (a1 : Int32) (h : Hp) : Option (Int32 × Hp) :=
  jn (fun (h1 : Hp) =>
  some ((-2 : Int32), h1)) (fun j2 => if a1 < 0 then (
  j2 h) else (
  if a1 < (2 : Int32) then (
  bd (F_X2_store a1 5 h) (fun _ h3 => some (sG h3 320, h3))) else (
  j2 h)))
set_option maxRecDepth 100000 in
set_option maxHeartbeats 4000000 in
theorem ok_X11_keep (a1 : Int32) (h : Hp) (rZ : Int32) (hZ : Hp) (eZ : F_X11_keep a1 h = some (rZ, hZ)) : AC yX11_keep cX11_keep 2 (some .int) 3 61 [.ref 0, .int a1] h (eI rZ) hZ := by
  refine AC_intro (o := F_X11_keep a1 h) RX11 rfl (plainFor_of_name (by decide)) [some (.ref 0), some (.int a1)] rfl (fun _ => rfl) (fun _ => Nat.le_of_ble_eq_true rfl) eZ (fun K C => ?_)
  unfold F_X11_keep
  refine gf_iload_n C dX11_keep_0 rfl rfl ?_
  refine gf_jn (fun (j2 : Hp → Option (Int32 × Hp)) => ∀ (h1 : Hp), GF K eI h1 9 [none, none] [] (j2 h1)) ?_ (fun j2 kj2 => ?_)
  · intro h1
    refine gf_bipush C dX11_keep_9 kb_m2 ?_
    exact gf_iret C dX11_keep_11 rfl
  refine gf_iflt C 9 dX11_keep_1 (by decide) (fun _ => ?_) (fun _ => ?_)
  · exact gf_sub [none, none] trivial (kj2 h)
  · refine gf_iload_n C dX11_keep_4 rfl rfl (gf_iconst C dX11_keep_5 ki_2 ?_)
    refine gf_icmplt C 12 dX11_keep_6 (by decide) (fun _ => ?_) (fun _ => ?_)
    · refine gf_aload_n C dX11_keep_12 rfl rfl (gf_getR C dX11_keep_13 fl_X11_35 s_0 rfl 22 rfl (gf_iload_n C dX11_keep_16 rfl rfl (gf_aload_n C dX11_keep_17 rfl rfl (gf_getR C dX11_keep_18 fl_X11_19 s_0 rfl 3 rfl (gf_getR C dX11_keep_21 fl_X11_119 s_3 rfl 5 rfl ?_)))))
      refine gf_callV (ε2 := eV) C [.int a1, .ref 5] dX11_keep_24 mw_X2_store ml_X11_224 s_22 (fun rZ hZ eZ => ok_X2_store a1 5 s_5 h rZ hZ eZ) rfl rfl rfl (Nat.le_of_ble_eq_true rfl) (Nat.le_of_ble_eq_true rfl) (Nat.le_of_ble_eq_true rfl) (fun _ h3 => ?_)
      refine gf_aload_n C dX11_keep_27 rfl rfl (gf_getR C dX11_keep_28 fl_X11_19 s_0 rfl 3 rfl (gf_getR C dX11_keep_31 fl_X11_119 s_3 rfl 5 rfl (gf_getI C dX11_keep_34 fl_X11_214 s_5 rfl 320 rfl ?_)))
      exact gf_iret C dX11_keep_37 rfl
    · exact gf_sub [none, none] trivial (kj2 h)
def F_X11_back (a1 : Int32) (h : Hp) : Option (Int32 × Hp) :=
  jn (fun (h1 : Hp) =>
  some ((-2 : Int32), h1)) (fun j2 => if a1 < 0 then (
  j2 h) else (
  if a1 < (2 : Int32) then (
  bd (F_X2_restoreKept a1 5 h) (fun r3 h4 => if r3 = 0 then (
  some ((-4 : Int32), h4)) else (
  bd (F_X11_forgetFindings h4) (fun _ h5 => some (sG h5 320, h5))))) else (
  j2 h)))
set_option maxRecDepth 100000 in
set_option maxHeartbeats 4000000 in
theorem ok_X11_back (a1 : Int32) (h : Hp) (rZ : Int32) (hZ : Hp) (eZ : F_X11_back a1 h = some (rZ, hZ)) : AC yX11_back cX11_back 2 (some .int) 3 61 [.ref 0, .int a1] h (eI rZ) hZ := by
  refine AC_intro (o := F_X11_back a1 h) RX11 rfl (plainFor_of_name (by decide)) [some (.ref 0), some (.int a1)] rfl (fun _ => rfl) (fun _ => Nat.le_of_ble_eq_true rfl) eZ (fun K C => ?_)
  unfold F_X11_back
  refine gf_iload_n C dX11_back_0 rfl rfl ?_
  refine gf_jn (fun (j2 : Hp → Option (Int32 × Hp)) => ∀ (h1 : Hp), GF K eI h1 9 [none, none] [] (j2 h1)) ?_ (fun j2 kj2 => ?_)
  · intro h1
    refine gf_bipush C dX11_back_9 kb_m2 ?_
    exact gf_iret C dX11_back_11 rfl
  refine gf_iflt C 9 dX11_back_1 (by decide) (fun _ => ?_) (fun _ => ?_)
  · exact gf_sub [none, none] trivial (kj2 h)
  · refine gf_iload_n C dX11_back_4 rfl rfl (gf_iconst C dX11_back_5 ki_2 ?_)
    refine gf_icmplt C 12 dX11_back_6 (by decide) (fun _ => ?_) (fun _ => ?_)
    · refine gf_aload_n C dX11_back_12 rfl rfl (gf_getR C dX11_back_13 fl_X11_35 s_0 rfl 22 rfl (gf_iload_n C dX11_back_16 rfl rfl (gf_aload_n C dX11_back_17 rfl rfl (gf_getR C dX11_back_18 fl_X11_19 s_0 rfl 3 rfl (gf_getR C dX11_back_21 fl_X11_119 s_3 rfl 5 rfl ?_)))))
      refine gf_callV (ε2 := eI) C [.int a1, .ref 5] dX11_back_24 mw_X2_restoreKept ml_X11_228 s_22 (fun rZ hZ eZ => ok_X2_restoreKept a1 5 s_5 h rZ hZ eZ) rfl rfl rfl (Nat.le_of_ble_eq_true rfl) (Nat.le_of_ble_eq_true rfl) (Nat.le_of_ble_eq_true rfl) (fun r3 h4 => ?_)
      refine gf_ifne C 33 dX11_back_27 (by decide) (fun _ => ?_) (fun _ => ?_)
      · refine gf_bipush C dX11_back_30 kb_m4 ?_
        exact gf_iret C dX11_back_32 rfl
      · refine gf_aload_n C dX11_back_33 rfl rfl ?_
        refine gf_callV (ε2 := eV) C [] dX11_back_34 mw_X11_forgetFindings ml_X11_100 s_0 (fun rZ hZ eZ => ok_X11_forgetFindings  h4 rZ hZ eZ) rfl rfl rfl (Nat.le_of_ble_eq_true rfl) (Nat.le_of_ble_eq_true rfl) (Nat.le_of_ble_eq_true rfl) (fun _ h5 => ?_)
        refine gf_aload_n C dX11_back_37 rfl rfl (gf_getR C dX11_back_38 fl_X11_19 s_0 rfl 3 rfl (gf_getR C dX11_back_41 fl_X11_119 s_3 rfl 5 rfl (gf_getI C dX11_back_44 fl_X11_214 s_5 rfl 320 rfl ?_)))
        exact gf_iret C dX11_back_47 rfl
    · exact gf_sub [none, none] trivial (kj2 h)
def F_X11_areTwoPictures (a1 : Int32) (a2 : Int32) (h : Hp) : Option (Int32 × Hp) :=
  bd (F_X0_hasPicture 3 a1 h) (fun r1 h2 => jn (fun (s3 : Int32) (h4 : Hp) =>
  gd (isB s3) ( some (s3, h4))) (fun j5 => jn (fun (h7 : Hp) =>
  j5 (0 : Int32) h7) (fun j8 => if r1 = 0 then (
  j8 h2) else (
  bd (F_X0_hasPicture 3 a2 h2) (fun r9 h10 => if r9 = 0 then (
  j8 h10) else (
  if a1 = a2 then (
  j8 h10) else (
  j5 (1 : Int32) h10)))))))
set_option maxRecDepth 100000 in
set_option maxHeartbeats 4000000 in
theorem ok_X11_areTwoPictures (a1 : Int32) (a2 : Int32) (h : Hp) (rZ : Int32) (hZ : Hp) (eZ : F_X11_areTwoPictures a1 a2 h = some (rZ, hZ)) : AC yX11_areTwoPictures cX11_areTwoPictures 3 (some .boolean) 1 21 [.ref 0, .int a1, .int a2] h (eI rZ) hZ := by
  refine AC_intro (o := F_X11_areTwoPictures a1 a2 h) RX11 rfl (plainFor_of_name (by decide)) [some (.ref 0), some (.int a1), some (.int a2)] rfl (fun _ => rfl) (fun _ => Nat.le_of_ble_eq_true rfl) eZ (fun K C => ?_)
  unfold F_X11_areTwoPictures
  refine gf_aload_n C dX11_areTwoPictures_0 rfl rfl (gf_getR C dX11_areTwoPictures_1 fl_X11_19 s_0 rfl 3 rfl (gf_iload_n C dX11_areTwoPictures_4 rfl rfl ?_))
  refine gf_callV (ε2 := eI) C [.int a1] dX11_areTwoPictures_5 mw_X0_hasPicture ml_X11_113 s_3 (fun rZ hZ eZ => ok_X0_hasPicture 3 a1 s_3 h rZ hZ eZ) rfl rfl rfl (Nat.le_of_ble_eq_true rfl) (Nat.le_of_ble_eq_true rfl) (Nat.le_of_ble_eq_true rfl) (fun r1 h2 => ?_)
  refine gf_jn (fun (j5 : Int32 → Hp → Option (Int32 × Hp)) => ∀ (s3 : Int32) (h4 : Hp), GF K eI h4 32 [none, none, none] [.int s3] (j5 s3 h4)) ?_ (fun j5 kj5 => ?_)
  · intro s3 h4
    refine gf_gd (fun b6 => ?_)
    exact gf_zret C dX11_areTwoPictures_32 (isB_nar b6) rfl
  refine gf_jn (fun (j8 : Hp → Option (Int32 × Hp)) => ∀ (h7 : Hp), GF K eI h7 31 [none, none, none] [] (j8 h7)) ?_ (fun j8 kj8 => ?_)
  · intro h7
    refine gf_iconst C dX11_areTwoPictures_31 ki_0 ?_
    exact gf_sub [none, none, none] trivial (kj5 (0 : Int32) h7)
  refine gf_ifeq C 31 dX11_areTwoPictures_8 (by decide) (fun _ => ?_) (fun _ => ?_)
  · exact gf_sub [none, none, none] trivial (kj8 h2)
  · refine gf_aload_n C dX11_areTwoPictures_11 rfl rfl (gf_getR C dX11_areTwoPictures_12 fl_X11_19 s_0 rfl 3 rfl (gf_iload_n C dX11_areTwoPictures_15 rfl rfl ?_))
    refine gf_callV (ε2 := eI) C [.int a2] dX11_areTwoPictures_16 mw_X0_hasPicture ml_X11_113 s_3 (fun rZ hZ eZ => ok_X0_hasPicture 3 a2 s_3 h2 rZ hZ eZ) rfl rfl rfl (Nat.le_of_ble_eq_true rfl) (Nat.le_of_ble_eq_true rfl) (Nat.le_of_ble_eq_true rfl) (fun r9 h10 => ?_)
    refine gf_ifeq C 31 dX11_areTwoPictures_19 (by decide) (fun _ => ?_) (fun _ => ?_)
    · exact gf_sub [none, none, none] trivial (kj8 h10)
    · refine gf_iload_n C dX11_areTwoPictures_22 rfl rfl (gf_iload_n C dX11_areTwoPictures_23 rfl rfl ?_)
      refine gf_icmpeq C 31 dX11_areTwoPictures_24 (by decide) (fun _ => ?_) (fun _ => ?_)
      · exact gf_sub [none, none, none] trivial (kj8 h10)
      · refine gf_iconst C dX11_areTwoPictures_27 ki_1 ?_
        refine gf_goto C 32 dX11_areTwoPictures_28 (by decide) ?_
        exact gf_sub [none, none, none] trivial (kj5 (1 : Int32) h10)
def F_X11_before (a1 : Int32) (a2 : Int32) (h : Hp) : Option (Int32 × Hp) :=
  bd (F_X11_areTwoPictures a1 a2 h) (fun r1 h2 => if r1 = 0 then (
  some ((-2 : Int32), h2)) else (
  bd (F_X11_rulesNow h2) (fun _ h3 => bd (F_X7_earlierThan 75 a2 h3) (fun r4 h5 => bd (F_X11_hasBit r4 a1 h5) (fun r6 h7 => jn (fun (s8 : Int32) (h9 : Hp) =>
  some (s8, h9)) (fun j10 => if r6 = 0 then (
  j10 (0 : Int32) h7) else (
  j10 (1 : Int32) h7)))))))
set_option maxRecDepth 100000 in
set_option maxHeartbeats 4000000 in
theorem ok_X11_before (a1 : Int32) (a2 : Int32) (h : Hp) (rZ : Int32) (hZ : Hp) (eZ : F_X11_before a1 a2 h = some (rZ, hZ)) : AC yX11_before cX11_before 3 (some .int) 6 136 [.ref 0, .int a1, .int a2] h (eI rZ) hZ := by
  refine AC_intro (o := F_X11_before a1 a2 h) RX11 rfl (plainFor_of_name (by decide)) [some (.ref 0), some (.int a1), some (.int a2)] rfl (fun _ => rfl) (fun _ => Nat.le_of_ble_eq_true rfl) eZ (fun K C => ?_)
  unfold F_X11_before
  refine gf_aload_n C dX11_before_0 rfl rfl (gf_iload_n C dX11_before_1 rfl rfl (gf_iload_n C dX11_before_2 rfl rfl ?_))
  refine gf_callV (ε2 := eI) C [.int a1, .int a2] dX11_before_3 mw_X11_areTwoPictures ml_X11_232 s_0 (fun rZ hZ eZ => ok_X11_areTwoPictures a1 a2 h rZ hZ eZ) rfl rfl rfl (Nat.le_of_ble_eq_true rfl) (Nat.le_of_ble_eq_true rfl) (Nat.le_of_ble_eq_true rfl) (fun r1 h2 => ?_)
  refine gf_ifne C 12 dX11_before_6 (by decide) (fun _ => ?_) (fun _ => ?_)
  · refine gf_bipush C dX11_before_9 kb_m2 ?_
    exact gf_iret C dX11_before_11 rfl
  · refine gf_aload_n C dX11_before_12 rfl rfl ?_
    refine gf_callV (ε2 := (eR 75)) C [] dX11_before_13 mw_X11_rulesNow ml_X11_128 s_0 (fun rZ hZ eZ => ok_X11_rulesNow  h2 rZ hZ eZ) rfl rfl rfl (Nat.le_of_ble_eq_true rfl) (Nat.le_of_ble_eq_true rfl) (Nat.le_of_ble_eq_true rfl) (fun _ h3 => ?_)
    refine gf_iload_n C dX11_before_16 rfl rfl ?_
    refine gf_callV (ε2 := eI) C [.int a2] dX11_before_17 mw_X7_earlierThan ml_X11_148 s_75 (fun rZ hZ eZ => ok_X7_earlierThan 75 a2 s_75 h3 rZ hZ eZ) rfl rfl rfl (Nat.le_of_ble_eq_true rfl) (Nat.le_of_ble_eq_true rfl) (Nat.le_of_ble_eq_true rfl) (fun r4 h5 => ?_)
    refine gf_iload_n C dX11_before_20 rfl rfl ?_
    refine gf_callS (ε2 := eI) C [.int r4, .int a1] dX11_before_21 mw_X11_hasBit ml_X11_235 (fun rZ hZ eZ => ok_X11_hasBit r4 a1 h5 rZ hZ eZ) rfl rfl rfl (Nat.le_of_ble_eq_true rfl) (Nat.le_of_ble_eq_true rfl) (Nat.le_of_ble_eq_true rfl) (fun r6 h7 => ?_)
    refine gf_jn (fun (j10 : Int32 → Hp → Option (Int32 × Hp)) => ∀ (s8 : Int32) (h9 : Hp), GF K eI h9 32 [none, none, none] [.int s8] (j10 s8 h9)) ?_ (fun j10 kj10 => ?_)
    · intro s8 h9
      exact gf_iret C dX11_before_32 rfl
    refine gf_ifeq C 31 dX11_before_24 (by decide) (fun _ => ?_) (fun _ => ?_)
    · refine gf_iconst C dX11_before_31 ki_0 ?_
      exact gf_sub [none, none, none] trivial (kj10 (0 : Int32) h7)
    · refine gf_iconst C dX11_before_27 ki_1 ?_
      refine gf_goto C 32 dX11_before_28 (by decide) ?_
      exact gf_sub [none, none, none] trivial (kj10 (1 : Int32) h7)
def F_X11_ordersNow (h : Hp) : Option (Unit × Hp) :=
  jn (fun (h1 : Hp) =>
  some ((), h1)) (fun j2 => if (sG h 5248) = 0 then (
  bd (F_X11_rulesNow h) (fun _ h3 => bd (F_X4_seek 82 75 h3) (fun _ h4 => j2 h4))) else (
  j2 h))
set_option maxRecDepth 100000 in
set_option maxHeartbeats 4000000 in
theorem ok_X11_ordersNow (h : Hp) (rZ : Unit) (hZ : Hp) (eZ : F_X11_ordersNow h = some (rZ, hZ)) : AC yX11_ordersNow cX11_ordersNow 1 (some (.object "AlbumHours$Orders")) 6 145 [.ref 0] h ((eR 82) rZ) hZ := by
  refine AC_intro (o := F_X11_ordersNow h) RX11 rfl (plainFor_of_name (by decide)) [some (.ref 0)] rfl (fun _ => rfl) (fun _ => Nat.le_of_ble_eq_true rfl) eZ (fun K C => ?_)
  unfold F_X11_ordersNow
  refine gf_aload_n C dX11_ordersNow_0 rfl rfl (gf_getR C dX11_ordersNow_1 fl_X11_49 s_0 rfl 82 rfl (gf_getI C dX11_ordersNow_4 fl_X11_346 s_82 rfl 5248 rfl ?_))
  refine gf_jn (fun (j2 : Hp → Option (Unit × Hp)) => ∀ (h1 : Hp), GF K (eR 82) h1 21 [some (.ref 0)] [] (j2 h1)) ?_ (fun j2 kj2 => ?_)
  · intro h1
    refine gf_aload_n C dX11_ordersNow_21 rfl rfl (gf_getR C dX11_ordersNow_22 fl_X11_49 s_0 rfl 82 rfl ?_)
    exact gf_aret C dX11_ordersNow_25 (Or.inl ⟨_, rfl⟩) rfl
  refine gf_ifne C 21 dX11_ordersNow_7 (by decide) (fun _ => ?_) (fun _ => ?_)
  · refine gf_aload_n C dX11_ordersNow_10 rfl rfl (gf_getR C dX11_ordersNow_11 fl_X11_49 s_0 rfl 82 rfl (gf_aload_n C dX11_ordersNow_14 rfl rfl ?_))
    refine gf_callV (ε2 := (eR 75)) C [] dX11_ordersNow_15 mw_X11_rulesNow ml_X11_128 s_0 (fun rZ hZ eZ => ok_X11_rulesNow  h rZ hZ eZ) rfl rfl rfl (Nat.le_of_ble_eq_true rfl) (Nat.le_of_ble_eq_true rfl) (Nat.le_of_ble_eq_true rfl) (fun _ h3 => ?_)
    refine gf_callV (ε2 := eV) C [.ref 75] dX11_ordersNow_18 mw_X4_seek ml_X11_353 s_82 (fun rZ hZ eZ => ok_X4_seek 82 75 s_82 s_75 h3 rZ hZ eZ) rfl rfl rfl (Nat.le_of_ble_eq_true rfl) (Nat.le_of_ble_eq_true rfl) (Nat.le_of_ble_eq_true rfl) (fun _ h4 => ?_)
    exact gf_sub [some (.ref 0)] (And.intro rfl trivial) (kj2 h4)
  · exact gf_sub [some (.ref 0)] (And.intro rfl trivial) (kj2 h)
def F_X11_orders (h : Hp) : Option (Int32 × Hp) :=
  bd (F_X11_ordersNow h) (fun _ h1 => some (sG h1 5249, h1))
set_option maxRecDepth 100000 in
set_option maxHeartbeats 4000000 in
theorem ok_X11_orders (h : Hp) (rZ : Int32) (hZ : Hp) (eZ : F_X11_orders h = some (rZ, hZ)) : AC yX11_orders cX11_orders 1 (some .int) 7 165 [.ref 0] h (eI rZ) hZ := by
  refine AC_intro (o := F_X11_orders h) RX11 rfl (plainFor_of_name (by decide)) [some (.ref 0)] rfl (fun _ => rfl) (fun _ => Nat.le_of_ble_eq_true rfl) eZ (fun K C => ?_)
  unfold F_X11_orders
  refine gf_aload_n C dX11_orders_0 rfl rfl ?_
  refine gf_callV (ε2 := (eR 82)) C [] dX11_orders_1 mw_X11_ordersNow ml_X11_238 s_0 (fun rZ hZ eZ => ok_X11_ordersNow  h rZ hZ eZ) rfl rfl rfl (Nat.le_of_ble_eq_true rfl) (Nat.le_of_ble_eq_true rfl) (Nat.le_of_ble_eq_true rfl) (fun _ h1 => ?_)
  refine gf_getI C dX11_orders_4 fl_X11_242 s_82 rfl 5249 rfl ?_
  exact gf_iret C dX11_orders_7 rfl
def F_X11_order (a1 : Int32) (a2 : Int32) (h : Hp) : Option (Int32 × Hp) :=
  jn (fun (h1 : Hp) =>
  some ((-3 : Int32), h1)) (fun j2 => if a1 < 0 then (
  j2 h) else (
  if a2 < 0 then (
  j2 h) else (
  bd (F_X11_ordersNow h) (fun _ h3 => bd (F_X4_pictureAt 82 a1 a2 h3) (fun r4 h5 => some (r4, h5))))))
set_option maxRecDepth 100000 in
set_option maxHeartbeats 4000000 in
theorem ok_X11_order (a1 : Int32) (a2 : Int32) (h : Hp) (rZ : Int32) (hZ : Hp) (eZ : F_X11_order a1 a2 h = some (rZ, hZ)) : AC yX11_order cX11_order 3 (some .int) 7 165 [.ref 0, .int a1, .int a2] h (eI rZ) hZ := by
  refine AC_intro (o := F_X11_order a1 a2 h) RX11 rfl (plainFor_of_name (by decide)) [some (.ref 0), some (.int a1), some (.int a2)] rfl (fun _ => rfl) (fun _ => Nat.le_of_ble_eq_true rfl) eZ (fun K C => ?_)
  unfold F_X11_order
  refine gf_iload_n C dX11_order_0 rfl rfl ?_
  refine gf_jn (fun (j2 : Hp → Option (Int32 × Hp)) => ∀ (h1 : Hp), GF K eI h1 8 [none, none, none] [] (j2 h1)) ?_ (fun j2 kj2 => ?_)
  · intro h1
    refine gf_bipush C dX11_order_8 kb_m3 ?_
    exact gf_iret C dX11_order_10 rfl
  refine gf_iflt C 8 dX11_order_1 (by decide) (fun _ => ?_) (fun _ => ?_)
  · exact gf_sub [none, none, none] trivial (kj2 h)
  · refine gf_iload_n C dX11_order_4 rfl rfl ?_
    refine gf_ifge C 11 dX11_order_5 (by decide) (fun _ => ?_) (fun _ => ?_)
    · exact gf_sub [none, none, none] trivial (kj2 h)
    · refine gf_aload_n C dX11_order_11 rfl rfl ?_
      refine gf_callV (ε2 := (eR 82)) C [] dX11_order_12 mw_X11_ordersNow ml_X11_238 s_0 (fun rZ hZ eZ => ok_X11_ordersNow  h rZ hZ eZ) rfl rfl rfl (Nat.le_of_ble_eq_true rfl) (Nat.le_of_ble_eq_true rfl) (Nat.le_of_ble_eq_true rfl) (fun _ h3 => ?_)
      refine gf_iload_n C dX11_order_15 rfl rfl (gf_iload_n C dX11_order_16 rfl rfl ?_)
      refine gf_callV (ε2 := eI) C [.int a1, .int a2] dX11_order_17 mw_X4_pictureAt ml_X11_245 s_82 (fun rZ hZ eZ => ok_X4_pictureAt 82 a1 a2 s_82 h3 rZ hZ eZ) rfl rfl rfl (Nat.le_of_ble_eq_true rfl) (Nat.le_of_ble_eq_true rfl) (Nat.le_of_ble_eq_true rfl) (fun r4 h5 => ?_)
      exact gf_iret C dX11_order_20 rfl
def F_X11_hoursNow (h : Hp) : Option (Unit × Hp) :=
  jn (fun (h1 : Hp) =>
  some ((), h1)) (fun j2 => if (sG h 5504) = 0 then (
  bd (F_X11_rulesNow h) (fun _ h3 => bd (F_X3_seek 86 75 h3) (fun _ h4 => j2 h4))) else (
  j2 h))
set_option maxRecDepth 100000 in
set_option maxHeartbeats 4000000 in
theorem ok_X11_hoursNow (h : Hp) (rZ : Unit) (hZ : Hp) (eZ : F_X11_hoursNow h = some (rZ, hZ)) : AC yX11_hoursNow cX11_hoursNow 1 (some (.object "AlbumHours$Hours")) 6 136 [.ref 0] h ((eR 86) rZ) hZ := by
  refine AC_intro (o := F_X11_hoursNow h) RX11 rfl (plainFor_of_name (by decide)) [some (.ref 0)] rfl (fun _ => rfl) (fun _ => Nat.le_of_ble_eq_true rfl) eZ (fun K C => ?_)
  unfold F_X11_hoursNow
  refine gf_aload_n C dX11_hoursNow_0 rfl rfl (gf_getR C dX11_hoursNow_1 fl_X11_56 s_0 rfl 86 rfl (gf_getI C dX11_hoursNow_4 fl_X11_347 s_86 rfl 5504 rfl ?_))
  refine gf_jn (fun (j2 : Hp → Option (Unit × Hp)) => ∀ (h1 : Hp), GF K (eR 86) h1 21 [some (.ref 0)] [] (j2 h1)) ?_ (fun j2 kj2 => ?_)
  · intro h1
    refine gf_aload_n C dX11_hoursNow_21 rfl rfl (gf_getR C dX11_hoursNow_22 fl_X11_56 s_0 rfl 86 rfl ?_)
    exact gf_aret C dX11_hoursNow_25 (Or.inl ⟨_, rfl⟩) rfl
  refine gf_ifne C 21 dX11_hoursNow_7 (by decide) (fun _ => ?_) (fun _ => ?_)
  · refine gf_aload_n C dX11_hoursNow_10 rfl rfl (gf_getR C dX11_hoursNow_11 fl_X11_56 s_0 rfl 86 rfl (gf_aload_n C dX11_hoursNow_14 rfl rfl ?_))
    refine gf_callV (ε2 := (eR 75)) C [] dX11_hoursNow_15 mw_X11_rulesNow ml_X11_128 s_0 (fun rZ hZ eZ => ok_X11_rulesNow  h rZ hZ eZ) rfl rfl rfl (Nat.le_of_ble_eq_true rfl) (Nat.le_of_ble_eq_true rfl) (Nat.le_of_ble_eq_true rfl) (fun _ h3 => ?_)
    refine gf_callV (ε2 := eV) C [.ref 75] dX11_hoursNow_18 mw_X3_seek ml_X11_357 s_86 (fun rZ hZ eZ => ok_X3_seek 86 75 s_86 s_75 h3 rZ hZ eZ) rfl rfl rfl (Nat.le_of_ble_eq_true rfl) (Nat.le_of_ble_eq_true rfl) (Nat.le_of_ble_eq_true rfl) (fun _ h4 => ?_)
    exact gf_sub [some (.ref 0)] (And.intro rfl trivial) (kj2 h4)
  · exact gf_sub [some (.ref 0)] (And.intro rfl trivial) (kj2 h)
def F_X11_place (a1 : Int32) (a2 : Int32) (h : Hp) : Option (Int32 × Hp) :=
  bd (F_X0_hasPicture 3 a1 h) (fun r1 h2 => if r1 = 0 then (
  some ((-2 : Int32), h2)) else (
  jn (fun (h3 : Hp) =>
  some ((-3 : Int32), h3)) (fun j4 => if a2 < 0 then (
  j4 h2) else (
  if (1 : Int32) < a2 then (
  j4 h2) else (
  bd (F_X11_hoursNow h2) (fun _ h5 => bd (F_X3_placesOf 86 a1 h5) (fun r6 h7 => if r6 = 0 then (
  some ((-4 : Int32), h7)) else (
  jn (fun (s8 : Int32) (h9 : Hp) =>
  some (s8, h9)) (fun j10 => if a2 = 0 then (
  bd (F_X11_firstSlot r6.toInt64 h7) (fun r11 h12 => j10 r11 h12)) else (
  bd (F_X11_lastSlot r6.toInt64 h7) (fun r13 h14 => j10 r13 h14)))))))))))
set_option maxRecDepth 100000 in
set_option maxHeartbeats 4000000 in
theorem ok_X11_place (a1 : Int32) (a2 : Int32) (h : Hp) (rZ : Int32) (hZ : Hp) (eZ : F_X11_place a1 a2 h = some (rZ, hZ)) : AC yX11_place cX11_place 4 (some .int) 7 156 [.ref 0, .int a1, .int a2] h (eI rZ) hZ := by
  refine AC_intro (o := F_X11_place a1 a2 h) RX11 rfl (plainFor_of_name (by decide)) [some (.ref 0), some (.int a1), some (.int a2), none] rfl (fun _ => rfl) (fun _ => Nat.le_of_ble_eq_true rfl) eZ (fun K C => ?_)
  unfold F_X11_place
  refine gf_aload_n C dX11_place_0 rfl rfl (gf_getR C dX11_place_1 fl_X11_19 s_0 rfl 3 rfl (gf_iload_n C dX11_place_4 rfl rfl ?_))
  refine gf_callV (ε2 := eI) C [.int a1] dX11_place_5 mw_X0_hasPicture ml_X11_113 s_3 (fun rZ hZ eZ => ok_X0_hasPicture 3 a1 s_3 h rZ hZ eZ) rfl rfl rfl (Nat.le_of_ble_eq_true rfl) (Nat.le_of_ble_eq_true rfl) (Nat.le_of_ble_eq_true rfl) (fun r1 h2 => ?_)
  refine gf_ifne C 14 dX11_place_8 (by decide) (fun _ => ?_) (fun _ => ?_)
  · refine gf_bipush C dX11_place_11 kb_m2 ?_
    exact gf_iret C dX11_place_13 rfl
  · refine gf_iload_n C dX11_place_14 rfl rfl ?_
    refine gf_jn (fun (j4 : Hp → Option (Int32 × Hp)) => ∀ (h3 : Hp), GF K eI h3 23 [none, none, none, none] [] (j4 h3)) ?_ (fun j4 kj4 => ?_)
    · intro h3
      refine gf_bipush C dX11_place_23 kb_m3 ?_
      exact gf_iret C dX11_place_25 rfl
    refine gf_iflt C 23 dX11_place_15 (by decide) (fun _ => ?_) (fun _ => ?_)
    · exact gf_sub [none, none, none, none] trivial (kj4 h2)
    · refine gf_iload_n C dX11_place_18 rfl rfl (gf_iconst C dX11_place_19 ki_1 ?_)
      refine gf_icmple C 26 dX11_place_20 (by decide) (fun _ => ?_) (fun _ => ?_)
      · exact gf_sub [none, none, none, none] trivial (kj4 h2)
      · refine gf_aload_n C dX11_place_26 rfl rfl ?_
        refine gf_callV (ε2 := (eR 86)) C [] dX11_place_27 mw_X11_hoursNow ml_X11_248 s_0 (fun rZ hZ eZ => ok_X11_hoursNow  h2 rZ hZ eZ) rfl rfl rfl (Nat.le_of_ble_eq_true rfl) (Nat.le_of_ble_eq_true rfl) (Nat.le_of_ble_eq_true rfl) (fun _ h5 => ?_)
        refine gf_iload_n C dX11_place_30 rfl rfl ?_
        refine gf_callV (ε2 := eI) C [.int a1] dX11_place_31 mw_X3_placesOf ml_X11_252 s_86 (fun rZ hZ eZ => ok_X3_placesOf 86 a1 s_86 h5 rZ hZ eZ) rfl rfl rfl (Nat.le_of_ble_eq_true rfl) (Nat.le_of_ble_eq_true rfl) (Nat.le_of_ble_eq_true rfl) (fun r6 h7 => ?_)
        refine gf_istore_n C dX11_place_34 rfl [some (.ref 0), some (.int a1), some (.int a2), some (.int r6)] rfl rfl (Nat.le_of_ble_eq_true rfl) (gf_iload_n C dX11_place_35 rfl rfl ?_)
        refine gf_ifne C 42 dX11_place_36 (by decide) (fun _ => ?_) (fun _ => ?_)
        · refine gf_bipush C dX11_place_39 kb_m4 ?_
          exact gf_iret C dX11_place_41 rfl
        · refine gf_iload_n C dX11_place_42 rfl rfl ?_
          refine gf_jn (fun (j10 : Int32 → Hp → Option (Int32 × Hp)) => ∀ (s8 : Int32) (h9 : Hp), GF K eI h9 59 [none, none, none, none] [.int s8] (j10 s8 h9)) ?_ (fun j10 kj10 => ?_)
          · intro s8 h9
            exact gf_iret C dX11_place_59 rfl
          refine gf_ifne C 54 dX11_place_43 (by decide) (fun _ => ?_) (fun _ => ?_)
          · refine gf_iload_n C dX11_place_46 rfl rfl (gf_i2l C dX11_place_47 ?_)
            refine gf_callS (ε2 := eI) C [.long r6.toInt64] dX11_place_48 mw_X11_firstSlot ml_X11_142 (fun rZ hZ eZ => ok_X11_firstSlot r6.toInt64 h7 rZ hZ eZ) rfl rfl rfl (Nat.le_of_ble_eq_true rfl) (Nat.le_of_ble_eq_true rfl) (Nat.le_of_ble_eq_true rfl) (fun r11 h12 => ?_)
            refine gf_goto C 59 dX11_place_51 (by decide) ?_
            exact gf_sub [none, none, none, none] trivial (kj10 r11 h12)
          · refine gf_iload_n C dX11_place_54 rfl rfl (gf_i2l C dX11_place_55 ?_)
            refine gf_callS (ε2 := eI) C [.long r6.toInt64] dX11_place_56 mw_X11_lastSlot ml_X11_145 (fun rZ hZ eZ => ok_X11_lastSlot r6.toInt64 h7 rZ hZ eZ) rfl rfl rfl (Nat.le_of_ble_eq_true rfl) (Nat.le_of_ble_eq_true rfl) (Nat.le_of_ble_eq_true rfl) (fun r13 h14 => ?_)
            exact gf_sub [none, none, none, none] trivial (kj10 r13 h14)
def F_X11_often (a1 : Int32) (a2 : Int32) (h : Hp) : Option (Int32 × Hp) :=
  bd (F_X11_areTwoPictures a1 a2 h) (fun r1 h2 => if r1 = 0 then (
  some ((-2 : Int32), h2)) else (
  bd (F_X11_rulesNow h2) (fun _ h3 => bd (F_X1_ordersWithAhead 75 a1 a2 h3) (fun r4 h5 => some (r4, h5)))))
set_option maxRecDepth 100000 in
set_option maxHeartbeats 4000000 in
theorem ok_X11_often (a1 : Int32) (a2 : Int32) (h : Hp) (rZ : Int32) (hZ : Hp) (eZ : F_X11_often a1 a2 h = some (rZ, hZ)) : AC yX11_often cX11_often 3 (some .int) 7 168 [.ref 0, .int a1, .int a2] h (eI rZ) hZ := by
  refine AC_intro (o := F_X11_often a1 a2 h) RX11 rfl (plainFor_of_name (by decide)) [some (.ref 0), some (.int a1), some (.int a2)] rfl (fun _ => rfl) (fun _ => Nat.le_of_ble_eq_true rfl) eZ (fun K C => ?_)
  unfold F_X11_often
  refine gf_aload_n C dX11_often_0 rfl rfl (gf_iload_n C dX11_often_1 rfl rfl (gf_iload_n C dX11_often_2 rfl rfl ?_))
  refine gf_callV (ε2 := eI) C [.int a1, .int a2] dX11_often_3 mw_X11_areTwoPictures ml_X11_232 s_0 (fun rZ hZ eZ => ok_X11_areTwoPictures a1 a2 h rZ hZ eZ) rfl rfl rfl (Nat.le_of_ble_eq_true rfl) (Nat.le_of_ble_eq_true rfl) (Nat.le_of_ble_eq_true rfl) (fun r1 h2 => ?_)
  refine gf_ifne C 12 dX11_often_6 (by decide) (fun _ => ?_) (fun _ => ?_)
  · refine gf_bipush C dX11_often_9 kb_m2 ?_
    exact gf_iret C dX11_often_11 rfl
  · refine gf_aload_n C dX11_often_12 rfl rfl (gf_getR C dX11_often_13 fl_X11_63 s_0 rfl 91 rfl (gf_aload_n C dX11_often_16 rfl rfl ?_))
    refine gf_callV (ε2 := (eR 75)) C [] dX11_often_17 mw_X11_rulesNow ml_X11_128 s_0 (fun rZ hZ eZ => ok_X11_rulesNow  h2 rZ hZ eZ) rfl rfl rfl (Nat.le_of_ble_eq_true rfl) (Nat.le_of_ble_eq_true rfl) (Nat.le_of_ble_eq_true rfl) (fun _ h3 => ?_)
    refine gf_iload_n C dX11_often_20 rfl rfl (gf_iload_n C dX11_often_21 rfl rfl ?_)
    refine gf_callV (ε2 := eI) C [.ref 75, .int a1, .int a2] dX11_often_22 mw_X1_ordersWithAhead ml_X11_255 s_91 (fun rZ hZ eZ => ok_X1_ordersWithAhead 75 a1 a2 s_75 h3 rZ hZ eZ) rfl rfl rfl (Nat.le_of_ble_eq_true rfl) (Nat.le_of_ble_eq_true rfl) (Nat.le_of_ble_eq_true rfl) (fun r4 h5 => ?_)
    exact gf_iret C dX11_often_25 rfl
def F_X11_left (a1 : Int32) (a2 : Int32) (h : Hp) : Option (Int32 × Hp) :=
  bd (F_X0_hasPicture 3 a1 h) (fun r1 h2 => if r1 = 0 then (
  some ((-2 : Int32), h2)) else (
  if a2 = (0 : Int32) then (
  bd (F_X11_hoursNow h2) (fun _ h3 => bd (F_X3_leftTo 86 a1 h3) (fun r4 h5 => bd (F_J13_bitCount_95d88 r4 h5) (fun r6 h7 => some (r6, h7))))) else (if a2 = (1 : Int32) then (
  bd (F_X11_hoursNow h2) (fun _ h9 => bd (F_X3_leftTo 86 a1 h9) (fun r10 h11 => bd (F_X11_firstSlot r10 h11) (fun r12 h13 => some (r12, h13))))) else (if a2 = (2 : Int32) then (
  bd (F_X11_hoursNow h2) (fun _ h15 => bd (F_X3_leftTo 86 a1 h15) (fun r16 h17 => bd (F_X11_lastSlot r16 h17) (fun r18 h19 => some (r18, h19))))) else (
  some ((-3 : Int32), h2))))))
set_option maxRecDepth 100000 in
set_option maxHeartbeats 4000000 in
theorem ok_X11_left (a1 : Int32) (a2 : Int32) (h : Hp) (rZ : Int32) (hZ : Hp) (eZ : F_X11_left a1 a2 h = some (rZ, hZ)) : AC yX11_left cX11_left 3 (some .int) 7 156 [.ref 0, .int a1, .int a2] h (eI rZ) hZ := by
  refine AC_intro (o := F_X11_left a1 a2 h) RX11 rfl (plainFor_of_name (by decide)) [some (.ref 0), some (.int a1), some (.int a2)] rfl (fun _ => rfl) (fun _ => Nat.le_of_ble_eq_true rfl) eZ (fun K C => ?_)
  unfold F_X11_left
  refine gf_aload_n C dX11_left_0 rfl rfl (gf_getR C dX11_left_1 fl_X11_19 s_0 rfl 3 rfl (gf_iload_n C dX11_left_4 rfl rfl ?_))
  refine gf_callV (ε2 := eI) C [.int a1] dX11_left_5 mw_X0_hasPicture ml_X11_113 s_3 (fun rZ hZ eZ => ok_X0_hasPicture 3 a1 s_3 h rZ hZ eZ) rfl rfl rfl (Nat.le_of_ble_eq_true rfl) (Nat.le_of_ble_eq_true rfl) (Nat.le_of_ble_eq_true rfl) (fun r1 h2 => ?_)
  refine gf_ifne C 14 dX11_left_8 (by decide) (fun _ => ?_) (fun _ => ?_)
  · refine gf_bipush C dX11_left_11 kb_m2 ?_
    exact gf_iret C dX11_left_13 rfl
  · refine gf_iload_n C dX11_left_14 rfl rfl ?_
    refine gf_swC (off := 25) C (0 : Int32) 40 dX11_left_15 (by decide) (by decide) (by decide) (by decide) (fun _ => ?_) (fun c8 => ?_)
    · refine gf_aload_n C dX11_left_40 rfl rfl ?_
      refine gf_callV (ε2 := (eR 86)) C [] dX11_left_41 mw_X11_hoursNow ml_X11_248 s_0 (fun rZ hZ eZ => ok_X11_hoursNow  h2 rZ hZ eZ) rfl rfl rfl (Nat.le_of_ble_eq_true rfl) (Nat.le_of_ble_eq_true rfl) (Nat.le_of_ble_eq_true rfl) (fun _ h3 => ?_)
      refine gf_iload_n C dX11_left_44 rfl rfl ?_
      refine gf_callV (ε2 := eL) C [.int a1] dX11_left_45 mw_X3_leftTo ml_X11_259 s_86 (fun rZ hZ eZ => ok_X3_leftTo 86 a1 s_86 h3 rZ hZ eZ) rfl rfl rfl (Nat.le_of_ble_eq_true rfl) (Nat.le_of_ble_eq_true rfl) (Nat.le_of_ble_eq_true rfl) (fun r4 h5 => ?_)
      refine gf_callS (ε2 := eI) C [.long r4] dX11_left_48 mw_J13_bitCount_95d88 ml_X11_136 (fun rZ hZ eZ => ok_J13_bitCount_95d88 r4 h5 rZ hZ eZ) rfl rfl rfl (Nat.le_of_ble_eq_true rfl) (Nat.le_of_ble_eq_true rfl) (Nat.le_of_ble_eq_true rfl) (fun r6 h7 => ?_)
      exact gf_iret C dX11_left_51 rfl
    refine gf_swC (off := 37) C (1 : Int32) 52 dX11_left_15 (by decide) (by decide) (by decide) (by decide) (fun _ => ?_) (fun c14 => ?_)
    · refine gf_aload_n C dX11_left_52 rfl rfl ?_
      refine gf_callV (ε2 := (eR 86)) C [] dX11_left_53 mw_X11_hoursNow ml_X11_248 s_0 (fun rZ hZ eZ => ok_X11_hoursNow  h2 rZ hZ eZ) rfl rfl rfl (Nat.le_of_ble_eq_true rfl) (Nat.le_of_ble_eq_true rfl) (Nat.le_of_ble_eq_true rfl) (fun _ h9 => ?_)
      refine gf_iload_n C dX11_left_56 rfl rfl ?_
      refine gf_callV (ε2 := eL) C [.int a1] dX11_left_57 mw_X3_leftTo ml_X11_259 s_86 (fun rZ hZ eZ => ok_X3_leftTo 86 a1 s_86 h9 rZ hZ eZ) rfl rfl rfl (Nat.le_of_ble_eq_true rfl) (Nat.le_of_ble_eq_true rfl) (Nat.le_of_ble_eq_true rfl) (fun r10 h11 => ?_)
      refine gf_callS (ε2 := eI) C [.long r10] dX11_left_60 mw_X11_firstSlot ml_X11_142 (fun rZ hZ eZ => ok_X11_firstSlot r10 h11 rZ hZ eZ) rfl rfl rfl (Nat.le_of_ble_eq_true rfl) (Nat.le_of_ble_eq_true rfl) (Nat.le_of_ble_eq_true rfl) (fun r12 h13 => ?_)
      exact gf_iret C dX11_left_63 rfl
    refine gf_swC (off := 49) C (2 : Int32) 64 dX11_left_15 (by decide) (by decide) (by decide) (by decide) (fun _ => ?_) (fun c20 => ?_)
    · refine gf_aload_n C dX11_left_64 rfl rfl ?_
      refine gf_callV (ε2 := (eR 86)) C [] dX11_left_65 mw_X11_hoursNow ml_X11_248 s_0 (fun rZ hZ eZ => ok_X11_hoursNow  h2 rZ hZ eZ) rfl rfl rfl (Nat.le_of_ble_eq_true rfl) (Nat.le_of_ble_eq_true rfl) (Nat.le_of_ble_eq_true rfl) (fun _ h15 => ?_)
      refine gf_iload_n C dX11_left_68 rfl rfl ?_
      refine gf_callV (ε2 := eL) C [.int a1] dX11_left_69 mw_X3_leftTo ml_X11_259 s_86 (fun rZ hZ eZ => ok_X3_leftTo 86 a1 s_86 h15 rZ hZ eZ) rfl rfl rfl (Nat.le_of_ble_eq_true rfl) (Nat.le_of_ble_eq_true rfl) (Nat.le_of_ble_eq_true rfl) (fun r16 h17 => ?_)
      refine gf_callS (ε2 := eI) C [.long r16] dX11_left_72 mw_X11_lastSlot ml_X11_145 (fun rZ hZ eZ => ok_X11_lastSlot r16 h17 rZ hZ eZ) rfl rfl rfl (Nat.le_of_ble_eq_true rfl) (Nat.le_of_ble_eq_true rfl) (Nat.le_of_ble_eq_true rfl) (fun r18 h19 => ?_)
      exact gf_iret C dX11_left_75 rfl
    have c8 := lv_neT c8 (a := 0) (by decide)
    have c14 := lv_neT c14 (a := 1) (by decide)
    have c20 := lv_neT c20 (a := 2) (by decide)
    refine gf_swD C 76 dX11_left_15 (by omega) (by decide) ?_
    refine gf_bipush C dX11_left_76 kb_m3 ?_
    exact gf_iret C dX11_left_78 rfl
def F_X11_knot (a1 : Int32) (h : Hp) : Option (Int32 × Hp) :=
  jn (fun (h1 : Hp) =>
  some ((-3 : Int32), h1)) (fun j2 => if a1 < 0 then (
  j2 h) else (
  if (1 : Int32) < a1 then (
  j2 h) else (
  bd (F_X11_rulesNow h) (fun _ h3 => bd (F_X1_knotOf 75 h3) (fun r4 h5 => if r4 = (-1 : Int32) then (
  some ((-1 : Int32), h5)) else (
  jn (fun (s6 : Int32) (h7 : Hp) =>
  some (s6, h7)) (fun j8 => if a1 = 0 then (
  j8 r4 h5) else (
  bd (F_J6_bitCount_0f7a4 r4 h5) (fun r9 h10 => j8 r9 h10)))))))))
set_option maxRecDepth 100000 in
set_option maxHeartbeats 4000000 in
theorem ok_X11_knot (a1 : Int32) (h : Hp) (rZ : Int32) (hZ : Hp) (eZ : F_X11_knot a1 h = some (rZ, hZ)) : AC yX11_knot cX11_knot 3 (some .int) 6 139 [.ref 0, .int a1] h (eI rZ) hZ := by
  refine AC_intro (o := F_X11_knot a1 h) RX11 rfl (plainFor_of_name (by decide)) [some (.ref 0), some (.int a1), none] rfl (fun _ => rfl) (fun _ => Nat.le_of_ble_eq_true rfl) eZ (fun K C => ?_)
  unfold F_X11_knot
  refine gf_iload_n C dX11_knot_0 rfl rfl ?_
  refine gf_jn (fun (j2 : Hp → Option (Int32 × Hp)) => ∀ (h1 : Hp), GF K eI h1 9 [none, none, none] [] (j2 h1)) ?_ (fun j2 kj2 => ?_)
  · intro h1
    refine gf_bipush C dX11_knot_9 kb_m3 ?_
    exact gf_iret C dX11_knot_11 rfl
  refine gf_iflt C 9 dX11_knot_1 (by decide) (fun _ => ?_) (fun _ => ?_)
  · exact gf_sub [none, none, none] trivial (kj2 h)
  · refine gf_iload_n C dX11_knot_4 rfl rfl (gf_iconst C dX11_knot_5 ki_1 ?_)
    refine gf_icmple C 12 dX11_knot_6 (by decide) (fun _ => ?_) (fun _ => ?_)
    · exact gf_sub [none, none, none] trivial (kj2 h)
    · refine gf_aload_n C dX11_knot_12 rfl rfl (gf_getR C dX11_knot_13 fl_X11_63 s_0 rfl 91 rfl (gf_aload_n C dX11_knot_16 rfl rfl ?_))
      refine gf_callV (ε2 := (eR 75)) C [] dX11_knot_17 mw_X11_rulesNow ml_X11_128 s_0 (fun rZ hZ eZ => ok_X11_rulesNow  h rZ hZ eZ) rfl rfl rfl (Nat.le_of_ble_eq_true rfl) (Nat.le_of_ble_eq_true rfl) (Nat.le_of_ble_eq_true rfl) (fun _ h3 => ?_)
      refine gf_callV (ε2 := eI) C [.ref 75] dX11_knot_20 mw_X1_knotOf ml_X11_262 s_91 (fun rZ hZ eZ => ok_X1_knotOf 75 s_75 h3 rZ hZ eZ) rfl rfl rfl (Nat.le_of_ble_eq_true rfl) (Nat.le_of_ble_eq_true rfl) (Nat.le_of_ble_eq_true rfl) (fun r4 h5 => ?_)
      refine gf_istore_n C dX11_knot_23 rfl [some (.ref 0), some (.int a1), some (.int r4)] rfl rfl (Nat.le_of_ble_eq_true rfl) (gf_iload_n C dX11_knot_24 rfl rfl (gf_iconst C dX11_knot_25 ki_m1 ?_))
      refine gf_icmpne C 31 dX11_knot_26 (by decide) (fun _ => ?_) (fun _ => ?_)
      · refine gf_iconst C dX11_knot_29 ki_m1 ?_
        exact gf_iret C dX11_knot_30 rfl
      · refine gf_iload_n C dX11_knot_31 rfl rfl ?_
        refine gf_jn (fun (j8 : Int32 → Hp → Option (Int32 × Hp)) => ∀ (s6 : Int32) (h7 : Hp), GF K eI h7 43 [none, none, none] [.int s6] (j8 s6 h7)) ?_ (fun j8 kj8 => ?_)
        · intro s6 h7
          exact gf_iret C dX11_knot_43 rfl
        refine gf_ifne C 39 dX11_knot_32 (by decide) (fun _ => ?_) (fun _ => ?_)
        · refine gf_iload_n C dX11_knot_35 rfl rfl ?_
          refine gf_goto C 43 dX11_knot_36 (by decide) ?_
          exact gf_sub [none, none, none] trivial (kj8 r4 h5)
        · refine gf_iload_n C dX11_knot_39 rfl rfl ?_
          refine gf_callS (ε2 := eI) C [.int r4] dX11_knot_40 mw_J6_bitCount_0f7a4 ml_X11_151 (fun rZ hZ eZ => ok_J6_bitCount_0f7a4 r4 h5 rZ hZ eZ) rfl rfl rfl (Nat.le_of_ble_eq_true rfl) (Nat.le_of_ble_eq_true rfl) (Nat.le_of_ble_eq_true rfl) (fun r9 h10 => ?_)
          exact gf_sub [none, none, none] trivial (kj8 r9 h10)
def F_X11_loose (a1 : Int32) (h : Hp) : Option (Int32 × Hp) :=
  if a1 < (-1 : Int32) then (
  some ((-3 : Int32), h)) else (
  bd (F_X11_rulesNow h) (fun _ h1 => bd (F_X1_seekLoose 3 75 h1) (fun _ h2 => jn (fun (s3 : Int32) (h4 : Hp) =>
  some (s3, h4)) (fun j5 => if a1 = (-1 : Int32) then (
  j5 (sG h2 5824) h2) else (
  bd (F_X1_looseNumber a1 h2) (fun r6 h7 => j5 r6 h7))))))
set_option maxRecDepth 100000 in
set_option maxHeartbeats 4000000 in
theorem ok_X11_loose (a1 : Int32) (h : Hp) (rZ : Int32) (hZ : Hp) (eZ : F_X11_loose a1 h = some (rZ, hZ)) : AC yX11_loose cX11_loose 2 (some .int) 7 166 [.ref 0, .int a1] h (eI rZ) hZ := by
  refine AC_intro (o := F_X11_loose a1 h) RX11 rfl (plainFor_of_name (by decide)) [some (.ref 0), some (.int a1)] rfl (fun _ => rfl) (fun _ => Nat.le_of_ble_eq_true rfl) eZ (fun K C => ?_)
  unfold F_X11_loose
  refine gf_iload_n C dX11_loose_0 rfl rfl (gf_iconst C dX11_loose_1 ki_m1 ?_)
  refine gf_icmpge C 8 dX11_loose_2 (by decide) (fun _ => ?_) (fun _ => ?_)
  · refine gf_bipush C dX11_loose_5 kb_m3 ?_
    exact gf_iret C dX11_loose_7 rfl
  · refine gf_aload_n C dX11_loose_8 rfl rfl (gf_getR C dX11_loose_9 fl_X11_63 s_0 rfl 91 rfl (gf_aload_n C dX11_loose_12 rfl rfl (gf_getR C dX11_loose_13 fl_X11_19 s_0 rfl 3 rfl (gf_aload_n C dX11_loose_16 rfl rfl ?_))))
    refine gf_callV (ε2 := (eR 75)) C [] dX11_loose_17 mw_X11_rulesNow ml_X11_128 s_0 (fun rZ hZ eZ => ok_X11_rulesNow  h rZ hZ eZ) rfl rfl rfl (Nat.le_of_ble_eq_true rfl) (Nat.le_of_ble_eq_true rfl) (Nat.le_of_ble_eq_true rfl) (fun _ h1 => ?_)
    refine gf_callV (ε2 := eV) C [.ref 3, .ref 75] dX11_loose_20 mw_X1_seekLoose ml_X11_266 s_91 (fun rZ hZ eZ => ok_X1_seekLoose 3 75 s_3 s_75 h1 rZ hZ eZ) rfl rfl rfl (Nat.le_of_ble_eq_true rfl) (Nat.le_of_ble_eq_true rfl) (Nat.le_of_ble_eq_true rfl) (fun _ h2 => ?_)
    refine gf_iload_n C dX11_loose_23 rfl rfl (gf_iconst C dX11_loose_24 ki_m1 ?_)
    refine gf_jn (fun (j5 : Int32 → Hp → Option (Int32 × Hp)) => ∀ (s3 : Int32) (h4 : Hp), GF K eI h4 46 [none, none] [.int s3] (j5 s3 h4)) ?_ (fun j5 kj5 => ?_)
    · intro s3 h4
      exact gf_iret C dX11_loose_46 rfl
    refine gf_icmpne C 38 dX11_loose_25 (by decide) (fun _ => ?_) (fun _ => ?_)
    · refine gf_aload_n C dX11_loose_28 rfl rfl (gf_getR C dX11_loose_29 fl_X11_63 s_0 rfl 91 rfl (gf_getI C dX11_loose_32 fl_X11_270 s_91 rfl 5824 rfl ?_))
      refine gf_goto C 46 dX11_loose_35 (by decide) ?_
      exact gf_sub [none, none] trivial (kj5 (sG h2 5824) h2)
    · refine gf_aload_n C dX11_loose_38 rfl rfl (gf_getR C dX11_loose_39 fl_X11_63 s_0 rfl 91 rfl (gf_iload_n C dX11_loose_42 rfl rfl ?_))
      refine gf_callV (ε2 := eI) C [.int a1] dX11_loose_43 mw_X1_looseNumber ml_X11_273 s_91 (fun rZ hZ eZ => ok_X1_looseNumber a1 h2 rZ hZ eZ) rfl rfl rfl (Nat.le_of_ble_eq_true rfl) (Nat.le_of_ble_eq_true rfl) (Nat.le_of_ble_eq_true rfl) (fun r6 h7 => ?_)
      exact gf_sub [none, none] trivial (kj5 r6 h7)
def F_X11_would (a1 : Int32) (a2 : Int32) (a3 : Int32) (h : Hp) : Option (Int32 × Hp) :=
  bd (F_X0_hasPicture 3 a1 h) (fun r1 h2 => if r1 = 0 then (
  some ((-2 : Int32), h2)) else (
  bd (F_X0_takesValue 3 a2 a3 h2) (fun r3 h4 => if r3 = 0 then (
  some ((-3 : Int32), h4)) else (
  bd (F_X11_rulesNow h4) (fun _ h5 => bd (F_X1_ordersWithPiece 3 75 a1 a2 a3 h5) (fun r6 h7 => some (r6, h7)))))))
set_option maxRecDepth 100000 in
set_option maxHeartbeats 4000000 in
theorem ok_X11_would (a1 : Int32) (a2 : Int32) (a3 : Int32) (h : Hp) (rZ : Int32) (hZ : Hp) (eZ : F_X11_would a1 a2 a3 h = some (rZ, hZ)) : AC yX11_would cX11_would 4 (some .int) 7 170 [.ref 0, .int a1, .int a2, .int a3] h (eI rZ) hZ := by
  refine AC_intro (o := F_X11_would a1 a2 a3 h) RX11 rfl (plainFor_of_name (by decide)) [some (.ref 0), some (.int a1), some (.int a2), some (.int a3)] rfl (fun _ => rfl) (fun _ => Nat.le_of_ble_eq_true rfl) eZ (fun K C => ?_)
  unfold F_X11_would
  refine gf_aload_n C dX11_would_0 rfl rfl (gf_getR C dX11_would_1 fl_X11_19 s_0 rfl 3 rfl (gf_iload_n C dX11_would_4 rfl rfl ?_))
  refine gf_callV (ε2 := eI) C [.int a1] dX11_would_5 mw_X0_hasPicture ml_X11_113 s_3 (fun rZ hZ eZ => ok_X0_hasPicture 3 a1 s_3 h rZ hZ eZ) rfl rfl rfl (Nat.le_of_ble_eq_true rfl) (Nat.le_of_ble_eq_true rfl) (Nat.le_of_ble_eq_true rfl) (fun r1 h2 => ?_)
  refine gf_ifne C 14 dX11_would_8 (by decide) (fun _ => ?_) (fun _ => ?_)
  · refine gf_bipush C dX11_would_11 kb_m2 ?_
    exact gf_iret C dX11_would_13 rfl
  · refine gf_aload_n C dX11_would_14 rfl rfl (gf_getR C dX11_would_15 fl_X11_19 s_0 rfl 3 rfl (gf_iload_n C dX11_would_18 rfl rfl (gf_iload_n C dX11_would_19 rfl rfl ?_)))
    refine gf_callV (ε2 := eI) C [.int a2, .int a3] dX11_would_20 mw_X0_takesValue ml_X11_199 s_3 (fun rZ hZ eZ => ok_X0_takesValue 3 a2 a3 s_3 h2 rZ hZ eZ) rfl rfl rfl (Nat.le_of_ble_eq_true rfl) (Nat.le_of_ble_eq_true rfl) (Nat.le_of_ble_eq_true rfl) (fun r3 h4 => ?_)
    refine gf_ifne C 29 dX11_would_23 (by decide) (fun _ => ?_) (fun _ => ?_)
    · refine gf_bipush C dX11_would_26 kb_m3 ?_
      exact gf_iret C dX11_would_28 rfl
    · refine gf_aload_n C dX11_would_29 rfl rfl (gf_getR C dX11_would_30 fl_X11_63 s_0 rfl 91 rfl (gf_aload_n C dX11_would_33 rfl rfl (gf_getR C dX11_would_34 fl_X11_19 s_0 rfl 3 rfl (gf_aload_n C dX11_would_37 rfl rfl ?_))))
      refine gf_callV (ε2 := (eR 75)) C [] dX11_would_38 mw_X11_rulesNow ml_X11_128 s_0 (fun rZ hZ eZ => ok_X11_rulesNow  h4 rZ hZ eZ) rfl rfl rfl (Nat.le_of_ble_eq_true rfl) (Nat.le_of_ble_eq_true rfl) (Nat.le_of_ble_eq_true rfl) (fun _ h5 => ?_)
      refine gf_iload_n C dX11_would_41 rfl rfl (gf_iload_n C dX11_would_42 rfl rfl (gf_iload_n C dX11_would_43 rfl rfl ?_))
      refine gf_callV (ε2 := eI) C [.ref 3, .ref 75, .int a1, .int a2, .int a3] dX11_would_44 mw_X1_ordersWithPiece ml_X11_276 s_91 (fun rZ hZ eZ => ok_X1_ordersWithPiece 3 75 a1 a2 a3 s_3 s_75 h5 rZ hZ eZ) rfl rfl rfl (Nat.le_of_ble_eq_true rfl) (Nat.le_of_ble_eq_true rfl) (Nat.le_of_ble_eq_true rfl) (fun r6 h7 => ?_)
      exact gf_iret C dX11_would_47 rfl
def F_X11_ask (a1 : Int32) (h : Hp) : Option (Int32 × Hp) :=
  jn (fun (h1 : Hp) =>
  some ((-3 : Int32), h1)) (fun j2 => if a1 < 0 then (
  j2 h) else (
  if (1 : Int32) < a1 then (
  j2 h) else (
  bd (F_X11_rulesNow h) (fun _ h3 => bd (F_X11_ordersNow h3) (fun _ h4 => bd (F_X1_seekAsk 3 75 (sG h4 5249) h4) (fun _ h5 => jn (fun (s6 : Int32) (h7 : Hp) =>
  some (s6, h7)) (fun j8 => if a1 = 0 then (
  j8 (sG h5 5825) h5) else (
  j8 (sG h5 5826) h5))))))))
set_option maxRecDepth 100000 in
set_option maxHeartbeats 4000000 in
theorem ok_X11_ask (a1 : Int32) (h : Hp) (rZ : Int32) (hZ : Hp) (eZ : F_X11_ask a1 h = some (rZ, hZ)) : AC yX11_ask cX11_ask 2 (some .int) 8 198 [.ref 0, .int a1] h (eI rZ) hZ := by
  refine AC_intro (o := F_X11_ask a1 h) RX11 rfl (plainFor_of_name (by decide)) [some (.ref 0), some (.int a1)] rfl (fun _ => rfl) (fun _ => Nat.le_of_ble_eq_true rfl) eZ (fun K C => ?_)
  unfold F_X11_ask
  refine gf_iload_n C dX11_ask_0 rfl rfl ?_
  refine gf_jn (fun (j2 : Hp → Option (Int32 × Hp)) => ∀ (h1 : Hp), GF K eI h1 9 [none, none] [] (j2 h1)) ?_ (fun j2 kj2 => ?_)
  · intro h1
    refine gf_bipush C dX11_ask_9 kb_m3 ?_
    exact gf_iret C dX11_ask_11 rfl
  refine gf_iflt C 9 dX11_ask_1 (by decide) (fun _ => ?_) (fun _ => ?_)
  · exact gf_sub [none, none] trivial (kj2 h)
  · refine gf_iload_n C dX11_ask_4 rfl rfl (gf_iconst C dX11_ask_5 ki_1 ?_)
    refine gf_icmple C 12 dX11_ask_6 (by decide) (fun _ => ?_) (fun _ => ?_)
    · exact gf_sub [none, none] trivial (kj2 h)
    · refine gf_aload_n C dX11_ask_12 rfl rfl (gf_getR C dX11_ask_13 fl_X11_63 s_0 rfl 91 rfl (gf_aload_n C dX11_ask_16 rfl rfl (gf_getR C dX11_ask_17 fl_X11_19 s_0 rfl 3 rfl (gf_aload_n C dX11_ask_20 rfl rfl ?_))))
      refine gf_callV (ε2 := (eR 75)) C [] dX11_ask_21 mw_X11_rulesNow ml_X11_128 s_0 (fun rZ hZ eZ => ok_X11_rulesNow  h rZ hZ eZ) rfl rfl rfl (Nat.le_of_ble_eq_true rfl) (Nat.le_of_ble_eq_true rfl) (Nat.le_of_ble_eq_true rfl) (fun _ h3 => ?_)
      refine gf_aload_n C dX11_ask_24 rfl rfl ?_
      refine gf_callV (ε2 := (eR 82)) C [] dX11_ask_25 mw_X11_ordersNow ml_X11_238 s_0 (fun rZ hZ eZ => ok_X11_ordersNow  h3 rZ hZ eZ) rfl rfl rfl (Nat.le_of_ble_eq_true rfl) (Nat.le_of_ble_eq_true rfl) (Nat.le_of_ble_eq_true rfl) (fun _ h4 => ?_)
      refine gf_getI C dX11_ask_28 fl_X11_242 s_82 rfl 5249 rfl ?_
      refine gf_callV (ε2 := eV) C [.ref 3, .ref 75, .int (sG h4 5249)] dX11_ask_31 mw_X1_seekAsk ml_X11_280 s_91 (fun rZ hZ eZ => ok_X1_seekAsk 3 75 (sG h4 5249) s_3 s_75 h4 rZ hZ eZ) rfl rfl rfl (Nat.le_of_ble_eq_true rfl) (Nat.le_of_ble_eq_true rfl) (Nat.le_of_ble_eq_true rfl) (fun _ h5 => ?_)
      refine gf_iload_n C dX11_ask_34 rfl rfl ?_
      refine gf_jn (fun (j8 : Int32 → Hp → Option (Int32 × Hp)) => ∀ (s6 : Int32) (h7 : Hp), GF K eI h7 55 [none, none] [.int s6] (j8 s6 h7)) ?_ (fun j8 kj8 => ?_)
      · intro s6 h7
        exact gf_iret C dX11_ask_55 rfl
      refine gf_ifne C 48 dX11_ask_35 (by decide) (fun _ => ?_) (fun _ => ?_)
      · refine gf_aload_n C dX11_ask_38 rfl rfl (gf_getR C dX11_ask_39 fl_X11_63 s_0 rfl 91 rfl (gf_getI C dX11_ask_42 fl_X11_284 s_91 rfl 5825 rfl ?_))
        refine gf_goto C 55 dX11_ask_45 (by decide) ?_
        exact gf_sub [none, none] trivial (kj8 (sG h5 5825) h5)
      · refine gf_aload_n C dX11_ask_48 rfl rfl (gf_getR C dX11_ask_49 fl_X11_63 s_0 rfl 91 rfl (gf_getI C dX11_ask_52 fl_X11_287 s_91 rfl 5826 rfl ?_))
        exact gf_sub [none, none] trivial (kj8 (sG h5 5826) h5)
def F_X11_strip (a1 : Int32) (a2 : Int32) (h : Hp) : Option (Int32 × Hp) :=
  bd (F_X8_has a1 h) (fun r1 h2 => if r1 = 0 then (
  some ((-2 : Int32), h2)) else (
  if (8 : Int32) < a2 then (
  some ((-3 : Int32), h2)) else (
  if a2 < 0 then (
  some ((-13 : Int32), h2)) else (
  bd (F_X8_renew a1 a2 h2) (fun _ h3 => some (a2, h3))))))
set_option maxRecDepth 100000 in
set_option maxHeartbeats 4000000 in
theorem ok_X11_strip (a1 : Int32) (a2 : Int32) (h : Hp) (rZ : Int32) (hZ : Hp) (eZ : F_X11_strip a1 a2 h = some (rZ, hZ)) : AC yX11_strip cX11_strip 3 (some .int) 5 111 [.ref 0, .int a1, .int a2] h (eI rZ) hZ := by
  refine AC_intro (o := F_X11_strip a1 a2 h) RX11 rfl (plainFor_of_name (by decide)) [some (.ref 0), some (.int a1), some (.int a2)] rfl (fun _ => rfl) (fun _ => Nat.le_of_ble_eq_true rfl) eZ (fun K C => ?_)
  unfold F_X11_strip
  refine gf_aload_n C dX11_strip_0 rfl rfl (gf_getR C dX11_strip_1 fl_X11_70 s_0 rfl 114 rfl (gf_iload_n C dX11_strip_4 rfl rfl ?_))
  refine gf_callV (ε2 := eI) C [.int a1] dX11_strip_5 mw_X8_has ml_X11_290 s_114 (fun rZ hZ eZ => ok_X8_has a1 h rZ hZ eZ) rfl rfl rfl (Nat.le_of_ble_eq_true rfl) (Nat.le_of_ble_eq_true rfl) (Nat.le_of_ble_eq_true rfl) (fun r1 h2 => ?_)
  refine gf_ifne C 14 dX11_strip_8 (by decide) (fun _ => ?_) (fun _ => ?_)
  · refine gf_bipush C dX11_strip_11 kb_m2 ?_
    exact gf_iret C dX11_strip_13 rfl
  · refine gf_iload_n C dX11_strip_14 rfl rfl (gf_bipush C dX11_strip_15 kb_8 ?_)
    refine gf_icmple C 23 dX11_strip_17 (by decide) (fun _ => ?_) (fun _ => ?_)
    · refine gf_bipush C dX11_strip_20 kb_m3 ?_
      exact gf_iret C dX11_strip_22 rfl
    · refine gf_iload_n C dX11_strip_23 rfl rfl ?_
      refine gf_ifge C 30 dX11_strip_24 (by decide) (fun _ => ?_) (fun _ => ?_)
      · refine gf_bipush C dX11_strip_27 kb_m13 ?_
        exact gf_iret C dX11_strip_29 rfl
      · refine gf_aload_n C dX11_strip_30 rfl rfl (gf_getR C dX11_strip_31 fl_X11_70 s_0 rfl 114 rfl (gf_iload_n C dX11_strip_34 rfl rfl (gf_iload_n C dX11_strip_35 rfl rfl ?_)))
        refine gf_callV (ε2 := eV) C [.int a1, .int a2] dX11_strip_36 mw_X8_renew ml_X11_293 s_114 (fun rZ hZ eZ => ok_X8_renew a1 a2 h2 rZ hZ eZ) rfl rfl rfl (Nat.le_of_ble_eq_true rfl) (Nat.le_of_ble_eq_true rfl) (Nat.le_of_ble_eq_true rfl) (fun _ h3 => ?_)
        refine gf_iload_n C dX11_strip_39 rfl rfl ?_
        exact gf_iret C dX11_strip_40 rfl
def F_X11_set (a1 : Int32) (a2 : Int32) (a3 : Int32) (h : Hp) : Option (Int32 × Hp) :=
  bd (F_X8_has a1 h) (fun r1 h2 => if r1 = 0 then (
  some ((-2 : Int32), h2)) else (
  bd (F_X8_isMissing a1 h2) (fun r3 h4 => if r3 = 0 then (
  bd (F_X8_hasPlace a1 a2 h4) (fun r5 h6 => if r5 = 0 then (
  some ((-12 : Int32), h6)) else (
  bd (F_X8_put a1 a2 a3.toInt64 h6) (fun _ h7 => some ((1 : Int32), h7))))) else (
  some ((-11 : Int32), h4)))))
set_option maxRecDepth 100000 in
set_option maxHeartbeats 4000000 in
theorem ok_X11_set (a1 : Int32) (a2 : Int32) (a3 : Int32) (h : Hp) (rZ : Int32) (hZ : Hp) (eZ : F_X11_set a1 a2 a3 h = some (rZ, hZ)) : AC yX11_set cX11_set 4 (some .int) 4 88 [.ref 0, .int a1, .int a2, .int a3] h (eI rZ) hZ := by
  refine AC_intro (o := F_X11_set a1 a2 a3 h) RX11 rfl (plainFor_of_name (by decide)) [some (.ref 0), some (.int a1), some (.int a2), some (.int a3)] rfl (fun _ => rfl) (fun _ => Nat.le_of_ble_eq_true rfl) eZ (fun K C => ?_)
  unfold F_X11_set
  refine gf_aload_n C dX11_set_0 rfl rfl (gf_getR C dX11_set_1 fl_X11_70 s_0 rfl 114 rfl (gf_iload_n C dX11_set_4 rfl rfl ?_))
  refine gf_callV (ε2 := eI) C [.int a1] dX11_set_5 mw_X8_has ml_X11_290 s_114 (fun rZ hZ eZ => ok_X8_has a1 h rZ hZ eZ) rfl rfl rfl (Nat.le_of_ble_eq_true rfl) (Nat.le_of_ble_eq_true rfl) (Nat.le_of_ble_eq_true rfl) (fun r1 h2 => ?_)
  refine gf_ifne C 14 dX11_set_8 (by decide) (fun _ => ?_) (fun _ => ?_)
  · refine gf_bipush C dX11_set_11 kb_m2 ?_
    exact gf_iret C dX11_set_13 rfl
  · refine gf_aload_n C dX11_set_14 rfl rfl (gf_getR C dX11_set_15 fl_X11_70 s_0 rfl 114 rfl (gf_iload_n C dX11_set_18 rfl rfl ?_))
    refine gf_callV (ε2 := eI) C [.int a1] dX11_set_19 mw_X8_isMissing ml_X11_296 s_114 (fun rZ hZ eZ => ok_X8_isMissing a1 h2 rZ hZ eZ) rfl rfl rfl (Nat.le_of_ble_eq_true rfl) (Nat.le_of_ble_eq_true rfl) (Nat.le_of_ble_eq_true rfl) (fun r3 h4 => ?_)
    refine gf_ifeq C 28 dX11_set_22 (by decide) (fun _ => ?_) (fun _ => ?_)
    · refine gf_aload_n C dX11_set_28 rfl rfl (gf_getR C dX11_set_29 fl_X11_70 s_0 rfl 114 rfl (gf_iload_n C dX11_set_32 rfl rfl (gf_iload_n C dX11_set_33 rfl rfl ?_)))
      refine gf_callV (ε2 := eI) C [.int a1, .int a2] dX11_set_34 mw_X8_hasPlace ml_X11_299 s_114 (fun rZ hZ eZ => ok_X8_hasPlace a1 a2 h4 rZ hZ eZ) rfl rfl rfl (Nat.le_of_ble_eq_true rfl) (Nat.le_of_ble_eq_true rfl) (Nat.le_of_ble_eq_true rfl) (fun r5 h6 => ?_)
      refine gf_ifne C 43 dX11_set_37 (by decide) (fun _ => ?_) (fun _ => ?_)
      · refine gf_bipush C dX11_set_40 kb_m12 ?_
        exact gf_iret C dX11_set_42 rfl
      · refine gf_aload_n C dX11_set_43 rfl rfl (gf_getR C dX11_set_44 fl_X11_70 s_0 rfl 114 rfl (gf_iload_n C dX11_set_47 rfl rfl (gf_iload_n C dX11_set_48 rfl rfl (gf_iload_n C dX11_set_49 rfl rfl (gf_i2l C dX11_set_50 ?_)))))
        refine gf_callV (ε2 := eV) C [.int a1, .int a2, .long a3.toInt64] dX11_set_51 mw_X8_put ml_X11_302 s_114 (fun rZ hZ eZ => ok_X8_put a1 a2 a3.toInt64 h6 rZ hZ eZ) rfl rfl rfl (Nat.le_of_ble_eq_true rfl) (Nat.le_of_ble_eq_true rfl) (Nat.le_of_ble_eq_true rfl) (fun _ h7 => ?_)
        refine gf_iconst C dX11_set_54 ki_1 ?_
        exact gf_iret C dX11_set_55 rfl
    · refine gf_bipush C dX11_set_25 kb_m11 ?_
      exact gf_iret C dX11_set_27 rfl
def F_X11_load (a1 : Int32) (a2 : Int32) (a3 : Int32) (a4 : Int32) (h : Hp) : Option (Int32 × Hp) :=
  bd (F_X8_has a1 h) (fun r1 h2 => jn (fun (h3 : Hp) =>
  some ((-2 : Int32), h3)) (fun j4 => if r1 = 0 then (
  j4 h2) else (
  bd (F_X0_hasPicture 3 a3 h2) (fun r5 h6 => if r5 = 0 then (
  j4 h6) else (
  jn (fun (h7 : Hp) =>
  some ((-3 : Int32), h7)) (fun j8 => if a4 < 0 then (
  j8 h6) else (
  if (1 : Int32) < a4 then (
  j8 h6) else (
  bd (F_X8_isMissing a1 h6) (fun r9 h10 => if r9 = 0 then (
  bd (F_X8_hasPlace a1 a2 h10) (fun r11 h12 => if r11 = 0 then (
  some ((-12 : Int32), h12)) else (
  jn (fun (s13 : Int64) (h14 : Hp) =>
  bd (F_X8_put a1 a2 s13 h14) (fun _ h16 => bd (F_J13_bitCount_95d88 s13 h16) (fun r17 h18 => some (r17, h18)))) (fun j15 => if a4 = 0 then (
  bd (F_X11_rulesNow h12) (fun _ h19 => bd (F_X7_windowOf 75 a3 h19) (fun r20 h21 => j15 r20 h21))) else (
  bd (F_X11_hoursNow h12) (fun _ h22 => bd (F_X3_leftTo 86 a3 h22) (fun r23 h24 => j15 r23 h24))))))) else (
  some ((-11 : Int32), h10)))))))))))
set_option maxRecDepth 100000 in
set_option maxHeartbeats 4000000 in
theorem ok_X11_load (a1 : Int32) (a2 : Int32) (a3 : Int32) (a4 : Int32) (h : Hp) (rZ : Int32) (hZ : Hp) (eZ : F_X11_load a1 a2 a3 a4 h = some (rZ, hZ)) : AC yX11_load cX11_load 7 (some .int) 7 156 [.ref 0, .int a1, .int a2, .int a3, .int a4] h (eI rZ) hZ := by
  refine AC_intro (o := F_X11_load a1 a2 a3 a4 h) RX11 rfl (plainFor_of_name (by decide)) [some (.ref 0), some (.int a1), some (.int a2), some (.int a3), some (.int a4), none, none] rfl (fun _ => rfl) (fun _ => Nat.le_of_ble_eq_true rfl) eZ (fun K C => ?_)
  unfold F_X11_load
  refine gf_aload_n C dX11_load_0 rfl rfl (gf_getR C dX11_load_1 fl_X11_70 s_0 rfl 114 rfl (gf_iload_n C dX11_load_4 rfl rfl ?_))
  refine gf_callV (ε2 := eI) C [.int a1] dX11_load_5 mw_X8_has ml_X11_290 s_114 (fun rZ hZ eZ => ok_X8_has a1 h rZ hZ eZ) rfl rfl rfl (Nat.le_of_ble_eq_true rfl) (Nat.le_of_ble_eq_true rfl) (Nat.le_of_ble_eq_true rfl) (fun r1 h2 => ?_)
  refine gf_jn (fun (j4 : Hp → Option (Int32 × Hp)) => ∀ (h3 : Hp), GF K eI h3 22 [none, none, none, none, none, none, none] [] (j4 h3)) ?_ (fun j4 kj4 => ?_)
  · intro h3
    refine gf_bipush C dX11_load_22 kb_m2 ?_
    exact gf_iret C dX11_load_24 rfl
  refine gf_ifeq C 22 dX11_load_8 (by decide) (fun _ => ?_) (fun _ => ?_)
  · exact gf_sub [none, none, none, none, none, none, none] trivial (kj4 h2)
  · refine gf_aload_n C dX11_load_11 rfl rfl (gf_getR C dX11_load_12 fl_X11_19 s_0 rfl 3 rfl (gf_iload_n C dX11_load_15 rfl rfl ?_))
    refine gf_callV (ε2 := eI) C [.int a3] dX11_load_16 mw_X0_hasPicture ml_X11_113 s_3 (fun rZ hZ eZ => ok_X0_hasPicture 3 a3 s_3 h2 rZ hZ eZ) rfl rfl rfl (Nat.le_of_ble_eq_true rfl) (Nat.le_of_ble_eq_true rfl) (Nat.le_of_ble_eq_true rfl) (fun r5 h6 => ?_)
    refine gf_ifne C 25 dX11_load_19 (by decide) (fun _ => ?_) (fun _ => ?_)
    · exact gf_sub [none, none, none, none, none, none, none] trivial (kj4 h6)
    · refine gf_iload C dX11_load_25 rfl ?_
      refine gf_jn (fun (j8 : Hp → Option (Int32 × Hp)) => ∀ (h7 : Hp), GF K eI h7 36 [none, none, none, none, none, none, none] [] (j8 h7)) ?_ (fun j8 kj8 => ?_)
      · intro h7
        refine gf_bipush C dX11_load_36 kb_m3 ?_
        exact gf_iret C dX11_load_38 rfl
      refine gf_iflt C 36 dX11_load_27 (by decide) (fun _ => ?_) (fun _ => ?_)
      · exact gf_sub [none, none, none, none, none, none, none] trivial (kj8 h6)
      · refine gf_iload C dX11_load_30 rfl (gf_iconst C dX11_load_32 ki_1 ?_)
        refine gf_icmple C 39 dX11_load_33 (by decide) (fun _ => ?_) (fun _ => ?_)
        · exact gf_sub [none, none, none, none, none, none, none] trivial (kj8 h6)
        · refine gf_aload_n C dX11_load_39 rfl rfl (gf_getR C dX11_load_40 fl_X11_70 s_0 rfl 114 rfl (gf_iload_n C dX11_load_43 rfl rfl ?_))
          refine gf_callV (ε2 := eI) C [.int a1] dX11_load_44 mw_X8_isMissing ml_X11_296 s_114 (fun rZ hZ eZ => ok_X8_isMissing a1 h6 rZ hZ eZ) rfl rfl rfl (Nat.le_of_ble_eq_true rfl) (Nat.le_of_ble_eq_true rfl) (Nat.le_of_ble_eq_true rfl) (fun r9 h10 => ?_)
          refine gf_ifeq C 53 dX11_load_47 (by decide) (fun _ => ?_) (fun _ => ?_)
          · refine gf_aload_n C dX11_load_53 rfl rfl (gf_getR C dX11_load_54 fl_X11_70 s_0 rfl 114 rfl (gf_iload_n C dX11_load_57 rfl rfl (gf_iload_n C dX11_load_58 rfl rfl ?_)))
            refine gf_callV (ε2 := eI) C [.int a1, .int a2] dX11_load_59 mw_X8_hasPlace ml_X11_299 s_114 (fun rZ hZ eZ => ok_X8_hasPlace a1 a2 h10 rZ hZ eZ) rfl rfl rfl (Nat.le_of_ble_eq_true rfl) (Nat.le_of_ble_eq_true rfl) (Nat.le_of_ble_eq_true rfl) (fun r11 h12 => ?_)
            refine gf_ifne C 68 dX11_load_62 (by decide) (fun _ => ?_) (fun _ => ?_)
            · refine gf_bipush C dX11_load_65 kb_m12 ?_
              exact gf_iret C dX11_load_67 rfl
            · refine gf_iload C dX11_load_68 rfl ?_
              refine gf_jn (fun (j15 : Int64 → Hp → Option (Int32 × Hp)) => ∀ (s13 : Int64) (h14 : Hp), GF K eI h14 92 [some (.ref 0), some (.int a1), some (.int a2), none, none, none, none] [.long s13] (j15 s13 h14)) ?_ (fun j15 kj15 => ?_)
              · intro s13 h14
                refine gf_lstore C dX11_load_92 [some (.ref 0), some (.int a1), some (.int a2), none, none, some (.long s13), none] rfl rfl (Nat.le_of_ble_eq_true rfl) (gf_aload_n C dX11_load_94 rfl rfl (gf_getR C dX11_load_95 fl_X11_70 s_0 rfl 114 rfl (gf_iload_n C dX11_load_98 rfl rfl (gf_iload_n C dX11_load_99 rfl rfl (gf_lload C dX11_load_100 rfl ?_)))))
                refine gf_callV (ε2 := eV) C [.int a1, .int a2, .long s13] dX11_load_102 mw_X8_put ml_X11_302 s_114 (fun rZ hZ eZ => ok_X8_put a1 a2 s13 h14 rZ hZ eZ) rfl rfl rfl (Nat.le_of_ble_eq_true rfl) (Nat.le_of_ble_eq_true rfl) (Nat.le_of_ble_eq_true rfl) (fun _ h16 => ?_)
                refine gf_lload C dX11_load_105 rfl ?_
                refine gf_callS (ε2 := eI) C [.long s13] dX11_load_107 mw_J13_bitCount_95d88 ml_X11_136 (fun rZ hZ eZ => ok_J13_bitCount_95d88 s13 h16 rZ hZ eZ) rfl rfl rfl (Nat.le_of_ble_eq_true rfl) (Nat.le_of_ble_eq_true rfl) (Nat.le_of_ble_eq_true rfl) (fun r17 h18 => ?_)
                exact gf_iret C dX11_load_110 rfl
              refine gf_ifne C 84 dX11_load_70 (by decide) (fun _ => ?_) (fun _ => ?_)
              · refine gf_aload_n C dX11_load_73 rfl rfl ?_
                refine gf_callV (ε2 := (eR 75)) C [] dX11_load_74 mw_X11_rulesNow ml_X11_128 s_0 (fun rZ hZ eZ => ok_X11_rulesNow  h12 rZ hZ eZ) rfl rfl rfl (Nat.le_of_ble_eq_true rfl) (Nat.le_of_ble_eq_true rfl) (Nat.le_of_ble_eq_true rfl) (fun _ h19 => ?_)
                refine gf_iload_n C dX11_load_77 rfl rfl ?_
                refine gf_callV (ε2 := eL) C [.int a3] dX11_load_78 mw_X7_windowOf ml_X11_132 s_75 (fun rZ hZ eZ => ok_X7_windowOf 75 a3 s_75 h19 rZ hZ eZ) rfl rfl rfl (Nat.le_of_ble_eq_true rfl) (Nat.le_of_ble_eq_true rfl) (Nat.le_of_ble_eq_true rfl) (fun r20 h21 => ?_)
                refine gf_goto C 92 dX11_load_81 (by decide) ?_
                exact gf_sub [some (.ref 0), some (.int a1), some (.int a2), none, none, none, none] (And.intro rfl (And.intro rfl (And.intro rfl trivial))) (kj15 r20 h21)
              · refine gf_aload_n C dX11_load_84 rfl rfl ?_
                refine gf_callV (ε2 := (eR 86)) C [] dX11_load_85 mw_X11_hoursNow ml_X11_248 s_0 (fun rZ hZ eZ => ok_X11_hoursNow  h12 rZ hZ eZ) rfl rfl rfl (Nat.le_of_ble_eq_true rfl) (Nat.le_of_ble_eq_true rfl) (Nat.le_of_ble_eq_true rfl) (fun _ h22 => ?_)
                refine gf_iload_n C dX11_load_88 rfl rfl ?_
                refine gf_callV (ε2 := eL) C [.int a3] dX11_load_89 mw_X3_leftTo ml_X11_259 s_86 (fun rZ hZ eZ => ok_X3_leftTo 86 a3 s_86 h22 rZ hZ eZ) rfl rfl rfl (Nat.le_of_ble_eq_true rfl) (Nat.le_of_ble_eq_true rfl) (Nat.le_of_ble_eq_true rfl) (fun r23 h24 => ?_)
                exact gf_sub [some (.ref 0), some (.int a1), some (.int a2), none, none, none, none] (And.intro rfl (And.intro rfl (And.intro rfl trivial))) (kj15 r23 h24)
          · refine gf_bipush C dX11_load_50 kb_m11 ?_
            exact gf_iret C dX11_load_52 rfl
def F_X11_work (a1 : Int32) (a2 : Int32) (a3 : Int32) (a4 : Int32) (h : Hp) : Option (Int32 × Hp) :=
  bd (F_X8_has a1 h) (fun r1 h2 => if r1 = 0 then (
  some ((-2 : Int32), h2)) else (
  jn (fun (h3 : Hp) =>
  some ((-3 : Int32), h3)) (fun j4 => if a3 < 0 then (
  j4 h2) else (
  if (3 : Int32) < a3 then (
  j4 h2) else (
  jn (fun (s5 : Int32) (h6 : Hp) =>
  jn (fun (h8 : Hp) =>
  bd (F_X8_isMissing a1 h8) (fun r10 h11 => if r10 = 0 then (
  bd (F_X8_hasPlace a1 a2 h11) (fun r12 h13 => if r12 = 0 then (
  some ((-12 : Int32), h13)) else (
  jn (fun (h14 : Hp) =>
  bd (F_X8_change a1 a2 a3 a4 h14) (fun _ h16 => some ((1 : Int32), h16))) (fun j15 => if s5 = 0 then (
  bd (F_X8_hasPlace a1 a4 h13) (fun r17 h18 => if r17 = 0 then (
  some ((-12 : Int32), h18)) else (
  j15 h18))) else (
  j15 h13))))) else (
  some ((-11 : Int32), h11)))) (fun j9 => if s5 = 0 then (
  j9 h6) else (
  jn (fun (h19 : Hp) =>
  some ((-3 : Int32), h19)) (fun j20 => if a4 < 0 then (
  j20 h6) else (
  if (99 : Int32) < a4 then (
  j20 h6) else (
  j9 h6)))))) (fun j7 => if (1 : Int32) < a3 then (
  j7 (1 : Int32) h2) else (
  j7 (0 : Int32) h2)))))))
set_option maxRecDepth 100000 in
set_option maxHeartbeats 4000000 in
theorem ok_X11_work (a1 : Int32) (a2 : Int32) (a3 : Int32) (a4 : Int32) (h : Hp) (rZ : Int32) (hZ : Hp) (eZ : F_X11_work a1 a2 a3 a4 h = some (rZ, hZ)) : AC yX11_work cX11_work 6 (some .int) 5 114 [.ref 0, .int a1, .int a2, .int a3, .int a4] h (eI rZ) hZ := by
  refine AC_intro (o := F_X11_work a1 a2 a3 a4 h) RX11 rfl (plainFor_of_name (by decide)) [some (.ref 0), some (.int a1), some (.int a2), some (.int a3), some (.int a4), none] rfl (fun _ => rfl) (fun _ => Nat.le_of_ble_eq_true rfl) eZ (fun K C => ?_)
  unfold F_X11_work
  refine gf_aload_n C dX11_work_0 rfl rfl (gf_getR C dX11_work_1 fl_X11_70 s_0 rfl 114 rfl (gf_iload_n C dX11_work_4 rfl rfl ?_))
  refine gf_callV (ε2 := eI) C [.int a1] dX11_work_5 mw_X8_has ml_X11_290 s_114 (fun rZ hZ eZ => ok_X8_has a1 h rZ hZ eZ) rfl rfl rfl (Nat.le_of_ble_eq_true rfl) (Nat.le_of_ble_eq_true rfl) (Nat.le_of_ble_eq_true rfl) (fun r1 h2 => ?_)
  refine gf_ifne C 14 dX11_work_8 (by decide) (fun _ => ?_) (fun _ => ?_)
  · refine gf_bipush C dX11_work_11 kb_m2 ?_
    exact gf_iret C dX11_work_13 rfl
  · refine gf_iload_n C dX11_work_14 rfl rfl ?_
    refine gf_jn (fun (j4 : Hp → Option (Int32 × Hp)) => ∀ (h3 : Hp), GF K eI h3 23 [none, none, none, none, none, none] [] (j4 h3)) ?_ (fun j4 kj4 => ?_)
    · intro h3
      refine gf_bipush C dX11_work_23 kb_m3 ?_
      exact gf_iret C dX11_work_25 rfl
    refine gf_iflt C 23 dX11_work_15 (by decide) (fun _ => ?_) (fun _ => ?_)
    · exact gf_sub [none, none, none, none, none, none] trivial (kj4 h2)
    · refine gf_iload_n C dX11_work_18 rfl rfl (gf_iconst C dX11_work_19 ki_3 ?_)
      refine gf_icmple C 26 dX11_work_20 (by decide) (fun _ => ?_) (fun _ => ?_)
      · exact gf_sub [none, none, none, none, none, none] trivial (kj4 h2)
      · refine gf_iload_n C dX11_work_26 rfl rfl (gf_iconst C dX11_work_27 ki_1 ?_)
        refine gf_jn (fun (j7 : Int32 → Hp → Option (Int32 × Hp)) => ∀ (s5 : Int32) (h6 : Hp), GF K eI h6 36 [some (.ref 0), some (.int a1), some (.int a2), some (.int a3), some (.int a4), none] [.int s5] (j7 s5 h6)) ?_ (fun j7 kj7 => ?_)
        · intro s5 h6
          refine gf_istore C dX11_work_36 [some (.ref 0), some (.int a1), some (.int a2), some (.int a3), some (.int a4), some (.int s5)] rfl rfl (Nat.le_of_ble_eq_true rfl) (gf_iload C dX11_work_38 rfl ?_)
          refine gf_jn (fun (j9 : Hp → Option (Int32 × Hp)) => ∀ (h8 : Hp), GF K eI h8 58 [some (.ref 0), some (.int a1), some (.int a2), some (.int a3), some (.int a4), some (.int s5)] [] (j9 h8)) ?_ (fun j9 kj9 => ?_)
          · intro h8
            refine gf_aload_n C dX11_work_58 rfl rfl (gf_getR C dX11_work_59 fl_X11_70 s_0 rfl 114 rfl (gf_iload_n C dX11_work_62 rfl rfl ?_))
            refine gf_callV (ε2 := eI) C [.int a1] dX11_work_63 mw_X8_isMissing ml_X11_296 s_114 (fun rZ hZ eZ => ok_X8_isMissing a1 h8 rZ hZ eZ) rfl rfl rfl (Nat.le_of_ble_eq_true rfl) (Nat.le_of_ble_eq_true rfl) (Nat.le_of_ble_eq_true rfl) (fun r10 h11 => ?_)
            refine gf_ifeq C 72 dX11_work_66 (by decide) (fun _ => ?_) (fun _ => ?_)
            · refine gf_aload_n C dX11_work_72 rfl rfl (gf_getR C dX11_work_73 fl_X11_70 s_0 rfl 114 rfl (gf_iload_n C dX11_work_76 rfl rfl (gf_iload_n C dX11_work_77 rfl rfl ?_)))
              refine gf_callV (ε2 := eI) C [.int a1, .int a2] dX11_work_78 mw_X8_hasPlace ml_X11_299 s_114 (fun rZ hZ eZ => ok_X8_hasPlace a1 a2 h11 rZ hZ eZ) rfl rfl rfl (Nat.le_of_ble_eq_true rfl) (Nat.le_of_ble_eq_true rfl) (Nat.le_of_ble_eq_true rfl) (fun r12 h13 => ?_)
              refine gf_ifne C 87 dX11_work_81 (by decide) (fun _ => ?_) (fun _ => ?_)
              · refine gf_bipush C dX11_work_84 kb_m12 ?_
                exact gf_iret C dX11_work_86 rfl
              · refine gf_iload C dX11_work_87 rfl ?_
                refine gf_jn (fun (j15 : Hp → Option (Int32 × Hp)) => ∀ (h14 : Hp), GF K eI h14 108 [some (.ref 0), some (.int a1), some (.int a2), some (.int a3), some (.int a4), none] [] (j15 h14)) ?_ (fun j15 kj15 => ?_)
                · intro h14
                  refine gf_aload_n C dX11_work_108 rfl rfl (gf_getR C dX11_work_109 fl_X11_70 s_0 rfl 114 rfl (gf_iload_n C dX11_work_112 rfl rfl (gf_iload_n C dX11_work_113 rfl rfl (gf_iload_n C dX11_work_114 rfl rfl (gf_iload C dX11_work_115 rfl ?_)))))
                  refine gf_callV (ε2 := eV) C [.int a1, .int a2, .int a3, .int a4] dX11_work_117 mw_X8_change ml_X11_305 s_114 (fun rZ hZ eZ => ok_X8_change a1 a2 a3 a4 h14 rZ hZ eZ) rfl rfl rfl (Nat.le_of_ble_eq_true rfl) (Nat.le_of_ble_eq_true rfl) (Nat.le_of_ble_eq_true rfl) (fun _ h16 => ?_)
                  refine gf_iconst C dX11_work_120 ki_1 ?_
                  exact gf_iret C dX11_work_121 rfl
                refine gf_ifne C 108 dX11_work_89 (by decide) (fun _ => ?_) (fun _ => ?_)
                · refine gf_aload_n C dX11_work_92 rfl rfl (gf_getR C dX11_work_93 fl_X11_70 s_0 rfl 114 rfl (gf_iload_n C dX11_work_96 rfl rfl (gf_iload C dX11_work_97 rfl ?_)))
                  refine gf_callV (ε2 := eI) C [.int a1, .int a4] dX11_work_99 mw_X8_hasPlace ml_X11_299 s_114 (fun rZ hZ eZ => ok_X8_hasPlace a1 a4 h13 rZ hZ eZ) rfl rfl rfl (Nat.le_of_ble_eq_true rfl) (Nat.le_of_ble_eq_true rfl) (Nat.le_of_ble_eq_true rfl) (fun r17 h18 => ?_)
                  refine gf_ifne C 108 dX11_work_102 (by decide) (fun _ => ?_) (fun _ => ?_)
                  · refine gf_bipush C dX11_work_105 kb_m12 ?_
                    exact gf_iret C dX11_work_107 rfl
                  · exact gf_sub [some (.ref 0), some (.int a1), some (.int a2), some (.int a3), some (.int a4), none] (And.intro rfl (And.intro rfl (And.intro rfl (And.intro rfl (And.intro rfl trivial))))) (kj15 h18)
                · exact gf_sub [some (.ref 0), some (.int a1), some (.int a2), some (.int a3), some (.int a4), none] (And.intro rfl (And.intro rfl (And.intro rfl (And.intro rfl (And.intro rfl trivial))))) (kj15 h13)
            · refine gf_bipush C dX11_work_69 kb_m11 ?_
              exact gf_iret C dX11_work_71 rfl
          refine gf_ifeq C 58 dX11_work_40 (by decide) (fun _ => ?_) (fun _ => ?_)
          · exact gf_sub [some (.ref 0), some (.int a1), some (.int a2), some (.int a3), some (.int a4), some (.int s5)] (And.intro rfl (And.intro rfl (And.intro rfl (And.intro rfl (And.intro rfl (And.intro rfl trivial)))))) (kj9 h6)
          · refine gf_iload C dX11_work_43 rfl ?_
            refine gf_jn (fun (j20 : Hp → Option (Int32 × Hp)) => ∀ (h19 : Hp), GF K eI h19 55 [none, none, none, none, none, none] [] (j20 h19)) ?_ (fun j20 kj20 => ?_)
            · intro h19
              refine gf_bipush C dX11_work_55 kb_m3 ?_
              exact gf_iret C dX11_work_57 rfl
            refine gf_iflt C 55 dX11_work_45 (by decide) (fun _ => ?_) (fun _ => ?_)
            · exact gf_sub [none, none, none, none, none, none] trivial (kj20 h6)
            · refine gf_iload C dX11_work_48 rfl (gf_bipush C dX11_work_50 kb_99 ?_)
              refine gf_icmple C 58 dX11_work_52 (by decide) (fun _ => ?_) (fun _ => ?_)
              · exact gf_sub [none, none, none, none, none, none] trivial (kj20 h6)
              · exact gf_sub [some (.ref 0), some (.int a1), some (.int a2), some (.int a3), some (.int a4), some (.int s5)] (And.intro rfl (And.intro rfl (And.intro rfl (And.intro rfl (And.intro rfl (And.intro rfl trivial)))))) (kj9 h6)
        refine gf_icmple C 35 dX11_work_28 (by decide) (fun _ => ?_) (fun _ => ?_)
        · refine gf_iconst C dX11_work_31 ki_1 ?_
          refine gf_goto C 36 dX11_work_32 (by decide) ?_
          exact gf_sub [some (.ref 0), some (.int a1), some (.int a2), some (.int a3), some (.int a4), none] (And.intro rfl (And.intro rfl (And.intro rfl (And.intro rfl (And.intro rfl trivial))))) (kj7 (1 : Int32) h2)
        · refine gf_iconst C dX11_work_35 ki_0 ?_
          exact gf_sub [some (.ref 0), some (.int a1), some (.int a2), some (.int a3), some (.int a4), none] (And.intro rfl (And.intro rfl (And.intro rfl (And.intro rfl (And.intro rfl trivial))))) (kj7 (0 : Int32) h2)
def F_X11_bits (a1 : Int32) (a2 : Int32) (h : Hp) : Option (Int32 × Hp) :=
  bd (F_X8_has a1 h) (fun r1 h2 => if r1 = 0 then (
  some ((-2 : Int32), h2)) else (
  bd (F_X8_isMissing a1 h2) (fun r3 h4 => if r3 = 0 then (
  bd (F_X8_hasPlace a1 a2 h4) (fun r5 h6 => if r5 = 0 then (
  some ((-12 : Int32), h6)) else (
  bd (F_X8_at a1 a2 h6) (fun r7 h8 => bd (F_J13_bitCount_95d88 r7 h8) (fun r9 h10 => some (r9, h10)))))) else (
  some ((-11 : Int32), h4)))))
set_option maxRecDepth 100000 in
set_option maxHeartbeats 4000000 in
theorem ok_X11_bits (a1 : Int32) (a2 : Int32) (h : Hp) (rZ : Int32) (hZ : Hp) (eZ : F_X11_bits a1 a2 h = some (rZ, hZ)) : AC yX11_bits cX11_bits 3 (some .int) 4 86 [.ref 0, .int a1, .int a2] h (eI rZ) hZ := by
  refine AC_intro (o := F_X11_bits a1 a2 h) RX11 rfl (plainFor_of_name (by decide)) [some (.ref 0), some (.int a1), some (.int a2)] rfl (fun _ => rfl) (fun _ => Nat.le_of_ble_eq_true rfl) eZ (fun K C => ?_)
  unfold F_X11_bits
  refine gf_aload_n C dX11_bits_0 rfl rfl (gf_getR C dX11_bits_1 fl_X11_70 s_0 rfl 114 rfl (gf_iload_n C dX11_bits_4 rfl rfl ?_))
  refine gf_callV (ε2 := eI) C [.int a1] dX11_bits_5 mw_X8_has ml_X11_290 s_114 (fun rZ hZ eZ => ok_X8_has a1 h rZ hZ eZ) rfl rfl rfl (Nat.le_of_ble_eq_true rfl) (Nat.le_of_ble_eq_true rfl) (Nat.le_of_ble_eq_true rfl) (fun r1 h2 => ?_)
  refine gf_ifne C 14 dX11_bits_8 (by decide) (fun _ => ?_) (fun _ => ?_)
  · refine gf_bipush C dX11_bits_11 kb_m2 ?_
    exact gf_iret C dX11_bits_13 rfl
  · refine gf_aload_n C dX11_bits_14 rfl rfl (gf_getR C dX11_bits_15 fl_X11_70 s_0 rfl 114 rfl (gf_iload_n C dX11_bits_18 rfl rfl ?_))
    refine gf_callV (ε2 := eI) C [.int a1] dX11_bits_19 mw_X8_isMissing ml_X11_296 s_114 (fun rZ hZ eZ => ok_X8_isMissing a1 h2 rZ hZ eZ) rfl rfl rfl (Nat.le_of_ble_eq_true rfl) (Nat.le_of_ble_eq_true rfl) (Nat.le_of_ble_eq_true rfl) (fun r3 h4 => ?_)
    refine gf_ifeq C 28 dX11_bits_22 (by decide) (fun _ => ?_) (fun _ => ?_)
    · refine gf_aload_n C dX11_bits_28 rfl rfl (gf_getR C dX11_bits_29 fl_X11_70 s_0 rfl 114 rfl (gf_iload_n C dX11_bits_32 rfl rfl (gf_iload_n C dX11_bits_33 rfl rfl ?_)))
      refine gf_callV (ε2 := eI) C [.int a1, .int a2] dX11_bits_34 mw_X8_hasPlace ml_X11_299 s_114 (fun rZ hZ eZ => ok_X8_hasPlace a1 a2 h4 rZ hZ eZ) rfl rfl rfl (Nat.le_of_ble_eq_true rfl) (Nat.le_of_ble_eq_true rfl) (Nat.le_of_ble_eq_true rfl) (fun r5 h6 => ?_)
      refine gf_ifne C 43 dX11_bits_37 (by decide) (fun _ => ?_) (fun _ => ?_)
      · refine gf_bipush C dX11_bits_40 kb_m12 ?_
        exact gf_iret C dX11_bits_42 rfl
      · refine gf_aload_n C dX11_bits_43 rfl rfl (gf_getR C dX11_bits_44 fl_X11_70 s_0 rfl 114 rfl (gf_iload_n C dX11_bits_47 rfl rfl (gf_iload_n C dX11_bits_48 rfl rfl ?_)))
        refine gf_callV (ε2 := eL) C [.int a1, .int a2] dX11_bits_49 mw_X8_at ml_X11_308 s_114 (fun rZ hZ eZ => ok_X8_at a1 a2 h6 rZ hZ eZ) rfl rfl rfl (Nat.le_of_ble_eq_true rfl) (Nat.le_of_ble_eq_true rfl) (Nat.le_of_ble_eq_true rfl) (fun r7 h8 => ?_)
        refine gf_callS (ε2 := eI) C [.long r7] dX11_bits_52 mw_J13_bitCount_95d88 ml_X11_136 (fun rZ hZ eZ => ok_J13_bitCount_95d88 r7 h8 rZ hZ eZ) rfl rfl rfl (Nat.le_of_ble_eq_true rfl) (Nat.le_of_ble_eq_true rfl) (Nat.le_of_ble_eq_true rfl) (fun r9 h10 => ?_)
        exact gf_iret C dX11_bits_55 rfl
    · refine gf_bipush C dX11_bits_25 kb_m11 ?_
      exact gf_iret C dX11_bits_27 rfl
def F_X11_sum (a1 : Int32) (h : Hp) : Option (Int32 × Hp) :=
  bd (F_X8_has a1 h) (fun r1 h2 => if r1 = 0 then (
  some ((-2 : Int32), h2)) else (
  bd (F_X8_isMissing a1 h2) (fun r3 h4 => if r3 = 0 then (
  bd (F_X8_addUp a1 h4) (fun r5 h6 => some (r5, h6))) else (
  some ((-11 : Int32), h4)))))
set_option maxRecDepth 100000 in
set_option maxHeartbeats 4000000 in
theorem ok_X11_sum (a1 : Int32) (h : Hp) (rZ : Int32) (hZ : Hp) (eZ : F_X11_sum a1 h = some (rZ, hZ)) : AC yX11_sum cX11_sum 2 (some .int) 5 109 [.ref 0, .int a1] h (eI rZ) hZ := by
  refine AC_intro (o := F_X11_sum a1 h) RX11 rfl (plainFor_of_name (by decide)) [some (.ref 0), some (.int a1)] rfl (fun _ => rfl) (fun _ => Nat.le_of_ble_eq_true rfl) eZ (fun K C => ?_)
  unfold F_X11_sum
  refine gf_aload_n C dX11_sum_0 rfl rfl (gf_getR C dX11_sum_1 fl_X11_70 s_0 rfl 114 rfl (gf_iload_n C dX11_sum_4 rfl rfl ?_))
  refine gf_callV (ε2 := eI) C [.int a1] dX11_sum_5 mw_X8_has ml_X11_290 s_114 (fun rZ hZ eZ => ok_X8_has a1 h rZ hZ eZ) rfl rfl rfl (Nat.le_of_ble_eq_true rfl) (Nat.le_of_ble_eq_true rfl) (Nat.le_of_ble_eq_true rfl) (fun r1 h2 => ?_)
  refine gf_ifne C 14 dX11_sum_8 (by decide) (fun _ => ?_) (fun _ => ?_)
  · refine gf_bipush C dX11_sum_11 kb_m2 ?_
    exact gf_iret C dX11_sum_13 rfl
  · refine gf_aload_n C dX11_sum_14 rfl rfl (gf_getR C dX11_sum_15 fl_X11_70 s_0 rfl 114 rfl (gf_iload_n C dX11_sum_18 rfl rfl ?_))
    refine gf_callV (ε2 := eI) C [.int a1] dX11_sum_19 mw_X8_isMissing ml_X11_296 s_114 (fun rZ hZ eZ => ok_X8_isMissing a1 h2 rZ hZ eZ) rfl rfl rfl (Nat.le_of_ble_eq_true rfl) (Nat.le_of_ble_eq_true rfl) (Nat.le_of_ble_eq_true rfl) (fun r3 h4 => ?_)
    refine gf_ifeq C 28 dX11_sum_22 (by decide) (fun _ => ?_) (fun _ => ?_)
    · refine gf_aload_n C dX11_sum_28 rfl rfl (gf_getR C dX11_sum_29 fl_X11_70 s_0 rfl 114 rfl (gf_iload_n C dX11_sum_32 rfl rfl ?_))
      refine gf_callV (ε2 := eI) C [.int a1] dX11_sum_33 mw_X8_addUp ml_X11_312 s_114 (fun rZ hZ eZ => ok_X8_addUp a1 h4 rZ hZ eZ) rfl rfl rfl (Nat.le_of_ble_eq_true rfl) (Nat.le_of_ble_eq_true rfl) (Nat.le_of_ble_eq_true rfl) (fun r5 h6 => ?_)
      exact gf_iret C dX11_sum_36 rfl
    · refine gf_bipush C dX11_sum_25 kb_m11 ?_
      exact gf_iret C dX11_sum_27 rfl
def F_X11_drop (a1 : Int32) (h : Hp) : Option (Int32 × Hp) :=
  bd (F_X8_has a1 h) (fun r1 h2 => if r1 = 0 then (
  some ((-2 : Int32), h2)) else (
  bd (F_X8_isMissing a1 h2) (fun r3 h4 => if r3 = 0 then (
  bd (F_X8_remove a1 h4) (fun r5 h6 => some (r5, h6))) else (
  some ((-11 : Int32), h4)))))
set_option maxRecDepth 100000 in
set_option maxHeartbeats 4000000 in
theorem ok_X11_drop (a1 : Int32) (h : Hp) (rZ : Int32) (hZ : Hp) (eZ : F_X11_drop a1 h = some (rZ, hZ)) : AC yX11_drop cX11_drop 2 (some .int) 3 64 [.ref 0, .int a1] h (eI rZ) hZ := by
  refine AC_intro (o := F_X11_drop a1 h) RX11 rfl (plainFor_of_name (by decide)) [some (.ref 0), some (.int a1)] rfl (fun _ => rfl) (fun _ => Nat.le_of_ble_eq_true rfl) eZ (fun K C => ?_)
  unfold F_X11_drop
  refine gf_aload_n C dX11_drop_0 rfl rfl (gf_getR C dX11_drop_1 fl_X11_70 s_0 rfl 114 rfl (gf_iload_n C dX11_drop_4 rfl rfl ?_))
  refine gf_callV (ε2 := eI) C [.int a1] dX11_drop_5 mw_X8_has ml_X11_290 s_114 (fun rZ hZ eZ => ok_X8_has a1 h rZ hZ eZ) rfl rfl rfl (Nat.le_of_ble_eq_true rfl) (Nat.le_of_ble_eq_true rfl) (Nat.le_of_ble_eq_true rfl) (fun r1 h2 => ?_)
  refine gf_ifne C 14 dX11_drop_8 (by decide) (fun _ => ?_) (fun _ => ?_)
  · refine gf_bipush C dX11_drop_11 kb_m2 ?_
    exact gf_iret C dX11_drop_13 rfl
  · refine gf_aload_n C dX11_drop_14 rfl rfl (gf_getR C dX11_drop_15 fl_X11_70 s_0 rfl 114 rfl (gf_iload_n C dX11_drop_18 rfl rfl ?_))
    refine gf_callV (ε2 := eI) C [.int a1] dX11_drop_19 mw_X8_isMissing ml_X11_296 s_114 (fun rZ hZ eZ => ok_X8_isMissing a1 h2 rZ hZ eZ) rfl rfl rfl (Nat.le_of_ble_eq_true rfl) (Nat.le_of_ble_eq_true rfl) (Nat.le_of_ble_eq_true rfl) (fun r3 h4 => ?_)
    refine gf_ifeq C 28 dX11_drop_22 (by decide) (fun _ => ?_) (fun _ => ?_)
    · refine gf_aload_n C dX11_drop_28 rfl rfl (gf_getR C dX11_drop_29 fl_X11_70 s_0 rfl 114 rfl (gf_iload_n C dX11_drop_32 rfl rfl ?_))
      refine gf_callV (ε2 := eI) C [.int a1] dX11_drop_33 mw_X8_remove ml_X11_315 s_114 (fun rZ hZ eZ => ok_X8_remove a1 h4 rZ hZ eZ) rfl rfl rfl (Nat.le_of_ble_eq_true rfl) (Nat.le_of_ble_eq_true rfl) (Nat.le_of_ble_eq_true rfl) (fun r5 h6 => ?_)
      exact gf_iret C dX11_drop_36 rfl
    · refine gf_bipush C dX11_drop_25 kb_m11 ?_
      exact gf_iret C dX11_drop_27 rfl
def F_X11_latest (h : Hp) : Option (Int64 × Hp) :=
  some (tG h 7296, h)
set_option maxRecDepth 100000 in
set_option maxHeartbeats 4000000 in
theorem ok_X11_latest (h : Hp) (rZ : Int64) (hZ : Hp) (eZ : F_X11_latest h = some (rZ, hZ)) : AC yX11_latest cX11_latest 1 (some .long) 0 0 [.ref 0] h (eL rZ) hZ := by
  refine AC_intro (o := F_X11_latest h) RX11 rfl (plainFor_of_name (by decide)) [some (.ref 0)] rfl (fun _ => rfl) (fun _ => Nat.le_of_ble_eq_true rfl) eZ (fun K C => ?_)
  unfold F_X11_latest
  refine gf_aload_n C dX11_latest_0 rfl rfl (gf_getR C dX11_latest_1 fl_X11_70 s_0 rfl 114 rfl (gf_getL C dX11_latest_4 fl_X11_317 s_114 rfl 7296 rfl ?_))
  exact gf_lret C dX11_latest_7 rfl
def F_X11_count (a1 : Int32) (h : Hp) : Option (Int32 × Hp) :=
  if a1 = (0 : Int32) then (
  some (sG h 192, h)) else (if a1 = (1 : Int32) then (
  some (sG h 193, h)) else (if a1 = (2 : Int32) then (
  some (sG h 320, h)) else (if a1 = (3 : Int32) then (
  bd (F_X11_rulesNow h) (fun _ h4 => bd (F_X7_pairsBefore 75 h4) (fun r5 h6 => some (r5, h6)))) else (if a1 = (4 : Int32) then (
  some (sG h 256, h)) else (if a1 = (5 : Int32) then (
  some (sG h 257, h)) else (if a1 = (6 : Int32) then (
  some (sG h 258, h)) else (if a1 = (7 : Int32) then (
  bd (F_X8_allPlaces h) (fun r11 h12 => some (r11, h12))) else (if a1 = (8 : Int32) then (
  some (sG h 1408, h)) else (if a1 = (9 : Int32) then (
  some (sG h 64, h)) else (
  some ((-3 : Int32), h)))))))))))
set_option maxRecDepth 100000 in
set_option maxHeartbeats 4000000 in
theorem ok_X11_count (a1 : Int32) (h : Hp) (rZ : Int32) (hZ : Hp) (eZ : F_X11_count a1 h = some (rZ, hZ)) : AC yX11_count cX11_count 2 (some .int) 6 136 [.ref 0, .int a1] h (eI rZ) hZ := by
  refine AC_intro (o := F_X11_count a1 h) RX11 rfl (plainFor_of_name (by decide)) [some (.ref 0), some (.int a1)] rfl (fun _ => rfl) (fun _ => Nat.le_of_ble_eq_true rfl) eZ (fun K C => ?_)
  unfold F_X11_count
  refine gf_iload_n C dX11_count_0 rfl rfl ?_
  refine gf_swC (off := 55) C (0 : Int32) 56 dX11_count_1 (by decide) (by decide) (by decide) (by decide) (fun _ => ?_) (fun c1 => ?_)
  · refine gf_aload_n C dX11_count_56 rfl rfl (gf_getR C dX11_count_57 fl_X11_19 s_0 rfl 3 rfl (gf_getI C dX11_count_60 fl_X11_321 s_3 rfl 192 rfl ?_))
    exact gf_iret C dX11_count_63 rfl
  refine gf_swC (off := 63) C (1 : Int32) 64 dX11_count_1 (by decide) (by decide) (by decide) (by decide) (fun _ => ?_) (fun c2 => ?_)
  · refine gf_aload_n C dX11_count_64 rfl rfl (gf_getR C dX11_count_65 fl_X11_19 s_0 rfl 3 rfl (gf_getI C dX11_count_68 fl_X11_324 s_3 rfl 193 rfl ?_))
    exact gf_iret C dX11_count_71 rfl
  refine gf_swC (off := 71) C (2 : Int32) 72 dX11_count_1 (by decide) (by decide) (by decide) (by decide) (fun _ => ?_) (fun c3 => ?_)
  · refine gf_aload_n C dX11_count_72 rfl rfl (gf_getR C dX11_count_73 fl_X11_19 s_0 rfl 3 rfl (gf_getR C dX11_count_76 fl_X11_119 s_3 rfl 5 rfl (gf_getI C dX11_count_79 fl_X11_214 s_5 rfl 320 rfl ?_)))
    exact gf_iret C dX11_count_82 rfl
  refine gf_swC (off := 82) C (3 : Int32) 83 dX11_count_1 (by decide) (by decide) (by decide) (by decide) (fun _ => ?_) (fun c7 => ?_)
  · refine gf_aload_n C dX11_count_83 rfl rfl ?_
    refine gf_callV (ε2 := (eR 75)) C [] dX11_count_84 mw_X11_rulesNow ml_X11_128 s_0 (fun rZ hZ eZ => ok_X11_rulesNow  h rZ hZ eZ) rfl rfl rfl (Nat.le_of_ble_eq_true rfl) (Nat.le_of_ble_eq_true rfl) (Nat.le_of_ble_eq_true rfl) (fun _ h4 => ?_)
    refine gf_callV (ε2 := eI) C [] dX11_count_87 mw_X7_pairsBefore ml_X11_327 s_75 (fun rZ hZ eZ => ok_X7_pairsBefore 75 s_75 h4 rZ hZ eZ) rfl rfl rfl (Nat.le_of_ble_eq_true rfl) (Nat.le_of_ble_eq_true rfl) (Nat.le_of_ble_eq_true rfl) (fun r5 h6 => ?_)
    exact gf_iret C dX11_count_90 rfl
  refine gf_swC (off := 90) C (4 : Int32) 91 dX11_count_1 (by decide) (by decide) (by decide) (by decide) (fun _ => ?_) (fun c8 => ?_)
  · refine gf_aload_n C dX11_count_91 rfl rfl (gf_getR C dX11_count_92 fl_X11_19 s_0 rfl 3 rfl (gf_getR C dX11_count_95 fl_X11_183 s_3 rfl 4 rfl (gf_getI C dX11_count_98 fl_X11_330 s_4 rfl 256 rfl ?_)))
    exact gf_iret C dX11_count_101 rfl
  refine gf_swC (off := 101) C (5 : Int32) 102 dX11_count_1 (by decide) (by decide) (by decide) (by decide) (fun _ => ?_) (fun c9 => ?_)
  · refine gf_aload_n C dX11_count_102 rfl rfl (gf_getR C dX11_count_103 fl_X11_19 s_0 rfl 3 rfl (gf_getR C dX11_count_106 fl_X11_183 s_3 rfl 4 rfl (gf_getI C dX11_count_109 fl_X11_333 s_4 rfl 257 rfl ?_)))
    exact gf_iret C dX11_count_112 rfl
  refine gf_swC (off := 112) C (6 : Int32) 113 dX11_count_1 (by decide) (by decide) (by decide) (by decide) (fun _ => ?_) (fun c10 => ?_)
  · refine gf_aload_n C dX11_count_113 rfl rfl (gf_getR C dX11_count_114 fl_X11_19 s_0 rfl 3 rfl (gf_getR C dX11_count_117 fl_X11_183 s_3 rfl 4 rfl (gf_getI C dX11_count_120 fl_X11_336 s_4 rfl 258 rfl ?_)))
    exact gf_iret C dX11_count_123 rfl
  refine gf_swC (off := 123) C (7 : Int32) 124 dX11_count_1 (by decide) (by decide) (by decide) (by decide) (fun _ => ?_) (fun c13 => ?_)
  · refine gf_aload_n C dX11_count_124 rfl rfl (gf_getR C dX11_count_125 fl_X11_70 s_0 rfl 114 rfl ?_)
    refine gf_callV (ε2 := eI) C [] dX11_count_128 mw_X8_allPlaces ml_X11_339 s_114 (fun rZ hZ eZ => ok_X8_allPlaces  h rZ hZ eZ) rfl rfl rfl (Nat.le_of_ble_eq_true rfl) (Nat.le_of_ble_eq_true rfl) (Nat.le_of_ble_eq_true rfl) (fun r11 h12 => ?_)
    exact gf_iret C dX11_count_131 rfl
  refine gf_swC (off := 131) C (8 : Int32) 132 dX11_count_1 (by decide) (by decide) (by decide) (by decide) (fun _ => ?_) (fun c14 => ?_)
  · refine gf_aload_n C dX11_count_132 rfl rfl (gf_getR C dX11_count_133 fl_X11_35 s_0 rfl 22 rfl (gf_getI C dX11_count_136 fl_X11_223 s_22 rfl 1408 rfl ?_))
    exact gf_iret C dX11_count_139 rfl
  refine gf_swC (off := 139) C (9 : Int32) 140 dX11_count_1 (by decide) (by decide) (by decide) (by decide) (fun _ => ?_) (fun c15 => ?_)
  · refine gf_aload_n C dX11_count_140 rfl rfl (gf_getR C dX11_count_141 fl_X11_12 s_0 rfl 1 rfl (gf_getI C dX11_count_144 fl_X11_78 s_1 rfl 64 rfl ?_))
    exact gf_iret C dX11_count_147 rfl
  have c1 := lv_neT c1 (a := 0) (by decide)
  have c2 := lv_neT c2 (a := 1) (by decide)
  have c3 := lv_neT c3 (a := 2) (by decide)
  have c7 := lv_neT c7 (a := 3) (by decide)
  have c8 := lv_neT c8 (a := 4) (by decide)
  have c9 := lv_neT c9 (a := 5) (by decide)
  have c10 := lv_neT c10 (a := 6) (by decide)
  have c13 := lv_neT c13 (a := 7) (by decide)
  have c14 := lv_neT c14 (a := 8) (by decide)
  have c15 := lv_neT c15 (a := 9) (by decide)
  refine gf_swD C 148 dX11_count_1 (by omega) (by decide) ?_
  refine gf_bipush C dX11_count_148 kb_m3 ?_
  exact gf_iret C dX11_count_150 rfl
def F_X12_within (a1 : Int32) (a2 : Int32) (a3 : Int32) (h : Hp) : Option (Int32 × Hp) :=
  jn (fun (s1 : Int32) (h2 : Hp) =>
  gd (isB s1) ( some (s1, h2))) (fun j3 => jn (fun (h5 : Hp) =>
  j3 (0 : Int32) h5) (fun j6 => if a1 < a2 then (
  j6 h) else (
  if a3 < a1 then (
  j6 h) else (
  j3 (1 : Int32) h))))
set_option maxRecDepth 100000 in
set_option maxHeartbeats 4000000 in
theorem ok_X12_within (a1 : Int32) (a2 : Int32) (a3 : Int32) (h : Hp) (rZ : Int32) (hZ : Hp) (eZ : F_X12_within a1 a2 a3 h = some (rZ, hZ)) : AC yX12_within cX12_within 3 (some .boolean) 0 0 [.int a1, .int a2, .int a3] h (eI rZ) hZ := by
  refine AC_intro (o := F_X12_within a1 a2 a3 h) RX12 rfl (plainFor_of_name (by decide)) [some (.int a1), some (.int a2), some (.int a3)] rfl (fun _ => rfl) (fun _ => Nat.le_of_ble_eq_true rfl) eZ (fun K C => ?_)
  unfold F_X12_within
  refine gf_iload_n C dX12_within_0 rfl rfl (gf_iload_n C dX12_within_1 rfl rfl ?_)
  refine gf_jn (fun (j3 : Int32 → Hp → Option (Int32 × Hp)) => ∀ (s1 : Int32) (h2 : Hp), GF K eI h2 15 [none, none, none] [.int s1] (j3 s1 h2)) ?_ (fun j3 kj3 => ?_)
  · intro s1 h2
    refine gf_gd (fun b4 => ?_)
    exact gf_zret C dX12_within_15 (isB_nar b4) rfl
  refine gf_jn (fun (j6 : Hp → Option (Int32 × Hp)) => ∀ (h5 : Hp), GF K eI h5 14 [none, none, none] [] (j6 h5)) ?_ (fun j6 kj6 => ?_)
  · intro h5
    refine gf_iconst C dX12_within_14 ki_0 ?_
    exact gf_sub [none, none, none] trivial (kj3 (0 : Int32) h5)
  refine gf_icmplt C 14 dX12_within_2 (by decide) (fun _ => ?_) (fun _ => ?_)
  · exact gf_sub [none, none, none] trivial (kj6 h)
  · refine gf_iload_n C dX12_within_5 rfl rfl (gf_iload_n C dX12_within_6 rfl rfl ?_)
    refine gf_icmpgt C 14 dX12_within_7 (by decide) (fun _ => ?_) (fun _ => ?_)
    · exact gf_sub [none, none, none] trivial (kj6 h)
    · refine gf_iconst C dX12_within_10 ki_1 ?_
      refine gf_goto C 15 dX12_within_11 (by decide) ?_
      exact gf_sub [none, none, none] trivial (kj3 (1 : Int32) h)
def F_X12_bring (a1 : Nat) (n1 : Nat) (a2 : Int32) (a3 : Nat) (n3 : Nat) (a4 : Int32) (a5 : Int32) (h : Hp) : Option (Unit × Hp) :=
  (lp 4000000000 (fun (c3 : Int32 → Hp → Option (Unit × Hp)) (v1 : Int32) (h2 : Hp) =>
  if v1 < a5 then (
  gd (inb (a2 + v1) n1) ( gd (inb (a4 + v1) n3) ( jl (aS h2 a3 (a4 + v1).toNatClampNeg (aG h2 a1 (a2 + v1).toNatClampNeg)) (fun h4 => c3 (v1 + (1 : Int32)) h4)))) else (
  some ((), h2))) (fun _ _ => none)) (0 : Int32) h
set_option maxRecDepth 100000 in
set_option maxHeartbeats 4000000 in
theorem ok_X12_bring (a1 : Nat) (n1 : Nat) (a2 : Int32) (a3 : Nat) (n3 : Nat) (a4 : Int32) (a5 : Int32) (ha1 : shp a1 = (1, n1)) (ha3 : shp a3 = (1, n3)) (h : Hp) (rZ : Unit) (hZ : Hp) (eZ : F_X12_bring a1 n1 a2 a3 n3 a4 a5 h = some (rZ, hZ)) : AC yX12_bring cX12_bring 6 (none) 0 0 [.ref a1, .int a2, .ref a3, .int a4, .int a5] h (eV rZ) hZ := by
  refine AC_intro (o := F_X12_bring a1 n1 a2 a3 n3 a4 a5 h) RX12 rfl (plainFor_of_name (by decide)) [some (.ref a1), some (.int a2), some (.ref a3), some (.int a4), some (.int a5), none] rfl (fun _ => rfl) (fun _ => Nat.le_of_ble_eq_true rfl) eZ (fun K C => ?_)
  unfold F_X12_bring
  refine gf_iconst C dX12_bring_0 ki_0 (gf_istore C dX12_bring_1 [some (.ref a1), some (.int a2), some (.ref a3), some (.int a4), some (.int a5), some (.int (0 : Int32))] rfl rfl (Nat.le_of_ble_eq_true rfl) ?_)
  refine gf_sub [some (.ref a1), some (.int a2), some (.ref a3), some (.int a4), some (.int a5), some (.int (0 : Int32))] (And.intro rfl (And.intro rfl (And.intro rfl (And.intro rfl (And.intro rfl (And.intro rfl trivial)))))) ?_
  refine lp_P (fun (c3 : Int32 → Hp → Option (Unit × Hp)) => ∀ (v1 : Int32) (h2 : Hp), GF K eV h2 3 [some (.ref a1), some (.int a2), some (.ref a3), some (.int a4), some (.int a5), some (.int v1)] [] (c3 v1 h2)) (fun _ _ => gf_none) (fun c3 kc3 v1 h2 => ?_) (0 : Int32) h
  refine gf_iload C dX12_bring_3 rfl (gf_iload C dX12_bring_5 rfl ?_)
  refine gf_icmpge C 28 dX12_bring_7 (by decide) (fun _ => ?_) (fun _ => ?_)
  · refine gf_aload_n C dX12_bring_10 rfl rfl (gf_iload_n C dX12_bring_11 rfl rfl (gf_iload C dX12_bring_12 rfl (gf_iadd C dX12_bring_14 (gf_aload_n C dX12_bring_15 rfl rfl (gf_iload_n C dX12_bring_16 rfl rfl (gf_iload C dX12_bring_17 rfl (gf_iadd C dX12_bring_19 ?_)))))))
    refine gf_iald C dX12_bring_20 ha1 (gf_iast C dX12_bring_21 ha3 ?_)
    refine gf_jlH (fun h4 => ?_)
    refine gf_iinc C dX12_bring_22 rfl (ii_1 _) [some (.ref a1), some (.int a2), some (.ref a3), some (.int a4), some (.int a5), some (.int (v1 + (1 : Int32)))] rfl rfl ?_
    refine gf_goto C 3 dX12_bring_25 (by decide) ?_
    exact gf_sub [some (.ref a1), some (.int a2), some (.ref a3), some (.int a4), some (.int a5), some (.int (v1 + (1 : Int32)))] (And.intro rfl (And.intro rfl (And.intro rfl (And.intro rfl (And.intro rfl (And.intro rfl trivial)))))) (kc3 (v1 + (1 : Int32)) h4)
  · exact gf_vret C dX12_bring_28 rfl
def F_X12_write (a1 : Int32) (h : Hp) : Option (Int32 × Hp) :=
  bd (F_X12_within a1 (0 : Int32) (255 : Int32) h) (fun r1 h2 => if r1 = 0 then (
  some ((-3 : Int32), h2)) else (
  if (sG h2 7489) = (200 : Int32) then (
  some ((-5 : Int32), h2)) else (
  gd (inb (sG h2 7489) 200) ( jl (aS h2 118 (sG h2 7489).toNatClampNeg a1) (fun h3 => jl (sS h3 7489 ((sG h3 7489) + (1 : Int32))) (fun h4 => some (sG h4 7489, h4)))))))
set_option maxRecDepth 100000 in
set_option maxHeartbeats 4000000 in
theorem ok_X12_write (a1 : Int32) (h : Hp) (rZ : Int32) (hZ : Hp) (eZ : F_X12_write a1 h = some (rZ, hZ)) : AC yX12_write cX12_write 2 (some .int) 1 22 [.ref 117, .int a1] h (eI rZ) hZ := by
  refine AC_intro (o := F_X12_write a1 h) RX12 rfl (plainFor_of_name (by decide)) [some (.ref 117), some (.int a1)] rfl (fun _ => rfl) (fun _ => Nat.le_of_ble_eq_true rfl) eZ (fun K C => ?_)
  unfold F_X12_write
  refine gf_iload_n C dX12_write_0 rfl rfl (gf_iconst C dX12_write_1 ki_0 (gf_sipush C dX12_write_2 ks_255 ?_))
  refine gf_callS (ε2 := eI) C [.int a1, .int (0 : Int32), .int (255 : Int32)] dX12_write_5 mw_X12_within ml_X12_88 (fun rZ hZ eZ => ok_X12_within a1 (0 : Int32) (255 : Int32) h rZ hZ eZ) rfl rfl rfl (Nat.le_of_ble_eq_true rfl) (Nat.le_of_ble_eq_true rfl) (Nat.le_of_ble_eq_true rfl) (fun r1 h2 => ?_)
  refine gf_ifne C 14 dX12_write_8 (by decide) (fun _ => ?_) (fun _ => ?_)
  · refine gf_bipush C dX12_write_11 kb_m3 ?_
    exact gf_iret C dX12_write_13 rfl
  · refine gf_aload_n C dX12_write_14 rfl rfl (gf_getI C dX12_write_15 fl_X12_92 s_117 rfl 7489 rfl (gf_sipush C dX12_write_18 ks_200 ?_))
    refine gf_icmpne C 27 dX12_write_21 (by decide) (fun _ => ?_) (fun _ => ?_)
    · refine gf_bipush C dX12_write_24 kb_m5 ?_
      exact gf_iret C dX12_write_26 rfl
    · refine gf_aload_n C dX12_write_27 rfl rfl (gf_getR C dX12_write_28 fl_X12_7 s_117 rfl 118 rfl (gf_aload_n C dX12_write_31 rfl rfl (gf_getI C dX12_write_32 fl_X12_92 s_117 rfl 7489 rfl (gf_iload_n C dX12_write_35 rfl rfl (gf_iast C dX12_write_36 s_118 ?_)))))
      refine gf_jlH (fun h3 => ?_)
      refine gf_aload_n C dX12_write_37 rfl rfl (gf_dup C dX12_write_38 rfl (gf_getI C dX12_write_39 fl_X12_92 s_117 rfl 7489 rfl (gf_iconst C dX12_write_42 ki_1 (gf_iadd C dX12_write_43 (gf_putI C dX12_write_44 fp_X12_92 s_117 rfl 7489 rfl ?_)))))
      refine gf_jlH (fun h4 => ?_)
      refine gf_aload_n C dX12_write_47 rfl rfl (gf_getI C dX12_write_48 fl_X12_92 s_117 rfl 7489 rfl ?_)
      exact gf_iret C dX12_write_51 rfl
def F_X12_erase (h : Hp) : Option (Int32 × Hp) :=
  jl (sG h 7489) (fun x1 => jl (sS h 7489 (0 : Int32)) (fun h2 => some (x1, h2)))
set_option maxRecDepth 100000 in
set_option maxHeartbeats 4000000 in
theorem ok_X12_erase (h : Hp) (rZ : Int32) (hZ : Hp) (eZ : F_X12_erase h = some (rZ, hZ)) : AC yX12_erase cX12_erase 2 (some .int) 0 0 [.ref 117] h (eI rZ) hZ := by
  refine AC_intro (o := F_X12_erase h) RX12 rfl (plainFor_of_name (by decide)) [some (.ref 117), none] rfl (fun _ => rfl) (fun _ => Nat.le_of_ble_eq_true rfl) eZ (fun K C => ?_)
  unfold F_X12_erase
  refine gf_aload_n C dX12_erase_0 rfl rfl (gf_getI C dX12_erase_1 fl_X12_92 s_117 rfl 7489 rfl ?_)
  refine gf_jlI (fun x1 => ?_)
  refine gf_istore_n C dX12_erase_4 rfl [some (.ref 117), some (.int x1)] rfl rfl (Nat.le_of_ble_eq_true rfl) (gf_aload_n C dX12_erase_5 rfl rfl (gf_iconst C dX12_erase_6 ki_0 (gf_putI C dX12_erase_7 fp_X12_92 s_117 rfl 7489 rfl ?_)))
  refine gf_jlH (fun h2 => ?_)
  refine gf_iload_n C dX12_erase_10 rfl rfl ?_
  exact gf_iret C dX12_erase_11 rfl
def F_X12_kindOf (a1 : Int32) (h : Hp) : Option (Int32 × Hp) :=
  bd (F_X12_within a1 (97 : Int32) (122 : Int32) h) (fun r1 h2 => jn (fun (s3 : Int32) (h4 : Hp) =>
  some (s3, h4)) (fun j5 => if r1 = 0 then (
  bd (F_X12_within a1 (48 : Int32) (57 : Int32) h2) (fun r6 h7 => if r6 = 0 then (
  j5 (0 : Int32) h7) else (
  j5 (2 : Int32) h7))) else (
  j5 (1 : Int32) h2)))
set_option maxRecDepth 100000 in
set_option maxHeartbeats 4000000 in
theorem ok_X12_kindOf (a1 : Int32) (h : Hp) (rZ : Int32) (hZ : Hp) (eZ : F_X12_kindOf a1 h = some (rZ, hZ)) : AC yX12_kindOf cX12_kindOf 1 (some .int) 1 22 [.int a1] h (eI rZ) hZ := by
  refine AC_intro (o := F_X12_kindOf a1 h) RX12 rfl (plainFor_of_name (by decide)) [some (.int a1)] rfl (fun _ => rfl) (fun _ => Nat.le_of_ble_eq_true rfl) eZ (fun K C => ?_)
  unfold F_X12_kindOf
  refine gf_iload_n C dX12_kindOf_0 rfl rfl (gf_bipush C dX12_kindOf_1 kb_97 (gf_bipush C dX12_kindOf_3 kb_122 ?_))
  refine gf_callS (ε2 := eI) C [.int a1, .int (97 : Int32), .int (122 : Int32)] dX12_kindOf_5 mw_X12_within ml_X12_88 (fun rZ hZ eZ => ok_X12_within a1 (97 : Int32) (122 : Int32) h rZ hZ eZ) rfl rfl rfl (Nat.le_of_ble_eq_true rfl) (Nat.le_of_ble_eq_true rfl) (Nat.le_of_ble_eq_true rfl) (fun r1 h2 => ?_)
  refine gf_jn (fun (j5 : Int32 → Hp → Option (Int32 × Hp)) => ∀ (s3 : Int32) (h4 : Hp), GF K eI h4 31 [none] [.int s3] (j5 s3 h4)) ?_ (fun j5 kj5 => ?_)
  · intro s3 h4
    exact gf_iret C dX12_kindOf_31 rfl
  refine gf_ifeq C 15 dX12_kindOf_8 (by decide) (fun _ => ?_) (fun _ => ?_)
  · refine gf_iload_n C dX12_kindOf_15 rfl rfl (gf_bipush C dX12_kindOf_16 kb_48 (gf_bipush C dX12_kindOf_18 kb_57 ?_))
    refine gf_callS (ε2 := eI) C [.int a1, .int (48 : Int32), .int (57 : Int32)] dX12_kindOf_20 mw_X12_within ml_X12_88 (fun rZ hZ eZ => ok_X12_within a1 (48 : Int32) (57 : Int32) h2 rZ hZ eZ) rfl rfl rfl (Nat.le_of_ble_eq_true rfl) (Nat.le_of_ble_eq_true rfl) (Nat.le_of_ble_eq_true rfl) (fun r6 h7 => ?_)
    refine gf_ifeq C 30 dX12_kindOf_23 (by decide) (fun _ => ?_) (fun _ => ?_)
    · refine gf_iconst C dX12_kindOf_30 ki_0 ?_
      exact gf_sub [none] trivial (kj5 (0 : Int32) h7)
    · refine gf_iconst C dX12_kindOf_26 ki_2 ?_
      refine gf_goto C 31 dX12_kindOf_27 (by decide) ?_
      exact gf_sub [none] trivial (kj5 (2 : Int32) h7)
  · refine gf_iconst C dX12_kindOf_11 ki_1 ?_
    refine gf_goto C 31 dX12_kindOf_12 (by decide) ?_
    exact gf_sub [none] trivial (kj5 (1 : Int32) h2)
def F_X12_take (h : Hp) : Option (Unit × Hp) :=
  (lp 4000000000 (fun (c2 : Hp → Option (Unit × Hp))  (h1 : Hp) =>
  jn (fun (h3 : Hp) =>
  jl (sS h3 7491 (sG h3 7490)) (fun h5 => jl (sS h5 7492 (0 : Int32)) (fun h6 => jn (fun (s7 : Int32) (h8 : Hp) =>
  jl (sS h8 7493 s7) (fun h10 => (lp 4000000000 (fun (c12 : Hp → Option (Unit × Hp))  (h11 : Hp) =>
  jn (fun (h13 : Hp) =>
  some ((), h13)) (fun j14 => if (sG h11 7490) < (sG h11 7489) then (
  jn (fun (h15 : Hp) =>
  jl (sS h15 7490 ((sG h15 7490) + (1 : Int32))) (fun h17 => jl (sS h17 7492 ((sG h17 7492) + (1 : Int32))) (fun h18 => c12 h18))) (fun j16 => if (sG h11 7492) = 0 then (
  j16 h11) else (
  if 0 < (sG h11 7493) then (
  gd (inb (sG h11 7490) 200) ( bd (F_X12_kindOf (aG h11 118 (sG h11 7490).toNatClampNeg) h11) (fun r19 h20 => if r19 = (sG h20 7493) then (
  j16 h20) else (
  j14 h20)))) else (
  j14 h11)))) else (
  j14 h11))) (fun _ => none))  h10)) (fun j9 => if (sG h6 7490) < (sG h6 7489) then (
  gd (inb (sG h6 7490) 200) ( bd (F_X12_kindOf (aG h6 118 (sG h6 7490).toNatClampNeg) h6) (fun r21 h22 => j9 r21 h22))) else (
  j9 (0 : Int32) h6))))) (fun j4 => if (sG h1 7490) < (sG h1 7489) then (
  gd (inb (sG h1 7490) 200) ( if (aG h1 118 (sG h1 7490).toNatClampNeg) = (32 : Int32) then (
  jl (sS h1 7490 ((sG h1 7490) + (1 : Int32))) (fun h23 => c2 h23)) else (
  j4 h1))) else (
  j4 h1))) (fun _ => none))  h
set_option maxRecDepth 100000 in
set_option maxHeartbeats 4000000 in
theorem ok_X12_take (h : Hp) (rZ : Unit) (hZ : Hp) (eZ : F_X12_take h = some (rZ, hZ)) : AC yX12_take cX12_take 1 (none) 2 42 [.ref 117] h (eV rZ) hZ := by
  refine AC_intro (o := F_X12_take h) RX12 rfl (plainFor_of_name (by decide)) [some (.ref 117)] rfl (fun _ => rfl) (fun _ => Nat.le_of_ble_eq_true rfl) eZ (fun K C => ?_)
  unfold F_X12_take
  refine gf_sub [some (.ref 117)] (And.intro rfl trivial) ?_
  refine lp_P (fun (c2 : Hp → Option (Unit × Hp)) => ∀  (h1 : Hp), GF K eV h1 0 [some (.ref 117)] [] (c2  h1)) (fun _ => gf_none) (fun c2 kc2  h1 => ?_)  h
  refine gf_aload_n C dX12_take_0 rfl rfl (gf_getI C dX12_take_1 fl_X12_95 s_117 rfl 7490 rfl (gf_aload_n C dX12_take_4 rfl rfl (gf_getI C dX12_take_5 fl_X12_92 s_117 rfl 7489 rfl ?_)))
  refine gf_jn (fun (j4 : Hp → Option (Unit × Hp)) => ∀ (h3 : Hp), GF K eV h3 38 [some (.ref 117)] [] (j4 h3)) ?_ (fun j4 kj4 => ?_)
  · intro h3
    refine gf_aload_n C dX12_take_38 rfl rfl (gf_aload_n C dX12_take_39 rfl rfl (gf_getI C dX12_take_40 fl_X12_95 s_117 rfl 7490 rfl (gf_putI C dX12_take_43 fp_X12_98 s_117 rfl 7491 rfl ?_)))
    refine gf_jlH (fun h5 => ?_)
    refine gf_aload_n C dX12_take_46 rfl rfl (gf_iconst C dX12_take_47 ki_0 (gf_putI C dX12_take_48 fp_X12_101 s_117 rfl 7492 rfl ?_))
    refine gf_jlH (fun h6 => ?_)
    refine gf_aload_n C dX12_take_51 rfl rfl (gf_aload_n C dX12_take_52 rfl rfl (gf_getI C dX12_take_53 fl_X12_95 s_117 rfl 7490 rfl (gf_aload_n C dX12_take_56 rfl rfl (gf_getI C dX12_take_57 fl_X12_92 s_117 rfl 7489 rfl ?_))))
    refine gf_jn (fun (j9 : Int32 → Hp → Option (Unit × Hp)) => ∀ (s7 : Int32) (h8 : Hp), GF K eV h8 79 [some (.ref 117)] [.int s7, .ref 117] (j9 s7 h8)) ?_ (fun j9 kj9 => ?_)
    · intro s7 h8
      refine gf_putI C dX12_take_79 fp_X12_108 s_117 rfl 7493 rfl ?_
      refine gf_jlH (fun h10 => ?_)
      refine gf_sub [some (.ref 117)] (And.intro rfl trivial) ?_
      refine lp_P (fun (c12 : Hp → Option (Unit × Hp)) => ∀  (h11 : Hp), GF K eV h11 82 [some (.ref 117)] [] (c12  h11)) (fun _ => gf_none) (fun c12 kc12  h11 => ?_)  h10
      refine gf_aload_n C dX12_take_82 rfl rfl (gf_getI C dX12_take_83 fl_X12_95 s_117 rfl 7490 rfl (gf_aload_n C dX12_take_86 rfl rfl (gf_getI C dX12_take_87 fl_X12_92 s_117 rfl 7489 rfl ?_)))
      refine gf_jn (fun (j14 : Hp → Option (Unit × Hp)) => ∀ (h13 : Hp), GF K eV h13 149 [none] [] (j14 h13)) ?_ (fun j14 kj14 => ?_)
      · intro h13
        exact gf_vret C dX12_take_149 rfl
      refine gf_icmpge C 149 dX12_take_90 (by decide) (fun _ => ?_) (fun _ => ?_)
      · refine gf_aload_n C dX12_take_93 rfl rfl (gf_getI C dX12_take_94 fl_X12_101 s_117 rfl 7492 rfl ?_)
        refine gf_jn (fun (j16 : Hp → Option (Unit × Hp)) => ∀ (h15 : Hp), GF K eV h15 126 [some (.ref 117)] [] (j16 h15)) ?_ (fun j16 kj16 => ?_)
        · intro h15
          refine gf_aload_n C dX12_take_126 rfl rfl (gf_dup C dX12_take_127 rfl (gf_getI C dX12_take_128 fl_X12_95 s_117 rfl 7490 rfl (gf_iconst C dX12_take_131 ki_1 (gf_iadd C dX12_take_132 (gf_putI C dX12_take_133 fp_X12_95 s_117 rfl 7490 rfl ?_)))))
          refine gf_jlH (fun h17 => ?_)
          refine gf_aload_n C dX12_take_136 rfl rfl (gf_dup C dX12_take_137 rfl (gf_getI C dX12_take_138 fl_X12_101 s_117 rfl 7492 rfl (gf_iconst C dX12_take_141 ki_1 (gf_iadd C dX12_take_142 (gf_putI C dX12_take_143 fp_X12_101 s_117 rfl 7492 rfl ?_)))))
          refine gf_jlH (fun h18 => ?_)
          refine gf_goto C 82 dX12_take_146 (by decide) ?_
          exact gf_sub [some (.ref 117)] (And.intro rfl trivial) (kc12 h18)
        refine gf_ifeq C 126 dX12_take_97 (by decide) (fun _ => ?_) (fun _ => ?_)
        · exact gf_sub [some (.ref 117)] (And.intro rfl trivial) (kj16 h11)
        · refine gf_aload_n C dX12_take_100 rfl rfl (gf_getI C dX12_take_101 fl_X12_108 s_117 rfl 7493 rfl ?_)
          refine gf_ifle C 149 dX12_take_104 (by decide) (fun _ => ?_) (fun _ => ?_)
          · refine gf_aload_n C dX12_take_107 rfl rfl (gf_getR C dX12_take_108 fl_X12_7 s_117 rfl 118 rfl (gf_aload_n C dX12_take_111 rfl rfl (gf_getI C dX12_take_112 fl_X12_95 s_117 rfl 7490 rfl (gf_iald C dX12_take_115 s_118 ?_))))
            refine gf_callS (ε2 := eI) C [.int (aG h11 118 (sG h11 7490).toNatClampNeg)] dX12_take_116 mw_X12_kindOf ml_X12_104 (fun rZ hZ eZ => ok_X12_kindOf (aG h11 118 (sG h11 7490).toNatClampNeg) h11 rZ hZ eZ) rfl rfl rfl (Nat.le_of_ble_eq_true rfl) (Nat.le_of_ble_eq_true rfl) (Nat.le_of_ble_eq_true rfl) (fun r19 h20 => ?_)
            refine gf_aload_n C dX12_take_119 rfl rfl (gf_getI C dX12_take_120 fl_X12_108 s_117 rfl 7493 rfl ?_)
            refine gf_icmpne C 149 dX12_take_123 (by decide) (fun _ => ?_) (fun _ => ?_)
            · exact gf_sub [some (.ref 117)] (And.intro rfl trivial) (kj16 h20)
            · exact gf_sub [none] trivial (kj14 h20)
          · exact gf_sub [none] trivial (kj14 h11)
      · exact gf_sub [none] trivial (kj14 h11)
    refine gf_icmpge C 78 dX12_take_60 (by decide) (fun _ => ?_) (fun _ => ?_)
    · refine gf_aload_n C dX12_take_63 rfl rfl (gf_getR C dX12_take_64 fl_X12_7 s_117 rfl 118 rfl (gf_aload_n C dX12_take_67 rfl rfl (gf_getI C dX12_take_68 fl_X12_95 s_117 rfl 7490 rfl (gf_iald C dX12_take_71 s_118 ?_))))
      refine gf_callS (ε2 := eI) C [.int (aG h6 118 (sG h6 7490).toNatClampNeg)] dX12_take_72 mw_X12_kindOf ml_X12_104 (fun rZ hZ eZ => ok_X12_kindOf (aG h6 118 (sG h6 7490).toNatClampNeg) h6 rZ hZ eZ) rfl rfl rfl (Nat.le_of_ble_eq_true rfl) (Nat.le_of_ble_eq_true rfl) (Nat.le_of_ble_eq_true rfl) (fun r21 h22 => ?_)
      refine gf_goto C 79 dX12_take_75 (by decide) ?_
      exact gf_sub [some (.ref 117)] (And.intro rfl trivial) (kj9 r21 h22)
    · refine gf_iconst C dX12_take_78 ki_0 ?_
      exact gf_sub [some (.ref 117)] (And.intro rfl trivial) (kj9 (0 : Int32) h6)
  refine gf_icmpge C 38 dX12_take_8 (by decide) (fun _ => ?_) (fun _ => ?_)
  · refine gf_aload_n C dX12_take_11 rfl rfl (gf_getR C dX12_take_12 fl_X12_7 s_117 rfl 118 rfl (gf_aload_n C dX12_take_15 rfl rfl (gf_getI C dX12_take_16 fl_X12_95 s_117 rfl 7490 rfl (gf_iald C dX12_take_19 s_118 (gf_bipush C dX12_take_20 kb_32 ?_)))))
    refine gf_icmpne C 38 dX12_take_22 (by decide) (fun _ => ?_) (fun _ => ?_)
    · refine gf_aload_n C dX12_take_25 rfl rfl (gf_dup C dX12_take_26 rfl (gf_getI C dX12_take_27 fl_X12_95 s_117 rfl 7490 rfl (gf_iconst C dX12_take_30 ki_1 (gf_iadd C dX12_take_31 (gf_putI C dX12_take_32 fp_X12_95 s_117 rfl 7490 rfl ?_)))))
      refine gf_jlH (fun h23 => ?_)
      refine gf_goto C 0 dX12_take_35 (by decide) ?_
      exact gf_sub [some (.ref 117)] (And.intro rfl trivial) (kc2 h23)
    · exact gf_sub [some (.ref 117)] (And.intro rfl trivial) (kj4 h1)
  · exact gf_sub [some (.ref 117)] (And.intro rfl trivial) (kj4 h1)
def F_X12_want (a1 : Int32) (h : Hp) : Option (Int32 × Hp) :=
  jn (fun (h1 : Hp) =>
  gd (isB a1) ( some (a1, h1))) (fun j2 => if a1 = 0 then (
  if (sG h 7494) = (-1 : Int32) then (
  jl (sS h 7494 (sG h 7491)) (fun h4 => j2 h4)) else (
  j2 h)) else (
  j2 h))
set_option maxRecDepth 100000 in
set_option maxHeartbeats 4000000 in
theorem ok_X12_want (a1 : Int32) (h : Hp) (rZ : Int32) (hZ : Hp) (eZ : F_X12_want a1 h = some (rZ, hZ)) : AC yX12_want cX12_want 2 (some .boolean) 0 0 [.ref 117, .int a1] h (eI rZ) hZ := by
  refine AC_intro (o := F_X12_want a1 h) RX12 rfl (plainFor_of_name (by decide)) [some (.ref 117), some (.int a1)] rfl (fun _ => rfl) (fun _ => Nat.le_of_ble_eq_true rfl) eZ (fun K C => ?_)
  unfold F_X12_want
  refine gf_iload_n C dX12_want_0 rfl rfl ?_
  refine gf_jn (fun (j2 : Hp → Option (Int32 × Hp)) => ∀ (h1 : Hp), GF K eI h1 20 [none, some (.int a1)] [] (j2 h1)) ?_ (fun j2 kj2 => ?_)
  · intro h1
    refine gf_iload_n C dX12_want_20 rfl rfl ?_
    refine gf_gd (fun b3 => ?_)
    exact gf_zret C dX12_want_21 (isB_nar b3) rfl
  refine gf_ifne C 20 dX12_want_1 (by decide) (fun _ => ?_) (fun _ => ?_)
  · refine gf_aload_n C dX12_want_4 rfl rfl (gf_getI C dX12_want_5 fl_X12_111 s_117 rfl 7494 rfl (gf_iconst C dX12_want_8 ki_m1 ?_))
    refine gf_icmpne C 20 dX12_want_9 (by decide) (fun _ => ?_) (fun _ => ?_)
    · refine gf_aload_n C dX12_want_12 rfl rfl (gf_aload_n C dX12_want_13 rfl rfl (gf_getI C dX12_want_14 fl_X12_98 s_117 rfl 7491 rfl (gf_putI C dX12_want_17 fp_X12_111 s_117 rfl 7494 rfl ?_)))
      refine gf_jlH (fun h4 => ?_)
      exact gf_sub [none, some (.int a1)] (And.intro rfl trivial) (kj2 h4)
    · exact gf_sub [none, some (.int a1)] (And.intro rfl trivial) (kj2 h)
  · exact gf_sub [none, some (.int a1)] (And.intro rfl trivial) (kj2 h)
def F_X12_wordOf (h : Hp) : Option (Int32 × Hp) :=
  jl (sG h 7491) (fun x1 => (lp 4000000000 (fun (c5 : Int32 → Int32 → Hp → Option (Int32 × Hp)) (v2 : Int32) (v3 : Int32) (h4 : Hp) =>
  jn (fun (h6 : Hp) =>
  some (v2, h6)) (fun j7 => if v3 < ((sG h4 7491) + (sG h4 7492)) then (
  if (sG h4 7492) < (8 : Int32) then (
  jn (fun (s8 : Int32) (h9 : Hp) =>
  c5 s8 (v3 + (1 : Int32)) h9) (fun j10 => if (sG h4 7492) < (6 : Int32) then (
  gd (inb v3 200) ( j10 ((((27 : Int32) * v2) + (aG h4 118 v3.toNatClampNeg)) - (96 : Int32)) h4)) else (
  j10 v2 h4))) else (
  j7 h4)) else (
  j7 h4))) (fun _ _ _ => none)) (0 : Int32) x1 h)
set_option maxRecDepth 100000 in
set_option maxHeartbeats 4000000 in
theorem ok_X12_wordOf (h : Hp) (rZ : Int32) (hZ : Hp) (eZ : F_X12_wordOf h = some (rZ, hZ)) : AC yX12_wordOf cX12_wordOf 3 (some .int) 0 0 [.ref 117] h (eI rZ) hZ := by
  refine AC_intro (o := F_X12_wordOf h) RX12 rfl (plainFor_of_name (by decide)) [some (.ref 117), none, none] rfl (fun _ => rfl) (fun _ => Nat.le_of_ble_eq_true rfl) eZ (fun K C => ?_)
  unfold F_X12_wordOf
  refine gf_iconst C dX12_wordOf_0 ki_0 (gf_istore_n C dX12_wordOf_1 rfl [some (.ref 117), some (.int (0 : Int32)), none] rfl rfl (Nat.le_of_ble_eq_true rfl) (gf_aload_n C dX12_wordOf_2 rfl rfl (gf_getI C dX12_wordOf_3 fl_X12_98 s_117 rfl 7491 rfl ?_)))
  refine gf_jlI (fun x1 => ?_)
  refine gf_istore_n C dX12_wordOf_6 rfl [some (.ref 117), some (.int (0 : Int32)), some (.int x1)] rfl rfl (Nat.le_of_ble_eq_true rfl) ?_
  refine gf_sub [some (.ref 117), some (.int (0 : Int32)), some (.int x1)] (And.intro rfl (And.intro rfl (And.intro rfl trivial))) ?_
  refine lp_P (fun (c5 : Int32 → Int32 → Hp → Option (Int32 × Hp)) => ∀ (v2 : Int32) (v3 : Int32) (h4 : Hp), GF K eI h4 7 [some (.ref 117), some (.int v2), some (.int v3)] [] (c5 v2 v3 h4)) (fun _ _ _ => gf_none) (fun c5 kc5 v2 v3 h4 => ?_) (0 : Int32) x1 h
  refine gf_iload_n C dX12_wordOf_7 rfl rfl (gf_aload_n C dX12_wordOf_8 rfl rfl (gf_getI C dX12_wordOf_9 fl_X12_98 s_117 rfl 7491 rfl (gf_aload_n C dX12_wordOf_12 rfl rfl (gf_getI C dX12_wordOf_13 fl_X12_101 s_117 rfl 7492 rfl (gf_iadd C dX12_wordOf_16 ?_)))))
  refine gf_jn (fun (j7 : Hp → Option (Int32 × Hp)) => ∀ (h6 : Hp), GF K eI h6 63 [none, some (.int v2), none] [] (j7 h6)) ?_ (fun j7 kj7 => ?_)
  · intro h6
    refine gf_iload_n C dX12_wordOf_63 rfl rfl ?_
    exact gf_iret C dX12_wordOf_64 rfl
  refine gf_icmpge C 63 dX12_wordOf_17 (by decide) (fun _ => ?_) (fun _ => ?_)
  · refine gf_aload_n C dX12_wordOf_20 rfl rfl (gf_getI C dX12_wordOf_21 fl_X12_101 s_117 rfl 7492 rfl (gf_bipush C dX12_wordOf_24 kb_8 ?_))
    refine gf_icmpge C 63 dX12_wordOf_26 (by decide) (fun _ => ?_) (fun _ => ?_)
    · refine gf_aload_n C dX12_wordOf_29 rfl rfl (gf_getI C dX12_wordOf_30 fl_X12_101 s_117 rfl 7492 rfl (gf_bipush C dX12_wordOf_33 kb_6 ?_))
      refine gf_jn (fun (j10 : Int32 → Hp → Option (Int32 × Hp)) => ∀ (s8 : Int32) (h9 : Hp), GF K eI h9 56 [some (.ref 117), none, some (.int v3)] [.int s8] (j10 s8 h9)) ?_ (fun j10 kj10 => ?_)
      · intro s8 h9
        refine gf_istore_n C dX12_wordOf_56 rfl [some (.ref 117), some (.int s8), some (.int v3)] rfl rfl (Nat.le_of_ble_eq_true rfl) (gf_iinc C dX12_wordOf_57 rfl (ii_1 _) [some (.ref 117), some (.int s8), some (.int (v3 + (1 : Int32)))] rfl rfl ?_)
        refine gf_goto C 7 dX12_wordOf_60 (by decide) ?_
        exact gf_sub [some (.ref 117), some (.int s8), some (.int (v3 + (1 : Int32)))] (And.intro rfl (And.intro rfl (And.intro rfl trivial))) (kc5 s8 (v3 + (1 : Int32)) h9)
      refine gf_icmpge C 55 dX12_wordOf_35 (by decide) (fun _ => ?_) (fun _ => ?_)
      · refine gf_bipush C dX12_wordOf_38 kb_27 (gf_iload_n C dX12_wordOf_40 rfl rfl (gf_imul C dX12_wordOf_41 (gf_aload_n C dX12_wordOf_42 rfl rfl (gf_getR C dX12_wordOf_43 fl_X12_7 s_117 rfl 118 rfl (gf_iload_n C dX12_wordOf_46 rfl rfl (gf_iald C dX12_wordOf_47 s_118 (gf_iadd C dX12_wordOf_48 ?_)))))))
        refine gf_bipush C dX12_wordOf_49 kb_96 (gf_isub C dX12_wordOf_51 ?_)
        refine gf_goto C 56 dX12_wordOf_52 (by decide) ?_
        exact gf_sub [some (.ref 117), none, some (.int v3)] (And.intro rfl (And.intro rfl trivial)) (kj10 ((((27 : Int32) * v2) + (aG h4 118 v3.toNatClampNeg)) - (96 : Int32)) h4)
      · refine gf_iload_n C dX12_wordOf_55 rfl rfl ?_
        exact gf_sub [some (.ref 117), none, some (.int v3)] (And.intro rfl (And.intro rfl trivial)) (kj10 v2 h4)
    · exact gf_sub [none, some (.int v2), none] (And.intro rfl trivial) (kj7 h4)
  · exact gf_sub [none, some (.int v2), none] (And.intro rfl trivial) (kj7 h4)
def F_X12_at (a1 : Int32) (a2 : Int32) (h : Hp) : Option (Int32 × Hp) :=
  jn (fun (s1 : Int32) (h2 : Hp) =>
  gd (isB s1) ( some (s1, h2))) (fun j3 => jn (fun (h5 : Hp) =>
  j3 (1 : Int32) h5) (fun j6 => if a2 = 0 then (
  j6 h) else (
  gd (inb ((sG h 7491) + a1) 200) ( if (aG h 118 ((sG h 7491) + a1).toNatClampNeg) = a2 then (
  j6 h) else (
  j3 (0 : Int32) h)))))
set_option maxRecDepth 100000 in
set_option maxHeartbeats 4000000 in
theorem ok_X12_at (a1 : Int32) (a2 : Int32) (h : Hp) (rZ : Int32) (hZ : Hp) (eZ : F_X12_at a1 a2 h = some (rZ, hZ)) : AC yX12_at cX12_at 3 (some .boolean) 0 0 [.ref 117, .int a1, .int a2] h (eI rZ) hZ := by
  refine AC_intro (o := F_X12_at a1 a2 h) RX12 rfl (plainFor_of_name (by decide)) [some (.ref 117), some (.int a1), some (.int a2)] rfl (fun _ => rfl) (fun _ => Nat.le_of_ble_eq_true rfl) eZ (fun K C => ?_)
  unfold F_X12_at
  refine gf_iload_n C dX12_at_0 rfl rfl ?_
  refine gf_jn (fun (j3 : Int32 → Hp → Option (Int32 × Hp)) => ∀ (s1 : Int32) (h2 : Hp), GF K eI h2 24 [none, none, none] [.int s1] (j3 s1 h2)) ?_ (fun j3 kj3 => ?_)
  · intro s1 h2
    refine gf_gd (fun b4 => ?_)
    exact gf_zret C dX12_at_24 (isB_nar b4) rfl
  refine gf_jn (fun (j6 : Hp → Option (Int32 × Hp)) => ∀ (h5 : Hp), GF K eI h5 19 [none, none, none] [] (j6 h5)) ?_ (fun j6 kj6 => ?_)
  · intro h5
    refine gf_iconst C dX12_at_19 ki_1 ?_
    refine gf_goto C 24 dX12_at_20 (by decide) ?_
    exact gf_sub [none, none, none] trivial (kj3 (1 : Int32) h5)
  refine gf_ifeq C 19 dX12_at_1 (by decide) (fun _ => ?_) (fun _ => ?_)
  · exact gf_sub [none, none, none] trivial (kj6 h)
  · refine gf_aload_n C dX12_at_4 rfl rfl (gf_getR C dX12_at_5 fl_X12_7 s_117 rfl 118 rfl (gf_aload_n C dX12_at_8 rfl rfl (gf_getI C dX12_at_9 fl_X12_98 s_117 rfl 7491 rfl (gf_iload_n C dX12_at_12 rfl rfl (gf_iadd C dX12_at_13 (gf_iald C dX12_at_14 s_118 (gf_iload_n C dX12_at_15 rfl rfl ?_)))))))
    refine gf_icmpne C 23 dX12_at_16 (by decide) (fun _ => ?_) (fun _ => ?_)
    · exact gf_sub [none, none, none] trivial (kj6 h)
    · refine gf_iconst C dX12_at_23 ki_0 ?_
      exact gf_sub [none, none, none] trivial (kj3 (0 : Int32) h)
def F_X12_isWord (a1 : Int32) (a2 : Int32) (a3 : Int32) (a4 : Int32) (a5 : Int32) (a6 : Int32) (a7 : Int32) (h : Hp) : Option (Int32 × Hp) :=
  jn (fun (s1 : Int32) (h2 : Hp) =>
  jn (fun (s4 : Int32) (h5 : Hp) =>
  jn (fun (s7 : Int32) (h8 : Hp) =>
  jn (fun (s10 : Int32) (h11 : Hp) =>
  jn (fun (s13 : Int32) (h14 : Hp) =>
  jn (fun (s16 : Int32) (h17 : Hp) =>
  jn (fun (s19 : Int32) (h20 : Hp) =>
  jl ((((((s1 + s4) + s7) + s10) + s13) + s16) + s19) (fun x22 => jn (fun (s23 : Int32) (h24 : Hp) =>
  gd (isB s23) ( some (s23, h24))) (fun j25 => jn (fun (h27 : Hp) =>
  j25 (0 : Int32) h27) (fun j28 => if (sG h20 7493) = (1 : Int32) then (
  if (sG h20 7492) = x22 then (
  bd (F_X12_at (0 : Int32) a1 h20) (fun r29 h30 => if r29 = 0 then (
  j28 h30) else (
  bd (F_X12_at (1 : Int32) a2 h30) (fun r31 h32 => if r31 = 0 then (
  j28 h32) else (
  bd (F_X12_at (2 : Int32) a3 h32) (fun r33 h34 => if r33 = 0 then (
  j28 h34) else (
  bd (F_X12_at (3 : Int32) a4 h34) (fun r35 h36 => if r35 = 0 then (
  j28 h36) else (
  bd (F_X12_at (4 : Int32) a5 h36) (fun r37 h38 => if r37 = 0 then (
  j28 h38) else (
  bd (F_X12_at (5 : Int32) a6 h38) (fun r39 h40 => if r39 = 0 then (
  j28 h40) else (
  bd (F_X12_at (6 : Int32) a7 h40) (fun r41 h42 => if r41 = 0 then (
  j28 h42) else (
  j25 (1 : Int32) h42))))))))))))))) else (
  j28 h20)) else (
  j28 h20))))) (fun j21 => if 0 < a7 then (
  j21 (1 : Int32) h17) else (
  j21 (0 : Int32) h17))) (fun j18 => if 0 < a6 then (
  j18 (1 : Int32) h14) else (
  j18 (0 : Int32) h14))) (fun j15 => if 0 < a5 then (
  j15 (1 : Int32) h11) else (
  j15 (0 : Int32) h11))) (fun j12 => if 0 < a4 then (
  j12 (1 : Int32) h8) else (
  j12 (0 : Int32) h8))) (fun j9 => if 0 < a3 then (
  j9 (1 : Int32) h5) else (
  j9 (0 : Int32) h5))) (fun j6 => if 0 < a2 then (
  j6 (1 : Int32) h2) else (
  j6 (0 : Int32) h2))) (fun j3 => if 0 < a1 then (
  j3 (1 : Int32) h) else (
  j3 (0 : Int32) h))
set_option maxRecDepth 100000 in
set_option maxHeartbeats 4000000 in
theorem ok_X12_isWord (a1 : Int32) (a2 : Int32) (a3 : Int32) (a4 : Int32) (a5 : Int32) (a6 : Int32) (a7 : Int32) (h : Hp) (rZ : Int32) (hZ : Hp) (eZ : F_X12_isWord a1 a2 a3 a4 a5 a6 a7 h = some (rZ, hZ)) : AC yX12_isWord cX12_isWord 9 (some .boolean) 1 22 [.ref 117, .int a1, .int a2, .int a3, .int a4, .int a5, .int a6, .int a7] h (eI rZ) hZ := by
  refine AC_intro (o := F_X12_isWord a1 a2 a3 a4 a5 a6 a7 h) RX12 rfl (plainFor_of_name (by decide)) [some (.ref 117), some (.int a1), some (.int a2), some (.int a3), some (.int a4), some (.int a5), some (.int a6), some (.int a7), none] rfl (fun _ => rfl) (fun _ => Nat.le_of_ble_eq_true rfl) eZ (fun K C => ?_)
  unfold F_X12_isWord
  refine gf_iload_n C dX12_isWord_0 rfl rfl ?_
  refine gf_jn (fun (j3 : Int32 → Hp → Option (Int32 × Hp)) => ∀ (s1 : Int32) (h2 : Hp), GF K eI h2 9 [some (.ref 117), some (.int a1), some (.int a2), some (.int a3), some (.int a4), some (.int a5), some (.int a6), some (.int a7), none] [.int s1] (j3 s1 h2)) ?_ (fun j3 kj3 => ?_)
  · intro s1 h2
    refine gf_iload_n C dX12_isWord_9 rfl rfl ?_
    refine gf_jn (fun (j6 : Int32 → Hp → Option (Int32 × Hp)) => ∀ (s4 : Int32) (h5 : Hp), GF K eI h5 18 [some (.ref 117), some (.int a1), some (.int a2), some (.int a3), some (.int a4), some (.int a5), some (.int a6), some (.int a7), none] [.int s4, .int s1] (j6 s4 h5)) ?_ (fun j6 kj6 => ?_)
    · intro s4 h5
      refine gf_iadd C dX12_isWord_18 (gf_iload_n C dX12_isWord_19 rfl rfl ?_)
      refine gf_jn (fun (j9 : Int32 → Hp → Option (Int32 × Hp)) => ∀ (s7 : Int32) (h8 : Hp), GF K eI h8 28 [some (.ref 117), some (.int a1), some (.int a2), some (.int a3), some (.int a4), some (.int a5), some (.int a6), some (.int a7), none] [.int s7, .int (s1 + s4)] (j9 s7 h8)) ?_ (fun j9 kj9 => ?_)
      · intro s7 h8
        refine gf_iadd C dX12_isWord_28 (gf_iload C dX12_isWord_29 rfl ?_)
        refine gf_jn (fun (j12 : Int32 → Hp → Option (Int32 × Hp)) => ∀ (s10 : Int32) (h11 : Hp), GF K eI h11 39 [some (.ref 117), some (.int a1), some (.int a2), some (.int a3), some (.int a4), some (.int a5), some (.int a6), some (.int a7), none] [.int s10, .int ((s1 + s4) + s7)] (j12 s10 h11)) ?_ (fun j12 kj12 => ?_)
        · intro s10 h11
          refine gf_iadd C dX12_isWord_39 (gf_iload C dX12_isWord_40 rfl ?_)
          refine gf_jn (fun (j15 : Int32 → Hp → Option (Int32 × Hp)) => ∀ (s13 : Int32) (h14 : Hp), GF K eI h14 50 [some (.ref 117), some (.int a1), some (.int a2), some (.int a3), some (.int a4), some (.int a5), some (.int a6), some (.int a7), none] [.int s13, .int (((s1 + s4) + s7) + s10)] (j15 s13 h14)) ?_ (fun j15 kj15 => ?_)
          · intro s13 h14
            refine gf_iadd C dX12_isWord_50 (gf_iload C dX12_isWord_51 rfl ?_)
            refine gf_jn (fun (j18 : Int32 → Hp → Option (Int32 × Hp)) => ∀ (s16 : Int32) (h17 : Hp), GF K eI h17 61 [some (.ref 117), some (.int a1), some (.int a2), some (.int a3), some (.int a4), some (.int a5), some (.int a6), some (.int a7), none] [.int s16, .int ((((s1 + s4) + s7) + s10) + s13)] (j18 s16 h17)) ?_ (fun j18 kj18 => ?_)
            · intro s16 h17
              refine gf_iadd C dX12_isWord_61 (gf_iload C dX12_isWord_62 rfl ?_)
              refine gf_jn (fun (j21 : Int32 → Hp → Option (Int32 × Hp)) => ∀ (s19 : Int32) (h20 : Hp), GF K eI h20 72 [some (.ref 117), some (.int a1), some (.int a2), some (.int a3), some (.int a4), some (.int a5), some (.int a6), some (.int a7), none] [.int s19, .int (((((s1 + s4) + s7) + s10) + s13) + s16)] (j21 s19 h20)) ?_ (fun j21 kj21 => ?_)
              · intro s19 h20
                refine gf_iadd C dX12_isWord_72 ?_
                refine gf_jlI (fun x22 => ?_)
                refine gf_istore C dX12_isWord_73 [some (.ref 117), some (.int a1), some (.int a2), some (.int a3), some (.int a4), some (.int a5), some (.int a6), some (.int a7), some (.int x22)] rfl rfl (Nat.le_of_ble_eq_true rfl) (gf_aload_n C dX12_isWord_75 rfl rfl (gf_getI C dX12_isWord_76 fl_X12_108 s_117 rfl 7493 rfl (gf_iconst C dX12_isWord_79 ki_1 ?_)))
                refine gf_jn (fun (j25 : Int32 → Hp → Option (Int32 × Hp)) => ∀ (s23 : Int32) (h24 : Hp), GF K eI h24 165 [none, none, none, none, none, none, none, none, none] [.int s23] (j25 s23 h24)) ?_ (fun j25 kj25 => ?_)
                · intro s23 h24
                  refine gf_gd (fun b26 => ?_)
                  exact gf_zret C dX12_isWord_165 (isB_nar b26) rfl
                refine gf_jn (fun (j28 : Hp → Option (Int32 × Hp)) => ∀ (h27 : Hp), GF K eI h27 164 [none, none, none, none, none, none, none, none, none] [] (j28 h27)) ?_ (fun j28 kj28 => ?_)
                · intro h27
                  refine gf_iconst C dX12_isWord_164 ki_0 ?_
                  exact gf_sub [none, none, none, none, none, none, none, none, none] trivial (kj25 (0 : Int32) h27)
                refine gf_icmpne C 164 dX12_isWord_80 (by decide) (fun _ => ?_) (fun _ => ?_)
                · refine gf_aload_n C dX12_isWord_83 rfl rfl (gf_getI C dX12_isWord_84 fl_X12_101 s_117 rfl 7492 rfl (gf_iload C dX12_isWord_87 rfl ?_))
                  refine gf_icmpne C 164 dX12_isWord_89 (by decide) (fun _ => ?_) (fun _ => ?_)
                  · refine gf_aload_n C dX12_isWord_92 rfl rfl (gf_iconst C dX12_isWord_93 ki_0 (gf_iload_n C dX12_isWord_94 rfl rfl ?_))
                    refine gf_callV (ε2 := eI) C [.int (0 : Int32), .int a1] dX12_isWord_95 mw_X12_at ml_X12_114 s_117 (fun rZ hZ eZ => ok_X12_at (0 : Int32) a1 h20 rZ hZ eZ) rfl rfl rfl (Nat.le_of_ble_eq_true rfl) (Nat.le_of_ble_eq_true rfl) (Nat.le_of_ble_eq_true rfl) (fun r29 h30 => ?_)
                    refine gf_ifeq C 164 dX12_isWord_98 (by decide) (fun _ => ?_) (fun _ => ?_)
                    · exact gf_sub [none, none, none, none, none, none, none, none, none] trivial (kj28 h30)
                    · refine gf_aload_n C dX12_isWord_101 rfl rfl (gf_iconst C dX12_isWord_102 ki_1 (gf_iload_n C dX12_isWord_103 rfl rfl ?_))
                      refine gf_callV (ε2 := eI) C [.int (1 : Int32), .int a2] dX12_isWord_104 mw_X12_at ml_X12_114 s_117 (fun rZ hZ eZ => ok_X12_at (1 : Int32) a2 h30 rZ hZ eZ) rfl rfl rfl (Nat.le_of_ble_eq_true rfl) (Nat.le_of_ble_eq_true rfl) (Nat.le_of_ble_eq_true rfl) (fun r31 h32 => ?_)
                      refine gf_ifeq C 164 dX12_isWord_107 (by decide) (fun _ => ?_) (fun _ => ?_)
                      · exact gf_sub [none, none, none, none, none, none, none, none, none] trivial (kj28 h32)
                      · refine gf_aload_n C dX12_isWord_110 rfl rfl (gf_iconst C dX12_isWord_111 ki_2 (gf_iload_n C dX12_isWord_112 rfl rfl ?_))
                        refine gf_callV (ε2 := eI) C [.int (2 : Int32), .int a3] dX12_isWord_113 mw_X12_at ml_X12_114 s_117 (fun rZ hZ eZ => ok_X12_at (2 : Int32) a3 h32 rZ hZ eZ) rfl rfl rfl (Nat.le_of_ble_eq_true rfl) (Nat.le_of_ble_eq_true rfl) (Nat.le_of_ble_eq_true rfl) (fun r33 h34 => ?_)
                        refine gf_ifeq C 164 dX12_isWord_116 (by decide) (fun _ => ?_) (fun _ => ?_)
                        · exact gf_sub [none, none, none, none, none, none, none, none, none] trivial (kj28 h34)
                        · refine gf_aload_n C dX12_isWord_119 rfl rfl (gf_iconst C dX12_isWord_120 ki_3 (gf_iload C dX12_isWord_121 rfl ?_))
                          refine gf_callV (ε2 := eI) C [.int (3 : Int32), .int a4] dX12_isWord_123 mw_X12_at ml_X12_114 s_117 (fun rZ hZ eZ => ok_X12_at (3 : Int32) a4 h34 rZ hZ eZ) rfl rfl rfl (Nat.le_of_ble_eq_true rfl) (Nat.le_of_ble_eq_true rfl) (Nat.le_of_ble_eq_true rfl) (fun r35 h36 => ?_)
                          refine gf_ifeq C 164 dX12_isWord_126 (by decide) (fun _ => ?_) (fun _ => ?_)
                          · exact gf_sub [none, none, none, none, none, none, none, none, none] trivial (kj28 h36)
                          · refine gf_aload_n C dX12_isWord_129 rfl rfl (gf_iconst C dX12_isWord_130 ki_4 (gf_iload C dX12_isWord_131 rfl ?_))
                            refine gf_callV (ε2 := eI) C [.int (4 : Int32), .int a5] dX12_isWord_133 mw_X12_at ml_X12_114 s_117 (fun rZ hZ eZ => ok_X12_at (4 : Int32) a5 h36 rZ hZ eZ) rfl rfl rfl (Nat.le_of_ble_eq_true rfl) (Nat.le_of_ble_eq_true rfl) (Nat.le_of_ble_eq_true rfl) (fun r37 h38 => ?_)
                            refine gf_ifeq C 164 dX12_isWord_136 (by decide) (fun _ => ?_) (fun _ => ?_)
                            · exact gf_sub [none, none, none, none, none, none, none, none, none] trivial (kj28 h38)
                            · refine gf_aload_n C dX12_isWord_139 rfl rfl (gf_iconst C dX12_isWord_140 ki_5 (gf_iload C dX12_isWord_141 rfl ?_))
                              refine gf_callV (ε2 := eI) C [.int (5 : Int32), .int a6] dX12_isWord_143 mw_X12_at ml_X12_114 s_117 (fun rZ hZ eZ => ok_X12_at (5 : Int32) a6 h38 rZ hZ eZ) rfl rfl rfl (Nat.le_of_ble_eq_true rfl) (Nat.le_of_ble_eq_true rfl) (Nat.le_of_ble_eq_true rfl) (fun r39 h40 => ?_)
                              refine gf_ifeq C 164 dX12_isWord_146 (by decide) (fun _ => ?_) (fun _ => ?_)
                              · exact gf_sub [none, none, none, none, none, none, none, none, none] trivial (kj28 h40)
                              · refine gf_aload_n C dX12_isWord_149 rfl rfl (gf_bipush C dX12_isWord_150 kb_6 (gf_iload C dX12_isWord_152 rfl ?_))
                                refine gf_callV (ε2 := eI) C [.int (6 : Int32), .int a7] dX12_isWord_154 mw_X12_at ml_X12_114 s_117 (fun rZ hZ eZ => ok_X12_at (6 : Int32) a7 h40 rZ hZ eZ) rfl rfl rfl (Nat.le_of_ble_eq_true rfl) (Nat.le_of_ble_eq_true rfl) (Nat.le_of_ble_eq_true rfl) (fun r41 h42 => ?_)
                                refine gf_ifeq C 164 dX12_isWord_157 (by decide) (fun _ => ?_) (fun _ => ?_)
                                · exact gf_sub [none, none, none, none, none, none, none, none, none] trivial (kj28 h42)
                                · refine gf_iconst C dX12_isWord_160 ki_1 ?_
                                  refine gf_goto C 165 dX12_isWord_161 (by decide) ?_
                                  exact gf_sub [none, none, none, none, none, none, none, none, none] trivial (kj25 (1 : Int32) h42)
                  · exact gf_sub [none, none, none, none, none, none, none, none, none] trivial (kj28 h20)
                · exact gf_sub [none, none, none, none, none, none, none, none, none] trivial (kj28 h20)
              refine gf_ifle C 71 dX12_isWord_64 (by decide) (fun _ => ?_) (fun _ => ?_)
              · refine gf_iconst C dX12_isWord_67 ki_1 ?_
                refine gf_goto C 72 dX12_isWord_68 (by decide) ?_
                exact gf_sub [some (.ref 117), some (.int a1), some (.int a2), some (.int a3), some (.int a4), some (.int a5), some (.int a6), some (.int a7), none] (And.intro rfl (And.intro rfl (And.intro rfl (And.intro rfl (And.intro rfl (And.intro rfl (And.intro rfl (And.intro rfl trivial)))))))) (kj21 (1 : Int32) h17)
              · refine gf_iconst C dX12_isWord_71 ki_0 ?_
                exact gf_sub [some (.ref 117), some (.int a1), some (.int a2), some (.int a3), some (.int a4), some (.int a5), some (.int a6), some (.int a7), none] (And.intro rfl (And.intro rfl (And.intro rfl (And.intro rfl (And.intro rfl (And.intro rfl (And.intro rfl (And.intro rfl trivial)))))))) (kj21 (0 : Int32) h17)
            refine gf_ifle C 60 dX12_isWord_53 (by decide) (fun _ => ?_) (fun _ => ?_)
            · refine gf_iconst C dX12_isWord_56 ki_1 ?_
              refine gf_goto C 61 dX12_isWord_57 (by decide) ?_
              exact gf_sub [some (.ref 117), some (.int a1), some (.int a2), some (.int a3), some (.int a4), some (.int a5), some (.int a6), some (.int a7), none] (And.intro rfl (And.intro rfl (And.intro rfl (And.intro rfl (And.intro rfl (And.intro rfl (And.intro rfl (And.intro rfl trivial)))))))) (kj18 (1 : Int32) h14)
            · refine gf_iconst C dX12_isWord_60 ki_0 ?_
              exact gf_sub [some (.ref 117), some (.int a1), some (.int a2), some (.int a3), some (.int a4), some (.int a5), some (.int a6), some (.int a7), none] (And.intro rfl (And.intro rfl (And.intro rfl (And.intro rfl (And.intro rfl (And.intro rfl (And.intro rfl (And.intro rfl trivial)))))))) (kj18 (0 : Int32) h14)
          refine gf_ifle C 49 dX12_isWord_42 (by decide) (fun _ => ?_) (fun _ => ?_)
          · refine gf_iconst C dX12_isWord_45 ki_1 ?_
            refine gf_goto C 50 dX12_isWord_46 (by decide) ?_
            exact gf_sub [some (.ref 117), some (.int a1), some (.int a2), some (.int a3), some (.int a4), some (.int a5), some (.int a6), some (.int a7), none] (And.intro rfl (And.intro rfl (And.intro rfl (And.intro rfl (And.intro rfl (And.intro rfl (And.intro rfl (And.intro rfl trivial)))))))) (kj15 (1 : Int32) h11)
          · refine gf_iconst C dX12_isWord_49 ki_0 ?_
            exact gf_sub [some (.ref 117), some (.int a1), some (.int a2), some (.int a3), some (.int a4), some (.int a5), some (.int a6), some (.int a7), none] (And.intro rfl (And.intro rfl (And.intro rfl (And.intro rfl (And.intro rfl (And.intro rfl (And.intro rfl (And.intro rfl trivial)))))))) (kj15 (0 : Int32) h11)
        refine gf_ifle C 38 dX12_isWord_31 (by decide) (fun _ => ?_) (fun _ => ?_)
        · refine gf_iconst C dX12_isWord_34 ki_1 ?_
          refine gf_goto C 39 dX12_isWord_35 (by decide) ?_
          exact gf_sub [some (.ref 117), some (.int a1), some (.int a2), some (.int a3), some (.int a4), some (.int a5), some (.int a6), some (.int a7), none] (And.intro rfl (And.intro rfl (And.intro rfl (And.intro rfl (And.intro rfl (And.intro rfl (And.intro rfl (And.intro rfl trivial)))))))) (kj12 (1 : Int32) h8)
        · refine gf_iconst C dX12_isWord_38 ki_0 ?_
          exact gf_sub [some (.ref 117), some (.int a1), some (.int a2), some (.int a3), some (.int a4), some (.int a5), some (.int a6), some (.int a7), none] (And.intro rfl (And.intro rfl (And.intro rfl (And.intro rfl (And.intro rfl (And.intro rfl (And.intro rfl (And.intro rfl trivial)))))))) (kj12 (0 : Int32) h8)
      refine gf_ifle C 27 dX12_isWord_20 (by decide) (fun _ => ?_) (fun _ => ?_)
      · refine gf_iconst C dX12_isWord_23 ki_1 ?_
        refine gf_goto C 28 dX12_isWord_24 (by decide) ?_
        exact gf_sub [some (.ref 117), some (.int a1), some (.int a2), some (.int a3), some (.int a4), some (.int a5), some (.int a6), some (.int a7), none] (And.intro rfl (And.intro rfl (And.intro rfl (And.intro rfl (And.intro rfl (And.intro rfl (And.intro rfl (And.intro rfl trivial)))))))) (kj9 (1 : Int32) h5)
      · refine gf_iconst C dX12_isWord_27 ki_0 ?_
        exact gf_sub [some (.ref 117), some (.int a1), some (.int a2), some (.int a3), some (.int a4), some (.int a5), some (.int a6), some (.int a7), none] (And.intro rfl (And.intro rfl (And.intro rfl (And.intro rfl (And.intro rfl (And.intro rfl (And.intro rfl (And.intro rfl trivial)))))))) (kj9 (0 : Int32) h5)
    refine gf_ifle C 17 dX12_isWord_10 (by decide) (fun _ => ?_) (fun _ => ?_)
    · refine gf_iconst C dX12_isWord_13 ki_1 ?_
      refine gf_goto C 18 dX12_isWord_14 (by decide) ?_
      exact gf_sub [some (.ref 117), some (.int a1), some (.int a2), some (.int a3), some (.int a4), some (.int a5), some (.int a6), some (.int a7), none] (And.intro rfl (And.intro rfl (And.intro rfl (And.intro rfl (And.intro rfl (And.intro rfl (And.intro rfl (And.intro rfl trivial)))))))) (kj6 (1 : Int32) h2)
    · refine gf_iconst C dX12_isWord_17 ki_0 ?_
      exact gf_sub [some (.ref 117), some (.int a1), some (.int a2), some (.int a3), some (.int a4), some (.int a5), some (.int a6), some (.int a7), none] (And.intro rfl (And.intro rfl (And.intro rfl (And.intro rfl (And.intro rfl (And.intro rfl (And.intro rfl (And.intro rfl trivial)))))))) (kj6 (0 : Int32) h2)
  refine gf_ifle C 8 dX12_isWord_1 (by decide) (fun _ => ?_) (fun _ => ?_)
  · refine gf_iconst C dX12_isWord_4 ki_1 ?_
    refine gf_goto C 9 dX12_isWord_5 (by decide) ?_
    exact gf_sub [some (.ref 117), some (.int a1), some (.int a2), some (.int a3), some (.int a4), some (.int a5), some (.int a6), some (.int a7), none] (And.intro rfl (And.intro rfl (And.intro rfl (And.intro rfl (And.intro rfl (And.intro rfl (And.intro rfl (And.intro rfl trivial)))))))) (kj3 (1 : Int32) h)
  · refine gf_iconst C dX12_isWord_8 ki_0 ?_
    exact gf_sub [some (.ref 117), some (.int a1), some (.int a2), some (.int a3), some (.int a4), some (.int a5), some (.int a6), some (.int a7), none] (And.intro rfl (And.intro rfl (And.intro rfl (And.intro rfl (And.intro rfl (And.intro rfl (And.intro rfl (And.intro rfl trivial)))))))) (kj3 (0 : Int32) h)
def F_X12_number (a1 : Int32) (a2 : Int32) (h : Hp) : Option (Int32 × Hp) :=
  bd (F_X12_take h) (fun _ h1 => jl (sG h1 7491) (fun x2 => (lp 4000000000 (fun (c6 : Int32 → Int32 → Hp → Option (Int32 × Hp)) (v3 : Int32) (v4 : Int32) (h5 : Hp) =>
  jn (fun (h7 : Hp) =>
  jn (fun (s9 : Int32) (h10 : Hp) =>
  bd (F_X12_want s9 h10) (fun r12 h13 => jn (fun (s14 : Int32) (h15 : Hp) =>
  some (s14, h15)) (fun j16 => if r12 = 0 then (
  j16 (0 : Int32) h13) else (
  j16 v3 h13)))) (fun j11 => jn (fun (h17 : Hp) =>
  j11 (0 : Int32) h17) (fun j18 => if (sG h7 7494) = (-1 : Int32) then (
  if (sG h7 7493) = (2 : Int32) then (
  if (3 : Int32) < (sG h7 7492) then (
  j18 h7) else (
  bd (F_X12_within v3 a1 a2 h7) (fun r19 h20 => if r19 = 0 then (
  j18 h20) else (
  j11 (1 : Int32) h20)))) else (
  j18 h7)) else (
  j18 h7)))) (fun j8 => if v4 < ((sG h5 7491) + (sG h5 7492)) then (
  if v4 < ((sG h5 7491) + (3 : Int32)) then (
  gd (inb v4 200) ( jl ((((10 : Int32) * v3) + (aG h5 118 v4.toNatClampNeg)) - (48 : Int32)) (fun x21 => c6 x21 (v4 + (1 : Int32)) h5))) else (
  j8 h5)) else (
  j8 h5))) (fun _ _ _ => none)) (0 : Int32) x2 h1))
set_option maxRecDepth 100000 in
set_option maxHeartbeats 4000000 in
theorem ok_X12_number (a1 : Int32) (a2 : Int32) (h : Hp) (rZ : Int32) (hZ : Hp) (eZ : F_X12_number a1 a2 h = some (rZ, hZ)) : AC yX12_number cX12_number 5 (some .int) 3 62 [.ref 117, .int a1, .int a2] h (eI rZ) hZ := by
  refine AC_intro (o := F_X12_number a1 a2 h) RX12 rfl (plainFor_of_name (by decide)) [some (.ref 117), some (.int a1), some (.int a2), none, none] rfl (fun _ => rfl) (fun _ => Nat.le_of_ble_eq_true rfl) eZ (fun K C => ?_)
  unfold F_X12_number
  refine gf_aload_n C dX12_number_0 rfl rfl ?_
  refine gf_callV (ε2 := eV) C [] dX12_number_1 mw_X12_take ml_X12_118 s_117 (fun rZ hZ eZ => ok_X12_take  h rZ hZ eZ) rfl rfl rfl (Nat.le_of_ble_eq_true rfl) (Nat.le_of_ble_eq_true rfl) (Nat.le_of_ble_eq_true rfl) (fun _ h1 => ?_)
  refine gf_iconst C dX12_number_4 ki_0 (gf_istore_n C dX12_number_5 rfl [some (.ref 117), some (.int a1), some (.int a2), some (.int (0 : Int32)), none] rfl rfl (Nat.le_of_ble_eq_true rfl) (gf_aload_n C dX12_number_6 rfl rfl (gf_getI C dX12_number_7 fl_X12_98 s_117 rfl 7491 rfl ?_)))
  refine gf_jlI (fun x2 => ?_)
  refine gf_istore C dX12_number_10 [some (.ref 117), some (.int a1), some (.int a2), some (.int (0 : Int32)), some (.int x2)] rfl rfl (Nat.le_of_ble_eq_true rfl) ?_
  refine gf_sub [some (.ref 117), some (.int a1), some (.int a2), some (.int (0 : Int32)), some (.int x2)] (And.intro rfl (And.intro rfl (And.intro rfl (And.intro rfl (And.intro rfl trivial))))) ?_
  refine lp_P (fun (c6 : Int32 → Int32 → Hp → Option (Int32 × Hp)) => ∀ (v3 : Int32) (v4 : Int32) (h5 : Hp), GF K eI h5 12 [some (.ref 117), some (.int a1), some (.int a2), some (.int v3), some (.int v4)] [] (c6 v3 v4 h5)) (fun _ _ _ => gf_none) (fun c6 kc6 v3 v4 h5 => ?_) (0 : Int32) x2 h1
  refine gf_iload C dX12_number_12 rfl (gf_aload_n C dX12_number_14 rfl rfl (gf_getI C dX12_number_15 fl_X12_98 s_117 rfl 7491 rfl (gf_aload_n C dX12_number_18 rfl rfl (gf_getI C dX12_number_19 fl_X12_101 s_117 rfl 7492 rfl (gf_iadd C dX12_number_22 ?_)))))
  refine gf_jn (fun (j8 : Hp → Option (Int32 × Hp)) => ∀ (h7 : Hp), GF K eI h7 59 [some (.ref 117), some (.int a1), some (.int a2), some (.int v3), none] [] (j8 h7)) ?_ (fun j8 kj8 => ?_)
  · intro h7
    refine gf_aload_n C dX12_number_59 rfl rfl (gf_aload_n C dX12_number_60 rfl rfl (gf_getI C dX12_number_61 fl_X12_111 s_117 rfl 7494 rfl (gf_iconst C dX12_number_64 ki_m1 ?_)))
    refine gf_jn (fun (j11 : Int32 → Hp → Option (Int32 × Hp)) => ∀ (s9 : Int32) (h10 : Hp), GF K eI h10 98 [none, none, none, some (.int v3), none] [.int s9, .ref 117] (j11 s9 h10)) ?_ (fun j11 kj11 => ?_)
    · intro s9 h10
      refine gf_callV (ε2 := eI) C [.int s9] dX12_number_98 mw_X12_want ml_X12_121 s_117 (fun rZ hZ eZ => ok_X12_want s9 h10 rZ hZ eZ) rfl rfl rfl (Nat.le_of_ble_eq_true rfl) (Nat.le_of_ble_eq_true rfl) (Nat.le_of_ble_eq_true rfl) (fun r12 h13 => ?_)
      refine gf_jn (fun (j16 : Int32 → Hp → Option (Int32 × Hp)) => ∀ (s14 : Int32) (h15 : Hp), GF K eI h15 109 [none, none, none, none, none] [.int s14] (j16 s14 h15)) ?_ (fun j16 kj16 => ?_)
      · intro s14 h15
        exact gf_iret C dX12_number_109 rfl
      refine gf_ifeq C 108 dX12_number_101 (by decide) (fun _ => ?_) (fun _ => ?_)
      · refine gf_iconst C dX12_number_108 ki_0 ?_
        exact gf_sub [none, none, none, none, none] trivial (kj16 (0 : Int32) h13)
      · refine gf_iload_n C dX12_number_104 rfl rfl ?_
        refine gf_goto C 109 dX12_number_105 (by decide) ?_
        exact gf_sub [none, none, none, none, none] trivial (kj16 v3 h13)
    refine gf_jn (fun (j18 : Hp → Option (Int32 × Hp)) => ∀ (h17 : Hp), GF K eI h17 97 [none, none, none, some (.int v3), none] [.ref 117] (j18 h17)) ?_ (fun j18 kj18 => ?_)
    · intro h17
      refine gf_iconst C dX12_number_97 ki_0 ?_
      exact gf_sub [none, none, none, some (.int v3), none] (And.intro rfl trivial) (kj11 (0 : Int32) h17)
    refine gf_icmpne C 97 dX12_number_65 (by decide) (fun _ => ?_) (fun _ => ?_)
    · refine gf_aload_n C dX12_number_68 rfl rfl (gf_getI C dX12_number_69 fl_X12_108 s_117 rfl 7493 rfl (gf_iconst C dX12_number_72 ki_2 ?_))
      refine gf_icmpne C 97 dX12_number_73 (by decide) (fun _ => ?_) (fun _ => ?_)
      · refine gf_aload_n C dX12_number_76 rfl rfl (gf_getI C dX12_number_77 fl_X12_101 s_117 rfl 7492 rfl (gf_iconst C dX12_number_80 ki_3 ?_))
        refine gf_icmpgt C 97 dX12_number_81 (by decide) (fun _ => ?_) (fun _ => ?_)
        · exact gf_sub [none, none, none, some (.int v3), none] (And.intro rfl trivial) (kj18 h7)
        · refine gf_iload_n C dX12_number_84 rfl rfl (gf_iload_n C dX12_number_85 rfl rfl (gf_iload_n C dX12_number_86 rfl rfl ?_))
          refine gf_callS (ε2 := eI) C [.int v3, .int a1, .int a2] dX12_number_87 mw_X12_within ml_X12_88 (fun rZ hZ eZ => ok_X12_within v3 a1 a2 h7 rZ hZ eZ) rfl rfl rfl (Nat.le_of_ble_eq_true rfl) (Nat.le_of_ble_eq_true rfl) (Nat.le_of_ble_eq_true rfl) (fun r19 h20 => ?_)
          refine gf_ifeq C 97 dX12_number_90 (by decide) (fun _ => ?_) (fun _ => ?_)
          · exact gf_sub [none, none, none, some (.int v3), none] (And.intro rfl trivial) (kj18 h20)
          · refine gf_iconst C dX12_number_93 ki_1 ?_
            refine gf_goto C 98 dX12_number_94 (by decide) ?_
            exact gf_sub [none, none, none, some (.int v3), none] (And.intro rfl trivial) (kj11 (1 : Int32) h20)
      · exact gf_sub [none, none, none, some (.int v3), none] (And.intro rfl trivial) (kj18 h7)
    · exact gf_sub [none, none, none, some (.int v3), none] (And.intro rfl trivial) (kj18 h7)
  refine gf_icmpge C 59 dX12_number_23 (by decide) (fun _ => ?_) (fun _ => ?_)
  · refine gf_iload C dX12_number_26 rfl (gf_aload_n C dX12_number_28 rfl rfl (gf_getI C dX12_number_29 fl_X12_98 s_117 rfl 7491 rfl (gf_iconst C dX12_number_32 ki_3 (gf_iadd C dX12_number_33 ?_))))
    refine gf_icmpge C 59 dX12_number_34 (by decide) (fun _ => ?_) (fun _ => ?_)
    · refine gf_bipush C dX12_number_37 kb_10 (gf_iload_n C dX12_number_39 rfl rfl (gf_imul C dX12_number_40 (gf_aload_n C dX12_number_41 rfl rfl (gf_getR C dX12_number_42 fl_X12_7 s_117 rfl 118 rfl (gf_iload C dX12_number_45 rfl (gf_iald C dX12_number_47 s_118 (gf_iadd C dX12_number_48 ?_)))))))
      refine gf_bipush C dX12_number_49 kb_48 (gf_isub C dX12_number_51 ?_)
      refine gf_jlI (fun x21 => ?_)
      refine gf_istore_n C dX12_number_52 rfl [some (.ref 117), some (.int a1), some (.int a2), some (.int x21), some (.int v4)] rfl rfl (Nat.le_of_ble_eq_true rfl) (gf_iinc C dX12_number_53 rfl (ii_1 _) [some (.ref 117), some (.int a1), some (.int a2), some (.int x21), some (.int (v4 + (1 : Int32)))] rfl rfl ?_)
      refine gf_goto C 12 dX12_number_56 (by decide) ?_
      exact gf_sub [some (.ref 117), some (.int a1), some (.int a2), some (.int x21), some (.int (v4 + (1 : Int32)))] (And.intro rfl (And.intro rfl (And.intro rfl (And.intro rfl (And.intro rfl trivial))))) (kc6 x21 (v4 + (1 : Int32)) h5)
    · exact gf_sub [some (.ref 117), some (.int a1), some (.int a2), some (.int v3), none] (And.intro rfl (And.intro rfl (And.intro rfl (And.intro rfl trivial)))) (kj8 h5)
  · exact gf_sub [some (.ref 117), some (.int a1), some (.int a2), some (.int v3), none] (And.intro rfl (And.intro rfl (And.intro rfl (And.intro rfl trivial)))) (kj8 h5)
def F_X12_lay (a1 : Int32) (a2 : Int32) (a3 : Int32) (a4 : Int32) (a5 : Int32) (h : Hp) : Option (Unit × Hp) :=
  jn (fun (h1 : Hp) =>
  some ((), h1)) (fun j2 => if (sG h 7494) = (-1 : Int32) then (
  jl ((5 : Int32) * (sG h 7495)) (fun x3 => gd (inb x3 120) ( jl (aS h 119 x3.toNatClampNeg a1) (fun h4 => gd (inb (x3 + (1 : Int32)) 120) ( jl (aS h4 119 (x3 + (1 : Int32)).toNatClampNeg a2) (fun h5 => gd (inb (x3 + (2 : Int32)) 120) ( jl (aS h5 119 (x3 + (2 : Int32)).toNatClampNeg a3) (fun h6 => gd (inb (x3 + (3 : Int32)) 120) ( jl (aS h6 119 (x3 + (3 : Int32)).toNatClampNeg a4) (fun h7 => gd (inb (x3 + (4 : Int32)) 120) ( jl (aS h7 119 (x3 + (4 : Int32)).toNatClampNeg a5) (fun h8 => j2 h8)))))))))))) else (
  j2 h))
set_option maxRecDepth 100000 in
set_option maxHeartbeats 4000000 in
theorem ok_X12_lay (a1 : Int32) (a2 : Int32) (a3 : Int32) (a4 : Int32) (a5 : Int32) (h : Hp) (rZ : Unit) (hZ : Hp) (eZ : F_X12_lay a1 a2 a3 a4 a5 h = some (rZ, hZ)) : AC yX12_lay cX12_lay 7 (none) 0 0 [.ref 117, .int a1, .int a2, .int a3, .int a4, .int a5] h (eV rZ) hZ := by
  refine AC_intro (o := F_X12_lay a1 a2 a3 a4 a5 h) RX12 rfl (plainFor_of_name (by decide)) [some (.ref 117), some (.int a1), some (.int a2), some (.int a3), some (.int a4), some (.int a5), none] rfl (fun _ => rfl) (fun _ => Nat.le_of_ble_eq_true rfl) eZ (fun K C => ?_)
  unfold F_X12_lay
  refine gf_aload_n C dX12_lay_0 rfl rfl (gf_getI C dX12_lay_1 fl_X12_111 s_117 rfl 7494 rfl (gf_iconst C dX12_lay_4 ki_m1 ?_))
  refine gf_jn (fun (j2 : Hp → Option (Unit × Hp)) => ∀ (h1 : Hp), GF K eV h1 66 [none, none, none, none, none, none, none] [] (j2 h1)) ?_ (fun j2 kj2 => ?_)
  · intro h1
    exact gf_vret C dX12_lay_66 rfl
  refine gf_icmpne C 66 dX12_lay_5 (by decide) (fun _ => ?_) (fun _ => ?_)
  · refine gf_iconst C dX12_lay_8 ki_5 (gf_aload_n C dX12_lay_9 rfl rfl (gf_getI C dX12_lay_10 fl_X12_125 s_117 rfl 7495 rfl (gf_imul C dX12_lay_13 ?_)))
    refine gf_jlI (fun x3 => ?_)
    refine gf_istore C dX12_lay_14 [some (.ref 117), some (.int a1), some (.int a2), some (.int a3), some (.int a4), some (.int a5), some (.int x3)] rfl rfl (Nat.le_of_ble_eq_true rfl) (gf_aload_n C dX12_lay_16 rfl rfl (gf_getR C dX12_lay_17 fl_X12_13 s_117 rfl 119 rfl (gf_iload C dX12_lay_20 rfl (gf_iload_n C dX12_lay_22 rfl rfl (gf_iast C dX12_lay_23 s_119 ?_)))))
    refine gf_jlH (fun h4 => ?_)
    refine gf_aload_n C dX12_lay_24 rfl rfl (gf_getR C dX12_lay_25 fl_X12_13 s_117 rfl 119 rfl (gf_iload C dX12_lay_28 rfl (gf_iconst C dX12_lay_30 ki_1 (gf_iadd C dX12_lay_31 (gf_iload_n C dX12_lay_32 rfl rfl (gf_iast C dX12_lay_33 s_119 ?_))))))
    refine gf_jlH (fun h5 => ?_)
    refine gf_aload_n C dX12_lay_34 rfl rfl (gf_getR C dX12_lay_35 fl_X12_13 s_117 rfl 119 rfl (gf_iload C dX12_lay_38 rfl (gf_iconst C dX12_lay_40 ki_2 (gf_iadd C dX12_lay_41 (gf_iload_n C dX12_lay_42 rfl rfl (gf_iast C dX12_lay_43 s_119 ?_))))))
    refine gf_jlH (fun h6 => ?_)
    refine gf_aload_n C dX12_lay_44 rfl rfl (gf_getR C dX12_lay_45 fl_X12_13 s_117 rfl 119 rfl (gf_iload C dX12_lay_48 rfl (gf_iconst C dX12_lay_50 ki_3 (gf_iadd C dX12_lay_51 (gf_iload C dX12_lay_52 rfl (gf_iast C dX12_lay_54 s_119 ?_))))))
    refine gf_jlH (fun h7 => ?_)
    refine gf_aload_n C dX12_lay_55 rfl rfl (gf_getR C dX12_lay_56 fl_X12_13 s_117 rfl 119 rfl (gf_iload C dX12_lay_59 rfl (gf_iconst C dX12_lay_61 ki_4 (gf_iadd C dX12_lay_62 (gf_iload C dX12_lay_63 rfl (gf_iast C dX12_lay_65 s_119 ?_))))))
    refine gf_jlH (fun h8 => ?_)
    exact gf_sub [none, none, none, none, none, none, none] trivial (kj2 h8)
  · exact gf_sub [none, none, none, none, none, none, none] trivial (kj2 h)
def F_X12_readSun (h : Hp) : Option (Unit × Hp) :=
  bd (F_X12_number (18 : Int32) (30 : Int32) h) (fun r1 h2 => bd (F_X12_number (1 : Int32) (9 : Int32) h2) (fun r3 h4 => bd (F_X12_number (1 : Int32) (40 : Int32) h4) (fun r5 h6 => bd (F_X12_lay (1 : Int32) r1 r3 r5 (0 : Int32) h6) (fun _ h7 => some ((), h7)))))
set_option maxRecDepth 100000 in
set_option maxHeartbeats 4000000 in
theorem ok_X12_readSun (h : Hp) (rZ : Unit) (hZ : Hp) (eZ : F_X12_readSun h = some (rZ, hZ)) : AC yX12_readSun cX12_readSun 3 (none) 4 86 [.ref 117] h (eV rZ) hZ := by
  refine AC_intro (o := F_X12_readSun h) RX12 rfl (plainFor_of_name (by decide)) [some (.ref 117), none, none] rfl (fun _ => rfl) (fun _ => Nat.le_of_ble_eq_true rfl) eZ (fun K C => ?_)
  unfold F_X12_readSun
  refine gf_aload_n C dX12_readSun_0 rfl rfl (gf_bipush C dX12_readSun_1 kb_18 (gf_bipush C dX12_readSun_3 kb_30 ?_))
  refine gf_callV (ε2 := eI) C [.int (18 : Int32), .int (30 : Int32)] dX12_readSun_5 mw_X12_number ml_X12_128 s_117 (fun rZ hZ eZ => ok_X12_number (18 : Int32) (30 : Int32) h rZ hZ eZ) rfl rfl rfl (Nat.le_of_ble_eq_true rfl) (Nat.le_of_ble_eq_true rfl) (Nat.le_of_ble_eq_true rfl) (fun r1 h2 => ?_)
  refine gf_istore_n C dX12_readSun_8 rfl [some (.ref 117), some (.int r1), none] rfl rfl (Nat.le_of_ble_eq_true rfl) (gf_aload_n C dX12_readSun_9 rfl rfl (gf_iconst C dX12_readSun_10 ki_1 (gf_bipush C dX12_readSun_11 kb_9 ?_)))
  refine gf_callV (ε2 := eI) C [.int (1 : Int32), .int (9 : Int32)] dX12_readSun_13 mw_X12_number ml_X12_128 s_117 (fun rZ hZ eZ => ok_X12_number (1 : Int32) (9 : Int32) h2 rZ hZ eZ) rfl rfl rfl (Nat.le_of_ble_eq_true rfl) (Nat.le_of_ble_eq_true rfl) (Nat.le_of_ble_eq_true rfl) (fun r3 h4 => ?_)
  refine gf_istore_n C dX12_readSun_16 rfl [some (.ref 117), some (.int r1), some (.int r3)] rfl rfl (Nat.le_of_ble_eq_true rfl) (gf_aload_n C dX12_readSun_17 rfl rfl (gf_iconst C dX12_readSun_18 ki_1 (gf_iload_n C dX12_readSun_19 rfl rfl (gf_iload_n C dX12_readSun_20 rfl rfl (gf_aload_n C dX12_readSun_21 rfl rfl (gf_iconst C dX12_readSun_22 ki_1 (gf_bipush C dX12_readSun_23 kb_40 ?_)))))))
  refine gf_callV (ε2 := eI) C [.int (1 : Int32), .int (40 : Int32)] dX12_readSun_25 mw_X12_number ml_X12_128 s_117 (fun rZ hZ eZ => ok_X12_number (1 : Int32) (40 : Int32) h4 rZ hZ eZ) rfl rfl rfl (Nat.le_of_ble_eq_true rfl) (Nat.le_of_ble_eq_true rfl) (Nat.le_of_ble_eq_true rfl) (fun r5 h6 => ?_)
  refine gf_iconst C dX12_readSun_28 ki_0 ?_
  refine gf_callV (ε2 := eV) C [.int (1 : Int32), .int r1, .int r3, .int r5, .int (0 : Int32)] dX12_readSun_29 mw_X12_lay ml_X12_132 s_117 (fun rZ hZ eZ => ok_X12_lay (1 : Int32) r1 r3 r5 (0 : Int32) h6 rZ hZ eZ) rfl rfl rfl (Nat.le_of_ble_eq_true rfl) (Nat.le_of_ble_eq_true rfl) (Nat.le_of_ble_eq_true rfl) (fun _ h7 => ?_)
  exact gf_vret C dX12_readSun_32 rfl
def F_X12_readPicture (h : Hp) : Option (Unit × Hp) :=
  jn (fun (s1 : Int32) (h2 : Hp) =>
  bd (F_X12_want s1 h2) (fun r4 h5 => if r4 = 0 then (
  some ((), h5)) else (
  bd (F_X12_take h5) (fun _ h6 => jn (fun (s7 : Int32) (h8 : Hp) =>
  jn (fun (s10 : Int32) (h11 : Hp) =>
  (lp 4000000000 (fun (c16 : Int32 → Int32 → Hp → Option (Unit × Hp)) (v13 : Int32) (v14 : Int32) (h15 : Hp) =>
  if v14 < (sG h15 7497) then (
  jn (fun (s17 : Int32) (h18 : Hp) =>
  c16 s17 (v14 + (1 : Int32)) h18) (fun j19 => jn (fun (h20 : Hp) =>
  j19 (0 : Int32) h20) (fun j21 => if v13 = 0 then (
  j21 h15) else (
  gd (inb v14 7) ( if (aG h15 120 v14.toNatClampNeg) = s10 then (
  j21 h15) else (
  j19 (1 : Int32) h15)))))) else (
  bd (F_X12_want v13 h15) (fun r22 h23 => jn (fun (h24 : Hp) =>
  some ((), h24)) (fun j25 => if r22 = 0 then (
  j25 h23) else (
  gd (inb (sG h23 7497) 7) ( jl (aS h23 120 (sG h23 7497).toNatClampNeg s10) (fun h26 => jl (sS h26 7497 ((sG h26 7497) + (1 : Int32))) (fun h27 => bd (F_X12_lay (2 : Int32) s10 (0 : Int32) (0 : Int32) (0 : Int32) h27) (fun _ h28 => j25 h28))))))))) (fun _ _ _ => none)) s7 (0 : Int32) h11) (fun j12 => if s7 = 0 then (
  j12 (0 : Int32) h8) else (
  bd (F_X12_wordOf h8) (fun r29 h30 => j12 r29 h30)))) (fun j9 => jn (fun (h31 : Hp) =>
  j9 (0 : Int32) h31) (fun j32 => if (sG h6 7493) = (1 : Int32) then (
  if (5 : Int32) < (sG h6 7492) then (
  j32 h6) else (
  j9 (1 : Int32) h6)) else (
  j32 h6))))))) (fun j3 => if (sG h 7497) < (7 : Int32) then (
  j3 (1 : Int32) h) else (
  j3 (0 : Int32) h))
set_option maxRecDepth 100000 in
set_option maxHeartbeats 4000000 in
theorem ok_X12_readPicture (h : Hp) (rZ : Unit) (hZ : Hp) (eZ : F_X12_readPicture h = some (rZ, hZ)) : AC yX12_readPicture cX12_readPicture 4 (none) 3 62 [.ref 117] h (eV rZ) hZ := by
  refine AC_intro (o := F_X12_readPicture h) RX12 rfl (plainFor_of_name (by decide)) [some (.ref 117), none, none, none] rfl (fun _ => rfl) (fun _ => Nat.le_of_ble_eq_true rfl) eZ (fun K C => ?_)
  unfold F_X12_readPicture
  refine gf_aload_n C dX12_readPicture_0 rfl rfl (gf_aload_n C dX12_readPicture_1 rfl rfl (gf_getI C dX12_readPicture_2 fl_X12_136 s_117 rfl 7497 rfl (gf_bipush C dX12_readPicture_5 kb_7 ?_)))
  refine gf_jn (fun (j3 : Int32 → Hp → Option (Unit × Hp)) => ∀ (s1 : Int32) (h2 : Hp), GF K eV h2 15 [some (.ref 117), none, none, none] [.int s1, .ref 117] (j3 s1 h2)) ?_ (fun j3 kj3 => ?_)
  · intro s1 h2
    refine gf_callV (ε2 := eI) C [.int s1] dX12_readPicture_15 mw_X12_want ml_X12_121 s_117 (fun rZ hZ eZ => ok_X12_want s1 h2 rZ hZ eZ) rfl rfl rfl (Nat.le_of_ble_eq_true rfl) (Nat.le_of_ble_eq_true rfl) (Nat.le_of_ble_eq_true rfl) (fun r4 h5 => ?_)
    refine gf_ifne C 22 dX12_readPicture_18 (by decide) (fun _ => ?_) (fun _ => ?_)
    · exact gf_vret C dX12_readPicture_21 rfl
    · refine gf_aload_n C dX12_readPicture_22 rfl rfl ?_
      refine gf_callV (ε2 := eV) C [] dX12_readPicture_23 mw_X12_take ml_X12_118 s_117 (fun rZ hZ eZ => ok_X12_take  h5 rZ hZ eZ) rfl rfl rfl (Nat.le_of_ble_eq_true rfl) (Nat.le_of_ble_eq_true rfl) (Nat.le_of_ble_eq_true rfl) (fun _ h6 => ?_)
      refine gf_aload_n C dX12_readPicture_26 rfl rfl (gf_getI C dX12_readPicture_27 fl_X12_108 s_117 rfl 7493 rfl (gf_iconst C dX12_readPicture_30 ki_1 ?_))
      refine gf_jn (fun (j9 : Int32 → Hp → Option (Unit × Hp)) => ∀ (s7 : Int32) (h8 : Hp), GF K eV h8 47 [some (.ref 117), none, none, none] [.int s7] (j9 s7 h8)) ?_ (fun j9 kj9 => ?_)
      · intro s7 h8
        refine gf_istore_n C dX12_readPicture_47 rfl [some (.ref 117), some (.int s7), none, none] rfl rfl (Nat.le_of_ble_eq_true rfl) (gf_iload_n C dX12_readPicture_48 rfl rfl ?_)
        refine gf_jn (fun (j12 : Int32 → Hp → Option (Unit × Hp)) => ∀ (s10 : Int32) (h11 : Hp), GF K eV h11 60 [some (.ref 117), some (.int s7), none, none] [.int s10] (j12 s10 h11)) ?_ (fun j12 kj12 => ?_)
        · intro s10 h11
          refine gf_istore_n C dX12_readPicture_60 rfl [some (.ref 117), some (.int s7), some (.int s10), none] rfl rfl (Nat.le_of_ble_eq_true rfl) (gf_iconst C dX12_readPicture_61 ki_0 (gf_istore_n C dX12_readPicture_62 rfl [some (.ref 117), some (.int s7), some (.int s10), some (.int (0 : Int32))] rfl rfl (Nat.le_of_ble_eq_true rfl) ?_))
          refine gf_sub [some (.ref 117), some (.int s7), some (.int s10), some (.int (0 : Int32))] (And.intro rfl (And.intro rfl (And.intro rfl (And.intro rfl trivial)))) ?_
          refine lp_P (fun (c16 : Int32 → Int32 → Hp → Option (Unit × Hp)) => ∀ (v13 : Int32) (v14 : Int32) (h15 : Hp), GF K eV h15 63 [some (.ref 117), some (.int v13), some (.int s10), some (.int v14)] [] (c16 v13 v14 h15)) (fun _ _ _ => gf_none) (fun c16 kc16 v13 v14 h15 => ?_) s7 (0 : Int32) h11
          refine gf_iload_n C dX12_readPicture_63 rfl rfl (gf_aload_n C dX12_readPicture_64 rfl rfl (gf_getI C dX12_readPicture_65 fl_X12_136 s_117 rfl 7497 rfl ?_))
          refine gf_icmpge C 97 dX12_readPicture_68 (by decide) (fun _ => ?_) (fun _ => ?_)
          · refine gf_iload_n C dX12_readPicture_71 rfl rfl ?_
            refine gf_jn (fun (j19 : Int32 → Hp → Option (Unit × Hp)) => ∀ (s17 : Int32) (h18 : Hp), GF K eV h18 90 [some (.ref 117), none, some (.int s10), some (.int v14)] [.int s17] (j19 s17 h18)) ?_ (fun j19 kj19 => ?_)
            · intro s17 h18
              refine gf_istore_n C dX12_readPicture_90 rfl [some (.ref 117), some (.int s17), some (.int s10), some (.int v14)] rfl rfl (Nat.le_of_ble_eq_true rfl) (gf_iinc C dX12_readPicture_91 rfl (ii_1 _) [some (.ref 117), some (.int s17), some (.int s10), some (.int (v14 + (1 : Int32)))] rfl rfl ?_)
              refine gf_goto C 63 dX12_readPicture_94 (by decide) ?_
              exact gf_sub [some (.ref 117), some (.int s17), some (.int s10), some (.int (v14 + (1 : Int32)))] (And.intro rfl (And.intro rfl (And.intro rfl (And.intro rfl trivial)))) (kc16 s17 (v14 + (1 : Int32)) h18)
            refine gf_jn (fun (j21 : Hp → Option (Unit × Hp)) => ∀ (h20 : Hp), GF K eV h20 89 [some (.ref 117), none, some (.int s10), some (.int v14)] [] (j21 h20)) ?_ (fun j21 kj21 => ?_)
            · intro h20
              refine gf_iconst C dX12_readPicture_89 ki_0 ?_
              exact gf_sub [some (.ref 117), none, some (.int s10), some (.int v14)] (And.intro rfl (And.intro rfl (And.intro rfl trivial))) (kj19 (0 : Int32) h20)
            refine gf_ifeq C 89 dX12_readPicture_72 (by decide) (fun _ => ?_) (fun _ => ?_)
            · exact gf_sub [some (.ref 117), none, some (.int s10), some (.int v14)] (And.intro rfl (And.intro rfl (And.intro rfl trivial))) (kj21 h15)
            · refine gf_aload_n C dX12_readPicture_75 rfl rfl (gf_getR C dX12_readPicture_76 fl_X12_16 s_117 rfl 120 rfl (gf_iload_n C dX12_readPicture_79 rfl rfl (gf_iald C dX12_readPicture_80 s_120 (gf_iload_n C dX12_readPicture_81 rfl rfl ?_))))
              refine gf_icmpeq C 89 dX12_readPicture_82 (by decide) (fun _ => ?_) (fun _ => ?_)
              · exact gf_sub [some (.ref 117), none, some (.int s10), some (.int v14)] (And.intro rfl (And.intro rfl (And.intro rfl trivial))) (kj21 h15)
              · refine gf_iconst C dX12_readPicture_85 ki_1 ?_
                refine gf_goto C 90 dX12_readPicture_86 (by decide) ?_
                exact gf_sub [some (.ref 117), none, some (.int s10), some (.int v14)] (And.intro rfl (And.intro rfl (And.intro rfl trivial))) (kj19 (1 : Int32) h15)
          · refine gf_aload_n C dX12_readPicture_97 rfl rfl (gf_iload_n C dX12_readPicture_98 rfl rfl ?_)
            refine gf_callV (ε2 := eI) C [.int v13] dX12_readPicture_99 mw_X12_want ml_X12_121 s_117 (fun rZ hZ eZ => ok_X12_want v13 h15 rZ hZ eZ) rfl rfl rfl (Nat.le_of_ble_eq_true rfl) (Nat.le_of_ble_eq_true rfl) (Nat.le_of_ble_eq_true rfl) (fun r22 h23 => ?_)
            refine gf_jn (fun (j25 : Hp → Option (Unit × Hp)) => ∀ (h24 : Hp), GF K eV h24 134 [none, none, none, none] [] (j25 h24)) ?_ (fun j25 kj25 => ?_)
            · intro h24
              exact gf_vret C dX12_readPicture_134 rfl
            refine gf_ifeq C 134 dX12_readPicture_102 (by decide) (fun _ => ?_) (fun _ => ?_)
            · exact gf_sub [none, none, none, none] trivial (kj25 h23)
            · refine gf_aload_n C dX12_readPicture_105 rfl rfl (gf_getR C dX12_readPicture_106 fl_X12_16 s_117 rfl 120 rfl (gf_aload_n C dX12_readPicture_109 rfl rfl (gf_getI C dX12_readPicture_110 fl_X12_136 s_117 rfl 7497 rfl (gf_iload_n C dX12_readPicture_113 rfl rfl (gf_iast C dX12_readPicture_114 s_120 ?_)))))
              refine gf_jlH (fun h26 => ?_)
              refine gf_aload_n C dX12_readPicture_115 rfl rfl (gf_dup C dX12_readPicture_116 rfl (gf_getI C dX12_readPicture_117 fl_X12_136 s_117 rfl 7497 rfl (gf_iconst C dX12_readPicture_120 ki_1 (gf_iadd C dX12_readPicture_121 (gf_putI C dX12_readPicture_122 fp_X12_136 s_117 rfl 7497 rfl ?_)))))
              refine gf_jlH (fun h27 => ?_)
              refine gf_aload_n C dX12_readPicture_125 rfl rfl (gf_iconst C dX12_readPicture_126 ki_2 (gf_iload_n C dX12_readPicture_127 rfl rfl (gf_iconst C dX12_readPicture_128 ki_0 (gf_iconst C dX12_readPicture_129 ki_0 (gf_iconst C dX12_readPicture_130 ki_0 ?_)))))
              refine gf_callV (ε2 := eV) C [.int (2 : Int32), .int s10, .int (0 : Int32), .int (0 : Int32), .int (0 : Int32)] dX12_readPicture_131 mw_X12_lay ml_X12_132 s_117 (fun rZ hZ eZ => ok_X12_lay (2 : Int32) s10 (0 : Int32) (0 : Int32) (0 : Int32) h27 rZ hZ eZ) rfl rfl rfl (Nat.le_of_ble_eq_true rfl) (Nat.le_of_ble_eq_true rfl) (Nat.le_of_ble_eq_true rfl) (fun _ h28 => ?_)
              exact gf_sub [none, none, none, none] trivial (kj25 h28)
        refine gf_ifeq C 59 dX12_readPicture_49 (by decide) (fun _ => ?_) (fun _ => ?_)
        · refine gf_iconst C dX12_readPicture_59 ki_0 ?_
          exact gf_sub [some (.ref 117), some (.int s7), none, none] (And.intro rfl (And.intro rfl trivial)) (kj12 (0 : Int32) h8)
        · refine gf_aload_n C dX12_readPicture_52 rfl rfl ?_
          refine gf_callV (ε2 := eI) C [] dX12_readPicture_53 mw_X12_wordOf ml_X12_139 s_117 (fun rZ hZ eZ => ok_X12_wordOf  h8 rZ hZ eZ) rfl rfl rfl (Nat.le_of_ble_eq_true rfl) (Nat.le_of_ble_eq_true rfl) (Nat.le_of_ble_eq_true rfl) (fun r29 h30 => ?_)
          refine gf_goto C 60 dX12_readPicture_56 (by decide) ?_
          exact gf_sub [some (.ref 117), some (.int s7), none, none] (And.intro rfl (And.intro rfl trivial)) (kj12 r29 h30)
      refine gf_jn (fun (j32 : Hp → Option (Unit × Hp)) => ∀ (h31 : Hp), GF K eV h31 46 [some (.ref 117), none, none, none] [] (j32 h31)) ?_ (fun j32 kj32 => ?_)
      · intro h31
        refine gf_iconst C dX12_readPicture_46 ki_0 ?_
        exact gf_sub [some (.ref 117), none, none, none] (And.intro rfl trivial) (kj9 (0 : Int32) h31)
      refine gf_icmpne C 46 dX12_readPicture_31 (by decide) (fun _ => ?_) (fun _ => ?_)
      · refine gf_aload_n C dX12_readPicture_34 rfl rfl (gf_getI C dX12_readPicture_35 fl_X12_101 s_117 rfl 7492 rfl (gf_iconst C dX12_readPicture_38 ki_5 ?_))
        refine gf_icmpgt C 46 dX12_readPicture_39 (by decide) (fun _ => ?_) (fun _ => ?_)
        · exact gf_sub [some (.ref 117), none, none, none] (And.intro rfl trivial) (kj32 h6)
        · refine gf_iconst C dX12_readPicture_42 ki_1 ?_
          refine gf_goto C 47 dX12_readPicture_43 (by decide) ?_
          exact gf_sub [some (.ref 117), none, none, none] (And.intro rfl trivial) (kj9 (1 : Int32) h6)
      · exact gf_sub [some (.ref 117), none, none, none] (And.intro rfl trivial) (kj32 h6)
  refine gf_icmpge C 14 dX12_readPicture_7 (by decide) (fun _ => ?_) (fun _ => ?_)
  · refine gf_iconst C dX12_readPicture_10 ki_1 ?_
    refine gf_goto C 15 dX12_readPicture_11 (by decide) ?_
    exact gf_sub [some (.ref 117), none, none, none] (And.intro rfl trivial) (kj3 (1 : Int32) h)
  · refine gf_iconst C dX12_readPicture_14 ki_0 ?_
    exact gf_sub [some (.ref 117), none, none, none] (And.intro rfl trivial) (kj3 (0 : Int32) h)
def F_X12_readThing (h : Hp) : Option (Unit × Hp) :=
  jn (fun (s1 : Int32) (h2 : Hp) =>
  bd (F_X12_want s1 h2) (fun r4 h5 => if r4 = 0 then (
  some ((), h5)) else (
  bd (F_X12_take h5) (fun _ h6 => bd (F_X12_isWord (99 : Int32) (111 : Int32) (109 : Int32) (101 : Int32) (115 : Int32) (0 : Int32) (0 : Int32) h6) (fun r7 h8 => jn (fun (s9 : Int32) (h10 : Hp) =>
  jn (fun (s12 : Int32) (h13 : Hp) =>
  bd (F_X12_want s12 h13) (fun r15 h16 => jn (fun (h17 : Hp) =>
  some ((), h17)) (fun j18 => if r15 = 0 then (
  j18 h16) else (
  gd (inb (sG h16 7498) 6) ( jl (aS h16 121 (sG h16 7498).toNatClampNeg s9) (fun h19 => jl (sS h19 7498 ((sG h19 7498) + (1 : Int32))) (fun h20 => bd (F_X12_lay (3 : Int32) s9 (0 : Int32) (0 : Int32) (0 : Int32) h20) (fun _ h21 => j18 h21)))))))) (fun j14 => if s9 = (-1 : Int32) then (
  j14 (0 : Int32) h10) else (
  j14 (1 : Int32) h10))) (fun j11 => if r7 = 0 then (
  bd (F_X12_isWord (103 : Int32) (111 : Int32) (101 : Int32) (115 : Int32) (0 : Int32) (0 : Int32) (0 : Int32) h8) (fun r22 h23 => if r22 = 0 then (
  bd (F_X12_isWord (112 : Int32) (97 : Int32) (115 : Int32) (115 : Int32) (101 : Int32) (115 : Int32) (0 : Int32) h23) (fun r24 h25 => if r24 = 0 then (
  bd (F_X12_isWord (119 : Int32) (101 : Int32) (97 : Int32) (114 : Int32) (115 : Int32) (0 : Int32) (0 : Int32) h25) (fun r26 h27 => if r26 = 0 then (
  j11 (-1 : Int32) h27) else (
  j11 (3 : Int32) h27))) else (
  j11 (2 : Int32) h25))) else (
  j11 (1 : Int32) h23))) else (
  j11 (0 : Int32) h8))))))) (fun j3 => if (sG h 7498) < (6 : Int32) then (
  j3 (1 : Int32) h) else (
  j3 (0 : Int32) h))
set_option maxRecDepth 100000 in
set_option maxHeartbeats 4000000 in
theorem ok_X12_readThing (h : Hp) (rZ : Unit) (hZ : Hp) (eZ : F_X12_readThing h = some (rZ, hZ)) : AC yX12_readThing cX12_readThing 2 (none) 3 62 [.ref 117] h (eV rZ) hZ := by
  refine AC_intro (o := F_X12_readThing h) RX12 rfl (plainFor_of_name (by decide)) [some (.ref 117), none] rfl (fun _ => rfl) (fun _ => Nat.le_of_ble_eq_true rfl) eZ (fun K C => ?_)
  unfold F_X12_readThing
  refine gf_aload_n C dX12_readThing_0 rfl rfl (gf_aload_n C dX12_readThing_1 rfl rfl (gf_getI C dX12_readThing_2 fl_X12_143 s_117 rfl 7498 rfl (gf_bipush C dX12_readThing_5 kb_6 ?_)))
  refine gf_jn (fun (j3 : Int32 → Hp → Option (Unit × Hp)) => ∀ (s1 : Int32) (h2 : Hp), GF K eV h2 15 [some (.ref 117), none] [.int s1, .ref 117] (j3 s1 h2)) ?_ (fun j3 kj3 => ?_)
  · intro s1 h2
    refine gf_callV (ε2 := eI) C [.int s1] dX12_readThing_15 mw_X12_want ml_X12_121 s_117 (fun rZ hZ eZ => ok_X12_want s1 h2 rZ hZ eZ) rfl rfl rfl (Nat.le_of_ble_eq_true rfl) (Nat.le_of_ble_eq_true rfl) (Nat.le_of_ble_eq_true rfl) (fun r4 h5 => ?_)
    refine gf_ifne C 22 dX12_readThing_18 (by decide) (fun _ => ?_) (fun _ => ?_)
    · exact gf_vret C dX12_readThing_21 rfl
    · refine gf_aload_n C dX12_readThing_22 rfl rfl ?_
      refine gf_callV (ε2 := eV) C [] dX12_readThing_23 mw_X12_take ml_X12_118 s_117 (fun rZ hZ eZ => ok_X12_take  h5 rZ hZ eZ) rfl rfl rfl (Nat.le_of_ble_eq_true rfl) (Nat.le_of_ble_eq_true rfl) (Nat.le_of_ble_eq_true rfl) (fun _ h6 => ?_)
      refine gf_aload_n C dX12_readThing_26 rfl rfl (gf_bipush C dX12_readThing_27 kb_99 (gf_bipush C dX12_readThing_29 kb_111 (gf_bipush C dX12_readThing_31 kb_109 (gf_bipush C dX12_readThing_33 kb_101 (gf_bipush C dX12_readThing_35 kb_115 (gf_iconst C dX12_readThing_37 ki_0 (gf_iconst C dX12_readThing_38 ki_0 ?_)))))))
      refine gf_callV (ε2 := eI) C [.int (99 : Int32), .int (111 : Int32), .int (109 : Int32), .int (101 : Int32), .int (115 : Int32), .int (0 : Int32), .int (0 : Int32)] dX12_readThing_39 mw_X12_isWord ml_X12_146 s_117 (fun rZ hZ eZ => ok_X12_isWord (99 : Int32) (111 : Int32) (109 : Int32) (101 : Int32) (115 : Int32) (0 : Int32) (0 : Int32) h6 rZ hZ eZ) rfl rfl rfl (Nat.le_of_ble_eq_true rfl) (Nat.le_of_ble_eq_true rfl) (Nat.le_of_ble_eq_true rfl) (fun r7 h8 => ?_)
      refine gf_jn (fun (j11 : Int32 → Hp → Option (Unit × Hp)) => ∀ (s9 : Int32) (h10 : Hp), GF K eV h10 119 [some (.ref 117), none] [.int s9] (j11 s9 h10)) ?_ (fun j11 kj11 => ?_)
      · intro s9 h10
        refine gf_istore_n C dX12_readThing_119 rfl [some (.ref 117), some (.int s9)] rfl rfl (Nat.le_of_ble_eq_true rfl) (gf_aload_n C dX12_readThing_120 rfl rfl (gf_iload_n C dX12_readThing_121 rfl rfl (gf_iconst C dX12_readThing_122 ki_m1 ?_)))
        refine gf_jn (fun (j14 : Int32 → Hp → Option (Unit × Hp)) => ∀ (s12 : Int32) (h13 : Hp), GF K eV h13 131 [some (.ref 117), some (.int s9)] [.int s12, .ref 117] (j14 s12 h13)) ?_ (fun j14 kj14 => ?_)
        · intro s12 h13
          refine gf_callV (ε2 := eI) C [.int s12] dX12_readThing_131 mw_X12_want ml_X12_121 s_117 (fun rZ hZ eZ => ok_X12_want s12 h13 rZ hZ eZ) rfl rfl rfl (Nat.le_of_ble_eq_true rfl) (Nat.le_of_ble_eq_true rfl) (Nat.le_of_ble_eq_true rfl) (fun r15 h16 => ?_)
          refine gf_jn (fun (j18 : Hp → Option (Unit × Hp)) => ∀ (h17 : Hp), GF K eV h17 166 [none, none] [] (j18 h17)) ?_ (fun j18 kj18 => ?_)
          · intro h17
            exact gf_vret C dX12_readThing_166 rfl
          refine gf_ifeq C 166 dX12_readThing_134 (by decide) (fun _ => ?_) (fun _ => ?_)
          · exact gf_sub [none, none] trivial (kj18 h16)
          · refine gf_aload_n C dX12_readThing_137 rfl rfl (gf_getR C dX12_readThing_138 fl_X12_19 s_117 rfl 121 rfl (gf_aload_n C dX12_readThing_141 rfl rfl (gf_getI C dX12_readThing_142 fl_X12_143 s_117 rfl 7498 rfl (gf_iload_n C dX12_readThing_145 rfl rfl (gf_iast C dX12_readThing_146 s_121 ?_)))))
            refine gf_jlH (fun h19 => ?_)
            refine gf_aload_n C dX12_readThing_147 rfl rfl (gf_dup C dX12_readThing_148 rfl (gf_getI C dX12_readThing_149 fl_X12_143 s_117 rfl 7498 rfl (gf_iconst C dX12_readThing_152 ki_1 (gf_iadd C dX12_readThing_153 (gf_putI C dX12_readThing_154 fp_X12_143 s_117 rfl 7498 rfl ?_)))))
            refine gf_jlH (fun h20 => ?_)
            refine gf_aload_n C dX12_readThing_157 rfl rfl (gf_iconst C dX12_readThing_158 ki_3 (gf_iload_n C dX12_readThing_159 rfl rfl (gf_iconst C dX12_readThing_160 ki_0 (gf_iconst C dX12_readThing_161 ki_0 (gf_iconst C dX12_readThing_162 ki_0 ?_)))))
            refine gf_callV (ε2 := eV) C [.int (3 : Int32), .int s9, .int (0 : Int32), .int (0 : Int32), .int (0 : Int32)] dX12_readThing_163 mw_X12_lay ml_X12_132 s_117 (fun rZ hZ eZ => ok_X12_lay (3 : Int32) s9 (0 : Int32) (0 : Int32) (0 : Int32) h20 rZ hZ eZ) rfl rfl rfl (Nat.le_of_ble_eq_true rfl) (Nat.le_of_ble_eq_true rfl) (Nat.le_of_ble_eq_true rfl) (fun _ h21 => ?_)
            exact gf_sub [none, none] trivial (kj18 h21)
        refine gf_icmpeq C 130 dX12_readThing_123 (by decide) (fun _ => ?_) (fun _ => ?_)
        · refine gf_iconst C dX12_readThing_130 ki_0 ?_
          exact gf_sub [some (.ref 117), some (.int s9)] (And.intro rfl (And.intro rfl trivial)) (kj14 (0 : Int32) h10)
        · refine gf_iconst C dX12_readThing_126 ki_1 ?_
          refine gf_goto C 131 dX12_readThing_127 (by decide) ?_
          exact gf_sub [some (.ref 117), some (.int s9)] (And.intro rfl (And.intro rfl trivial)) (kj14 (1 : Int32) h10)
      refine gf_ifeq C 49 dX12_readThing_42 (by decide) (fun _ => ?_) (fun _ => ?_)
      · refine gf_aload_n C dX12_readThing_49 rfl rfl (gf_bipush C dX12_readThing_50 kb_103 (gf_bipush C dX12_readThing_52 kb_111 (gf_bipush C dX12_readThing_54 kb_101 (gf_bipush C dX12_readThing_56 kb_115 (gf_iconst C dX12_readThing_58 ki_0 (gf_iconst C dX12_readThing_59 ki_0 (gf_iconst C dX12_readThing_60 ki_0 ?_)))))))
        refine gf_callV (ε2 := eI) C [.int (103 : Int32), .int (111 : Int32), .int (101 : Int32), .int (115 : Int32), .int (0 : Int32), .int (0 : Int32), .int (0 : Int32)] dX12_readThing_61 mw_X12_isWord ml_X12_146 s_117 (fun rZ hZ eZ => ok_X12_isWord (103 : Int32) (111 : Int32) (101 : Int32) (115 : Int32) (0 : Int32) (0 : Int32) (0 : Int32) h8 rZ hZ eZ) rfl rfl rfl (Nat.le_of_ble_eq_true rfl) (Nat.le_of_ble_eq_true rfl) (Nat.le_of_ble_eq_true rfl) (fun r22 h23 => ?_)
        refine gf_ifeq C 71 dX12_readThing_64 (by decide) (fun _ => ?_) (fun _ => ?_)
        · refine gf_aload_n C dX12_readThing_71 rfl rfl (gf_bipush C dX12_readThing_72 kb_112 (gf_bipush C dX12_readThing_74 kb_97 (gf_bipush C dX12_readThing_76 kb_115 (gf_bipush C dX12_readThing_78 kb_115 (gf_bipush C dX12_readThing_80 kb_101 (gf_bipush C dX12_readThing_82 kb_115 (gf_iconst C dX12_readThing_84 ki_0 ?_)))))))
          refine gf_callV (ε2 := eI) C [.int (112 : Int32), .int (97 : Int32), .int (115 : Int32), .int (115 : Int32), .int (101 : Int32), .int (115 : Int32), .int (0 : Int32)] dX12_readThing_85 mw_X12_isWord ml_X12_146 s_117 (fun rZ hZ eZ => ok_X12_isWord (112 : Int32) (97 : Int32) (115 : Int32) (115 : Int32) (101 : Int32) (115 : Int32) (0 : Int32) h23 rZ hZ eZ) rfl rfl rfl (Nat.le_of_ble_eq_true rfl) (Nat.le_of_ble_eq_true rfl) (Nat.le_of_ble_eq_true rfl) (fun r24 h25 => ?_)
          refine gf_ifeq C 95 dX12_readThing_88 (by decide) (fun _ => ?_) (fun _ => ?_)
          · refine gf_aload_n C dX12_readThing_95 rfl rfl (gf_bipush C dX12_readThing_96 kb_119 (gf_bipush C dX12_readThing_98 kb_101 (gf_bipush C dX12_readThing_100 kb_97 (gf_bipush C dX12_readThing_102 kb_114 (gf_bipush C dX12_readThing_104 kb_115 (gf_iconst C dX12_readThing_106 ki_0 (gf_iconst C dX12_readThing_107 ki_0 ?_)))))))
            refine gf_callV (ε2 := eI) C [.int (119 : Int32), .int (101 : Int32), .int (97 : Int32), .int (114 : Int32), .int (115 : Int32), .int (0 : Int32), .int (0 : Int32)] dX12_readThing_108 mw_X12_isWord ml_X12_146 s_117 (fun rZ hZ eZ => ok_X12_isWord (119 : Int32) (101 : Int32) (97 : Int32) (114 : Int32) (115 : Int32) (0 : Int32) (0 : Int32) h25 rZ hZ eZ) rfl rfl rfl (Nat.le_of_ble_eq_true rfl) (Nat.le_of_ble_eq_true rfl) (Nat.le_of_ble_eq_true rfl) (fun r26 h27 => ?_)
            refine gf_ifeq C 118 dX12_readThing_111 (by decide) (fun _ => ?_) (fun _ => ?_)
            · refine gf_iconst C dX12_readThing_118 ki_m1 ?_
              exact gf_sub [some (.ref 117), none] (And.intro rfl trivial) (kj11 (-1 : Int32) h27)
            · refine gf_iconst C dX12_readThing_114 ki_3 ?_
              refine gf_goto C 119 dX12_readThing_115 (by decide) ?_
              exact gf_sub [some (.ref 117), none] (And.intro rfl trivial) (kj11 (3 : Int32) h27)
          · refine gf_iconst C dX12_readThing_91 ki_2 ?_
            refine gf_goto C 119 dX12_readThing_92 (by decide) ?_
            exact gf_sub [some (.ref 117), none] (And.intro rfl trivial) (kj11 (2 : Int32) h25)
        · refine gf_iconst C dX12_readThing_67 ki_1 ?_
          refine gf_goto C 119 dX12_readThing_68 (by decide) ?_
          exact gf_sub [some (.ref 117), none] (And.intro rfl trivial) (kj11 (1 : Int32) h23)
      · refine gf_iconst C dX12_readThing_45 ki_0 ?_
        refine gf_goto C 119 dX12_readThing_46 (by decide) ?_
        exact gf_sub [some (.ref 117), none] (And.intro rfl trivial) (kj11 (0 : Int32) h8)
  refine gf_icmpge C 14 dX12_readThing_7 (by decide) (fun _ => ?_) (fun _ => ?_)
  · refine gf_iconst C dX12_readThing_10 ki_1 ?_
    refine gf_goto C 15 dX12_readThing_11 (by decide) ?_
    exact gf_sub [some (.ref 117), none] (And.intro rfl trivial) (kj3 (1 : Int32) h)
  · refine gf_iconst C dX12_readThing_14 ki_0 ?_
    exact gf_sub [some (.ref 117), none] (And.intro rfl trivial) (kj3 (0 : Int32) h)
def F_X12_readPiece (a1 : Int32) (h : Hp) : Option (Unit × Hp) :=
  bd (F_X12_number (0 : Int32) ((sG h 7497) - (1 : Int32)) h) (fun r1 h2 => jn (fun (s3 : Int32) (h4 : Hp) =>
  bd (F_X12_number (0 : Int32) s3 h4) (fun r6 h7 => jn (fun (s8 : Int32) (h9 : Hp) =>
  bd (F_X12_number (0 : Int32) s8 h9) (fun r11 h12 => bd (F_X12_lay (4 : Int32) r1 a1 r6 r11 h12) (fun _ h13 => some ((), h13)))) (fun j10 => if a1 = 0 then (
  j10 (9 : Int32) h7) else (
  j10 (99 : Int32) h7)))) (fun j5 => if a1 = 0 then (
  j5 (24 : Int32) h2) else (
  j5 (999 : Int32) h2)))
set_option maxRecDepth 100000 in
set_option maxHeartbeats 4000000 in
theorem ok_X12_readPiece (a1 : Int32) (h : Hp) (rZ : Unit) (hZ : Hp) (eZ : F_X12_readPiece a1 h = some (rZ, hZ)) : AC yX12_readPiece cX12_readPiece 4 (none) 4 86 [.ref 117, .int a1] h (eV rZ) hZ := by
  refine AC_intro (o := F_X12_readPiece a1 h) RX12 rfl (plainFor_of_name (by decide)) [some (.ref 117), some (.int a1), none, none] rfl (fun _ => rfl) (fun _ => Nat.le_of_ble_eq_true rfl) eZ (fun K C => ?_)
  unfold F_X12_readPiece
  refine gf_aload_n C dX12_readPiece_0 rfl rfl (gf_iconst C dX12_readPiece_1 ki_0 (gf_aload_n C dX12_readPiece_2 rfl rfl (gf_getI C dX12_readPiece_3 fl_X12_136 s_117 rfl 7497 rfl (gf_iconst C dX12_readPiece_6 ki_1 (gf_isub C dX12_readPiece_7 ?_)))))
  refine gf_callV (ε2 := eI) C [.int (0 : Int32), .int ((sG h 7497) - (1 : Int32))] dX12_readPiece_8 mw_X12_number ml_X12_128 s_117 (fun rZ hZ eZ => ok_X12_number (0 : Int32) ((sG h 7497) - (1 : Int32)) h rZ hZ eZ) rfl rfl rfl (Nat.le_of_ble_eq_true rfl) (Nat.le_of_ble_eq_true rfl) (Nat.le_of_ble_eq_true rfl) (fun r1 h2 => ?_)
  refine gf_istore_n C dX12_readPiece_11 rfl [some (.ref 117), some (.int a1), some (.int r1), none] rfl rfl (Nat.le_of_ble_eq_true rfl) (gf_aload_n C dX12_readPiece_12 rfl rfl (gf_iconst C dX12_readPiece_13 ki_0 (gf_iload_n C dX12_readPiece_14 rfl rfl ?_)))
  refine gf_jn (fun (j5 : Int32 → Hp → Option (Unit × Hp)) => ∀ (s3 : Int32) (h4 : Hp), GF K eV h4 26 [some (.ref 117), some (.int a1), some (.int r1), none] [.int s3, .int (0 : Int32), .ref 117] (j5 s3 h4)) ?_ (fun j5 kj5 => ?_)
  · intro s3 h4
    refine gf_callV (ε2 := eI) C [.int (0 : Int32), .int s3] dX12_readPiece_26 mw_X12_number ml_X12_128 s_117 (fun rZ hZ eZ => ok_X12_number (0 : Int32) s3 h4 rZ hZ eZ) rfl rfl rfl (Nat.le_of_ble_eq_true rfl) (Nat.le_of_ble_eq_true rfl) (Nat.le_of_ble_eq_true rfl) (fun r6 h7 => ?_)
    refine gf_istore_n C dX12_readPiece_29 rfl [some (.ref 117), some (.int a1), some (.int r1), some (.int r6)] rfl rfl (Nat.le_of_ble_eq_true rfl) (gf_aload_n C dX12_readPiece_30 rfl rfl (gf_iconst C dX12_readPiece_31 ki_4 (gf_iload_n C dX12_readPiece_32 rfl rfl (gf_iload_n C dX12_readPiece_33 rfl rfl (gf_iload_n C dX12_readPiece_34 rfl rfl (gf_aload_n C dX12_readPiece_35 rfl rfl (gf_iconst C dX12_readPiece_36 ki_0 ?_)))))))
    refine gf_iload_n C dX12_readPiece_37 rfl rfl ?_
    refine gf_jn (fun (j10 : Int32 → Hp → Option (Unit × Hp)) => ∀ (s8 : Int32) (h9 : Hp), GF K eV h9 48 [none, none, none, none] [.int s8, .int (0 : Int32), .ref 117, .int r6, .int a1, .int r1, .int (4 : Int32), .ref 117] (j10 s8 h9)) ?_ (fun j10 kj10 => ?_)
    · intro s8 h9
      refine gf_callV (ε2 := eI) C [.int (0 : Int32), .int s8] dX12_readPiece_48 mw_X12_number ml_X12_128 s_117 (fun rZ hZ eZ => ok_X12_number (0 : Int32) s8 h9 rZ hZ eZ) rfl rfl rfl (Nat.le_of_ble_eq_true rfl) (Nat.le_of_ble_eq_true rfl) (Nat.le_of_ble_eq_true rfl) (fun r11 h12 => ?_)
      refine gf_callV (ε2 := eV) C [.int (4 : Int32), .int r1, .int a1, .int r6, .int r11] dX12_readPiece_51 mw_X12_lay ml_X12_132 s_117 (fun rZ hZ eZ => ok_X12_lay (4 : Int32) r1 a1 r6 r11 h12 rZ hZ eZ) rfl rfl rfl (Nat.le_of_ble_eq_true rfl) (Nat.le_of_ble_eq_true rfl) (Nat.le_of_ble_eq_true rfl) (fun _ h13 => ?_)
      exact gf_vret C dX12_readPiece_54 rfl
    refine gf_ifne C 46 dX12_readPiece_38 (by decide) (fun _ => ?_) (fun _ => ?_)
    · refine gf_bipush C dX12_readPiece_41 kb_9 ?_
      refine gf_goto C 48 dX12_readPiece_43 (by decide) ?_
      exact gf_sub [none, none, none, none] trivial (kj10 (9 : Int32) h7)
    · refine gf_bipush C dX12_readPiece_46 kb_99 ?_
      exact gf_sub [none, none, none, none] trivial (kj10 (99 : Int32) h7)
  refine gf_ifne C 23 dX12_readPiece_15 (by decide) (fun _ => ?_) (fun _ => ?_)
  · refine gf_bipush C dX12_readPiece_18 kb_24 ?_
    refine gf_goto C 26 dX12_readPiece_20 (by decide) ?_
    exact gf_sub [some (.ref 117), some (.int a1), some (.int r1), none] (And.intro rfl (And.intro rfl (And.intro rfl trivial))) (kj5 (24 : Int32) h2)
  · refine gf_sipush C dX12_readPiece_23 ks_999 ?_
    exact gf_sub [some (.ref 117), some (.int a1), some (.int r1), none] (And.intro rfl (And.intro rfl (And.intro rfl trivial))) (kj5 (999 : Int32) h2)
def F_X12_readSee (h : Hp) : Option (Unit × Hp) :=
  bd (F_X12_number (0 : Int32) ((sG h 7497) - (1 : Int32)) h) (fun r1 h2 => bd (F_X12_number (0 : Int32) ((sG h2 7498) - (1 : Int32)) h2) (fun r3 h4 => jn (fun (s5 : Int32) (h6 : Hp) =>
  bd (F_X12_number (0 : Int32) s5 h6) (fun r8 h9 => bd (F_X12_lay (4 : Int32) r1 ((2 : Int32) + r3) r8 (0 : Int32) h9) (fun _ h10 => some ((), h10)))) (fun j7 => jn (fun (h11 : Hp) =>
  j7 (1 : Int32) h11) (fun j12 => if (sG h4 7494) = (-1 : Int32) then (
  gd (inb r3 6) ( if (aG h4 121 r3.toNatClampNeg) = (3 : Int32) then (
  j7 (9 : Int32) h4) else (
  j12 h4))) else (
  j12 h4)))))
set_option maxRecDepth 100000 in
set_option maxHeartbeats 4000000 in
theorem ok_X12_readSee (h : Hp) (rZ : Unit) (hZ : Hp) (eZ : F_X12_readSee h = some (rZ, hZ)) : AC yX12_readSee cX12_readSee 4 (none) 4 86 [.ref 117] h (eV rZ) hZ := by
  refine AC_intro (o := F_X12_readSee h) RX12 rfl (plainFor_of_name (by decide)) [some (.ref 117), none, none, none] rfl (fun _ => rfl) (fun _ => Nat.le_of_ble_eq_true rfl) eZ (fun K C => ?_)
  unfold F_X12_readSee
  refine gf_aload_n C dX12_readSee_0 rfl rfl (gf_iconst C dX12_readSee_1 ki_0 (gf_aload_n C dX12_readSee_2 rfl rfl (gf_getI C dX12_readSee_3 fl_X12_136 s_117 rfl 7497 rfl (gf_iconst C dX12_readSee_6 ki_1 (gf_isub C dX12_readSee_7 ?_)))))
  refine gf_callV (ε2 := eI) C [.int (0 : Int32), .int ((sG h 7497) - (1 : Int32))] dX12_readSee_8 mw_X12_number ml_X12_128 s_117 (fun rZ hZ eZ => ok_X12_number (0 : Int32) ((sG h 7497) - (1 : Int32)) h rZ hZ eZ) rfl rfl rfl (Nat.le_of_ble_eq_true rfl) (Nat.le_of_ble_eq_true rfl) (Nat.le_of_ble_eq_true rfl) (fun r1 h2 => ?_)
  refine gf_istore_n C dX12_readSee_11 rfl [some (.ref 117), some (.int r1), none, none] rfl rfl (Nat.le_of_ble_eq_true rfl) (gf_aload_n C dX12_readSee_12 rfl rfl (gf_iconst C dX12_readSee_13 ki_0 (gf_aload_n C dX12_readSee_14 rfl rfl (gf_getI C dX12_readSee_15 fl_X12_143 s_117 rfl 7498 rfl (gf_iconst C dX12_readSee_18 ki_1 (gf_isub C dX12_readSee_19 ?_))))))
  refine gf_callV (ε2 := eI) C [.int (0 : Int32), .int ((sG h2 7498) - (1 : Int32))] dX12_readSee_20 mw_X12_number ml_X12_128 s_117 (fun rZ hZ eZ => ok_X12_number (0 : Int32) ((sG h2 7498) - (1 : Int32)) h2 rZ hZ eZ) rfl rfl rfl (Nat.le_of_ble_eq_true rfl) (Nat.le_of_ble_eq_true rfl) (Nat.le_of_ble_eq_true rfl) (fun r3 h4 => ?_)
  refine gf_istore_n C dX12_readSee_23 rfl [some (.ref 117), some (.int r1), some (.int r3), none] rfl rfl (Nat.le_of_ble_eq_true rfl) (gf_aload_n C dX12_readSee_24 rfl rfl (gf_getI C dX12_readSee_25 fl_X12_111 s_117 rfl 7494 rfl (gf_iconst C dX12_readSee_28 ki_m1 ?_)))
  refine gf_jn (fun (j7 : Int32 → Hp → Option (Unit × Hp)) => ∀ (s5 : Int32) (h6 : Hp), GF K eV h6 48 [some (.ref 117), some (.int r1), some (.int r3), none] [.int s5] (j7 s5 h6)) ?_ (fun j7 kj7 => ?_)
  · intro s5 h6
    refine gf_istore_n C dX12_readSee_48 rfl [some (.ref 117), some (.int r1), some (.int r3), some (.int s5)] rfl rfl (Nat.le_of_ble_eq_true rfl) (gf_aload_n C dX12_readSee_49 rfl rfl (gf_iconst C dX12_readSee_50 ki_4 (gf_iload_n C dX12_readSee_51 rfl rfl (gf_iconst C dX12_readSee_52 ki_2 (gf_iload_n C dX12_readSee_53 rfl rfl (gf_iadd C dX12_readSee_54 (gf_aload_n C dX12_readSee_55 rfl rfl ?_)))))))
    refine gf_iconst C dX12_readSee_56 ki_0 (gf_iload_n C dX12_readSee_57 rfl rfl ?_)
    refine gf_callV (ε2 := eI) C [.int (0 : Int32), .int s5] dX12_readSee_58 mw_X12_number ml_X12_128 s_117 (fun rZ hZ eZ => ok_X12_number (0 : Int32) s5 h6 rZ hZ eZ) rfl rfl rfl (Nat.le_of_ble_eq_true rfl) (Nat.le_of_ble_eq_true rfl) (Nat.le_of_ble_eq_true rfl) (fun r8 h9 => ?_)
    refine gf_iconst C dX12_readSee_61 ki_0 ?_
    refine gf_callV (ε2 := eV) C [.int (4 : Int32), .int r1, .int ((2 : Int32) + r3), .int r8, .int (0 : Int32)] dX12_readSee_62 mw_X12_lay ml_X12_132 s_117 (fun rZ hZ eZ => ok_X12_lay (4 : Int32) r1 ((2 : Int32) + r3) r8 (0 : Int32) h9 rZ hZ eZ) rfl rfl rfl (Nat.le_of_ble_eq_true rfl) (Nat.le_of_ble_eq_true rfl) (Nat.le_of_ble_eq_true rfl) (fun _ h10 => ?_)
    exact gf_vret C dX12_readSee_65 rfl
  refine gf_jn (fun (j12 : Hp → Option (Unit × Hp)) => ∀ (h11 : Hp), GF K eV h11 47 [some (.ref 117), some (.int r1), some (.int r3), none] [] (j12 h11)) ?_ (fun j12 kj12 => ?_)
  · intro h11
    refine gf_iconst C dX12_readSee_47 ki_1 ?_
    exact gf_sub [some (.ref 117), some (.int r1), some (.int r3), none] (And.intro rfl (And.intro rfl (And.intro rfl trivial))) (kj7 (1 : Int32) h11)
  refine gf_icmpne C 47 dX12_readSee_29 (by decide) (fun _ => ?_) (fun _ => ?_)
  · refine gf_aload_n C dX12_readSee_32 rfl rfl (gf_getR C dX12_readSee_33 fl_X12_19 s_117 rfl 121 rfl (gf_iload_n C dX12_readSee_36 rfl rfl (gf_iald C dX12_readSee_37 s_121 (gf_iconst C dX12_readSee_38 ki_3 ?_))))
    refine gf_icmpne C 47 dX12_readSee_39 (by decide) (fun _ => ?_) (fun _ => ?_)
    · refine gf_bipush C dX12_readSee_42 kb_9 ?_
      refine gf_goto C 48 dX12_readSee_44 (by decide) ?_
      exact gf_sub [some (.ref 117), some (.int r1), some (.int r3), none] (And.intro rfl (And.intro rfl (And.intro rfl trivial))) (kj7 (9 : Int32) h4)
    · exact gf_sub [some (.ref 117), some (.int r1), some (.int r3), none] (And.intro rfl (And.intro rfl (And.intro rfl trivial))) (kj12 h4)
  · exact gf_sub [some (.ref 117), some (.int r1), some (.int r3), none] (And.intro rfl (And.intro rfl (And.intro rfl trivial))) (kj12 h4)
def F_X12_readClause (h : Hp) : Option (Unit × Hp) :=
  bd (F_X12_take h) (fun _ h1 => bd (F_X12_isWord (97 : Int32) (108 : Int32) (98 : Int32) (117 : Int32) (109 : Int32) (0 : Int32) (0 : Int32) h1) (fun r2 h3 => jn (fun (h4 : Hp) =>
  some ((), h4)) (fun j5 => if r2 = 0 then (
  bd (F_X12_isWord (115 : Int32) (117 : Int32) (110 : Int32) (0 : Int32) (0 : Int32) (0 : Int32) (0 : Int32) h3) (fun r6 h7 => if r6 = 0 then (
  bd (F_X12_isWord (112 : Int32) (105 : Int32) (99 : Int32) (116 : Int32) (117 : Int32) (114 : Int32) (101 : Int32) h7) (fun r8 h9 => if r8 = 0 then (
  bd (F_X12_isWord (116 : Int32) (104 : Int32) (105 : Int32) (110 : Int32) (103 : Int32) (0 : Int32) (0 : Int32) h9) (fun r10 h11 => if r10 = 0 then (
  bd (F_X12_isWord (112 : Int32) (111 : Int32) (105 : Int32) (110 : Int32) (116 : Int32) (0 : Int32) (0 : Int32) h11) (fun r12 h13 => if r12 = 0 then (
  bd (F_X12_isWord (108 : Int32) (111 : Int32) (110 : Int32) (103 : Int32) (0 : Int32) (0 : Int32) (0 : Int32) h13) (fun r14 h15 => if r14 = 0 then (
  bd (F_X12_isWord (115 : Int32) (101 : Int32) (101 : Int32) (0 : Int32) (0 : Int32) (0 : Int32) (0 : Int32) h15) (fun r16 h17 => if r16 = 0 then (
  bd (F_X12_want (0 : Int32) h17) (fun r18 h19 => j5 h19)) else (
  bd (F_X12_readSee h17) (fun _ h20 => j5 h20)))) else (
  bd (F_X12_readPiece (1 : Int32) h15) (fun _ h21 => j5 h21)))) else (
  bd (F_X12_readPiece (0 : Int32) h13) (fun _ h22 => j5 h22)))) else (
  bd (F_X12_readThing h11) (fun _ h23 => j5 h23)))) else (
  bd (F_X12_readPicture h9) (fun _ h24 => j5 h24)))) else (
  bd (F_X12_readSun h7) (fun _ h25 => j5 h25)))) else (
  jl (sS h3 7497 (0 : Int32)) (fun h26 => jl (sS h26 7498 (0 : Int32)) (fun h27 => bd (F_X12_lay (0 : Int32) (0 : Int32) (0 : Int32) (0 : Int32) (0 : Int32) h27) (fun _ h28 => j5 h28)))))))
set_option maxRecDepth 100000 in
set_option maxHeartbeats 4000000 in
theorem ok_X12_readClause (h : Hp) (rZ : Unit) (hZ : Hp) (eZ : F_X12_readClause h = some (rZ, hZ)) : AC yX12_readClause cX12_readClause 1 (none) 5 109 [.ref 117] h (eV rZ) hZ := by
  refine AC_intro (o := F_X12_readClause h) RX12 rfl (plainFor_of_name (by decide)) [some (.ref 117)] rfl (fun _ => rfl) (fun _ => Nat.le_of_ble_eq_true rfl) eZ (fun K C => ?_)
  unfold F_X12_readClause
  refine gf_aload_n C dX12_readClause_0 rfl rfl ?_
  refine gf_callV (ε2 := eV) C [] dX12_readClause_1 mw_X12_take ml_X12_118 s_117 (fun rZ hZ eZ => ok_X12_take  h rZ hZ eZ) rfl rfl rfl (Nat.le_of_ble_eq_true rfl) (Nat.le_of_ble_eq_true rfl) (Nat.le_of_ble_eq_true rfl) (fun _ h1 => ?_)
  refine gf_aload_n C dX12_readClause_4 rfl rfl (gf_bipush C dX12_readClause_5 kb_97 (gf_bipush C dX12_readClause_7 kb_108 (gf_bipush C dX12_readClause_9 kb_98 (gf_bipush C dX12_readClause_11 kb_117 (gf_bipush C dX12_readClause_13 kb_109 (gf_iconst C dX12_readClause_15 ki_0 (gf_iconst C dX12_readClause_16 ki_0 ?_)))))))
  refine gf_callV (ε2 := eI) C [.int (97 : Int32), .int (108 : Int32), .int (98 : Int32), .int (117 : Int32), .int (109 : Int32), .int (0 : Int32), .int (0 : Int32)] dX12_readClause_17 mw_X12_isWord ml_X12_146 s_117 (fun rZ hZ eZ => ok_X12_isWord (97 : Int32) (108 : Int32) (98 : Int32) (117 : Int32) (109 : Int32) (0 : Int32) (0 : Int32) h1 rZ hZ eZ) rfl rfl rfl (Nat.le_of_ble_eq_true rfl) (Nat.le_of_ble_eq_true rfl) (Nat.le_of_ble_eq_true rfl) (fun r2 h3 => ?_)
  refine gf_jn (fun (j5 : Hp → Option (Unit × Hp)) => ∀ (h4 : Hp), GF K eV h4 206 [none] [] (j5 h4)) ?_ (fun j5 kj5 => ?_)
  · intro h4
    exact gf_vret C dX12_readClause_206 rfl
  refine gf_ifeq C 45 dX12_readClause_20 (by decide) (fun _ => ?_) (fun _ => ?_)
  · refine gf_aload_n C dX12_readClause_45 rfl rfl (gf_bipush C dX12_readClause_46 kb_115 (gf_bipush C dX12_readClause_48 kb_117 (gf_bipush C dX12_readClause_50 kb_110 (gf_iconst C dX12_readClause_52 ki_0 (gf_iconst C dX12_readClause_53 ki_0 (gf_iconst C dX12_readClause_54 ki_0 (gf_iconst C dX12_readClause_55 ki_0 ?_)))))))
    refine gf_callV (ε2 := eI) C [.int (115 : Int32), .int (117 : Int32), .int (110 : Int32), .int (0 : Int32), .int (0 : Int32), .int (0 : Int32), .int (0 : Int32)] dX12_readClause_56 mw_X12_isWord ml_X12_146 s_117 (fun rZ hZ eZ => ok_X12_isWord (115 : Int32) (117 : Int32) (110 : Int32) (0 : Int32) (0 : Int32) (0 : Int32) (0 : Int32) h3 rZ hZ eZ) rfl rfl rfl (Nat.le_of_ble_eq_true rfl) (Nat.le_of_ble_eq_true rfl) (Nat.le_of_ble_eq_true rfl) (fun r6 h7 => ?_)
    refine gf_ifeq C 69 dX12_readClause_59 (by decide) (fun _ => ?_) (fun _ => ?_)
    · refine gf_aload_n C dX12_readClause_69 rfl rfl (gf_bipush C dX12_readClause_70 kb_112 (gf_bipush C dX12_readClause_72 kb_105 (gf_bipush C dX12_readClause_74 kb_99 (gf_bipush C dX12_readClause_76 kb_116 (gf_bipush C dX12_readClause_78 kb_117 (gf_bipush C dX12_readClause_80 kb_114 (gf_bipush C dX12_readClause_82 kb_101 ?_)))))))
      refine gf_callV (ε2 := eI) C [.int (112 : Int32), .int (105 : Int32), .int (99 : Int32), .int (116 : Int32), .int (117 : Int32), .int (114 : Int32), .int (101 : Int32)] dX12_readClause_84 mw_X12_isWord ml_X12_146 s_117 (fun rZ hZ eZ => ok_X12_isWord (112 : Int32) (105 : Int32) (99 : Int32) (116 : Int32) (117 : Int32) (114 : Int32) (101 : Int32) h7 rZ hZ eZ) rfl rfl rfl (Nat.le_of_ble_eq_true rfl) (Nat.le_of_ble_eq_true rfl) (Nat.le_of_ble_eq_true rfl) (fun r8 h9 => ?_)
      refine gf_ifeq C 97 dX12_readClause_87 (by decide) (fun _ => ?_) (fun _ => ?_)
      · refine gf_aload_n C dX12_readClause_97 rfl rfl (gf_bipush C dX12_readClause_98 kb_116 (gf_bipush C dX12_readClause_100 kb_104 (gf_bipush C dX12_readClause_102 kb_105 (gf_bipush C dX12_readClause_104 kb_110 (gf_bipush C dX12_readClause_106 kb_103 (gf_iconst C dX12_readClause_108 ki_0 (gf_iconst C dX12_readClause_109 ki_0 ?_)))))))
        refine gf_callV (ε2 := eI) C [.int (116 : Int32), .int (104 : Int32), .int (105 : Int32), .int (110 : Int32), .int (103 : Int32), .int (0 : Int32), .int (0 : Int32)] dX12_readClause_110 mw_X12_isWord ml_X12_146 s_117 (fun rZ hZ eZ => ok_X12_isWord (116 : Int32) (104 : Int32) (105 : Int32) (110 : Int32) (103 : Int32) (0 : Int32) (0 : Int32) h9 rZ hZ eZ) rfl rfl rfl (Nat.le_of_ble_eq_true rfl) (Nat.le_of_ble_eq_true rfl) (Nat.le_of_ble_eq_true rfl) (fun r10 h11 => ?_)
        refine gf_ifeq C 123 dX12_readClause_113 (by decide) (fun _ => ?_) (fun _ => ?_)
        · refine gf_aload_n C dX12_readClause_123 rfl rfl (gf_bipush C dX12_readClause_124 kb_112 (gf_bipush C dX12_readClause_126 kb_111 (gf_bipush C dX12_readClause_128 kb_105 (gf_bipush C dX12_readClause_130 kb_110 (gf_bipush C dX12_readClause_132 kb_116 (gf_iconst C dX12_readClause_134 ki_0 (gf_iconst C dX12_readClause_135 ki_0 ?_)))))))
          refine gf_callV (ε2 := eI) C [.int (112 : Int32), .int (111 : Int32), .int (105 : Int32), .int (110 : Int32), .int (116 : Int32), .int (0 : Int32), .int (0 : Int32)] dX12_readClause_136 mw_X12_isWord ml_X12_146 s_117 (fun rZ hZ eZ => ok_X12_isWord (112 : Int32) (111 : Int32) (105 : Int32) (110 : Int32) (116 : Int32) (0 : Int32) (0 : Int32) h11 rZ hZ eZ) rfl rfl rfl (Nat.le_of_ble_eq_true rfl) (Nat.le_of_ble_eq_true rfl) (Nat.le_of_ble_eq_true rfl) (fun r12 h13 => ?_)
          refine gf_ifeq C 150 dX12_readClause_139 (by decide) (fun _ => ?_) (fun _ => ?_)
          · refine gf_aload_n C dX12_readClause_150 rfl rfl (gf_bipush C dX12_readClause_151 kb_108 (gf_bipush C dX12_readClause_153 kb_111 (gf_bipush C dX12_readClause_155 kb_110 (gf_bipush C dX12_readClause_157 kb_103 (gf_iconst C dX12_readClause_159 ki_0 (gf_iconst C dX12_readClause_160 ki_0 (gf_iconst C dX12_readClause_161 ki_0 ?_)))))))
            refine gf_callV (ε2 := eI) C [.int (108 : Int32), .int (111 : Int32), .int (110 : Int32), .int (103 : Int32), .int (0 : Int32), .int (0 : Int32), .int (0 : Int32)] dX12_readClause_162 mw_X12_isWord ml_X12_146 s_117 (fun rZ hZ eZ => ok_X12_isWord (108 : Int32) (111 : Int32) (110 : Int32) (103 : Int32) (0 : Int32) (0 : Int32) (0 : Int32) h13 rZ hZ eZ) rfl rfl rfl (Nat.le_of_ble_eq_true rfl) (Nat.le_of_ble_eq_true rfl) (Nat.le_of_ble_eq_true rfl) (fun r14 h15 => ?_)
            refine gf_ifeq C 176 dX12_readClause_165 (by decide) (fun _ => ?_) (fun _ => ?_)
            · refine gf_aload_n C dX12_readClause_176 rfl rfl (gf_bipush C dX12_readClause_177 kb_115 (gf_bipush C dX12_readClause_179 kb_101 (gf_bipush C dX12_readClause_181 kb_101 (gf_iconst C dX12_readClause_183 ki_0 (gf_iconst C dX12_readClause_184 ki_0 (gf_iconst C dX12_readClause_185 ki_0 (gf_iconst C dX12_readClause_186 ki_0 ?_)))))))
              refine gf_callV (ε2 := eI) C [.int (115 : Int32), .int (101 : Int32), .int (101 : Int32), .int (0 : Int32), .int (0 : Int32), .int (0 : Int32), .int (0 : Int32)] dX12_readClause_187 mw_X12_isWord ml_X12_146 s_117 (fun rZ hZ eZ => ok_X12_isWord (115 : Int32) (101 : Int32) (101 : Int32) (0 : Int32) (0 : Int32) (0 : Int32) (0 : Int32) h15 rZ hZ eZ) rfl rfl rfl (Nat.le_of_ble_eq_true rfl) (Nat.le_of_ble_eq_true rfl) (Nat.le_of_ble_eq_true rfl) (fun r16 h17 => ?_)
              refine gf_ifeq C 200 dX12_readClause_190 (by decide) (fun _ => ?_) (fun _ => ?_)
              · refine gf_aload_n C dX12_readClause_200 rfl rfl (gf_iconst C dX12_readClause_201 ki_0 ?_)
                refine gf_callV (ε2 := eI) C [.int (0 : Int32)] dX12_readClause_202 mw_X12_want ml_X12_121 s_117 (fun rZ hZ eZ => ok_X12_want (0 : Int32) h17 rZ hZ eZ) rfl rfl rfl (Nat.le_of_ble_eq_true rfl) (Nat.le_of_ble_eq_true rfl) (Nat.le_of_ble_eq_true rfl) (fun r18 h19 => ?_)
                refine gf_pop C dX12_readClause_205 rfl ?_
                exact gf_sub [none] trivial (kj5 h19)
              · refine gf_aload_n C dX12_readClause_193 rfl rfl ?_
                refine gf_callV (ε2 := eV) C [] dX12_readClause_194 mw_X12_readSee ml_X12_163 s_117 (fun rZ hZ eZ => ok_X12_readSee  h17 rZ hZ eZ) rfl rfl rfl (Nat.le_of_ble_eq_true rfl) (Nat.le_of_ble_eq_true rfl) (Nat.le_of_ble_eq_true rfl) (fun _ h20 => ?_)
                refine gf_goto C 206 dX12_readClause_197 (by decide) ?_
                exact gf_sub [none] trivial (kj5 h20)
            · refine gf_aload_n C dX12_readClause_168 rfl rfl (gf_iconst C dX12_readClause_169 ki_1 ?_)
              refine gf_callV (ε2 := eV) C [.int (1 : Int32)] dX12_readClause_170 mw_X12_readPiece ml_X12_159 s_117 (fun rZ hZ eZ => ok_X12_readPiece (1 : Int32) h15 rZ hZ eZ) rfl rfl rfl (Nat.le_of_ble_eq_true rfl) (Nat.le_of_ble_eq_true rfl) (Nat.le_of_ble_eq_true rfl) (fun _ h21 => ?_)
              refine gf_goto C 206 dX12_readClause_173 (by decide) ?_
              exact gf_sub [none] trivial (kj5 h21)
          · refine gf_aload_n C dX12_readClause_142 rfl rfl (gf_iconst C dX12_readClause_143 ki_0 ?_)
            refine gf_callV (ε2 := eV) C [.int (0 : Int32)] dX12_readClause_144 mw_X12_readPiece ml_X12_159 s_117 (fun rZ hZ eZ => ok_X12_readPiece (0 : Int32) h13 rZ hZ eZ) rfl rfl rfl (Nat.le_of_ble_eq_true rfl) (Nat.le_of_ble_eq_true rfl) (Nat.le_of_ble_eq_true rfl) (fun _ h22 => ?_)
            refine gf_goto C 206 dX12_readClause_147 (by decide) ?_
            exact gf_sub [none] trivial (kj5 h22)
        · refine gf_aload_n C dX12_readClause_116 rfl rfl ?_
          refine gf_callV (ε2 := eV) C [] dX12_readClause_117 mw_X12_readThing ml_X12_156 s_117 (fun rZ hZ eZ => ok_X12_readThing  h11 rZ hZ eZ) rfl rfl rfl (Nat.le_of_ble_eq_true rfl) (Nat.le_of_ble_eq_true rfl) (Nat.le_of_ble_eq_true rfl) (fun _ h23 => ?_)
          refine gf_goto C 206 dX12_readClause_120 (by decide) ?_
          exact gf_sub [none] trivial (kj5 h23)
      · refine gf_aload_n C dX12_readClause_90 rfl rfl ?_
        refine gf_callV (ε2 := eV) C [] dX12_readClause_91 mw_X12_readPicture ml_X12_153 s_117 (fun rZ hZ eZ => ok_X12_readPicture  h9 rZ hZ eZ) rfl rfl rfl (Nat.le_of_ble_eq_true rfl) (Nat.le_of_ble_eq_true rfl) (Nat.le_of_ble_eq_true rfl) (fun _ h24 => ?_)
        refine gf_goto C 206 dX12_readClause_94 (by decide) ?_
        exact gf_sub [none] trivial (kj5 h24)
    · refine gf_aload_n C dX12_readClause_62 rfl rfl ?_
      refine gf_callV (ε2 := eV) C [] dX12_readClause_63 mw_X12_readSun ml_X12_150 s_117 (fun rZ hZ eZ => ok_X12_readSun  h7 rZ hZ eZ) rfl rfl rfl (Nat.le_of_ble_eq_true rfl) (Nat.le_of_ble_eq_true rfl) (Nat.le_of_ble_eq_true rfl) (fun _ h25 => ?_)
      refine gf_goto C 206 dX12_readClause_66 (by decide) ?_
      exact gf_sub [none] trivial (kj5 h25)
  · refine gf_aload_n C dX12_readClause_23 rfl rfl (gf_iconst C dX12_readClause_24 ki_0 (gf_putI C dX12_readClause_25 fp_X12_136 s_117 rfl 7497 rfl ?_))
    refine gf_jlH (fun h26 => ?_)
    refine gf_aload_n C dX12_readClause_28 rfl rfl (gf_iconst C dX12_readClause_29 ki_0 (gf_putI C dX12_readClause_30 fp_X12_143 s_117 rfl 7498 rfl ?_))
    refine gf_jlH (fun h27 => ?_)
    refine gf_aload_n C dX12_readClause_33 rfl rfl (gf_iconst C dX12_readClause_34 ki_0 (gf_iconst C dX12_readClause_35 ki_0 (gf_iconst C dX12_readClause_36 ki_0 (gf_iconst C dX12_readClause_37 ki_0 (gf_iconst C dX12_readClause_38 ki_0 ?_)))))
    refine gf_callV (ε2 := eV) C [.int (0 : Int32), .int (0 : Int32), .int (0 : Int32), .int (0 : Int32), .int (0 : Int32)] dX12_readClause_39 mw_X12_lay ml_X12_132 s_117 (fun rZ hZ eZ => ok_X12_lay (0 : Int32) (0 : Int32) (0 : Int32) (0 : Int32) (0 : Int32) h27 rZ hZ eZ) rfl rfl rfl (Nat.le_of_ble_eq_true rfl) (Nat.le_of_ble_eq_true rfl) (Nat.le_of_ble_eq_true rfl) (fun _ h28 => ?_)
    refine gf_goto C 206 dX12_readClause_42 (by decide) ?_
    exact gf_sub [none] trivial (kj5 h28)
