def F_X12_length (a1 : Int32) (a2 : Int32) (a3 : Int32) (h : Hp) : Option (Int32 × Hp) :=
  bd (F_X12_isPicture a1 h) (fun r1 h2 => if r1 = 0 then (
  some ((-2 : Int32), h2)) else (
  bd (F_X12_within a2 (0 : Int32) (999 : Int32) h2) (fun r3 h4 => jn (fun (s5 : Int32) (h6 : Hp) =>
  some (s5, h6)) (fun j7 => jn (fun (h8 : Hp) =>
  j7 (-3 : Int32) h8) (fun j9 => if r3 = 0 then (
  j9 h4) else (
  bd (F_X12_within a3 (0 : Int32) (99 : Int32) h4) (fun r10 h11 => if r10 = 0 then (
  j9 h11) else (
  bd (F_X12_newPiece a1 (1 : Int32) a2 a3 h11) (fun r12 h13 => j7 r12 h13)))))))))
set_option maxRecDepth 100000 in
set_option maxHeartbeats 4000000 in
theorem ok_X12_length (a1 : Int32) (a2 : Int32) (a3 : Int32) (h : Hp) (rZ : Int32) (hZ : Hp) (eZ : F_X12_length a1 a2 a3 h = some (rZ, hZ)) : AC yX12_length cX12_length 4 (some .int) 3 73 [.ref 117, .int a1, .int a2, .int a3] h (eI rZ) hZ := by
  refine AC_intro (o := F_X12_length a1 a2 a3 h) RX12 rfl (plainFor_of_name (by decide)) [some (.ref 117), some (.int a1), some (.int a2), some (.int a3)] rfl (fun _ => rfl) (fun _ => Nat.le_of_ble_eq_true rfl) eZ (fun K C => ?_)
  unfold F_X12_length
  refine gf_aload_n C dX12_length_0 rfl rfl (gf_iload_n C dX12_length_1 rfl rfl ?_)
  refine gf_callV (ε2 := eI) C [.int a1] dX12_length_2 mw_X12_isPicture ml_X12_269 s_117 (fun rZ hZ eZ => ok_X12_isPicture a1 h rZ hZ eZ) rfl rfl rfl (Nat.le_of_ble_eq_true rfl) (Nat.le_of_ble_eq_true rfl) (Nat.le_of_ble_eq_true rfl) (fun r1 h2 => ?_)
  refine gf_ifne C 11 dX12_length_5 (by decide) (fun _ => ?_) (fun _ => ?_)
  · refine gf_bipush C dX12_length_8 kb_m2 ?_
    exact gf_iret C dX12_length_10 rfl
  · refine gf_iload_n C dX12_length_11 rfl rfl (gf_iconst C dX12_length_12 ki_0 (gf_sipush C dX12_length_13 ks_999 ?_))
    refine gf_callS (ε2 := eI) C [.int a2, .int (0 : Int32), .int (999 : Int32)] dX12_length_16 mw_X12_within ml_X12_88 (fun rZ hZ eZ => ok_X12_within a2 (0 : Int32) (999 : Int32) h2 rZ hZ eZ) rfl rfl rfl (Nat.le_of_ble_eq_true rfl) (Nat.le_of_ble_eq_true rfl) (Nat.le_of_ble_eq_true rfl) (fun r3 h4 => ?_)
    refine gf_jn (fun (j7 : Int32 → Hp → Option (Int32 × Hp)) => ∀ (s5 : Int32) (h6 : Hp), GF K eI h6 45 [none, none, none, none] [.int s5] (j7 s5 h6)) ?_ (fun j7 kj7 => ?_)
    · intro s5 h6
      exact gf_iret C dX12_length_45 rfl
    refine gf_jn (fun (j9 : Hp → Option (Int32 × Hp)) => ∀ (h8 : Hp), GF K eI h8 43 [none, none, none, none] [] (j9 h8)) ?_ (fun j9 kj9 => ?_)
    · intro h8
      refine gf_bipush C dX12_length_43 kb_m3 ?_
      exact gf_sub [none, none, none, none] trivial (kj7 (-3 : Int32) h8)
    refine gf_ifeq C 43 dX12_length_19 (by decide) (fun _ => ?_) (fun _ => ?_)
    · exact gf_sub [none, none, none, none] trivial (kj9 h4)
    · refine gf_iload_n C dX12_length_22 rfl rfl (gf_iconst C dX12_length_23 ki_0 (gf_bipush C dX12_length_24 kb_99 ?_))
      refine gf_callS (ε2 := eI) C [.int a3, .int (0 : Int32), .int (99 : Int32)] dX12_length_26 mw_X12_within ml_X12_88 (fun rZ hZ eZ => ok_X12_within a3 (0 : Int32) (99 : Int32) h4 rZ hZ eZ) rfl rfl rfl (Nat.le_of_ble_eq_true rfl) (Nat.le_of_ble_eq_true rfl) (Nat.le_of_ble_eq_true rfl) (fun r10 h11 => ?_)
      refine gf_ifeq C 43 dX12_length_29 (by decide) (fun _ => ?_) (fun _ => ?_)
      · exact gf_sub [none, none, none, none] trivial (kj9 h11)
      · refine gf_aload_n C dX12_length_32 rfl rfl (gf_iload_n C dX12_length_33 rfl rfl (gf_iconst C dX12_length_34 ki_1 (gf_iload_n C dX12_length_35 rfl rfl (gf_iload_n C dX12_length_36 rfl rfl ?_))))
        refine gf_callV (ε2 := eI) C [.int a1, .int (1 : Int32), .int a2, .int a3] dX12_length_37 mw_X12_newPiece ml_X12_288 s_117 (fun rZ hZ eZ => ok_X12_newPiece a1 (1 : Int32) a2 a3 h11 rZ hZ eZ) rfl rfl rfl (Nat.le_of_ble_eq_true rfl) (Nat.le_of_ble_eq_true rfl) (Nat.le_of_ble_eq_true rfl) (fun r12 h13 => ?_)
        refine gf_goto C 45 dX12_length_40 (by decide) ?_
        exact gf_sub [none, none, none, none] trivial (kj7 r12 h13)
def F_X12_see (a1 : Int32) (a2 : Int32) (a3 : Int32) (h : Hp) : Option (Int32 × Hp) :=
  bd (F_X12_isPicture a1 h) (fun r1 h2 => jn (fun (h3 : Hp) =>
  some ((-2 : Int32), h3)) (fun j4 => if r1 = 0 then (
  j4 h2) else (
  bd (F_X12_within a2 (0 : Int32) ((sG h2 7506) - (1 : Int32)) h2) (fun r5 h6 => if r5 = 0 then (
  j4 h6) else (
  bd (F_X12_mostOf ((2 : Int32) + a2) h6) (fun r7 h8 => bd (F_X12_within a3 (0 : Int32) r7 h8) (fun r9 h10 => jn (fun (s11 : Int32) (h12 : Hp) =>
  some (s11, h12)) (fun j13 => if r9 = 0 then (
  j13 (-3 : Int32) h10) else (
  bd (F_X12_newPiece a1 ((2 : Int32) + a2) a3 (0 : Int32) h10) (fun r14 h15 => j13 r14 h15))))))))))
set_option maxRecDepth 100000 in
set_option maxHeartbeats 4000000 in
theorem ok_X12_see (a1 : Int32) (a2 : Int32) (a3 : Int32) (h : Hp) (rZ : Int32) (hZ : Hp) (eZ : F_X12_see a1 a2 a3 h = some (rZ, hZ)) : AC yX12_see cX12_see 4 (some .int) 3 73 [.ref 117, .int a1, .int a2, .int a3] h (eI rZ) hZ := by
  refine AC_intro (o := F_X12_see a1 a2 a3 h) RX12 rfl (plainFor_of_name (by decide)) [some (.ref 117), some (.int a1), some (.int a2), some (.int a3)] rfl (fun _ => rfl) (fun _ => Nat.le_of_ble_eq_true rfl) eZ (fun K C => ?_)
  unfold F_X12_see
  refine gf_aload_n C dX12_see_0 rfl rfl (gf_iload_n C dX12_see_1 rfl rfl ?_)
  refine gf_callV (ε2 := eI) C [.int a1] dX12_see_2 mw_X12_isPicture ml_X12_269 s_117 (fun rZ hZ eZ => ok_X12_isPicture a1 h rZ hZ eZ) rfl rfl rfl (Nat.le_of_ble_eq_true rfl) (Nat.le_of_ble_eq_true rfl) (Nat.le_of_ble_eq_true rfl) (fun r1 h2 => ?_)
  refine gf_jn (fun (j4 : Hp → Option (Int32 × Hp)) => ∀ (h3 : Hp), GF K eI h3 22 [none, none, none, none] [] (j4 h3)) ?_ (fun j4 kj4 => ?_)
  · intro h3
    refine gf_bipush C dX12_see_22 kb_m2 ?_
    exact gf_iret C dX12_see_24 rfl
  refine gf_ifeq C 22 dX12_see_5 (by decide) (fun _ => ?_) (fun _ => ?_)
  · exact gf_sub [none, none, none, none] trivial (kj4 h2)
  · refine gf_iload_n C dX12_see_8 rfl rfl (gf_iconst C dX12_see_9 ki_0 (gf_aload_n C dX12_see_10 rfl rfl (gf_getI C dX12_see_11 fl_X12_169 s_117 rfl 7506 rfl (gf_iconst C dX12_see_14 ki_1 (gf_isub C dX12_see_15 ?_)))))
    refine gf_callS (ε2 := eI) C [.int a2, .int (0 : Int32), .int ((sG h2 7506) - (1 : Int32))] dX12_see_16 mw_X12_within ml_X12_88 (fun rZ hZ eZ => ok_X12_within a2 (0 : Int32) ((sG h2 7506) - (1 : Int32)) h2 rZ hZ eZ) rfl rfl rfl (Nat.le_of_ble_eq_true rfl) (Nat.le_of_ble_eq_true rfl) (Nat.le_of_ble_eq_true rfl) (fun r5 h6 => ?_)
    refine gf_ifne C 25 dX12_see_19 (by decide) (fun _ => ?_) (fun _ => ?_)
    · exact gf_sub [none, none, none, none] trivial (kj4 h6)
    · refine gf_iload_n C dX12_see_25 rfl rfl (gf_iconst C dX12_see_26 ki_0 (gf_aload_n C dX12_see_27 rfl rfl (gf_iconst C dX12_see_28 ki_2 (gf_iload_n C dX12_see_29 rfl rfl (gf_iadd C dX12_see_30 ?_)))))
      refine gf_callV (ε2 := eI) C [.int ((2 : Int32) + a2)] dX12_see_31 mw_X12_mostOf ml_X12_292 s_117 (fun rZ hZ eZ => ok_X12_mostOf ((2 : Int32) + a2) h6 rZ hZ eZ) rfl rfl rfl (Nat.le_of_ble_eq_true rfl) (Nat.le_of_ble_eq_true rfl) (Nat.le_of_ble_eq_true rfl) (fun r7 h8 => ?_)
      refine gf_callS (ε2 := eI) C [.int a3, .int (0 : Int32), .int r7] dX12_see_34 mw_X12_within ml_X12_88 (fun rZ hZ eZ => ok_X12_within a3 (0 : Int32) r7 h8 rZ hZ eZ) rfl rfl rfl (Nat.le_of_ble_eq_true rfl) (Nat.le_of_ble_eq_true rfl) (Nat.le_of_ble_eq_true rfl) (fun r9 h10 => ?_)
      refine gf_jn (fun (j13 : Int32 → Hp → Option (Int32 × Hp)) => ∀ (s11 : Int32) (h12 : Hp), GF K eI h12 55 [none, none, none, none] [.int s11] (j13 s11 h12)) ?_ (fun j13 kj13 => ?_)
      · intro s11 h12
        exact gf_iret C dX12_see_55 rfl
      refine gf_ifeq C 53 dX12_see_37 (by decide) (fun _ => ?_) (fun _ => ?_)
      · refine gf_bipush C dX12_see_53 kb_m3 ?_
        exact gf_sub [none, none, none, none] trivial (kj13 (-3 : Int32) h10)
      · refine gf_aload_n C dX12_see_40 rfl rfl (gf_iload_n C dX12_see_41 rfl rfl (gf_iconst C dX12_see_42 ki_2 (gf_iload_n C dX12_see_43 rfl rfl (gf_iadd C dX12_see_44 (gf_iload_n C dX12_see_45 rfl rfl (gf_iconst C dX12_see_46 ki_0 ?_))))))
        refine gf_callV (ε2 := eI) C [.int a1, .int ((2 : Int32) + a2), .int a3, .int (0 : Int32)] dX12_see_47 mw_X12_newPiece ml_X12_288 s_117 (fun rZ hZ eZ => ok_X12_newPiece a1 ((2 : Int32) + a2) a3 (0 : Int32) h10 rZ hZ eZ) rfl rfl rfl (Nat.le_of_ble_eq_true rfl) (Nat.le_of_ble_eq_true rfl) (Nat.le_of_ble_eq_true rfl) (fun r14 h15 => ?_)
        refine gf_goto C 55 dX12_see_50 (by decide) ?_
        exact gf_sub [none, none, none, none] trivial (kj13 r14 h15)
def F_X12_strike (a1 : Int32) (a2 : Int32) (h : Hp) : Option (Int32 × Hp) :=
  bd (F_X12_isPicture a1 h) (fun r1 h2 => if r1 = 0 then (
  some ((-2 : Int32), h2)) else (
  bd (F_X12_isMatter a2 h2) (fun r3 h4 => if r3 = 0 then (
  some ((-3 : Int32), h4)) else (
  bd (F_X12_pieceAt a1 a2 h4) (fun r5 h6 => if r5 = (-1 : Int32) then (
  some ((-4 : Int32), h6)) else (
  bd (F_X12_put h6) (fun _ h7 => bd (F_X12_remove r5 h7) (fun _ h8 => gd (inb (0 : Int32) 225) ( some (aG h8 124 (0 : Int32).toNatClampNeg, h8))))))))))
set_option maxRecDepth 100000 in
set_option maxHeartbeats 4000000 in
theorem ok_X12_strike (a1 : Int32) (a2 : Int32) (h : Hp) (rZ : Int32) (hZ : Hp) (eZ : F_X12_strike a1 a2 h = some (rZ, hZ)) : AC yX12_strike cX12_strike 4 (some .int) 2 46 [.ref 117, .int a1, .int a2] h (eI rZ) hZ := by
  refine AC_intro (o := F_X12_strike a1 a2 h) RX12 rfl (plainFor_of_name (by decide)) [some (.ref 117), some (.int a1), some (.int a2), none] rfl (fun _ => rfl) (fun _ => Nat.le_of_ble_eq_true rfl) eZ (fun K C => ?_)
  unfold F_X12_strike
  refine gf_aload_n C dX12_strike_0 rfl rfl (gf_iload_n C dX12_strike_1 rfl rfl ?_)
  refine gf_callV (ε2 := eI) C [.int a1] dX12_strike_2 mw_X12_isPicture ml_X12_269 s_117 (fun rZ hZ eZ => ok_X12_isPicture a1 h rZ hZ eZ) rfl rfl rfl (Nat.le_of_ble_eq_true rfl) (Nat.le_of_ble_eq_true rfl) (Nat.le_of_ble_eq_true rfl) (fun r1 h2 => ?_)
  refine gf_ifne C 11 dX12_strike_5 (by decide) (fun _ => ?_) (fun _ => ?_)
  · refine gf_bipush C dX12_strike_8 kb_m2 ?_
    exact gf_iret C dX12_strike_10 rfl
  · refine gf_aload_n C dX12_strike_11 rfl rfl (gf_iload_n C dX12_strike_12 rfl rfl ?_)
    refine gf_callV (ε2 := eI) C [.int a2] dX12_strike_13 mw_X12_isMatter ml_X12_282 s_117 (fun rZ hZ eZ => ok_X12_isMatter a2 h2 rZ hZ eZ) rfl rfl rfl (Nat.le_of_ble_eq_true rfl) (Nat.le_of_ble_eq_true rfl) (Nat.le_of_ble_eq_true rfl) (fun r3 h4 => ?_)
    refine gf_ifne C 22 dX12_strike_16 (by decide) (fun _ => ?_) (fun _ => ?_)
    · refine gf_bipush C dX12_strike_19 kb_m3 ?_
      exact gf_iret C dX12_strike_21 rfl
    · refine gf_aload_n C dX12_strike_22 rfl rfl (gf_iload_n C dX12_strike_23 rfl rfl (gf_iload_n C dX12_strike_24 rfl rfl ?_))
      refine gf_callV (ε2 := eI) C [.int a1, .int a2] dX12_strike_25 mw_X12_pieceAt ml_X12_192 s_117 (fun rZ hZ eZ => ok_X12_pieceAt a1 a2 h4 rZ hZ eZ) rfl rfl rfl (Nat.le_of_ble_eq_true rfl) (Nat.le_of_ble_eq_true rfl) (Nat.le_of_ble_eq_true rfl) (fun r5 h6 => ?_)
      refine gf_istore_n C dX12_strike_28 rfl [some (.ref 117), some (.int a1), some (.int a2), some (.int r5)] rfl rfl (Nat.le_of_ble_eq_true rfl) (gf_iload_n C dX12_strike_29 rfl rfl (gf_iconst C dX12_strike_30 ki_m1 ?_))
      refine gf_icmpne C 37 dX12_strike_31 (by decide) (fun _ => ?_) (fun _ => ?_)
      · refine gf_bipush C dX12_strike_34 kb_m4 ?_
        exact gf_iret C dX12_strike_36 rfl
      · refine gf_aload_n C dX12_strike_37 rfl rfl ?_
        refine gf_callV (ε2 := eV) C [] dX12_strike_38 mw_X12_put ml_X12_285 s_117 (fun rZ hZ eZ => ok_X12_put  h6 rZ hZ eZ) rfl rfl rfl (Nat.le_of_ble_eq_true rfl) (Nat.le_of_ble_eq_true rfl) (Nat.le_of_ble_eq_true rfl) (fun _ h7 => ?_)
        refine gf_aload_n C dX12_strike_41 rfl rfl (gf_iload_n C dX12_strike_42 rfl rfl ?_)
        refine gf_callV (ε2 := eV) C [.int r5] dX12_strike_43 mw_X12_remove ml_X12_295 s_117 (fun rZ hZ eZ => ok_X12_remove r5 h7 rZ hZ eZ) rfl rfl rfl (Nat.le_of_ble_eq_true rfl) (Nat.le_of_ble_eq_true rfl) (Nat.le_of_ble_eq_true rfl) (fun _ h8 => ?_)
        refine gf_aload_n C dX12_strike_46 rfl rfl (gf_getR C dX12_strike_47 fl_X12_38 s_117 rfl 124 rfl (gf_iconst C dX12_strike_50 ki_0 (gf_iald C dX12_strike_51 s_124 ?_)))
        exact gf_iret C dX12_strike_52 rfl
def F_X12_undo (h : Hp) : Option (Int32 × Hp) :=
  if (sG h 7510) = 0 then (
  some ((-4 : Int32), h)) else (
  jl (sS h 7510 ((sG h 7510) - (1 : Int32))) (fun h1 => bd (F_X12_bring 126 1800 ((225 : Int32) * (sG h1 7510)) 124 225 (0 : Int32) (225 : Int32) h1) (fun _ h2 => some (sG h2 7510, h2))))
set_option maxRecDepth 100000 in
set_option maxHeartbeats 4000000 in
theorem ok_X12_undo (h : Hp) (rZ : Int32) (hZ : Hp) (eZ : F_X12_undo h = some (rZ, hZ)) : AC yX12_undo cX12_undo 1 (some .int) 1 25 [.ref 117] h (eI rZ) hZ := by
  refine AC_intro (o := F_X12_undo h) RX12 rfl (plainFor_of_name (by decide)) [some (.ref 117)] rfl (fun _ => rfl) (fun _ => Nat.le_of_ble_eq_true rfl) eZ (fun K C => ?_)
  unfold F_X12_undo
  refine gf_aload_n C dX12_undo_0 rfl rfl (gf_getI C dX12_undo_1 fl_X12_189 s_117 rfl 7510 rfl ?_)
  refine gf_ifne C 10 dX12_undo_4 (by decide) (fun _ => ?_) (fun _ => ?_)
  · refine gf_bipush C dX12_undo_7 kb_m4 ?_
    exact gf_iret C dX12_undo_9 rfl
  · refine gf_aload_n C dX12_undo_10 rfl rfl (gf_dup C dX12_undo_11 rfl (gf_getI C dX12_undo_12 fl_X12_189 s_117 rfl 7510 rfl (gf_iconst C dX12_undo_15 ki_1 (gf_isub C dX12_undo_16 (gf_putI C dX12_undo_17 fp_X12_189 s_117 rfl 7510 rfl ?_)))))
    refine gf_jlH (fun h1 => ?_)
    refine gf_aload_n C dX12_undo_20 rfl rfl (gf_getR C dX12_undo_21 fl_X12_44 s_117 rfl 126 rfl (gf_sipush C dX12_undo_24 ks_225 (gf_aload_n C dX12_undo_27 rfl rfl (gf_getI C dX12_undo_28 fl_X12_189 s_117 rfl 7510 rfl (gf_imul C dX12_undo_31 (gf_aload_n C dX12_undo_32 rfl rfl (gf_getR C dX12_undo_33 fl_X12_38 s_117 rfl 124 rfl ?_)))))))
    refine gf_iconst C dX12_undo_36 ki_0 (gf_sipush C dX12_undo_37 ks_225 ?_)
    refine gf_callS (ε2 := eV) C [.ref 126, .int ((225 : Int32) * (sG h1 7510)), .ref 124, .int (0 : Int32), .int (225 : Int32)] dX12_undo_40 mw_X12_bring ml_X12_172 (fun rZ hZ eZ => ok_X12_bring 126 1800 ((225 : Int32) * (sG h1 7510)) 124 225 (0 : Int32) (225 : Int32) s_126 s_124 h1 rZ hZ eZ) rfl rfl rfl (Nat.le_of_ble_eq_true rfl) (Nat.le_of_ble_eq_true rfl) (Nat.le_of_ble_eq_true rfl) (fun _ h2 => ?_)
    refine gf_aload_n C dX12_undo_43 rfl rfl (gf_getI C dX12_undo_44 fl_X12_189 s_117 rfl 7510 rfl ?_)
    exact gf_iret C dX12_undo_47 rfl
def F_X12_keep (a1 : Int32) (h : Hp) : Option (Int32 × Hp) :=
  bd (F_X12_within a1 (0 : Int32) (1 : Int32) h) (fun r1 h2 => if r1 = 0 then (
  some ((-2 : Int32), h2)) else (
  bd (F_X12_bring 124 225 (0 : Int32) 127 450 ((225 : Int32) * a1) (225 : Int32) h2) (fun _ h3 => gd (inb a1 2) ( jl (aS h3 128 a1.toNatClampNeg (vp_nar .boolean (1 : Int32))) (fun h4 => gd (inb (0 : Int32) 225) ( some (aG h4 124 (0 : Int32).toNatClampNeg, h4)))))))
set_option maxRecDepth 100000 in
set_option maxHeartbeats 4000000 in
theorem ok_X12_keep (a1 : Int32) (h : Hp) (rZ : Int32) (hZ : Hp) (eZ : F_X12_keep a1 h = some (rZ, hZ)) : AC yX12_keep cX12_keep 2 (some .int) 1 25 [.ref 117, .int a1] h (eI rZ) hZ := by
  refine AC_intro (o := F_X12_keep a1 h) RX12 rfl (plainFor_of_name (by decide)) [some (.ref 117), some (.int a1)] rfl (fun _ => rfl) (fun _ => Nat.le_of_ble_eq_true rfl) eZ (fun K C => ?_)
  unfold F_X12_keep
  refine gf_iload_n C dX12_keep_0 rfl rfl (gf_iconst C dX12_keep_1 ki_0 (gf_iconst C dX12_keep_2 ki_1 ?_))
  refine gf_callS (ε2 := eI) C [.int a1, .int (0 : Int32), .int (1 : Int32)] dX12_keep_3 mw_X12_within ml_X12_88 (fun rZ hZ eZ => ok_X12_within a1 (0 : Int32) (1 : Int32) h rZ hZ eZ) rfl rfl rfl (Nat.le_of_ble_eq_true rfl) (Nat.le_of_ble_eq_true rfl) (Nat.le_of_ble_eq_true rfl) (fun r1 h2 => ?_)
  refine gf_ifne C 12 dX12_keep_6 (by decide) (fun _ => ?_) (fun _ => ?_)
  · refine gf_bipush C dX12_keep_9 kb_m2 ?_
    exact gf_iret C dX12_keep_11 rfl
  · refine gf_aload_n C dX12_keep_12 rfl rfl (gf_getR C dX12_keep_13 fl_X12_38 s_117 rfl 124 rfl (gf_iconst C dX12_keep_16 ki_0 (gf_aload_n C dX12_keep_17 rfl rfl (gf_getR C dX12_keep_18 fl_X12_47 s_117 rfl 127 rfl (gf_sipush C dX12_keep_21 ks_225 (gf_iload_n C dX12_keep_24 rfl rfl (gf_imul C dX12_keep_25 ?_)))))))
    refine gf_sipush C dX12_keep_26 ks_225 ?_
    refine gf_callS (ε2 := eV) C [.ref 124, .int (0 : Int32), .ref 127, .int ((225 : Int32) * a1), .int (225 : Int32)] dX12_keep_29 mw_X12_bring ml_X12_172 (fun rZ hZ eZ => ok_X12_bring 124 225 (0 : Int32) 127 450 ((225 : Int32) * a1) (225 : Int32) s_124 s_127 h2 rZ hZ eZ) rfl rfl rfl (Nat.le_of_ble_eq_true rfl) (Nat.le_of_ble_eq_true rfl) (Nat.le_of_ble_eq_true rfl) (fun _ h3 => ?_)
    refine gf_aload_n C dX12_keep_32 rfl rfl (gf_getR C dX12_keep_33 fl_X12_50 s_117 rfl 128 rfl (gf_iload_n C dX12_keep_36 rfl rfl (gf_iconst C dX12_keep_37 ki_1 (gf_zast C dX12_keep_38 s_128 ?_))))
    refine gf_jlH (fun h4 => ?_)
    refine gf_aload_n C dX12_keep_39 rfl rfl (gf_getR C dX12_keep_40 fl_X12_38 s_117 rfl 124 rfl (gf_iconst C dX12_keep_43 ki_0 (gf_iald C dX12_keep_44 s_124 ?_)))
    exact gf_iret C dX12_keep_45 rfl
def F_X12_back (a1 : Int32) (h : Hp) : Option (Int32 × Hp) :=
  bd (F_X12_within a1 (0 : Int32) (1 : Int32) h) (fun r1 h2 => if r1 = 0 then (
  some ((-2 : Int32), h2)) else (
  gd (inb a1 2) ( if (aG h2 128 a1.toNatClampNeg) = 0 then (
  some ((-4 : Int32), h2)) else (
  bd (F_X12_bring 127 450 ((225 : Int32) * a1) 124 225 (0 : Int32) (225 : Int32) h2) (fun _ h3 => jl (sS h3 7510 (0 : Int32)) (fun h4 => gd (inb (0 : Int32) 225) ( some (aG h4 124 (0 : Int32).toNatClampNeg, h4))))))))
set_option maxRecDepth 100000 in
set_option maxHeartbeats 4000000 in
theorem ok_X12_back (a1 : Int32) (h : Hp) (rZ : Int32) (hZ : Hp) (eZ : F_X12_back a1 h = some (rZ, hZ)) : AC yX12_back cX12_back 2 (some .int) 1 25 [.ref 117, .int a1] h (eI rZ) hZ := by
  refine AC_intro (o := F_X12_back a1 h) RX12 rfl (plainFor_of_name (by decide)) [some (.ref 117), some (.int a1)] rfl (fun _ => rfl) (fun _ => Nat.le_of_ble_eq_true rfl) eZ (fun K C => ?_)
  unfold F_X12_back
  refine gf_iload_n C dX12_back_0 rfl rfl (gf_iconst C dX12_back_1 ki_0 (gf_iconst C dX12_back_2 ki_1 ?_))
  refine gf_callS (ε2 := eI) C [.int a1, .int (0 : Int32), .int (1 : Int32)] dX12_back_3 mw_X12_within ml_X12_88 (fun rZ hZ eZ => ok_X12_within a1 (0 : Int32) (1 : Int32) h rZ hZ eZ) rfl rfl rfl (Nat.le_of_ble_eq_true rfl) (Nat.le_of_ble_eq_true rfl) (Nat.le_of_ble_eq_true rfl) (fun r1 h2 => ?_)
  refine gf_ifne C 12 dX12_back_6 (by decide) (fun _ => ?_) (fun _ => ?_)
  · refine gf_bipush C dX12_back_9 kb_m2 ?_
    exact gf_iret C dX12_back_11 rfl
  · refine gf_aload_n C dX12_back_12 rfl rfl (gf_getR C dX12_back_13 fl_X12_50 s_117 rfl 128 rfl (gf_iload_n C dX12_back_16 rfl rfl (gf_zald C dX12_back_17 s_128 ?_)))
    refine gf_ifne C 24 dX12_back_18 (by decide) (fun _ => ?_) (fun _ => ?_)
    · refine gf_bipush C dX12_back_21 kb_m4 ?_
      exact gf_iret C dX12_back_23 rfl
    · refine gf_aload_n C dX12_back_24 rfl rfl (gf_getR C dX12_back_25 fl_X12_47 s_117 rfl 127 rfl (gf_sipush C dX12_back_28 ks_225 (gf_iload_n C dX12_back_31 rfl rfl (gf_imul C dX12_back_32 (gf_aload_n C dX12_back_33 rfl rfl (gf_getR C dX12_back_34 fl_X12_38 s_117 rfl 124 rfl (gf_iconst C dX12_back_37 ki_0 ?_)))))))
      refine gf_sipush C dX12_back_38 ks_225 ?_
      refine gf_callS (ε2 := eV) C [.ref 127, .int ((225 : Int32) * a1), .ref 124, .int (0 : Int32), .int (225 : Int32)] dX12_back_41 mw_X12_bring ml_X12_172 (fun rZ hZ eZ => ok_X12_bring 127 450 ((225 : Int32) * a1) 124 225 (0 : Int32) (225 : Int32) s_127 s_124 h2 rZ hZ eZ) rfl rfl rfl (Nat.le_of_ble_eq_true rfl) (Nat.le_of_ble_eq_true rfl) (Nat.le_of_ble_eq_true rfl) (fun _ h3 => ?_)
      refine gf_aload_n C dX12_back_44 rfl rfl (gf_iconst C dX12_back_45 ki_0 (gf_putI C dX12_back_46 fp_X12_189 s_117 rfl 7510 rfl ?_))
      refine gf_jlH (fun h4 => ?_)
      refine gf_aload_n C dX12_back_49 rfl rfl (gf_getR C dX12_back_50 fl_X12_38 s_117 rfl 124 rfl (gf_iconst C dX12_back_53 ki_0 (gf_iald C dX12_back_54 s_124 ?_)))
      exact gf_iret C dX12_back_55 rfl
def F_X12_areTwo (a1 : Int32) (a2 : Int32) (h : Hp) : Option (Int32 × Hp) :=
  bd (F_X12_isPicture a1 h) (fun r1 h2 => jn (fun (s3 : Int32) (h4 : Hp) =>
  gd (isB s3) ( some (s3, h4))) (fun j5 => jn (fun (h7 : Hp) =>
  j5 (0 : Int32) h7) (fun j8 => if r1 = 0 then (
  j8 h2) else (
  bd (F_X12_isPicture a2 h2) (fun r9 h10 => if r9 = 0 then (
  j8 h10) else (
  if a1 = a2 then (
  j8 h10) else (
  j5 (1 : Int32) h10)))))))
set_option maxRecDepth 100000 in
set_option maxHeartbeats 4000000 in
theorem ok_X12_areTwo (a1 : Int32) (a2 : Int32) (h : Hp) (rZ : Int32) (hZ : Hp) (eZ : F_X12_areTwo a1 a2 h = some (rZ, hZ)) : AC yX12_areTwo cX12_areTwo 3 (some .boolean) 2 43 [.ref 117, .int a1, .int a2] h (eI rZ) hZ := by
  refine AC_intro (o := F_X12_areTwo a1 a2 h) RX12 rfl (plainFor_of_name (by decide)) [some (.ref 117), some (.int a1), some (.int a2)] rfl (fun _ => rfl) (fun _ => Nat.le_of_ble_eq_true rfl) eZ (fun K C => ?_)
  unfold F_X12_areTwo
  refine gf_aload_n C dX12_areTwo_0 rfl rfl (gf_iload_n C dX12_areTwo_1 rfl rfl ?_)
  refine gf_callV (ε2 := eI) C [.int a1] dX12_areTwo_2 mw_X12_isPicture ml_X12_269 s_117 (fun rZ hZ eZ => ok_X12_isPicture a1 h rZ hZ eZ) rfl rfl rfl (Nat.le_of_ble_eq_true rfl) (Nat.le_of_ble_eq_true rfl) (Nat.le_of_ble_eq_true rfl) (fun r1 h2 => ?_)
  refine gf_jn (fun (j5 : Int32 → Hp → Option (Int32 × Hp)) => ∀ (s3 : Int32) (h4 : Hp), GF K eI h4 26 [none, none, none] [.int s3] (j5 s3 h4)) ?_ (fun j5 kj5 => ?_)
  · intro s3 h4
    refine gf_gd (fun b6 => ?_)
    exact gf_zret C dX12_areTwo_26 (isB_nar b6) rfl
  refine gf_jn (fun (j8 : Hp → Option (Int32 × Hp)) => ∀ (h7 : Hp), GF K eI h7 25 [none, none, none] [] (j8 h7)) ?_ (fun j8 kj8 => ?_)
  · intro h7
    refine gf_iconst C dX12_areTwo_25 ki_0 ?_
    exact gf_sub [none, none, none] trivial (kj5 (0 : Int32) h7)
  refine gf_ifeq C 25 dX12_areTwo_5 (by decide) (fun _ => ?_) (fun _ => ?_)
  · exact gf_sub [none, none, none] trivial (kj8 h2)
  · refine gf_aload_n C dX12_areTwo_8 rfl rfl (gf_iload_n C dX12_areTwo_9 rfl rfl ?_)
    refine gf_callV (ε2 := eI) C [.int a2] dX12_areTwo_10 mw_X12_isPicture ml_X12_269 s_117 (fun rZ hZ eZ => ok_X12_isPicture a2 h2 rZ hZ eZ) rfl rfl rfl (Nat.le_of_ble_eq_true rfl) (Nat.le_of_ble_eq_true rfl) (Nat.le_of_ble_eq_true rfl) (fun r9 h10 => ?_)
    refine gf_ifeq C 25 dX12_areTwo_13 (by decide) (fun _ => ?_) (fun _ => ?_)
    · exact gf_sub [none, none, none] trivial (kj8 h10)
    · refine gf_iload_n C dX12_areTwo_16 rfl rfl (gf_iload_n C dX12_areTwo_17 rfl rfl ?_)
      refine gf_icmpeq C 25 dX12_areTwo_18 (by decide) (fun _ => ?_) (fun _ => ?_)
      · exact gf_sub [none, none, none] trivial (kj8 h10)
      · refine gf_iconst C dX12_areTwo_21 ki_1 ?_
        refine gf_goto C 26 dX12_areTwo_22 (by decide) ?_
        exact gf_sub [none, none, none] trivial (kj5 (1 : Int32) h10)
def F_X12_before (a1 : Int32) (a2 : Int32) (h : Hp) : Option (Int32 × Hp) :=
  bd (F_X12_areTwo a1 a2 h) (fun r1 h2 => jn (fun (s3 : Int32) (h4 : Hp) =>
  some (s3, h4)) (fun j5 => if r1 = 0 then (
  j5 (-2 : Int32) h2) else (
  bd (F_X12_isBefore a1 a2 h2) (fun r6 h7 => if r6 = 0 then (
  j5 (0 : Int32) h7) else (
  j5 (1 : Int32) h7)))))
set_option maxRecDepth 100000 in
set_option maxHeartbeats 4000000 in
theorem ok_X12_before (a1 : Int32) (a2 : Int32) (h : Hp) (rZ : Int32) (hZ : Hp) (eZ : F_X12_before a1 a2 h = some (rZ, hZ)) : AC yX12_before cX12_before 3 (some .int) 4 100 [.ref 117, .int a1, .int a2] h (eI rZ) hZ := by
  refine AC_intro (o := F_X12_before a1 a2 h) RX12 rfl (plainFor_of_name (by decide)) [some (.ref 117), some (.int a1), some (.int a2)] rfl (fun _ => rfl) (fun _ => Nat.le_of_ble_eq_true rfl) eZ (fun K C => ?_)
  unfold F_X12_before
  refine gf_aload_n C dX12_before_0 rfl rfl (gf_iload_n C dX12_before_1 rfl rfl (gf_iload_n C dX12_before_2 rfl rfl ?_))
  refine gf_callV (ε2 := eI) C [.int a1, .int a2] dX12_before_3 mw_X12_areTwo ml_X12_298 s_117 (fun rZ hZ eZ => ok_X12_areTwo a1 a2 h rZ hZ eZ) rfl rfl rfl (Nat.le_of_ble_eq_true rfl) (Nat.le_of_ble_eq_true rfl) (Nat.le_of_ble_eq_true rfl) (fun r1 h2 => ?_)
  refine gf_jn (fun (j5 : Int32 → Hp → Option (Int32 × Hp)) => ∀ (s3 : Int32) (h4 : Hp), GF K eI h4 28 [none, none, none] [.int s3] (j5 s3 h4)) ?_ (fun j5 kj5 => ?_)
  · intro s3 h4
    exact gf_iret C dX12_before_28 rfl
  refine gf_ifne C 14 dX12_before_6 (by decide) (fun _ => ?_) (fun _ => ?_)
  · refine gf_bipush C dX12_before_9 kb_m2 ?_
    refine gf_goto C 28 dX12_before_11 (by decide) ?_
    exact gf_sub [none, none, none] trivial (kj5 (-2 : Int32) h2)
  · refine gf_aload_n C dX12_before_14 rfl rfl (gf_iload_n C dX12_before_15 rfl rfl (gf_iload_n C dX12_before_16 rfl rfl ?_))
    refine gf_callV (ε2 := eI) C [.int a1, .int a2] dX12_before_17 mw_X12_isBefore ml_X12_266 s_117 (fun rZ hZ eZ => ok_X12_isBefore a1 a2 h2 rZ hZ eZ) rfl rfl rfl (Nat.le_of_ble_eq_true rfl) (Nat.le_of_ble_eq_true rfl) (Nat.le_of_ble_eq_true rfl) (fun r6 h7 => ?_)
    refine gf_ifeq C 27 dX12_before_20 (by decide) (fun _ => ?_) (fun _ => ?_)
    · refine gf_iconst C dX12_before_27 ki_0 ?_
      exact gf_sub [none, none, none] trivial (kj5 (0 : Int32) h7)
    · refine gf_iconst C dX12_before_23 ki_1 ?_
      refine gf_goto C 28 dX12_before_24 (by decide) ?_
      exact gf_sub [none, none, none] trivial (kj5 (1 : Int32) h7)
def F_X12_orders (h : Hp) : Option (Int32 × Hp) :=
  bd (F_X12_many h) (fun r1 h2 => some (r1, h2))
set_option maxRecDepth 100000 in
set_option maxHeartbeats 4000000 in
theorem ok_X12_orders (h : Hp) (rZ : Int32) (hZ : Hp) (eZ : F_X12_orders h = some (rZ, hZ)) : AC yX12_orders cX12_orders 1 (some .int) 7 160 [.ref 117] h (eI rZ) hZ := by
  refine AC_intro (o := F_X12_orders h) RX12 rfl (plainFor_of_name (by decide)) [some (.ref 117)] rfl (fun _ => rfl) (fun _ => Nat.le_of_ble_eq_true rfl) eZ (fun K C => ?_)
  unfold F_X12_orders
  refine gf_aload_n C dX12_orders_0 rfl rfl ?_
  refine gf_callV (ε2 := eI) C [] dX12_orders_1 mw_X12_many ml_X12_301 s_117 (fun rZ hZ eZ => ok_X12_many  h rZ hZ eZ) rfl rfl rfl (Nat.le_of_ble_eq_true rfl) (Nat.le_of_ble_eq_true rfl) (Nat.le_of_ble_eq_true rfl) (fun r1 h2 => ?_)
  exact gf_iret C dX12_orders_4 rfl
def F_X12_order (a1 : Int32) (a2 : Int32) (h : Hp) : Option (Int32 × Hp) :=
  jn (fun (h1 : Hp) =>
  some ((-3 : Int32), h1)) (fun j2 => if a1 < 0 then (
  j2 h) else (
  if a2 < 0 then (
  j2 h) else (
  jn (fun (h3 : Hp) =>
  some ((-1 : Int32), h3)) (fun j4 => if a2 < (sG h 7504) then (
  bd (F_X12_whole h) (fun r5 h6 => bd (F_X12_layOrders r5 (9999 : Int32) a1 (-1 : Int32) (-1 : Int32) h6) (fun r7 h8 => if a1 < r7 then (
  gd (inb a2 8) ( some (aG h8 137 a2.toNatClampNeg, h8))) else (
  j4 h8)))) else (
  j4 h)))))
set_option maxRecDepth 100000 in
set_option maxHeartbeats 4000000 in
theorem ok_X12_order (a1 : Int32) (a2 : Int32) (h : Hp) (rZ : Int32) (hZ : Hp) (eZ : F_X12_order a1 a2 h = some (rZ, hZ)) : AC yX12_order cX12_order 3 (some .int) 6 140 [.ref 117, .int a1, .int a2] h (eI rZ) hZ := by
  refine AC_intro (o := F_X12_order a1 a2 h) RX12 rfl (plainFor_of_name (by decide)) [some (.ref 117), some (.int a1), some (.int a2)] rfl (fun _ => rfl) (fun _ => Nat.le_of_ble_eq_true rfl) eZ (fun K C => ?_)
  unfold F_X12_order
  refine gf_iload_n C dX12_order_0 rfl rfl ?_
  refine gf_jn (fun (j2 : Hp → Option (Int32 × Hp)) => ∀ (h1 : Hp), GF K eI h1 8 [none, none, none] [] (j2 h1)) ?_ (fun j2 kj2 => ?_)
  · intro h1
    refine gf_bipush C dX12_order_8 kb_m3 ?_
    exact gf_iret C dX12_order_10 rfl
  refine gf_iflt C 8 dX12_order_1 (by decide) (fun _ => ?_) (fun _ => ?_)
  · exact gf_sub [none, none, none] trivial (kj2 h)
  · refine gf_iload_n C dX12_order_4 rfl rfl ?_
    refine gf_ifge C 11 dX12_order_5 (by decide) (fun _ => ?_) (fun _ => ?_)
    · exact gf_sub [none, none, none] trivial (kj2 h)
    · refine gf_iload_n C dX12_order_11 rfl rfl (gf_aload_n C dX12_order_12 rfl rfl (gf_getI C dX12_order_13 fl_X12_166 s_117 rfl 7504 rfl ?_))
      refine gf_jn (fun (j4 : Hp → Option (Int32 × Hp)) => ∀ (h3 : Hp), GF K eI h3 37 [none, none, none] [] (j4 h3)) ?_ (fun j4 kj4 => ?_)
      · intro h3
        refine gf_iconst C dX12_order_37 ki_m1 ?_
        exact gf_iret C dX12_order_38 rfl
      refine gf_icmpge C 37 dX12_order_16 (by decide) (fun _ => ?_) (fun _ => ?_)
      · refine gf_aload_n C dX12_order_19 rfl rfl (gf_aload_n C dX12_order_20 rfl rfl ?_)
        refine gf_callV (ε2 := eI) C [] dX12_order_21 mw_X12_whole ml_X12_255 s_117 (fun rZ hZ eZ => ok_X12_whole  h rZ hZ eZ) rfl rfl rfl (Nat.le_of_ble_eq_true rfl) (Nat.le_of_ble_eq_true rfl) (Nat.le_of_ble_eq_true rfl) (fun r5 h6 => ?_)
        refine gf_sipush C dX12_order_24 ks_9999 (gf_iload_n C dX12_order_27 rfl rfl (gf_iconst C dX12_order_28 ki_m1 (gf_iconst C dX12_order_29 ki_m1 ?_)))
        refine gf_callV (ε2 := eI) C [.int r5, .int (9999 : Int32), .int a1, .int (-1 : Int32), .int (-1 : Int32)] dX12_order_30 mw_X12_layOrders ml_X12_258 s_117 (fun rZ hZ eZ => ok_X12_layOrders r5 (9999 : Int32) a1 (-1 : Int32) (-1 : Int32) h6 rZ hZ eZ) rfl rfl rfl (Nat.le_of_ble_eq_true rfl) (Nat.le_of_ble_eq_true rfl) (Nat.le_of_ble_eq_true rfl) (fun r7 h8 => ?_)
        refine gf_iload_n C dX12_order_33 rfl rfl ?_
        refine gf_icmpgt C 39 dX12_order_34 (by decide) (fun _ => ?_) (fun _ => ?_)
        · refine gf_aload_n C dX12_order_39 rfl rfl (gf_getR C dX12_order_40 fl_X12_79 s_117 rfl 137 rfl (gf_iload_n C dX12_order_43 rfl rfl (gf_iald C dX12_order_44 s_137 ?_)))
          exact gf_iret C dX12_order_45 rfl
        · exact gf_sub [none, none, none] trivial (kj4 h8)
      · exact gf_sub [none, none, none] trivial (kj4 h)
def F_X12_place (a1 : Int32) (a2 : Int32) (h : Hp) : Option (Int32 × Hp) :=
  bd (F_X12_isPicture a1 h) (fun r1 h2 => if r1 = 0 then (
  some ((-2 : Int32), h2)) else (
  bd (F_X12_within a2 (0 : Int32) (1 : Int32) h2) (fun r3 h4 => if r3 = 0 then (
  some ((-3 : Int32), h4)) else (
  bd (F_X12_many h4) (fun r5 h6 => if r5 = 0 then (
  some ((-4 : Int32), h6)) else (
  jn (fun (s7 : Int32) (h8 : Hp) =>
  some (s7, h8)) (fun j9 => if a2 = 0 then (
  gd (inb a1 7) ( j9 (aG h6 135 a1.toNatClampNeg) h6)) else (
  gd (inb a1 7) ( j9 (aG h6 136 a1.toNatClampNeg) h6)))))))))
set_option maxRecDepth 100000 in
set_option maxHeartbeats 4000000 in
theorem ok_X12_place (a1 : Int32) (a2 : Int32) (h : Hp) (rZ : Int32) (hZ : Hp) (eZ : F_X12_place a1 a2 h = some (rZ, hZ)) : AC yX12_place cX12_place 3 (some .int) 7 160 [.ref 117, .int a1, .int a2] h (eI rZ) hZ := by
  refine AC_intro (o := F_X12_place a1 a2 h) RX12 rfl (plainFor_of_name (by decide)) [some (.ref 117), some (.int a1), some (.int a2)] rfl (fun _ => rfl) (fun _ => Nat.le_of_ble_eq_true rfl) eZ (fun K C => ?_)
  unfold F_X12_place
  refine gf_aload_n C dX12_place_0 rfl rfl (gf_iload_n C dX12_place_1 rfl rfl ?_)
  refine gf_callV (ε2 := eI) C [.int a1] dX12_place_2 mw_X12_isPicture ml_X12_269 s_117 (fun rZ hZ eZ => ok_X12_isPicture a1 h rZ hZ eZ) rfl rfl rfl (Nat.le_of_ble_eq_true rfl) (Nat.le_of_ble_eq_true rfl) (Nat.le_of_ble_eq_true rfl) (fun r1 h2 => ?_)
  refine gf_ifne C 11 dX12_place_5 (by decide) (fun _ => ?_) (fun _ => ?_)
  · refine gf_bipush C dX12_place_8 kb_m2 ?_
    exact gf_iret C dX12_place_10 rfl
  · refine gf_iload_n C dX12_place_11 rfl rfl (gf_iconst C dX12_place_12 ki_0 (gf_iconst C dX12_place_13 ki_1 ?_))
    refine gf_callS (ε2 := eI) C [.int a2, .int (0 : Int32), .int (1 : Int32)] dX12_place_14 mw_X12_within ml_X12_88 (fun rZ hZ eZ => ok_X12_within a2 (0 : Int32) (1 : Int32) h2 rZ hZ eZ) rfl rfl rfl (Nat.le_of_ble_eq_true rfl) (Nat.le_of_ble_eq_true rfl) (Nat.le_of_ble_eq_true rfl) (fun r3 h4 => ?_)
    refine gf_ifne C 23 dX12_place_17 (by decide) (fun _ => ?_) (fun _ => ?_)
    · refine gf_bipush C dX12_place_20 kb_m3 ?_
      exact gf_iret C dX12_place_22 rfl
    · refine gf_aload_n C dX12_place_23 rfl rfl ?_
      refine gf_callV (ε2 := eI) C [] dX12_place_24 mw_X12_many ml_X12_301 s_117 (fun rZ hZ eZ => ok_X12_many  h4 rZ hZ eZ) rfl rfl rfl (Nat.le_of_ble_eq_true rfl) (Nat.le_of_ble_eq_true rfl) (Nat.le_of_ble_eq_true rfl) (fun r5 h6 => ?_)
      refine gf_ifne C 33 dX12_place_27 (by decide) (fun _ => ?_) (fun _ => ?_)
      · refine gf_bipush C dX12_place_30 kb_m4 ?_
        exact gf_iret C dX12_place_32 rfl
      · refine gf_iload_n C dX12_place_33 rfl rfl ?_
        refine gf_jn (fun (j9 : Int32 → Hp → Option (Int32 × Hp)) => ∀ (s7 : Int32) (h8 : Hp), GF K eI h8 52 [none, none, none] [.int s7] (j9 s7 h8)) ?_ (fun j9 kj9 => ?_)
        · intro s7 h8
          exact gf_iret C dX12_place_52 rfl
        refine gf_ifne C 46 dX12_place_34 (by decide) (fun _ => ?_) (fun _ => ?_)
        · refine gf_aload_n C dX12_place_37 rfl rfl (gf_getR C dX12_place_38 fl_X12_73 s_117 rfl 135 rfl (gf_iload_n C dX12_place_41 rfl rfl (gf_iald C dX12_place_42 s_135 ?_)))
          refine gf_goto C 52 dX12_place_43 (by decide) ?_
          exact gf_sub [none, none, none] trivial (kj9 (aG h6 135 a1.toNatClampNeg) h6)
        · refine gf_aload_n C dX12_place_46 rfl rfl (gf_getR C dX12_place_47 fl_X12_76 s_117 rfl 136 rfl (gf_iload_n C dX12_place_50 rfl rfl (gf_iald C dX12_place_51 s_136 ?_)))
          exact gf_sub [none, none, none] trivial (kj9 (aG h6 136 a1.toNatClampNeg) h6)
def F_X12_often (a1 : Int32) (a2 : Int32) (h : Hp) : Option (Int32 × Hp) :=
  bd (F_X12_areTwo a1 a2 h) (fun r1 h2 => if r1 = 0 then (
  some ((-2 : Int32), h2)) else (
  bd (F_X12_whole h2) (fun r3 h4 => bd (F_X12_layOrders r3 (9999 : Int32) (-1 : Int32) a1 a2 h4) (fun r5 h6 => some (sG h6 7527, h6)))))
set_option maxRecDepth 100000 in
set_option maxHeartbeats 4000000 in
theorem ok_X12_often (a1 : Int32) (a2 : Int32) (h : Hp) (rZ : Int32) (hZ : Hp) (eZ : F_X12_often a1 a2 h = some (rZ, hZ)) : AC yX12_often cX12_often 3 (some .int) 6 140 [.ref 117, .int a1, .int a2] h (eI rZ) hZ := by
  refine AC_intro (o := F_X12_often a1 a2 h) RX12 rfl (plainFor_of_name (by decide)) [some (.ref 117), some (.int a1), some (.int a2)] rfl (fun _ => rfl) (fun _ => Nat.le_of_ble_eq_true rfl) eZ (fun K C => ?_)
  unfold F_X12_often
  refine gf_aload_n C dX12_often_0 rfl rfl (gf_iload_n C dX12_often_1 rfl rfl (gf_iload_n C dX12_often_2 rfl rfl ?_))
  refine gf_callV (ε2 := eI) C [.int a1, .int a2] dX12_often_3 mw_X12_areTwo ml_X12_298 s_117 (fun rZ hZ eZ => ok_X12_areTwo a1 a2 h rZ hZ eZ) rfl rfl rfl (Nat.le_of_ble_eq_true rfl) (Nat.le_of_ble_eq_true rfl) (Nat.le_of_ble_eq_true rfl) (fun r1 h2 => ?_)
  refine gf_ifne C 12 dX12_often_6 (by decide) (fun _ => ?_) (fun _ => ?_)
  · refine gf_bipush C dX12_often_9 kb_m2 ?_
    exact gf_iret C dX12_often_11 rfl
  · refine gf_aload_n C dX12_often_12 rfl rfl (gf_aload_n C dX12_often_13 rfl rfl ?_)
    refine gf_callV (ε2 := eI) C [] dX12_often_14 mw_X12_whole ml_X12_255 s_117 (fun rZ hZ eZ => ok_X12_whole  h2 rZ hZ eZ) rfl rfl rfl (Nat.le_of_ble_eq_true rfl) (Nat.le_of_ble_eq_true rfl) (Nat.le_of_ble_eq_true rfl) (fun r3 h4 => ?_)
    refine gf_sipush C dX12_often_17 ks_9999 (gf_iconst C dX12_often_20 ki_m1 (gf_iload_n C dX12_often_21 rfl rfl (gf_iload_n C dX12_often_22 rfl rfl ?_)))
    refine gf_callV (ε2 := eI) C [.int r3, .int (9999 : Int32), .int (-1 : Int32), .int a1, .int a2] dX12_often_23 mw_X12_layOrders ml_X12_258 s_117 (fun rZ hZ eZ => ok_X12_layOrders r3 (9999 : Int32) (-1 : Int32) a1 a2 h4 rZ hZ eZ) rfl rfl rfl (Nat.le_of_ble_eq_true rfl) (Nat.le_of_ble_eq_true rfl) (Nat.le_of_ble_eq_true rfl) (fun r5 h6 => ?_)
    refine gf_pop C dX12_often_26 rfl (gf_aload_n C dX12_often_27 rfl rfl (gf_getI C dX12_often_28 fl_X12_240 s_117 rfl 7527 rfl ?_))
    exact gf_iret C dX12_often_31 rfl
def F_X12_left (a1 : Int32) (a2 : Int32) (h : Hp) : Option (Int32 × Hp) :=
  bd (F_X12_isPicture a1 h) (fun r1 h2 => if r1 = 0 then (
  some ((-2 : Int32), h2)) else (
  bd (F_X12_within a2 (0 : Int32) (2 : Int32) h2) (fun r3 h4 => if r3 = 0 then (
  some ((-3 : Int32), h4)) else (
  bd (F_X12_many h4) (fun r5 h6 => gd (inb a1 7) ( bd (F_X12_shown (lG h6 134 a1.toNatClampNeg) a2 h6) (fun r7 h8 => some (r7, h8))))))))
set_option maxRecDepth 100000 in
set_option maxHeartbeats 4000000 in
theorem ok_X12_left (a1 : Int32) (a2 : Int32) (h : Hp) (rZ : Int32) (hZ : Hp) (eZ : F_X12_left a1 a2 h = some (rZ, hZ)) : AC yX12_left cX12_left 3 (some .int) 7 160 [.ref 117, .int a1, .int a2] h (eI rZ) hZ := by
  refine AC_intro (o := F_X12_left a1 a2 h) RX12 rfl (plainFor_of_name (by decide)) [some (.ref 117), some (.int a1), some (.int a2)] rfl (fun _ => rfl) (fun _ => Nat.le_of_ble_eq_true rfl) eZ (fun K C => ?_)
  unfold F_X12_left
  refine gf_aload_n C dX12_left_0 rfl rfl (gf_iload_n C dX12_left_1 rfl rfl ?_)
  refine gf_callV (ε2 := eI) C [.int a1] dX12_left_2 mw_X12_isPicture ml_X12_269 s_117 (fun rZ hZ eZ => ok_X12_isPicture a1 h rZ hZ eZ) rfl rfl rfl (Nat.le_of_ble_eq_true rfl) (Nat.le_of_ble_eq_true rfl) (Nat.le_of_ble_eq_true rfl) (fun r1 h2 => ?_)
  refine gf_ifne C 11 dX12_left_5 (by decide) (fun _ => ?_) (fun _ => ?_)
  · refine gf_bipush C dX12_left_8 kb_m2 ?_
    exact gf_iret C dX12_left_10 rfl
  · refine gf_iload_n C dX12_left_11 rfl rfl (gf_iconst C dX12_left_12 ki_0 (gf_iconst C dX12_left_13 ki_2 ?_))
    refine gf_callS (ε2 := eI) C [.int a2, .int (0 : Int32), .int (2 : Int32)] dX12_left_14 mw_X12_within ml_X12_88 (fun rZ hZ eZ => ok_X12_within a2 (0 : Int32) (2 : Int32) h2 rZ hZ eZ) rfl rfl rfl (Nat.le_of_ble_eq_true rfl) (Nat.le_of_ble_eq_true rfl) (Nat.le_of_ble_eq_true rfl) (fun r3 h4 => ?_)
    refine gf_ifne C 23 dX12_left_17 (by decide) (fun _ => ?_) (fun _ => ?_)
    · refine gf_bipush C dX12_left_20 kb_m3 ?_
      exact gf_iret C dX12_left_22 rfl
    · refine gf_aload_n C dX12_left_23 rfl rfl ?_
      refine gf_callV (ε2 := eI) C [] dX12_left_24 mw_X12_many ml_X12_301 s_117 (fun rZ hZ eZ => ok_X12_many  h4 rZ hZ eZ) rfl rfl rfl (Nat.le_of_ble_eq_true rfl) (Nat.le_of_ble_eq_true rfl) (Nat.le_of_ble_eq_true rfl) (fun r5 h6 => ?_)
      refine gf_pop C dX12_left_27 rfl (gf_aload_n C dX12_left_28 rfl rfl (gf_getR C dX12_left_29 fl_X12_70 s_117 rfl 134 rfl (gf_iload_n C dX12_left_32 rfl rfl (gf_lald C dX12_left_33 s_134 (gf_iload_n C dX12_left_34 rfl rfl ?_)))))
      refine gf_callS (ε2 := eI) C [.long (lG h6 134 a1.toNatClampNeg), .int a2] dX12_left_35 mw_X12_shown ml_X12_279 (fun rZ hZ eZ => ok_X12_shown (lG h6 134 a1.toNatClampNeg) a2 h6 rZ hZ eZ) rfl rfl rfl (Nat.le_of_ble_eq_true rfl) (Nat.le_of_ble_eq_true rfl) (Nat.le_of_ble_eq_true rfl) (fun r7 h8 => ?_)
      exact gf_iret C dX12_left_38 rfl
def F_X12_knotOf (h : Hp) : Option (Int32 × Hp) :=
  bd (F_X12_whole h) (fun r1 h2 => bd (F_X12_isAny r1 h2) (fun r3 h4 => if r3 = 0 then (
  bd (F_X12_whole h4) (fun r5 h6 => (lp 4000000000 (fun (c10 : Int32 → Int32 → Hp → Option (Int32 × Hp)) (v7 : Int32) (v8 : Int32) (h9 : Hp) =>
  bd (F_X12_whole h9) (fun r11 h12 => if v8 < r11 then (
  bd (F_X12_ones v8.toInt64 h12) (fun r13 h14 => bd (F_X12_ones v7.toInt64 h14) (fun r15 h16 => jn (fun (s17 : Int32) (h18 : Hp) =>
  jn (fun (s20 : Int32) (h21 : Hp) =>
  c10 s20 (v8 + (1 : Int32)) h21) (fun j22 => jn (fun (h23 : Hp) =>
  j22 v7 h23) (fun j24 => if s17 = 0 then (
  j24 h18) else (
  bd (F_X12_isAny v8 h18) (fun r25 h26 => if r25 = 0 then (
  j22 v8 h26) else (
  j24 h26)))))) (fun j19 => if r13 < r15 then (
  j19 (1 : Int32) h16) else (
  j19 (0 : Int32) h16))))) else (
  some (v7, h12)))) (fun _ _ _ => none)) r5 (1 : Int32) h6)) else (
  some ((-1 : Int32), h4))))
set_option maxRecDepth 100000 in
set_option maxHeartbeats 4000000 in
theorem ok_X12_knotOf (h : Hp) (rZ : Int32) (hZ : Hp) (eZ : F_X12_knotOf h = some (rZ, hZ)) : AC yX12_knotOf cX12_knotOf 4 (some .int) 7 161 [.ref 117] h (eI rZ) hZ := by
  refine AC_intro (o := F_X12_knotOf h) RX12 rfl (plainFor_of_name (by decide)) [some (.ref 117), none, none, none] rfl (fun _ => rfl) (fun _ => Nat.le_of_ble_eq_true rfl) eZ (fun K C => ?_)
  unfold F_X12_knotOf
  refine gf_aload_n C dX12_knotOf_0 rfl rfl (gf_aload_n C dX12_knotOf_1 rfl rfl ?_)
  refine gf_callV (ε2 := eI) C [] dX12_knotOf_2 mw_X12_whole ml_X12_255 s_117 (fun rZ hZ eZ => ok_X12_whole  h rZ hZ eZ) rfl rfl rfl (Nat.le_of_ble_eq_true rfl) (Nat.le_of_ble_eq_true rfl) (Nat.le_of_ble_eq_true rfl) (fun r1 h2 => ?_)
  refine gf_callV (ε2 := eI) C [.int r1] dX12_knotOf_5 mw_X12_isAny ml_X12_304 s_117 (fun rZ hZ eZ => ok_X12_isAny r1 h2 rZ hZ eZ) rfl rfl rfl (Nat.le_of_ble_eq_true rfl) (Nat.le_of_ble_eq_true rfl) (Nat.le_of_ble_eq_true rfl) (fun r3 h4 => ?_)
  refine gf_ifeq C 13 dX12_knotOf_8 (by decide) (fun _ => ?_) (fun _ => ?_)
  · refine gf_aload_n C dX12_knotOf_13 rfl rfl ?_
    refine gf_callV (ε2 := eI) C [] dX12_knotOf_14 mw_X12_whole ml_X12_255 s_117 (fun rZ hZ eZ => ok_X12_whole  h4 rZ hZ eZ) rfl rfl rfl (Nat.le_of_ble_eq_true rfl) (Nat.le_of_ble_eq_true rfl) (Nat.le_of_ble_eq_true rfl) (fun r5 h6 => ?_)
    refine gf_istore_n C dX12_knotOf_17 rfl [some (.ref 117), some (.int r5), none, none] rfl rfl (Nat.le_of_ble_eq_true rfl) (gf_iconst C dX12_knotOf_18 ki_1 (gf_istore_n C dX12_knotOf_19 rfl [some (.ref 117), some (.int r5), some (.int (1 : Int32)), none] rfl rfl (Nat.le_of_ble_eq_true rfl) ?_))
    refine gf_sub [some (.ref 117), some (.int r5), some (.int (1 : Int32)), none] (And.intro rfl (And.intro rfl (And.intro rfl trivial))) ?_
    refine lp_P (fun (c10 : Int32 → Int32 → Hp → Option (Int32 × Hp)) => ∀ (v7 : Int32) (v8 : Int32) (h9 : Hp), GF K eI h9 20 [some (.ref 117), some (.int v7), some (.int v8), none] [] (c10 v7 v8 h9)) (fun _ _ _ => gf_none) (fun c10 kc10 v7 v8 h9 => ?_) r5 (1 : Int32) h6
    refine gf_iload_n C dX12_knotOf_20 rfl rfl (gf_aload_n C dX12_knotOf_21 rfl rfl ?_)
    refine gf_callV (ε2 := eI) C [] dX12_knotOf_22 mw_X12_whole ml_X12_255 s_117 (fun rZ hZ eZ => ok_X12_whole  h9 rZ hZ eZ) rfl rfl rfl (Nat.le_of_ble_eq_true rfl) (Nat.le_of_ble_eq_true rfl) (Nat.le_of_ble_eq_true rfl) (fun r11 h12 => ?_)
    refine gf_icmpge C 71 dX12_knotOf_25 (by decide) (fun _ => ?_) (fun _ => ?_)
    · refine gf_iload_n C dX12_knotOf_28 rfl rfl (gf_i2l C dX12_knotOf_29 ?_)
      refine gf_callS (ε2 := eI) C [.long v8.toInt64] dX12_knotOf_30 mw_X12_ones ml_X12_262 (fun rZ hZ eZ => ok_X12_ones v8.toInt64 h12 rZ hZ eZ) rfl rfl rfl (Nat.le_of_ble_eq_true rfl) (Nat.le_of_ble_eq_true rfl) (Nat.le_of_ble_eq_true rfl) (fun r13 h14 => ?_)
      refine gf_iload_n C dX12_knotOf_33 rfl rfl (gf_i2l C dX12_knotOf_34 ?_)
      refine gf_callS (ε2 := eI) C [.long v7.toInt64] dX12_knotOf_35 mw_X12_ones ml_X12_262 (fun rZ hZ eZ => ok_X12_ones v7.toInt64 h14 rZ hZ eZ) rfl rfl rfl (Nat.le_of_ble_eq_true rfl) (Nat.le_of_ble_eq_true rfl) (Nat.le_of_ble_eq_true rfl) (fun r15 h16 => ?_)
      refine gf_jn (fun (j19 : Int32 → Hp → Option (Int32 × Hp)) => ∀ (s17 : Int32) (h18 : Hp), GF K eI h18 46 [some (.ref 117), some (.int v7), some (.int v8), none] [.int s17] (j19 s17 h18)) ?_ (fun j19 kj19 => ?_)
      · intro s17 h18
        refine gf_istore_n C dX12_knotOf_46 rfl [some (.ref 117), some (.int v7), some (.int v8), some (.int s17)] rfl rfl (Nat.le_of_ble_eq_true rfl) (gf_iload_n C dX12_knotOf_47 rfl rfl ?_)
        refine gf_jn (fun (j22 : Int32 → Hp → Option (Int32 × Hp)) => ∀ (s20 : Int32) (h21 : Hp), GF K eI h21 64 [some (.ref 117), none, some (.int v8), none] [.int s20] (j22 s20 h21)) ?_ (fun j22 kj22 => ?_)
        · intro s20 h21
          refine gf_istore_n C dX12_knotOf_64 rfl [some (.ref 117), some (.int s20), some (.int v8), none] rfl rfl (Nat.le_of_ble_eq_true rfl) (gf_iinc C dX12_knotOf_65 rfl (ii_1 _) [some (.ref 117), some (.int s20), some (.int (v8 + (1 : Int32))), none] rfl rfl ?_)
          refine gf_goto C 20 dX12_knotOf_68 (by decide) ?_
          exact gf_sub [some (.ref 117), some (.int s20), some (.int (v8 + (1 : Int32))), none] (And.intro rfl (And.intro rfl (And.intro rfl trivial))) (kc10 s20 (v8 + (1 : Int32)) h21)
        refine gf_jn (fun (j24 : Hp → Option (Int32 × Hp)) => ∀ (h23 : Hp), GF K eI h23 63 [some (.ref 117), some (.int v7), some (.int v8), none] [] (j24 h23)) ?_ (fun j24 kj24 => ?_)
        · intro h23
          refine gf_iload_n C dX12_knotOf_63 rfl rfl ?_
          exact gf_sub [some (.ref 117), none, some (.int v8), none] (And.intro rfl (And.intro rfl trivial)) (kj22 v7 h23)
        refine gf_ifeq C 63 dX12_knotOf_48 (by decide) (fun _ => ?_) (fun _ => ?_)
        · exact gf_sub [some (.ref 117), some (.int v7), some (.int v8), none] (And.intro rfl (And.intro rfl (And.intro rfl trivial))) (kj24 h18)
        · refine gf_aload_n C dX12_knotOf_51 rfl rfl (gf_iload_n C dX12_knotOf_52 rfl rfl ?_)
          refine gf_callV (ε2 := eI) C [.int v8] dX12_knotOf_53 mw_X12_isAny ml_X12_304 s_117 (fun rZ hZ eZ => ok_X12_isAny v8 h18 rZ hZ eZ) rfl rfl rfl (Nat.le_of_ble_eq_true rfl) (Nat.le_of_ble_eq_true rfl) (Nat.le_of_ble_eq_true rfl) (fun r25 h26 => ?_)
          refine gf_ifne C 63 dX12_knotOf_56 (by decide) (fun _ => ?_) (fun _ => ?_)
          · refine gf_iload_n C dX12_knotOf_59 rfl rfl ?_
            refine gf_goto C 64 dX12_knotOf_60 (by decide) ?_
            exact gf_sub [some (.ref 117), none, some (.int v8), none] (And.intro rfl (And.intro rfl trivial)) (kj22 v8 h26)
          · exact gf_sub [some (.ref 117), some (.int v7), some (.int v8), none] (And.intro rfl (And.intro rfl (And.intro rfl trivial))) (kj24 h26)
      refine gf_icmpge C 45 dX12_knotOf_38 (by decide) (fun _ => ?_) (fun _ => ?_)
      · refine gf_iconst C dX12_knotOf_41 ki_1 ?_
        refine gf_goto C 46 dX12_knotOf_42 (by decide) ?_
        exact gf_sub [some (.ref 117), some (.int v7), some (.int v8), none] (And.intro rfl (And.intro rfl (And.intro rfl trivial))) (kj19 (1 : Int32) h16)
      · refine gf_iconst C dX12_knotOf_45 ki_0 ?_
        exact gf_sub [some (.ref 117), some (.int v7), some (.int v8), none] (And.intro rfl (And.intro rfl (And.intro rfl trivial))) (kj19 (0 : Int32) h16)
    · refine gf_iload_n C dX12_knotOf_71 rfl rfl ?_
      exact gf_iret C dX12_knotOf_72 rfl
  · refine gf_iconst C dX12_knotOf_11 ki_m1 ?_
    exact gf_iret C dX12_knotOf_12 rfl
def F_X12_knot (a1 : Int32) (h : Hp) : Option (Int32 × Hp) :=
  bd (F_X12_within a1 (0 : Int32) (1 : Int32) h) (fun r1 h2 => if r1 = 0 then (
  some ((-3 : Int32), h2)) else (
  bd (F_X12_knotOf h2) (fun r3 h4 => jn (fun (s5 : Int32) (h6 : Hp) =>
  some (s5, h6)) (fun j7 => jn (fun (h8 : Hp) =>
  j7 r3 h8) (fun j9 => if r3 = (-1 : Int32) then (
  j9 h4) else (
  if a1 = 0 then (
  j9 h4) else (
  bd (F_X12_ones r3.toInt64 h4) (fun r10 h11 => j7 r10 h11))))))))
set_option maxRecDepth 100000 in
set_option maxHeartbeats 4000000 in
theorem ok_X12_knot (a1 : Int32) (h : Hp) (rZ : Int32) (hZ : Hp) (eZ : F_X12_knot a1 h = some (rZ, hZ)) : AC yX12_knot cX12_knot 3 (some .int) 8 184 [.ref 117, .int a1] h (eI rZ) hZ := by
  refine AC_intro (o := F_X12_knot a1 h) RX12 rfl (plainFor_of_name (by decide)) [some (.ref 117), some (.int a1), none] rfl (fun _ => rfl) (fun _ => Nat.le_of_ble_eq_true rfl) eZ (fun K C => ?_)
  unfold F_X12_knot
  refine gf_iload_n C dX12_knot_0 rfl rfl (gf_iconst C dX12_knot_1 ki_0 (gf_iconst C dX12_knot_2 ki_1 ?_))
  refine gf_callS (ε2 := eI) C [.int a1, .int (0 : Int32), .int (1 : Int32)] dX12_knot_3 mw_X12_within ml_X12_88 (fun rZ hZ eZ => ok_X12_within a1 (0 : Int32) (1 : Int32) h rZ hZ eZ) rfl rfl rfl (Nat.le_of_ble_eq_true rfl) (Nat.le_of_ble_eq_true rfl) (Nat.le_of_ble_eq_true rfl) (fun r1 h2 => ?_)
  refine gf_ifne C 12 dX12_knot_6 (by decide) (fun _ => ?_) (fun _ => ?_)
  · refine gf_bipush C dX12_knot_9 kb_m3 ?_
    exact gf_iret C dX12_knot_11 rfl
  · refine gf_aload_n C dX12_knot_12 rfl rfl ?_
    refine gf_callV (ε2 := eI) C [] dX12_knot_13 mw_X12_knotOf ml_X12_307 s_117 (fun rZ hZ eZ => ok_X12_knotOf  h2 rZ hZ eZ) rfl rfl rfl (Nat.le_of_ble_eq_true rfl) (Nat.le_of_ble_eq_true rfl) (Nat.le_of_ble_eq_true rfl) (fun r3 h4 => ?_)
    refine gf_istore_n C dX12_knot_16 rfl [some (.ref 117), some (.int a1), some (.int r3)] rfl rfl (Nat.le_of_ble_eq_true rfl) (gf_iload_n C dX12_knot_17 rfl rfl (gf_iconst C dX12_knot_18 ki_m1 ?_))
    refine gf_jn (fun (j7 : Int32 → Hp → Option (Int32 × Hp)) => ∀ (s5 : Int32) (h6 : Hp), GF K eI h6 35 [none, none, none] [.int s5] (j7 s5 h6)) ?_ (fun j7 kj7 => ?_)
    · intro s5 h6
      exact gf_iret C dX12_knot_35 rfl
    refine gf_jn (fun (j9 : Hp → Option (Int32 × Hp)) => ∀ (h8 : Hp), GF K eI h8 26 [none, none, some (.int r3)] [] (j9 h8)) ?_ (fun j9 kj9 => ?_)
    · intro h8
      refine gf_iload_n C dX12_knot_26 rfl rfl ?_
      refine gf_goto C 35 dX12_knot_27 (by decide) ?_
      exact gf_sub [none, none, none] trivial (kj7 r3 h8)
    refine gf_icmpeq C 26 dX12_knot_19 (by decide) (fun _ => ?_) (fun _ => ?_)
    · exact gf_sub [none, none, some (.int r3)] (And.intro rfl trivial) (kj9 h4)
    · refine gf_iload_n C dX12_knot_22 rfl rfl ?_
      refine gf_ifne C 30 dX12_knot_23 (by decide) (fun _ => ?_) (fun _ => ?_)
      · exact gf_sub [none, none, some (.int r3)] (And.intro rfl trivial) (kj9 h4)
      · refine gf_iload_n C dX12_knot_30 rfl rfl (gf_i2l C dX12_knot_31 ?_)
        refine gf_callS (ε2 := eI) C [.long r3.toInt64] dX12_knot_32 mw_X12_ones ml_X12_262 (fun rZ hZ eZ => ok_X12_ones r3.toInt64 h4 rZ hZ eZ) rfl rfl rfl (Nat.le_of_ble_eq_true rfl) (Nat.le_of_ble_eq_true rfl) (Nat.le_of_ble_eq_true rfl) (fun r10 h11 => ?_)
        exact gf_sub [none, none, none] trivial (kj7 r10 h11)
def F_X12_loose (a1 : Int32) (h : Hp) : Option (Int32 × Hp) :=
  if a1 < (-1 : Int32) then (
  some ((-3 : Int32), h)) else (
  bd (F_X12_whole h) (fun r1 h2 => bd (F_X12_isAny r1 h2) (fun r3 h4 => bd (F_X12_bring 124 225 (0 : Int32) 125 225 (0 : Int32) (225 : Int32) h4) (fun _ h5 => (lp 4000000000 (fun (c10 : Int32 → Int32 → Int32 → Hp → Option (Int32 × Hp)) (v6 : Int32) (v7 : Int32) (v8 : Int32) (h9 : Hp) =>
  gd (inb (0 : Int32) 225) ( jn (fun (h11 : Hp) =>
  jn (fun (s13 : Int32) (h14 : Hp) =>
  some (s13, h14)) (fun j15 => if a1 = (-1 : Int32) then (
  j15 v6 h11) else (
  j15 v7 h11))) (fun j12 => if v8 < (aG h9 125 (0 : Int32).toNatClampNeg) then (
  if r3 = 0 then (
  bd (F_X12_remove v8 h9) (fun _ h16 => bd (F_X12_whole h16) (fun r17 h18 => bd (F_X12_isAny r17 h18) (fun r19 h20 => jn (fun (v21 : Int32) (v22 : Int32) (h23 : Hp) =>
  bd (F_X12_bring 125 225 (0 : Int32) 124 225 (0 : Int32) (225 : Int32) h23) (fun _ h25 => c10 v21 v22 (v8 + (1 : Int32)) h25)) (fun j24 => if r19 = 0 then (
  j24 v6 v7 h20) else (
  jn (fun (s26 : Int32) (h27 : Hp) =>
  j24 (v6 + (1 : Int32)) s26 h27) (fun j28 => if v6 = a1 then (
  j28 v8 h20) else (
  j28 v7 h20)))))))) else (
  j12 h9)) else (
  j12 h9)))) (fun _ _ _ _ => none)) (0 : Int32) (-1 : Int32) (0 : Int32) h5))))
set_option maxRecDepth 100000 in
set_option maxHeartbeats 4000000 in
theorem ok_X12_loose (a1 : Int32) (h : Hp) (rZ : Int32) (hZ : Hp) (eZ : F_X12_loose a1 h = some (rZ, hZ)) : AC yX12_loose cX12_loose 6 (some .int) 7 161 [.ref 117, .int a1] h (eI rZ) hZ := by
  refine AC_intro (o := F_X12_loose a1 h) RX12 rfl (plainFor_of_name (by decide)) [some (.ref 117), some (.int a1), none, none, none, none] rfl (fun _ => rfl) (fun _ => Nat.le_of_ble_eq_true rfl) eZ (fun K C => ?_)
  unfold F_X12_loose
  refine gf_iload_n C dX12_loose_0 rfl rfl (gf_iconst C dX12_loose_1 ki_m1 ?_)
  refine gf_icmpge C 8 dX12_loose_2 (by decide) (fun _ => ?_) (fun _ => ?_)
  · refine gf_bipush C dX12_loose_5 kb_m3 ?_
    exact gf_iret C dX12_loose_7 rfl
  · refine gf_iconst C dX12_loose_8 ki_0 (gf_istore_n C dX12_loose_9 rfl [some (.ref 117), some (.int a1), some (.int (0 : Int32)), none, none, none] rfl rfl (Nat.le_of_ble_eq_true rfl) (gf_iconst C dX12_loose_10 ki_m1 (gf_istore_n C dX12_loose_11 rfl [some (.ref 117), some (.int a1), some (.int (0 : Int32)), some (.int (-1 : Int32)), none, none] rfl rfl (Nat.le_of_ble_eq_true rfl) (gf_aload_n C dX12_loose_12 rfl rfl (gf_aload_n C dX12_loose_13 rfl rfl ?_)))))
    refine gf_callV (ε2 := eI) C [] dX12_loose_14 mw_X12_whole ml_X12_255 s_117 (fun rZ hZ eZ => ok_X12_whole  h rZ hZ eZ) rfl rfl rfl (Nat.le_of_ble_eq_true rfl) (Nat.le_of_ble_eq_true rfl) (Nat.le_of_ble_eq_true rfl) (fun r1 h2 => ?_)
    refine gf_callV (ε2 := eI) C [.int r1] dX12_loose_17 mw_X12_isAny ml_X12_304 s_117 (fun rZ hZ eZ => ok_X12_isAny r1 h2 rZ hZ eZ) rfl rfl rfl (Nat.le_of_ble_eq_true rfl) (Nat.le_of_ble_eq_true rfl) (Nat.le_of_ble_eq_true rfl) (fun r3 h4 => ?_)
    refine gf_istore C dX12_loose_20 [some (.ref 117), some (.int a1), some (.int (0 : Int32)), some (.int (-1 : Int32)), some (.int r3), none] rfl rfl (Nat.le_of_ble_eq_true rfl) (gf_aload_n C dX12_loose_22 rfl rfl (gf_getR C dX12_loose_23 fl_X12_38 s_117 rfl 124 rfl (gf_iconst C dX12_loose_26 ki_0 (gf_aload_n C dX12_loose_27 rfl rfl (gf_getR C dX12_loose_28 fl_X12_41 s_117 rfl 125 rfl (gf_iconst C dX12_loose_31 ki_0 (gf_sipush C dX12_loose_32 ks_225 ?_)))))))
    refine gf_callS (ε2 := eV) C [.ref 124, .int (0 : Int32), .ref 125, .int (0 : Int32), .int (225 : Int32)] dX12_loose_35 mw_X12_bring ml_X12_172 (fun rZ hZ eZ => ok_X12_bring 124 225 (0 : Int32) 125 225 (0 : Int32) (225 : Int32) s_124 s_125 h4 rZ hZ eZ) rfl rfl rfl (Nat.le_of_ble_eq_true rfl) (Nat.le_of_ble_eq_true rfl) (Nat.le_of_ble_eq_true rfl) (fun _ h5 => ?_)
    refine gf_iconst C dX12_loose_38 ki_0 (gf_istore C dX12_loose_39 [some (.ref 117), some (.int a1), some (.int (0 : Int32)), some (.int (-1 : Int32)), some (.int r3), some (.int (0 : Int32))] rfl rfl (Nat.le_of_ble_eq_true rfl) ?_)
    refine gf_sub [some (.ref 117), some (.int a1), some (.int (0 : Int32)), some (.int (-1 : Int32)), some (.int r3), some (.int (0 : Int32))] (And.intro rfl (And.intro rfl (And.intro rfl (And.intro rfl (And.intro rfl (And.intro rfl trivial)))))) ?_
    refine lp_P (fun (c10 : Int32 → Int32 → Int32 → Hp → Option (Int32 × Hp)) => ∀ (v6 : Int32) (v7 : Int32) (v8 : Int32) (h9 : Hp), GF K eI h9 41 [some (.ref 117), some (.int a1), some (.int v6), some (.int v7), some (.int r3), some (.int v8)] [] (c10 v6 v7 v8 h9)) (fun _ _ _ _ => gf_none) (fun c10 kc10 v6 v7 v8 h9 => ?_) (0 : Int32) (-1 : Int32) (0 : Int32) h5
    refine gf_iload C dX12_loose_41 rfl (gf_aload_n C dX12_loose_43 rfl rfl (gf_getR C dX12_loose_44 fl_X12_41 s_117 rfl 125 rfl (gf_iconst C dX12_loose_47 ki_0 (gf_iald C dX12_loose_48 s_125 ?_))))
    refine gf_jn (fun (j12 : Hp → Option (Int32 × Hp)) => ∀ (h11 : Hp), GF K eI h11 111 [none, some (.int a1), some (.int v6), some (.int v7), none, none] [] (j12 h11)) ?_ (fun j12 kj12 => ?_)
    · intro h11
      refine gf_iload_n C dX12_loose_111 rfl rfl (gf_iconst C dX12_loose_112 ki_m1 ?_)
      refine gf_jn (fun (j15 : Int32 → Hp → Option (Int32 × Hp)) => ∀ (s13 : Int32) (h14 : Hp), GF K eI h14 121 [none, none, none, none, none, none] [.int s13] (j15 s13 h14)) ?_ (fun j15 kj15 => ?_)
      · intro s13 h14
        exact gf_iret C dX12_loose_121 rfl
      refine gf_icmpne C 120 dX12_loose_113 (by decide) (fun _ => ?_) (fun _ => ?_)
      · refine gf_iload_n C dX12_loose_116 rfl rfl ?_
        refine gf_goto C 121 dX12_loose_117 (by decide) ?_
        exact gf_sub [none, none, none, none, none, none] trivial (kj15 v6 h11)
      · refine gf_iload_n C dX12_loose_120 rfl rfl ?_
        exact gf_sub [none, none, none, none, none, none] trivial (kj15 v7 h11)
    refine gf_icmpge C 111 dX12_loose_49 (by decide) (fun _ => ?_) (fun _ => ?_)
    · refine gf_iload C dX12_loose_52 rfl ?_
      refine gf_ifne C 111 dX12_loose_54 (by decide) (fun _ => ?_) (fun _ => ?_)
      · refine gf_aload_n C dX12_loose_57 rfl rfl (gf_iload C dX12_loose_58 rfl ?_)
        refine gf_callV (ε2 := eV) C [.int v8] dX12_loose_60 mw_X12_remove ml_X12_295 s_117 (fun rZ hZ eZ => ok_X12_remove v8 h9 rZ hZ eZ) rfl rfl rfl (Nat.le_of_ble_eq_true rfl) (Nat.le_of_ble_eq_true rfl) (Nat.le_of_ble_eq_true rfl) (fun _ h16 => ?_)
        refine gf_aload_n C dX12_loose_63 rfl rfl (gf_aload_n C dX12_loose_64 rfl rfl ?_)
        refine gf_callV (ε2 := eI) C [] dX12_loose_65 mw_X12_whole ml_X12_255 s_117 (fun rZ hZ eZ => ok_X12_whole  h16 rZ hZ eZ) rfl rfl rfl (Nat.le_of_ble_eq_true rfl) (Nat.le_of_ble_eq_true rfl) (Nat.le_of_ble_eq_true rfl) (fun r17 h18 => ?_)
        refine gf_callV (ε2 := eI) C [.int r17] dX12_loose_68 mw_X12_isAny ml_X12_304 s_117 (fun rZ hZ eZ => ok_X12_isAny r17 h18 rZ hZ eZ) rfl rfl rfl (Nat.le_of_ble_eq_true rfl) (Nat.le_of_ble_eq_true rfl) (Nat.le_of_ble_eq_true rfl) (fun r19 h20 => ?_)
        refine gf_jn (fun (j24 : Int32 → Int32 → Hp → Option (Int32 × Hp)) => ∀ (v21 : Int32) (v22 : Int32) (h23 : Hp), GF K eI h23 89 [some (.ref 117), some (.int a1), some (.int v21), some (.int v22), some (.int r3), some (.int v8)] [] (j24 v21 v22 h23)) ?_ (fun j24 kj24 => ?_)
        · intro v21 v22 h23
          refine gf_aload_n C dX12_loose_89 rfl rfl (gf_getR C dX12_loose_90 fl_X12_41 s_117 rfl 125 rfl (gf_iconst C dX12_loose_93 ki_0 (gf_aload_n C dX12_loose_94 rfl rfl (gf_getR C dX12_loose_95 fl_X12_38 s_117 rfl 124 rfl (gf_iconst C dX12_loose_98 ki_0 (gf_sipush C dX12_loose_99 ks_225 ?_))))))
          refine gf_callS (ε2 := eV) C [.ref 125, .int (0 : Int32), .ref 124, .int (0 : Int32), .int (225 : Int32)] dX12_loose_102 mw_X12_bring ml_X12_172 (fun rZ hZ eZ => ok_X12_bring 125 225 (0 : Int32) 124 225 (0 : Int32) (225 : Int32) s_125 s_124 h23 rZ hZ eZ) rfl rfl rfl (Nat.le_of_ble_eq_true rfl) (Nat.le_of_ble_eq_true rfl) (Nat.le_of_ble_eq_true rfl) (fun _ h25 => ?_)
          refine gf_iinc C dX12_loose_105 rfl (ii_1 _) [some (.ref 117), some (.int a1), some (.int v21), some (.int v22), some (.int r3), some (.int (v8 + (1 : Int32)))] rfl rfl ?_
          refine gf_goto C 41 dX12_loose_108 (by decide) ?_
          exact gf_sub [some (.ref 117), some (.int a1), some (.int v21), some (.int v22), some (.int r3), some (.int (v8 + (1 : Int32)))] (And.intro rfl (And.intro rfl (And.intro rfl (And.intro rfl (And.intro rfl (And.intro rfl trivial)))))) (kc10 v21 v22 (v8 + (1 : Int32)) h25)
        refine gf_ifeq C 89 dX12_loose_71 (by decide) (fun _ => ?_) (fun _ => ?_)
        · exact gf_sub [some (.ref 117), some (.int a1), some (.int v6), some (.int v7), some (.int r3), some (.int v8)] (And.intro rfl (And.intro rfl (And.intro rfl (And.intro rfl (And.intro rfl (And.intro rfl trivial)))))) (kj24 v6 v7 h20)
        · refine gf_iload_n C dX12_loose_74 rfl rfl (gf_iload_n C dX12_loose_75 rfl rfl ?_)
          refine gf_jn (fun (j28 : Int32 → Hp → Option (Int32 × Hp)) => ∀ (s26 : Int32) (h27 : Hp), GF K eI h27 85 [some (.ref 117), some (.int a1), some (.int v6), none, some (.int r3), some (.int v8)] [.int s26] (j28 s26 h27)) ?_ (fun j28 kj28 => ?_)
          · intro s26 h27
            refine gf_istore_n C dX12_loose_85 rfl [some (.ref 117), some (.int a1), some (.int v6), some (.int s26), some (.int r3), some (.int v8)] rfl rfl (Nat.le_of_ble_eq_true rfl) (gf_iinc C dX12_loose_86 rfl (ii_1 _) [some (.ref 117), some (.int a1), some (.int (v6 + (1 : Int32))), some (.int s26), some (.int r3), some (.int v8)] rfl rfl ?_)
            exact gf_sub [some (.ref 117), some (.int a1), some (.int (v6 + (1 : Int32))), some (.int s26), some (.int r3), some (.int v8)] (And.intro rfl (And.intro rfl (And.intro rfl (And.intro rfl (And.intro rfl (And.intro rfl trivial)))))) (kj24 (v6 + (1 : Int32)) s26 h27)
          refine gf_icmpne C 84 dX12_loose_76 (by decide) (fun _ => ?_) (fun _ => ?_)
          · refine gf_iload C dX12_loose_79 rfl ?_
            refine gf_goto C 85 dX12_loose_81 (by decide) ?_
            exact gf_sub [some (.ref 117), some (.int a1), some (.int v6), none, some (.int r3), some (.int v8)] (And.intro rfl (And.intro rfl (And.intro rfl (And.intro rfl (And.intro rfl trivial))))) (kj28 v8 h20)
          · refine gf_iload_n C dX12_loose_84 rfl rfl ?_
            exact gf_sub [some (.ref 117), some (.int a1), some (.int v6), none, some (.int r3), some (.int v8)] (And.intro rfl (And.intro rfl (And.intro rfl (And.intro rfl (And.intro rfl trivial))))) (kj28 v7 h20)
      · exact gf_sub [none, some (.int a1), some (.int v6), some (.int v7), none, none] (And.intro rfl (And.intro rfl (And.intro rfl trivial))) (kj12 h9)
    · exact gf_sub [none, some (.int a1), some (.int v6), some (.int v7), none, none] (And.intro rfl (And.intro rfl (And.intro rfl trivial))) (kj12 h9)
def F_X12_wouldBe (a1 : Int32) (a2 : Int32) (a3 : Int32) (h : Hp) : Option (Int32 × Hp) :=
  bd (F_X12_bring 124 225 (0 : Int32) 125 225 (0 : Int32) (225 : Int32) h) (fun _ h1 => bd (F_X12_become a1 a2 a3 (0 : Int32) h1) (fun _ h2 => bd (F_X12_many h2) (fun r3 h4 => bd (F_X12_bring 125 225 (0 : Int32) 124 225 (0 : Int32) (225 : Int32) h4) (fun _ h5 => some (r3, h5)))))
set_option maxRecDepth 100000 in
set_option maxHeartbeats 4000000 in
theorem ok_X12_wouldBe (a1 : Int32) (a2 : Int32) (a3 : Int32) (h : Hp) (rZ : Int32) (hZ : Hp) (eZ : F_X12_wouldBe a1 a2 a3 h = some (rZ, hZ)) : AC yX12_wouldBe cX12_wouldBe 5 (some .int) 7 160 [.ref 117, .int a1, .int a2, .int a3] h (eI rZ) hZ := by
  refine AC_intro (o := F_X12_wouldBe a1 a2 a3 h) RX12 rfl (plainFor_of_name (by decide)) [some (.ref 117), some (.int a1), some (.int a2), some (.int a3), none] rfl (fun _ => rfl) (fun _ => Nat.le_of_ble_eq_true rfl) eZ (fun K C => ?_)
  unfold F_X12_wouldBe
  refine gf_aload_n C dX12_wouldBe_0 rfl rfl (gf_getR C dX12_wouldBe_1 fl_X12_38 s_117 rfl 124 rfl (gf_iconst C dX12_wouldBe_4 ki_0 (gf_aload_n C dX12_wouldBe_5 rfl rfl (gf_getR C dX12_wouldBe_6 fl_X12_41 s_117 rfl 125 rfl (gf_iconst C dX12_wouldBe_9 ki_0 (gf_sipush C dX12_wouldBe_10 ks_225 ?_))))))
  refine gf_callS (ε2 := eV) C [.ref 124, .int (0 : Int32), .ref 125, .int (0 : Int32), .int (225 : Int32)] dX12_wouldBe_13 mw_X12_bring ml_X12_172 (fun rZ hZ eZ => ok_X12_bring 124 225 (0 : Int32) 125 225 (0 : Int32) (225 : Int32) s_124 s_125 h rZ hZ eZ) rfl rfl rfl (Nat.le_of_ble_eq_true rfl) (Nat.le_of_ble_eq_true rfl) (Nat.le_of_ble_eq_true rfl) (fun _ h1 => ?_)
  refine gf_aload_n C dX12_wouldBe_16 rfl rfl (gf_iload_n C dX12_wouldBe_17 rfl rfl (gf_iload_n C dX12_wouldBe_18 rfl rfl (gf_iload_n C dX12_wouldBe_19 rfl rfl (gf_iconst C dX12_wouldBe_20 ki_0 ?_))))
  refine gf_callV (ε2 := eV) C [.int a1, .int a2, .int a3, .int (0 : Int32)] dX12_wouldBe_21 mw_X12_become ml_X12_182 s_117 (fun rZ hZ eZ => ok_X12_become a1 a2 a3 (0 : Int32) h1 rZ hZ eZ) rfl rfl rfl (Nat.le_of_ble_eq_true rfl) (Nat.le_of_ble_eq_true rfl) (Nat.le_of_ble_eq_true rfl) (fun _ h2 => ?_)
  refine gf_aload_n C dX12_wouldBe_24 rfl rfl ?_
  refine gf_callV (ε2 := eI) C [] dX12_wouldBe_25 mw_X12_many ml_X12_301 s_117 (fun rZ hZ eZ => ok_X12_many  h2 rZ hZ eZ) rfl rfl rfl (Nat.le_of_ble_eq_true rfl) (Nat.le_of_ble_eq_true rfl) (Nat.le_of_ble_eq_true rfl) (fun r3 h4 => ?_)
  refine gf_istore C dX12_wouldBe_28 [some (.ref 117), some (.int a1), some (.int a2), some (.int a3), some (.int r3)] rfl rfl (Nat.le_of_ble_eq_true rfl) (gf_aload_n C dX12_wouldBe_30 rfl rfl (gf_getR C dX12_wouldBe_31 fl_X12_41 s_117 rfl 125 rfl (gf_iconst C dX12_wouldBe_34 ki_0 (gf_aload_n C dX12_wouldBe_35 rfl rfl (gf_getR C dX12_wouldBe_36 fl_X12_38 s_117 rfl 124 rfl (gf_iconst C dX12_wouldBe_39 ki_0 (gf_sipush C dX12_wouldBe_40 ks_225 ?_)))))))
  refine gf_callS (ε2 := eV) C [.ref 125, .int (0 : Int32), .ref 124, .int (0 : Int32), .int (225 : Int32)] dX12_wouldBe_43 mw_X12_bring ml_X12_172 (fun rZ hZ eZ => ok_X12_bring 125 225 (0 : Int32) 124 225 (0 : Int32) (225 : Int32) s_125 s_124 h4 rZ hZ eZ) rfl rfl rfl (Nat.le_of_ble_eq_true rfl) (Nat.le_of_ble_eq_true rfl) (Nat.le_of_ble_eq_true rfl) (fun _ h5 => ?_)
  refine gf_iload C dX12_wouldBe_46 rfl ?_
  exact gf_iret C dX12_wouldBe_48 rfl
def F_X12_would (a1 : Int32) (a2 : Int32) (a3 : Int32) (h : Hp) : Option (Int32 × Hp) :=
  bd (F_X12_isPicture a1 h) (fun r1 h2 => if r1 = 0 then (
  some ((-2 : Int32), h2)) else (
  bd (F_X12_isMatter a2 h2) (fun r3 h4 => jn (fun (h5 : Hp) =>
  some ((-3 : Int32), h5)) (fun j6 => if r3 = 0 then (
  j6 h4) else (
  bd (F_X12_mostOf a2 h4) (fun r7 h8 => bd (F_X12_within a3 (0 : Int32) r7 h8) (fun r9 h10 => if r9 = 0 then (
  j6 h10) else (
  bd (F_X12_wouldBe a1 a2 a3 h10) (fun r11 h12 => some (r11, h12))))))))))
set_option maxRecDepth 100000 in
set_option maxHeartbeats 4000000 in
theorem ok_X12_would (a1 : Int32) (a2 : Int32) (a3 : Int32) (h : Hp) (rZ : Int32) (hZ : Hp) (eZ : F_X12_would a1 a2 a3 h = some (rZ, hZ)) : AC yX12_would cX12_would 4 (some .int) 8 184 [.ref 117, .int a1, .int a2, .int a3] h (eI rZ) hZ := by
  refine AC_intro (o := F_X12_would a1 a2 a3 h) RX12 rfl (plainFor_of_name (by decide)) [some (.ref 117), some (.int a1), some (.int a2), some (.int a3)] rfl (fun _ => rfl) (fun _ => Nat.le_of_ble_eq_true rfl) eZ (fun K C => ?_)
  unfold F_X12_would
  refine gf_aload_n C dX12_would_0 rfl rfl (gf_iload_n C dX12_would_1 rfl rfl ?_)
  refine gf_callV (ε2 := eI) C [.int a1] dX12_would_2 mw_X12_isPicture ml_X12_269 s_117 (fun rZ hZ eZ => ok_X12_isPicture a1 h rZ hZ eZ) rfl rfl rfl (Nat.le_of_ble_eq_true rfl) (Nat.le_of_ble_eq_true rfl) (Nat.le_of_ble_eq_true rfl) (fun r1 h2 => ?_)
  refine gf_ifne C 11 dX12_would_5 (by decide) (fun _ => ?_) (fun _ => ?_)
  · refine gf_bipush C dX12_would_8 kb_m2 ?_
    exact gf_iret C dX12_would_10 rfl
  · refine gf_aload_n C dX12_would_11 rfl rfl (gf_iload_n C dX12_would_12 rfl rfl ?_)
    refine gf_callV (ε2 := eI) C [.int a2] dX12_would_13 mw_X12_isMatter ml_X12_282 s_117 (fun rZ hZ eZ => ok_X12_isMatter a2 h2 rZ hZ eZ) rfl rfl rfl (Nat.le_of_ble_eq_true rfl) (Nat.le_of_ble_eq_true rfl) (Nat.le_of_ble_eq_true rfl) (fun r3 h4 => ?_)
    refine gf_jn (fun (j6 : Hp → Option (Int32 × Hp)) => ∀ (h5 : Hp), GF K eI h5 32 [none, none, none, none] [] (j6 h5)) ?_ (fun j6 kj6 => ?_)
    · intro h5
      refine gf_bipush C dX12_would_32 kb_m3 ?_
      exact gf_iret C dX12_would_34 rfl
    refine gf_ifeq C 32 dX12_would_16 (by decide) (fun _ => ?_) (fun _ => ?_)
    · exact gf_sub [none, none, none, none] trivial (kj6 h4)
    · refine gf_iload_n C dX12_would_19 rfl rfl (gf_iconst C dX12_would_20 ki_0 (gf_aload_n C dX12_would_21 rfl rfl (gf_iload_n C dX12_would_22 rfl rfl ?_)))
      refine gf_callV (ε2 := eI) C [.int a2] dX12_would_23 mw_X12_mostOf ml_X12_292 s_117 (fun rZ hZ eZ => ok_X12_mostOf a2 h4 rZ hZ eZ) rfl rfl rfl (Nat.le_of_ble_eq_true rfl) (Nat.le_of_ble_eq_true rfl) (Nat.le_of_ble_eq_true rfl) (fun r7 h8 => ?_)
      refine gf_callS (ε2 := eI) C [.int a3, .int (0 : Int32), .int r7] dX12_would_26 mw_X12_within ml_X12_88 (fun rZ hZ eZ => ok_X12_within a3 (0 : Int32) r7 h8 rZ hZ eZ) rfl rfl rfl (Nat.le_of_ble_eq_true rfl) (Nat.le_of_ble_eq_true rfl) (Nat.le_of_ble_eq_true rfl) (fun r9 h10 => ?_)
      refine gf_ifne C 35 dX12_would_29 (by decide) (fun _ => ?_) (fun _ => ?_)
      · exact gf_sub [none, none, none, none] trivial (kj6 h10)
      · refine gf_aload_n C dX12_would_35 rfl rfl (gf_iload_n C dX12_would_36 rfl rfl (gf_iload_n C dX12_would_37 rfl rfl (gf_iload_n C dX12_would_38 rfl rfl ?_)))
        refine gf_callV (ε2 := eI) C [.int a1, .int a2, .int a3] dX12_would_39 mw_X12_wouldBe ml_X12_310 s_117 (fun rZ hZ eZ => ok_X12_wouldBe a1 a2 a3 h10 rZ hZ eZ) rfl rfl rfl (Nat.le_of_ble_eq_true rfl) (Nat.le_of_ble_eq_true rfl) (Nat.le_of_ble_eq_true rfl) (fun r11 h12 => ?_)
        exact gf_iret C dX12_would_42 rfl
def F_X12_ask (a1 : Int32) (h : Hp) : Option (Int32 × Hp) :=
  bd (F_X12_within a1 (0 : Int32) (1 : Int32) h) (fun r1 h2 => if r1 = 0 then (
  some ((-3 : Int32), h2)) else (
  bd (F_X12_many h2) (fun r3 h4 => (lp 4000000000 (fun (c9 : Int32 → Int32 → Int32 → Hp → Option (Int32 × Hp)) (v5 : Int32) (v6 : Int32) (v7 : Int32) (h8 : Hp) =>
  if v7 < (sG h8 7504) then (
  (lp 4000000000 (fun (c14 : Int32 → Int32 → Int32 → Hp → Option (Int32 × Hp)) (v10 : Int32) (v11 : Int32) (v12 : Int32) (h13 : Hp) =>
  if v12 < (sG h13 7506) then (
  gd (inb v12 6) ( jn (fun (v15 : Int32) (v16 : Int32) (h17 : Hp) =>
  c14 v15 v16 (v12 + (1 : Int32)) h17) (fun j18 => if (aG h13 123 v12.toNatClampNeg) = (3 : Int32) then (
  j18 v10 v11 h13) else (
  bd (F_X12_pieceAt v7 ((2 : Int32) + v12) h13) (fun r19 h20 => if r19 = (-1 : Int32) then (
  bd (F_X12_wouldBe v7 ((2 : Int32) + v12) (0 : Int32) h20) (fun r21 h22 => bd (F_X12_wouldBe v7 ((2 : Int32) + v12) (1 : Int32) h22) (fun r23 h24 => jn (fun (s25 : Int32) (h26 : Hp) =>
  jn (fun (s28 : Int32) (h29 : Hp) =>
  jn (fun (s31 : Int32) (h32 : Hp) =>
  j18 s31 s28 h32) (fun j33 => if s25 < v10 then (
  j33 s25 h29) else (
  j33 v10 h29))) (fun j30 => if s25 < v10 then (
  j30 ((((10 : Int32) * v7) + (2 : Int32)) + v12) h26) else (
  j30 v11 h26))) (fun j27 => if r23 < r21 then (
  j27 r21 h24) else (
  j27 r23 h24))))) else (
  j18 v10 v11 h20)))))) else (
  c9 v10 v11 (v7 + (1 : Int32)) h13)) (fun _ _ _ _ => none)) v5 v6 (0 : Int32) h8) else (
  jn (fun (s34 : Int32) (h35 : Hp) =>
  some (s34, h35)) (fun j36 => jn (fun (h37 : Hp) =>
  j36 v6 h37) (fun j38 => if v6 = (-1 : Int32) then (
  j38 h8) else (
  if a1 = 0 then (
  j38 h8) else (
  j36 v5 h8)))))) (fun _ _ _ _ => none)) r3 (-1 : Int32) (0 : Int32) h4)))
set_option maxRecDepth 100000 in
set_option maxHeartbeats 4000000 in
theorem ok_X12_ask (a1 : Int32) (h : Hp) (rZ : Int32) (hZ : Hp) (eZ : F_X12_ask a1 h = some (rZ, hZ)) : AC yX12_ask cX12_ask 9 (some .int) 8 184 [.ref 117, .int a1] h (eI rZ) hZ := by
  refine AC_intro (o := F_X12_ask a1 h) RX12 rfl (plainFor_of_name (by decide)) [some (.ref 117), some (.int a1), none, none, none, none, none, none, none] rfl (fun _ => rfl) (fun _ => Nat.le_of_ble_eq_true rfl) eZ (fun K C => ?_)
  unfold F_X12_ask
  refine gf_iload_n C dX12_ask_0 rfl rfl (gf_iconst C dX12_ask_1 ki_0 (gf_iconst C dX12_ask_2 ki_1 ?_))
  refine gf_callS (ε2 := eI) C [.int a1, .int (0 : Int32), .int (1 : Int32)] dX12_ask_3 mw_X12_within ml_X12_88 (fun rZ hZ eZ => ok_X12_within a1 (0 : Int32) (1 : Int32) h rZ hZ eZ) rfl rfl rfl (Nat.le_of_ble_eq_true rfl) (Nat.le_of_ble_eq_true rfl) (Nat.le_of_ble_eq_true rfl) (fun r1 h2 => ?_)
  refine gf_ifne C 12 dX12_ask_6 (by decide) (fun _ => ?_) (fun _ => ?_)
  · refine gf_bipush C dX12_ask_9 kb_m3 ?_
    exact gf_iret C dX12_ask_11 rfl
  · refine gf_aload_n C dX12_ask_12 rfl rfl ?_
    refine gf_callV (ε2 := eI) C [] dX12_ask_13 mw_X12_many ml_X12_301 s_117 (fun rZ hZ eZ => ok_X12_many  h2 rZ hZ eZ) rfl rfl rfl (Nat.le_of_ble_eq_true rfl) (Nat.le_of_ble_eq_true rfl) (Nat.le_of_ble_eq_true rfl) (fun r3 h4 => ?_)
    refine gf_istore_n C dX12_ask_16 rfl [some (.ref 117), some (.int a1), some (.int r3), none, none, none, none, none, none] rfl rfl (Nat.le_of_ble_eq_true rfl) (gf_iconst C dX12_ask_17 ki_m1 (gf_istore_n C dX12_ask_18 rfl [some (.ref 117), some (.int a1), some (.int r3), some (.int (-1 : Int32)), none, none, none, none, none] rfl rfl (Nat.le_of_ble_eq_true rfl) (gf_iconst C dX12_ask_19 ki_0 (gf_istore C dX12_ask_20 [some (.ref 117), some (.int a1), some (.int r3), some (.int (-1 : Int32)), some (.int (0 : Int32)), none, none, none, none] rfl rfl (Nat.le_of_ble_eq_true rfl) ?_))))
    refine gf_sub [some (.ref 117), some (.int a1), some (.int r3), some (.int (-1 : Int32)), some (.int (0 : Int32)), none, none, none, none] (And.intro rfl (And.intro rfl (And.intro rfl (And.intro rfl (And.intro rfl trivial))))) ?_
    refine lp_P (fun (c9 : Int32 → Int32 → Int32 → Hp → Option (Int32 × Hp)) => ∀ (v5 : Int32) (v6 : Int32) (v7 : Int32) (h8 : Hp), GF K eI h8 22 [some (.ref 117), some (.int a1), some (.int v5), some (.int v6), some (.int v7), none, none, none, none] [] (c9 v5 v6 v7 h8)) (fun _ _ _ _ => gf_none) (fun c9 kc9 v5 v6 v7 h8 => ?_) r3 (-1 : Int32) (0 : Int32) h4
    refine gf_iload C dX12_ask_22 rfl (gf_aload_n C dX12_ask_24 rfl rfl (gf_getI C dX12_ask_25 fl_X12_166 s_117 rfl 7504 rfl ?_))
    refine gf_icmpge C 156 dX12_ask_28 (by decide) (fun _ => ?_) (fun _ => ?_)
    · refine gf_iconst C dX12_ask_31 ki_0 (gf_istore C dX12_ask_32 [some (.ref 117), some (.int a1), some (.int v5), some (.int v6), some (.int v7), some (.int (0 : Int32)), none, none, none] rfl rfl (Nat.le_of_ble_eq_true rfl) ?_)
      refine gf_sub [some (.ref 117), some (.int a1), some (.int v5), some (.int v6), some (.int v7), some (.int (0 : Int32)), none, none, none] (And.intro rfl (And.intro rfl (And.intro rfl (And.intro rfl (And.intro rfl (And.intro rfl trivial)))))) ?_
      refine lp_P (fun (c14 : Int32 → Int32 → Int32 → Hp → Option (Int32 × Hp)) => ∀ (v10 : Int32) (v11 : Int32) (v12 : Int32) (h13 : Hp), GF K eI h13 34 [some (.ref 117), some (.int a1), some (.int v10), some (.int v11), some (.int v7), some (.int v12), none, none, none] [] (c14 v10 v11 v12 h13)) (fun _ _ _ _ => gf_none) (fun c14 kc14 v10 v11 v12 h13 => ?_) v5 v6 (0 : Int32) h8
      refine gf_iload C dX12_ask_34 rfl (gf_aload_n C dX12_ask_36 rfl rfl (gf_getI C dX12_ask_37 fl_X12_169 s_117 rfl 7506 rfl ?_))
      refine gf_icmpge C 150 dX12_ask_40 (by decide) (fun _ => ?_) (fun _ => ?_)
      · refine gf_aload_n C dX12_ask_43 rfl rfl (gf_getR C dX12_ask_44 fl_X12_35 s_117 rfl 123 rfl (gf_iload C dX12_ask_47 rfl (gf_iald C dX12_ask_49 s_123 (gf_iconst C dX12_ask_50 ki_3 ?_))))
        refine gf_jn (fun (j18 : Int32 → Int32 → Hp → Option (Int32 × Hp)) => ∀ (v15 : Int32) (v16 : Int32) (h17 : Hp), GF K eI h17 144 [some (.ref 117), some (.int a1), some (.int v15), some (.int v16), some (.int v7), some (.int v12), none, none, none] [] (j18 v15 v16 h17)) ?_ (fun j18 kj18 => ?_)
        · intro v15 v16 h17
          refine gf_iinc C dX12_ask_144 rfl (ii_1 _) [some (.ref 117), some (.int a1), some (.int v15), some (.int v16), some (.int v7), some (.int (v12 + (1 : Int32))), none, none, none] rfl rfl ?_
          refine gf_goto C 34 dX12_ask_147 (by decide) ?_
          exact gf_sub [some (.ref 117), some (.int a1), some (.int v15), some (.int v16), some (.int v7), some (.int (v12 + (1 : Int32))), none, none, none] (And.intro rfl (And.intro rfl (And.intro rfl (And.intro rfl (And.intro rfl (And.intro rfl trivial)))))) (kc14 v15 v16 (v12 + (1 : Int32)) h17)
        refine gf_icmpeq C 144 dX12_ask_51 (by decide) (fun _ => ?_) (fun _ => ?_)
        · exact gf_sub [some (.ref 117), some (.int a1), some (.int v10), some (.int v11), some (.int v7), some (.int v12), none, none, none] (And.intro rfl (And.intro rfl (And.intro rfl (And.intro rfl (And.intro rfl (And.intro rfl trivial)))))) (kj18 v10 v11 h13)
        · refine gf_aload_n C dX12_ask_54 rfl rfl (gf_iload C dX12_ask_55 rfl (gf_iconst C dX12_ask_57 ki_2 (gf_iload C dX12_ask_58 rfl (gf_iadd C dX12_ask_60 ?_))))
          refine gf_callV (ε2 := eI) C [.int v7, .int ((2 : Int32) + v12)] dX12_ask_61 mw_X12_pieceAt ml_X12_192 s_117 (fun rZ hZ eZ => ok_X12_pieceAt v7 ((2 : Int32) + v12) h13 rZ hZ eZ) rfl rfl rfl (Nat.le_of_ble_eq_true rfl) (Nat.le_of_ble_eq_true rfl) (Nat.le_of_ble_eq_true rfl) (fun r19 h20 => ?_)
          refine gf_iconst C dX12_ask_64 ki_m1 ?_
          refine gf_icmpne C 144 dX12_ask_65 (by decide) (fun _ => ?_) (fun _ => ?_)
          · refine gf_aload_n C dX12_ask_68 rfl rfl (gf_iload C dX12_ask_69 rfl (gf_iconst C dX12_ask_71 ki_2 (gf_iload C dX12_ask_72 rfl (gf_iadd C dX12_ask_74 (gf_iconst C dX12_ask_75 ki_0 ?_)))))
            refine gf_callV (ε2 := eI) C [.int v7, .int ((2 : Int32) + v12), .int (0 : Int32)] dX12_ask_76 mw_X12_wouldBe ml_X12_310 s_117 (fun rZ hZ eZ => ok_X12_wouldBe v7 ((2 : Int32) + v12) (0 : Int32) h20 rZ hZ eZ) rfl rfl rfl (Nat.le_of_ble_eq_true rfl) (Nat.le_of_ble_eq_true rfl) (Nat.le_of_ble_eq_true rfl) (fun r21 h22 => ?_)
            refine gf_istore C dX12_ask_79 [some (.ref 117), some (.int a1), some (.int v10), some (.int v11), some (.int v7), some (.int v12), some (.int r21), none, none] rfl rfl (Nat.le_of_ble_eq_true rfl) (gf_aload_n C dX12_ask_81 rfl rfl (gf_iload C dX12_ask_82 rfl (gf_iconst C dX12_ask_84 ki_2 (gf_iload C dX12_ask_85 rfl (gf_iadd C dX12_ask_87 (gf_iconst C dX12_ask_88 ki_1 ?_))))))
            refine gf_callV (ε2 := eI) C [.int v7, .int ((2 : Int32) + v12), .int (1 : Int32)] dX12_ask_89 mw_X12_wouldBe ml_X12_310 s_117 (fun rZ hZ eZ => ok_X12_wouldBe v7 ((2 : Int32) + v12) (1 : Int32) h22 rZ hZ eZ) rfl rfl rfl (Nat.le_of_ble_eq_true rfl) (Nat.le_of_ble_eq_true rfl) (Nat.le_of_ble_eq_true rfl) (fun r23 h24 => ?_)
            refine gf_istore C dX12_ask_92 [some (.ref 117), some (.int a1), some (.int v10), some (.int v11), some (.int v7), some (.int v12), some (.int r21), some (.int r23), none] rfl rfl (Nat.le_of_ble_eq_true rfl) (gf_iload C dX12_ask_94 rfl (gf_iload C dX12_ask_96 rfl ?_))
            refine gf_jn (fun (j27 : Int32 → Hp → Option (Int32 × Hp)) => ∀ (s25 : Int32) (h26 : Hp), GF K eI h26 108 [some (.ref 117), some (.int a1), some (.int v10), some (.int v11), some (.int v7), some (.int v12), none, none, none] [.int s25] (j27 s25 h26)) ?_ (fun j27 kj27 => ?_)
            · intro s25 h26
              refine gf_istore C dX12_ask_108 [some (.ref 117), some (.int a1), some (.int v10), some (.int v11), some (.int v7), some (.int v12), none, none, some (.int s25)] rfl rfl (Nat.le_of_ble_eq_true rfl) (gf_iload C dX12_ask_110 rfl (gf_iload_n C dX12_ask_112 rfl rfl ?_))
              refine gf_jn (fun (j30 : Int32 → Hp → Option (Int32 × Hp)) => ∀ (s28 : Int32) (h29 : Hp), GF K eI h29 130 [some (.ref 117), some (.int a1), some (.int v10), none, some (.int v7), some (.int v12), none, none, some (.int s25)] [.int s28] (j30 s28 h29)) ?_ (fun j30 kj30 => ?_)
              · intro s28 h29
                refine gf_istore_n C dX12_ask_130 rfl [some (.ref 117), some (.int a1), some (.int v10), some (.int s28), some (.int v7), some (.int v12), none, none, some (.int s25)] rfl rfl (Nat.le_of_ble_eq_true rfl) (gf_iload C dX12_ask_131 rfl (gf_iload_n C dX12_ask_133 rfl rfl ?_))
                refine gf_jn (fun (j33 : Int32 → Hp → Option (Int32 × Hp)) => ∀ (s31 : Int32) (h32 : Hp), GF K eI h32 143 [some (.ref 117), some (.int a1), none, some (.int s28), some (.int v7), some (.int v12), none, none, none] [.int s31] (j33 s31 h32)) ?_ (fun j33 kj33 => ?_)
                · intro s31 h32
                  refine gf_istore_n C dX12_ask_143 rfl [some (.ref 117), some (.int a1), some (.int s31), some (.int s28), some (.int v7), some (.int v12), none, none, none] rfl rfl (Nat.le_of_ble_eq_true rfl) ?_
                  exact gf_sub [some (.ref 117), some (.int a1), some (.int s31), some (.int s28), some (.int v7), some (.int v12), none, none, none] (And.intro rfl (And.intro rfl (And.intro rfl (And.intro rfl (And.intro rfl (And.intro rfl trivial)))))) (kj18 s31 s28 h32)
                refine gf_icmpge C 142 dX12_ask_134 (by decide) (fun _ => ?_) (fun _ => ?_)
                · refine gf_iload C dX12_ask_137 rfl ?_
                  refine gf_goto C 143 dX12_ask_139 (by decide) ?_
                  exact gf_sub [some (.ref 117), some (.int a1), none, some (.int s28), some (.int v7), some (.int v12), none, none, none] (And.intro rfl (And.intro rfl (And.intro rfl (And.intro rfl (And.intro rfl trivial))))) (kj33 s25 h29)
                · refine gf_iload_n C dX12_ask_142 rfl rfl ?_
                  exact gf_sub [some (.ref 117), some (.int a1), none, some (.int s28), some (.int v7), some (.int v12), none, none, none] (And.intro rfl (And.intro rfl (And.intro rfl (And.intro rfl (And.intro rfl trivial))))) (kj33 v10 h29)
              refine gf_icmpge C 129 dX12_ask_113 (by decide) (fun _ => ?_) (fun _ => ?_)
              · refine gf_bipush C dX12_ask_116 kb_10 (gf_iload C dX12_ask_118 rfl (gf_imul C dX12_ask_120 (gf_iconst C dX12_ask_121 ki_2 (gf_iadd C dX12_ask_122 (gf_iload C dX12_ask_123 rfl (gf_iadd C dX12_ask_125 ?_))))))
                refine gf_goto C 130 dX12_ask_126 (by decide) ?_
                exact gf_sub [some (.ref 117), some (.int a1), some (.int v10), none, some (.int v7), some (.int v12), none, none, some (.int s25)] (And.intro rfl (And.intro rfl (And.intro rfl (And.intro rfl (And.intro rfl (And.intro rfl trivial)))))) (kj30 ((((10 : Int32) * v7) + (2 : Int32)) + v12) h26)
              · refine gf_iload_n C dX12_ask_129 rfl rfl ?_
                exact gf_sub [some (.ref 117), some (.int a1), some (.int v10), none, some (.int v7), some (.int v12), none, none, some (.int s25)] (And.intro rfl (And.intro rfl (And.intro rfl (And.intro rfl (And.intro rfl (And.intro rfl trivial)))))) (kj30 v11 h26)
            refine gf_icmple C 106 dX12_ask_98 (by decide) (fun _ => ?_) (fun _ => ?_)
            · refine gf_iload C dX12_ask_101 rfl ?_
              refine gf_goto C 108 dX12_ask_103 (by decide) ?_
              exact gf_sub [some (.ref 117), some (.int a1), some (.int v10), some (.int v11), some (.int v7), some (.int v12), none, none, none] (And.intro rfl (And.intro rfl (And.intro rfl (And.intro rfl (And.intro rfl (And.intro rfl trivial)))))) (kj27 r21 h24)
            · refine gf_iload C dX12_ask_106 rfl ?_
              exact gf_sub [some (.ref 117), some (.int a1), some (.int v10), some (.int v11), some (.int v7), some (.int v12), none, none, none] (And.intro rfl (And.intro rfl (And.intro rfl (And.intro rfl (And.intro rfl (And.intro rfl trivial)))))) (kj27 r23 h24)
          · exact gf_sub [some (.ref 117), some (.int a1), some (.int v10), some (.int v11), some (.int v7), some (.int v12), none, none, none] (And.intro rfl (And.intro rfl (And.intro rfl (And.intro rfl (And.intro rfl (And.intro rfl trivial)))))) (kj18 v10 v11 h20)
      · refine gf_iinc C dX12_ask_150 rfl (ii_1 _) [some (.ref 117), some (.int a1), some (.int v10), some (.int v11), some (.int (v7 + (1 : Int32))), some (.int v12), none, none, none] rfl rfl ?_
        refine gf_goto C 22 dX12_ask_153 (by decide) ?_
        exact gf_sub [some (.ref 117), some (.int a1), some (.int v10), some (.int v11), some (.int (v7 + (1 : Int32))), none, none, none, none] (And.intro rfl (And.intro rfl (And.intro rfl (And.intro rfl (And.intro rfl trivial))))) (kc9 v10 v11 (v7 + (1 : Int32)) h13)
    · refine gf_iload_n C dX12_ask_156 rfl rfl (gf_iconst C dX12_ask_157 ki_m1 ?_)
      refine gf_jn (fun (j36 : Int32 → Hp → Option (Int32 × Hp)) => ∀ (s34 : Int32) (h35 : Hp), GF K eI h35 170 [none, none, none, none, none, none, none, none, none] [.int s34] (j36 s34 h35)) ?_ (fun j36 kj36 => ?_)
      · intro s34 h35
        exact gf_iret C dX12_ask_170 rfl
      refine gf_jn (fun (j38 : Hp → Option (Int32 × Hp)) => ∀ (h37 : Hp), GF K eI h37 165 [none, none, none, some (.int v6), none, none, none, none, none] [] (j38 h37)) ?_ (fun j38 kj38 => ?_)
      · intro h37
        refine gf_iload_n C dX12_ask_165 rfl rfl ?_
        refine gf_goto C 170 dX12_ask_166 (by decide) ?_
        exact gf_sub [none, none, none, none, none, none, none, none, none] trivial (kj36 v6 h37)
      refine gf_icmpeq C 165 dX12_ask_158 (by decide) (fun _ => ?_) (fun _ => ?_)
      · exact gf_sub [none, none, none, some (.int v6), none, none, none, none, none] (And.intro rfl trivial) (kj38 h8)
      · refine gf_iload_n C dX12_ask_161 rfl rfl ?_
        refine gf_ifne C 169 dX12_ask_162 (by decide) (fun _ => ?_) (fun _ => ?_)
        · exact gf_sub [none, none, none, some (.int v6), none, none, none, none, none] (And.intro rfl trivial) (kj38 h8)
        · refine gf_iload_n C dX12_ask_169 rfl rfl ?_
          exact gf_sub [none, none, none, none, none, none, none, none, none] trivial (kj36 v5 h8)
def F_X12_isStrip (a1 : Int32) (h : Hp) : Option (Int32 × Hp) :=
  bd (F_X12_within a1 (0 : Int32) (2 : Int32) h) (fun r1 h2 => gd (isB r1) ( some (r1, h2)))
set_option maxRecDepth 100000 in
set_option maxHeartbeats 4000000 in
theorem ok_X12_isStrip (a1 : Int32) (h : Hp) (rZ : Int32) (hZ : Hp) (eZ : F_X12_isStrip a1 h = some (rZ, hZ)) : AC yX12_isStrip cX12_isStrip 1 (some .boolean) 1 22 [.int a1] h (eI rZ) hZ := by
  refine AC_intro (o := F_X12_isStrip a1 h) RX12 rfl (plainFor_of_name (by decide)) [some (.int a1)] rfl (fun _ => rfl) (fun _ => Nat.le_of_ble_eq_true rfl) eZ (fun K C => ?_)
  unfold F_X12_isStrip
  refine gf_iload_n C dX12_isStrip_0 rfl rfl (gf_iconst C dX12_isStrip_1 ki_0 (gf_iconst C dX12_isStrip_2 ki_2 ?_))
  refine gf_callS (ε2 := eI) C [.int a1, .int (0 : Int32), .int (2 : Int32)] dX12_isStrip_3 mw_X12_within ml_X12_88 (fun rZ hZ eZ => ok_X12_within a1 (0 : Int32) (2 : Int32) h rZ hZ eZ) rfl rfl rfl (Nat.le_of_ble_eq_true rfl) (Nat.le_of_ble_eq_true rfl) (Nat.le_of_ble_eq_true rfl) (fun r1 h2 => ?_)
  refine gf_gd (fun b3 => ?_)
  exact gf_zret C dX12_isStrip_6 (isB_nar b3) rfl
def F_X12_lack (a1 : Int32) (a2 : Int32) (h : Hp) : Option (Int32 × Hp) :=
  gd (inb a1 3) ( jn (fun (s1 : Int32) (h2 : Hp) =>
  some (s1, h2)) (fun j3 => if (aG h 138 a1.toNatClampNeg) = (-1 : Int32) then (
  j3 (-11 : Int32) h) else (
  gd (inb a1 3) ( bd (F_X12_within a2 (0 : Int32) ((aG h 138 a1.toNatClampNeg) - (1 : Int32)) h) (fun r4 h5 => if r4 = 0 then (
  j3 (-12 : Int32) h5) else (
  j3 (0 : Int32) h5))))))
set_option maxRecDepth 100000 in
set_option maxHeartbeats 4000000 in
theorem ok_X12_lack (a1 : Int32) (a2 : Int32) (h : Hp) (rZ : Int32) (hZ : Hp) (eZ : F_X12_lack a1 a2 h = some (rZ, hZ)) : AC yX12_lack cX12_lack 3 (some .int) 1 22 [.ref 117, .int a1, .int a2] h (eI rZ) hZ := by
  refine AC_intro (o := F_X12_lack a1 a2 h) RX12 rfl (plainFor_of_name (by decide)) [some (.ref 117), some (.int a1), some (.int a2)] rfl (fun _ => rfl) (fun _ => Nat.le_of_ble_eq_true rfl) eZ (fun K C => ?_)
  unfold F_X12_lack
  refine gf_aload_n C dX12_lack_0 rfl rfl (gf_getR C dX12_lack_1 fl_X12_82 s_117 rfl 138 rfl (gf_iload_n C dX12_lack_4 rfl rfl (gf_iald C dX12_lack_5 s_138 (gf_iconst C dX12_lack_6 ki_m1 ?_))))
  refine gf_jn (fun (j3 : Int32 → Hp → Option (Int32 × Hp)) => ∀ (s1 : Int32) (h2 : Hp), GF K eI h2 37 [none, none, none] [.int s1] (j3 s1 h2)) ?_ (fun j3 kj3 => ?_)
  · intro s1 h2
    exact gf_iret C dX12_lack_37 rfl
  refine gf_icmpne C 15 dX12_lack_7 (by decide) (fun _ => ?_) (fun _ => ?_)
  · refine gf_bipush C dX12_lack_10 kb_m11 ?_
    refine gf_goto C 37 dX12_lack_12 (by decide) ?_
    exact gf_sub [none, none, none] trivial (kj3 (-11 : Int32) h)
  · refine gf_iload_n C dX12_lack_15 rfl rfl (gf_iconst C dX12_lack_16 ki_0 (gf_aload_n C dX12_lack_17 rfl rfl (gf_getR C dX12_lack_18 fl_X12_82 s_117 rfl 138 rfl (gf_iload_n C dX12_lack_21 rfl rfl (gf_iald C dX12_lack_22 s_138 (gf_iconst C dX12_lack_23 ki_1 (gf_isub C dX12_lack_24 ?_)))))))
    refine gf_callS (ε2 := eI) C [.int a2, .int (0 : Int32), .int ((aG h 138 a1.toNatClampNeg) - (1 : Int32))] dX12_lack_25 mw_X12_within ml_X12_88 (fun rZ hZ eZ => ok_X12_within a2 (0 : Int32) ((aG h 138 a1.toNatClampNeg) - (1 : Int32)) h rZ hZ eZ) rfl rfl rfl (Nat.le_of_ble_eq_true rfl) (Nat.le_of_ble_eq_true rfl) (Nat.le_of_ble_eq_true rfl) (fun r4 h5 => ?_)
    refine gf_ifeq C 35 dX12_lack_28 (by decide) (fun _ => ?_) (fun _ => ?_)
    · refine gf_bipush C dX12_lack_35 kb_m12 ?_
      exact gf_sub [none, none, none] trivial (kj3 (-12 : Int32) h5)
    · refine gf_iconst C dX12_lack_31 ki_0 ?_
      refine gf_goto C 37 dX12_lack_32 (by decide) ?_
      exact gf_sub [none, none, none] trivial (kj3 (0 : Int32) h5)
def F_X12_strip (a1 : Int32) (a2 : Int32) (h : Hp) : Option (Int32 × Hp) :=
  bd (F_X12_isStrip a1 h) (fun r1 h2 => if r1 = 0 then (
  some ((-2 : Int32), h2)) else (
  if (8 : Int32) < a2 then (
  some ((-3 : Int32), h2)) else (
  if a2 < 0 then (
  some ((-13 : Int32), h2)) else (
  gd (inb a1 3) ( jl (aS h2 138 a1.toNatClampNeg a2) (fun h3 => (lp 4000000000 (fun (c6 : Int32 → Hp → Option (Int32 × Hp)) (v4 : Int32) (h5 : Hp) =>
  if v4 < a2 then (
  gd (inb (((8 : Int32) * a1) + v4) 24) ( jl (lS h5 139 (((8 : Int32) * a1) + v4).toNatClampNeg (0 : Int64)) (fun h7 => c6 (v4 + (1 : Int32)) h7))) else (
  some (a2, h5))) (fun _ _ => none)) (0 : Int32) h3))))))
set_option maxRecDepth 100000 in
set_option maxHeartbeats 4000000 in
theorem ok_X12_strip (a1 : Int32) (a2 : Int32) (h : Hp) (rZ : Int32) (hZ : Hp) (eZ : F_X12_strip a1 a2 h = some (rZ, hZ)) : AC yX12_strip cX12_strip 4 (some .int) 2 42 [.ref 117, .int a1, .int a2] h (eI rZ) hZ := by
  refine AC_intro (o := F_X12_strip a1 a2 h) RX12 rfl (plainFor_of_name (by decide)) [some (.ref 117), some (.int a1), some (.int a2), none] rfl (fun _ => rfl) (fun _ => Nat.le_of_ble_eq_true rfl) eZ (fun K C => ?_)
  unfold F_X12_strip
  refine gf_iload_n C dX12_strip_0 rfl rfl ?_
  refine gf_callS (ε2 := eI) C [.int a1] dX12_strip_1 mw_X12_isStrip ml_X12_314 (fun rZ hZ eZ => ok_X12_isStrip a1 h rZ hZ eZ) rfl rfl rfl (Nat.le_of_ble_eq_true rfl) (Nat.le_of_ble_eq_true rfl) (Nat.le_of_ble_eq_true rfl) (fun r1 h2 => ?_)
  refine gf_ifne C 10 dX12_strip_4 (by decide) (fun _ => ?_) (fun _ => ?_)
  · refine gf_bipush C dX12_strip_7 kb_m2 ?_
    exact gf_iret C dX12_strip_9 rfl
  · refine gf_iload_n C dX12_strip_10 rfl rfl (gf_bipush C dX12_strip_11 kb_8 ?_)
    refine gf_icmple C 19 dX12_strip_13 (by decide) (fun _ => ?_) (fun _ => ?_)
    · refine gf_bipush C dX12_strip_16 kb_m3 ?_
      exact gf_iret C dX12_strip_18 rfl
    · refine gf_iload_n C dX12_strip_19 rfl rfl ?_
      refine gf_ifge C 26 dX12_strip_20 (by decide) (fun _ => ?_) (fun _ => ?_)
      · refine gf_bipush C dX12_strip_23 kb_m13 ?_
        exact gf_iret C dX12_strip_25 rfl
      · refine gf_aload_n C dX12_strip_26 rfl rfl (gf_getR C dX12_strip_27 fl_X12_82 s_117 rfl 138 rfl (gf_iload_n C dX12_strip_30 rfl rfl (gf_iload_n C dX12_strip_31 rfl rfl (gf_iast C dX12_strip_32 s_138 ?_))))
        refine gf_jlH (fun h3 => ?_)
        refine gf_iconst C dX12_strip_33 ki_0 (gf_istore_n C dX12_strip_34 rfl [some (.ref 117), some (.int a1), some (.int a2), some (.int (0 : Int32))] rfl rfl (Nat.le_of_ble_eq_true rfl) ?_)
        refine gf_sub [some (.ref 117), some (.int a1), some (.int a2), some (.int (0 : Int32))] (And.intro rfl (And.intro rfl (And.intro rfl (And.intro rfl trivial)))) ?_
        refine lp_P (fun (c6 : Int32 → Hp → Option (Int32 × Hp)) => ∀ (v4 : Int32) (h5 : Hp), GF K eI h5 35 [some (.ref 117), some (.int a1), some (.int a2), some (.int v4)] [] (c6 v4 h5)) (fun _ _ => gf_none) (fun c6 kc6 v4 h5 => ?_) (0 : Int32) h3
        refine gf_iload_n C dX12_strip_35 rfl rfl (gf_iload_n C dX12_strip_36 rfl rfl ?_)
        refine gf_icmpge C 58 dX12_strip_37 (by decide) (fun _ => ?_) (fun _ => ?_)
        · refine gf_aload_n C dX12_strip_40 rfl rfl (gf_getR C dX12_strip_41 fl_X12_85 s_117 rfl 139 rfl (gf_bipush C dX12_strip_44 kb_8 (gf_iload_n C dX12_strip_46 rfl rfl (gf_imul C dX12_strip_47 (gf_iload_n C dX12_strip_48 rfl rfl (gf_iadd C dX12_strip_49 (gf_lconst C dX12_strip_50 kl_0 ?_)))))))
          refine gf_last C dX12_strip_51 s_139 ?_
          refine gf_jlH (fun h7 => ?_)
          refine gf_iinc C dX12_strip_52 rfl (ii_1 _) [some (.ref 117), some (.int a1), some (.int a2), some (.int (v4 + (1 : Int32)))] rfl rfl ?_
          refine gf_goto C 35 dX12_strip_55 (by decide) ?_
          exact gf_sub [some (.ref 117), some (.int a1), some (.int a2), some (.int (v4 + (1 : Int32)))] (And.intro rfl (And.intro rfl (And.intro rfl (And.intro rfl trivial)))) (kc6 (v4 + (1 : Int32)) h7)
        · refine gf_iload_n C dX12_strip_58 rfl rfl ?_
          exact gf_iret C dX12_strip_59 rfl
def F_X12_set (a1 : Int32) (a2 : Int32) (a3 : Int32) (h : Hp) : Option (Int32 × Hp) :=
  bd (F_X12_isStrip a1 h) (fun r1 h2 => if r1 = 0 then (
  some ((-2 : Int32), h2)) else (
  bd (F_X12_lack a1 a2 h2) (fun r3 h4 => if r3 = 0 then (
  gd (inb (((8 : Int32) * a1) + a2) 24) ( jl (lS h4 139 (((8 : Int32) * a1) + a2).toNatClampNeg a3.toInt64) (fun h5 => some ((1 : Int32), h5)))) else (
  some (r3, h4)))))
set_option maxRecDepth 100000 in
set_option maxHeartbeats 4000000 in
theorem ok_X12_set (a1 : Int32) (a2 : Int32) (a3 : Int32) (h : Hp) (rZ : Int32) (hZ : Hp) (eZ : F_X12_set a1 a2 a3 h = some (rZ, hZ)) : AC yX12_set cX12_set 5 (some .int) 2 44 [.ref 117, .int a1, .int a2, .int a3] h (eI rZ) hZ := by
  refine AC_intro (o := F_X12_set a1 a2 a3 h) RX12 rfl (plainFor_of_name (by decide)) [some (.ref 117), some (.int a1), some (.int a2), some (.int a3), none] rfl (fun _ => rfl) (fun _ => Nat.le_of_ble_eq_true rfl) eZ (fun K C => ?_)
  unfold F_X12_set
  refine gf_iload_n C dX12_set_0 rfl rfl ?_
  refine gf_callS (ε2 := eI) C [.int a1] dX12_set_1 mw_X12_isStrip ml_X12_314 (fun rZ hZ eZ => ok_X12_isStrip a1 h rZ hZ eZ) rfl rfl rfl (Nat.le_of_ble_eq_true rfl) (Nat.le_of_ble_eq_true rfl) (Nat.le_of_ble_eq_true rfl) (fun r1 h2 => ?_)
  refine gf_ifne C 10 dX12_set_4 (by decide) (fun _ => ?_) (fun _ => ?_)
  · refine gf_bipush C dX12_set_7 kb_m2 ?_
    exact gf_iret C dX12_set_9 rfl
  · refine gf_aload_n C dX12_set_10 rfl rfl (gf_iload_n C dX12_set_11 rfl rfl (gf_iload_n C dX12_set_12 rfl rfl ?_))
    refine gf_callV (ε2 := eI) C [.int a1, .int a2] dX12_set_13 mw_X12_lack ml_X12_317 s_117 (fun rZ hZ eZ => ok_X12_lack a1 a2 h2 rZ hZ eZ) rfl rfl rfl (Nat.le_of_ble_eq_true rfl) (Nat.le_of_ble_eq_true rfl) (Nat.le_of_ble_eq_true rfl) (fun r3 h4 => ?_)
    refine gf_istore C dX12_set_16 [some (.ref 117), some (.int a1), some (.int a2), some (.int a3), some (.int r3)] rfl rfl (Nat.le_of_ble_eq_true rfl) (gf_iload C dX12_set_18 rfl ?_)
    refine gf_ifeq C 26 dX12_set_20 (by decide) (fun _ => ?_) (fun _ => ?_)
    · refine gf_aload_n C dX12_set_26 rfl rfl (gf_getR C dX12_set_27 fl_X12_85 s_117 rfl 139 rfl (gf_bipush C dX12_set_30 kb_8 (gf_iload_n C dX12_set_32 rfl rfl (gf_imul C dX12_set_33 (gf_iload_n C dX12_set_34 rfl rfl (gf_iadd C dX12_set_35 (gf_iload_n C dX12_set_36 rfl rfl ?_)))))))
      refine gf_i2l C dX12_set_37 (gf_last C dX12_set_38 s_139 ?_)
      refine gf_jlH (fun h5 => ?_)
      refine gf_iconst C dX12_set_39 ki_1 ?_
      exact gf_iret C dX12_set_40 rfl
    · refine gf_iload C dX12_set_23 rfl ?_
      exact gf_iret C dX12_set_25 rfl
def F_X12_load (a1 : Int32) (a2 : Int32) (a3 : Int32) (a4 : Int32) (h : Hp) : Option (Int32 × Hp) :=
  bd (F_X12_isStrip a1 h) (fun r1 h2 => jn (fun (h3 : Hp) =>
  some ((-2 : Int32), h3)) (fun j4 => if r1 = 0 then (
  j4 h2) else (
  bd (F_X12_isPicture a3 h2) (fun r5 h6 => if r5 = 0 then (
  j4 h6) else (
  bd (F_X12_within a4 (0 : Int32) (1 : Int32) h6) (fun r7 h8 => if r7 = 0 then (
  some ((-3 : Int32), h8)) else (
  bd (F_X12_lack a1 a2 h8) (fun r9 h10 => if r9 = 0 then (
  bd (F_X12_many h10) (fun r11 h12 => jn (fun (s13 : Int64) (h14 : Hp) =>
  gd (inb (((8 : Int32) * a1) + a2) 24) ( jl (lS h14 139 (((8 : Int32) * a1) + a2).toNatClampNeg s13) (fun h16 => gd (inb (((8 : Int32) * a1) + a2) 24) ( bd (F_X12_ones (lG h16 139 (((8 : Int32) * a1) + a2).toNatClampNeg) h16) (fun r17 h18 => some (r17, h18)))))) (fun j15 => if a4 = 0 then (
  gd (inb a3 7) ( j15 (lG h12 129 a3.toNatClampNeg) h12)) else (
  gd (inb a3 7) ( j15 (lG h12 134 a3.toNatClampNeg) h12))))) else (
  some (r9, h10))))))))))
set_option maxRecDepth 100000 in
set_option maxHeartbeats 4000000 in
theorem ok_X12_load (a1 : Int32) (a2 : Int32) (a3 : Int32) (a4 : Int32) (h : Hp) (rZ : Int32) (hZ : Hp) (eZ : F_X12_load a1 a2 a3 a4 h = some (rZ, hZ)) : AC yX12_load cX12_load 6 (some .int) 7 160 [.ref 117, .int a1, .int a2, .int a3, .int a4] h (eI rZ) hZ := by
  refine AC_intro (o := F_X12_load a1 a2 a3 a4 h) RX12 rfl (plainFor_of_name (by decide)) [some (.ref 117), some (.int a1), some (.int a2), some (.int a3), some (.int a4), none] rfl (fun _ => rfl) (fun _ => Nat.le_of_ble_eq_true rfl) eZ (fun K C => ?_)
  unfold F_X12_load
  refine gf_iload_n C dX12_load_0 rfl rfl ?_
  refine gf_callS (ε2 := eI) C [.int a1] dX12_load_1 mw_X12_isStrip ml_X12_314 (fun rZ hZ eZ => ok_X12_isStrip a1 h rZ hZ eZ) rfl rfl rfl (Nat.le_of_ble_eq_true rfl) (Nat.le_of_ble_eq_true rfl) (Nat.le_of_ble_eq_true rfl) (fun r1 h2 => ?_)
  refine gf_jn (fun (j4 : Hp → Option (Int32 × Hp)) => ∀ (h3 : Hp), GF K eI h3 15 [none, none, none, none, none, none] [] (j4 h3)) ?_ (fun j4 kj4 => ?_)
  · intro h3
    refine gf_bipush C dX12_load_15 kb_m2 ?_
    exact gf_iret C dX12_load_17 rfl
  refine gf_ifeq C 15 dX12_load_4 (by decide) (fun _ => ?_) (fun _ => ?_)
  · exact gf_sub [none, none, none, none, none, none] trivial (kj4 h2)
  · refine gf_aload_n C dX12_load_7 rfl rfl (gf_iload_n C dX12_load_8 rfl rfl ?_)
    refine gf_callV (ε2 := eI) C [.int a3] dX12_load_9 mw_X12_isPicture ml_X12_269 s_117 (fun rZ hZ eZ => ok_X12_isPicture a3 h2 rZ hZ eZ) rfl rfl rfl (Nat.le_of_ble_eq_true rfl) (Nat.le_of_ble_eq_true rfl) (Nat.le_of_ble_eq_true rfl) (fun r5 h6 => ?_)
    refine gf_ifne C 18 dX12_load_12 (by decide) (fun _ => ?_) (fun _ => ?_)
    · exact gf_sub [none, none, none, none, none, none] trivial (kj4 h6)
    · refine gf_iload C dX12_load_18 rfl (gf_iconst C dX12_load_20 ki_0 (gf_iconst C dX12_load_21 ki_1 ?_))
      refine gf_callS (ε2 := eI) C [.int a4, .int (0 : Int32), .int (1 : Int32)] dX12_load_22 mw_X12_within ml_X12_88 (fun rZ hZ eZ => ok_X12_within a4 (0 : Int32) (1 : Int32) h6 rZ hZ eZ) rfl rfl rfl (Nat.le_of_ble_eq_true rfl) (Nat.le_of_ble_eq_true rfl) (Nat.le_of_ble_eq_true rfl) (fun r7 h8 => ?_)
      refine gf_ifne C 31 dX12_load_25 (by decide) (fun _ => ?_) (fun _ => ?_)
      · refine gf_bipush C dX12_load_28 kb_m3 ?_
        exact gf_iret C dX12_load_30 rfl
      · refine gf_aload_n C dX12_load_31 rfl rfl (gf_iload_n C dX12_load_32 rfl rfl (gf_iload_n C dX12_load_33 rfl rfl ?_))
        refine gf_callV (ε2 := eI) C [.int a1, .int a2] dX12_load_34 mw_X12_lack ml_X12_317 s_117 (fun rZ hZ eZ => ok_X12_lack a1 a2 h8 rZ hZ eZ) rfl rfl rfl (Nat.le_of_ble_eq_true rfl) (Nat.le_of_ble_eq_true rfl) (Nat.le_of_ble_eq_true rfl) (fun r9 h10 => ?_)
        refine gf_istore C dX12_load_37 [some (.ref 117), some (.int a1), some (.int a2), some (.int a3), some (.int a4), some (.int r9)] rfl rfl (Nat.le_of_ble_eq_true rfl) (gf_iload C dX12_load_39 rfl ?_)
        refine gf_ifeq C 47 dX12_load_41 (by decide) (fun _ => ?_) (fun _ => ?_)
        · refine gf_aload_n C dX12_load_47 rfl rfl ?_
          refine gf_callV (ε2 := eI) C [] dX12_load_48 mw_X12_many ml_X12_301 s_117 (fun rZ hZ eZ => ok_X12_many  h10 rZ hZ eZ) rfl rfl rfl (Nat.le_of_ble_eq_true rfl) (Nat.le_of_ble_eq_true rfl) (Nat.le_of_ble_eq_true rfl) (fun r11 h12 => ?_)
          refine gf_pop C dX12_load_51 rfl (gf_aload_n C dX12_load_52 rfl rfl (gf_getR C dX12_load_53 fl_X12_85 s_117 rfl 139 rfl (gf_bipush C dX12_load_56 kb_8 (gf_iload_n C dX12_load_58 rfl rfl (gf_imul C dX12_load_59 (gf_iload_n C dX12_load_60 rfl rfl (gf_iadd C dX12_load_61 ?_)))))))
          refine gf_iload C dX12_load_62 rfl ?_
          refine gf_jn (fun (j15 : Int64 → Hp → Option (Int32 × Hp)) => ∀ (s13 : Int64) (h14 : Hp), GF K eI h14 82 [some (.ref 117), some (.int a1), some (.int a2), none, none, none] [.long s13, .int (((8 : Int32) * a1) + a2), .ref 139] (j15 s13 h14)) ?_ (fun j15 kj15 => ?_)
          · intro s13 h14
            refine gf_last C dX12_load_82 s_139 ?_
            refine gf_jlH (fun h16 => ?_)
            refine gf_aload_n C dX12_load_83 rfl rfl (gf_getR C dX12_load_84 fl_X12_85 s_117 rfl 139 rfl (gf_bipush C dX12_load_87 kb_8 (gf_iload_n C dX12_load_89 rfl rfl (gf_imul C dX12_load_90 (gf_iload_n C dX12_load_91 rfl rfl (gf_iadd C dX12_load_92 (gf_lald C dX12_load_93 s_139 ?_)))))))
            refine gf_callS (ε2 := eI) C [.long (lG h16 139 (((8 : Int32) * a1) + a2).toNatClampNeg)] dX12_load_94 mw_X12_ones ml_X12_262 (fun rZ hZ eZ => ok_X12_ones (lG h16 139 (((8 : Int32) * a1) + a2).toNatClampNeg) h16 rZ hZ eZ) rfl rfl rfl (Nat.le_of_ble_eq_true rfl) (Nat.le_of_ble_eq_true rfl) (Nat.le_of_ble_eq_true rfl) (fun r17 h18 => ?_)
            exact gf_iret C dX12_load_97 rfl
          refine gf_ifne C 76 dX12_load_64 (by decide) (fun _ => ?_) (fun _ => ?_)
          · refine gf_aload_n C dX12_load_67 rfl rfl (gf_getR C dX12_load_68 fl_X12_54 s_117 rfl 129 rfl (gf_iload_n C dX12_load_71 rfl rfl (gf_lald C dX12_load_72 s_129 ?_)))
            refine gf_goto C 82 dX12_load_73 (by decide) ?_
            exact gf_sub [some (.ref 117), some (.int a1), some (.int a2), none, none, none] (And.intro rfl (And.intro rfl (And.intro rfl trivial))) (kj15 (lG h12 129 a3.toNatClampNeg) h12)
          · refine gf_aload_n C dX12_load_76 rfl rfl (gf_getR C dX12_load_77 fl_X12_70 s_117 rfl 134 rfl (gf_iload_n C dX12_load_80 rfl rfl (gf_lald C dX12_load_81 s_134 ?_)))
            exact gf_sub [some (.ref 117), some (.int a1), some (.int a2), none, none, none] (And.intro rfl (And.intro rfl (And.intro rfl trivial))) (kj15 (lG h12 134 a3.toNatClampNeg) h12)
        · refine gf_iload C dX12_load_44 rfl ?_
          exact gf_iret C dX12_load_46 rfl
def F_X12_work (a1 : Int32) (a2 : Int32) (a3 : Int32) (a4 : Int32) (h : Hp) : Option (Int32 × Hp) :=
  bd (F_X12_isStrip a1 h) (fun r1 h2 => if r1 = 0 then (
  some ((-2 : Int32), h2)) else (
  bd (F_X12_within a3 (0 : Int32) (3 : Int32) h2) (fun r3 h4 => jn (fun (h5 : Hp) =>
  some ((-3 : Int32), h5)) (fun j6 => if r3 = 0 then (
  j6 h4) else (
  jn (fun (h7 : Hp) =>
  bd (F_X12_lack a1 a2 h7) (fun r9 h10 => jn (fun (s11 : Int32) (h12 : Hp) =>
  if s11 = 0 then (
  gd (inb (((8 : Int32) * a1) + a2) 24) ( jl (lG h12 139 (((8 : Int32) * a1) + a2).toNatClampNeg) (fun x14 => jn (fun (s15 : Int64) (h16 : Hp) =>
  jn (fun (s18 : Int64) (h19 : Hp) =>
  jl (tS h19 7526 s18) (fun h21 => gd (inb (((8 : Int32) * a1) + a2) 24) ( jl (lS h21 139 (((8 : Int32) * a1) + a2).toNatClampNeg (tG h21 7526)) (fun h22 => some ((1 : Int32), h22))))) (fun j20 => if a3 = 0 then (
  j20 (x14 &&& s15) h16) else (
  if a3 = (1 : Int32) then (
  j20 (x14 ||| s15) h16) else (
  if a3 = (2 : Int32) then (
  j20 (x14 <<< (a4.toInt64 &&& 63)) h16) else (
  j20 (x14 >>> (a4.toInt64 &&& 63)) h16))))) (fun j17 => if a3 < (2 : Int32) then (
  gd (inb (((8 : Int32) * a1) + a4) 24) ( j17 (lG h12 139 (((8 : Int32) * a1) + a4).toNatClampNeg) h12)) else (
  j17 (0 : Int64) h12))))) else (
  some (s11, h12))) (fun j13 => jn (fun (h23 : Hp) =>
  j13 r9 h23) (fun j24 => if a3 < (2 : Int32) then (
  if r9 = 0 then (
  bd (F_X12_lack a1 a4 h10) (fun r25 h26 => j13 r25 h26)) else (
  j24 h10)) else (
  j24 h10))))) (fun j8 => if (1 : Int32) < a3 then (
  bd (F_X12_within a4 (0 : Int32) (99 : Int32) h4) (fun r27 h28 => if r27 = 0 then (
  j6 h28) else (
  j8 h28))) else (
  j8 h4)))))))
set_option maxRecDepth 100000 in
set_option maxHeartbeats 4000000 in
theorem ok_X12_work (a1 : Int32) (a2 : Int32) (a3 : Int32) (a4 : Int32) (h : Hp) (rZ : Int32) (hZ : Hp) (eZ : F_X12_work a1 a2 a3 a4 h = some (rZ, hZ)) : AC yX12_work cX12_work 11 (some .int) 2 44 [.ref 117, .int a1, .int a2, .int a3, .int a4] h (eI rZ) hZ := by
  refine AC_intro (o := F_X12_work a1 a2 a3 a4 h) RX12 rfl (plainFor_of_name (by decide)) [some (.ref 117), some (.int a1), some (.int a2), some (.int a3), some (.int a4), none, none, none, none, none, none] rfl (fun _ => rfl) (fun _ => Nat.le_of_ble_eq_true rfl) eZ (fun K C => ?_)
  unfold F_X12_work
  refine gf_iload_n C dX12_work_0 rfl rfl ?_
  refine gf_callS (ε2 := eI) C [.int a1] dX12_work_1 mw_X12_isStrip ml_X12_314 (fun rZ hZ eZ => ok_X12_isStrip a1 h rZ hZ eZ) rfl rfl rfl (Nat.le_of_ble_eq_true rfl) (Nat.le_of_ble_eq_true rfl) (Nat.le_of_ble_eq_true rfl) (fun r1 h2 => ?_)
  refine gf_ifne C 10 dX12_work_4 (by decide) (fun _ => ?_) (fun _ => ?_)
  · refine gf_bipush C dX12_work_7 kb_m2 ?_
    exact gf_iret C dX12_work_9 rfl
  · refine gf_iload_n C dX12_work_10 rfl rfl (gf_iconst C dX12_work_11 ki_0 (gf_iconst C dX12_work_12 ki_3 ?_))
    refine gf_callS (ε2 := eI) C [.int a3, .int (0 : Int32), .int (3 : Int32)] dX12_work_13 mw_X12_within ml_X12_88 (fun rZ hZ eZ => ok_X12_within a3 (0 : Int32) (3 : Int32) h2 rZ hZ eZ) rfl rfl rfl (Nat.le_of_ble_eq_true rfl) (Nat.le_of_ble_eq_true rfl) (Nat.le_of_ble_eq_true rfl) (fun r3 h4 => ?_)
    refine gf_jn (fun (j6 : Hp → Option (Int32 × Hp)) => ∀ (h5 : Hp), GF K eI h5 35 [none, none, none, none, none, none, none, none, none, none, none] [] (j6 h5)) ?_ (fun j6 kj6 => ?_)
    · intro h5
      refine gf_bipush C dX12_work_35 kb_m3 ?_
      exact gf_iret C dX12_work_37 rfl
    refine gf_ifeq C 35 dX12_work_16 (by decide) (fun _ => ?_) (fun _ => ?_)
    · exact gf_sub [none, none, none, none, none, none, none, none, none, none, none] trivial (kj6 h4)
    · refine gf_iload_n C dX12_work_19 rfl rfl (gf_iconst C dX12_work_20 ki_1 ?_)
      refine gf_jn (fun (j8 : Hp → Option (Int32 × Hp)) => ∀ (h7 : Hp), GF K eI h7 38 [some (.ref 117), some (.int a1), some (.int a2), some (.int a3), some (.int a4), none, none, none, none, none, none] [] (j8 h7)) ?_ (fun j8 kj8 => ?_)
      · intro h7
        refine gf_aload_n C dX12_work_38 rfl rfl (gf_iload_n C dX12_work_39 rfl rfl (gf_iload_n C dX12_work_40 rfl rfl ?_))
        refine gf_callV (ε2 := eI) C [.int a1, .int a2] dX12_work_41 mw_X12_lack ml_X12_317 s_117 (fun rZ hZ eZ => ok_X12_lack a1 a2 h7 rZ hZ eZ) rfl rfl rfl (Nat.le_of_ble_eq_true rfl) (Nat.le_of_ble_eq_true rfl) (Nat.le_of_ble_eq_true rfl) (fun r9 h10 => ?_)
        refine gf_istore C dX12_work_44 [some (.ref 117), some (.int a1), some (.int a2), some (.int a3), some (.int a4), some (.int r9), none, none, none, none, none] rfl rfl (Nat.le_of_ble_eq_true rfl) (gf_iload_n C dX12_work_46 rfl rfl (gf_iconst C dX12_work_47 ki_2 ?_))
        refine gf_jn (fun (j13 : Int32 → Hp → Option (Int32 × Hp)) => ∀ (s11 : Int32) (h12 : Hp), GF K eI h12 68 [some (.ref 117), some (.int a1), some (.int a2), some (.int a3), some (.int a4), none, none, none, none, none, none] [.int s11] (j13 s11 h12)) ?_ (fun j13 kj13 => ?_)
        · intro s11 h12
          refine gf_istore C dX12_work_68 [some (.ref 117), some (.int a1), some (.int a2), some (.int a3), some (.int a4), none, some (.int s11), none, none, none, none] rfl rfl (Nat.le_of_ble_eq_true rfl) (gf_iload C dX12_work_70 rfl ?_)
          refine gf_ifeq C 78 dX12_work_72 (by decide) (fun _ => ?_) (fun _ => ?_)
          · refine gf_aload_n C dX12_work_78 rfl rfl (gf_getR C dX12_work_79 fl_X12_85 s_117 rfl 139 rfl (gf_bipush C dX12_work_82 kb_8 (gf_iload_n C dX12_work_84 rfl rfl (gf_imul C dX12_work_85 (gf_iload_n C dX12_work_86 rfl rfl (gf_iadd C dX12_work_87 (gf_lald C dX12_work_88 s_139 ?_)))))))
            refine gf_jlL (fun x14 => ?_)
            refine gf_lstore C dX12_work_89 [some (.ref 117), some (.int a1), some (.int a2), some (.int a3), some (.int a4), none, some (.int s11), some (.long x14), none, none, none] rfl rfl (Nat.le_of_ble_eq_true rfl) (gf_iload_n C dX12_work_91 rfl rfl (gf_iconst C dX12_work_92 ki_2 ?_))
            refine gf_jn (fun (j17 : Int64 → Hp → Option (Int32 × Hp)) => ∀ (s15 : Int64) (h16 : Hp), GF K eI h16 112 [some (.ref 117), some (.int a1), some (.int a2), some (.int a3), some (.int a4), none, none, some (.long x14), none, none, none] [.long s15] (j17 s15 h16)) ?_ (fun j17 kj17 => ?_)
            · intro s15 h16
              refine gf_lstore C dX12_work_112 [some (.ref 117), some (.int a1), some (.int a2), some (.int a3), some (.int a4), none, none, some (.long x14), none, some (.long s15), none] rfl rfl (Nat.le_of_ble_eq_true rfl) (gf_aload_n C dX12_work_114 rfl rfl (gf_iload_n C dX12_work_115 rfl rfl ?_))
              refine gf_jn (fun (j20 : Int64 → Hp → Option (Int32 × Hp)) => ∀ (s18 : Int64) (h19 : Hp), GF K eI h19 158 [some (.ref 117), some (.int a1), some (.int a2), none, none, none, none, none, none, none, none] [.long s18, .ref 117] (j20 s18 h19)) ?_ (fun j20 kj20 => ?_)
              · intro s18 h19
                refine gf_putL C dX12_work_158 fp_X12_320 s_117 rfl 7526 rfl ?_
                refine gf_jlH (fun h21 => ?_)
                refine gf_aload_n C dX12_work_161 rfl rfl (gf_getR C dX12_work_162 fl_X12_85 s_117 rfl 139 rfl (gf_bipush C dX12_work_165 kb_8 (gf_iload_n C dX12_work_167 rfl rfl (gf_imul C dX12_work_168 (gf_iload_n C dX12_work_169 rfl rfl (gf_iadd C dX12_work_170 (gf_aload_n C dX12_work_171 rfl rfl ?_)))))))
                refine gf_getL C dX12_work_172 fl_X12_320 s_117 rfl 7526 rfl (gf_last C dX12_work_175 s_139 ?_)
                refine gf_jlH (fun h22 => ?_)
                refine gf_iconst C dX12_work_176 ki_1 ?_
                exact gf_iret C dX12_work_177 rfl
              refine gf_ifne C 127 dX12_work_116 (by decide) (fun _ => ?_) (fun _ => ?_)
              · refine gf_lload C dX12_work_119 rfl (gf_lload C dX12_work_121 rfl (gf_land C dX12_work_123 ?_))
                refine gf_goto C 158 dX12_work_124 (by decide) ?_
                exact gf_sub [some (.ref 117), some (.int a1), some (.int a2), none, none, none, none, none, none, none, none] (And.intro rfl (And.intro rfl (And.intro rfl trivial))) (kj20 (x14 &&& s15) h16)
              · refine gf_iload_n C dX12_work_127 rfl rfl (gf_iconst C dX12_work_128 ki_1 ?_)
                refine gf_icmpne C 140 dX12_work_129 (by decide) (fun _ => ?_) (fun _ => ?_)
                · refine gf_lload C dX12_work_132 rfl (gf_lload C dX12_work_134 rfl (gf_lor C dX12_work_136 ?_))
                  refine gf_goto C 158 dX12_work_137 (by decide) ?_
                  exact gf_sub [some (.ref 117), some (.int a1), some (.int a2), none, none, none, none, none, none, none, none] (And.intro rfl (And.intro rfl (And.intro rfl trivial))) (kj20 (x14 ||| s15) h16)
                · refine gf_iload_n C dX12_work_140 rfl rfl (gf_iconst C dX12_work_141 ki_2 ?_)
                  refine gf_icmpne C 153 dX12_work_142 (by decide) (fun _ => ?_) (fun _ => ?_)
                  · refine gf_lload C dX12_work_145 rfl (gf_iload C dX12_work_147 rfl (gf_lshl C dX12_work_149 ?_))
                    refine gf_goto C 158 dX12_work_150 (by decide) ?_
                    exact gf_sub [some (.ref 117), some (.int a1), some (.int a2), none, none, none, none, none, none, none, none] (And.intro rfl (And.intro rfl (And.intro rfl trivial))) (kj20 (x14 <<< (a4.toInt64 &&& 63)) h16)
                  · refine gf_lload C dX12_work_153 rfl (gf_iload C dX12_work_155 rfl (gf_lshr C dX12_work_157 ?_))
                    exact gf_sub [some (.ref 117), some (.int a1), some (.int a2), none, none, none, none, none, none, none, none] (And.intro rfl (And.intro rfl (And.intro rfl trivial))) (kj20 (x14 >>> (a4.toInt64 &&& 63)) h16)
            refine gf_icmpge C 111 dX12_work_93 (by decide) (fun _ => ?_) (fun _ => ?_)
            · refine gf_aload_n C dX12_work_96 rfl rfl (gf_getR C dX12_work_97 fl_X12_85 s_117 rfl 139 rfl (gf_bipush C dX12_work_100 kb_8 (gf_iload_n C dX12_work_102 rfl rfl (gf_imul C dX12_work_103 (gf_iload C dX12_work_104 rfl (gf_iadd C dX12_work_106 (gf_lald C dX12_work_107 s_139 ?_)))))))
              refine gf_goto C 112 dX12_work_108 (by decide) ?_
              exact gf_sub [some (.ref 117), some (.int a1), some (.int a2), some (.int a3), some (.int a4), none, none, some (.long x14), none, none, none] (And.intro rfl (And.intro rfl (And.intro rfl (And.intro rfl (And.intro rfl (And.intro rfl trivial)))))) (kj17 (lG h12 139 (((8 : Int32) * a1) + a4).toNatClampNeg) h12)
            · refine gf_lconst C dX12_work_111 kl_0 ?_
              exact gf_sub [some (.ref 117), some (.int a1), some (.int a2), some (.int a3), some (.int a4), none, none, some (.long x14), none, none, none] (And.intro rfl (And.intro rfl (And.intro rfl (And.intro rfl (And.intro rfl (And.intro rfl trivial)))))) (kj17 (0 : Int64) h12)
          · refine gf_iload C dX12_work_75 rfl ?_
            exact gf_iret C dX12_work_77 rfl
        refine gf_jn (fun (j24 : Hp → Option (Int32 × Hp)) => ∀ (h23 : Hp), GF K eI h23 66 [some (.ref 117), some (.int a1), some (.int a2), some (.int a3), some (.int a4), some (.int r9), none, none, none, none, none] [] (j24 h23)) ?_ (fun j24 kj24 => ?_)
        · intro h23
          refine gf_iload C dX12_work_66 rfl ?_
          exact gf_sub [some (.ref 117), some (.int a1), some (.int a2), some (.int a3), some (.int a4), none, none, none, none, none, none] (And.intro rfl (And.intro rfl (And.intro rfl (And.intro rfl (And.intro rfl trivial))))) (kj13 r9 h23)
        refine gf_icmpge C 66 dX12_work_48 (by decide) (fun _ => ?_) (fun _ => ?_)
        · refine gf_iload C dX12_work_51 rfl ?_
          refine gf_ifne C 66 dX12_work_53 (by decide) (fun _ => ?_) (fun _ => ?_)
          · refine gf_aload_n C dX12_work_56 rfl rfl (gf_iload_n C dX12_work_57 rfl rfl (gf_iload C dX12_work_58 rfl ?_))
            refine gf_callV (ε2 := eI) C [.int a1, .int a4] dX12_work_60 mw_X12_lack ml_X12_317 s_117 (fun rZ hZ eZ => ok_X12_lack a1 a4 h10 rZ hZ eZ) rfl rfl rfl (Nat.le_of_ble_eq_true rfl) (Nat.le_of_ble_eq_true rfl) (Nat.le_of_ble_eq_true rfl) (fun r25 h26 => ?_)
            refine gf_goto C 68 dX12_work_63 (by decide) ?_
            exact gf_sub [some (.ref 117), some (.int a1), some (.int a2), some (.int a3), some (.int a4), none, none, none, none, none, none] (And.intro rfl (And.intro rfl (And.intro rfl (And.intro rfl (And.intro rfl trivial))))) (kj13 r25 h26)
          · exact gf_sub [some (.ref 117), some (.int a1), some (.int a2), some (.int a3), some (.int a4), some (.int r9), none, none, none, none, none] (And.intro rfl (And.intro rfl (And.intro rfl (And.intro rfl (And.intro rfl (And.intro rfl trivial)))))) (kj24 h10)
        · exact gf_sub [some (.ref 117), some (.int a1), some (.int a2), some (.int a3), some (.int a4), some (.int r9), none, none, none, none, none] (And.intro rfl (And.intro rfl (And.intro rfl (And.intro rfl (And.intro rfl (And.intro rfl trivial)))))) (kj24 h10)
      refine gf_icmple C 38 dX12_work_21 (by decide) (fun _ => ?_) (fun _ => ?_)
      · refine gf_iload C dX12_work_24 rfl (gf_iconst C dX12_work_26 ki_0 (gf_bipush C dX12_work_27 kb_99 ?_))
        refine gf_callS (ε2 := eI) C [.int a4, .int (0 : Int32), .int (99 : Int32)] dX12_work_29 mw_X12_within ml_X12_88 (fun rZ hZ eZ => ok_X12_within a4 (0 : Int32) (99 : Int32) h4 rZ hZ eZ) rfl rfl rfl (Nat.le_of_ble_eq_true rfl) (Nat.le_of_ble_eq_true rfl) (Nat.le_of_ble_eq_true rfl) (fun r27 h28 => ?_)
        refine gf_ifne C 38 dX12_work_32 (by decide) (fun _ => ?_) (fun _ => ?_)
        · exact gf_sub [none, none, none, none, none, none, none, none, none, none, none] trivial (kj6 h28)
        · exact gf_sub [some (.ref 117), some (.int a1), some (.int a2), some (.int a3), some (.int a4), none, none, none, none, none, none] (And.intro rfl (And.intro rfl (And.intro rfl (And.intro rfl (And.intro rfl trivial))))) (kj8 h28)
      · exact gf_sub [some (.ref 117), some (.int a1), some (.int a2), some (.int a3), some (.int a4), none, none, none, none, none, none] (And.intro rfl (And.intro rfl (And.intro rfl (And.intro rfl (And.intro rfl trivial))))) (kj8 h4)
def F_X12_bits (a1 : Int32) (a2 : Int32) (h : Hp) : Option (Int32 × Hp) :=
  bd (F_X12_isStrip a1 h) (fun r1 h2 => if r1 = 0 then (
  some ((-2 : Int32), h2)) else (
  bd (F_X12_lack a1 a2 h2) (fun r3 h4 => jn (fun (s5 : Int32) (h6 : Hp) =>
  some (s5, h6)) (fun j7 => if r3 = 0 then (
  gd (inb (((8 : Int32) * a1) + a2) 24) ( bd (F_X12_ones (lG h4 139 (((8 : Int32) * a1) + a2).toNatClampNeg) h4) (fun r8 h9 => j7 r8 h9))) else (
  j7 r3 h4)))))
set_option maxRecDepth 100000 in
set_option maxHeartbeats 4000000 in
theorem ok_X12_bits (a1 : Int32) (a2 : Int32) (h : Hp) (rZ : Int32) (hZ : Hp) (eZ : F_X12_bits a1 a2 h = some (rZ, hZ)) : AC yX12_bits cX12_bits 4 (some .int) 2 45 [.ref 117, .int a1, .int a2] h (eI rZ) hZ := by
  refine AC_intro (o := F_X12_bits a1 a2 h) RX12 rfl (plainFor_of_name (by decide)) [some (.ref 117), some (.int a1), some (.int a2), none] rfl (fun _ => rfl) (fun _ => Nat.le_of_ble_eq_true rfl) eZ (fun K C => ?_)
  unfold F_X12_bits
  refine gf_iload_n C dX12_bits_0 rfl rfl ?_
  refine gf_callS (ε2 := eI) C [.int a1] dX12_bits_1 mw_X12_isStrip ml_X12_314 (fun rZ hZ eZ => ok_X12_isStrip a1 h rZ hZ eZ) rfl rfl rfl (Nat.le_of_ble_eq_true rfl) (Nat.le_of_ble_eq_true rfl) (Nat.le_of_ble_eq_true rfl) (fun r1 h2 => ?_)
  refine gf_ifne C 10 dX12_bits_4 (by decide) (fun _ => ?_) (fun _ => ?_)
  · refine gf_bipush C dX12_bits_7 kb_m2 ?_
    exact gf_iret C dX12_bits_9 rfl
  · refine gf_aload_n C dX12_bits_10 rfl rfl (gf_iload_n C dX12_bits_11 rfl rfl (gf_iload_n C dX12_bits_12 rfl rfl ?_))
    refine gf_callV (ε2 := eI) C [.int a1, .int a2] dX12_bits_13 mw_X12_lack ml_X12_317 s_117 (fun rZ hZ eZ => ok_X12_lack a1 a2 h2 rZ hZ eZ) rfl rfl rfl (Nat.le_of_ble_eq_true rfl) (Nat.le_of_ble_eq_true rfl) (Nat.le_of_ble_eq_true rfl) (fun r3 h4 => ?_)
    refine gf_istore_n C dX12_bits_16 rfl [some (.ref 117), some (.int a1), some (.int a2), some (.int r3)] rfl rfl (Nat.le_of_ble_eq_true rfl) (gf_iload_n C dX12_bits_17 rfl rfl ?_)
    refine gf_jn (fun (j7 : Int32 → Hp → Option (Int32 × Hp)) => ∀ (s5 : Int32) (h6 : Hp), GF K eI h6 39 [none, none, none, none] [.int s5] (j7 s5 h6)) ?_ (fun j7 kj7 => ?_)
    · intro s5 h6
      exact gf_iret C dX12_bits_39 rfl
    refine gf_ifeq C 25 dX12_bits_18 (by decide) (fun _ => ?_) (fun _ => ?_)
    · refine gf_aload_n C dX12_bits_25 rfl rfl (gf_getR C dX12_bits_26 fl_X12_85 s_117 rfl 139 rfl (gf_bipush C dX12_bits_29 kb_8 (gf_iload_n C dX12_bits_31 rfl rfl (gf_imul C dX12_bits_32 (gf_iload_n C dX12_bits_33 rfl rfl (gf_iadd C dX12_bits_34 (gf_lald C dX12_bits_35 s_139 ?_)))))))
      refine gf_callS (ε2 := eI) C [.long (lG h4 139 (((8 : Int32) * a1) + a2).toNatClampNeg)] dX12_bits_36 mw_X12_ones ml_X12_262 (fun rZ hZ eZ => ok_X12_ones (lG h4 139 (((8 : Int32) * a1) + a2).toNatClampNeg) h4 rZ hZ eZ) rfl rfl rfl (Nat.le_of_ble_eq_true rfl) (Nat.le_of_ble_eq_true rfl) (Nat.le_of_ble_eq_true rfl) (fun r8 h9 => ?_)
      exact gf_sub [none, none, none, none] trivial (kj7 r8 h9)
    · refine gf_iload_n C dX12_bits_21 rfl rfl ?_
      refine gf_goto C 39 dX12_bits_22 (by decide) ?_
      exact gf_sub [none, none, none, none] trivial (kj7 r3 h4)
def F_X12_sum (a1 : Int32) (h : Hp) : Option (Int32 × Hp) :=
  bd (F_X12_isStrip a1 h) (fun r1 h2 => if r1 = 0 then (
  some ((-2 : Int32), h2)) else (
  gd (inb a1 3) ( if (aG h2 138 a1.toNatClampNeg) = (-1 : Int32) then (
  some ((-11 : Int32), h2)) else (
  jl (tS h2 7526 (0 : Int64)) (fun h3 => (lp 4000000000 (fun (c6 : Int32 → Hp → Option (Int32 × Hp)) (v4 : Int32) (h5 : Hp) =>
  gd (inb a1 3) ( if v4 < (aG h5 138 a1.toNatClampNeg) then (
  gd (inb (((8 : Int32) * a1) + v4) 24) ( jl (tS h5 7526 ((tG h5 7526) + (lG h5 139 (((8 : Int32) * a1) + v4).toNatClampNeg))) (fun h7 => c6 (v4 + (1 : Int32)) h7))) else (
  gd (inb a1 3) ( some (aG h5 138 a1.toNatClampNeg, h5))))) (fun _ _ => none)) (0 : Int32) h3)))))
set_option maxRecDepth 100000 in
set_option maxHeartbeats 4000000 in
theorem ok_X12_sum (a1 : Int32) (h : Hp) (rZ : Int32) (hZ : Hp) (eZ : F_X12_sum a1 h = some (rZ, hZ)) : AC yX12_sum cX12_sum 3 (some .int) 2 42 [.ref 117, .int a1] h (eI rZ) hZ := by
  refine AC_intro (o := F_X12_sum a1 h) RX12 rfl (plainFor_of_name (by decide)) [some (.ref 117), some (.int a1), none] rfl (fun _ => rfl) (fun _ => Nat.le_of_ble_eq_true rfl) eZ (fun K C => ?_)
  unfold F_X12_sum
  refine gf_iload_n C dX12_sum_0 rfl rfl ?_
  refine gf_callS (ε2 := eI) C [.int a1] dX12_sum_1 mw_X12_isStrip ml_X12_314 (fun rZ hZ eZ => ok_X12_isStrip a1 h rZ hZ eZ) rfl rfl rfl (Nat.le_of_ble_eq_true rfl) (Nat.le_of_ble_eq_true rfl) (Nat.le_of_ble_eq_true rfl) (fun r1 h2 => ?_)
  refine gf_ifne C 10 dX12_sum_4 (by decide) (fun _ => ?_) (fun _ => ?_)
  · refine gf_bipush C dX12_sum_7 kb_m2 ?_
    exact gf_iret C dX12_sum_9 rfl
  · refine gf_aload_n C dX12_sum_10 rfl rfl (gf_getR C dX12_sum_11 fl_X12_82 s_117 rfl 138 rfl (gf_iload_n C dX12_sum_14 rfl rfl (gf_iald C dX12_sum_15 s_138 (gf_iconst C dX12_sum_16 ki_m1 ?_))))
    refine gf_icmpne C 23 dX12_sum_17 (by decide) (fun _ => ?_) (fun _ => ?_)
    · refine gf_bipush C dX12_sum_20 kb_m11 ?_
      exact gf_iret C dX12_sum_22 rfl
    · refine gf_aload_n C dX12_sum_23 rfl rfl (gf_lconst C dX12_sum_24 kl_0 (gf_putL C dX12_sum_25 fp_X12_320 s_117 rfl 7526 rfl ?_))
      refine gf_jlH (fun h3 => ?_)
      refine gf_iconst C dX12_sum_28 ki_0 (gf_istore_n C dX12_sum_29 rfl [some (.ref 117), some (.int a1), some (.int (0 : Int32))] rfl rfl (Nat.le_of_ble_eq_true rfl) ?_)
      refine gf_sub [some (.ref 117), some (.int a1), some (.int (0 : Int32))] (And.intro rfl (And.intro rfl (And.intro rfl trivial))) ?_
      refine lp_P (fun (c6 : Int32 → Hp → Option (Int32 × Hp)) => ∀ (v4 : Int32) (h5 : Hp), GF K eI h5 30 [some (.ref 117), some (.int a1), some (.int v4)] [] (c6 v4 h5)) (fun _ _ => gf_none) (fun c6 kc6 v4 h5 => ?_) (0 : Int32) h3
      refine gf_iload_n C dX12_sum_30 rfl rfl (gf_aload_n C dX12_sum_31 rfl rfl (gf_getR C dX12_sum_32 fl_X12_82 s_117 rfl 138 rfl (gf_iload_n C dX12_sum_35 rfl rfl (gf_iald C dX12_sum_36 s_138 ?_))))
      refine gf_icmpge C 66 dX12_sum_37 (by decide) (fun _ => ?_) (fun _ => ?_)
      · refine gf_aload_n C dX12_sum_40 rfl rfl (gf_dup C dX12_sum_41 rfl (gf_getL C dX12_sum_42 fl_X12_320 s_117 rfl 7526 rfl (gf_aload_n C dX12_sum_45 rfl rfl (gf_getR C dX12_sum_46 fl_X12_85 s_117 rfl 139 rfl (gf_bipush C dX12_sum_49 kb_8 (gf_iload_n C dX12_sum_51 rfl rfl (gf_imul C dX12_sum_52 ?_)))))))
        refine gf_iload_n C dX12_sum_53 rfl rfl (gf_iadd C dX12_sum_54 (gf_lald C dX12_sum_55 s_139 (gf_ladd C dX12_sum_56 (gf_putL C dX12_sum_57 fp_X12_320 s_117 rfl 7526 rfl ?_))))
        refine gf_jlH (fun h7 => ?_)
        refine gf_iinc C dX12_sum_60 rfl (ii_1 _) [some (.ref 117), some (.int a1), some (.int (v4 + (1 : Int32)))] rfl rfl ?_
        refine gf_goto C 30 dX12_sum_63 (by decide) ?_
        exact gf_sub [some (.ref 117), some (.int a1), some (.int (v4 + (1 : Int32)))] (And.intro rfl (And.intro rfl (And.intro rfl trivial))) (kc6 (v4 + (1 : Int32)) h7)
      · refine gf_aload_n C dX12_sum_66 rfl rfl (gf_getR C dX12_sum_67 fl_X12_82 s_117 rfl 138 rfl (gf_iload_n C dX12_sum_70 rfl rfl (gf_iald C dX12_sum_71 s_138 ?_)))
        exact gf_iret C dX12_sum_72 rfl
def F_X12_drop (a1 : Int32) (h : Hp) : Option (Int32 × Hp) :=
  bd (F_X12_isStrip a1 h) (fun r1 h2 => if r1 = 0 then (
  some ((-2 : Int32), h2)) else (
  gd (inb a1 3) ( jl (aG h2 138 a1.toNatClampNeg) (fun x3 => gd (inb a1 3) ( jl (aS h2 138 a1.toNatClampNeg (-1 : Int32)) (fun h4 => jn (fun (s5 : Int32) (h6 : Hp) =>
  some (s5, h6)) (fun j7 => if x3 = (-1 : Int32) then (
  j7 (-11 : Int32) h4) else (
  j7 x3 h4))))))))
set_option maxRecDepth 100000 in
set_option maxHeartbeats 4000000 in
theorem ok_X12_drop (a1 : Int32) (h : Hp) (rZ : Int32) (hZ : Hp) (eZ : F_X12_drop a1 h = some (rZ, hZ)) : AC yX12_drop cX12_drop 3 (some .int) 2 42 [.ref 117, .int a1] h (eI rZ) hZ := by
  refine AC_intro (o := F_X12_drop a1 h) RX12 rfl (plainFor_of_name (by decide)) [some (.ref 117), some (.int a1), none] rfl (fun _ => rfl) (fun _ => Nat.le_of_ble_eq_true rfl) eZ (fun K C => ?_)
  unfold F_X12_drop
  refine gf_iload_n C dX12_drop_0 rfl rfl ?_
  refine gf_callS (ε2 := eI) C [.int a1] dX12_drop_1 mw_X12_isStrip ml_X12_314 (fun rZ hZ eZ => ok_X12_isStrip a1 h rZ hZ eZ) rfl rfl rfl (Nat.le_of_ble_eq_true rfl) (Nat.le_of_ble_eq_true rfl) (Nat.le_of_ble_eq_true rfl) (fun r1 h2 => ?_)
  refine gf_ifne C 10 dX12_drop_4 (by decide) (fun _ => ?_) (fun _ => ?_)
  · refine gf_bipush C dX12_drop_7 kb_m2 ?_
    exact gf_iret C dX12_drop_9 rfl
  · refine gf_aload_n C dX12_drop_10 rfl rfl (gf_getR C dX12_drop_11 fl_X12_82 s_117 rfl 138 rfl (gf_iload_n C dX12_drop_14 rfl rfl (gf_iald C dX12_drop_15 s_138 ?_)))
    refine gf_jlI (fun x3 => ?_)
    refine gf_istore_n C dX12_drop_16 rfl [some (.ref 117), some (.int a1), some (.int x3)] rfl rfl (Nat.le_of_ble_eq_true rfl) (gf_aload_n C dX12_drop_17 rfl rfl (gf_getR C dX12_drop_18 fl_X12_82 s_117 rfl 138 rfl (gf_iload_n C dX12_drop_21 rfl rfl (gf_iconst C dX12_drop_22 ki_m1 (gf_iast C dX12_drop_23 s_138 ?_)))))
    refine gf_jlH (fun h4 => ?_)
    refine gf_iload_n C dX12_drop_24 rfl rfl (gf_iconst C dX12_drop_25 ki_m1 ?_)
    refine gf_jn (fun (j7 : Int32 → Hp → Option (Int32 × Hp)) => ∀ (s5 : Int32) (h6 : Hp), GF K eI h6 35 [none, none, none] [.int s5] (j7 s5 h6)) ?_ (fun j7 kj7 => ?_)
    · intro s5 h6
      exact gf_iret C dX12_drop_35 rfl
    refine gf_icmpne C 34 dX12_drop_26 (by decide) (fun _ => ?_) (fun _ => ?_)
    · refine gf_bipush C dX12_drop_29 kb_m11 ?_
      refine gf_goto C 35 dX12_drop_31 (by decide) ?_
      exact gf_sub [none, none, none] trivial (kj7 (-11 : Int32) h4)
    · refine gf_iload_n C dX12_drop_34 rfl rfl ?_
      exact gf_sub [none, none, none] trivial (kj7 x3 h4)
def F_X12_latest (h : Hp) : Option (Int64 × Hp) :=
  some (tG h 7526, h)
set_option maxRecDepth 100000 in
set_option maxHeartbeats 4000000 in
theorem ok_X12_latest (h : Hp) (rZ : Int64) (hZ : Hp) (eZ : F_X12_latest h = some (rZ, hZ)) : AC yX12_latest cX12_latest 1 (some .long) 0 0 [.ref 117] h (eL rZ) hZ := by
  refine AC_intro (o := F_X12_latest h) RX12 rfl (plainFor_of_name (by decide)) [some (.ref 117)] rfl (fun _ => rfl) (fun _ => Nat.le_of_ble_eq_true rfl) eZ (fun K C => ?_)
  unfold F_X12_latest
  refine gf_aload_n C dX12_latest_0 rfl rfl (gf_getL C dX12_latest_1 fl_X12_320 s_117 rfl 7526 rfl ?_)
  exact gf_lret C dX12_latest_4 rfl
def F_X12_pairs (h : Hp) : Option (Int32 × Hp) :=
  (lp 4000000000 (fun (c4 : Int32 → Int32 → Hp → Option (Int32 × Hp)) (v1 : Int32) (v2 : Int32) (h3 : Hp) =>
  if v2 < (sG h3 7504) then (
  (lp 4000000000 (fun (c8 : Int32 → Int32 → Hp → Option (Int32 × Hp)) (v5 : Int32) (v6 : Int32) (h7 : Hp) =>
  if v6 < (sG h7 7504) then (
  jn (fun (s9 : Int32) (h10 : Hp) =>
  jl (v5 + s9) (fun x12 => c8 x12 (v6 + (1 : Int32)) h10)) (fun j11 => jn (fun (h13 : Hp) =>
  j11 (0 : Int32) h13) (fun j14 => if v2 = v6 then (
  j14 h7) else (
  bd (F_X12_isBefore v2 v6 h7) (fun r15 h16 => if r15 = 0 then (
  j14 h16) else (
  j11 (1 : Int32) h16)))))) else (
  c4 v5 (v2 + (1 : Int32)) h7)) (fun _ _ _ => none)) v1 (0 : Int32) h3) else (
  some (v1, h3))) (fun _ _ _ => none)) (0 : Int32) (0 : Int32) h
set_option maxRecDepth 100000 in
set_option maxHeartbeats 4000000 in
theorem ok_X12_pairs (h : Hp) (rZ : Int32) (hZ : Hp) (eZ : F_X12_pairs h = some (rZ, hZ)) : AC yX12_pairs cX12_pairs 4 (some .int) 4 100 [.ref 117] h (eI rZ) hZ := by
  refine AC_intro (o := F_X12_pairs h) RX12 rfl (plainFor_of_name (by decide)) [some (.ref 117), none, none, none] rfl (fun _ => rfl) (fun _ => Nat.le_of_ble_eq_true rfl) eZ (fun K C => ?_)
  unfold F_X12_pairs
  refine gf_iconst C dX12_pairs_0 ki_0 (gf_istore_n C dX12_pairs_1 rfl [some (.ref 117), some (.int (0 : Int32)), none, none] rfl rfl (Nat.le_of_ble_eq_true rfl) (gf_iconst C dX12_pairs_2 ki_0 (gf_istore_n C dX12_pairs_3 rfl [some (.ref 117), some (.int (0 : Int32)), some (.int (0 : Int32)), none] rfl rfl (Nat.le_of_ble_eq_true rfl) ?_)))
  refine gf_sub [some (.ref 117), some (.int (0 : Int32)), some (.int (0 : Int32)), none] (And.intro rfl (And.intro rfl (And.intro rfl trivial))) ?_
  refine lp_P (fun (c4 : Int32 → Int32 → Hp → Option (Int32 × Hp)) => ∀ (v1 : Int32) (v2 : Int32) (h3 : Hp), GF K eI h3 4 [some (.ref 117), some (.int v1), some (.int v2), none] [] (c4 v1 v2 h3)) (fun _ _ _ => gf_none) (fun c4 kc4 v1 v2 h3 => ?_) (0 : Int32) (0 : Int32) h
  refine gf_iload_n C dX12_pairs_4 rfl rfl (gf_aload_n C dX12_pairs_5 rfl rfl (gf_getI C dX12_pairs_6 fl_X12_166 s_117 rfl 7504 rfl ?_))
  refine gf_icmpge C 56 dX12_pairs_9 (by decide) (fun _ => ?_) (fun _ => ?_)
  · refine gf_iconst C dX12_pairs_12 ki_0 (gf_istore_n C dX12_pairs_13 rfl [some (.ref 117), some (.int v1), some (.int v2), some (.int (0 : Int32))] rfl rfl (Nat.le_of_ble_eq_true rfl) ?_)
    refine gf_sub [some (.ref 117), some (.int v1), some (.int v2), some (.int (0 : Int32))] (And.intro rfl (And.intro rfl (And.intro rfl (And.intro rfl trivial)))) ?_
    refine lp_P (fun (c8 : Int32 → Int32 → Hp → Option (Int32 × Hp)) => ∀ (v5 : Int32) (v6 : Int32) (h7 : Hp), GF K eI h7 14 [some (.ref 117), some (.int v5), some (.int v2), some (.int v6)] [] (c8 v5 v6 h7)) (fun _ _ _ => gf_none) (fun c8 kc8 v5 v6 h7 => ?_) v1 (0 : Int32) h3
    refine gf_iload_n C dX12_pairs_14 rfl rfl (gf_aload_n C dX12_pairs_15 rfl rfl (gf_getI C dX12_pairs_16 fl_X12_166 s_117 rfl 7504 rfl ?_))
    refine gf_icmpge C 50 dX12_pairs_19 (by decide) (fun _ => ?_) (fun _ => ?_)
    · refine gf_iload_n C dX12_pairs_22 rfl rfl (gf_iload_n C dX12_pairs_23 rfl rfl (gf_iload_n C dX12_pairs_24 rfl rfl ?_))
      refine gf_jn (fun (j11 : Int32 → Hp → Option (Int32 × Hp)) => ∀ (s9 : Int32) (h10 : Hp), GF K eI h10 42 [some (.ref 117), none, some (.int v2), some (.int v6)] [.int s9, .int v5] (j11 s9 h10)) ?_ (fun j11 kj11 => ?_)
      · intro s9 h10
        refine gf_iadd C dX12_pairs_42 ?_
        refine gf_jlI (fun x12 => ?_)
        refine gf_istore_n C dX12_pairs_43 rfl [some (.ref 117), some (.int x12), some (.int v2), some (.int v6)] rfl rfl (Nat.le_of_ble_eq_true rfl) (gf_iinc C dX12_pairs_44 rfl (ii_1 _) [some (.ref 117), some (.int x12), some (.int v2), some (.int (v6 + (1 : Int32)))] rfl rfl ?_)
        refine gf_goto C 14 dX12_pairs_47 (by decide) ?_
        exact gf_sub [some (.ref 117), some (.int x12), some (.int v2), some (.int (v6 + (1 : Int32)))] (And.intro rfl (And.intro rfl (And.intro rfl (And.intro rfl trivial)))) (kc8 x12 (v6 + (1 : Int32)) h10)
      refine gf_jn (fun (j14 : Hp → Option (Int32 × Hp)) => ∀ (h13 : Hp), GF K eI h13 41 [some (.ref 117), none, some (.int v2), some (.int v6)] [.int v5] (j14 h13)) ?_ (fun j14 kj14 => ?_)
      · intro h13
        refine gf_iconst C dX12_pairs_41 ki_0 ?_
        exact gf_sub [some (.ref 117), none, some (.int v2), some (.int v6)] (And.intro rfl (And.intro rfl (And.intro rfl trivial))) (kj11 (0 : Int32) h13)
      refine gf_icmpeq C 41 dX12_pairs_25 (by decide) (fun _ => ?_) (fun _ => ?_)
      · exact gf_sub [some (.ref 117), none, some (.int v2), some (.int v6)] (And.intro rfl (And.intro rfl (And.intro rfl trivial))) (kj14 h7)
      · refine gf_aload_n C dX12_pairs_28 rfl rfl (gf_iload_n C dX12_pairs_29 rfl rfl (gf_iload_n C dX12_pairs_30 rfl rfl ?_))
        refine gf_callV (ε2 := eI) C [.int v2, .int v6] dX12_pairs_31 mw_X12_isBefore ml_X12_266 s_117 (fun rZ hZ eZ => ok_X12_isBefore v2 v6 h7 rZ hZ eZ) rfl rfl rfl (Nat.le_of_ble_eq_true rfl) (Nat.le_of_ble_eq_true rfl) (Nat.le_of_ble_eq_true rfl) (fun r15 h16 => ?_)
        refine gf_ifeq C 41 dX12_pairs_34 (by decide) (fun _ => ?_) (fun _ => ?_)
        · exact gf_sub [some (.ref 117), none, some (.int v2), some (.int v6)] (And.intro rfl (And.intro rfl (And.intro rfl trivial))) (kj14 h16)
        · refine gf_iconst C dX12_pairs_37 ki_1 ?_
          refine gf_goto C 42 dX12_pairs_38 (by decide) ?_
          exact gf_sub [some (.ref 117), none, some (.int v2), some (.int v6)] (And.intro rfl (And.intro rfl (And.intro rfl trivial))) (kj11 (1 : Int32) h16)
    · refine gf_iinc C dX12_pairs_50 rfl (ii_1 _) [some (.ref 117), some (.int v5), some (.int (v2 + (1 : Int32))), some (.int v6)] rfl rfl ?_
      refine gf_goto C 4 dX12_pairs_53 (by decide) ?_
      exact gf_sub [some (.ref 117), some (.int v5), some (.int (v2 + (1 : Int32))), none] (And.intro rfl (And.intro rfl (And.intro rfl trivial))) (kc4 v5 (v2 + (1 : Int32)) h7)
  · refine gf_iload_n C dX12_pairs_56 rfl rfl ?_
    exact gf_iret C dX12_pairs_57 rfl
def F_X12_placesOfAll (h : Hp) : Option (Int32 × Hp) :=
  (lp 4000000000 (fun (c4 : Int32 → Int32 → Hp → Option (Int32 × Hp)) (v1 : Int32) (v2 : Int32) (h3 : Hp) =>
  if v2 < (3 : Int32) then (
  gd (inb v2 3) ( jn (fun (s5 : Int32) (h6 : Hp) =>
  jl (v1 + s5) (fun x8 => c4 x8 (v2 + (1 : Int32)) h6)) (fun j7 => if (aG h3 138 v2.toNatClampNeg) = (-1 : Int32) then (
  j7 (0 : Int32) h3) else (
  gd (inb v2 3) ( j7 (aG h3 138 v2.toNatClampNeg) h3))))) else (
  some (v1, h3))) (fun _ _ _ => none)) (0 : Int32) (0 : Int32) h
set_option maxRecDepth 100000 in
set_option maxHeartbeats 4000000 in
theorem ok_X12_placesOfAll (h : Hp) (rZ : Int32) (hZ : Hp) (eZ : F_X12_placesOfAll h = some (rZ, hZ)) : AC yX12_placesOfAll cX12_placesOfAll 3 (some .int) 0 0 [.ref 117] h (eI rZ) hZ := by
  refine AC_intro (o := F_X12_placesOfAll h) RX12 rfl (plainFor_of_name (by decide)) [some (.ref 117), none, none] rfl (fun _ => rfl) (fun _ => Nat.le_of_ble_eq_true rfl) eZ (fun K C => ?_)
  unfold F_X12_placesOfAll
  refine gf_iconst C dX12_placesOfAll_0 ki_0 (gf_istore_n C dX12_placesOfAll_1 rfl [some (.ref 117), some (.int (0 : Int32)), none] rfl rfl (Nat.le_of_ble_eq_true rfl) (gf_iconst C dX12_placesOfAll_2 ki_0 (gf_istore_n C dX12_placesOfAll_3 rfl [some (.ref 117), some (.int (0 : Int32)), some (.int (0 : Int32))] rfl rfl (Nat.le_of_ble_eq_true rfl) ?_)))
  refine gf_sub [some (.ref 117), some (.int (0 : Int32)), some (.int (0 : Int32))] (And.intro rfl (And.intro rfl (And.intro rfl trivial))) ?_
  refine lp_P (fun (c4 : Int32 → Int32 → Hp → Option (Int32 × Hp)) => ∀ (v1 : Int32) (v2 : Int32) (h3 : Hp), GF K eI h3 4 [some (.ref 117), some (.int v1), some (.int v2)] [] (c4 v1 v2 h3)) (fun _ _ _ => gf_none) (fun c4 kc4 v1 v2 h3 => ?_) (0 : Int32) (0 : Int32) h
  refine gf_iload_n C dX12_placesOfAll_4 rfl rfl (gf_iconst C dX12_placesOfAll_5 ki_3 ?_)
  refine gf_icmpge C 38 dX12_placesOfAll_6 (by decide) (fun _ => ?_) (fun _ => ?_)
  · refine gf_iload_n C dX12_placesOfAll_9 rfl rfl (gf_aload_n C dX12_placesOfAll_10 rfl rfl (gf_getR C dX12_placesOfAll_11 fl_X12_82 s_117 rfl 138 rfl (gf_iload_n C dX12_placesOfAll_14 rfl rfl (gf_iald C dX12_placesOfAll_15 s_138 (gf_iconst C dX12_placesOfAll_16 ki_m1 ?_)))))
    refine gf_jn (fun (j7 : Int32 → Hp → Option (Int32 × Hp)) => ∀ (s5 : Int32) (h6 : Hp), GF K eI h6 30 [some (.ref 117), none, some (.int v2)] [.int s5, .int v1] (j7 s5 h6)) ?_ (fun j7 kj7 => ?_)
    · intro s5 h6
      refine gf_iadd C dX12_placesOfAll_30 ?_
      refine gf_jlI (fun x8 => ?_)
      refine gf_istore_n C dX12_placesOfAll_31 rfl [some (.ref 117), some (.int x8), some (.int v2)] rfl rfl (Nat.le_of_ble_eq_true rfl) (gf_iinc C dX12_placesOfAll_32 rfl (ii_1 _) [some (.ref 117), some (.int x8), some (.int (v2 + (1 : Int32)))] rfl rfl ?_)
      refine gf_goto C 4 dX12_placesOfAll_35 (by decide) ?_
      exact gf_sub [some (.ref 117), some (.int x8), some (.int (v2 + (1 : Int32)))] (And.intro rfl (And.intro rfl (And.intro rfl trivial))) (kc4 x8 (v2 + (1 : Int32)) h6)
    refine gf_icmpne C 24 dX12_placesOfAll_17 (by decide) (fun _ => ?_) (fun _ => ?_)
    · refine gf_iconst C dX12_placesOfAll_20 ki_0 ?_
      refine gf_goto C 30 dX12_placesOfAll_21 (by decide) ?_
      exact gf_sub [some (.ref 117), none, some (.int v2)] (And.intro rfl (And.intro rfl trivial)) (kj7 (0 : Int32) h3)
    · refine gf_aload_n C dX12_placesOfAll_24 rfl rfl (gf_getR C dX12_placesOfAll_25 fl_X12_82 s_117 rfl 138 rfl (gf_iload_n C dX12_placesOfAll_28 rfl rfl (gf_iald C dX12_placesOfAll_29 s_138 ?_)))
      exact gf_sub [some (.ref 117), none, some (.int v2)] (And.intro rfl (And.intro rfl trivial)) (kj7 (aG h3 138 v2.toNatClampNeg) h3)
  · refine gf_iload_n C dX12_placesOfAll_38 rfl rfl ?_
    exact gf_iret C dX12_placesOfAll_39 rfl
def F_X12_count (a1 : Int32) (h : Hp) : Option (Int32 × Hp) :=
  if a1 = (0 : Int32) then (
  some (sG h 7504, h)) else (if a1 = (1 : Int32) then (
  some (sG h 7506, h)) else (if a1 = (2 : Int32) then (
  gd (inb (0 : Int32) 225) ( some (aG h 124 (0 : Int32).toNatClampNeg, h))) else (if a1 = (3 : Int32) then (
  bd (F_X12_pairs h) (fun r4 h5 => some (r4, h5))) else (if a1 = (4 : Int32) then (
  some (sG h 7501, h)) else (if a1 = (5 : Int32) then (
  some (sG h 7502, h)) else (if a1 = (6 : Int32) then (
  some (sG h 7503, h)) else (if a1 = (7 : Int32) then (
  bd (F_X12_placesOfAll h) (fun r10 h11 => some (r10, h11))) else (if a1 = (8 : Int32) then (
  some (sG h 7510, h)) else (if a1 = (9 : Int32) then (
  some (sG h 7489, h)) else (
  some ((-3 : Int32), h)))))))))))
set_option maxRecDepth 100000 in
set_option maxHeartbeats 4000000 in
theorem ok_X12_count (a1 : Int32) (h : Hp) (rZ : Int32) (hZ : Hp) (eZ : F_X12_count a1 h = some (rZ, hZ)) : AC yX12_count cX12_count 2 (some .int) 5 123 [.ref 117, .int a1] h (eI rZ) hZ := by
  refine AC_intro (o := F_X12_count a1 h) RX12 rfl (plainFor_of_name (by decide)) [some (.ref 117), some (.int a1)] rfl (fun _ => rfl) (fun _ => Nat.le_of_ble_eq_true rfl) eZ (fun K C => ?_)
  unfold F_X12_count
  refine gf_iload_n C dX12_count_0 rfl rfl ?_
  refine gf_swC (off := 55) C (0 : Int32) 56 dX12_count_1 (by decide) (by decide) (by decide) (by decide) (fun _ => ?_) (fun c1 => ?_)
  · refine gf_aload_n C dX12_count_56 rfl rfl (gf_getI C dX12_count_57 fl_X12_166 s_117 rfl 7504 rfl ?_)
    exact gf_iret C dX12_count_60 rfl
  refine gf_swC (off := 60) C (1 : Int32) 61 dX12_count_1 (by decide) (by decide) (by decide) (by decide) (fun _ => ?_) (fun c2 => ?_)
  · refine gf_aload_n C dX12_count_61 rfl rfl (gf_getI C dX12_count_62 fl_X12_169 s_117 rfl 7506 rfl ?_)
    exact gf_iret C dX12_count_65 rfl
  refine gf_swC (off := 65) C (2 : Int32) 66 dX12_count_1 (by decide) (by decide) (by decide) (by decide) (fun _ => ?_) (fun c3 => ?_)
  · refine gf_aload_n C dX12_count_66 rfl rfl (gf_getR C dX12_count_67 fl_X12_38 s_117 rfl 124 rfl (gf_iconst C dX12_count_70 ki_0 (gf_iald C dX12_count_71 s_124 ?_)))
    exact gf_iret C dX12_count_72 rfl
  refine gf_swC (off := 72) C (3 : Int32) 73 dX12_count_1 (by decide) (by decide) (by decide) (by decide) (fun _ => ?_) (fun c6 => ?_)
  · refine gf_aload_n C dX12_count_73 rfl rfl ?_
    refine gf_callV (ε2 := eI) C [] dX12_count_74 mw_X12_pairs ml_X12_324 s_117 (fun rZ hZ eZ => ok_X12_pairs  h rZ hZ eZ) rfl rfl rfl (Nat.le_of_ble_eq_true rfl) (Nat.le_of_ble_eq_true rfl) (Nat.le_of_ble_eq_true rfl) (fun r4 h5 => ?_)
    exact gf_iret C dX12_count_77 rfl
  refine gf_swC (off := 77) C (4 : Int32) 78 dX12_count_1 (by decide) (by decide) (by decide) (by decide) (fun _ => ?_) (fun c7 => ?_)
  · refine gf_aload_n C dX12_count_78 rfl rfl (gf_getI C dX12_count_79 fl_X12_22 s_117 rfl 7501 rfl ?_)
    exact gf_iret C dX12_count_82 rfl
  refine gf_swC (off := 82) C (5 : Int32) 83 dX12_count_1 (by decide) (by decide) (by decide) (by decide) (fun _ => ?_) (fun c8 => ?_)
  · refine gf_aload_n C dX12_count_83 rfl rfl (gf_getI C dX12_count_84 fl_X12_26 s_117 rfl 7502 rfl ?_)
    exact gf_iret C dX12_count_87 rfl
  refine gf_swC (off := 87) C (6 : Int32) 88 dX12_count_1 (by decide) (by decide) (by decide) (by decide) (fun _ => ?_) (fun c9 => ?_)
  · refine gf_aload_n C dX12_count_88 rfl rfl (gf_getI C dX12_count_89 fl_X12_29 s_117 rfl 7503 rfl ?_)
    exact gf_iret C dX12_count_92 rfl
  refine gf_swC (off := 92) C (7 : Int32) 93 dX12_count_1 (by decide) (by decide) (by decide) (by decide) (fun _ => ?_) (fun c12 => ?_)
  · refine gf_aload_n C dX12_count_93 rfl rfl ?_
    refine gf_callV (ε2 := eI) C [] dX12_count_94 mw_X12_placesOfAll ml_X12_327 s_117 (fun rZ hZ eZ => ok_X12_placesOfAll  h rZ hZ eZ) rfl rfl rfl (Nat.le_of_ble_eq_true rfl) (Nat.le_of_ble_eq_true rfl) (Nat.le_of_ble_eq_true rfl) (fun r10 h11 => ?_)
    exact gf_iret C dX12_count_97 rfl
  refine gf_swC (off := 97) C (8 : Int32) 98 dX12_count_1 (by decide) (by decide) (by decide) (by decide) (fun _ => ?_) (fun c13 => ?_)
  · refine gf_aload_n C dX12_count_98 rfl rfl (gf_getI C dX12_count_99 fl_X12_189 s_117 rfl 7510 rfl ?_)
    exact gf_iret C dX12_count_102 rfl
  refine gf_swC (off := 102) C (9 : Int32) 103 dX12_count_1 (by decide) (by decide) (by decide) (by decide) (fun _ => ?_) (fun c14 => ?_)
  · refine gf_aload_n C dX12_count_103 rfl rfl (gf_getI C dX12_count_104 fl_X12_92 s_117 rfl 7489 rfl ?_)
    exact gf_iret C dX12_count_107 rfl
  have c1 := lv_neT c1 (a := 0) (by decide)
  have c2 := lv_neT c2 (a := 1) (by decide)
  have c3 := lv_neT c3 (a := 2) (by decide)
  have c6 := lv_neT c6 (a := 3) (by decide)
  have c7 := lv_neT c7 (a := 4) (by decide)
  have c8 := lv_neT c8 (a := 5) (by decide)
  have c9 := lv_neT c9 (a := 6) (by decide)
  have c12 := lv_neT c12 (a := 7) (by decide)
  have c13 := lv_neT c13 (a := 8) (by decide)
  have c14 := lv_neT c14 (a := 9) (by decide)
  refine gf_swD C 108 dX12_count_1 (by omega) (by decide) ?_
  refine gf_bipush C dX12_count_108 kb_m3 ?_
  exact gf_iret C dX12_count_110 rfl
