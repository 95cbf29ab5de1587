def F_X12_read (h : Hp) : Option (Unit × Hp) :=
  jl (sS h 7490 (0 : Int32)) (fun h1 => jl (sS h1 7494 (-1 : Int32)) (fun h2 => jl (sS h2 7495 (0 : Int32)) (fun h3 => jl (sS h3 7497 (sG h3 7504)) (fun h4 => jl (sS h4 7498 (sG h4 7506)) (fun h5 => bd (F_X12_bring 122 7 (0 : Int32) 120 7 (0 : Int32) (sG h5 7504) h5) (fun _ h6 => bd (F_X12_bring 123 6 (0 : Int32) 121 6 (0 : Int32) (sG h6 7506) h6) (fun _ h7 => (lp 4000000000 (fun (c10 : Int32 → Hp → Option (Unit × Hp)) (v8 : Int32) (h9 : Hp) =>
  jn (fun (h11 : Hp) =>
  some ((), h11)) (fun j12 => if v8 = 0 then (
  j12 h9) else (
  if (sG h9 7494) = (-1 : Int32) then (
  bd (F_X12_readClause h9) (fun _ h13 => if (sG h13 7494) = (-1 : Int32) then (
  jl (sS h13 7495 ((sG h13 7495) + (1 : Int32))) (fun h14 => bd (F_X12_take h14) (fun _ h15 => jn (fun (s16 : Int32) (h17 : Hp) =>
  jn (fun (s19 : Int32) (h20 : Hp) =>
  bd (F_X12_want s19 h20) (fun r22 h23 => c10 s16 h23)) (fun j21 => jn (fun (h24 : Hp) =>
  j21 (1 : Int32) h24) (fun j25 => if s16 = 0 then (
  if (sG h17 7492) = 0 then (
  j25 h17) else (
  j21 (0 : Int32) h17)) else (
  j25 h17)))) (fun j18 => jn (fun (h26 : Hp) =>
  j18 (0 : Int32) h26) (fun j27 => if (sG h15 7492) = (1 : Int32) then (
  gd (inb (sG h15 7491) 200) ( if (aG h15 118 (sG h15 7491).toNatClampNeg) = (59 : Int32) then (
  if (sG h15 7495) < (24 : Int32) then (
  j18 (1 : Int32) h15) else (
  j27 h15)) else (
  j27 h15))) else (
  j27 h15)))))) else (
  c10 v8 h13))) else (
  j12 h9)))) (fun _ _ => none)) (1 : Int32) h7)))))))
set_option maxRecDepth 100000 in
set_option maxHeartbeats 4000000 in
theorem ok_X12_read (h : Hp) (rZ : Unit) (hZ : Hp) (eZ : F_X12_read h = some (rZ, hZ)) : AC yX12_read cX12_read 2 (none) 6 129 [.ref 117] h (eV rZ) hZ := by
  refine AC_intro (o := F_X12_read h) RX12 rfl (plainFor_of_name (by decide)) [some (.ref 117), none] rfl (fun _ => rfl) (fun _ => Nat.le_of_ble_eq_true rfl) eZ (fun K C => ?_)
  unfold F_X12_read
  refine gf_aload_n C dX12_read_0 rfl rfl (gf_iconst C dX12_read_1 ki_0 (gf_putI C dX12_read_2 fp_X12_95 s_117 rfl 7490 rfl ?_))
  refine gf_jlH (fun h1 => ?_)
  refine gf_aload_n C dX12_read_5 rfl rfl (gf_iconst C dX12_read_6 ki_m1 (gf_putI C dX12_read_7 fp_X12_111 s_117 rfl 7494 rfl ?_))
  refine gf_jlH (fun h2 => ?_)
  refine gf_aload_n C dX12_read_10 rfl rfl (gf_iconst C dX12_read_11 ki_0 (gf_putI C dX12_read_12 fp_X12_125 s_117 rfl 7495 rfl ?_))
  refine gf_jlH (fun h3 => ?_)
  refine gf_aload_n C dX12_read_15 rfl rfl (gf_aload_n C dX12_read_16 rfl rfl (gf_getI C dX12_read_17 fl_X12_166 s_117 rfl 7504 rfl (gf_putI C dX12_read_20 fp_X12_136 s_117 rfl 7497 rfl ?_)))
  refine gf_jlH (fun h4 => ?_)
  refine gf_aload_n C dX12_read_23 rfl rfl (gf_aload_n C dX12_read_24 rfl rfl (gf_getI C dX12_read_25 fl_X12_169 s_117 rfl 7506 rfl (gf_putI C dX12_read_28 fp_X12_143 s_117 rfl 7498 rfl ?_)))
  refine gf_jlH (fun h5 => ?_)
  refine gf_aload_n C dX12_read_31 rfl rfl (gf_getR C dX12_read_32 fl_X12_32 s_117 rfl 122 rfl (gf_iconst C dX12_read_35 ki_0 (gf_aload_n C dX12_read_36 rfl rfl (gf_getR C dX12_read_37 fl_X12_16 s_117 rfl 120 rfl (gf_iconst C dX12_read_40 ki_0 (gf_aload_n C dX12_read_41 rfl rfl (gf_getI C dX12_read_42 fl_X12_166 s_117 rfl 7504 rfl ?_)))))))
  refine gf_callS (ε2 := eV) C [.ref 122, .int (0 : Int32), .ref 120, .int (0 : Int32), .int (sG h5 7504)] dX12_read_45 mw_X12_bring ml_X12_172 (fun rZ hZ eZ => ok_X12_bring 122 7 (0 : Int32) 120 7 (0 : Int32) (sG h5 7504) s_122 s_120 h5 rZ hZ eZ) rfl rfl rfl (Nat.le_of_ble_eq_true rfl) (Nat.le_of_ble_eq_true rfl) (Nat.le_of_ble_eq_true rfl) (fun _ h6 => ?_)
  refine gf_aload_n C dX12_read_48 rfl rfl (gf_getR C dX12_read_49 fl_X12_35 s_117 rfl 123 rfl (gf_iconst C dX12_read_52 ki_0 (gf_aload_n C dX12_read_53 rfl rfl (gf_getR C dX12_read_54 fl_X12_19 s_117 rfl 121 rfl (gf_iconst C dX12_read_57 ki_0 (gf_aload_n C dX12_read_58 rfl rfl (gf_getI C dX12_read_59 fl_X12_169 s_117 rfl 7506 rfl ?_)))))))
  refine gf_callS (ε2 := eV) C [.ref 123, .int (0 : Int32), .ref 121, .int (0 : Int32), .int (sG h6 7506)] dX12_read_62 mw_X12_bring ml_X12_172 (fun rZ hZ eZ => ok_X12_bring 123 6 (0 : Int32) 121 6 (0 : Int32) (sG h6 7506) s_123 s_121 h6 rZ hZ eZ) rfl rfl rfl (Nat.le_of_ble_eq_true rfl) (Nat.le_of_ble_eq_true rfl) (Nat.le_of_ble_eq_true rfl) (fun _ h7 => ?_)
  refine gf_iconst C dX12_read_65 ki_1 (gf_istore_n C dX12_read_66 rfl [some (.ref 117), some (.int (1 : Int32))] rfl rfl (Nat.le_of_ble_eq_true rfl) ?_)
  refine gf_sub [some (.ref 117), some (.int (1 : Int32))] (And.intro rfl (And.intro rfl trivial)) ?_
  refine lp_P (fun (c10 : Int32 → Hp → Option (Unit × Hp)) => ∀ (v8 : Int32) (h9 : Hp), GF K eV h9 67 [some (.ref 117), some (.int v8)] [] (c10 v8 h9)) (fun _ _ => gf_none) (fun c10 kc10 v8 h9 => ?_) (1 : Int32) h7
  refine gf_iload_n C dX12_read_67 rfl rfl ?_
  refine gf_jn (fun (j12 : Hp → Option (Unit × Hp)) => ∀ (h11 : Hp), GF K eV h11 166 [none, none] [] (j12 h11)) ?_ (fun j12 kj12 => ?_)
  · intro h11
    exact gf_vret C dX12_read_166 rfl
  refine gf_ifeq C 166 dX12_read_68 (by decide) (fun _ => ?_) (fun _ => ?_)
  · exact gf_sub [none, none] trivial (kj12 h9)
  · refine gf_aload_n C dX12_read_71 rfl rfl (gf_getI C dX12_read_72 fl_X12_111 s_117 rfl 7494 rfl (gf_iconst C dX12_read_75 ki_m1 ?_))
    refine gf_icmpne C 166 dX12_read_76 (by decide) (fun _ => ?_) (fun _ => ?_)
    · refine gf_aload_n C dX12_read_79 rfl rfl ?_
      refine gf_callV (ε2 := eV) C [] dX12_read_80 mw_X12_readClause ml_X12_176 s_117 (fun rZ hZ eZ => ok_X12_readClause  h9 rZ hZ eZ) rfl rfl rfl (Nat.le_of_ble_eq_true rfl) (Nat.le_of_ble_eq_true rfl) (Nat.le_of_ble_eq_true rfl) (fun _ h13 => ?_)
      refine gf_aload_n C dX12_read_83 rfl rfl (gf_getI C dX12_read_84 fl_X12_111 s_117 rfl 7494 rfl (gf_iconst C dX12_read_87 ki_m1 ?_))
      refine gf_icmpne C 67 dX12_read_88 (by decide) (fun _ => ?_) (fun _ => ?_)
      · refine gf_aload_n C dX12_read_91 rfl rfl (gf_dup C dX12_read_92 rfl (gf_getI C dX12_read_93 fl_X12_125 s_117 rfl 7495 rfl (gf_iconst C dX12_read_96 ki_1 (gf_iadd C dX12_read_97 (gf_putI C dX12_read_98 fp_X12_125 s_117 rfl 7495 rfl ?_)))))
        refine gf_jlH (fun h14 => ?_)
        refine gf_aload_n C dX12_read_101 rfl rfl ?_
        refine gf_callV (ε2 := eV) C [] dX12_read_102 mw_X12_take ml_X12_118 s_117 (fun rZ hZ eZ => ok_X12_take  h14 rZ hZ eZ) rfl rfl rfl (Nat.le_of_ble_eq_true rfl) (Nat.le_of_ble_eq_true rfl) (Nat.le_of_ble_eq_true rfl) (fun _ h15 => ?_)
        refine gf_aload_n C dX12_read_105 rfl rfl (gf_getI C dX12_read_106 fl_X12_101 s_117 rfl 7492 rfl (gf_iconst C dX12_read_109 ki_1 ?_))
        refine gf_jn (fun (j18 : Int32 → Hp → Option (Unit × Hp)) => ∀ (s16 : Int32) (h17 : Hp), GF K eV h17 141 [some (.ref 117), none] [.int s16] (j18 s16 h17)) ?_ (fun j18 kj18 => ?_)
        · intro s16 h17
          refine gf_istore_n C dX12_read_141 rfl [some (.ref 117), some (.int s16)] rfl rfl (Nat.le_of_ble_eq_true rfl) (gf_aload_n C dX12_read_142 rfl rfl (gf_iload_n C dX12_read_143 rfl rfl ?_))
          refine gf_jn (fun (j21 : Int32 → Hp → Option (Unit × Hp)) => ∀ (s19 : Int32) (h20 : Hp), GF K eV h20 159 [some (.ref 117), some (.int s16)] [.int s19, .ref 117] (j21 s19 h20)) ?_ (fun j21 kj21 => ?_)
          · intro s19 h20
            refine gf_callV (ε2 := eI) C [.int s19] dX12_read_159 mw_X12_want ml_X12_121 s_117 (fun rZ hZ eZ => ok_X12_want s19 h20 rZ hZ eZ) rfl rfl rfl (Nat.le_of_ble_eq_true rfl) (Nat.le_of_ble_eq_true rfl) (Nat.le_of_ble_eq_true rfl) (fun r22 h23 => ?_)
            refine gf_pop C dX12_read_162 rfl ?_
            refine gf_goto C 67 dX12_read_163 (by decide) ?_
            exact gf_sub [some (.ref 117), some (.int s16)] (And.intro rfl (And.intro rfl trivial)) (kc10 s16 h23)
          refine gf_jn (fun (j25 : Hp → Option (Unit × Hp)) => ∀ (h24 : Hp), GF K eV h24 154 [some (.ref 117), some (.int s16)] [.ref 117] (j25 h24)) ?_ (fun j25 kj25 => ?_)
          · intro h24
            refine gf_iconst C dX12_read_154 ki_1 ?_
            refine gf_goto C 159 dX12_read_155 (by decide) ?_
            exact gf_sub [some (.ref 117), some (.int s16)] (And.intro rfl (And.intro rfl trivial)) (kj21 (1 : Int32) h24)
          refine gf_ifne C 154 dX12_read_144 (by decide) (fun _ => ?_) (fun _ => ?_)
          · refine gf_aload_n C dX12_read_147 rfl rfl (gf_getI C dX12_read_148 fl_X12_101 s_117 rfl 7492 rfl ?_)
            refine gf_ifne C 158 dX12_read_151 (by decide) (fun _ => ?_) (fun _ => ?_)
            · exact gf_sub [some (.ref 117), some (.int s16)] (And.intro rfl (And.intro rfl trivial)) (kj25 h17)
            · refine gf_iconst C dX12_read_158 ki_0 ?_
              exact gf_sub [some (.ref 117), some (.int s16)] (And.intro rfl (And.intro rfl trivial)) (kj21 (0 : Int32) h17)
          · exact gf_sub [some (.ref 117), some (.int s16)] (And.intro rfl (And.intro rfl trivial)) (kj25 h17)
        refine gf_jn (fun (j27 : Hp → Option (Unit × Hp)) => ∀ (h26 : Hp), GF K eV h26 140 [some (.ref 117), none] [] (j27 h26)) ?_ (fun j27 kj27 => ?_)
        · intro h26
          refine gf_iconst C dX12_read_140 ki_0 ?_
          exact gf_sub [some (.ref 117), none] (And.intro rfl trivial) (kj18 (0 : Int32) h26)
        refine gf_icmpne C 140 dX12_read_110 (by decide) (fun _ => ?_) (fun _ => ?_)
        · refine gf_aload_n C dX12_read_113 rfl rfl (gf_getR C dX12_read_114 fl_X12_7 s_117 rfl 118 rfl (gf_aload_n C dX12_read_117 rfl rfl (gf_getI C dX12_read_118 fl_X12_98 s_117 rfl 7491 rfl (gf_iald C dX12_read_121 s_118 (gf_bipush C dX12_read_122 kb_59 ?_)))))
          refine gf_icmpne C 140 dX12_read_124 (by decide) (fun _ => ?_) (fun _ => ?_)
          · refine gf_aload_n C dX12_read_127 rfl rfl (gf_getI C dX12_read_128 fl_X12_125 s_117 rfl 7495 rfl (gf_bipush C dX12_read_131 kb_24 ?_))
            refine gf_icmpge C 140 dX12_read_133 (by decide) (fun _ => ?_) (fun _ => ?_)
            · refine gf_iconst C dX12_read_136 ki_1 ?_
              refine gf_goto C 141 dX12_read_137 (by decide) ?_
              exact gf_sub [some (.ref 117), none] (And.intro rfl trivial) (kj18 (1 : Int32) h15)
            · exact gf_sub [some (.ref 117), none] (And.intro rfl trivial) (kj27 h15)
          · exact gf_sub [some (.ref 117), none] (And.intro rfl trivial) (kj27 h15)
        · exact gf_sub [some (.ref 117), none] (And.intro rfl trivial) (kj27 h15)
      · exact gf_sub [some (.ref 117), some (.int v8)] (And.intro rfl (And.intro rfl trivial)) (kc10 v8 h13)
    · exact gf_sub [none, none] trivial (kj12 h9)
def F_X12_fault (h : Hp) : Option (Int32 × Hp) :=
  bd (F_X12_read h) (fun _ h1 => some (sG h1 7494, h1))
set_option maxRecDepth 100000 in
set_option maxHeartbeats 4000000 in
theorem ok_X12_fault (h : Hp) (rZ : Int32) (hZ : Hp) (eZ : F_X12_fault h = some (rZ, hZ)) : AC yX12_fault cX12_fault 1 (some .int) 7 150 [.ref 117] h (eI rZ) hZ := by
  refine AC_intro (o := F_X12_fault h) RX12 rfl (plainFor_of_name (by decide)) [some (.ref 117)] rfl (fun _ => rfl) (fun _ => Nat.le_of_ble_eq_true rfl) eZ (fun K C => ?_)
  unfold F_X12_fault
  refine gf_aload_n C dX12_fault_0 rfl rfl ?_
  refine gf_callV (ε2 := eV) C [] dX12_fault_1 mw_X12_read ml_X12_179 s_117 (fun rZ hZ eZ => ok_X12_read  h rZ hZ eZ) rfl rfl rfl (Nat.le_of_ble_eq_true rfl) (Nat.le_of_ble_eq_true rfl) (Nat.le_of_ble_eq_true rfl) (fun _ h1 => ?_)
  refine gf_aload_n C dX12_fault_4 rfl rfl (gf_getI C dX12_fault_5 fl_X12_111 s_117 rfl 7494 rfl ?_)
  exact gf_iret C dX12_fault_8 rfl
def F_X12_pieceAt (a1 : Int32) (a2 : Int32) (h : Hp) : Option (Int32 × Hp) :=
  (lp 4000000000 (fun (c4 : Int32 → Int32 → Hp → Option (Int32 × Hp)) (v1 : Int32) (v2 : Int32) (h3 : Hp) =>
  gd (inb (0 : Int32) 225) ( if v2 < (aG h3 124 (0 : Int32).toNatClampNeg) then (
  jl (((4 : Int32) * v2) + (1 : Int32)) (fun x5 => gd (inb x5 225) ( jn (fun (s6 : Int32) (h7 : Hp) =>
  c4 s6 (v2 + (1 : Int32)) h7) (fun j8 => jn (fun (h9 : Hp) =>
  j8 v1 h9) (fun j10 => if (aG h3 124 x5.toNatClampNeg) = a1 then (
  jl (((4 : Int32) * v2) + (2 : Int32)) (fun x11 => gd (inb x11 225) ( if (aG h3 124 x11.toNatClampNeg) = a2 then (
  j8 v2 h3) else (
  j10 h3)))) else (
  j10 h3)))))) else (
  some (v1, h3)))) (fun _ _ _ => none)) (-1 : Int32) (0 : Int32) h
set_option maxRecDepth 100000 in
set_option maxHeartbeats 4000000 in
theorem ok_X12_pieceAt (a1 : Int32) (a2 : Int32) (h : Hp) (rZ : Int32) (hZ : Hp) (eZ : F_X12_pieceAt a1 a2 h = some (rZ, hZ)) : AC yX12_pieceAt cX12_pieceAt 5 (some .int) 0 0 [.ref 117, .int a1, .int a2] h (eI rZ) hZ := by
  refine AC_intro (o := F_X12_pieceAt a1 a2 h) RX12 rfl (plainFor_of_name (by decide)) [some (.ref 117), some (.int a1), some (.int a2), none, none] rfl (fun _ => rfl) (fun _ => Nat.le_of_ble_eq_true rfl) eZ (fun K C => ?_)
  unfold F_X12_pieceAt
  refine gf_iconst C dX12_pieceAt_0 ki_m1 (gf_istore_n C dX12_pieceAt_1 rfl [some (.ref 117), some (.int a1), some (.int a2), some (.int (-1 : Int32)), none] rfl rfl (Nat.le_of_ble_eq_true rfl) (gf_iconst C dX12_pieceAt_2 ki_0 (gf_istore C dX12_pieceAt_3 [some (.ref 117), some (.int a1), some (.int a2), some (.int (-1 : Int32)), some (.int (0 : Int32))] rfl rfl (Nat.le_of_ble_eq_true rfl) ?_)))
  refine gf_sub [some (.ref 117), some (.int a1), some (.int a2), some (.int (-1 : Int32)), some (.int (0 : Int32))] (And.intro rfl (And.intro rfl (And.intro rfl (And.intro rfl (And.intro rfl trivial))))) ?_
  refine lp_P (fun (c4 : Int32 → Int32 → Hp → Option (Int32 × Hp)) => ∀ (v1 : Int32) (v2 : Int32) (h3 : Hp), GF K eI h3 5 [some (.ref 117), some (.int a1), some (.int a2), some (.int v1), some (.int v2)] [] (c4 v1 v2 h3)) (fun _ _ _ => gf_none) (fun c4 kc4 v1 v2 h3 => ?_) (-1 : Int32) (0 : Int32) h
  refine gf_iload C dX12_pieceAt_5 rfl (gf_aload_n C dX12_pieceAt_7 rfl rfl (gf_getR C dX12_pieceAt_8 fl_X12_38 s_117 rfl 124 rfl (gf_iconst C dX12_pieceAt_11 ki_0 (gf_iald C dX12_pieceAt_12 s_124 ?_))))
  refine gf_icmpge C 59 dX12_pieceAt_13 (by decide) (fun _ => ?_) (fun _ => ?_)
  · refine gf_aload_n C dX12_pieceAt_16 rfl rfl (gf_getR C dX12_pieceAt_17 fl_X12_38 s_117 rfl 124 rfl (gf_iconst C dX12_pieceAt_20 ki_4 (gf_iload C dX12_pieceAt_21 rfl (gf_imul C dX12_pieceAt_23 (gf_iconst C dX12_pieceAt_24 ki_1 (gf_iadd C dX12_pieceAt_25 ?_))))))
    refine gf_jlI (fun x5 => ?_)
    refine gf_iald C dX12_pieceAt_26 s_124 (gf_iload_n C dX12_pieceAt_27 rfl rfl ?_)
    refine gf_jn (fun (j8 : Int32 → Hp → Option (Int32 × Hp)) => ∀ (s6 : Int32) (h7 : Hp), GF K eI h7 52 [some (.ref 117), some (.int a1), some (.int a2), none, some (.int v2)] [.int s6] (j8 s6 h7)) ?_ (fun j8 kj8 => ?_)
    · intro s6 h7
      refine gf_istore_n C dX12_pieceAt_52 rfl [some (.ref 117), some (.int a1), some (.int a2), some (.int s6), some (.int v2)] rfl rfl (Nat.le_of_ble_eq_true rfl) (gf_iinc C dX12_pieceAt_53 rfl (ii_1 _) [some (.ref 117), some (.int a1), some (.int a2), some (.int s6), some (.int (v2 + (1 : Int32)))] rfl rfl ?_)
      refine gf_goto C 5 dX12_pieceAt_56 (by decide) ?_
      exact gf_sub [some (.ref 117), some (.int a1), some (.int a2), some (.int s6), some (.int (v2 + (1 : Int32)))] (And.intro rfl (And.intro rfl (And.intro rfl (And.intro rfl (And.intro rfl trivial))))) (kc4 s6 (v2 + (1 : Int32)) h7)
    refine gf_jn (fun (j10 : Hp → Option (Int32 × Hp)) => ∀ (h9 : Hp), GF K eI h9 51 [some (.ref 117), some (.int a1), some (.int a2), some (.int v1), some (.int v2)] [] (j10 h9)) ?_ (fun j10 kj10 => ?_)
    · intro h9
      refine gf_iload_n C dX12_pieceAt_51 rfl rfl ?_
      exact gf_sub [some (.ref 117), some (.int a1), some (.int a2), none, some (.int v2)] (And.intro rfl (And.intro rfl (And.intro rfl (And.intro rfl trivial)))) (kj8 v1 h9)
    refine gf_icmpne C 51 dX12_pieceAt_28 (by decide) (fun _ => ?_) (fun _ => ?_)
    · refine gf_aload_n C dX12_pieceAt_31 rfl rfl (gf_getR C dX12_pieceAt_32 fl_X12_38 s_117 rfl 124 rfl (gf_iconst C dX12_pieceAt_35 ki_4 (gf_iload C dX12_pieceAt_36 rfl (gf_imul C dX12_pieceAt_38 (gf_iconst C dX12_pieceAt_39 ki_2 (gf_iadd C dX12_pieceAt_40 ?_))))))
      refine gf_jlI (fun x11 => ?_)
      refine gf_iald C dX12_pieceAt_41 s_124 (gf_iload_n C dX12_pieceAt_42 rfl rfl ?_)
      refine gf_icmpne C 51 dX12_pieceAt_43 (by decide) (fun _ => ?_) (fun _ => ?_)
      · refine gf_iload C dX12_pieceAt_46 rfl ?_
        refine gf_goto C 52 dX12_pieceAt_48 (by decide) ?_
        exact gf_sub [some (.ref 117), some (.int a1), some (.int a2), none, some (.int v2)] (And.intro rfl (And.intro rfl (And.intro rfl (And.intro rfl trivial)))) (kj8 v2 h3)
      · exact gf_sub [some (.ref 117), some (.int a1), some (.int a2), some (.int v1), some (.int v2)] (And.intro rfl (And.intro rfl (And.intro rfl (And.intro rfl (And.intro rfl trivial))))) (kj10 h3)
    · exact gf_sub [some (.ref 117), some (.int a1), some (.int a2), some (.int v1), some (.int v2)] (And.intro rfl (And.intro rfl (And.intro rfl (And.intro rfl (And.intro rfl trivial))))) (kj10 h3)
  · refine gf_iload_n C dX12_pieceAt_59 rfl rfl ?_
    exact gf_iret C dX12_pieceAt_60 rfl
def F_X12_become (a1 : Int32) (a2 : Int32) (a3 : Int32) (a4 : Int32) (h : Hp) : Option (Unit × Hp) :=
  bd (F_X12_pieceAt a1 a2 h) (fun r1 h2 => jn (fun (v3 : Int32) (h4 : Hp) =>
  gd (inb (((4 : Int32) * v3) + (1 : Int32)) 225) ( jl (aS h4 124 (((4 : Int32) * v3) + (1 : Int32)).toNatClampNeg a1) (fun h6 => gd (inb (((4 : Int32) * v3) + (2 : Int32)) 225) ( jl (aS h6 124 (((4 : Int32) * v3) + (2 : Int32)).toNatClampNeg a2) (fun h7 => gd (inb (((4 : Int32) * v3) + (3 : Int32)) 225) ( jl (aS h7 124 (((4 : Int32) * v3) + (3 : Int32)).toNatClampNeg a3) (fun h8 => gd (inb (((4 : Int32) * v3) + (4 : Int32)) 225) ( jl (aS h8 124 (((4 : Int32) * v3) + (4 : Int32)).toNatClampNeg a4) (fun h9 => some ((), h9)))))))))) (fun j5 => if r1 = (-1 : Int32) then (
  gd (inb (0 : Int32) 225) ( jl (aG h2 124 (0 : Int32).toNatClampNeg) (fun x10 => gd (inb (0 : Int32) 225) ( gd (inb (0 : Int32) 225) ( jl (aS h2 124 (0 : Int32).toNatClampNeg ((aG h2 124 (0 : Int32).toNatClampNeg) + (1 : Int32))) (fun h11 => j5 x10 h11)))))) else (
  j5 r1 h2)))
set_option maxRecDepth 100000 in
set_option maxHeartbeats 4000000 in
theorem ok_X12_become (a1 : Int32) (a2 : Int32) (a3 : Int32) (a4 : Int32) (h : Hp) (rZ : Unit) (hZ : Hp) (eZ : F_X12_become a1 a2 a3 a4 h = some (rZ, hZ)) : AC yX12_become cX12_become 6 (none) 1 24 [.ref 117, .int a1, .int a2, .int a3, .int a4] h (eV rZ) hZ := by
  refine AC_intro (o := F_X12_become a1 a2 a3 a4 h) RX12 rfl (plainFor_of_name (by decide)) [some (.ref 117), some (.int a1), some (.int a2), some (.int a3), some (.int a4), none] rfl (fun _ => rfl) (fun _ => Nat.le_of_ble_eq_true rfl) eZ (fun K C => ?_)
  unfold F_X12_become
  refine gf_aload_n C dX12_become_0 rfl rfl (gf_iload_n C dX12_become_1 rfl rfl (gf_iload_n C dX12_become_2 rfl rfl ?_))
  refine gf_callV (ε2 := eI) C [.int a1, .int a2] dX12_become_3 mw_X12_pieceAt ml_X12_192 s_117 (fun rZ hZ eZ => ok_X12_pieceAt a1 a2 h rZ hZ eZ) rfl rfl rfl (Nat.le_of_ble_eq_true rfl) (Nat.le_of_ble_eq_true rfl) (Nat.le_of_ble_eq_true rfl) (fun r1 h2 => ?_)
  refine gf_istore C dX12_become_6 [some (.ref 117), some (.int a1), some (.int a2), some (.int a3), some (.int a4), some (.int r1)] rfl rfl (Nat.le_of_ble_eq_true rfl) (gf_iload C dX12_become_8 rfl (gf_iconst C dX12_become_10 ki_m1 ?_))
  refine gf_jn (fun (j5 : Int32 → Hp → Option (Unit × Hp)) => ∀ (v3 : Int32) (h4 : Hp), GF K eV h4 32 [some (.ref 117), some (.int a1), some (.int a2), some (.int a3), some (.int a4), some (.int v3)] [] (j5 v3 h4)) ?_ (fun j5 kj5 => ?_)
  · intro v3 h4
    refine gf_aload_n C dX12_become_32 rfl rfl (gf_getR C dX12_become_33 fl_X12_38 s_117 rfl 124 rfl (gf_iconst C dX12_become_36 ki_4 (gf_iload C dX12_become_37 rfl (gf_imul C dX12_become_39 (gf_iconst C dX12_become_40 ki_1 (gf_iadd C dX12_become_41 (gf_iload_n C dX12_become_42 rfl rfl ?_)))))))
    refine gf_iast C dX12_become_43 s_124 ?_
    refine gf_jlH (fun h6 => ?_)
    refine gf_aload_n C dX12_become_44 rfl rfl (gf_getR C dX12_become_45 fl_X12_38 s_117 rfl 124 rfl (gf_iconst C dX12_become_48 ki_4 (gf_iload C dX12_become_49 rfl (gf_imul C dX12_become_51 (gf_iconst C dX12_become_52 ki_2 (gf_iadd C dX12_become_53 (gf_iload_n C dX12_become_54 rfl rfl ?_)))))))
    refine gf_iast C dX12_become_55 s_124 ?_
    refine gf_jlH (fun h7 => ?_)
    refine gf_aload_n C dX12_become_56 rfl rfl (gf_getR C dX12_become_57 fl_X12_38 s_117 rfl 124 rfl (gf_iconst C dX12_become_60 ki_4 (gf_iload C dX12_become_61 rfl (gf_imul C dX12_become_63 (gf_iconst C dX12_become_64 ki_3 (gf_iadd C dX12_become_65 (gf_iload_n C dX12_become_66 rfl rfl ?_)))))))
    refine gf_iast C dX12_become_67 s_124 ?_
    refine gf_jlH (fun h8 => ?_)
    refine gf_aload_n C dX12_become_68 rfl rfl (gf_getR C dX12_become_69 fl_X12_38 s_117 rfl 124 rfl (gf_iconst C dX12_become_72 ki_4 (gf_iload C dX12_become_73 rfl (gf_imul C dX12_become_75 (gf_iconst C dX12_become_76 ki_4 (gf_iadd C dX12_become_77 (gf_iload C dX12_become_78 rfl ?_)))))))
    refine gf_iast C dX12_become_80 s_124 ?_
    refine gf_jlH (fun h9 => ?_)
    exact gf_vret C dX12_become_81 rfl
  refine gf_icmpne C 32 dX12_become_11 (by decide) (fun _ => ?_) (fun _ => ?_)
  · refine gf_aload_n C dX12_become_14 rfl rfl (gf_getR C dX12_become_15 fl_X12_38 s_117 rfl 124 rfl (gf_iconst C dX12_become_18 ki_0 (gf_iald C dX12_become_19 s_124 ?_)))
    refine gf_jlI (fun x10 => ?_)
    refine gf_istore C dX12_become_20 [some (.ref 117), some (.int a1), some (.int a2), some (.int a3), some (.int a4), some (.int x10)] rfl rfl (Nat.le_of_ble_eq_true rfl) (gf_aload_n C dX12_become_22 rfl rfl (gf_getR C dX12_become_23 fl_X12_38 s_117 rfl 124 rfl (gf_iconst C dX12_become_26 ki_0 (gf_dup2 C dX12_become_27 rfl rfl (gf_iald C dX12_become_28 s_124 (gf_iconst C dX12_become_29 ki_1 (gf_iadd C dX12_become_30 ?_)))))))
    refine gf_iast C dX12_become_31 s_124 ?_
    refine gf_jlH (fun h11 => ?_)
    exact gf_sub [some (.ref 117), some (.int a1), some (.int a2), some (.int a3), some (.int a4), some (.int x10)] (And.intro rfl (And.intro rfl (And.intro rfl (And.intro rfl (And.intro rfl (And.intro rfl trivial)))))) (kj5 x10 h11)
  · exact gf_sub [some (.ref 117), some (.int a1), some (.int a2), some (.int a3), some (.int a4), some (.int r1)] (And.intro rfl (And.intro rfl (And.intro rfl (And.intro rfl (And.intro rfl (And.intro rfl trivial)))))) (kj5 r1 h2)
def F_X12_tell (a1 : Int32) (h : Hp) : Option (Unit × Hp) :=
  gd (inb (a1 + (1 : Int32)) 120) ( jl (aG h 119 (a1 + (1 : Int32)).toNatClampNeg) (fun x1 => gd (inb (a1 + (2 : Int32)) 120) ( jl (aG h 119 (a1 + (2 : Int32)).toNatClampNeg) (fun x2 => gd (inb (a1 + (3 : Int32)) 120) ( jl (aG h 119 (a1 + (3 : Int32)).toNatClampNeg) (fun x3 => gd (inb a1 120) ( jl (aG h 119 a1.toNatClampNeg) (fun x4 => jn (fun (h5 : Hp) =>
  some ((), h5)) (fun j6 => if x4 = (0 : Int32) then (
  jl (sS h 7501 (24 : Int32)) (fun h7 => jl (sS h7 7502 (4 : Int32)) (fun h8 => jl (sS h8 7503 (5 : Int32)) (fun h9 => jl (sS h9 7504 (0 : Int32)) (fun h10 => jl (sS h10 7506 (0 : Int32)) (fun h11 => gd (inb (0 : Int32) 225) ( jl (aS h11 124 (0 : Int32).toNatClampNeg (0 : Int32)) (fun h12 => j6 h12)))))))) else (if x4 = (1 : Int32) then (
  jl (sS h 7501 x1) (fun h14 => jl (sS h14 7502 x2) (fun h15 => jl (sS h15 7503 x3) (fun h16 => j6 h16)))) else (if x4 = (2 : Int32) then (
  gd (inb (sG h 7504) 7) ( jl (aS h 122 (sG h 7504).toNatClampNeg x1) (fun h18 => jl (sS h18 7504 ((sG h18 7504) + (1 : Int32))) (fun h19 => j6 h19)))) else (if x4 = (3 : Int32) then (
  gd (inb (sG h 7506) 6) ( jl (aS h 123 (sG h 7506).toNatClampNeg x1) (fun h21 => jl (sS h21 7506 ((sG h21 7506) + (1 : Int32))) (fun h22 => j6 h22)))) else (
  gd (inb (a1 + (4 : Int32)) 120) ( bd (F_X12_become x1 x2 x3 (aG h 119 (a1 + (4 : Int32)).toNatClampNeg) h) (fun _ h24 => j6 h24)))))))))))))))
set_option maxRecDepth 100000 in
set_option maxHeartbeats 4000000 in
theorem ok_X12_tell (a1 : Int32) (h : Hp) (rZ : Unit) (hZ : Hp) (eZ : F_X12_tell a1 h = some (rZ, hZ)) : AC yX12_tell cX12_tell 5 (none) 2 49 [.ref 117, .int a1] h (eV rZ) hZ := by
  refine AC_intro (o := F_X12_tell a1 h) RX12 rfl (plainFor_of_name (by decide)) [some (.ref 117), some (.int a1), none, none, none] rfl (fun _ => rfl) (fun _ => Nat.le_of_ble_eq_true rfl) eZ (fun K C => ?_)
  unfold F_X12_tell
  refine gf_aload_n C dX12_tell_0 rfl rfl (gf_getR C dX12_tell_1 fl_X12_13 s_117 rfl 119 rfl (gf_iload_n C dX12_tell_4 rfl rfl (gf_iconst C dX12_tell_5 ki_1 (gf_iadd C dX12_tell_6 (gf_iald C dX12_tell_7 s_119 ?_)))))
  refine gf_jlI (fun x1 => ?_)
  refine gf_istore_n C dX12_tell_8 rfl [some (.ref 117), some (.int a1), some (.int x1), none, none] rfl rfl (Nat.le_of_ble_eq_true rfl) (gf_aload_n C dX12_tell_9 rfl rfl (gf_getR C dX12_tell_10 fl_X12_13 s_117 rfl 119 rfl (gf_iload_n C dX12_tell_13 rfl rfl (gf_iconst C dX12_tell_14 ki_2 (gf_iadd C dX12_tell_15 (gf_iald C dX12_tell_16 s_119 ?_))))))
  refine gf_jlI (fun x2 => ?_)
  refine gf_istore_n C dX12_tell_17 rfl [some (.ref 117), some (.int a1), some (.int x1), some (.int x2), none] rfl rfl (Nat.le_of_ble_eq_true rfl) (gf_aload_n C dX12_tell_18 rfl rfl (gf_getR C dX12_tell_19 fl_X12_13 s_117 rfl 119 rfl (gf_iload_n C dX12_tell_22 rfl rfl (gf_iconst C dX12_tell_23 ki_3 (gf_iadd C dX12_tell_24 (gf_iald C dX12_tell_25 s_119 ?_))))))
  refine gf_jlI (fun x3 => ?_)
  refine gf_istore C dX12_tell_26 [some (.ref 117), some (.int a1), some (.int x1), some (.int x2), some (.int x3)] rfl rfl (Nat.le_of_ble_eq_true rfl) (gf_aload_n C dX12_tell_28 rfl rfl (gf_getR C dX12_tell_29 fl_X12_13 s_117 rfl 119 rfl (gf_iload_n C dX12_tell_32 rfl rfl (gf_iald C dX12_tell_33 s_119 ?_))))
  refine gf_jlI (fun x4 => ?_)
  refine gf_jn (fun (j6 : Hp → Option (Unit × Hp)) => ∀ (h5 : Hp), GF K eV h5 181 [none, none, none, none, none] [] (j6 h5)) ?_ (fun j6 kj6 => ?_)
  · intro h5
    exact gf_vret C dX12_tell_181 rfl
  refine gf_swC (off := 30) C (0 : Int32) 64 dX12_tell_34 (by decide) (by decide) (by decide) (by decide) (fun _ => ?_) (fun c13 => ?_)
  · refine gf_aload_n C dX12_tell_64 rfl rfl (gf_bipush C dX12_tell_65 kb_24 (gf_putI C dX12_tell_67 fp_X12_22 s_117 rfl 7501 rfl ?_))
    refine gf_jlH (fun h7 => ?_)
    refine gf_aload_n C dX12_tell_70 rfl rfl (gf_iconst C dX12_tell_71 ki_4 (gf_putI C dX12_tell_72 fp_X12_26 s_117 rfl 7502 rfl ?_))
    refine gf_jlH (fun h8 => ?_)
    refine gf_aload_n C dX12_tell_75 rfl rfl (gf_iconst C dX12_tell_76 ki_5 (gf_putI C dX12_tell_77 fp_X12_29 s_117 rfl 7503 rfl ?_))
    refine gf_jlH (fun h9 => ?_)
    refine gf_aload_n C dX12_tell_80 rfl rfl (gf_iconst C dX12_tell_81 ki_0 (gf_putI C dX12_tell_82 fp_X12_166 s_117 rfl 7504 rfl ?_))
    refine gf_jlH (fun h10 => ?_)
    refine gf_aload_n C dX12_tell_85 rfl rfl (gf_iconst C dX12_tell_86 ki_0 (gf_putI C dX12_tell_87 fp_X12_169 s_117 rfl 7506 rfl ?_))
    refine gf_jlH (fun h11 => ?_)
    refine gf_aload_n C dX12_tell_90 rfl rfl (gf_getR C dX12_tell_91 fl_X12_38 s_117 rfl 124 rfl (gf_iconst C dX12_tell_94 ki_0 (gf_iconst C dX12_tell_95 ki_0 (gf_iast C dX12_tell_96 s_124 ?_))))
    refine gf_jlH (fun h12 => ?_)
    refine gf_goto C 181 dX12_tell_97 (by decide) ?_
    exact gf_sub [none, none, none, none, none] trivial (kj6 h12)
  refine gf_swC (off := 66) C (1 : Int32) 100 dX12_tell_34 (by decide) (by decide) (by decide) (by decide) (fun _ => ?_) (fun c17 => ?_)
  · refine gf_aload_n C dX12_tell_100 rfl rfl (gf_iload_n C dX12_tell_101 rfl rfl (gf_putI C dX12_tell_102 fp_X12_22 s_117 rfl 7501 rfl ?_))
    refine gf_jlH (fun h14 => ?_)
    refine gf_aload_n C dX12_tell_105 rfl rfl (gf_iload_n C dX12_tell_106 rfl rfl (gf_putI C dX12_tell_107 fp_X12_26 s_117 rfl 7502 rfl ?_))
    refine gf_jlH (fun h15 => ?_)
    refine gf_aload_n C dX12_tell_110 rfl rfl (gf_iload C dX12_tell_111 rfl (gf_putI C dX12_tell_113 fp_X12_29 s_117 rfl 7503 rfl ?_))
    refine gf_jlH (fun h16 => ?_)
    refine gf_goto C 181 dX12_tell_116 (by decide) ?_
    exact gf_sub [none, none, none, none, none] trivial (kj6 h16)
  refine gf_swC (off := 85) C (2 : Int32) 119 dX12_tell_34 (by decide) (by decide) (by decide) (by decide) (fun _ => ?_) (fun c20 => ?_)
  · refine gf_aload_n C dX12_tell_119 rfl rfl (gf_getR C dX12_tell_120 fl_X12_32 s_117 rfl 122 rfl (gf_aload_n C dX12_tell_123 rfl rfl (gf_getI C dX12_tell_124 fl_X12_166 s_117 rfl 7504 rfl (gf_iload_n C dX12_tell_127 rfl rfl (gf_iast C dX12_tell_128 s_122 ?_)))))
    refine gf_jlH (fun h18 => ?_)
    refine gf_aload_n C dX12_tell_129 rfl rfl (gf_dup C dX12_tell_130 rfl (gf_getI C dX12_tell_131 fl_X12_166 s_117 rfl 7504 rfl (gf_iconst C dX12_tell_134 ki_1 (gf_iadd C dX12_tell_135 (gf_putI C dX12_tell_136 fp_X12_166 s_117 rfl 7504 rfl ?_)))))
    refine gf_jlH (fun h19 => ?_)
    refine gf_goto C 181 dX12_tell_139 (by decide) ?_
    exact gf_sub [none, none, none, none, none] trivial (kj6 h19)
  refine gf_swC (off := 108) C (3 : Int32) 142 dX12_tell_34 (by decide) (by decide) (by decide) (by decide) (fun _ => ?_) (fun c23 => ?_)
  · refine gf_aload_n C dX12_tell_142 rfl rfl (gf_getR C dX12_tell_143 fl_X12_35 s_117 rfl 123 rfl (gf_aload_n C dX12_tell_146 rfl rfl (gf_getI C dX12_tell_147 fl_X12_169 s_117 rfl 7506 rfl (gf_iload_n C dX12_tell_150 rfl rfl (gf_iast C dX12_tell_151 s_123 ?_)))))
    refine gf_jlH (fun h21 => ?_)
    refine gf_aload_n C dX12_tell_152 rfl rfl (gf_dup C dX12_tell_153 rfl (gf_getI C dX12_tell_154 fl_X12_169 s_117 rfl 7506 rfl (gf_iconst C dX12_tell_157 ki_1 (gf_iadd C dX12_tell_158 (gf_putI C dX12_tell_159 fp_X12_169 s_117 rfl 7506 rfl ?_)))))
    refine gf_jlH (fun h22 => ?_)
    refine gf_goto C 181 dX12_tell_162 (by decide) ?_
    exact gf_sub [none, none, none, none, none] trivial (kj6 h22)
  have c13 := lv_neT c13 (a := 0) (by decide)
  have c17 := lv_neT c17 (a := 1) (by decide)
  have c20 := lv_neT c20 (a := 2) (by decide)
  have c23 := lv_neT c23 (a := 3) (by decide)
  refine gf_swD C 165 dX12_tell_34 (by omega) (by decide) ?_
  refine gf_aload_n C dX12_tell_165 rfl rfl (gf_iload_n C dX12_tell_166 rfl rfl (gf_iload_n C dX12_tell_167 rfl rfl (gf_iload C dX12_tell_168 rfl (gf_aload_n C dX12_tell_170 rfl rfl (gf_getR C dX12_tell_171 fl_X12_13 s_117 rfl 119 rfl (gf_iload_n C dX12_tell_174 rfl rfl (gf_iconst C dX12_tell_175 ki_4 ?_)))))))
  refine gf_iadd C dX12_tell_176 (gf_iald C dX12_tell_177 s_119 ?_)
  refine gf_callV (ε2 := eV) C [.int x1, .int x2, .int x3, .int (aG h 119 (a1 + (4 : Int32)).toNatClampNeg)] dX12_tell_178 mw_X12_become ml_X12_182 s_117 (fun rZ hZ eZ => ok_X12_become x1 x2 x3 (aG h 119 (a1 + (4 : Int32)).toNatClampNeg) h rZ hZ eZ) rfl rfl rfl (Nat.le_of_ble_eq_true rfl) (Nat.le_of_ble_eq_true rfl) (Nat.le_of_ble_eq_true rfl) (fun _ h24 => ?_)
  exact gf_sub [none, none, none, none, none] trivial (kj6 h24)
def F_X12_album (h : Hp) : Option (Int32 × Hp) :=
  bd (F_X12_read h) (fun _ h1 => if (sG h1 7494) = (-1 : Int32) then (
  (lp 4000000000 (fun (c4 : Int32 → Hp → Option (Int32 × Hp)) (v2 : Int32) (h3 : Hp) =>
  if v2 < (sG h3 7495) then (
  bd (F_X12_tell ((5 : Int32) * v2) h3) (fun _ h5 => c4 (v2 + (1 : Int32)) h5)) else (
  jl (sS h3 7489 (0 : Int32)) (fun h6 => jl (sS h6 7510 (0 : Int32)) (fun h7 => gd (inb (0 : Int32) 2) ( jl (aS h7 128 (0 : Int32).toNatClampNeg (vp_nar .boolean (0 : Int32))) (fun h8 => gd (inb (1 : Int32) 2) ( jl (aS h8 128 (1 : Int32).toNatClampNeg (vp_nar .boolean (0 : Int32))) (fun h9 => (lp 4000000000 (fun (c12 : Int32 → Hp → Option (Int32 × Hp)) (v10 : Int32) (h11 : Hp) =>
  if v10 < (3 : Int32) then (
  gd (inb v10 3) ( jl (aS h11 138 v10.toNatClampNeg (-1 : Int32)) (fun h13 => c12 (v10 + (1 : Int32)) h13))) else (
  some (sG h11 7495, h11))) (fun _ _ => none)) (0 : Int32) h9)))))))) (fun _ _ => none)) (0 : Int32) h1) else (
  some ((-4 : Int32), h1)))
set_option maxRecDepth 100000 in
set_option maxHeartbeats 4000000 in
theorem ok_X12_album (h : Hp) (rZ : Int32) (hZ : Hp) (eZ : F_X12_album h = some (rZ, hZ)) : AC yX12_album cX12_album 2 (some .int) 7 150 [.ref 117] h (eI rZ) hZ := by
  refine AC_intro (o := F_X12_album h) RX12 rfl (plainFor_of_name (by decide)) [some (.ref 117), none] rfl (fun _ => rfl) (fun _ => Nat.le_of_ble_eq_true rfl) eZ (fun K C => ?_)
  unfold F_X12_album
  refine gf_aload_n C dX12_album_0 rfl rfl ?_
  refine gf_callV (ε2 := eV) C [] dX12_album_1 mw_X12_read ml_X12_179 s_117 (fun rZ hZ eZ => ok_X12_read  h rZ hZ eZ) rfl rfl rfl (Nat.le_of_ble_eq_true rfl) (Nat.le_of_ble_eq_true rfl) (Nat.le_of_ble_eq_true rfl) (fun _ h1 => ?_)
  refine gf_aload_n C dX12_album_4 rfl rfl (gf_getI C dX12_album_5 fl_X12_111 s_117 rfl 7494 rfl (gf_iconst C dX12_album_8 ki_m1 ?_))
  refine gf_icmpeq C 15 dX12_album_9 (by decide) (fun _ => ?_) (fun _ => ?_)
  · refine gf_iconst C dX12_album_15 ki_0 (gf_istore_n C dX12_album_16 rfl [some (.ref 117), some (.int (0 : Int32))] rfl rfl (Nat.le_of_ble_eq_true rfl) ?_)
    refine gf_sub [some (.ref 117), some (.int (0 : Int32))] (And.intro rfl (And.intro rfl trivial)) ?_
    refine lp_P (fun (c4 : Int32 → Hp → Option (Int32 × Hp)) => ∀ (v2 : Int32) (h3 : Hp), GF K eI h3 17 [some (.ref 117), some (.int v2)] [] (c4 v2 h3)) (fun _ _ => gf_none) (fun c4 kc4 v2 h3 => ?_) (0 : Int32) h1
    refine gf_iload_n C dX12_album_17 rfl rfl (gf_aload_n C dX12_album_18 rfl rfl (gf_getI C dX12_album_19 fl_X12_125 s_117 rfl 7495 rfl ?_))
    refine gf_icmpge C 38 dX12_album_22 (by decide) (fun _ => ?_) (fun _ => ?_)
    · refine gf_aload_n C dX12_album_25 rfl rfl (gf_iconst C dX12_album_26 ki_5 (gf_iload_n C dX12_album_27 rfl rfl (gf_imul C dX12_album_28 ?_)))
      refine gf_callV (ε2 := eV) C [.int ((5 : Int32) * v2)] dX12_album_29 mw_X12_tell ml_X12_186 s_117 (fun rZ hZ eZ => ok_X12_tell ((5 : Int32) * v2) h3 rZ hZ eZ) rfl rfl rfl (Nat.le_of_ble_eq_true rfl) (Nat.le_of_ble_eq_true rfl) (Nat.le_of_ble_eq_true rfl) (fun _ h5 => ?_)
      refine gf_iinc C dX12_album_32 rfl (ii_1 _) [some (.ref 117), some (.int (v2 + (1 : Int32)))] rfl rfl ?_
      refine gf_goto C 17 dX12_album_35 (by decide) ?_
      exact gf_sub [some (.ref 117), some (.int (v2 + (1 : Int32)))] (And.intro rfl (And.intro rfl trivial)) (kc4 (v2 + (1 : Int32)) h5)
    · refine gf_aload_n C dX12_album_38 rfl rfl (gf_iconst C dX12_album_39 ki_0 (gf_putI C dX12_album_40 fp_X12_92 s_117 rfl 7489 rfl ?_))
      refine gf_jlH (fun h6 => ?_)
      refine gf_aload_n C dX12_album_43 rfl rfl (gf_iconst C dX12_album_44 ki_0 (gf_putI C dX12_album_45 fp_X12_189 s_117 rfl 7510 rfl ?_))
      refine gf_jlH (fun h7 => ?_)
      refine gf_aload_n C dX12_album_48 rfl rfl (gf_getR C dX12_album_49 fl_X12_50 s_117 rfl 128 rfl (gf_iconst C dX12_album_52 ki_0 (gf_iconst C dX12_album_53 ki_0 (gf_zast C dX12_album_54 s_128 ?_))))
      refine gf_jlH (fun h8 => ?_)
      refine gf_aload_n C dX12_album_55 rfl rfl (gf_getR C dX12_album_56 fl_X12_50 s_117 rfl 128 rfl (gf_iconst C dX12_album_59 ki_1 (gf_iconst C dX12_album_60 ki_0 (gf_zast C dX12_album_61 s_128 ?_))))
      refine gf_jlH (fun h9 => ?_)
      refine gf_iconst C dX12_album_62 ki_0 (gf_istore_n C dX12_album_63 rfl [some (.ref 117), some (.int (0 : Int32))] rfl rfl (Nat.le_of_ble_eq_true rfl) ?_)
      refine gf_sub [some (.ref 117), some (.int (0 : Int32))] (And.intro rfl (And.intro rfl trivial)) ?_
      refine lp_P (fun (c12 : Int32 → Hp → Option (Int32 × Hp)) => ∀ (v10 : Int32) (h11 : Hp), GF K eI h11 64 [some (.ref 117), some (.int v10)] [] (c12 v10 h11)) (fun _ _ => gf_none) (fun c12 kc12 v10 h11 => ?_) (0 : Int32) h9
      refine gf_iload_n C dX12_album_64 rfl rfl (gf_iconst C dX12_album_65 ki_3 ?_)
      refine gf_icmpge C 82 dX12_album_66 (by decide) (fun _ => ?_) (fun _ => ?_)
      · refine gf_aload_n C dX12_album_69 rfl rfl (gf_getR C dX12_album_70 fl_X12_82 s_117 rfl 138 rfl (gf_iload_n C dX12_album_73 rfl rfl (gf_iconst C dX12_album_74 ki_m1 (gf_iast C dX12_album_75 s_138 ?_))))
        refine gf_jlH (fun h13 => ?_)
        refine gf_iinc C dX12_album_76 rfl (ii_1 _) [some (.ref 117), some (.int (v10 + (1 : Int32)))] rfl rfl ?_
        refine gf_goto C 64 dX12_album_79 (by decide) ?_
        exact gf_sub [some (.ref 117), some (.int (v10 + (1 : Int32)))] (And.intro rfl (And.intro rfl trivial)) (kc12 (v10 + (1 : Int32)) h13)
      · refine gf_aload_n C dX12_album_82 rfl rfl (gf_getI C dX12_album_83 fl_X12_125 s_117 rfl 7495 rfl ?_)
        exact gf_iret C dX12_album_86 rfl
  · refine gf_bipush C dX12_album_12 kb_m4 ?_
    exact gf_iret C dX12_album_14 rfl
def F_X12_find (h : Hp) : Option (Int32 × Hp) :=
  (lp 4000000000 (fun (c6 : Int32 → Int32 → Int32 → Int32 → Hp → Option (Int32 × Hp)) (v1 : Int32) (v2 : Int32) (v3 : Int32) (v4 : Int32) (h5 : Hp) =>
  if v4 < (sG h5 7489) then (
  gd (inb v4 200) ( jn (fun (v7 : Int32) (v8 : Int32) (v9 : Int32) (h10 : Hp) =>
  c6 v7 v8 v9 (v4 + (1 : Int32)) h10) (fun j11 => if (aG h5 118 v4.toNatClampNeg) = (32 : Int32) then (
  j11 v1 v2 v3 h5) else (
  jn (fun (s12 : Int32) (h13 : Hp) =>
  jn (fun (s15 : Int32) (h16 : Hp) =>
  j11 s15 (v2 + (1 : Int32)) s12 h16) (fun j17 => if (v2 + (1 : Int32)) < (6 : Int32) then (
  gd (inb v4 200) ( j17 ((((27 : Int32) * v1) + (aG h13 118 v4.toNatClampNeg)) - (96 : Int32)) h13)) else (
  j17 v1 h13))) (fun j14 => jn (fun (h18 : Hp) =>
  j14 (0 : Int32) h18) (fun j19 => if v3 = 0 then (
  j19 h5) else (
  gd (inb v4 200) ( bd (F_X12_kindOf (aG h5 118 v4.toNatClampNeg) h5) (fun r20 h21 => if r20 = (1 : Int32) then (
  j14 (1 : Int32) h21) else (
  j19 h21)))))))))) else (
  (lp 4000000000 (fun (c24 : Int32 → Hp → Option (Int32 × Hp)) (v22 : Int32) (h23 : Hp) =>
  jn (fun (h25 : Hp) =>
  some ((-1 : Int32), h25)) (fun j26 => if v22 < (sG h23 7504) then (
  if v3 = 0 then (
  j26 h23) else (
  bd (F_X12_within v2 (1 : Int32) (5 : Int32) h23) (fun r27 h28 => if r27 = 0 then (
  j26 h28) else (
  gd (inb v22 7) ( if (aG h28 122 v22.toNatClampNeg) = v1 then (
  some (v22, h28)) else (
  c24 (v22 + (1 : Int32)) h28)))))) else (
  j26 h23))) (fun _ _ => none)) (0 : Int32) h5)) (fun _ _ _ _ _ => none)) (0 : Int32) (0 : Int32) (1 : Int32) (0 : Int32) h
set_option maxRecDepth 100000 in
set_option maxHeartbeats 4000000 in
theorem ok_X12_find (h : Hp) (rZ : Int32) (hZ : Hp) (eZ : F_X12_find h = some (rZ, hZ)) : AC yX12_find cX12_find 5 (some .int) 2 42 [.ref 117] h (eI rZ) hZ := by
  refine AC_intro (o := F_X12_find h) RX12 rfl (plainFor_of_name (by decide)) [some (.ref 117), none, none, none, none] rfl (fun _ => rfl) (fun _ => Nat.le_of_ble_eq_true rfl) eZ (fun K C => ?_)
  unfold F_X12_find
  refine gf_iconst C dX12_find_0 ki_0 (gf_istore_n C dX12_find_1 rfl [some (.ref 117), some (.int (0 : Int32)), none, none, none] rfl rfl (Nat.le_of_ble_eq_true rfl) (gf_iconst C dX12_find_2 ki_0 (gf_istore_n C dX12_find_3 rfl [some (.ref 117), some (.int (0 : Int32)), some (.int (0 : Int32)), none, none] rfl rfl (Nat.le_of_ble_eq_true rfl) (gf_iconst C dX12_find_4 ki_1 (gf_istore_n C dX12_find_5 rfl [some (.ref 117), some (.int (0 : Int32)), some (.int (0 : Int32)), some (.int (1 : Int32)), none] rfl rfl (Nat.le_of_ble_eq_true rfl) (gf_iconst C dX12_find_6 ki_0 (gf_istore C dX12_find_7 [some (.ref 117), some (.int (0 : Int32)), some (.int (0 : Int32)), some (.int (1 : Int32)), some (.int (0 : Int32))] rfl rfl (Nat.le_of_ble_eq_true rfl) ?_)))))))
  refine gf_sub [some (.ref 117), some (.int (0 : Int32)), some (.int (0 : Int32)), some (.int (1 : Int32)), some (.int (0 : Int32))] (And.intro rfl (And.intro rfl (And.intro rfl (And.intro rfl (And.intro rfl trivial))))) ?_
  refine lp_P (fun (c6 : Int32 → Int32 → Int32 → Int32 → Hp → Option (Int32 × Hp)) => ∀ (v1 : Int32) (v2 : Int32) (v3 : Int32) (v4 : Int32) (h5 : Hp), GF K eI h5 9 [some (.ref 117), some (.int v1), some (.int v2), some (.int v3), some (.int v4)] [] (c6 v1 v2 v3 v4 h5)) (fun _ _ _ _ _ => gf_none) (fun c6 kc6 v1 v2 v3 v4 h5 => ?_) (0 : Int32) (0 : Int32) (1 : Int32) (0 : Int32) h
  refine gf_iload C dX12_find_9 rfl (gf_aload_n C dX12_find_11 rfl rfl (gf_getI C dX12_find_12 fl_X12_92 s_117 rfl 7489 rfl ?_))
  refine gf_icmpge C 89 dX12_find_15 (by decide) (fun _ => ?_) (fun _ => ?_)
  · refine gf_aload_n C dX12_find_18 rfl rfl (gf_getR C dX12_find_19 fl_X12_7 s_117 rfl 118 rfl (gf_iload C dX12_find_22 rfl (gf_iald C dX12_find_24 s_118 (gf_bipush C dX12_find_25 kb_32 ?_))))
    refine gf_jn (fun (j11 : Int32 → Int32 → Int32 → Hp → Option (Int32 × Hp)) => ∀ (v7 : Int32) (v8 : Int32) (v9 : Int32) (h10 : Hp), GF K eI h10 83 [some (.ref 117), some (.int v7), some (.int v8), some (.int v9), some (.int v4)] [] (j11 v7 v8 v9 h10)) ?_ (fun j11 kj11 => ?_)
    · intro v7 v8 v9 h10
      refine gf_iinc C dX12_find_83 rfl (ii_1 _) [some (.ref 117), some (.int v7), some (.int v8), some (.int v9), some (.int (v4 + (1 : Int32)))] rfl rfl ?_
      refine gf_goto C 9 dX12_find_86 (by decide) ?_
      exact gf_sub [some (.ref 117), some (.int v7), some (.int v8), some (.int v9), some (.int (v4 + (1 : Int32)))] (And.intro rfl (And.intro rfl (And.intro rfl (And.intro rfl (And.intro rfl trivial))))) (kc6 v7 v8 v9 (v4 + (1 : Int32)) h10)
    refine gf_icmpeq C 83 dX12_find_27 (by decide) (fun _ => ?_) (fun _ => ?_)
    · exact gf_sub [some (.ref 117), some (.int v1), some (.int v2), some (.int v3), some (.int v4)] (And.intro rfl (And.intro rfl (And.intro rfl (And.intro rfl (And.intro rfl trivial))))) (kj11 v1 v2 v3 h5)
    · refine gf_iload_n C dX12_find_30 rfl rfl ?_
      refine gf_jn (fun (j14 : Int32 → Hp → Option (Int32 × Hp)) => ∀ (s12 : Int32) (h13 : Hp), GF K eI h13 53 [some (.ref 117), some (.int v1), some (.int v2), none, some (.int v4)] [.int s12] (j14 s12 h13)) ?_ (fun j14 kj14 => ?_)
      · intro s12 h13
        refine gf_istore_n C dX12_find_53 rfl [some (.ref 117), some (.int v1), some (.int v2), some (.int s12), some (.int v4)] rfl rfl (Nat.le_of_ble_eq_true rfl) (gf_iinc C dX12_find_54 rfl (ii_1 _) [some (.ref 117), some (.int v1), some (.int (v2 + (1 : Int32))), some (.int s12), some (.int v4)] rfl rfl (gf_iload_n C dX12_find_57 rfl rfl (gf_bipush C dX12_find_58 kb_6 ?_)))
        refine gf_jn (fun (j17 : Int32 → Hp → Option (Int32 × Hp)) => ∀ (s15 : Int32) (h16 : Hp), GF K eI h16 82 [some (.ref 117), none, some (.int (v2 + (1 : Int32))), some (.int s12), some (.int v4)] [.int s15] (j17 s15 h16)) ?_ (fun j17 kj17 => ?_)
        · intro s15 h16
          refine gf_istore_n C dX12_find_82 rfl [some (.ref 117), some (.int s15), some (.int (v2 + (1 : Int32))), some (.int s12), some (.int v4)] rfl rfl (Nat.le_of_ble_eq_true rfl) ?_
          exact gf_sub [some (.ref 117), some (.int s15), some (.int (v2 + (1 : Int32))), some (.int s12), some (.int v4)] (And.intro rfl (And.intro rfl (And.intro rfl (And.intro rfl (And.intro rfl trivial))))) (kj11 s15 (v2 + (1 : Int32)) s12 h16)
        refine gf_icmpge C 81 dX12_find_60 (by decide) (fun _ => ?_) (fun _ => ?_)
        · refine gf_bipush C dX12_find_63 kb_27 (gf_iload_n C dX12_find_65 rfl rfl (gf_imul C dX12_find_66 (gf_aload_n C dX12_find_67 rfl rfl (gf_getR C dX12_find_68 fl_X12_7 s_117 rfl 118 rfl (gf_iload C dX12_find_71 rfl (gf_iald C dX12_find_73 s_118 (gf_iadd C dX12_find_74 ?_)))))))
          refine gf_bipush C dX12_find_75 kb_96 (gf_isub C dX12_find_77 ?_)
          refine gf_goto C 82 dX12_find_78 (by decide) ?_
          exact gf_sub [some (.ref 117), none, some (.int (v2 + (1 : Int32))), some (.int s12), some (.int v4)] (And.intro rfl (And.intro rfl (And.intro rfl (And.intro rfl trivial)))) (kj17 ((((27 : Int32) * v1) + (aG h13 118 v4.toNatClampNeg)) - (96 : Int32)) h13)
        · refine gf_iload_n C dX12_find_81 rfl rfl ?_
          exact gf_sub [some (.ref 117), none, some (.int (v2 + (1 : Int32))), some (.int s12), some (.int v4)] (And.intro rfl (And.intro rfl (And.intro rfl (And.intro rfl trivial)))) (kj17 v1 h13)
      refine gf_jn (fun (j19 : Hp → Option (Int32 × Hp)) => ∀ (h18 : Hp), GF K eI h18 52 [some (.ref 117), some (.int v1), some (.int v2), none, some (.int v4)] [] (j19 h18)) ?_ (fun j19 kj19 => ?_)
      · intro h18
        refine gf_iconst C dX12_find_52 ki_0 ?_
        exact gf_sub [some (.ref 117), some (.int v1), some (.int v2), none, some (.int v4)] (And.intro rfl (And.intro rfl (And.intro rfl (And.intro rfl trivial)))) (kj14 (0 : Int32) h18)
      refine gf_ifeq C 52 dX12_find_31 (by decide) (fun _ => ?_) (fun _ => ?_)
      · exact gf_sub [some (.ref 117), some (.int v1), some (.int v2), none, some (.int v4)] (And.intro rfl (And.intro rfl (And.intro rfl (And.intro rfl trivial)))) (kj19 h5)
      · refine gf_aload_n C dX12_find_34 rfl rfl (gf_getR C dX12_find_35 fl_X12_7 s_117 rfl 118 rfl (gf_iload C dX12_find_38 rfl (gf_iald C dX12_find_40 s_118 ?_)))
        refine gf_callS (ε2 := eI) C [.int (aG h5 118 v4.toNatClampNeg)] dX12_find_41 mw_X12_kindOf ml_X12_104 (fun rZ hZ eZ => ok_X12_kindOf (aG h5 118 v4.toNatClampNeg) h5 rZ hZ eZ) rfl rfl rfl (Nat.le_of_ble_eq_true rfl) (Nat.le_of_ble_eq_true rfl) (Nat.le_of_ble_eq_true rfl) (fun r20 h21 => ?_)
        refine gf_iconst C dX12_find_44 ki_1 ?_
        refine gf_icmpne C 52 dX12_find_45 (by decide) (fun _ => ?_) (fun _ => ?_)
        · refine gf_iconst C dX12_find_48 ki_1 ?_
          refine gf_goto C 53 dX12_find_49 (by decide) ?_
          exact gf_sub [some (.ref 117), some (.int v1), some (.int v2), none, some (.int v4)] (And.intro rfl (And.intro rfl (And.intro rfl (And.intro rfl trivial)))) (kj14 (1 : Int32) h21)
        · exact gf_sub [some (.ref 117), some (.int v1), some (.int v2), none, some (.int v4)] (And.intro rfl (And.intro rfl (And.intro rfl (And.intro rfl trivial)))) (kj19 h21)
  · refine gf_iconst C dX12_find_89 ki_0 (gf_istore C dX12_find_90 [some (.ref 117), some (.int v1), some (.int v2), some (.int v3), some (.int (0 : Int32))] rfl rfl (Nat.le_of_ble_eq_true rfl) ?_)
    refine gf_sub [some (.ref 117), some (.int v1), some (.int v2), some (.int v3), some (.int (0 : Int32))] (And.intro rfl (And.intro rfl (And.intro rfl (And.intro rfl (And.intro rfl trivial))))) ?_
    refine lp_P (fun (c24 : Int32 → Hp → Option (Int32 × Hp)) => ∀ (v22 : Int32) (h23 : Hp), GF K eI h23 92 [some (.ref 117), some (.int v1), some (.int v2), some (.int v3), some (.int v22)] [] (c24 v22 h23)) (fun _ _ => gf_none) (fun c24 kc24 v22 h23 => ?_) (0 : Int32) h5
    refine gf_iload C dX12_find_92 rfl (gf_aload_n C dX12_find_94 rfl rfl (gf_getI C dX12_find_95 fl_X12_166 s_117 rfl 7504 rfl ?_))
    refine gf_jn (fun (j26 : Hp → Option (Int32 × Hp)) => ∀ (h25 : Hp), GF K eI h25 134 [none, none, none, none, none] [] (j26 h25)) ?_ (fun j26 kj26 => ?_)
    · intro h25
      refine gf_iconst C dX12_find_134 ki_m1 ?_
      exact gf_iret C dX12_find_135 rfl
    refine gf_icmpge C 134 dX12_find_98 (by decide) (fun _ => ?_) (fun _ => ?_)
    · refine gf_iload_n C dX12_find_101 rfl rfl ?_
      refine gf_ifeq C 134 dX12_find_102 (by decide) (fun _ => ?_) (fun _ => ?_)
      · exact gf_sub [none, none, none, none, none] trivial (kj26 h23)
      · refine gf_iload_n C dX12_find_105 rfl rfl (gf_iconst C dX12_find_106 ki_1 (gf_iconst C dX12_find_107 ki_5 ?_))
        refine gf_callS (ε2 := eI) C [.int v2, .int (1 : Int32), .int (5 : Int32)] dX12_find_108 mw_X12_within ml_X12_88 (fun rZ hZ eZ => ok_X12_within v2 (1 : Int32) (5 : Int32) h23 rZ hZ eZ) rfl rfl rfl (Nat.le_of_ble_eq_true rfl) (Nat.le_of_ble_eq_true rfl) (Nat.le_of_ble_eq_true rfl) (fun r27 h28 => ?_)
        refine gf_ifeq C 134 dX12_find_111 (by decide) (fun _ => ?_) (fun _ => ?_)
        · exact gf_sub [none, none, none, none, none] trivial (kj26 h28)
        · refine gf_aload_n C dX12_find_114 rfl rfl (gf_getR C dX12_find_115 fl_X12_32 s_117 rfl 122 rfl (gf_iload C dX12_find_118 rfl (gf_iald C dX12_find_120 s_122 (gf_iload_n C dX12_find_121 rfl rfl ?_))))
          refine gf_icmpne C 128 dX12_find_122 (by decide) (fun _ => ?_) (fun _ => ?_)
          · refine gf_iload C dX12_find_125 rfl ?_
            exact gf_iret C dX12_find_127 rfl
          · refine gf_iinc C dX12_find_128 rfl (ii_1 _) [some (.ref 117), some (.int v1), some (.int v2), some (.int v3), some (.int (v22 + (1 : Int32)))] rfl rfl ?_
            refine gf_goto C 92 dX12_find_131 (by decide) ?_
            exact gf_sub [some (.ref 117), some (.int v1), some (.int v2), some (.int v3), some (.int (v22 + (1 : Int32)))] (And.intro rfl (And.intro rfl (And.intro rfl (And.intro rfl (And.intro rfl trivial))))) (kc24 (v22 + (1 : Int32)) h28)
    · exact gf_sub [none, none, none, none, none] trivial (kj26 h23)
def F_X12_isPicture (a1 : Int32) (h : Hp) : Option (Int32 × Hp) :=
  bd (F_X12_within a1 (0 : Int32) ((sG h 7504) - (1 : Int32)) h) (fun r1 h2 => gd (isB r1) ( some (r1, h2)))
set_option maxRecDepth 100000 in
set_option maxHeartbeats 4000000 in
theorem ok_X12_isPicture (a1 : Int32) (h : Hp) (rZ : Int32) (hZ : Hp) (eZ : F_X12_isPicture a1 h = some (rZ, hZ)) : AC yX12_isPicture cX12_isPicture 2 (some .boolean) 1 22 [.ref 117, .int a1] h (eI rZ) hZ := by
  refine AC_intro (o := F_X12_isPicture a1 h) RX12 rfl (plainFor_of_name (by decide)) [some (.ref 117), some (.int a1)] rfl (fun _ => rfl) (fun _ => Nat.le_of_ble_eq_true rfl) eZ (fun K C => ?_)
  unfold F_X12_isPicture
  refine gf_iload_n C dX12_isPicture_0 rfl rfl (gf_iconst C dX12_isPicture_1 ki_0 (gf_aload_n C dX12_isPicture_2 rfl rfl (gf_getI C dX12_isPicture_3 fl_X12_166 s_117 rfl 7504 rfl (gf_iconst C dX12_isPicture_6 ki_1 (gf_isub C dX12_isPicture_7 ?_)))))
  refine gf_callS (ε2 := eI) C [.int a1, .int (0 : Int32), .int ((sG h 7504) - (1 : Int32))] dX12_isPicture_8 mw_X12_within ml_X12_88 (fun rZ hZ eZ => ok_X12_within a1 (0 : Int32) ((sG h 7504) - (1 : Int32)) h rZ hZ eZ) rfl rfl rfl (Nat.le_of_ble_eq_true rfl) (Nat.le_of_ble_eq_true rfl) (Nat.le_of_ble_eq_true rfl) (fun r1 h2 => ?_)
  refine gf_gd (fun b3 => ?_)
  exact gf_zret C dX12_isPicture_11 (isB_nar b3) rfl
def F_X12_isMatter (a1 : Int32) (h : Hp) : Option (Int32 × Hp) :=
  bd (F_X12_within a1 (0 : Int32) ((1 : Int32) + (sG h 7506)) h) (fun r1 h2 => gd (isB r1) ( some (r1, h2)))
set_option maxRecDepth 100000 in
set_option maxHeartbeats 4000000 in
theorem ok_X12_isMatter (a1 : Int32) (h : Hp) (rZ : Int32) (hZ : Hp) (eZ : F_X12_isMatter a1 h = some (rZ, hZ)) : AC yX12_isMatter cX12_isMatter 2 (some .boolean) 1 22 [.ref 117, .int a1] h (eI rZ) hZ := by
  refine AC_intro (o := F_X12_isMatter a1 h) RX12 rfl (plainFor_of_name (by decide)) [some (.ref 117), some (.int a1)] rfl (fun _ => rfl) (fun _ => Nat.le_of_ble_eq_true rfl) eZ (fun K C => ?_)
  unfold F_X12_isMatter
  refine gf_iload_n C dX12_isMatter_0 rfl rfl (gf_iconst C dX12_isMatter_1 ki_0 (gf_iconst C dX12_isMatter_2 ki_1 (gf_aload_n C dX12_isMatter_3 rfl rfl (gf_getI C dX12_isMatter_4 fl_X12_169 s_117 rfl 7506 rfl (gf_iadd C dX12_isMatter_7 ?_)))))
  refine gf_callS (ε2 := eI) C [.int a1, .int (0 : Int32), .int ((1 : Int32) + (sG h 7506))] dX12_isMatter_8 mw_X12_within ml_X12_88 (fun rZ hZ eZ => ok_X12_within a1 (0 : Int32) ((1 : Int32) + (sG h 7506)) h rZ hZ eZ) rfl rfl rfl (Nat.le_of_ble_eq_true rfl) (Nat.le_of_ble_eq_true rfl) (Nat.le_of_ble_eq_true rfl) (fun r1 h2 => ?_)
  refine gf_gd (fun b3 => ?_)
  exact gf_zret C dX12_isMatter_11 (isB_nar b3) rfl
def F_X12_value (a1 : Int32) (a2 : Int32) (h : Hp) : Option (Int32 × Hp) :=
  bd (F_X12_pieceAt a1 a2 h) (fun r1 h2 => jn (fun (s3 : Int32) (h4 : Hp) =>
  some (s3, h4)) (fun j5 => if r1 = (-1 : Int32) then (
  j5 (-1 : Int32) h2) else (
  jl (((4 : Int32) * r1) + (3 : Int32)) (fun x6 => gd (inb x6 225) ( j5 (aG h2 124 x6.toNatClampNeg) h2)))))
set_option maxRecDepth 100000 in
set_option maxHeartbeats 4000000 in
theorem ok_X12_value (a1 : Int32) (a2 : Int32) (h : Hp) (rZ : Int32) (hZ : Hp) (eZ : F_X12_value a1 a2 h = some (rZ, hZ)) : AC yX12_value cX12_value 4 (some .int) 1 24 [.ref 117, .int a1, .int a2] h (eI rZ) hZ := by
  refine AC_intro (o := F_X12_value a1 a2 h) RX12 rfl (plainFor_of_name (by decide)) [some (.ref 117), some (.int a1), some (.int a2), none] rfl (fun _ => rfl) (fun _ => Nat.le_of_ble_eq_true rfl) eZ (fun K C => ?_)
  unfold F_X12_value
  refine gf_aload_n C dX12_value_0 rfl rfl (gf_iload_n C dX12_value_1 rfl rfl (gf_iload_n C dX12_value_2 rfl rfl ?_))
  refine gf_callV (ε2 := eI) C [.int a1, .int a2] dX12_value_3 mw_X12_pieceAt ml_X12_192 s_117 (fun rZ hZ eZ => ok_X12_pieceAt a1 a2 h rZ hZ eZ) rfl rfl rfl (Nat.le_of_ble_eq_true rfl) (Nat.le_of_ble_eq_true rfl) (Nat.le_of_ble_eq_true rfl) (fun r1 h2 => ?_)
  refine gf_istore_n C dX12_value_6 rfl [some (.ref 117), some (.int a1), some (.int a2), some (.int r1)] rfl rfl (Nat.le_of_ble_eq_true rfl) (gf_iload_n C dX12_value_7 rfl rfl (gf_iconst C dX12_value_8 ki_m1 ?_))
  refine gf_jn (fun (j5 : Int32 → Hp → Option (Int32 × Hp)) => ∀ (s3 : Int32) (h4 : Hp), GF K eI h4 26 [none, none, none, none] [.int s3] (j5 s3 h4)) ?_ (fun j5 kj5 => ?_)
  · intro s3 h4
    exact gf_iret C dX12_value_26 rfl
  refine gf_icmpne C 16 dX12_value_9 (by decide) (fun _ => ?_) (fun _ => ?_)
  · refine gf_iconst C dX12_value_12 ki_m1 ?_
    refine gf_goto C 26 dX12_value_13 (by decide) ?_
    exact gf_sub [none, none, none, none] trivial (kj5 (-1 : Int32) h2)
  · refine gf_aload_n C dX12_value_16 rfl rfl (gf_getR C dX12_value_17 fl_X12_38 s_117 rfl 124 rfl (gf_iconst C dX12_value_20 ki_4 (gf_iload_n C dX12_value_21 rfl rfl (gf_imul C dX12_value_22 (gf_iconst C dX12_value_23 ki_3 (gf_iadd C dX12_value_24 ?_))))))
    refine gf_jlI (fun x6 => ?_)
    refine gf_iald C dX12_value_25 s_124 ?_
    exact gf_sub [none, none, none, none] trivial (kj5 (aG h2 124 x6.toNatClampNeg) h2)
def F_X12_remove (a1 : Int32) (h : Hp) : Option (Unit × Hp) :=
  gd (inb (0 : Int32) 225) ( bd (F_X12_bring 124 225 (((4 : Int32) * a1) + (5 : Int32)) 124 225 (((4 : Int32) * a1) + (1 : Int32)) ((4 : Int32) * (((aG h 124 (0 : Int32).toNatClampNeg) - a1) - (1 : Int32))) h) (fun _ h1 => gd (inb (0 : Int32) 225) ( gd (inb (0 : Int32) 225) ( jl (aS h1 124 (0 : Int32).toNatClampNeg ((aG h1 124 (0 : Int32).toNatClampNeg) - (1 : Int32))) (fun h2 => some ((), h2))))))
set_option maxRecDepth 100000 in
set_option maxHeartbeats 4000000 in
theorem ok_X12_remove (a1 : Int32) (h : Hp) (rZ : Unit) (hZ : Hp) (eZ : F_X12_remove a1 h = some (rZ, hZ)) : AC yX12_remove cX12_remove 2 (none) 1 25 [.ref 117, .int a1] h (eV rZ) hZ := by
  refine AC_intro (o := F_X12_remove a1 h) RX12 rfl (plainFor_of_name (by decide)) [some (.ref 117), some (.int a1)] rfl (fun _ => rfl) (fun _ => Nat.le_of_ble_eq_true rfl) eZ (fun K C => ?_)
  unfold F_X12_remove
  refine gf_aload_n C dX12_remove_0 rfl rfl (gf_getR C dX12_remove_1 fl_X12_38 s_117 rfl 124 rfl (gf_iconst C dX12_remove_4 ki_4 (gf_iload_n C dX12_remove_5 rfl rfl (gf_imul C dX12_remove_6 (gf_iconst C dX12_remove_7 ki_5 (gf_iadd C dX12_remove_8 (gf_aload_n C dX12_remove_9 rfl rfl ?_)))))))
  refine gf_getR C dX12_remove_10 fl_X12_38 s_117 rfl 124 rfl (gf_iconst C dX12_remove_13 ki_4 (gf_iload_n C dX12_remove_14 rfl rfl (gf_imul C dX12_remove_15 (gf_iconst C dX12_remove_16 ki_1 (gf_iadd C dX12_remove_17 (gf_iconst C dX12_remove_18 ki_4 (gf_aload_n C dX12_remove_19 rfl rfl ?_)))))))
  refine gf_getR C dX12_remove_20 fl_X12_38 s_117 rfl 124 rfl (gf_iconst C dX12_remove_23 ki_0 (gf_iald C dX12_remove_24 s_124 (gf_iload_n C dX12_remove_25 rfl rfl (gf_isub C dX12_remove_26 (gf_iconst C dX12_remove_27 ki_1 (gf_isub C dX12_remove_28 (gf_imul C dX12_remove_29 ?_)))))))
  refine gf_callS (ε2 := eV) C [.ref 124, .int (((4 : Int32) * a1) + (5 : Int32)), .ref 124, .int (((4 : Int32) * a1) + (1 : Int32)), .int ((4 : Int32) * (((aG h 124 (0 : Int32).toNatClampNeg) - a1) - (1 : Int32)))] dX12_remove_30 mw_X12_bring ml_X12_172 (fun rZ hZ eZ => ok_X12_bring 124 225 (((4 : Int32) * a1) + (5 : Int32)) 124 225 (((4 : Int32) * a1) + (1 : Int32)) ((4 : Int32) * (((aG h 124 (0 : Int32).toNatClampNeg) - a1) - (1 : Int32))) s_124 s_124 h rZ hZ eZ) rfl rfl rfl (Nat.le_of_ble_eq_true rfl) (Nat.le_of_ble_eq_true rfl) (Nat.le_of_ble_eq_true rfl) (fun _ h1 => ?_)
  refine gf_aload_n C dX12_remove_33 rfl rfl (gf_getR C dX12_remove_34 fl_X12_38 s_117 rfl 124 rfl (gf_iconst C dX12_remove_37 ki_0 (gf_dup2 C dX12_remove_38 rfl rfl (gf_iald C dX12_remove_39 s_124 (gf_iconst C dX12_remove_40 ki_1 (gf_isub C dX12_remove_41 (gf_iast C dX12_remove_42 s_124 ?_)))))))
  refine gf_jlH (fun h2 => ?_)
  exact gf_vret C dX12_remove_43 rfl
def F_X12_mostOf (a1 : Int32) (h : Hp) : Option (Int32 × Hp) :=
  jn (fun (s1 : Int32) (h2 : Hp) =>
  some (s1, h2)) (fun j3 => if a1 = 0 then (
  j3 (24 : Int32) h) else (
  if a1 = (1 : Int32) then (
  j3 (999 : Int32) h) else (
  gd (inb (a1 - (2 : Int32)) 6) ( if (aG h 123 (a1 - (2 : Int32)).toNatClampNeg) = (3 : Int32) then (
  j3 (9 : Int32) h) else (
  j3 (1 : Int32) h)))))
set_option maxRecDepth 100000 in
set_option maxHeartbeats 4000000 in
theorem ok_X12_mostOf (a1 : Int32) (h : Hp) (rZ : Int32) (hZ : Hp) (eZ : F_X12_mostOf a1 h = some (rZ, hZ)) : AC yX12_mostOf cX12_mostOf 2 (some .int) 0 0 [.ref 117, .int a1] h (eI rZ) hZ := by
  refine AC_intro (o := F_X12_mostOf a1 h) RX12 rfl (plainFor_of_name (by decide)) [some (.ref 117), some (.int a1)] rfl (fun _ => rfl) (fun _ => Nat.le_of_ble_eq_true rfl) eZ (fun K C => ?_)
  unfold F_X12_mostOf
  refine gf_iload_n C dX12_mostOf_0 rfl rfl ?_
  refine gf_jn (fun (j3 : Int32 → Hp → Option (Int32 × Hp)) => ∀ (s1 : Int32) (h2 : Hp), GF K eI h2 38 [none, none] [.int s1] (j3 s1 h2)) ?_ (fun j3 kj3 => ?_)
  · intro s1 h2
    exact gf_iret C dX12_mostOf_38 rfl
  refine gf_ifne C 9 dX12_mostOf_1 (by decide) (fun _ => ?_) (fun _ => ?_)
  · refine gf_bipush C dX12_mostOf_4 kb_24 ?_
    refine gf_goto C 38 dX12_mostOf_6 (by decide) ?_
    exact gf_sub [none, none] trivial (kj3 (24 : Int32) h)
  · refine gf_iload_n C dX12_mostOf_9 rfl rfl (gf_iconst C dX12_mostOf_10 ki_1 ?_)
    refine gf_icmpne C 20 dX12_mostOf_11 (by decide) (fun _ => ?_) (fun _ => ?_)
    · refine gf_sipush C dX12_mostOf_14 ks_999 ?_
      refine gf_goto C 38 dX12_mostOf_17 (by decide) ?_
      exact gf_sub [none, none] trivial (kj3 (999 : Int32) h)
    · refine gf_aload_n C dX12_mostOf_20 rfl rfl (gf_getR C dX12_mostOf_21 fl_X12_35 s_117 rfl 123 rfl (gf_iload_n C dX12_mostOf_24 rfl rfl (gf_iconst C dX12_mostOf_25 ki_2 (gf_isub C dX12_mostOf_26 (gf_iald C dX12_mostOf_27 s_123 (gf_iconst C dX12_mostOf_28 ki_3 ?_))))))
      refine gf_icmpne C 37 dX12_mostOf_29 (by decide) (fun _ => ?_) (fun _ => ?_)
      · refine gf_bipush C dX12_mostOf_32 kb_9 ?_
        refine gf_goto C 38 dX12_mostOf_34 (by decide) ?_
        exact gf_sub [none, none] trivial (kj3 (9 : Int32) h)
      · refine gf_iconst C dX12_mostOf_37 ki_1 ?_
        exact gf_sub [none, none] trivial (kj3 (1 : Int32) h)
def F_X12_pointAt (a1 : Int32) (h : Hp) : Option (Int32 × Hp) :=
  some ((a1 - (sG h 7501)) + (12 : Int32), h)
set_option maxRecDepth 100000 in
set_option maxHeartbeats 4000000 in
theorem ok_X12_pointAt (a1 : Int32) (h : Hp) (rZ : Int32) (hZ : Hp) (eZ : F_X12_pointAt a1 h = some (rZ, hZ)) : AC yX12_pointAt cX12_pointAt 2 (some .int) 0 0 [.ref 117, .int a1] h (eI rZ) hZ := by
  refine AC_intro (o := F_X12_pointAt a1 h) RX12 rfl (plainFor_of_name (by decide)) [some (.ref 117), some (.int a1)] rfl (fun _ => rfl) (fun _ => Nat.le_of_ble_eq_true rfl) eZ (fun K C => ?_)
  unfold F_X12_pointAt
  refine gf_iload_n C dX12_pointAt_0 rfl rfl (gf_aload_n C dX12_pointAt_1 rfl rfl (gf_getI C dX12_pointAt_2 fl_X12_22 s_117 rfl 7501 rfl (gf_isub C dX12_pointAt_5 (gf_bipush C dX12_pointAt_6 kb_12 (gf_iadd C dX12_pointAt_8 ?_)))))
  exact gf_iret C dX12_pointAt_9 rfl
def F_X12_lengthAt (a1 : Int32) (h : Hp) : Option (Int32 × Hp) :=
  jl (a1 - (sG h 7501)) (fun x1 => some ((sG h 7503) + ((((sG h 7502) * x1) * x1) / (4 : Int32)), h))
set_option maxRecDepth 100000 in
set_option maxHeartbeats 4000000 in
theorem ok_X12_lengthAt (a1 : Int32) (h : Hp) (rZ : Int32) (hZ : Hp) (eZ : F_X12_lengthAt a1 h = some (rZ, hZ)) : AC yX12_lengthAt cX12_lengthAt 3 (some .int) 0 0 [.ref 117, .int a1] h (eI rZ) hZ := by
  refine AC_intro (o := F_X12_lengthAt a1 h) RX12 rfl (plainFor_of_name (by decide)) [some (.ref 117), some (.int a1), none] rfl (fun _ => rfl) (fun _ => Nat.le_of_ble_eq_true rfl) eZ (fun K C => ?_)
  unfold F_X12_lengthAt
  refine gf_iload_n C dX12_lengthAt_0 rfl rfl (gf_aload_n C dX12_lengthAt_1 rfl rfl (gf_getI C dX12_lengthAt_2 fl_X12_22 s_117 rfl 7501 rfl (gf_isub C dX12_lengthAt_5 ?_)))
  refine gf_jlI (fun x1 => ?_)
  refine gf_istore_n C dX12_lengthAt_6 rfl [some (.ref 117), some (.int a1), some (.int x1)] rfl rfl (Nat.le_of_ble_eq_true rfl) (gf_aload_n C dX12_lengthAt_7 rfl rfl (gf_getI C dX12_lengthAt_8 fl_X12_29 s_117 rfl 7503 rfl (gf_aload_n C dX12_lengthAt_11 rfl rfl (gf_getI C dX12_lengthAt_12 fl_X12_26 s_117 rfl 7502 rfl (gf_iload_n C dX12_lengthAt_15 rfl rfl (gf_imul C dX12_lengthAt_16 (gf_iload_n C dX12_lengthAt_17 rfl rfl ?_)))))))
  refine gf_imul C dX12_lengthAt_18 (gf_iconst C dX12_lengthAt_19 ki_4 (gf_idivC C dX12_lengthAt_20 (by decide) (gf_iadd C dX12_lengthAt_21 ?_)))
  exact gf_iret C dX12_lengthAt_22 rfl
def F_X12_isUp (a1 : Int32) (h : Hp) : Option (Int32 × Hp) :=
  bd (F_X12_pointAt a1 h) (fun r1 h2 => bd (F_X12_within r1 (0 : Int32) (24 : Int32) h2) (fun r3 h4 => gd (isB r3) ( some (r3, h4))))
set_option maxRecDepth 100000 in
set_option maxHeartbeats 4000000 in
theorem ok_X12_isUp (a1 : Int32) (h : Hp) (rZ : Int32) (hZ : Hp) (eZ : F_X12_isUp a1 h = some (rZ, hZ)) : AC yX12_isUp cX12_isUp 2 (some .boolean) 1 22 [.ref 117, .int a1] h (eI rZ) hZ := by
  refine AC_intro (o := F_X12_isUp a1 h) RX12 rfl (plainFor_of_name (by decide)) [some (.ref 117), some (.int a1)] rfl (fun _ => rfl) (fun _ => Nat.le_of_ble_eq_true rfl) eZ (fun K C => ?_)
  unfold F_X12_isUp
  refine gf_aload_n C dX12_isUp_0 rfl rfl (gf_iload_n C dX12_isUp_1 rfl rfl ?_)
  refine gf_callV (ε2 := eI) C [.int a1] dX12_isUp_2 mw_X12_pointAt ml_X12_195 s_117 (fun rZ hZ eZ => ok_X12_pointAt a1 h rZ hZ eZ) rfl rfl rfl (Nat.le_of_ble_eq_true rfl) (Nat.le_of_ble_eq_true rfl) (Nat.le_of_ble_eq_true rfl) (fun r1 h2 => ?_)
  refine gf_iconst C dX12_isUp_5 ki_0 (gf_bipush C dX12_isUp_6 kb_24 ?_)
  refine gf_callS (ε2 := eI) C [.int r1, .int (0 : Int32), .int (24 : Int32)] dX12_isUp_8 mw_X12_within ml_X12_88 (fun rZ hZ eZ => ok_X12_within r1 (0 : Int32) (24 : Int32) h2 rZ hZ eZ) rfl rfl rfl (Nat.le_of_ble_eq_true rfl) (Nat.le_of_ble_eq_true rfl) (Nat.le_of_ble_eq_true rfl) (fun r3 h4 => ?_)
  refine gf_gd (fun b5 => ?_)
  exact gf_zret C dX12_isUp_11 (isB_nar b5) rfl
def F_X12_off (a1 : Int32) (a2 : Int32) (h : Hp) : Option (Int32 × Hp) :=
  jn (fun (s1 : Int32) (h2 : Hp) =>
  some (s1, h2)) (fun j3 => if a1 < a2 then (
  j3 (a2 - a1) h) else (
  j3 (a1 - a2) h))
set_option maxRecDepth 100000 in
set_option maxHeartbeats 4000000 in
theorem ok_X12_off (a1 : Int32) (a2 : Int32) (h : Hp) (rZ : Int32) (hZ : Hp) (eZ : F_X12_off a1 a2 h = some (rZ, hZ)) : AC yX12_off cX12_off 2 (some .int) 0 0 [.int a1, .int a2] h (eI rZ) hZ := by
  refine AC_intro (o := F_X12_off a1 a2 h) RX12 rfl (plainFor_of_name (by decide)) [some (.int a1), some (.int a2)] rfl (fun _ => rfl) (fun _ => Nat.le_of_ble_eq_true rfl) eZ (fun K C => ?_)
  unfold F_X12_off
  refine gf_iload_n C dX12_off_0 rfl rfl (gf_iload_n C dX12_off_1 rfl rfl ?_)
  refine gf_jn (fun (j3 : Int32 → Hp → Option (Int32 × Hp)) => ∀ (s1 : Int32) (h2 : Hp), GF K eI h2 14 [none, none] [.int s1] (j3 s1 h2)) ?_ (fun j3 kj3 => ?_)
  · intro s1 h2
    exact gf_iret C dX12_off_14 rfl
  refine gf_icmpge C 11 dX12_off_2 (by decide) (fun _ => ?_) (fun _ => ?_)
  · refine gf_iload_n C dX12_off_5 rfl rfl (gf_iload_n C dX12_off_6 rfl rfl (gf_isub C dX12_off_7 ?_))
    refine gf_goto C 14 dX12_off_8 (by decide) ?_
    exact gf_sub [none, none] trivial (kj3 (a2 - a1) h)
  · refine gf_iload_n C dX12_off_11 rfl rfl (gf_iload_n C dX12_off_12 rfl rfl (gf_isub C dX12_off_13 ?_))
    exact gf_sub [none, none] trivial (kj3 (a1 - a2) h)
def F_X12_isIn (a1 : Int32) (a2 : Int32) (h : Hp) : Option (Int32 × Hp) :=
  bd (F_X12_pieceAt a1 (0 : Int32) h) (fun r1 h2 => bd (F_X12_pieceAt a1 (1 : Int32) h2) (fun r3 h4 => jn (fun (s5 : Int32) (h6 : Hp) =>
  jn (fun (s8 : Int32) (h9 : Hp) =>
  jn (fun (s11 : Int32) (h12 : Hp) =>
  gd (isB s11) ( some (s11, h12))) (fun j13 => jn (fun (h15 : Hp) =>
  j13 (0 : Int32) h15) (fun j16 => if s8 = 0 then (
  j16 h9) else (
  jn (fun (h17 : Hp) =>
  j13 (1 : Int32) h17) (fun j18 => if r3 = (-1 : Int32) then (
  j18 h9) else (
  bd (F_X12_lengthAt a2 h9) (fun r19 h20 => jl (((4 : Int32) * r3) + (3 : Int32)) (fun x21 => gd (inb x21 225) ( bd (F_X12_off r19 (aG h20 124 x21.toNatClampNeg) h20) (fun r22 h23 => jl (((4 : Int32) * r3) + (4 : Int32)) (fun x24 => gd (inb x24 225) ( if (aG h23 124 x24.toNatClampNeg) < r22 then (
  j16 h23) else (
  j18 h23))))))))))))) (fun j10 => jn (fun (h25 : Hp) =>
  j10 (0 : Int32) h25) (fun j26 => if s5 = 0 then (
  j26 h6) else (
  jn (fun (h27 : Hp) =>
  j10 (1 : Int32) h27) (fun j28 => if r1 = (-1 : Int32) then (
  j28 h6) else (
  bd (F_X12_pointAt a2 h6) (fun r29 h30 => jl (((4 : Int32) * r1) + (3 : Int32)) (fun x31 => gd (inb x31 225) ( bd (F_X12_off r29 (aG h30 124 x31.toNatClampNeg) h30) (fun r32 h33 => jl (((4 : Int32) * r1) + (4 : Int32)) (fun x34 => gd (inb x34 225) ( if (aG h33 124 x34.toNatClampNeg) < r32 then (
  j26 h33) else (
  j28 h33))))))))))))) (fun j7 => jn (fun (h35 : Hp) =>
  j7 (1 : Int32) h35) (fun j36 => jn (fun (h37 : Hp) =>
  bd (F_X12_isUp a2 h37) (fun r39 h40 => if r39 = 0 then (
  j7 (0 : Int32) h40) else (
  j36 h40))) (fun j38 => if r1 = (-1 : Int32) then (
  if r3 = (-1 : Int32) then (
  j36 h4) else (
  j38 h4)) else (
  j38 h4))))))
set_option maxRecDepth 100000 in
set_option maxHeartbeats 4000000 in
theorem ok_X12_isIn (a1 : Int32) (a2 : Int32) (h : Hp) (rZ : Int32) (hZ : Hp) (eZ : F_X12_isIn a1 a2 h = some (rZ, hZ)) : AC yX12_isIn cX12_isIn 6 (some .boolean) 2 43 [.ref 117, .int a1, .int a2] h (eI rZ) hZ := by
  refine AC_intro (o := F_X12_isIn a1 a2 h) RX12 rfl (plainFor_of_name (by decide)) [some (.ref 117), some (.int a1), some (.int a2), none, none, none] rfl (fun _ => rfl) (fun _ => Nat.le_of_ble_eq_true rfl) eZ (fun K C => ?_)
  unfold F_X12_isIn
  refine gf_aload_n C dX12_isIn_0 rfl rfl (gf_iload_n C dX12_isIn_1 rfl rfl (gf_iconst C dX12_isIn_2 ki_0 ?_))
  refine gf_callV (ε2 := eI) C [.int a1, .int (0 : Int32)] dX12_isIn_3 mw_X12_pieceAt ml_X12_192 s_117 (fun rZ hZ eZ => ok_X12_pieceAt a1 (0 : Int32) h rZ hZ eZ) rfl rfl rfl (Nat.le_of_ble_eq_true rfl) (Nat.le_of_ble_eq_true rfl) (Nat.le_of_ble_eq_true rfl) (fun r1 h2 => ?_)
  refine gf_istore_n C dX12_isIn_6 rfl [some (.ref 117), some (.int a1), some (.int a2), some (.int r1), none, none] rfl rfl (Nat.le_of_ble_eq_true rfl) (gf_aload_n C dX12_isIn_7 rfl rfl (gf_iload_n C dX12_isIn_8 rfl rfl (gf_iconst C dX12_isIn_9 ki_1 ?_)))
  refine gf_callV (ε2 := eI) C [.int a1, .int (1 : Int32)] dX12_isIn_10 mw_X12_pieceAt ml_X12_192 s_117 (fun rZ hZ eZ => ok_X12_pieceAt a1 (1 : Int32) h2 rZ hZ eZ) rfl rfl rfl (Nat.le_of_ble_eq_true rfl) (Nat.le_of_ble_eq_true rfl) (Nat.le_of_ble_eq_true rfl) (fun r3 h4 => ?_)
  refine gf_istore C dX12_isIn_13 [some (.ref 117), some (.int a1), some (.int a2), some (.int r1), some (.int r3), none] rfl rfl (Nat.le_of_ble_eq_true rfl) (gf_iload_n C dX12_isIn_15 rfl rfl (gf_iconst C dX12_isIn_16 ki_m1 ?_))
  refine gf_jn (fun (j7 : Int32 → Hp → Option (Int32 × Hp)) => ∀ (s5 : Int32) (h6 : Hp), GF K eI h6 39 [some (.ref 117), none, some (.int a2), some (.int r1), some (.int r3), none] [.int s5] (j7 s5 h6)) ?_ (fun j7 kj7 => ?_)
  · intro s5 h6
    refine gf_istore C dX12_isIn_39 [some (.ref 117), none, some (.int a2), some (.int r1), some (.int r3), some (.int s5)] rfl rfl (Nat.le_of_ble_eq_true rfl) (gf_iload C dX12_isIn_41 rfl ?_)
    refine gf_jn (fun (j10 : Int32 → Hp → Option (Int32 × Hp)) => ∀ (s8 : Int32) (h9 : Hp), GF K eI h9 87 [some (.ref 117), none, some (.int a2), none, some (.int r3), none] [.int s8] (j10 s8 h9)) ?_ (fun j10 kj10 => ?_)
    · intro s8 h9
      refine gf_istore C dX12_isIn_87 [some (.ref 117), none, some (.int a2), none, some (.int r3), some (.int s8)] rfl rfl (Nat.le_of_ble_eq_true rfl) (gf_iload C dX12_isIn_89 rfl ?_)
      refine gf_jn (fun (j13 : Int32 → Hp → Option (Int32 × Hp)) => ∀ (s11 : Int32) (h12 : Hp), GF K eI h12 138 [none, none, none, none, none, none] [.int s11] (j13 s11 h12)) ?_ (fun j13 kj13 => ?_)
      · intro s11 h12
        refine gf_gd (fun b14 => ?_)
        exact gf_zret C dX12_isIn_138 (isB_nar b14) rfl
      refine gf_jn (fun (j16 : Hp → Option (Int32 × Hp)) => ∀ (h15 : Hp), GF K eI h15 137 [none, none, none, none, none, none] [] (j16 h15)) ?_ (fun j16 kj16 => ?_)
      · intro h15
        refine gf_iconst C dX12_isIn_137 ki_0 ?_
        exact gf_sub [none, none, none, none, none, none] trivial (kj13 (0 : Int32) h15)
      refine gf_ifeq C 137 dX12_isIn_91 (by decide) (fun _ => ?_) (fun _ => ?_)
      · exact gf_sub [none, none, none, none, none, none] trivial (kj16 h9)
      · refine gf_iload C dX12_isIn_94 rfl (gf_iconst C dX12_isIn_96 ki_m1 ?_)
        refine gf_jn (fun (j18 : Hp → Option (Int32 × Hp)) => ∀ (h17 : Hp), GF K eI h17 133 [none, none, none, none, none, none] [] (j18 h17)) ?_ (fun j18 kj18 => ?_)
        · intro h17
          refine gf_iconst C dX12_isIn_133 ki_1 ?_
          refine gf_goto C 138 dX12_isIn_134 (by decide) ?_
          exact gf_sub [none, none, none, none, none, none] trivial (kj13 (1 : Int32) h17)
        refine gf_icmpeq C 133 dX12_isIn_97 (by decide) (fun _ => ?_) (fun _ => ?_)
        · exact gf_sub [none, none, none, none, none, none] trivial (kj18 h9)
        · refine gf_aload_n C dX12_isIn_100 rfl rfl (gf_iload_n C dX12_isIn_101 rfl rfl ?_)
          refine gf_callV (ε2 := eI) C [.int a2] dX12_isIn_102 mw_X12_lengthAt ml_X12_205 s_117 (fun rZ hZ eZ => ok_X12_lengthAt a2 h9 rZ hZ eZ) rfl rfl rfl (Nat.le_of_ble_eq_true rfl) (Nat.le_of_ble_eq_true rfl) (Nat.le_of_ble_eq_true rfl) (fun r19 h20 => ?_)
          refine gf_aload_n C dX12_isIn_105 rfl rfl (gf_getR C dX12_isIn_106 fl_X12_38 s_117 rfl 124 rfl (gf_iconst C dX12_isIn_109 ki_4 (gf_iload C dX12_isIn_110 rfl (gf_imul C dX12_isIn_112 (gf_iconst C dX12_isIn_113 ki_3 (gf_iadd C dX12_isIn_114 ?_))))))
          refine gf_jlI (fun x21 => ?_)
          refine gf_iald C dX12_isIn_115 s_124 ?_
          refine gf_callS (ε2 := eI) C [.int r19, .int (aG h20 124 x21.toNatClampNeg)] dX12_isIn_116 mw_X12_off ml_X12_202 (fun rZ hZ eZ => ok_X12_off r19 (aG h20 124 x21.toNatClampNeg) h20 rZ hZ eZ) rfl rfl rfl (Nat.le_of_ble_eq_true rfl) (Nat.le_of_ble_eq_true rfl) (Nat.le_of_ble_eq_true rfl) (fun r22 h23 => ?_)
          refine gf_aload_n C dX12_isIn_119 rfl rfl (gf_getR C dX12_isIn_120 fl_X12_38 s_117 rfl 124 rfl (gf_iconst C dX12_isIn_123 ki_4 (gf_iload C dX12_isIn_124 rfl (gf_imul C dX12_isIn_126 (gf_iconst C dX12_isIn_127 ki_4 (gf_iadd C dX12_isIn_128 ?_))))))
          refine gf_jlI (fun x24 => ?_)
          refine gf_iald C dX12_isIn_129 s_124 ?_
          refine gf_icmpgt C 137 dX12_isIn_130 (by decide) (fun _ => ?_) (fun _ => ?_)
          · exact gf_sub [none, none, none, none, none, none] trivial (kj16 h23)
          · exact gf_sub [none, none, none, none, none, none] trivial (kj18 h23)
    refine gf_jn (fun (j26 : Hp → Option (Int32 × Hp)) => ∀ (h25 : Hp), GF K eI h25 86 [some (.ref 117), none, some (.int a2), none, some (.int r3), none] [] (j26 h25)) ?_ (fun j26 kj26 => ?_)
    · intro h25
      refine gf_iconst C dX12_isIn_86 ki_0 ?_
      exact gf_sub [some (.ref 117), none, some (.int a2), none, some (.int r3), none] (And.intro rfl (And.intro rfl (And.intro rfl trivial))) (kj10 (0 : Int32) h25)
    refine gf_ifeq C 86 dX12_isIn_43 (by decide) (fun _ => ?_) (fun _ => ?_)
    · exact gf_sub [some (.ref 117), none, some (.int a2), none, some (.int r3), none] (And.intro rfl (And.intro rfl (And.intro rfl trivial))) (kj26 h6)
    · refine gf_iload_n C dX12_isIn_46 rfl rfl (gf_iconst C dX12_isIn_47 ki_m1 ?_)
      refine gf_jn (fun (j28 : Hp → Option (Int32 × Hp)) => ∀ (h27 : Hp), GF K eI h27 82 [some (.ref 117), none, some (.int a2), none, some (.int r3), none] [] (j28 h27)) ?_ (fun j28 kj28 => ?_)
      · intro h27
        refine gf_iconst C dX12_isIn_82 ki_1 ?_
        refine gf_goto C 87 dX12_isIn_83 (by decide) ?_
        exact gf_sub [some (.ref 117), none, some (.int a2), none, some (.int r3), none] (And.intro rfl (And.intro rfl (And.intro rfl trivial))) (kj10 (1 : Int32) h27)
      refine gf_icmpeq C 82 dX12_isIn_48 (by decide) (fun _ => ?_) (fun _ => ?_)
      · exact gf_sub [some (.ref 117), none, some (.int a2), none, some (.int r3), none] (And.intro rfl (And.intro rfl (And.intro rfl trivial))) (kj28 h6)
      · refine gf_aload_n C dX12_isIn_51 rfl rfl (gf_iload_n C dX12_isIn_52 rfl rfl ?_)
        refine gf_callV (ε2 := eI) C [.int a2] dX12_isIn_53 mw_X12_pointAt ml_X12_195 s_117 (fun rZ hZ eZ => ok_X12_pointAt a2 h6 rZ hZ eZ) rfl rfl rfl (Nat.le_of_ble_eq_true rfl) (Nat.le_of_ble_eq_true rfl) (Nat.le_of_ble_eq_true rfl) (fun r29 h30 => ?_)
        refine gf_aload_n C dX12_isIn_56 rfl rfl (gf_getR C dX12_isIn_57 fl_X12_38 s_117 rfl 124 rfl (gf_iconst C dX12_isIn_60 ki_4 (gf_iload_n C dX12_isIn_61 rfl rfl (gf_imul C dX12_isIn_62 (gf_iconst C dX12_isIn_63 ki_3 (gf_iadd C dX12_isIn_64 ?_))))))
        refine gf_jlI (fun x31 => ?_)
        refine gf_iald C dX12_isIn_65 s_124 ?_
        refine gf_callS (ε2 := eI) C [.int r29, .int (aG h30 124 x31.toNatClampNeg)] dX12_isIn_66 mw_X12_off ml_X12_202 (fun rZ hZ eZ => ok_X12_off r29 (aG h30 124 x31.toNatClampNeg) h30 rZ hZ eZ) rfl rfl rfl (Nat.le_of_ble_eq_true rfl) (Nat.le_of_ble_eq_true rfl) (Nat.le_of_ble_eq_true rfl) (fun r32 h33 => ?_)
        refine gf_aload_n C dX12_isIn_69 rfl rfl (gf_getR C dX12_isIn_70 fl_X12_38 s_117 rfl 124 rfl (gf_iconst C dX12_isIn_73 ki_4 (gf_iload_n C dX12_isIn_74 rfl rfl (gf_imul C dX12_isIn_75 (gf_iconst C dX12_isIn_76 ki_4 (gf_iadd C dX12_isIn_77 ?_))))))
        refine gf_jlI (fun x34 => ?_)
        refine gf_iald C dX12_isIn_78 s_124 ?_
        refine gf_icmpgt C 86 dX12_isIn_79 (by decide) (fun _ => ?_) (fun _ => ?_)
        · exact gf_sub [some (.ref 117), none, some (.int a2), none, some (.int r3), none] (And.intro rfl (And.intro rfl (And.intro rfl trivial))) (kj26 h33)
        · exact gf_sub [some (.ref 117), none, some (.int a2), none, some (.int r3), none] (And.intro rfl (And.intro rfl (And.intro rfl trivial))) (kj28 h33)
  refine gf_jn (fun (j36 : Hp → Option (Int32 × Hp)) => ∀ (h35 : Hp), GF K eI h35 34 [some (.ref 117), none, some (.int a2), some (.int r1), some (.int r3), none] [] (j36 h35)) ?_ (fun j36 kj36 => ?_)
  · intro h35
    refine gf_iconst C dX12_isIn_34 ki_1 ?_
    refine gf_goto C 39 dX12_isIn_35 (by decide) ?_
    exact gf_sub [some (.ref 117), none, some (.int a2), some (.int r1), some (.int r3), none] (And.intro rfl (And.intro rfl (And.intro rfl (And.intro rfl trivial)))) (kj7 (1 : Int32) h35)
  refine gf_jn (fun (j38 : Hp → Option (Int32 × Hp)) => ∀ (h37 : Hp), GF K eI h37 26 [some (.ref 117), none, some (.int a2), some (.int r1), some (.int r3), none] [] (j38 h37)) ?_ (fun j38 kj38 => ?_)
  · intro h37
    refine gf_aload_n C dX12_isIn_26 rfl rfl (gf_iload_n C dX12_isIn_27 rfl rfl ?_)
    refine gf_callV (ε2 := eI) C [.int a2] dX12_isIn_28 mw_X12_isUp ml_X12_198 s_117 (fun rZ hZ eZ => ok_X12_isUp a2 h37 rZ hZ eZ) rfl rfl rfl (Nat.le_of_ble_eq_true rfl) (Nat.le_of_ble_eq_true rfl) (Nat.le_of_ble_eq_true rfl) (fun r39 h40 => ?_)
    refine gf_ifeq C 38 dX12_isIn_31 (by decide) (fun _ => ?_) (fun _ => ?_)
    · refine gf_iconst C dX12_isIn_38 ki_0 ?_
      exact gf_sub [some (.ref 117), none, some (.int a2), some (.int r1), some (.int r3), none] (And.intro rfl (And.intro rfl (And.intro rfl (And.intro rfl trivial)))) (kj7 (0 : Int32) h40)
    · exact gf_sub [some (.ref 117), none, some (.int a2), some (.int r1), some (.int r3), none] (And.intro rfl (And.intro rfl (And.intro rfl (And.intro rfl trivial)))) (kj36 h40)
  refine gf_icmpne C 26 dX12_isIn_17 (by decide) (fun _ => ?_) (fun _ => ?_)
  · refine gf_iload C dX12_isIn_20 rfl (gf_iconst C dX12_isIn_22 ki_m1 ?_)
    refine gf_icmpeq C 34 dX12_isIn_23 (by decide) (fun _ => ?_) (fun _ => ?_)
    · exact gf_sub [some (.ref 117), none, some (.int a2), some (.int r1), some (.int r3), none] (And.intro rfl (And.intro rfl (And.intro rfl (And.intro rfl trivial)))) (kj36 h4)
    · exact gf_sub [some (.ref 117), none, some (.int a2), some (.int r1), some (.int r3), none] (And.intro rfl (And.intro rfl (And.intro rfl (And.intro rfl trivial)))) (kj38 h4)
  · exact gf_sub [some (.ref 117), none, some (.int a2), some (.int r1), some (.int r3), none] (And.intro rfl (And.intro rfl (And.intro rfl (And.intro rfl trivial)))) (kj38 h4)
def F_X12_has (a1 : Int64) (a2 : Int32) (h : Hp) : Option (Int32 × Hp) :=
  jn (fun (s1 : Int32) (h2 : Hp) =>
  gd (isB s1) ( some (s1, h2))) (fun j3 => if (lg_cmp ((a1 >>> (a2.toInt64 &&& 63)) &&& (1 : Int64)) (1 : Int64)) = 0 then (
  j3 (1 : Int32) h) else (
  j3 (0 : Int32) h))
set_option maxRecDepth 100000 in
set_option maxHeartbeats 4000000 in
theorem ok_X12_has (a1 : Int64) (a2 : Int32) (h : Hp) (rZ : Int32) (hZ : Hp) (eZ : F_X12_has a1 a2 h = some (rZ, hZ)) : AC yX12_has cX12_has 3 (some .boolean) 0 0 [.long a1, .int a2] h (eI rZ) hZ := by
  refine AC_intro (o := F_X12_has a1 a2 h) RX12 rfl (plainFor_of_name (by decide)) [some (.long a1), none, some (.int a2)] rfl (fun _ => rfl) (fun _ => Nat.le_of_ble_eq_true rfl) eZ (fun K C => ?_)
  unfold F_X12_has
  refine gf_lload_n C dX12_has_0 rfl rfl (gf_iload_n C dX12_has_1 rfl rfl (gf_lshr C dX12_has_2 (gf_lconst C dX12_has_3 kl_1 (gf_land C dX12_has_4 (gf_lconst C dX12_has_5 kl_1 (gf_lcmp C dX12_has_6 ?_))))))
  refine gf_jn (fun (j3 : Int32 → Hp → Option (Int32 × Hp)) => ∀ (s1 : Int32) (h2 : Hp), GF K eI h2 15 [none, none, none] [.int s1] (j3 s1 h2)) ?_ (fun j3 kj3 => ?_)
  · intro s1 h2
    refine gf_gd (fun b4 => ?_)
    exact gf_zret C dX12_has_15 (isB_nar b4) rfl
  refine gf_ifne C 14 dX12_has_7 (by decide) (fun _ => ?_) (fun _ => ?_)
  · refine gf_iconst C dX12_has_10 ki_1 ?_
    refine gf_goto C 15 dX12_has_11 (by decide) ?_
    exact gf_sub [none, none, none] trivial (kj3 (1 : Int32) h)
  · refine gf_iconst C dX12_has_14 ki_0 ?_
    exact gf_sub [none, none, none] trivial (kj3 (0 : Int32) h)
def F_X12_layWindow (a1 : Int32) (h : Hp) : Option (Unit × Hp) :=
  gd (inb a1 7) ( jl (lS h 129 a1.toNatClampNeg (0 : Int64)) (fun h1 => (lp 4000000000 (fun (c4 : Int32 → Hp → Option (Unit × Hp)) (v2 : Int32) (h3 : Hp) =>
  if v2 < (48 : Int32) then (
  gd (inb a1 7) ( bd (F_X12_isIn a1 v2 h3) (fun r5 h6 => jn (fun (s7 : Int64) (h8 : Hp) =>
  gd (inb a1 7) ( jl (lS h8 129 a1.toNatClampNeg ((lG h3 129 a1.toNatClampNeg) ||| s7)) (fun h10 => c4 (v2 + (1 : Int32)) h10))) (fun j9 => if r5 = 0 then (
  j9 (0 : Int64) h6) else (
  j9 ((1 : Int64) <<< (v2.toInt64 &&& 63)) h6))))) else (
  some ((), h3))) (fun _ _ => none)) (0 : Int32) h1))
set_option maxRecDepth 100000 in
set_option maxHeartbeats 4000000 in
theorem ok_X12_layWindow (a1 : Int32) (h : Hp) (rZ : Unit) (hZ : Hp) (eZ : F_X12_layWindow a1 h = some (rZ, hZ)) : AC yX12_layWindow cX12_layWindow 3 (none) 3 68 [.ref 117, .int a1] h (eV rZ) hZ := by
  refine AC_intro (o := F_X12_layWindow a1 h) RX12 rfl (plainFor_of_name (by decide)) [some (.ref 117), some (.int a1), none] rfl (fun _ => rfl) (fun _ => Nat.le_of_ble_eq_true rfl) eZ (fun K C => ?_)
  unfold F_X12_layWindow
  refine gf_aload_n C dX12_layWindow_0 rfl rfl (gf_getR C dX12_layWindow_1 fl_X12_54 s_117 rfl 129 rfl (gf_iload_n C dX12_layWindow_4 rfl rfl (gf_lconst C dX12_layWindow_5 kl_0 (gf_last C dX12_layWindow_6 s_129 ?_))))
  refine gf_jlH (fun h1 => ?_)
  refine gf_iconst C dX12_layWindow_7 ki_0 (gf_istore_n C dX12_layWindow_8 rfl [some (.ref 117), some (.int a1), some (.int (0 : Int32))] rfl rfl (Nat.le_of_ble_eq_true rfl) ?_)
  refine gf_sub [some (.ref 117), some (.int a1), some (.int (0 : Int32))] (And.intro rfl (And.intro rfl (And.intro rfl trivial))) ?_
  refine lp_P (fun (c4 : Int32 → Hp → Option (Unit × Hp)) => ∀ (v2 : Int32) (h3 : Hp), GF K eV h3 9 [some (.ref 117), some (.int a1), some (.int v2)] [] (c4 v2 h3)) (fun _ _ => gf_none) (fun c4 kc4 v2 h3 => ?_) (0 : Int32) h1
  refine gf_iload_n C dX12_layWindow_9 rfl rfl (gf_bipush C dX12_layWindow_10 kb_48 ?_)
  refine gf_icmpge C 50 dX12_layWindow_12 (by decide) (fun _ => ?_) (fun _ => ?_)
  · refine gf_aload_n C dX12_layWindow_15 rfl rfl (gf_getR C dX12_layWindow_16 fl_X12_54 s_117 rfl 129 rfl (gf_iload_n C dX12_layWindow_19 rfl rfl (gf_aload_n C dX12_layWindow_20 rfl rfl (gf_getR C dX12_layWindow_21 fl_X12_54 s_117 rfl 129 rfl (gf_iload_n C dX12_layWindow_24 rfl rfl (gf_lald C dX12_layWindow_25 s_129 (gf_aload_n C dX12_layWindow_26 rfl rfl ?_)))))))
    refine gf_iload_n C dX12_layWindow_27 rfl rfl (gf_iload_n C dX12_layWindow_28 rfl rfl ?_)
    refine gf_callV (ε2 := eI) C [.int a1, .int v2] dX12_layWindow_29 mw_X12_isIn ml_X12_208 s_117 (fun rZ hZ eZ => ok_X12_isIn a1 v2 h3 rZ hZ eZ) rfl rfl rfl (Nat.le_of_ble_eq_true rfl) (Nat.le_of_ble_eq_true rfl) (Nat.le_of_ble_eq_true rfl) (fun r5 h6 => ?_)
    refine gf_jn (fun (j9 : Int64 → Hp → Option (Unit × Hp)) => ∀ (s7 : Int64) (h8 : Hp), GF K eV h8 42 [some (.ref 117), some (.int a1), some (.int v2)] [.long s7, .long (lG h3 129 a1.toNatClampNeg), .int a1, .ref 129] (j9 s7 h8)) ?_ (fun j9 kj9 => ?_)
    · intro s7 h8
      refine gf_lor C dX12_layWindow_42 (gf_last C dX12_layWindow_43 s_129 ?_)
      refine gf_jlH (fun h10 => ?_)
      refine gf_iinc C dX12_layWindow_44 rfl (ii_1 _) [some (.ref 117), some (.int a1), some (.int (v2 + (1 : Int32)))] rfl rfl ?_
      refine gf_goto C 9 dX12_layWindow_47 (by decide) ?_
      exact gf_sub [some (.ref 117), some (.int a1), some (.int (v2 + (1 : Int32)))] (And.intro rfl (And.intro rfl (And.intro rfl trivial))) (kc4 (v2 + (1 : Int32)) h10)
    refine gf_ifeq C 41 dX12_layWindow_32 (by decide) (fun _ => ?_) (fun _ => ?_)
    · refine gf_lconst C dX12_layWindow_41 kl_0 ?_
      exact gf_sub [some (.ref 117), some (.int a1), some (.int v2)] (And.intro rfl (And.intro rfl (And.intro rfl trivial))) (kj9 (0 : Int64) h6)
    · refine gf_lconst C dX12_layWindow_35 kl_1 (gf_iload_n C dX12_layWindow_36 rfl rfl (gf_lshl C dX12_layWindow_37 ?_))
      refine gf_goto C 42 dX12_layWindow_38 (by decide) ?_
      exact gf_sub [some (.ref 117), some (.int a1), some (.int v2)] (And.intro rfl (And.intro rfl (And.intro rfl trivial))) (kj9 ((1 : Int64) <<< (v2.toInt64 &&& 63)) h6)
  · exact gf_vret C dX12_layWindow_50 rfl
def F_X12_isAhead (a1 : Int32) (a2 : Int32) (h : Hp) : Option (Int32 × Hp) :=
  (lp 4000000000 (fun (c4 : Int32 → Int32 → Hp → Option (Int32 × Hp)) (v1 : Int32) (v2 : Int32) (h3 : Hp) =>
  if v2 < (sG h3 7506) then (
  bd (F_X12_value a1 ((2 : Int32) + v2) h3) (fun r5 h6 => bd (F_X12_value a2 ((2 : Int32) + v2) h6) (fun r7 h8 => jn (fun (s9 : Int32) (h10 : Hp) =>
  jn (fun (s12 : Int32) (h13 : Hp) =>
  c4 s12 (v2 + (1 : Int32)) h13) (fun j14 => jn (fun (h15 : Hp) =>
  j14 (1 : Int32) h15) (fun j16 => if v1 = 0 then (
  jn (fun (h17 : Hp) =>
  j14 (0 : Int32) h17) (fun j18 => if s9 = 0 then (
  j18 h10) else (
  gd (inb v2 6) ( if (aG h10 123 v2.toNatClampNeg) = (1 : Int32) then (
  if r7 < r5 then (
  j16 h10) else (
  j18 h10)) else (
  gd (inb v2 6) ( if (aG h10 123 v2.toNatClampNeg) = (2 : Int32) then (
  j18 h10) else (
  if r5 < r7 then (
  j16 h10) else (
  j18 h10)))))))) else (
  j16 h10)))) (fun j11 => jn (fun (h19 : Hp) =>
  j11 (0 : Int32) h19) (fun j20 => if r5 = (-1 : Int32) then (
  j20 h8) else (
  if r7 = (-1 : Int32) then (
  j20 h8) else (
  j11 (1 : Int32) h8))))))) else (
  gd (isB v1) ( some (v1, h3)))) (fun _ _ _ => none)) (0 : Int32) (0 : Int32) h
set_option maxRecDepth 100000 in
set_option maxHeartbeats 4000000 in
theorem ok_X12_isAhead (a1 : Int32) (a2 : Int32) (h : Hp) (rZ : Int32) (hZ : Hp) (eZ : F_X12_isAhead a1 a2 h = some (rZ, hZ)) : AC yX12_isAhead cX12_isAhead 8 (some .boolean) 2 47 [.ref 117, .int a1, .int a2] h (eI rZ) hZ := by
  refine AC_intro (o := F_X12_isAhead a1 a2 h) RX12 rfl (plainFor_of_name (by decide)) [some (.ref 117), some (.int a1), some (.int a2), none, none, none, none, none] rfl (fun _ => rfl) (fun _ => Nat.le_of_ble_eq_true rfl) eZ (fun K C => ?_)
  unfold F_X12_isAhead
  refine gf_iconst C dX12_isAhead_0 ki_0 (gf_istore_n C dX12_isAhead_1 rfl [some (.ref 117), some (.int a1), some (.int a2), some (.int (0 : Int32)), none, none, none, none] rfl rfl (Nat.le_of_ble_eq_true rfl) (gf_iconst C dX12_isAhead_2 ki_0 (gf_istore C dX12_isAhead_3 [some (.ref 117), some (.int a1), some (.int a2), some (.int (0 : Int32)), some (.int (0 : Int32)), none, none, none] rfl rfl (Nat.le_of_ble_eq_true rfl) ?_)))
  refine gf_sub [some (.ref 117), some (.int a1), some (.int a2), some (.int (0 : Int32)), some (.int (0 : Int32)), none, none, none] (And.intro rfl (And.intro rfl (And.intro rfl (And.intro rfl (And.intro rfl trivial))))) ?_
  refine lp_P (fun (c4 : Int32 → Int32 → Hp → Option (Int32 × Hp)) => ∀ (v1 : Int32) (v2 : Int32) (h3 : Hp), GF K eI h3 5 [some (.ref 117), some (.int a1), some (.int a2), some (.int v1), some (.int v2), none, none, none] [] (c4 v1 v2 h3)) (fun _ _ _ => gf_none) (fun c4 kc4 v1 v2 h3 => ?_) (0 : Int32) (0 : Int32) h
  refine gf_iload C dX12_isAhead_5 rfl (gf_aload_n C dX12_isAhead_7 rfl rfl (gf_getI C dX12_isAhead_8 fl_X12_169 s_117 rfl 7506 rfl ?_))
  refine gf_icmpge C 115 dX12_isAhead_11 (by decide) (fun _ => ?_) (fun _ => ?_)
  · refine gf_aload_n C dX12_isAhead_14 rfl rfl (gf_iload_n C dX12_isAhead_15 rfl rfl (gf_iconst C dX12_isAhead_16 ki_2 (gf_iload C dX12_isAhead_17 rfl (gf_iadd C dX12_isAhead_19 ?_))))
    refine gf_callV (ε2 := eI) C [.int a1, .int ((2 : Int32) + v2)] dX12_isAhead_20 mw_X12_value ml_X12_211 s_117 (fun rZ hZ eZ => ok_X12_value a1 ((2 : Int32) + v2) h3 rZ hZ eZ) rfl rfl rfl (Nat.le_of_ble_eq_true rfl) (Nat.le_of_ble_eq_true rfl) (Nat.le_of_ble_eq_true rfl) (fun r5 h6 => ?_)
    refine gf_istore C dX12_isAhead_23 [some (.ref 117), some (.int a1), some (.int a2), some (.int v1), some (.int v2), some (.int r5), none, none] rfl rfl (Nat.le_of_ble_eq_true rfl) (gf_aload_n C dX12_isAhead_25 rfl rfl (gf_iload_n C dX12_isAhead_26 rfl rfl (gf_iconst C dX12_isAhead_27 ki_2 (gf_iload C dX12_isAhead_28 rfl (gf_iadd C dX12_isAhead_30 ?_)))))
    refine gf_callV (ε2 := eI) C [.int a2, .int ((2 : Int32) + v2)] dX12_isAhead_31 mw_X12_value ml_X12_211 s_117 (fun rZ hZ eZ => ok_X12_value a2 ((2 : Int32) + v2) h6 rZ hZ eZ) rfl rfl rfl (Nat.le_of_ble_eq_true rfl) (Nat.le_of_ble_eq_true rfl) (Nat.le_of_ble_eq_true rfl) (fun r7 h8 => ?_)
    refine gf_istore C dX12_isAhead_34 [some (.ref 117), some (.int a1), some (.int a2), some (.int v1), some (.int v2), some (.int r5), some (.int r7), none] rfl rfl (Nat.le_of_ble_eq_true rfl) (gf_iload C dX12_isAhead_36 rfl (gf_iconst C dX12_isAhead_38 ki_m1 ?_))
    refine gf_jn (fun (j11 : Int32 → Hp → Option (Int32 × Hp)) => ∀ (s9 : Int32) (h10 : Hp), GF K eI h10 53 [some (.ref 117), some (.int a1), some (.int a2), some (.int v1), some (.int v2), some (.int r5), some (.int r7), none] [.int s9] (j11 s9 h10)) ?_ (fun j11 kj11 => ?_)
    · intro s9 h10
      refine gf_istore C dX12_isAhead_53 [some (.ref 117), some (.int a1), some (.int a2), some (.int v1), some (.int v2), some (.int r5), some (.int r7), some (.int s9)] rfl rfl (Nat.le_of_ble_eq_true rfl) (gf_iload_n C dX12_isAhead_55 rfl rfl ?_)
      refine gf_jn (fun (j14 : Int32 → Hp → Option (Int32 × Hp)) => ∀ (s12 : Int32) (h13 : Hp), GF K eI h13 108 [some (.ref 117), some (.int a1), some (.int a2), none, some (.int v2), none, none, none] [.int s12] (j14 s12 h13)) ?_ (fun j14 kj14 => ?_)
      · intro s12 h13
        refine gf_istore_n C dX12_isAhead_108 rfl [some (.ref 117), some (.int a1), some (.int a2), some (.int s12), some (.int v2), none, none, none] rfl rfl (Nat.le_of_ble_eq_true rfl) (gf_iinc C dX12_isAhead_109 rfl (ii_1 _) [some (.ref 117), some (.int a1), some (.int a2), some (.int s12), some (.int (v2 + (1 : Int32))), none, none, none] rfl rfl ?_)
        refine gf_goto C 5 dX12_isAhead_112 (by decide) ?_
        exact gf_sub [some (.ref 117), some (.int a1), some (.int a2), some (.int s12), some (.int (v2 + (1 : Int32))), none, none, none] (And.intro rfl (And.intro rfl (And.intro rfl (And.intro rfl (And.intro rfl trivial))))) (kc4 s12 (v2 + (1 : Int32)) h13)
      refine gf_jn (fun (j16 : Hp → Option (Int32 × Hp)) => ∀ (h15 : Hp), GF K eI h15 103 [some (.ref 117), some (.int a1), some (.int a2), none, some (.int v2), none, none, none] [] (j16 h15)) ?_ (fun j16 kj16 => ?_)
      · intro h15
        refine gf_iconst C dX12_isAhead_103 ki_1 ?_
        refine gf_goto C 108 dX12_isAhead_104 (by decide) ?_
        exact gf_sub [some (.ref 117), some (.int a1), some (.int a2), none, some (.int v2), none, none, none] (And.intro rfl (And.intro rfl (And.intro rfl (And.intro rfl trivial)))) (kj14 (1 : Int32) h15)
      refine gf_ifne C 103 dX12_isAhead_56 (by decide) (fun _ => ?_) (fun _ => ?_)
      · refine gf_iload C dX12_isAhead_59 rfl ?_
        refine gf_jn (fun (j18 : Hp → Option (Int32 × Hp)) => ∀ (h17 : Hp), GF K eI h17 107 [some (.ref 117), some (.int a1), some (.int a2), none, some (.int v2), none, none, none] [] (j18 h17)) ?_ (fun j18 kj18 => ?_)
        · intro h17
          refine gf_iconst C dX12_isAhead_107 ki_0 ?_
          exact gf_sub [some (.ref 117), some (.int a1), some (.int a2), none, some (.int v2), none, none, none] (And.intro rfl (And.intro rfl (And.intro rfl (And.intro rfl trivial)))) (kj14 (0 : Int32) h17)
        refine gf_ifeq C 107 dX12_isAhead_61 (by decide) (fun _ => ?_) (fun _ => ?_)
        · exact gf_sub [some (.ref 117), some (.int a1), some (.int a2), none, some (.int v2), none, none, none] (And.intro rfl (And.intro rfl (And.intro rfl (And.intro rfl trivial)))) (kj18 h10)
        · refine gf_aload_n C dX12_isAhead_64 rfl rfl (gf_getR C dX12_isAhead_65 fl_X12_35 s_117 rfl 123 rfl (gf_iload C dX12_isAhead_68 rfl (gf_iald C dX12_isAhead_70 s_123 (gf_iconst C dX12_isAhead_71 ki_1 ?_))))
          refine gf_icmpne C 85 dX12_isAhead_72 (by decide) (fun _ => ?_) (fun _ => ?_)
          · refine gf_iload C dX12_isAhead_75 rfl (gf_iload C dX12_isAhead_77 rfl ?_)
            refine gf_icmple C 107 dX12_isAhead_79 (by decide) (fun _ => ?_) (fun _ => ?_)
            · refine gf_goto C 103 dX12_isAhead_82 (by decide) ?_
              exact gf_sub [some (.ref 117), some (.int a1), some (.int a2), none, some (.int v2), none, none, none] (And.intro rfl (And.intro rfl (And.intro rfl (And.intro rfl trivial)))) (kj16 h10)
            · exact gf_sub [some (.ref 117), some (.int a1), some (.int a2), none, some (.int v2), none, none, none] (And.intro rfl (And.intro rfl (And.intro rfl (And.intro rfl trivial)))) (kj18 h10)
          · refine gf_aload_n C dX12_isAhead_85 rfl rfl (gf_getR C dX12_isAhead_86 fl_X12_35 s_117 rfl 123 rfl (gf_iload C dX12_isAhead_89 rfl (gf_iald C dX12_isAhead_91 s_123 (gf_iconst C dX12_isAhead_92 ki_2 ?_))))
            refine gf_icmpeq C 107 dX12_isAhead_93 (by decide) (fun _ => ?_) (fun _ => ?_)
            · exact gf_sub [some (.ref 117), some (.int a1), some (.int a2), none, some (.int v2), none, none, none] (And.intro rfl (And.intro rfl (And.intro rfl (And.intro rfl trivial)))) (kj18 h10)
            · refine gf_iload C dX12_isAhead_96 rfl (gf_iload C dX12_isAhead_98 rfl ?_)
              refine gf_icmpge C 107 dX12_isAhead_100 (by decide) (fun _ => ?_) (fun _ => ?_)
              · exact gf_sub [some (.ref 117), some (.int a1), some (.int a2), none, some (.int v2), none, none, none] (And.intro rfl (And.intro rfl (And.intro rfl (And.intro rfl trivial)))) (kj16 h10)
              · exact gf_sub [some (.ref 117), some (.int a1), some (.int a2), none, some (.int v2), none, none, none] (And.intro rfl (And.intro rfl (And.intro rfl (And.intro rfl trivial)))) (kj18 h10)
      · exact gf_sub [some (.ref 117), some (.int a1), some (.int a2), none, some (.int v2), none, none, none] (And.intro rfl (And.intro rfl (And.intro rfl (And.intro rfl trivial)))) (kj16 h10)
    refine gf_jn (fun (j20 : Hp → Option (Int32 × Hp)) => ∀ (h19 : Hp), GF K eI h19 52 [some (.ref 117), some (.int a1), some (.int a2), some (.int v1), some (.int v2), some (.int r5), some (.int r7), none] [] (j20 h19)) ?_ (fun j20 kj20 => ?_)
    · intro h19
      refine gf_iconst C dX12_isAhead_52 ki_0 ?_
      exact gf_sub [some (.ref 117), some (.int a1), some (.int a2), some (.int v1), some (.int v2), some (.int r5), some (.int r7), none] (And.intro rfl (And.intro rfl (And.intro rfl (And.intro rfl (And.intro rfl (And.intro rfl (And.intro rfl trivial))))))) (kj11 (0 : Int32) h19)
    refine gf_icmpeq C 52 dX12_isAhead_39 (by decide) (fun _ => ?_) (fun _ => ?_)
    · exact gf_sub [some (.ref 117), some (.int a1), some (.int a2), some (.int v1), some (.int v2), some (.int r5), some (.int r7), none] (And.intro rfl (And.intro rfl (And.intro rfl (And.intro rfl (And.intro rfl (And.intro rfl (And.intro rfl trivial))))))) (kj20 h8)
    · refine gf_iload C dX12_isAhead_42 rfl (gf_iconst C dX12_isAhead_44 ki_m1 ?_)
      refine gf_icmpeq C 52 dX12_isAhead_45 (by decide) (fun _ => ?_) (fun _ => ?_)
      · exact gf_sub [some (.ref 117), some (.int a1), some (.int a2), some (.int v1), some (.int v2), some (.int r5), some (.int r7), none] (And.intro rfl (And.intro rfl (And.intro rfl (And.intro rfl (And.intro rfl (And.intro rfl (And.intro rfl trivial))))))) (kj20 h8)
      · refine gf_iconst C dX12_isAhead_48 ki_1 ?_
        refine gf_goto C 53 dX12_isAhead_49 (by decide) ?_
        exact gf_sub [some (.ref 117), some (.int a1), some (.int a2), some (.int v1), some (.int v2), some (.int r5), some (.int r7), none] (And.intro rfl (And.intro rfl (And.intro rfl (And.intro rfl (And.intro rfl (And.intro rfl (And.intro rfl trivial))))))) (kj11 (1 : Int32) h8)
  · refine gf_iload_n C dX12_isAhead_115 rfl rfl ?_
    refine gf_gd (fun b21 => ?_)
    exact gf_zret C dX12_isAhead_116 (isB_nar b21) rfl
def F_X12_layAll (h : Hp) : Option (Unit × Hp) :=
  (lp 4000000000 (fun (c3 : Int32 → Hp → Option (Unit × Hp)) (v1 : Int32) (h2 : Hp) =>
  if v1 < (sG h2 7504) then (
  bd (F_X12_layWindow v1 h2) (fun _ h4 => (lp 4000000000 (fun (c7 : Int32 → Hp → Option (Unit × Hp)) (v5 : Int32) (h6 : Hp) =>
  if v5 < (sG h6 7504) then (
  bd (F_X12_isAhead v1 v5 h6) (fun r8 h9 => gd (inb (((7 : Int32) * v1) + v5) 49) ( jl (aS h9 130 (((7 : Int32) * v1) + v5).toNatClampNeg (vp_nar .boolean r8)) (fun h10 => c7 (v5 + (1 : Int32)) h10)))) else (
  c3 (v1 + (1 : Int32)) h6)) (fun _ _ => none)) (0 : Int32) h4)) else (
  some ((), h2))) (fun _ _ => none)) (0 : Int32) h
set_option maxRecDepth 100000 in
set_option maxHeartbeats 4000000 in
theorem ok_X12_layAll (h : Hp) (rZ : Unit) (hZ : Hp) (eZ : F_X12_layAll h = some (rZ, hZ)) : AC yX12_layAll cX12_layAll 3 (none) 4 90 [.ref 117] h (eV rZ) hZ := by
  refine AC_intro (o := F_X12_layAll h) RX12 rfl (plainFor_of_name (by decide)) [some (.ref 117), none, none] rfl (fun _ => rfl) (fun _ => Nat.le_of_ble_eq_true rfl) eZ (fun K C => ?_)
  unfold F_X12_layAll
  refine gf_iconst C dX12_layAll_0 ki_0 (gf_istore_n C dX12_layAll_1 rfl [some (.ref 117), some (.int (0 : Int32)), none] rfl rfl (Nat.le_of_ble_eq_true rfl) ?_)
  refine gf_sub [some (.ref 117), some (.int (0 : Int32)), none] (And.intro rfl (And.intro rfl trivial)) ?_
  refine lp_P (fun (c3 : Int32 → Hp → Option (Unit × Hp)) => ∀ (v1 : Int32) (h2 : Hp), GF K eV h2 2 [some (.ref 117), some (.int v1), none] [] (c3 v1 h2)) (fun _ _ => gf_none) (fun c3 kc3 v1 h2 => ?_) (0 : Int32) h
  refine gf_iload_n C dX12_layAll_2 rfl rfl (gf_aload_n C dX12_layAll_3 rfl rfl (gf_getI C dX12_layAll_4 fl_X12_166 s_117 rfl 7504 rfl ?_))
  refine gf_icmpge C 54 dX12_layAll_7 (by decide) (fun _ => ?_) (fun _ => ?_)
  · refine gf_aload_n C dX12_layAll_10 rfl rfl (gf_iload_n C dX12_layAll_11 rfl rfl ?_)
    refine gf_callV (ε2 := eV) C [.int v1] dX12_layAll_12 mw_X12_layWindow ml_X12_214 s_117 (fun rZ hZ eZ => ok_X12_layWindow v1 h2 rZ hZ eZ) rfl rfl rfl (Nat.le_of_ble_eq_true rfl) (Nat.le_of_ble_eq_true rfl) (Nat.le_of_ble_eq_true rfl) (fun _ h4 => ?_)
    refine gf_iconst C dX12_layAll_15 ki_0 (gf_istore_n C dX12_layAll_16 rfl [some (.ref 117), some (.int v1), some (.int (0 : Int32))] rfl rfl (Nat.le_of_ble_eq_true rfl) ?_)
    refine gf_sub [some (.ref 117), some (.int v1), some (.int (0 : Int32))] (And.intro rfl (And.intro rfl (And.intro rfl trivial))) ?_
    refine lp_P (fun (c7 : Int32 → Hp → Option (Unit × Hp)) => ∀ (v5 : Int32) (h6 : Hp), GF K eV h6 17 [some (.ref 117), some (.int v1), some (.int v5)] [] (c7 v5 h6)) (fun _ _ => gf_none) (fun c7 kc7 v5 h6 => ?_) (0 : Int32) h4
    refine gf_iload_n C dX12_layAll_17 rfl rfl (gf_aload_n C dX12_layAll_18 rfl rfl (gf_getI C dX12_layAll_19 fl_X12_166 s_117 rfl 7504 rfl ?_))
    refine gf_icmpge C 48 dX12_layAll_22 (by decide) (fun _ => ?_) (fun _ => ?_)
    · refine gf_aload_n C dX12_layAll_25 rfl rfl (gf_getR C dX12_layAll_26 fl_X12_58 s_117 rfl 130 rfl (gf_bipush C dX12_layAll_29 kb_7 (gf_iload_n C dX12_layAll_31 rfl rfl (gf_imul C dX12_layAll_32 (gf_iload_n C dX12_layAll_33 rfl rfl (gf_iadd C dX12_layAll_34 (gf_aload_n C dX12_layAll_35 rfl rfl ?_)))))))
      refine gf_iload_n C dX12_layAll_36 rfl rfl (gf_iload_n C dX12_layAll_37 rfl rfl ?_)
      refine gf_callV (ε2 := eI) C [.int v1, .int v5] dX12_layAll_38 mw_X12_isAhead ml_X12_217 s_117 (fun rZ hZ eZ => ok_X12_isAhead v1 v5 h6 rZ hZ eZ) rfl rfl rfl (Nat.le_of_ble_eq_true rfl) (Nat.le_of_ble_eq_true rfl) (Nat.le_of_ble_eq_true rfl) (fun r8 h9 => ?_)
      refine gf_zast C dX12_layAll_41 s_130 ?_
      refine gf_jlH (fun h10 => ?_)
      refine gf_iinc C dX12_layAll_42 rfl (ii_1 _) [some (.ref 117), some (.int v1), some (.int (v5 + (1 : Int32)))] rfl rfl ?_
      refine gf_goto C 17 dX12_layAll_45 (by decide) ?_
      exact gf_sub [some (.ref 117), some (.int v1), some (.int (v5 + (1 : Int32)))] (And.intro rfl (And.intro rfl (And.intro rfl trivial))) (kc7 (v5 + (1 : Int32)) h10)
    · refine gf_iinc C dX12_layAll_48 rfl (ii_1 _) [some (.ref 117), some (.int (v1 + (1 : Int32))), some (.int v5)] rfl rfl ?_
      refine gf_goto C 2 dX12_layAll_51 (by decide) ?_
      exact gf_sub [some (.ref 117), some (.int (v1 + (1 : Int32))), none] (And.intro rfl (And.intro rfl trivial)) (kc3 (v1 + (1 : Int32)) h6)
  · exact gf_vret C dX12_layAll_54 rfl
def F_X12_isWhole (a1 : Int32) (a2 : Int32) (h : Hp) : Option (Int32 × Hp) :=
  (lp 4000000000 (fun (c5 : Int32 → Int32 → Int32 → Hp → Option (Int32 × Hp)) (v1 : Int32) (v2 : Int32) (v3 : Int32) (h4 : Hp) =>
  if v3 < (a1 - (1 : Int32)) then (
  gd (inb v3 8) ( bd (F_X12_value (aG h4 131 v3.toNatClampNeg) ((2 : Int32) + a2) h4) (fun r6 h7 => jn (fun (s8 : Int32) (h9 : Hp) =>
  jn (fun (s11 : Int32) (h12 : Hp) =>
  c5 s8 s11 (v3 + (1 : Int32)) h12) (fun j13 => jn (fun (h14 : Hp) =>
  j13 (1 : Int32) h14) (fun j15 => if v2 = 0 then (
  jn (fun (h16 : Hp) =>
  j13 (0 : Int32) h16) (fun j17 => if s8 = 0 then (
  j17 h9) else (
  if r6 = 0 then (
  j15 h9) else (
  j17 h9)))) else (
  j15 h9)))) (fun j10 => jn (fun (h18 : Hp) =>
  j10 (1 : Int32) h18) (fun j19 => if v1 = 0 then (
  if r6 = (1 : Int32) then (
  j19 h7) else (
  j10 (0 : Int32) h7)) else (
  j19 h7)))))) else (
  jn (fun (s20 : Int32) (h21 : Hp) =>
  gd (isB s20) ( some (s20, h21))) (fun j22 => if v2 = 0 then (
  j22 (1 : Int32) h4) else (
  j22 (0 : Int32) h4)))) (fun _ _ _ _ => none)) (0 : Int32) (0 : Int32) (0 : Int32) h
set_option maxRecDepth 100000 in
set_option maxHeartbeats 4000000 in
theorem ok_X12_isWhole (a1 : Int32) (a2 : Int32) (h : Hp) (rZ : Int32) (hZ : Hp) (eZ : F_X12_isWhole a1 a2 h = some (rZ, hZ)) : AC yX12_isWhole cX12_isWhole 7 (some .boolean) 2 47 [.ref 117, .int a1, .int a2] h (eI rZ) hZ := by
  refine AC_intro (o := F_X12_isWhole a1 a2 h) RX12 rfl (plainFor_of_name (by decide)) [some (.ref 117), some (.int a1), some (.int a2), none, none, none, none] rfl (fun _ => rfl) (fun _ => Nat.le_of_ble_eq_true rfl) eZ (fun K C => ?_)
  unfold F_X12_isWhole
  refine gf_iconst C dX12_isWhole_0 ki_0 (gf_istore_n C dX12_isWhole_1 rfl [some (.ref 117), some (.int a1), some (.int a2), some (.int (0 : Int32)), none, none, none] rfl rfl (Nat.le_of_ble_eq_true rfl) (gf_iconst C dX12_isWhole_2 ki_0 (gf_istore C dX12_isWhole_3 [some (.ref 117), some (.int a1), some (.int a2), some (.int (0 : Int32)), some (.int (0 : Int32)), none, none] rfl rfl (Nat.le_of_ble_eq_true rfl) (gf_iconst C dX12_isWhole_5 ki_0 (gf_istore C dX12_isWhole_6 [some (.ref 117), some (.int a1), some (.int a2), some (.int (0 : Int32)), some (.int (0 : Int32)), some (.int (0 : Int32)), none] rfl rfl (Nat.le_of_ble_eq_true rfl) ?_)))))
  refine gf_sub [some (.ref 117), some (.int a1), some (.int a2), some (.int (0 : Int32)), some (.int (0 : Int32)), some (.int (0 : Int32)), none] (And.intro rfl (And.intro rfl (And.intro rfl (And.intro rfl (And.intro rfl (And.intro rfl trivial)))))) ?_
  refine lp_P (fun (c5 : Int32 → Int32 → Int32 → Hp → Option (Int32 × Hp)) => ∀ (v1 : Int32) (v2 : Int32) (v3 : Int32) (h4 : Hp), GF K eI h4 8 [some (.ref 117), some (.int a1), some (.int a2), some (.int v1), some (.int v2), some (.int v3), none] [] (c5 v1 v2 v3 h4)) (fun _ _ _ _ => gf_none) (fun c5 kc5 v1 v2 v3 h4 => ?_) (0 : Int32) (0 : Int32) (0 : Int32) h
  refine gf_iload C dX12_isWhole_8 rfl (gf_iload_n C dX12_isWhole_10 rfl rfl (gf_iconst C dX12_isWhole_11 ki_1 (gf_isub C dX12_isWhole_12 ?_)))
  refine gf_icmpge C 75 dX12_isWhole_13 (by decide) (fun _ => ?_) (fun _ => ?_)
  · refine gf_aload_n C dX12_isWhole_16 rfl rfl (gf_aload_n C dX12_isWhole_17 rfl rfl (gf_getR C dX12_isWhole_18 fl_X12_61 s_117 rfl 131 rfl (gf_iload C dX12_isWhole_21 rfl (gf_iald C dX12_isWhole_23 s_131 (gf_iconst C dX12_isWhole_24 ki_2 (gf_iload_n C dX12_isWhole_25 rfl rfl (gf_iadd C dX12_isWhole_26 ?_)))))))
    refine gf_callV (ε2 := eI) C [.int (aG h4 131 v3.toNatClampNeg), .int ((2 : Int32) + a2)] dX12_isWhole_27 mw_X12_value ml_X12_211 s_117 (fun rZ hZ eZ => ok_X12_value (aG h4 131 v3.toNatClampNeg) ((2 : Int32) + a2) h4 rZ hZ eZ) rfl rfl rfl (Nat.le_of_ble_eq_true rfl) (Nat.le_of_ble_eq_true rfl) (Nat.le_of_ble_eq_true rfl) (fun r6 h7 => ?_)
    refine gf_istore C dX12_isWhole_30 [some (.ref 117), some (.int a1), some (.int a2), some (.int v1), some (.int v2), some (.int v3), some (.int r6)] rfl rfl (Nat.le_of_ble_eq_true rfl) (gf_iload_n C dX12_isWhole_32 rfl rfl ?_)
    refine gf_jn (fun (j10 : Int32 → Hp → Option (Int32 × Hp)) => ∀ (s8 : Int32) (h9 : Hp), GF K eI h9 47 [some (.ref 117), some (.int a1), some (.int a2), none, some (.int v2), some (.int v3), some (.int r6)] [.int s8] (j10 s8 h9)) ?_ (fun j10 kj10 => ?_)
    · intro s8 h9
      refine gf_istore_n C dX12_isWhole_47 rfl [some (.ref 117), some (.int a1), some (.int a2), some (.int s8), some (.int v2), some (.int v3), some (.int r6)] rfl rfl (Nat.le_of_ble_eq_true rfl) (gf_iload C dX12_isWhole_48 rfl ?_)
      refine gf_jn (fun (j13 : Int32 → Hp → Option (Int32 × Hp)) => ∀ (s11 : Int32) (h12 : Hp), GF K eI h12 67 [some (.ref 117), some (.int a1), some (.int a2), some (.int s8), none, some (.int v3), none] [.int s11] (j13 s11 h12)) ?_ (fun j13 kj13 => ?_)
      · intro s11 h12
        refine gf_istore C dX12_isWhole_67 [some (.ref 117), some (.int a1), some (.int a2), some (.int s8), some (.int s11), some (.int v3), none] rfl rfl (Nat.le_of_ble_eq_true rfl) (gf_iinc C dX12_isWhole_69 rfl (ii_1 _) [some (.ref 117), some (.int a1), some (.int a2), some (.int s8), some (.int s11), some (.int (v3 + (1 : Int32))), none] rfl rfl ?_)
        refine gf_goto C 8 dX12_isWhole_72 (by decide) ?_
        exact gf_sub [some (.ref 117), some (.int a1), some (.int a2), some (.int s8), some (.int s11), some (.int (v3 + (1 : Int32))), none] (And.intro rfl (And.intro rfl (And.intro rfl (And.intro rfl (And.intro rfl (And.intro rfl trivial)))))) (kc5 s8 s11 (v3 + (1 : Int32)) h12)
      refine gf_jn (fun (j15 : Hp → Option (Int32 × Hp)) => ∀ (h14 : Hp), GF K eI h14 62 [some (.ref 117), some (.int a1), some (.int a2), some (.int s8), none, some (.int v3), none] [] (j15 h14)) ?_ (fun j15 kj15 => ?_)
      · intro h14
        refine gf_iconst C dX12_isWhole_62 ki_1 ?_
        refine gf_goto C 67 dX12_isWhole_63 (by decide) ?_
        exact gf_sub [some (.ref 117), some (.int a1), some (.int a2), some (.int s8), none, some (.int v3), none] (And.intro rfl (And.intro rfl (And.intro rfl (And.intro rfl (And.intro rfl trivial))))) (kj13 (1 : Int32) h14)
      refine gf_ifne C 62 dX12_isWhole_50 (by decide) (fun _ => ?_) (fun _ => ?_)
      · refine gf_iload_n C dX12_isWhole_53 rfl rfl ?_
        refine gf_jn (fun (j17 : Hp → Option (Int32 × Hp)) => ∀ (h16 : Hp), GF K eI h16 66 [some (.ref 117), some (.int a1), some (.int a2), some (.int s8), none, some (.int v3), none] [] (j17 h16)) ?_ (fun j17 kj17 => ?_)
        · intro h16
          refine gf_iconst C dX12_isWhole_66 ki_0 ?_
          exact gf_sub [some (.ref 117), some (.int a1), some (.int a2), some (.int s8), none, some (.int v3), none] (And.intro rfl (And.intro rfl (And.intro rfl (And.intro rfl (And.intro rfl trivial))))) (kj13 (0 : Int32) h16)
        refine gf_ifeq C 66 dX12_isWhole_54 (by decide) (fun _ => ?_) (fun _ => ?_)
        · exact gf_sub [some (.ref 117), some (.int a1), some (.int a2), some (.int s8), none, some (.int v3), none] (And.intro rfl (And.intro rfl (And.intro rfl (And.intro rfl (And.intro rfl trivial))))) (kj17 h9)
        · refine gf_iload C dX12_isWhole_57 rfl ?_
          refine gf_ifne C 66 dX12_isWhole_59 (by decide) (fun _ => ?_) (fun _ => ?_)
          · exact gf_sub [some (.ref 117), some (.int a1), some (.int a2), some (.int s8), none, some (.int v3), none] (And.intro rfl (And.intro rfl (And.intro rfl (And.intro rfl (And.intro rfl trivial))))) (kj15 h9)
          · exact gf_sub [some (.ref 117), some (.int a1), some (.int a2), some (.int s8), none, some (.int v3), none] (And.intro rfl (And.intro rfl (And.intro rfl (And.intro rfl (And.intro rfl trivial))))) (kj17 h9)
      · exact gf_sub [some (.ref 117), some (.int a1), some (.int a2), some (.int s8), none, some (.int v3), none] (And.intro rfl (And.intro rfl (And.intro rfl (And.intro rfl (And.intro rfl trivial))))) (kj15 h9)
    refine gf_jn (fun (j19 : Hp → Option (Int32 × Hp)) => ∀ (h18 : Hp), GF K eI h18 42 [some (.ref 117), some (.int a1), some (.int a2), none, some (.int v2), some (.int v3), some (.int r6)] [] (j19 h18)) ?_ (fun j19 kj19 => ?_)
    · intro h18
      refine gf_iconst C dX12_isWhole_42 ki_1 ?_
      refine gf_goto C 47 dX12_isWhole_43 (by decide) ?_
      exact gf_sub [some (.ref 117), some (.int a1), some (.int a2), none, some (.int v2), some (.int v3), some (.int r6)] (And.intro rfl (And.intro rfl (And.intro rfl (And.intro rfl (And.intro rfl (And.intro rfl trivial)))))) (kj10 (1 : Int32) h18)
    refine gf_ifne C 42 dX12_isWhole_33 (by decide) (fun _ => ?_) (fun _ => ?_)
    · refine gf_iload C dX12_isWhole_36 rfl (gf_iconst C dX12_isWhole_38 ki_1 ?_)
      refine gf_icmpne C 46 dX12_isWhole_39 (by decide) (fun _ => ?_) (fun _ => ?_)
      · exact gf_sub [some (.ref 117), some (.int a1), some (.int a2), none, some (.int v2), some (.int v3), some (.int r6)] (And.intro rfl (And.intro rfl (And.intro rfl (And.intro rfl (And.intro rfl (And.intro rfl trivial)))))) (kj19 h7)
      · refine gf_iconst C dX12_isWhole_46 ki_0 ?_
        exact gf_sub [some (.ref 117), some (.int a1), some (.int a2), none, some (.int v2), some (.int v3), some (.int r6)] (And.intro rfl (And.intro rfl (And.intro rfl (And.intro rfl (And.intro rfl (And.intro rfl trivial)))))) (kj10 (0 : Int32) h7)
    · exact gf_sub [some (.ref 117), some (.int a1), some (.int a2), none, some (.int v2), some (.int v3), some (.int r6)] (And.intro rfl (And.intro rfl (And.intro rfl (And.intro rfl (And.intro rfl (And.intro rfl trivial)))))) (kj19 h7)
  · refine gf_iload C dX12_isWhole_75 rfl ?_
    refine gf_jn (fun (j22 : Int32 → Hp → Option (Int32 × Hp)) => ∀ (s20 : Int32) (h21 : Hp), GF K eI h21 85 [none, none, none, none, none, none, none] [.int s20] (j22 s20 h21)) ?_ (fun j22 kj22 => ?_)
    · intro s20 h21
      refine gf_gd (fun b23 => ?_)
      exact gf_zret C dX12_isWhole_85 (isB_nar b23) rfl
    refine gf_ifne C 84 dX12_isWhole_77 (by decide) (fun _ => ?_) (fun _ => ?_)
    · refine gf_iconst C dX12_isWhole_80 ki_1 ?_
      refine gf_goto C 85 dX12_isWhole_81 (by decide) ?_
      exact gf_sub [none, none, none, none, none, none, none] trivial (kj22 (1 : Int32) h4)
    · refine gf_iconst C dX12_isWhole_84 ki_0 ?_
      exact gf_sub [none, none, none, none, none, none, none] trivial (kj22 (0 : Int32) h4)
def F_X12_isLast (a1 : Int32) (h : Hp) : Option (Int32 × Hp) :=
  gd (inb (a1 - (1 : Int32)) 8) ( jl (aG h 131 (a1 - (1 : Int32)).toNatClampNeg) (fun x1 => (lp 4000000000 (fun (c5 : Int32 → Int32 → Hp → Option (Int32 × Hp)) (v2 : Int32) (v3 : Int32) (h4 : Hp) =>
  if v3 < (a1 - (1 : Int32)) then (
  jn (fun (s6 : Int32) (h7 : Hp) =>
  c5 s6 (v3 + (1 : Int32)) h7) (fun j8 => jn (fun (h9 : Hp) =>
  j8 (0 : Int32) h9) (fun j10 => if v2 = 0 then (
  j10 h4) else (
  gd (inb v3 8) ( jl (((7 : Int32) * x1) + (aG h4 131 v3.toNatClampNeg)) (fun x11 => gd (inb x11 49) ( if (aG h4 130 x11.toNatClampNeg) = 0 then (
  j8 (1 : Int32) h4) else (
  j10 h4)))))))) else (
  (lp 4000000000 (fun (c15 : Int32 → Int32 → Hp → Option (Int32 × Hp)) (v12 : Int32) (v13 : Int32) (h14 : Hp) =>
  jn (fun (h16 : Hp) =>
  gd (isB v12) ( some (v12, h16))) (fun j17 => if v13 < (sG h14 7506) then (
  if v12 = 0 then (
  j17 h14) else (
  gd (inb v13 6) ( jn (fun (s19 : Int32) (h20 : Hp) =>
  c15 s19 (v13 + (1 : Int32)) h20) (fun j21 => jn (fun (h22 : Hp) =>
  j21 (1 : Int32) h22) (fun j23 => if (aG h14 123 v13.toNatClampNeg) = (2 : Int32) then (
  bd (F_X12_value x1 ((2 : Int32) + v13) h14) (fun r24 h25 => if r24 = (1 : Int32) then (
  bd (F_X12_isWhole a1 v13 h25) (fun r26 h27 => if r26 = 0 then (
  j21 (0 : Int32) h27) else (
  j23 h27))) else (
  j23 h25))) else (
  j23 h14)))))) else (
  j17 h14))) (fun _ _ _ => none)) v2 (0 : Int32) h4)) (fun _ _ _ => none)) (1 : Int32) (0 : Int32) h))
set_option maxRecDepth 100000 in
set_option maxHeartbeats 4000000 in
theorem ok_X12_isLast (a1 : Int32) (h : Hp) (rZ : Int32) (hZ : Hp) (eZ : F_X12_isLast a1 h = some (rZ, hZ)) : AC yX12_isLast cX12_isLast 5 (some .boolean) 3 73 [.ref 117, .int a1] h (eI rZ) hZ := by
  refine AC_intro (o := F_X12_isLast a1 h) RX12 rfl (plainFor_of_name (by decide)) [some (.ref 117), some (.int a1), none, none, none] rfl (fun _ => rfl) (fun _ => Nat.le_of_ble_eq_true rfl) eZ (fun K C => ?_)
  unfold F_X12_isLast
  refine gf_aload_n C dX12_isLast_0 rfl rfl (gf_getR C dX12_isLast_1 fl_X12_61 s_117 rfl 131 rfl (gf_iload_n C dX12_isLast_4 rfl rfl (gf_iconst C dX12_isLast_5 ki_1 (gf_isub C dX12_isLast_6 (gf_iald C dX12_isLast_7 s_131 ?_)))))
  refine gf_jlI (fun x1 => ?_)
  refine gf_istore_n C dX12_isLast_8 rfl [some (.ref 117), some (.int a1), some (.int x1), none, none] rfl rfl (Nat.le_of_ble_eq_true rfl) (gf_iconst C dX12_isLast_9 ki_1 (gf_istore_n C dX12_isLast_10 rfl [some (.ref 117), some (.int a1), some (.int x1), some (.int (1 : Int32)), none] rfl rfl (Nat.le_of_ble_eq_true rfl) (gf_iconst C dX12_isLast_11 ki_0 (gf_istore C dX12_isLast_12 [some (.ref 117), some (.int a1), some (.int x1), some (.int (1 : Int32)), some (.int (0 : Int32))] rfl rfl (Nat.le_of_ble_eq_true rfl) ?_))))
  refine gf_sub [some (.ref 117), some (.int a1), some (.int x1), some (.int (1 : Int32)), some (.int (0 : Int32))] (And.intro rfl (And.intro rfl (And.intro rfl (And.intro rfl (And.intro rfl trivial))))) ?_
  refine lp_P (fun (c5 : Int32 → Int32 → Hp → Option (Int32 × Hp)) => ∀ (v2 : Int32) (v3 : Int32) (h4 : Hp), GF K eI h4 14 [some (.ref 117), some (.int a1), some (.int x1), some (.int v2), some (.int v3)] [] (c5 v2 v3 h4)) (fun _ _ _ => gf_none) (fun c5 kc5 v2 v3 h4 => ?_) (1 : Int32) (0 : Int32) h
  refine gf_iload C dX12_isLast_14 rfl (gf_iload_n C dX12_isLast_16 rfl rfl (gf_iconst C dX12_isLast_17 ki_1 (gf_isub C dX12_isLast_18 ?_)))
  refine gf_icmpge C 58 dX12_isLast_19 (by decide) (fun _ => ?_) (fun _ => ?_)
  · refine gf_iload_n C dX12_isLast_22 rfl rfl ?_
    refine gf_jn (fun (j8 : Int32 → Hp → Option (Int32 × Hp)) => ∀ (s6 : Int32) (h7 : Hp), GF K eI h7 51 [some (.ref 117), some (.int a1), some (.int x1), none, some (.int v3)] [.int s6] (j8 s6 h7)) ?_ (fun j8 kj8 => ?_)
    · intro s6 h7
      refine gf_istore_n C dX12_isLast_51 rfl [some (.ref 117), some (.int a1), some (.int x1), some (.int s6), some (.int v3)] rfl rfl (Nat.le_of_ble_eq_true rfl) (gf_iinc C dX12_isLast_52 rfl (ii_1 _) [some (.ref 117), some (.int a1), some (.int x1), some (.int s6), some (.int (v3 + (1 : Int32)))] rfl rfl ?_)
      refine gf_goto C 14 dX12_isLast_55 (by decide) ?_
      exact gf_sub [some (.ref 117), some (.int a1), some (.int x1), some (.int s6), some (.int (v3 + (1 : Int32)))] (And.intro rfl (And.intro rfl (And.intro rfl (And.intro rfl (And.intro rfl trivial))))) (kc5 s6 (v3 + (1 : Int32)) h7)
    refine gf_jn (fun (j10 : Hp → Option (Int32 × Hp)) => ∀ (h9 : Hp), GF K eI h9 50 [some (.ref 117), some (.int a1), some (.int x1), none, some (.int v3)] [] (j10 h9)) ?_ (fun j10 kj10 => ?_)
    · intro h9
      refine gf_iconst C dX12_isLast_50 ki_0 ?_
      exact gf_sub [some (.ref 117), some (.int a1), some (.int x1), none, some (.int v3)] (And.intro rfl (And.intro rfl (And.intro rfl (And.intro rfl trivial)))) (kj8 (0 : Int32) h9)
    refine gf_ifeq C 50 dX12_isLast_23 (by decide) (fun _ => ?_) (fun _ => ?_)
    · exact gf_sub [some (.ref 117), some (.int a1), some (.int x1), none, some (.int v3)] (And.intro rfl (And.intro rfl (And.intro rfl (And.intro rfl trivial)))) (kj10 h4)
    · refine gf_aload_n C dX12_isLast_26 rfl rfl (gf_getR C dX12_isLast_27 fl_X12_58 s_117 rfl 130 rfl (gf_bipush C dX12_isLast_30 kb_7 (gf_iload_n C dX12_isLast_32 rfl rfl (gf_imul C dX12_isLast_33 (gf_aload_n C dX12_isLast_34 rfl rfl (gf_getR C dX12_isLast_35 fl_X12_61 s_117 rfl 131 rfl (gf_iload C dX12_isLast_38 rfl ?_)))))))
      refine gf_iald C dX12_isLast_40 s_131 (gf_iadd C dX12_isLast_41 ?_)
      refine gf_jlI (fun x11 => ?_)
      refine gf_zald C dX12_isLast_42 s_130 ?_
      refine gf_ifne C 50 dX12_isLast_43 (by decide) (fun _ => ?_) (fun _ => ?_)
      · refine gf_iconst C dX12_isLast_46 ki_1 ?_
        refine gf_goto C 51 dX12_isLast_47 (by decide) ?_
        exact gf_sub [some (.ref 117), some (.int a1), some (.int x1), none, some (.int v3)] (And.intro rfl (And.intro rfl (And.intro rfl (And.intro rfl trivial)))) (kj8 (1 : Int32) h4)
      · exact gf_sub [some (.ref 117), some (.int a1), some (.int x1), none, some (.int v3)] (And.intro rfl (And.intro rfl (And.intro rfl (And.intro rfl trivial)))) (kj10 h4)
  · refine gf_iconst C dX12_isLast_58 ki_0 (gf_istore C dX12_isLast_59 [some (.ref 117), some (.int a1), some (.int x1), some (.int v2), some (.int (0 : Int32))] rfl rfl (Nat.le_of_ble_eq_true rfl) ?_)
    refine gf_sub [some (.ref 117), some (.int a1), some (.int x1), some (.int v2), some (.int (0 : Int32))] (And.intro rfl (And.intro rfl (And.intro rfl (And.intro rfl (And.intro rfl trivial))))) ?_
    refine lp_P (fun (c15 : Int32 → Int32 → Hp → Option (Int32 × Hp)) => ∀ (v12 : Int32) (v13 : Int32) (h14 : Hp), GF K eI h14 61 [some (.ref 117), some (.int a1), some (.int x1), some (.int v12), some (.int v13)] [] (c15 v12 v13 h14)) (fun _ _ _ => gf_none) (fun c15 kc15 v12 v13 h14 => ?_) v2 (0 : Int32) h4
    refine gf_iload C dX12_isLast_61 rfl (gf_aload_n C dX12_isLast_63 rfl rfl (gf_getI C dX12_isLast_64 fl_X12_169 s_117 rfl 7506 rfl ?_))
    refine gf_jn (fun (j17 : Hp → Option (Int32 × Hp)) => ∀ (h16 : Hp), GF K eI h16 120 [none, none, none, some (.int v12), none] [] (j17 h16)) ?_ (fun j17 kj17 => ?_)
    · intro h16
      refine gf_iload_n C dX12_isLast_120 rfl rfl ?_
      refine gf_gd (fun b18 => ?_)
      exact gf_zret C dX12_isLast_121 (isB_nar b18) rfl
    refine gf_icmpge C 120 dX12_isLast_67 (by decide) (fun _ => ?_) (fun _ => ?_)
    · refine gf_iload_n C dX12_isLast_70 rfl rfl ?_
      refine gf_ifeq C 120 dX12_isLast_71 (by decide) (fun _ => ?_) (fun _ => ?_)
      · exact gf_sub [none, none, none, some (.int v12), none] (And.intro rfl trivial) (kj17 h14)
      · refine gf_aload_n C dX12_isLast_74 rfl rfl (gf_getR C dX12_isLast_75 fl_X12_35 s_117 rfl 123 rfl (gf_iload C dX12_isLast_78 rfl (gf_iald C dX12_isLast_80 s_123 (gf_iconst C dX12_isLast_81 ki_2 ?_))))
        refine gf_jn (fun (j21 : Int32 → Hp → Option (Int32 × Hp)) => ∀ (s19 : Int32) (h20 : Hp), GF K eI h20 113 [some (.ref 117), some (.int a1), some (.int x1), none, some (.int v13)] [.int s19] (j21 s19 h20)) ?_ (fun j21 kj21 => ?_)
        · intro s19 h20
          refine gf_istore_n C dX12_isLast_113 rfl [some (.ref 117), some (.int a1), some (.int x1), some (.int s19), some (.int v13)] rfl rfl (Nat.le_of_ble_eq_true rfl) (gf_iinc C dX12_isLast_114 rfl (ii_1 _) [some (.ref 117), some (.int a1), some (.int x1), some (.int s19), some (.int (v13 + (1 : Int32)))] rfl rfl ?_)
          refine gf_goto C 61 dX12_isLast_117 (by decide) ?_
          exact gf_sub [some (.ref 117), some (.int a1), some (.int x1), some (.int s19), some (.int (v13 + (1 : Int32)))] (And.intro rfl (And.intro rfl (And.intro rfl (And.intro rfl (And.intro rfl trivial))))) (kc15 s19 (v13 + (1 : Int32)) h20)
        refine gf_jn (fun (j23 : Hp → Option (Int32 × Hp)) => ∀ (h22 : Hp), GF K eI h22 108 [some (.ref 117), some (.int a1), some (.int x1), none, some (.int v13)] [] (j23 h22)) ?_ (fun j23 kj23 => ?_)
        · intro h22
          refine gf_iconst C dX12_isLast_108 ki_1 ?_
          refine gf_goto C 113 dX12_isLast_109 (by decide) ?_
          exact gf_sub [some (.ref 117), some (.int a1), some (.int x1), none, some (.int v13)] (And.intro rfl (And.intro rfl (And.intro rfl (And.intro rfl trivial)))) (kj21 (1 : Int32) h22)
        refine gf_icmpne C 108 dX12_isLast_82 (by decide) (fun _ => ?_) (fun _ => ?_)
        · refine gf_aload_n C dX12_isLast_85 rfl rfl (gf_iload_n C dX12_isLast_86 rfl rfl (gf_iconst C dX12_isLast_87 ki_2 (gf_iload C dX12_isLast_88 rfl (gf_iadd C dX12_isLast_90 ?_))))
          refine gf_callV (ε2 := eI) C [.int x1, .int ((2 : Int32) + v13)] dX12_isLast_91 mw_X12_value ml_X12_211 s_117 (fun rZ hZ eZ => ok_X12_value x1 ((2 : Int32) + v13) h14 rZ hZ eZ) rfl rfl rfl (Nat.le_of_ble_eq_true rfl) (Nat.le_of_ble_eq_true rfl) (Nat.le_of_ble_eq_true rfl) (fun r24 h25 => ?_)
          refine gf_iconst C dX12_isLast_94 ki_1 ?_
          refine gf_icmpne C 108 dX12_isLast_95 (by decide) (fun _ => ?_) (fun _ => ?_)
          · refine gf_aload_n C dX12_isLast_98 rfl rfl (gf_iload_n C dX12_isLast_99 rfl rfl (gf_iload C dX12_isLast_100 rfl ?_))
            refine gf_callV (ε2 := eI) C [.int a1, .int v13] dX12_isLast_102 mw_X12_isWhole ml_X12_220 s_117 (fun rZ hZ eZ => ok_X12_isWhole a1 v13 h25 rZ hZ eZ) rfl rfl rfl (Nat.le_of_ble_eq_true rfl) (Nat.le_of_ble_eq_true rfl) (Nat.le_of_ble_eq_true rfl) (fun r26 h27 => ?_)
            refine gf_ifeq C 112 dX12_isLast_105 (by decide) (fun _ => ?_) (fun _ => ?_)
            · refine gf_iconst C dX12_isLast_112 ki_0 ?_
              exact gf_sub [some (.ref 117), some (.int a1), some (.int x1), none, some (.int v13)] (And.intro rfl (And.intro rfl (And.intro rfl (And.intro rfl trivial)))) (kj21 (0 : Int32) h27)
            · exact gf_sub [some (.ref 117), some (.int a1), some (.int x1), none, some (.int v13)] (And.intro rfl (And.intro rfl (And.intro rfl (And.intro rfl trivial)))) (kj23 h27)
          · exact gf_sub [some (.ref 117), some (.int a1), some (.int x1), none, some (.int v13)] (And.intro rfl (And.intro rfl (And.intro rfl (And.intro rfl trivial)))) (kj23 h25)
        · exact gf_sub [some (.ref 117), some (.int a1), some (.int x1), none, some (.int v13)] (And.intro rfl (And.intro rfl (And.intro rfl (And.intro rfl trivial)))) (kj23 h14)
    · exact gf_sub [none, none, none, some (.int v12), none] (And.intro rfl trivial) (kj17 h14)
def F_X12_firstOf (a1 : Int64) (a2 : Int32) (h : Hp) : Option (Int32 × Hp) :=
  jl (a2 + (1 : Int32)) (fun x1 => (lp 4000000000 (fun (c4 : Int32 → Hp → Option (Int32 × Hp)) (v2 : Int32) (h3 : Hp) =>
  jn (fun (h5 : Hp) =>
  some (v2, h5)) (fun j6 => if v2 < (48 : Int32) then (
  bd (F_X12_has a1 v2 h3) (fun r7 h8 => if r7 = 0 then (
  c4 (v2 + (1 : Int32)) h8) else (
  j6 h8))) else (
  j6 h3))) (fun _ _ => none)) x1 h)
set_option maxRecDepth 100000 in
set_option maxHeartbeats 4000000 in
theorem ok_X12_firstOf (a1 : Int64) (a2 : Int32) (h : Hp) (rZ : Int32) (hZ : Hp) (eZ : F_X12_firstOf a1 a2 h = some (rZ, hZ)) : AC yX12_firstOf cX12_firstOf 4 (some .int) 1 22 [.long a1, .int a2] h (eI rZ) hZ := by
  refine AC_intro (o := F_X12_firstOf a1 a2 h) RX12 rfl (plainFor_of_name (by decide)) [some (.long a1), none, some (.int a2), none] rfl (fun _ => rfl) (fun _ => Nat.le_of_ble_eq_true rfl) eZ (fun K C => ?_)
  unfold F_X12_firstOf
  refine gf_iload_n C dX12_firstOf_0 rfl rfl (gf_iconst C dX12_firstOf_1 ki_1 (gf_iadd C dX12_firstOf_2 ?_))
  refine gf_jlI (fun x1 => ?_)
  refine gf_istore_n C dX12_firstOf_3 rfl [some (.long a1), none, some (.int a2), some (.int x1)] rfl rfl (Nat.le_of_ble_eq_true rfl) ?_
  refine gf_sub [some (.long a1), none, none, some (.int x1)] (And.intro rfl (And.intro rfl trivial)) ?_
  refine lp_P (fun (c4 : Int32 → Hp → Option (Int32 × Hp)) => ∀ (v2 : Int32) (h3 : Hp), GF K eI h3 4 [some (.long a1), none, none, some (.int v2)] [] (c4 v2 h3)) (fun _ _ => gf_none) (fun c4 kc4 v2 h3 => ?_) x1 h
  refine gf_iload_n C dX12_firstOf_4 rfl rfl (gf_bipush C dX12_firstOf_5 kb_48 ?_)
  refine gf_jn (fun (j6 : Hp → Option (Int32 × Hp)) => ∀ (h5 : Hp), GF K eI h5 24 [none, none, none, some (.int v2)] [] (j6 h5)) ?_ (fun j6 kj6 => ?_)
  · intro h5
    refine gf_iload_n C dX12_firstOf_24 rfl rfl ?_
    exact gf_iret C dX12_firstOf_25 rfl
  refine gf_icmpge C 24 dX12_firstOf_7 (by decide) (fun _ => ?_) (fun _ => ?_)
  · refine gf_lload_n C dX12_firstOf_10 rfl rfl (gf_iload_n C dX12_firstOf_11 rfl rfl ?_)
    refine gf_callS (ε2 := eI) C [.long a1, .int v2] dX12_firstOf_12 mw_X12_has ml_X12_223 (fun rZ hZ eZ => ok_X12_has a1 v2 h3 rZ hZ eZ) rfl rfl rfl (Nat.le_of_ble_eq_true rfl) (Nat.le_of_ble_eq_true rfl) (Nat.le_of_ble_eq_true rfl) (fun r7 h8 => ?_)
    refine gf_ifne C 24 dX12_firstOf_15 (by decide) (fun _ => ?_) (fun _ => ?_)
    · refine gf_iinc C dX12_firstOf_18 rfl (ii_1 _) [some (.long a1), none, none, some (.int (v2 + (1 : Int32)))] rfl rfl ?_
      refine gf_goto C 4 dX12_firstOf_21 (by decide) ?_
      exact gf_sub [some (.long a1), none, none, some (.int (v2 + (1 : Int32)))] (And.intro rfl (And.intro rfl trivial)) (kc4 (v2 + (1 : Int32)) h8)
    · exact gf_sub [none, none, none, some (.int v2)] (And.intro rfl trivial) (kj6 h8)
  · exact gf_sub [none, none, none, some (.int v2)] (And.intro rfl trivial) (kj6 h3)
def F_X12_lastOf (a1 : Int64) (a2 : Int32) (h : Hp) : Option (Int32 × Hp) :=
  jl (a2 - (1 : Int32)) (fun x1 => (lp 4000000000 (fun (c4 : Int32 → Hp → Option (Int32 × Hp)) (v2 : Int32) (h3 : Hp) =>
  jn (fun (h5 : Hp) =>
  some (v2, h5)) (fun j6 => if v2 < 0 then (
  j6 h3) else (
  bd (F_X12_has a1 v2 h3) (fun r7 h8 => if r7 = 0 then (
  c4 (v2 + (-1 : Int32)) h8) else (
  j6 h8))))) (fun _ _ => none)) x1 h)
set_option maxRecDepth 100000 in
set_option maxHeartbeats 4000000 in
theorem ok_X12_lastOf (a1 : Int64) (a2 : Int32) (h : Hp) (rZ : Int32) (hZ : Hp) (eZ : F_X12_lastOf a1 a2 h = some (rZ, hZ)) : AC yX12_lastOf cX12_lastOf 4 (some .int) 1 22 [.long a1, .int a2] h (eI rZ) hZ := by
  refine AC_intro (o := F_X12_lastOf a1 a2 h) RX12 rfl (plainFor_of_name (by decide)) [some (.long a1), none, some (.int a2), none] rfl (fun _ => rfl) (fun _ => Nat.le_of_ble_eq_true rfl) eZ (fun K C => ?_)
  unfold F_X12_lastOf
  refine gf_iload_n C dX12_lastOf_0 rfl rfl (gf_iconst C dX12_lastOf_1 ki_1 (gf_isub C dX12_lastOf_2 ?_))
  refine gf_jlI (fun x1 => ?_)
  refine gf_istore_n C dX12_lastOf_3 rfl [some (.long a1), none, some (.int a2), some (.int x1)] rfl rfl (Nat.le_of_ble_eq_true rfl) ?_
  refine gf_sub [some (.long a1), none, none, some (.int x1)] (And.intro rfl (And.intro rfl trivial)) ?_
  refine lp_P (fun (c4 : Int32 → Hp → Option (Int32 × Hp)) => ∀ (v2 : Int32) (h3 : Hp), GF K eI h3 4 [some (.long a1), none, none, some (.int v2)] [] (c4 v2 h3)) (fun _ _ => gf_none) (fun c4 kc4 v2 h3 => ?_) x1 h
  refine gf_iload_n C dX12_lastOf_4 rfl rfl ?_
  refine gf_jn (fun (j6 : Hp → Option (Int32 × Hp)) => ∀ (h5 : Hp), GF K eI h5 22 [none, none, none, some (.int v2)] [] (j6 h5)) ?_ (fun j6 kj6 => ?_)
  · intro h5
    refine gf_iload_n C dX12_lastOf_22 rfl rfl ?_
    exact gf_iret C dX12_lastOf_23 rfl
  refine gf_iflt C 22 dX12_lastOf_5 (by decide) (fun _ => ?_) (fun _ => ?_)
  · exact gf_sub [none, none, none, some (.int v2)] (And.intro rfl trivial) (kj6 h3)
  · refine gf_lload_n C dX12_lastOf_8 rfl rfl (gf_iload_n C dX12_lastOf_9 rfl rfl ?_)
    refine gf_callS (ε2 := eI) C [.long a1, .int v2] dX12_lastOf_10 mw_X12_has ml_X12_223 (fun rZ hZ eZ => ok_X12_has a1 v2 h3 rZ hZ eZ) rfl rfl rfl (Nat.le_of_ble_eq_true rfl) (Nat.le_of_ble_eq_true rfl) (Nat.le_of_ble_eq_true rfl) (fun r7 h8 => ?_)
    refine gf_ifne C 22 dX12_lastOf_13 (by decide) (fun _ => ?_) (fun _ => ?_)
    · refine gf_iinc C dX12_lastOf_16 rfl (ii_m1 _) [some (.long a1), none, none, some (.int (v2 + (-1 : Int32)))] rfl rfl ?_
      refine gf_goto C 4 dX12_lastOf_19 (by decide) ?_
      exact gf_sub [some (.long a1), none, none, some (.int (v2 + (-1 : Int32)))] (And.intro rfl (And.intro rfl trivial)) (kc4 (v2 + (-1 : Int32)) h8)
    · exact gf_sub [none, none, none, some (.int v2)] (And.intro rfl trivial) (kj6 h8)
def F_X12_isGiven (a1 : Int32) (h : Hp) : Option (Int32 × Hp) :=
  gd (inb (a1 - (1 : Int32)) 8) ( jl (aG h 131 (a1 - (1 : Int32)).toNatClampNeg) (fun x1 => gd (inb x1 7) ( jn (fun (s2 : Int32) (h3 : Hp) =>
  bd (F_X12_firstOf (lG h 129 x1.toNatClampNeg) s2 h3) (fun r5 h6 => gd (inb (a1 - (1 : Int32)) 8) ( jl (aS h6 132 (a1 - (1 : Int32)).toNatClampNeg r5) (fun h7 => gd (inb (a1 - (1 : Int32)) 8) ( jn (fun (s8 : Int32) (h9 : Hp) =>
  gd (isB s8) ( some (s8, h9))) (fun j10 => if (aG h7 132 (a1 - (1 : Int32)).toNatClampNeg) < (48 : Int32) then (
  j10 (1 : Int32) h7) else (
  j10 (0 : Int32) h7))))))) (fun j4 => if a1 = (1 : Int32) then (
  j4 (-1 : Int32) h) else (
  gd (inb (a1 - (2 : Int32)) 8) ( j4 (aG h 132 (a1 - (2 : Int32)).toNatClampNeg) h))))))
set_option maxRecDepth 100000 in
set_option maxHeartbeats 4000000 in
theorem ok_X12_isGiven (a1 : Int32) (h : Hp) (rZ : Int32) (hZ : Hp) (eZ : F_X12_isGiven a1 h = some (rZ, hZ)) : AC yX12_isGiven cX12_isGiven 2 (some .boolean) 2 45 [.ref 117, .int a1] h (eI rZ) hZ := by
  refine AC_intro (o := F_X12_isGiven a1 h) RX12 rfl (plainFor_of_name (by decide)) [some (.ref 117), some (.int a1)] rfl (fun _ => rfl) (fun _ => Nat.le_of_ble_eq_true rfl) eZ (fun K C => ?_)
  unfold F_X12_isGiven
  refine gf_aload_n C dX12_isGiven_0 rfl rfl (gf_getR C dX12_isGiven_1 fl_X12_64 s_117 rfl 132 rfl (gf_iload_n C dX12_isGiven_4 rfl rfl (gf_iconst C dX12_isGiven_5 ki_1 (gf_isub C dX12_isGiven_6 (gf_aload_n C dX12_isGiven_7 rfl rfl (gf_getR C dX12_isGiven_8 fl_X12_54 s_117 rfl 129 rfl (gf_aload_n C dX12_isGiven_11 rfl rfl ?_)))))))
  refine gf_getR C dX12_isGiven_12 fl_X12_61 s_117 rfl 131 rfl (gf_iload_n C dX12_isGiven_15 rfl rfl (gf_iconst C dX12_isGiven_16 ki_1 (gf_isub C dX12_isGiven_17 (gf_iald C dX12_isGiven_18 s_131 ?_))))
  refine gf_jlI (fun x1 => ?_)
  refine gf_lald C dX12_isGiven_19 s_129 (gf_iload_n C dX12_isGiven_20 rfl rfl (gf_iconst C dX12_isGiven_21 ki_1 ?_))
  refine gf_jn (fun (j4 : Int32 → Hp → Option (Int32 × Hp)) => ∀ (s2 : Int32) (h3 : Hp), GF K eI h3 37 [some (.ref 117), some (.int a1)] [.int s2, .long (lG h 129 x1.toNatClampNeg), .int (a1 - (1 : Int32)), .ref 132] (j4 s2 h3)) ?_ (fun j4 kj4 => ?_)
  · intro s2 h3
    refine gf_callS (ε2 := eI) C [.long (lG h 129 x1.toNatClampNeg), .int s2] dX12_isGiven_37 mw_X12_firstOf ml_X12_227 (fun rZ hZ eZ => ok_X12_firstOf (lG h 129 x1.toNatClampNeg) s2 h3 rZ hZ eZ) rfl rfl rfl (Nat.le_of_ble_eq_true rfl) (Nat.le_of_ble_eq_true rfl) (Nat.le_of_ble_eq_true rfl) (fun r5 h6 => ?_)
    refine gf_iast C dX12_isGiven_40 s_132 ?_
    refine gf_jlH (fun h7 => ?_)
    refine gf_aload_n C dX12_isGiven_41 rfl rfl (gf_getR C dX12_isGiven_42 fl_X12_64 s_117 rfl 132 rfl (gf_iload_n C dX12_isGiven_45 rfl rfl (gf_iconst C dX12_isGiven_46 ki_1 (gf_isub C dX12_isGiven_47 (gf_iald C dX12_isGiven_48 s_132 (gf_bipush C dX12_isGiven_49 kb_48 ?_))))))
    refine gf_jn (fun (j10 : Int32 → Hp → Option (Int32 × Hp)) => ∀ (s8 : Int32) (h9 : Hp), GF K eI h9 59 [none, none] [.int s8] (j10 s8 h9)) ?_ (fun j10 kj10 => ?_)
    · intro s8 h9
      refine gf_gd (fun b11 => ?_)
      exact gf_zret C dX12_isGiven_59 (isB_nar b11) rfl
    refine gf_icmpge C 58 dX12_isGiven_51 (by decide) (fun _ => ?_) (fun _ => ?_)
    · refine gf_iconst C dX12_isGiven_54 ki_1 ?_
      refine gf_goto C 59 dX12_isGiven_55 (by decide) ?_
      exact gf_sub [none, none] trivial (kj10 (1 : Int32) h7)
    · refine gf_iconst C dX12_isGiven_58 ki_0 ?_
      exact gf_sub [none, none] trivial (kj10 (0 : Int32) h7)
  refine gf_icmpne C 29 dX12_isGiven_22 (by decide) (fun _ => ?_) (fun _ => ?_)
  · refine gf_iconst C dX12_isGiven_25 ki_m1 ?_
    refine gf_goto C 37 dX12_isGiven_26 (by decide) ?_
    exact gf_sub [some (.ref 117), some (.int a1)] (And.intro rfl (And.intro rfl trivial)) (kj4 (-1 : Int32) h)
  · refine gf_aload_n C dX12_isGiven_29 rfl rfl (gf_getR C dX12_isGiven_30 fl_X12_64 s_117 rfl 132 rfl (gf_iload_n C dX12_isGiven_33 rfl rfl (gf_iconst C dX12_isGiven_34 ki_2 (gf_isub C dX12_isGiven_35 (gf_iald C dX12_isGiven_36 s_132 ?_)))))
    exact gf_sub [some (.ref 117), some (.int a1)] (And.intro rfl (And.intro rfl trivial)) (kj4 (aG h 132 (a1 - (2 : Int32)).toNatClampNeg) h)
def F_X12_note (a1 : Int32) (h : Hp) : Option (Unit × Hp) :=
  jl (a1 - (1 : Int32)) (fun x1 => (lp 4000000000 (fun (c4 : Int32 → Hp → Option (Unit × Hp)) (v2 : Int32) (h3 : Hp) =>
  if v2 < 0 then (
  (lp 4000000000 (fun (c7 : Int32 → Hp → Option (Unit × Hp)) (v5 : Int32) (h6 : Hp) =>
  if v5 < a1 then (
  gd (inb v5 8) ( jl (aG h6 131 v5.toNatClampNeg) (fun x8 => jn (fun (s9 : Int32) (h10 : Hp) =>
  jn (fun (s12 : Int32) (h13 : Hp) =>
  (lp 4000000000 (fun (c17 : Int32 → Hp → Option (Unit × Hp)) (v15 : Int32) (h16 : Hp) =>
  if s12 < v15 then (
  jn (fun (s18 : Int32) (h19 : Hp) =>
  gd (inb x8 7) ( jl (aS h19 135 x8.toNatClampNeg s18) (fun h21 => jn (fun (s22 : Int32) (h23 : Hp) =>
  gd (inb x8 7) ( jl (aS h23 136 x8.toNatClampNeg s22) (fun h25 => c7 (v5 + (1 : Int32)) h25))) (fun j24 => jn (fun (h26 : Hp) =>
  j24 v5 h26) (fun j27 => if (sG h21 7522) = 0 then (
  j27 h21) else (
  gd (inb x8 7) ( if (aG h21 136 x8.toNatClampNeg) < v5 then (
  j27 h21) else (
  gd (inb x8 7) ( j24 (aG h21 136 x8.toNatClampNeg) h21))))))))) (fun j20 => jn (fun (h28 : Hp) =>
  j20 v5 h28) (fun j29 => if (sG h16 7522) = 0 then (
  j29 h16) else (
  gd (inb x8 7) ( if v5 < (aG h16 135 x8.toNatClampNeg) then (
  j29 h16) else (
  gd (inb x8 7) ( j20 (aG h16 135 x8.toNatClampNeg) h16))))))) else (
  gd (inb x8 7) ( gd (inb x8 7) ( gd (inb x8 7) ( jl (lS h16 134 x8.toNatClampNeg ((lG h16 134 x8.toNatClampNeg) ||| ((lG h16 129 x8.toNatClampNeg) &&& ((1 : Int64) <<< (v15.toInt64 &&& 63))))) (fun h30 => c17 (v15 + (1 : Int32)) h30)))))) (fun _ _ => none)) s9 h13) (fun j14 => if v5 = (a1 - (1 : Int32)) then (
  j14 (47 : Int32) h10) else (
  gd (inb (v5 + (1 : Int32)) 8) ( j14 ((aG h10 133 (v5 + (1 : Int32)).toNatClampNeg) - (1 : Int32)) h10)))) (fun j11 => if v5 = 0 then (
  j11 (0 : Int32) h6) else (
  gd (inb (v5 - (1 : Int32)) 8) ( j11 ((aG h6 132 (v5 - (1 : Int32)).toNatClampNeg) + (1 : Int32)) h6)))))) else (
  some ((), h6))) (fun _ _ => none)) (0 : Int32) h3) else (
  gd (inb v2 8) ( gd (inb (aG h3 131 v2.toNatClampNeg) 7) ( jn (fun (s31 : Int32) (h32 : Hp) =>
  bd (F_X12_lastOf (lG h3 129 (aG h3 131 v2.toNatClampNeg).toNatClampNeg) s31 h32) (fun r34 h35 => gd (inb v2 8) ( jl (aS h35 133 v2.toNatClampNeg r34) (fun h36 => c4 (v2 + (-1 : Int32)) h36)))) (fun j33 => if v2 = (a1 - (1 : Int32)) then (
  j33 (48 : Int32) h3) else (
  gd (inb (v2 + (1 : Int32)) 8) ( j33 (aG h3 133 (v2 + (1 : Int32)).toNatClampNeg) h3))))))) (fun _ _ => none)) x1 h)
set_option maxRecDepth 100000 in
set_option maxHeartbeats 4000000 in
theorem ok_X12_note (a1 : Int32) (h : Hp) (rZ : Unit) (hZ : Hp) (eZ : F_X12_note a1 h = some (rZ, hZ)) : AC yX12_note cX12_note 7 (none) 2 45 [.ref 117, .int a1] h (eV rZ) hZ := by
  refine AC_intro (o := F_X12_note a1 h) RX12 rfl (plainFor_of_name (by decide)) [some (.ref 117), some (.int a1), none, none, none, none, none] rfl (fun _ => rfl) (fun _ => Nat.le_of_ble_eq_true rfl) eZ (fun K C => ?_)
  unfold F_X12_note
  refine gf_iload_n C dX12_note_0 rfl rfl (gf_iconst C dX12_note_1 ki_1 (gf_isub C dX12_note_2 ?_))
  refine gf_jlI (fun x1 => ?_)
  refine gf_istore_n C dX12_note_3 rfl [some (.ref 117), some (.int a1), some (.int x1), none, none, none, none] rfl rfl (Nat.le_of_ble_eq_true rfl) ?_
  refine gf_sub [some (.ref 117), some (.int a1), some (.int x1), none, none, none, none] (And.intro rfl (And.intro rfl (And.intro rfl trivial))) ?_
  refine lp_P (fun (c4 : Int32 → Hp → Option (Unit × Hp)) => ∀ (v2 : Int32) (h3 : Hp), GF K eV h3 4 [some (.ref 117), some (.int a1), some (.int v2), none, none, none, none] [] (c4 v2 h3)) (fun _ _ => gf_none) (fun c4 kc4 v2 h3 => ?_) x1 h
  refine gf_iload_n C dX12_note_4 rfl rfl ?_
  refine gf_iflt C 54 dX12_note_5 (by decide) (fun _ => ?_) (fun _ => ?_)
  · refine gf_iconst C dX12_note_54 ki_0 (gf_istore_n C dX12_note_55 rfl [some (.ref 117), some (.int a1), some (.int (0 : Int32)), none, none, none, none] rfl rfl (Nat.le_of_ble_eq_true rfl) ?_)
    refine gf_sub [some (.ref 117), some (.int a1), some (.int (0 : Int32)), none, none, none, none] (And.intro rfl (And.intro rfl (And.intro rfl trivial))) ?_
    refine lp_P (fun (c7 : Int32 → Hp → Option (Unit × Hp)) => ∀ (v5 : Int32) (h6 : Hp), GF K eV h6 56 [some (.ref 117), some (.int a1), some (.int v5), none, none, none, none] [] (c7 v5 h6)) (fun _ _ => gf_none) (fun c7 kc7 v5 h6 => ?_) (0 : Int32) h3
    refine gf_iload_n C dX12_note_56 rfl rfl (gf_iload_n C dX12_note_57 rfl rfl ?_)
    refine gf_icmpge C 225 dX12_note_58 (by decide) (fun _ => ?_) (fun _ => ?_)
    · refine gf_aload_n C dX12_note_61 rfl rfl (gf_getR C dX12_note_62 fl_X12_61 s_117 rfl 131 rfl (gf_iload_n C dX12_note_65 rfl rfl (gf_iald C dX12_note_66 s_131 ?_)))
      refine gf_jlI (fun x8 => ?_)
      refine gf_istore_n C dX12_note_67 rfl [some (.ref 117), some (.int a1), some (.int v5), some (.int x8), none, none, none] rfl rfl (Nat.le_of_ble_eq_true rfl) (gf_iload_n C dX12_note_68 rfl rfl ?_)
      refine gf_jn (fun (j11 : Int32 → Hp → Option (Unit × Hp)) => ∀ (s9 : Int32) (h10 : Hp), GF K eV h10 86 [some (.ref 117), some (.int a1), some (.int v5), some (.int x8), none, none, none] [.int s9] (j11 s9 h10)) ?_ (fun j11 kj11 => ?_)
      · intro s9 h10
        refine gf_istore C dX12_note_86 [some (.ref 117), some (.int a1), some (.int v5), some (.int x8), some (.int s9), none, none] rfl rfl (Nat.le_of_ble_eq_true rfl) (gf_iload_n C dX12_note_88 rfl rfl (gf_iload_n C dX12_note_89 rfl rfl (gf_iconst C dX12_note_90 ki_1 (gf_isub C dX12_note_91 ?_))))
        refine gf_jn (fun (j14 : Int32 → Hp → Option (Unit × Hp)) => ∀ (s12 : Int32) (h13 : Hp), GF K eV h13 110 [some (.ref 117), some (.int a1), some (.int v5), some (.int x8), some (.int s9), none, none] [.int s12] (j14 s12 h13)) ?_ (fun j14 kj14 => ?_)
        · intro s12 h13
          refine gf_istore C dX12_note_110 [some (.ref 117), some (.int a1), some (.int v5), some (.int x8), some (.int s9), some (.int s12), none] rfl rfl (Nat.le_of_ble_eq_true rfl) (gf_iload C dX12_note_112 rfl (gf_istore C dX12_note_114 [some (.ref 117), some (.int a1), some (.int v5), some (.int x8), some (.int s9), some (.int s12), some (.int s9)] rfl rfl (Nat.le_of_ble_eq_true rfl) ?_))
          refine gf_sub [some (.ref 117), some (.int a1), some (.int v5), some (.int x8), none, some (.int s12), some (.int s9)] (And.intro rfl (And.intro rfl (And.intro rfl (And.intro rfl (And.intro rfl (And.intro rfl trivial)))))) ?_
          refine lp_P (fun (c17 : Int32 → Hp → Option (Unit × Hp)) => ∀ (v15 : Int32) (h16 : Hp), GF K eV h16 116 [some (.ref 117), some (.int a1), some (.int v5), some (.int x8), none, some (.int s12), some (.int v15)] [] (c17 v15 h16)) (fun _ _ => gf_none) (fun c17 kc17 v15 h16 => ?_) s9 h13
          refine gf_iload C dX12_note_116 rfl (gf_iload C dX12_note_118 rfl ?_)
          refine gf_icmpgt C 153 dX12_note_120 (by decide) (fun _ => ?_) (fun _ => ?_)
          · refine gf_aload_n C dX12_note_153 rfl rfl (gf_getR C dX12_note_154 fl_X12_73 s_117 rfl 135 rfl (gf_iload_n C dX12_note_157 rfl rfl (gf_aload_n C dX12_note_158 rfl rfl (gf_getI C dX12_note_159 fl_X12_234 s_117 rfl 7522 rfl ?_))))
            refine gf_jn (fun (j20 : Int32 → Hp → Option (Unit × Hp)) => ∀ (s18 : Int32) (h19 : Hp), GF K eV h19 185 [some (.ref 117), some (.int a1), some (.int v5), some (.int x8), none, none, none] [.int s18, .int x8, .ref 135] (j20 s18 h19)) ?_ (fun j20 kj20 => ?_)
            · intro s18 h19
              refine gf_iast C dX12_note_185 s_135 ?_
              refine gf_jlH (fun h21 => ?_)
              refine gf_aload_n C dX12_note_186 rfl rfl (gf_getR C dX12_note_187 fl_X12_76 s_117 rfl 136 rfl (gf_iload_n C dX12_note_190 rfl rfl (gf_aload_n C dX12_note_191 rfl rfl (gf_getI C dX12_note_192 fl_X12_234 s_117 rfl 7522 rfl ?_))))
              refine gf_jn (fun (j24 : Int32 → Hp → Option (Unit × Hp)) => ∀ (s22 : Int32) (h23 : Hp), GF K eV h23 218 [some (.ref 117), some (.int a1), some (.int v5), none, none, none, none] [.int s22, .int x8, .ref 136] (j24 s22 h23)) ?_ (fun j24 kj24 => ?_)
              · intro s22 h23
                refine gf_iast C dX12_note_218 s_136 ?_
                refine gf_jlH (fun h25 => ?_)
                refine gf_iinc C dX12_note_219 rfl (ii_1 _) [some (.ref 117), some (.int a1), some (.int (v5 + (1 : Int32))), none, none, none, none] rfl rfl ?_
                refine gf_goto C 56 dX12_note_222 (by decide) ?_
                exact gf_sub [some (.ref 117), some (.int a1), some (.int (v5 + (1 : Int32))), none, none, none, none] (And.intro rfl (And.intro rfl (And.intro rfl trivial))) (kc7 (v5 + (1 : Int32)) h25)
              refine gf_jn (fun (j27 : Hp → Option (Unit × Hp)) => ∀ (h26 : Hp), GF K eV h26 208 [some (.ref 117), some (.int a1), some (.int v5), none, none, none, none] [.int x8, .ref 136] (j27 h26)) ?_ (fun j27 kj27 => ?_)
              · intro h26
                refine gf_iload_n C dX12_note_208 rfl rfl ?_
                refine gf_goto C 218 dX12_note_209 (by decide) ?_
                exact gf_sub [some (.ref 117), some (.int a1), some (.int v5), none, none, none, none] (And.intro rfl (And.intro rfl (And.intro rfl trivial))) (kj24 v5 h26)
              refine gf_ifeq C 208 dX12_note_195 (by decide) (fun _ => ?_) (fun _ => ?_)
              · exact gf_sub [some (.ref 117), some (.int a1), some (.int v5), none, none, none, none] (And.intro rfl (And.intro rfl (And.intro rfl trivial))) (kj27 h21)
              · refine gf_iload_n C dX12_note_198 rfl rfl (gf_aload_n C dX12_note_199 rfl rfl (gf_getR C dX12_note_200 fl_X12_76 s_117 rfl 136 rfl (gf_iload_n C dX12_note_203 rfl rfl (gf_iald C dX12_note_204 s_136 ?_))))
                refine gf_icmple C 212 dX12_note_205 (by decide) (fun _ => ?_) (fun _ => ?_)
                · exact gf_sub [some (.ref 117), some (.int a1), some (.int v5), none, none, none, none] (And.intro rfl (And.intro rfl (And.intro rfl trivial))) (kj27 h21)
                · refine gf_aload_n C dX12_note_212 rfl rfl (gf_getR C dX12_note_213 fl_X12_76 s_117 rfl 136 rfl (gf_iload_n C dX12_note_216 rfl rfl (gf_iald C dX12_note_217 s_136 ?_)))
                  exact gf_sub [some (.ref 117), some (.int a1), some (.int v5), none, none, none, none] (And.intro rfl (And.intro rfl (And.intro rfl trivial))) (kj24 (aG h21 136 x8.toNatClampNeg) h21)
            refine gf_jn (fun (j29 : Hp → Option (Unit × Hp)) => ∀ (h28 : Hp), GF K eV h28 175 [some (.ref 117), some (.int a1), some (.int v5), some (.int x8), none, none, none] [.int x8, .ref 135] (j29 h28)) ?_ (fun j29 kj29 => ?_)
            · intro h28
              refine gf_iload_n C dX12_note_175 rfl rfl ?_
              refine gf_goto C 185 dX12_note_176 (by decide) ?_
              exact gf_sub [some (.ref 117), some (.int a1), some (.int v5), some (.int x8), none, none, none] (And.intro rfl (And.intro rfl (And.intro rfl (And.intro rfl trivial)))) (kj20 v5 h28)
            refine gf_ifeq C 175 dX12_note_162 (by decide) (fun _ => ?_) (fun _ => ?_)
            · exact gf_sub [some (.ref 117), some (.int a1), some (.int v5), some (.int x8), none, none, none] (And.intro rfl (And.intro rfl (And.intro rfl (And.intro rfl trivial)))) (kj29 h16)
            · refine gf_iload_n C dX12_note_165 rfl rfl (gf_aload_n C dX12_note_166 rfl rfl (gf_getR C dX12_note_167 fl_X12_73 s_117 rfl 135 rfl (gf_iload_n C dX12_note_170 rfl rfl (gf_iald C dX12_note_171 s_135 ?_))))
              refine gf_icmpge C 179 dX12_note_172 (by decide) (fun _ => ?_) (fun _ => ?_)
              · exact gf_sub [some (.ref 117), some (.int a1), some (.int v5), some (.int x8), none, none, none] (And.intro rfl (And.intro rfl (And.intro rfl (And.intro rfl trivial)))) (kj29 h16)
              · refine gf_aload_n C dX12_note_179 rfl rfl (gf_getR C dX12_note_180 fl_X12_73 s_117 rfl 135 rfl (gf_iload_n C dX12_note_183 rfl rfl (gf_iald C dX12_note_184 s_135 ?_)))
                exact gf_sub [some (.ref 117), some (.int a1), some (.int v5), some (.int x8), none, none, none] (And.intro rfl (And.intro rfl (And.intro rfl (And.intro rfl trivial)))) (kj20 (aG h16 135 x8.toNatClampNeg) h16)
          · refine gf_aload_n C dX12_note_123 rfl rfl (gf_getR C dX12_note_124 fl_X12_70 s_117 rfl 134 rfl (gf_iload_n C dX12_note_127 rfl rfl (gf_aload_n C dX12_note_128 rfl rfl (gf_getR C dX12_note_129 fl_X12_70 s_117 rfl 134 rfl (gf_iload_n C dX12_note_132 rfl rfl (gf_lald C dX12_note_133 s_134 (gf_aload_n C dX12_note_134 rfl rfl ?_)))))))
            refine gf_getR C dX12_note_135 fl_X12_54 s_117 rfl 129 rfl (gf_iload_n C dX12_note_138 rfl rfl (gf_lald C dX12_note_139 s_129 (gf_lconst C dX12_note_140 kl_1 (gf_iload C dX12_note_141 rfl (gf_lshl C dX12_note_143 (gf_land C dX12_note_144 (gf_lor C dX12_note_145 ?_)))))))
            refine gf_last C dX12_note_146 s_134 ?_
            refine gf_jlH (fun h30 => ?_)
            refine gf_iinc C dX12_note_147 rfl (ii_1 _) [some (.ref 117), some (.int a1), some (.int v5), some (.int x8), none, some (.int s12), some (.int (v15 + (1 : Int32)))] rfl rfl ?_
            refine gf_goto C 116 dX12_note_150 (by decide) ?_
            exact gf_sub [some (.ref 117), some (.int a1), some (.int v5), some (.int x8), none, some (.int s12), some (.int (v15 + (1 : Int32)))] (And.intro rfl (And.intro rfl (And.intro rfl (And.intro rfl (And.intro rfl (And.intro rfl trivial)))))) (kc17 (v15 + (1 : Int32)) h30)
        refine gf_icmpne C 100 dX12_note_92 (by decide) (fun _ => ?_) (fun _ => ?_)
        · refine gf_bipush C dX12_note_95 kb_47 ?_
          refine gf_goto C 110 dX12_note_97 (by decide) ?_
          exact gf_sub [some (.ref 117), some (.int a1), some (.int v5), some (.int x8), some (.int s9), none, none] (And.intro rfl (And.intro rfl (And.intro rfl (And.intro rfl (And.intro rfl trivial))))) (kj14 (47 : Int32) h10)
        · refine gf_aload_n C dX12_note_100 rfl rfl (gf_getR C dX12_note_101 fl_X12_67 s_117 rfl 133 rfl (gf_iload_n C dX12_note_104 rfl rfl (gf_iconst C dX12_note_105 ki_1 (gf_iadd C dX12_note_106 (gf_iald C dX12_note_107 s_133 (gf_iconst C dX12_note_108 ki_1 (gf_isub C dX12_note_109 ?_)))))))
          exact gf_sub [some (.ref 117), some (.int a1), some (.int v5), some (.int x8), some (.int s9), none, none] (And.intro rfl (And.intro rfl (And.intro rfl (And.intro rfl (And.intro rfl trivial))))) (kj14 ((aG h10 133 (v5 + (1 : Int32)).toNatClampNeg) - (1 : Int32)) h10)
      refine gf_ifne C 76 dX12_note_69 (by decide) (fun _ => ?_) (fun _ => ?_)
      · refine gf_iconst C dX12_note_72 ki_0 ?_
        refine gf_goto C 86 dX12_note_73 (by decide) ?_
        exact gf_sub [some (.ref 117), some (.int a1), some (.int v5), some (.int x8), none, none, none] (And.intro rfl (And.intro rfl (And.intro rfl (And.intro rfl trivial)))) (kj11 (0 : Int32) h6)
      · refine gf_aload_n C dX12_note_76 rfl rfl (gf_getR C dX12_note_77 fl_X12_64 s_117 rfl 132 rfl (gf_iload_n C dX12_note_80 rfl rfl (gf_iconst C dX12_note_81 ki_1 (gf_isub C dX12_note_82 (gf_iald C dX12_note_83 s_132 (gf_iconst C dX12_note_84 ki_1 (gf_iadd C dX12_note_85 ?_)))))))
        exact gf_sub [some (.ref 117), some (.int a1), some (.int v5), some (.int x8), none, none, none] (And.intro rfl (And.intro rfl (And.intro rfl (And.intro rfl trivial)))) (kj11 ((aG h6 132 (v5 - (1 : Int32)).toNatClampNeg) + (1 : Int32)) h6)
    · exact gf_vret C dX12_note_225 rfl
  · refine gf_aload_n C dX12_note_8 rfl rfl (gf_getR C dX12_note_9 fl_X12_67 s_117 rfl 133 rfl (gf_iload_n C dX12_note_12 rfl rfl (gf_aload_n C dX12_note_13 rfl rfl (gf_getR C dX12_note_14 fl_X12_54 s_117 rfl 129 rfl (gf_aload_n C dX12_note_17 rfl rfl (gf_getR C dX12_note_18 fl_X12_61 s_117 rfl 131 rfl (gf_iload_n C dX12_note_21 rfl rfl ?_)))))))
    refine gf_iald C dX12_note_22 s_131 (gf_lald C dX12_note_23 s_129 (gf_iload_n C dX12_note_24 rfl rfl (gf_iload_n C dX12_note_25 rfl rfl (gf_iconst C dX12_note_26 ki_1 (gf_isub C dX12_note_27 ?_)))))
    refine gf_jn (fun (j33 : Int32 → Hp → Option (Unit × Hp)) => ∀ (s31 : Int32) (h32 : Hp), GF K eV h32 44 [some (.ref 117), some (.int a1), some (.int v2), none, none, none, none] [.int s31, .long (lG h3 129 (aG h3 131 v2.toNatClampNeg).toNatClampNeg), .int v2, .ref 133] (j33 s31 h32)) ?_ (fun j33 kj33 => ?_)
    · intro s31 h32
      refine gf_callS (ε2 := eI) C [.long (lG h3 129 (aG h3 131 v2.toNatClampNeg).toNatClampNeg), .int s31] dX12_note_44 mw_X12_lastOf ml_X12_231 (fun rZ hZ eZ => ok_X12_lastOf (lG h3 129 (aG h3 131 v2.toNatClampNeg).toNatClampNeg) s31 h32 rZ hZ eZ) rfl rfl rfl (Nat.le_of_ble_eq_true rfl) (Nat.le_of_ble_eq_true rfl) (Nat.le_of_ble_eq_true rfl) (fun r34 h35 => ?_)
      refine gf_iast C dX12_note_47 s_133 ?_
      refine gf_jlH (fun h36 => ?_)
      refine gf_iinc C dX12_note_48 rfl (ii_m1 _) [some (.ref 117), some (.int a1), some (.int (v2 + (-1 : Int32))), none, none, none, none] rfl rfl ?_
      refine gf_goto C 4 dX12_note_51 (by decide) ?_
      exact gf_sub [some (.ref 117), some (.int a1), some (.int (v2 + (-1 : Int32))), none, none, none, none] (And.intro rfl (And.intro rfl (And.intro rfl trivial))) (kc4 (v2 + (-1 : Int32)) h36)
    refine gf_icmpne C 36 dX12_note_28 (by decide) (fun _ => ?_) (fun _ => ?_)
    · refine gf_bipush C dX12_note_31 kb_48 ?_
      refine gf_goto C 44 dX12_note_33 (by decide) ?_
      exact gf_sub [some (.ref 117), some (.int a1), some (.int v2), none, none, none, none] (And.intro rfl (And.intro rfl (And.intro rfl trivial))) (kj33 (48 : Int32) h3)
    · refine gf_aload_n C dX12_note_36 rfl rfl (gf_getR C dX12_note_37 fl_X12_67 s_117 rfl 133 rfl (gf_iload_n C dX12_note_40 rfl rfl (gf_iconst C dX12_note_41 ki_1 (gf_iadd C dX12_note_42 (gf_iald C dX12_note_43 s_133 ?_)))))
      exact gf_sub [some (.ref 117), some (.int a1), some (.int v2), none, none, none, none] (And.intro rfl (And.intro rfl (And.intro rfl trivial))) (kj33 (aG h3 133 (v2 + (1 : Int32)).toNatClampNeg) h3)
def F_X12_weigh (a1 : Int32) (a2 : Int32) (a3 : Int32) (a4 : Int32) (h : Hp) : Option (Unit × Hp) :=
  bd (F_X12_note a1 h) (fun _ h1 => (lp 4000000000 (fun (c6 : Int32 → Int32 → Int32 → Hp → Option (Unit × Hp)) (v2 : Int32) (v3 : Int32) (v4 : Int32) (h5 : Hp) =>
  if v4 < a1 then (
  jn (fun (s7 : Int32) (h8 : Hp) =>
  gd (inb v4 8) ( jl (aS h8 137 v4.toNatClampNeg s7) (fun h10 => gd (inb v4 8) ( jn (fun (s11 : Int32) (h12 : Hp) =>
  gd (inb v4 8) ( jn (fun (s14 : Int32) (h15 : Hp) =>
  c6 s11 s14 (v4 + (1 : Int32)) h15) (fun j16 => if (aG h12 131 v4.toNatClampNeg) = a4 then (
  j16 v4 h12) else (
  j16 v3 h12)))) (fun j13 => if (aG h10 131 v4.toNatClampNeg) = a3 then (
  j13 v4 h10) else (
  j13 v2 h10)))))) (fun j9 => if (sG h5 7522) = a2 then (
  gd (inb v4 8) ( j9 (aG h5 131 v4.toNatClampNeg) h5)) else (
  gd (inb v4 8) ( j9 (aG h5 137 v4.toNatClampNeg) h5)))) else (
  jn (fun (s17 : Int32) (h18 : Hp) =>
  jl (sS h18 7527 ((sG h5 7527) + s17)) (fun h20 => jl (sS h20 7522 ((sG h20 7522) + (1 : Int32))) (fun h21 => some ((), h21)))) (fun j19 => if v2 < v3 then (
  j19 (1 : Int32) h5) else (
  j19 (0 : Int32) h5)))) (fun _ _ _ _ => none)) (9 : Int32) (9 : Int32) (0 : Int32) h1)
set_option maxRecDepth 100000 in
set_option maxHeartbeats 4000000 in
theorem ok_X12_weigh (a1 : Int32) (a2 : Int32) (a3 : Int32) (a4 : Int32) (h : Hp) (rZ : Unit) (hZ : Hp) (eZ : F_X12_weigh a1 a2 a3 a4 h = some (rZ, hZ)) : AC yX12_weigh cX12_weigh 8 (none) 3 71 [.ref 117, .int a1, .int a2, .int a3, .int a4] h (eV rZ) hZ := by
  refine AC_intro (o := F_X12_weigh a1 a2 a3 a4 h) RX12 rfl (plainFor_of_name (by decide)) [some (.ref 117), some (.int a1), some (.int a2), some (.int a3), some (.int a4), none, none, none] rfl (fun _ => rfl) (fun _ => Nat.le_of_ble_eq_true rfl) eZ (fun K C => ?_)
  unfold F_X12_weigh
  refine gf_aload_n C dX12_weigh_0 rfl rfl (gf_iload_n C dX12_weigh_1 rfl rfl ?_)
  refine gf_callV (ε2 := eV) C [.int a1] dX12_weigh_2 mw_X12_note ml_X12_252 s_117 (fun rZ hZ eZ => ok_X12_note a1 h rZ hZ eZ) rfl rfl rfl (Nat.le_of_ble_eq_true rfl) (Nat.le_of_ble_eq_true rfl) (Nat.le_of_ble_eq_true rfl) (fun _ h1 => ?_)
  refine gf_bipush C dX12_weigh_5 kb_9 (gf_istore C dX12_weigh_7 [some (.ref 117), some (.int a1), some (.int a2), some (.int a3), some (.int a4), some (.int (9 : Int32)), none, none] rfl rfl (Nat.le_of_ble_eq_true rfl) (gf_bipush C dX12_weigh_9 kb_9 (gf_istore C dX12_weigh_11 [some (.ref 117), some (.int a1), some (.int a2), some (.int a3), some (.int a4), some (.int (9 : Int32)), some (.int (9 : Int32)), none] rfl rfl (Nat.le_of_ble_eq_true rfl) (gf_iconst C dX12_weigh_13 ki_0 (gf_istore C dX12_weigh_14 [some (.ref 117), some (.int a1), some (.int a2), some (.int a3), some (.int a4), some (.int (9 : Int32)), some (.int (9 : Int32)), some (.int (0 : Int32))] rfl rfl (Nat.le_of_ble_eq_true rfl) ?_)))))
  refine gf_sub [some (.ref 117), some (.int a1), some (.int a2), some (.int a3), some (.int a4), some (.int (9 : Int32)), some (.int (9 : Int32)), some (.int (0 : Int32))] (And.intro rfl (And.intro rfl (And.intro rfl (And.intro rfl (And.intro rfl (And.intro rfl (And.intro rfl (And.intro rfl trivial)))))))) ?_
  refine lp_P (fun (c6 : Int32 → Int32 → Int32 → Hp → Option (Unit × Hp)) => ∀ (v2 : Int32) (v3 : Int32) (v4 : Int32) (h5 : Hp), GF K eV h5 16 [some (.ref 117), some (.int a1), some (.int a2), some (.int a3), some (.int a4), some (.int v2), some (.int v3), some (.int v4)] [] (c6 v2 v3 v4 h5)) (fun _ _ _ _ => gf_none) (fun c6 kc6 v2 v3 v4 h5 => ?_) (9 : Int32) (9 : Int32) (0 : Int32) h1
  refine gf_iload C dX12_weigh_16 rfl (gf_iload_n C dX12_weigh_18 rfl rfl ?_)
  refine gf_icmpge C 101 dX12_weigh_19 (by decide) (fun _ => ?_) (fun _ => ?_)
  · refine gf_aload_n C dX12_weigh_22 rfl rfl (gf_getR C dX12_weigh_23 fl_X12_79 s_117 rfl 137 rfl (gf_iload C dX12_weigh_26 rfl (gf_aload_n C dX12_weigh_28 rfl rfl (gf_getI C dX12_weigh_29 fl_X12_234 s_117 rfl 7522 rfl (gf_iload_n C dX12_weigh_32 rfl rfl ?_)))))
    refine gf_jn (fun (j9 : Int32 → Hp → Option (Unit × Hp)) => ∀ (s7 : Int32) (h8 : Hp), GF K eV h8 53 [some (.ref 117), some (.int a1), some (.int a2), some (.int a3), some (.int a4), some (.int v2), some (.int v3), some (.int v4)] [.int s7, .int v4, .ref 137] (j9 s7 h8)) ?_ (fun j9 kj9 => ?_)
    · intro s7 h8
      refine gf_iast C dX12_weigh_53 s_137 ?_
      refine gf_jlH (fun h10 => ?_)
      refine gf_aload_n C dX12_weigh_54 rfl rfl (gf_getR C dX12_weigh_55 fl_X12_61 s_117 rfl 131 rfl (gf_iload C dX12_weigh_58 rfl (gf_iald C dX12_weigh_60 s_131 (gf_iload_n C dX12_weigh_61 rfl rfl ?_))))
      refine gf_jn (fun (j13 : Int32 → Hp → Option (Unit × Hp)) => ∀ (s11 : Int32) (h12 : Hp), GF K eV h12 72 [some (.ref 117), some (.int a1), some (.int a2), some (.int a3), some (.int a4), none, some (.int v3), some (.int v4)] [.int s11] (j13 s11 h12)) ?_ (fun j13 kj13 => ?_)
      · intro s11 h12
        refine gf_istore C dX12_weigh_72 [some (.ref 117), some (.int a1), some (.int a2), some (.int a3), some (.int a4), some (.int s11), some (.int v3), some (.int v4)] rfl rfl (Nat.le_of_ble_eq_true rfl) (gf_aload_n C dX12_weigh_74 rfl rfl (gf_getR C dX12_weigh_75 fl_X12_61 s_117 rfl 131 rfl (gf_iload C dX12_weigh_78 rfl (gf_iald C dX12_weigh_80 s_131 (gf_iload C dX12_weigh_81 rfl ?_)))))
        refine gf_jn (fun (j16 : Int32 → Hp → Option (Unit × Hp)) => ∀ (s14 : Int32) (h15 : Hp), GF K eV h15 93 [some (.ref 117), some (.int a1), some (.int a2), some (.int a3), some (.int a4), some (.int s11), none, some (.int v4)] [.int s14] (j16 s14 h15)) ?_ (fun j16 kj16 => ?_)
        · intro s14 h15
          refine gf_istore C dX12_weigh_93 [some (.ref 117), some (.int a1), some (.int a2), some (.int a3), some (.int a4), some (.int s11), some (.int s14), some (.int v4)] rfl rfl (Nat.le_of_ble_eq_true rfl) (gf_iinc C dX12_weigh_95 rfl (ii_1 _) [some (.ref 117), some (.int a1), some (.int a2), some (.int a3), some (.int a4), some (.int s11), some (.int s14), some (.int (v4 + (1 : Int32)))] rfl rfl ?_)
          refine gf_goto C 16 dX12_weigh_98 (by decide) ?_
          exact gf_sub [some (.ref 117), some (.int a1), some (.int a2), some (.int a3), some (.int a4), some (.int s11), some (.int s14), some (.int (v4 + (1 : Int32)))] (And.intro rfl (And.intro rfl (And.intro rfl (And.intro rfl (And.intro rfl (And.intro rfl (And.intro rfl (And.intro rfl trivial)))))))) (kc6 s11 s14 (v4 + (1 : Int32)) h15)
        refine gf_icmpne C 91 dX12_weigh_83 (by decide) (fun _ => ?_) (fun _ => ?_)
        · refine gf_iload C dX12_weigh_86 rfl ?_
          refine gf_goto C 93 dX12_weigh_88 (by decide) ?_
          exact gf_sub [some (.ref 117), some (.int a1), some (.int a2), some (.int a3), some (.int a4), some (.int s11), none, some (.int v4)] (And.intro rfl (And.intro rfl (And.intro rfl (And.intro rfl (And.intro rfl (And.intro rfl (And.intro rfl trivial))))))) (kj16 v4 h12)
        · refine gf_iload C dX12_weigh_91 rfl ?_
          exact gf_sub [some (.ref 117), some (.int a1), some (.int a2), some (.int a3), some (.int a4), some (.int s11), none, some (.int v4)] (And.intro rfl (And.intro rfl (And.intro rfl (And.intro rfl (And.intro rfl (And.intro rfl (And.intro rfl trivial))))))) (kj16 v3 h12)
      refine gf_icmpne C 70 dX12_weigh_62 (by decide) (fun _ => ?_) (fun _ => ?_)
      · refine gf_iload C dX12_weigh_65 rfl ?_
        refine gf_goto C 72 dX12_weigh_67 (by decide) ?_
        exact gf_sub [some (.ref 117), some (.int a1), some (.int a2), some (.int a3), some (.int a4), none, some (.int v3), some (.int v4)] (And.intro rfl (And.intro rfl (And.intro rfl (And.intro rfl (And.intro rfl (And.intro rfl (And.intro rfl trivial))))))) (kj13 v4 h10)
      · refine gf_iload C dX12_weigh_70 rfl ?_
        exact gf_sub [some (.ref 117), some (.int a1), some (.int a2), some (.int a3), some (.int a4), none, some (.int v3), some (.int v4)] (And.intro rfl (And.intro rfl (And.intro rfl (And.intro rfl (And.intro rfl (And.intro rfl (And.intro rfl trivial))))))) (kj13 v2 h10)
    refine gf_icmpne C 46 dX12_weigh_33 (by decide) (fun _ => ?_) (fun _ => ?_)
    · refine gf_aload_n C dX12_weigh_36 rfl rfl (gf_getR C dX12_weigh_37 fl_X12_61 s_117 rfl 131 rfl (gf_iload C dX12_weigh_40 rfl (gf_iald C dX12_weigh_42 s_131 ?_)))
      refine gf_goto C 53 dX12_weigh_43 (by decide) ?_
      exact gf_sub [some (.ref 117), some (.int a1), some (.int a2), some (.int a3), some (.int a4), some (.int v2), some (.int v3), some (.int v4)] (And.intro rfl (And.intro rfl (And.intro rfl (And.intro rfl (And.intro rfl (And.intro rfl (And.intro rfl (And.intro rfl trivial)))))))) (kj9 (aG h5 131 v4.toNatClampNeg) h5)
    · refine gf_aload_n C dX12_weigh_46 rfl rfl (gf_getR C dX12_weigh_47 fl_X12_79 s_117 rfl 137 rfl (gf_iload C dX12_weigh_50 rfl (gf_iald C dX12_weigh_52 s_137 ?_)))
      exact gf_sub [some (.ref 117), some (.int a1), some (.int a2), some (.int a3), some (.int a4), some (.int v2), some (.int v3), some (.int v4)] (And.intro rfl (And.intro rfl (And.intro rfl (And.intro rfl (And.intro rfl (And.intro rfl (And.intro rfl (And.intro rfl trivial)))))))) (kj9 (aG h5 137 v4.toNatClampNeg) h5)
  · refine gf_aload_n C dX12_weigh_101 rfl rfl (gf_dup C dX12_weigh_102 rfl (gf_getI C dX12_weigh_103 fl_X12_240 s_117 rfl 7527 rfl (gf_iload C dX12_weigh_106 rfl (gf_iload C dX12_weigh_108 rfl ?_))))
    refine gf_jn (fun (j19 : Int32 → Hp → Option (Unit × Hp)) => ∀ (s17 : Int32) (h18 : Hp), GF K eV h18 118 [some (.ref 117), none, none, none, none, none, none, none] [.int s17, .int (sG h5 7527), .ref 117] (j19 s17 h18)) ?_ (fun j19 kj19 => ?_)
    · intro s17 h18
      refine gf_iadd C dX12_weigh_118 (gf_putI C dX12_weigh_119 fp_X12_240 s_117 rfl 7527 rfl ?_)
      refine gf_jlH (fun h20 => ?_)
      refine gf_aload_n C dX12_weigh_122 rfl rfl (gf_dup C dX12_weigh_123 rfl (gf_getI C dX12_weigh_124 fl_X12_234 s_117 rfl 7522 rfl (gf_iconst C dX12_weigh_127 ki_1 (gf_iadd C dX12_weigh_128 (gf_putI C dX12_weigh_129 fp_X12_234 s_117 rfl 7522 rfl ?_)))))
      refine gf_jlH (fun h21 => ?_)
      exact gf_vret C dX12_weigh_132 rfl
    refine gf_icmpge C 117 dX12_weigh_110 (by decide) (fun _ => ?_) (fun _ => ?_)
    · refine gf_iconst C dX12_weigh_113 ki_1 ?_
      refine gf_goto C 118 dX12_weigh_114 (by decide) ?_
      exact gf_sub [some (.ref 117), none, none, none, none, none, none, none] (And.intro rfl trivial) (kj19 (1 : Int32) h5)
    · refine gf_iconst C dX12_weigh_117 ki_0 ?_
      exact gf_sub [some (.ref 117), none, none, none, none, none, none, none] (And.intro rfl trivial) (kj19 (0 : Int32) h5)
def F_X12_layOrders (a1 : Int32) (a2 : Int32) (a3 : Int32) (a4 : Int32) (a5 : Int32) (h : Hp) : Option (Int32 × Hp) :=
  bd (F_X12_layAll h) (fun _ h1 => jl (sS h1 7522 (0 : Int32)) (fun h2 => jl (sS h2 7527 (0 : Int32)) (fun h3 => (lp 4000000000 (fun (c6 : Int32 → Hp → Option (Int32 × Hp)) (v4 : Int32) (h5 : Hp) =>
  if v4 < (7 : Int32) then (
  gd (inb v4 7) ( jl (lS h5 134 v4.toNatClampNeg (0 : Int64)) (fun h7 => c6 (v4 + (1 : Int32)) h7))) else (
  (lp 4000000000 (fun (c11 : Int32 → Int32 → Hp → Option (Int32 × Hp)) (v8 : Int32) (v9 : Int32) (h10 : Hp) =>
  if v9 < (sG h10 7504) then (
  jl (v8 + ((a1 >>> (v9 &&& 31)) &&& (1 : Int32))) (fun x12 => c11 x12 (v9 + (1 : Int32)) h10)) else (
  if v8 = 0 then (
  jl (sS h10 7522 (1 : Int32)) (fun h13 => some (sG h13 7522, h13))) else (
  gd (inb (0 : Int32) 8) ( jl (aS h10 131 (0 : Int32).toNatClampNeg (-1 : Int32)) (fun h14 => (lp 4000000000 (fun (c18 : Int32 → Int32 → Hp → Option (Int32 × Hp)) (v15 : Int32) (v16 : Int32) (h17 : Hp) =>
  jn (fun (h19 : Hp) =>
  some (sG h19 7522, h19)) (fun j20 => if v15 < 0 then (
  j20 h17) else (
  if (sG h17 7522) < a2 then (
  gd (inb v15 8) ( jn (fun (s21 : Int32) (h22 : Hp) =>
  gd (inb v15 8) ( gd (inb v15 8) ( jl (aS h22 131 v15.toNatClampNeg ((aG h22 131 v15.toNatClampNeg) + (1 : Int32))) (fun h24 => (lp 4000000000 (fun (c26 : Hp → Option (Int32 × Hp))  (h25 : Hp) =>
  gd (inb v15 8) ( jn (fun (h27 : Hp) =>
  gd (inb v15 8) ( if (aG h27 131 v15.toNatClampNeg) = (sG h27 7504) then (
  c18 (v15 + (-1 : Int32)) s21 h27) else (
  bd (F_X12_isLast (v15 + (1 : Int32)) h27) (fun r29 h30 => if r29 = 0 then (
  c18 v15 s21 h30) else (
  bd (F_X12_isGiven (v15 + (1 : Int32)) h30) (fun r31 h32 => if r31 = 0 then (
  c18 v15 s21 h32) else (
  gd (inb v15 8) ( jl (s21 ||| ((1 : Int32) <<< ((aG h32 131 v15.toNatClampNeg) &&& 31))) (fun x33 => if (v15 + (1 : Int32)) = v8 then (
  bd (F_X12_weigh v8 a3 a4 a5 h32) (fun _ h34 => c18 v15 x33 h34)) else (
  gd (inb (v15 + (1 : Int32)) 8) ( jl (aS h32 131 (v15 + (1 : Int32)).toNatClampNeg (-1 : Int32)) (fun h35 => c18 (v15 + (1 : Int32)) x33 h35)))))))))))) (fun j28 => if (aG h25 131 v15.toNatClampNeg) < (sG h25 7504) then (
  gd (inb v15 8) ( gd (inb v15 8) ( if (((s21 >>> ((aG h25 131 v15.toNatClampNeg) &&& 31)) &&& (1 : Int32)) ||| (((a1 ^^^ (-1 : Int32)) >>> ((aG h25 131 v15.toNatClampNeg) &&& 31)) &&& (1 : Int32))) = (1 : Int32) then (
  gd (inb v15 8) ( gd (inb v15 8) ( jl (aS h25 131 v15.toNatClampNeg ((aG h25 131 v15.toNatClampNeg) + (1 : Int32))) (fun h36 => c26 h36)))) else (
  j28 h25)))) else (
  j28 h25)))) (fun _ => none))  h24)))) (fun j23 => if (aG h17 131 v15.toNatClampNeg) = (-1 : Int32) then (
  j23 v16 h17) else (
  gd (inb v15 8) ( j23 (v16 &&& (((1 : Int32) <<< ((aG h17 131 v15.toNatClampNeg) &&& 31)) ^^^ (-1 : Int32))) h17))))) else (
  j20 h17)))) (fun _ _ _ => none)) (0 : Int32) (0 : Int32) h14))))) (fun _ _ _ => none)) (0 : Int32) (0 : Int32) h5)) (fun _ _ => none)) (0 : Int32) h3)))
set_option maxRecDepth 100000 in
set_option maxHeartbeats 4000000 in
theorem ok_X12_layOrders (a1 : Int32) (a2 : Int32) (a3 : Int32) (a4 : Int32) (a5 : Int32) (h : Hp) (rZ : Int32) (hZ : Hp) (eZ : F_X12_layOrders a1 a2 a3 a4 a5 h = some (rZ, hZ)) : AC yX12_layOrders cX12_layOrders 9 (some .int) 5 112 [.ref 117, .int a1, .int a2, .int a3, .int a4, .int a5] h (eI rZ) hZ := by
  refine AC_intro (o := F_X12_layOrders a1 a2 a3 a4 a5 h) RX12 rfl (plainFor_of_name (by decide)) [some (.ref 117), some (.int a1), some (.int a2), some (.int a3), some (.int a4), some (.int a5), none, none, none] rfl (fun _ => rfl) (fun _ => Nat.le_of_ble_eq_true rfl) eZ (fun K C => ?_)
  unfold F_X12_layOrders
  refine gf_aload_n C dX12_layOrders_0 rfl rfl ?_
  refine gf_callV (ε2 := eV) C [] dX12_layOrders_1 mw_X12_layAll ml_X12_237 s_117 (fun rZ hZ eZ => ok_X12_layAll  h rZ hZ eZ) rfl rfl rfl (Nat.le_of_ble_eq_true rfl) (Nat.le_of_ble_eq_true rfl) (Nat.le_of_ble_eq_true rfl) (fun _ h1 => ?_)
  refine gf_aload_n C dX12_layOrders_4 rfl rfl (gf_iconst C dX12_layOrders_5 ki_0 (gf_putI C dX12_layOrders_6 fp_X12_234 s_117 rfl 7522 rfl ?_))
  refine gf_jlH (fun h2 => ?_)
  refine gf_aload_n C dX12_layOrders_9 rfl rfl (gf_iconst C dX12_layOrders_10 ki_0 (gf_putI C dX12_layOrders_11 fp_X12_240 s_117 rfl 7527 rfl ?_))
  refine gf_jlH (fun h3 => ?_)
  refine gf_iconst C dX12_layOrders_14 ki_0 (gf_istore C dX12_layOrders_15 [some (.ref 117), some (.int a1), some (.int a2), some (.int a3), some (.int a4), some (.int a5), some (.int (0 : Int32)), none, none] rfl rfl (Nat.le_of_ble_eq_true rfl) ?_)
  refine gf_sub [some (.ref 117), some (.int a1), some (.int a2), some (.int a3), some (.int a4), some (.int a5), some (.int (0 : Int32)), none, none] (And.intro rfl (And.intro rfl (And.intro rfl (And.intro rfl (And.intro rfl (And.intro rfl (And.intro rfl trivial))))))) ?_
  refine lp_P (fun (c6 : Int32 → Hp → Option (Int32 × Hp)) => ∀ (v4 : Int32) (h5 : Hp), GF K eI h5 17 [some (.ref 117), some (.int a1), some (.int a2), some (.int a3), some (.int a4), some (.int a5), some (.int v4), none, none] [] (c6 v4 h5)) (fun _ _ => gf_none) (fun c6 kc6 v4 h5 => ?_) (0 : Int32) h3
  refine gf_iload C dX12_layOrders_17 rfl (gf_bipush C dX12_layOrders_19 kb_7 ?_)
  refine gf_icmpge C 38 dX12_layOrders_21 (by decide) (fun _ => ?_) (fun _ => ?_)
  · refine gf_aload_n C dX12_layOrders_24 rfl rfl (gf_getR C dX12_layOrders_25 fl_X12_70 s_117 rfl 134 rfl (gf_iload C dX12_layOrders_28 rfl (gf_lconst C dX12_layOrders_30 kl_0 (gf_last C dX12_layOrders_31 s_134 ?_))))
    refine gf_jlH (fun h7 => ?_)
    refine gf_iinc C dX12_layOrders_32 rfl (ii_1 _) [some (.ref 117), some (.int a1), some (.int a2), some (.int a3), some (.int a4), some (.int a5), some (.int (v4 + (1 : Int32))), none, none] rfl rfl ?_
    refine gf_goto C 17 dX12_layOrders_35 (by decide) ?_
    exact gf_sub [some (.ref 117), some (.int a1), some (.int a2), some (.int a3), some (.int a4), some (.int a5), some (.int (v4 + (1 : Int32))), none, none] (And.intro rfl (And.intro rfl (And.intro rfl (And.intro rfl (And.intro rfl (And.intro rfl (And.intro rfl trivial))))))) (kc6 (v4 + (1 : Int32)) h7)
  · refine gf_iconst C dX12_layOrders_38 ki_0 (gf_istore C dX12_layOrders_39 [some (.ref 117), some (.int a1), some (.int a2), some (.int a3), some (.int a4), some (.int a5), some (.int (0 : Int32)), none, none] rfl rfl (Nat.le_of_ble_eq_true rfl) (gf_iconst C dX12_layOrders_41 ki_0 (gf_istore C dX12_layOrders_42 [some (.ref 117), some (.int a1), some (.int a2), some (.int a3), some (.int a4), some (.int a5), some (.int (0 : Int32)), some (.int (0 : Int32)), none] rfl rfl (Nat.le_of_ble_eq_true rfl) (gf_iconst C dX12_layOrders_44 ki_0 (gf_istore C dX12_layOrders_45 [some (.ref 117), some (.int a1), some (.int a2), some (.int a3), some (.int a4), some (.int a5), some (.int (0 : Int32)), some (.int (0 : Int32)), some (.int (0 : Int32))] rfl rfl (Nat.le_of_ble_eq_true rfl) ?_)))))
    refine gf_sub [some (.ref 117), some (.int a1), some (.int a2), some (.int a3), some (.int a4), some (.int a5), some (.int (0 : Int32)), some (.int (0 : Int32)), some (.int (0 : Int32))] (And.intro rfl (And.intro rfl (And.intro rfl (And.intro rfl (And.intro rfl (And.intro rfl (And.intro rfl (And.intro rfl (And.intro rfl trivial))))))))) ?_
    refine lp_P (fun (c11 : Int32 → Int32 → Hp → Option (Int32 × Hp)) => ∀ (v8 : Int32) (v9 : Int32) (h10 : Hp), GF K eI h10 47 [some (.ref 117), some (.int a1), some (.int a2), some (.int a3), some (.int a4), some (.int a5), some (.int (0 : Int32)), some (.int v8), some (.int v9)] [] (c11 v8 v9 h10)) (fun _ _ _ => gf_none) (fun c11 kc11 v8 v9 h10 => ?_) (0 : Int32) (0 : Int32) h5
    refine gf_iload C dX12_layOrders_47 rfl (gf_aload_n C dX12_layOrders_49 rfl rfl (gf_getI C dX12_layOrders_50 fl_X12_166 s_117 rfl 7504 rfl ?_))
    refine gf_icmpge C 73 dX12_layOrders_53 (by decide) (fun _ => ?_) (fun _ => ?_)
    · refine gf_iload C dX12_layOrders_56 rfl (gf_iload_n C dX12_layOrders_58 rfl rfl (gf_iload C dX12_layOrders_59 rfl (gf_ishr C dX12_layOrders_61 (gf_iconst C dX12_layOrders_62 ki_1 (gf_iand C dX12_layOrders_63 (gf_iadd C dX12_layOrders_64 ?_))))))
      refine gf_jlI (fun x12 => ?_)
      refine gf_istore C dX12_layOrders_65 [some (.ref 117), some (.int a1), some (.int a2), some (.int a3), some (.int a4), some (.int a5), some (.int (0 : Int32)), some (.int x12), some (.int v9)] rfl rfl (Nat.le_of_ble_eq_true rfl) (gf_iinc C dX12_layOrders_67 rfl (ii_1 _) [some (.ref 117), some (.int a1), some (.int a2), some (.int a3), some (.int a4), some (.int a5), some (.int (0 : Int32)), some (.int x12), some (.int (v9 + (1 : Int32)))] rfl rfl ?_)
      refine gf_goto C 47 dX12_layOrders_70 (by decide) ?_
      exact gf_sub [some (.ref 117), some (.int a1), some (.int a2), some (.int a3), some (.int a4), some (.int a5), some (.int (0 : Int32)), some (.int x12), some (.int (v9 + (1 : Int32)))] (And.intro rfl (And.intro rfl (And.intro rfl (And.intro rfl (And.intro rfl (And.intro rfl (And.intro rfl (And.intro rfl (And.intro rfl trivial))))))))) (kc11 x12 (v9 + (1 : Int32)) h10)
    · refine gf_iload C dX12_layOrders_73 rfl ?_
      refine gf_ifne C 88 dX12_layOrders_75 (by decide) (fun _ => ?_) (fun _ => ?_)
      · refine gf_aload_n C dX12_layOrders_78 rfl rfl (gf_iconst C dX12_layOrders_79 ki_1 (gf_putI C dX12_layOrders_80 fp_X12_234 s_117 rfl 7522 rfl ?_))
        refine gf_jlH (fun h13 => ?_)
        refine gf_aload_n C dX12_layOrders_83 rfl rfl (gf_getI C dX12_layOrders_84 fl_X12_234 s_117 rfl 7522 rfl ?_)
        exact gf_iret C dX12_layOrders_87 rfl
      · refine gf_iconst C dX12_layOrders_88 ki_0 (gf_istore C dX12_layOrders_89 [some (.ref 117), some (.int a1), some (.int a2), some (.int a3), some (.int a4), some (.int a5), some (.int (0 : Int32)), some (.int v8), some (.int (0 : Int32))] rfl rfl (Nat.le_of_ble_eq_true rfl) (gf_aload_n C dX12_layOrders_91 rfl rfl (gf_getR C dX12_layOrders_92 fl_X12_61 s_117 rfl 131 rfl (gf_iconst C dX12_layOrders_95 ki_0 (gf_iconst C dX12_layOrders_96 ki_m1 (gf_iast C dX12_layOrders_97 s_131 ?_))))))
        refine gf_jlH (fun h14 => ?_)
        refine gf_sub [some (.ref 117), some (.int a1), some (.int a2), some (.int a3), some (.int a4), some (.int a5), some (.int (0 : Int32)), some (.int v8), some (.int (0 : Int32))] (And.intro rfl (And.intro rfl (And.intro rfl (And.intro rfl (And.intro rfl (And.intro rfl (And.intro rfl (And.intro rfl (And.intro rfl trivial))))))))) ?_
        refine lp_P (fun (c18 : Int32 → Int32 → Hp → Option (Int32 × Hp)) => ∀ (v15 : Int32) (v16 : Int32) (h17 : Hp), GF K eI h17 98 [some (.ref 117), some (.int a1), some (.int a2), some (.int a3), some (.int a4), some (.int a5), some (.int v15), some (.int v8), some (.int v16)] [] (c18 v15 v16 h17)) (fun _ _ _ => gf_none) (fun c18 kc18 v15 v16 h17 => ?_) (0 : Int32) (0 : Int32) h14
        refine gf_iload C dX12_layOrders_98 rfl ?_
        refine gf_jn (fun (j20 : Hp → Option (Int32 × Hp)) => ∀ (h19 : Hp), GF K eI h19 305 [some (.ref 117), none, none, none, none, none, none, none, none] [] (j20 h19)) ?_ (fun j20 kj20 => ?_)
        · intro h19
          refine gf_aload_n C dX12_layOrders_305 rfl rfl (gf_getI C dX12_layOrders_306 fl_X12_234 s_117 rfl 7522 rfl ?_)
          exact gf_iret C dX12_layOrders_309 rfl
        refine gf_iflt C 305 dX12_layOrders_100 (by decide) (fun _ => ?_) (fun _ => ?_)
        · exact gf_sub [some (.ref 117), none, none, none, none, none, none, none, none] (And.intro rfl trivial) (kj20 h17)
        · refine gf_aload_n C dX12_layOrders_103 rfl rfl (gf_getI C dX12_layOrders_104 fl_X12_234 s_117 rfl 7522 rfl (gf_iload_n C dX12_layOrders_107 rfl rfl ?_))
          refine gf_icmpge C 305 dX12_layOrders_108 (by decide) (fun _ => ?_) (fun _ => ?_)
          · refine gf_aload_n C dX12_layOrders_111 rfl rfl (gf_getR C dX12_layOrders_112 fl_X12_61 s_117 rfl 131 rfl (gf_iload C dX12_layOrders_115 rfl (gf_iald C dX12_layOrders_117 s_131 (gf_iconst C dX12_layOrders_118 ki_m1 ?_))))
            refine gf_jn (fun (j23 : Int32 → Hp → Option (Int32 × Hp)) => ∀ (s21 : Int32) (h22 : Hp), GF K eI h22 141 [some (.ref 117), some (.int a1), some (.int a2), some (.int a3), some (.int a4), some (.int a5), some (.int v15), some (.int v8), none] [.int s21] (j23 s21 h22)) ?_ (fun j23 kj23 => ?_)
            · intro s21 h22
              refine gf_istore C dX12_layOrders_141 [some (.ref 117), some (.int a1), some (.int a2), some (.int a3), some (.int a4), some (.int a5), some (.int v15), some (.int v8), some (.int s21)] rfl rfl (Nat.le_of_ble_eq_true rfl) (gf_aload_n C dX12_layOrders_143 rfl rfl (gf_getR C dX12_layOrders_144 fl_X12_61 s_117 rfl 131 rfl (gf_iload C dX12_layOrders_147 rfl (gf_dup2 C dX12_layOrders_149 rfl rfl (gf_iald C dX12_layOrders_150 s_131 (gf_iconst C dX12_layOrders_151 ki_1 (gf_iadd C dX12_layOrders_152 ?_)))))))
              refine gf_iast C dX12_layOrders_153 s_131 ?_
              refine gf_jlH (fun h24 => ?_)
              refine gf_sub [some (.ref 117), some (.int a1), some (.int a2), some (.int a3), some (.int a4), some (.int a5), some (.int v15), some (.int v8), some (.int s21)] (And.intro rfl (And.intro rfl (And.intro rfl (And.intro rfl (And.intro rfl (And.intro rfl (And.intro rfl (And.intro rfl (And.intro rfl trivial))))))))) ?_
              refine lp_P (fun (c26 : Hp → Option (Int32 × Hp)) => ∀  (h25 : Hp), GF K eI h25 154 [some (.ref 117), some (.int a1), some (.int a2), some (.int a3), some (.int a4), some (.int a5), some (.int v15), some (.int v8), some (.int s21)] [] (c26  h25)) (fun _ => gf_none) (fun c26 kc26  h25 => ?_)  h24
              refine gf_aload_n C dX12_layOrders_154 rfl rfl (gf_getR C dX12_layOrders_155 fl_X12_61 s_117 rfl 131 rfl (gf_iload C dX12_layOrders_158 rfl (gf_iald C dX12_layOrders_160 s_131 (gf_aload_n C dX12_layOrders_161 rfl rfl (gf_getI C dX12_layOrders_162 fl_X12_166 s_117 rfl 7504 rfl ?_)))))
              refine gf_jn (fun (j28 : Hp → Option (Int32 × Hp)) => ∀ (h27 : Hp), GF K eI h27 212 [some (.ref 117), some (.int a1), some (.int a2), some (.int a3), some (.int a4), some (.int a5), some (.int v15), some (.int v8), some (.int s21)] [] (j28 h27)) ?_ (fun j28 kj28 => ?_)
              · intro h27
                refine gf_aload_n C dX12_layOrders_212 rfl rfl (gf_getR C dX12_layOrders_213 fl_X12_61 s_117 rfl 131 rfl (gf_iload C dX12_layOrders_216 rfl (gf_iald C dX12_layOrders_218 s_131 (gf_aload_n C dX12_layOrders_219 rfl rfl (gf_getI C dX12_layOrders_220 fl_X12_166 s_117 rfl 7504 rfl ?_)))))
                refine gf_icmpne C 232 dX12_layOrders_223 (by decide) (fun _ => ?_) (fun _ => ?_)
                · refine gf_iinc C dX12_layOrders_226 rfl (ii_m1 _) [some (.ref 117), some (.int a1), some (.int a2), some (.int a3), some (.int a4), some (.int a5), some (.int (v15 + (-1 : Int32))), some (.int v8), some (.int s21)] rfl rfl ?_
                  refine gf_goto C 98 dX12_layOrders_229 (by decide) ?_
                  exact gf_sub [some (.ref 117), some (.int a1), some (.int a2), some (.int a3), some (.int a4), some (.int a5), some (.int (v15 + (-1 : Int32))), some (.int v8), some (.int s21)] (And.intro rfl (And.intro rfl (And.intro rfl (And.intro rfl (And.intro rfl (And.intro rfl (And.intro rfl (And.intro rfl (And.intro rfl trivial))))))))) (kc18 (v15 + (-1 : Int32)) s21 h27)
                · refine gf_aload_n C dX12_layOrders_232 rfl rfl (gf_iload C dX12_layOrders_233 rfl (gf_iconst C dX12_layOrders_235 ki_1 (gf_iadd C dX12_layOrders_236 ?_)))
                  refine gf_callV (ε2 := eI) C [.int (v15 + (1 : Int32))] dX12_layOrders_237 mw_X12_isLast ml_X12_243 s_117 (fun rZ hZ eZ => ok_X12_isLast (v15 + (1 : Int32)) h27 rZ hZ eZ) rfl rfl rfl (Nat.le_of_ble_eq_true rfl) (Nat.le_of_ble_eq_true rfl) (Nat.le_of_ble_eq_true rfl) (fun r29 h30 => ?_)
                  refine gf_ifeq C 98 dX12_layOrders_240 (by decide) (fun _ => ?_) (fun _ => ?_)
                  · exact gf_sub [some (.ref 117), some (.int a1), some (.int a2), some (.int a3), some (.int a4), some (.int a5), some (.int v15), some (.int v8), some (.int s21)] (And.intro rfl (And.intro rfl (And.intro rfl (And.intro rfl (And.intro rfl (And.intro rfl (And.intro rfl (And.intro rfl (And.intro rfl trivial))))))))) (kc18 v15 s21 h30)
                  · refine gf_aload_n C dX12_layOrders_243 rfl rfl (gf_iload C dX12_layOrders_244 rfl (gf_iconst C dX12_layOrders_246 ki_1 (gf_iadd C dX12_layOrders_247 ?_)))
                    refine gf_callV (ε2 := eI) C [.int (v15 + (1 : Int32))] dX12_layOrders_248 mw_X12_isGiven ml_X12_246 s_117 (fun rZ hZ eZ => ok_X12_isGiven (v15 + (1 : Int32)) h30 rZ hZ eZ) rfl rfl rfl (Nat.le_of_ble_eq_true rfl) (Nat.le_of_ble_eq_true rfl) (Nat.le_of_ble_eq_true rfl) (fun r31 h32 => ?_)
                    refine gf_ifeq C 98 dX12_layOrders_251 (by decide) (fun _ => ?_) (fun _ => ?_)
                    · exact gf_sub [some (.ref 117), some (.int a1), some (.int a2), some (.int a3), some (.int a4), some (.int a5), some (.int v15), some (.int v8), some (.int s21)] (And.intro rfl (And.intro rfl (And.intro rfl (And.intro rfl (And.intro rfl (And.intro rfl (And.intro rfl (And.intro rfl (And.intro rfl trivial))))))))) (kc18 v15 s21 h32)
                    · refine gf_iload C dX12_layOrders_254 rfl (gf_iconst C dX12_layOrders_256 ki_1 (gf_aload_n C dX12_layOrders_257 rfl rfl (gf_getR C dX12_layOrders_258 fl_X12_61 s_117 rfl 131 rfl (gf_iload C dX12_layOrders_261 rfl (gf_iald C dX12_layOrders_263 s_131 (gf_ishl C dX12_layOrders_264 (gf_ior C dX12_layOrders_265 ?_)))))))
                      refine gf_jlI (fun x33 => ?_)
                      refine gf_istore C dX12_layOrders_266 [some (.ref 117), some (.int a1), some (.int a2), some (.int a3), some (.int a4), some (.int a5), some (.int v15), some (.int v8), some (.int x33)] rfl rfl (Nat.le_of_ble_eq_true rfl) (gf_iload C dX12_layOrders_268 rfl (gf_iconst C dX12_layOrders_270 ki_1 (gf_iadd C dX12_layOrders_271 (gf_iload C dX12_layOrders_272 rfl ?_))))
                      refine gf_icmpne C 291 dX12_layOrders_274 (by decide) (fun _ => ?_) (fun _ => ?_)
                      · refine gf_aload_n C dX12_layOrders_277 rfl rfl (gf_iload C dX12_layOrders_278 rfl (gf_iload_n C dX12_layOrders_280 rfl rfl (gf_iload C dX12_layOrders_281 rfl (gf_iload C dX12_layOrders_283 rfl ?_))))
                        refine gf_callV (ε2 := eV) C [.int v8, .int a3, .int a4, .int a5] dX12_layOrders_285 mw_X12_weigh ml_X12_249 s_117 (fun rZ hZ eZ => ok_X12_weigh v8 a3 a4 a5 h32 rZ hZ eZ) rfl rfl rfl (Nat.le_of_ble_eq_true rfl) (Nat.le_of_ble_eq_true rfl) (Nat.le_of_ble_eq_true rfl) (fun _ h34 => ?_)
                        refine gf_goto C 98 dX12_layOrders_288 (by decide) ?_
                        exact gf_sub [some (.ref 117), some (.int a1), some (.int a2), some (.int a3), some (.int a4), some (.int a5), some (.int v15), some (.int v8), some (.int x33)] (And.intro rfl (And.intro rfl (And.intro rfl (And.intro rfl (And.intro rfl (And.intro rfl (And.intro rfl (And.intro rfl (And.intro rfl trivial))))))))) (kc18 v15 x33 h34)
                      · refine gf_iinc C dX12_layOrders_291 rfl (ii_1 _) [some (.ref 117), some (.int a1), some (.int a2), some (.int a3), some (.int a4), some (.int a5), some (.int (v15 + (1 : Int32))), some (.int v8), some (.int x33)] rfl rfl (gf_aload_n C dX12_layOrders_294 rfl rfl (gf_getR C dX12_layOrders_295 fl_X12_61 s_117 rfl 131 rfl (gf_iload C dX12_layOrders_298 rfl (gf_iconst C dX12_layOrders_300 ki_m1 (gf_iast C dX12_layOrders_301 s_131 ?_)))))
                        refine gf_jlH (fun h35 => ?_)
                        refine gf_goto C 98 dX12_layOrders_302 (by decide) ?_
                        exact gf_sub [some (.ref 117), some (.int a1), some (.int a2), some (.int a3), some (.int a4), some (.int a5), some (.int (v15 + (1 : Int32))), some (.int v8), some (.int x33)] (And.intro rfl (And.intro rfl (And.intro rfl (And.intro rfl (And.intro rfl (And.intro rfl (And.intro rfl (And.intro rfl (And.intro rfl trivial))))))))) (kc18 (v15 + (1 : Int32)) x33 h35)
              refine gf_icmpge C 212 dX12_layOrders_165 (by decide) (fun _ => ?_) (fun _ => ?_)
              · refine gf_iload C dX12_layOrders_168 rfl (gf_aload_n C dX12_layOrders_170 rfl rfl (gf_getR C dX12_layOrders_171 fl_X12_61 s_117 rfl 131 rfl (gf_iload C dX12_layOrders_174 rfl (gf_iald C dX12_layOrders_176 s_131 (gf_ishr C dX12_layOrders_177 (gf_iconst C dX12_layOrders_178 ki_1 (gf_iand C dX12_layOrders_179 ?_)))))))
                refine gf_iload_n C dX12_layOrders_180 rfl rfl (gf_iconst C dX12_layOrders_181 ki_m1 (gf_ixor C dX12_layOrders_182 (gf_aload_n C dX12_layOrders_183 rfl rfl (gf_getR C dX12_layOrders_184 fl_X12_61 s_117 rfl 131 rfl (gf_iload C dX12_layOrders_187 rfl (gf_iald C dX12_layOrders_189 s_131 (gf_ishr C dX12_layOrders_190 ?_)))))))
                refine gf_iconst C dX12_layOrders_191 ki_1 (gf_iand C dX12_layOrders_192 (gf_ior C dX12_layOrders_193 (gf_iconst C dX12_layOrders_194 ki_1 ?_)))
                refine gf_icmpne C 212 dX12_layOrders_195 (by decide) (fun _ => ?_) (fun _ => ?_)
                · refine gf_aload_n C dX12_layOrders_198 rfl rfl (gf_getR C dX12_layOrders_199 fl_X12_61 s_117 rfl 131 rfl (gf_iload C dX12_layOrders_202 rfl (gf_dup2 C dX12_layOrders_204 rfl rfl (gf_iald C dX12_layOrders_205 s_131 (gf_iconst C dX12_layOrders_206 ki_1 (gf_iadd C dX12_layOrders_207 (gf_iast C dX12_layOrders_208 s_131 ?_)))))))
                  refine gf_jlH (fun h36 => ?_)
                  refine gf_goto C 154 dX12_layOrders_209 (by decide) ?_
                  exact gf_sub [some (.ref 117), some (.int a1), some (.int a2), some (.int a3), some (.int a4), some (.int a5), some (.int v15), some (.int v8), some (.int s21)] (And.intro rfl (And.intro rfl (And.intro rfl (And.intro rfl (And.intro rfl (And.intro rfl (And.intro rfl (And.intro rfl (And.intro rfl trivial))))))))) (kc26 h36)
                · exact gf_sub [some (.ref 117), some (.int a1), some (.int a2), some (.int a3), some (.int a4), some (.int a5), some (.int v15), some (.int v8), some (.int s21)] (And.intro rfl (And.intro rfl (And.intro rfl (And.intro rfl (And.intro rfl (And.intro rfl (And.intro rfl (And.intro rfl (And.intro rfl trivial))))))))) (kj28 h25)
              · exact gf_sub [some (.ref 117), some (.int a1), some (.int a2), some (.int a3), some (.int a4), some (.int a5), some (.int v15), some (.int v8), some (.int s21)] (And.intro rfl (And.intro rfl (And.intro rfl (And.intro rfl (And.intro rfl (And.intro rfl (And.intro rfl (And.intro rfl (And.intro rfl trivial))))))))) (kj28 h25)
            refine gf_icmpne C 127 dX12_layOrders_119 (by decide) (fun _ => ?_) (fun _ => ?_)
            · refine gf_iload C dX12_layOrders_122 rfl ?_
              refine gf_goto C 141 dX12_layOrders_124 (by decide) ?_
              exact gf_sub [some (.ref 117), some (.int a1), some (.int a2), some (.int a3), some (.int a4), some (.int a5), some (.int v15), some (.int v8), none] (And.intro rfl (And.intro rfl (And.intro rfl (And.intro rfl (And.intro rfl (And.intro rfl (And.intro rfl (And.intro rfl trivial)))))))) (kj23 v16 h17)
            · refine gf_iload C dX12_layOrders_127 rfl (gf_iconst C dX12_layOrders_129 ki_1 (gf_aload_n C dX12_layOrders_130 rfl rfl (gf_getR C dX12_layOrders_131 fl_X12_61 s_117 rfl 131 rfl (gf_iload C dX12_layOrders_134 rfl (gf_iald C dX12_layOrders_136 s_131 (gf_ishl C dX12_layOrders_137 (gf_iconst C dX12_layOrders_138 ki_m1 ?_)))))))
              refine gf_ixor C dX12_layOrders_139 (gf_iand C dX12_layOrders_140 ?_)
              exact gf_sub [some (.ref 117), some (.int a1), some (.int a2), some (.int a3), some (.int a4), some (.int a5), some (.int v15), some (.int v8), none] (And.intro rfl (And.intro rfl (And.intro rfl (And.intro rfl (And.intro rfl (And.intro rfl (And.intro rfl (And.intro rfl trivial)))))))) (kj23 (v16 &&& (((1 : Int32) <<< ((aG h17 131 v15.toNatClampNeg) &&& 31)) ^^^ (-1 : Int32))) h17)
          · exact gf_sub [some (.ref 117), none, none, none, none, none, none, none, none] (And.intro rfl trivial) (kj20 h17)
def F_X12_whole (h : Hp) : Option (Int32 × Hp) :=
  some (((1 : Int32) <<< ((sG h 7504) &&& 31)) - (1 : Int32), h)
set_option maxRecDepth 100000 in
set_option maxHeartbeats 4000000 in
theorem ok_X12_whole (h : Hp) (rZ : Int32) (hZ : Hp) (eZ : F_X12_whole h = some (rZ, hZ)) : AC yX12_whole cX12_whole 1 (some .int) 0 0 [.ref 117] h (eI rZ) hZ := by
  refine AC_intro (o := F_X12_whole h) RX12 rfl (plainFor_of_name (by decide)) [some (.ref 117)] rfl (fun _ => rfl) (fun _ => Nat.le_of_ble_eq_true rfl) eZ (fun K C => ?_)
  unfold F_X12_whole
  refine gf_iconst C dX12_whole_0 ki_1 (gf_aload_n C dX12_whole_1 rfl rfl (gf_getI C dX12_whole_2 fl_X12_166 s_117 rfl 7504 rfl (gf_ishl C dX12_whole_5 (gf_iconst C dX12_whole_6 ki_1 (gf_isub C dX12_whole_7 ?_)))))
  exact gf_iret C dX12_whole_8 rfl
def F_X12_many (h : Hp) : Option (Int32 × Hp) :=
  bd (F_X12_whole h) (fun r1 h2 => bd (F_X12_layOrders r1 (9999 : Int32) (-1 : Int32) (-1 : Int32) (-1 : Int32) h2) (fun r3 h4 => some (r3, h4)))
set_option maxRecDepth 100000 in
set_option maxHeartbeats 4000000 in
theorem ok_X12_many (h : Hp) (rZ : Int32) (hZ : Hp) (eZ : F_X12_many h = some (rZ, hZ)) : AC yX12_many cX12_many 1 (some .int) 6 140 [.ref 117] h (eI rZ) hZ := by
  refine AC_intro (o := F_X12_many h) RX12 rfl (plainFor_of_name (by decide)) [some (.ref 117)] rfl (fun _ => rfl) (fun _ => Nat.le_of_ble_eq_true rfl) eZ (fun K C => ?_)
  unfold F_X12_many
  refine gf_aload_n C dX12_many_0 rfl rfl (gf_aload_n C dX12_many_1 rfl rfl ?_)
  refine gf_callV (ε2 := eI) C [] dX12_many_2 mw_X12_whole ml_X12_255 s_117 (fun rZ hZ eZ => ok_X12_whole  h rZ hZ eZ) rfl rfl rfl (Nat.le_of_ble_eq_true rfl) (Nat.le_of_ble_eq_true rfl) (Nat.le_of_ble_eq_true rfl) (fun r1 h2 => ?_)
  refine gf_sipush C dX12_many_5 ks_9999 (gf_iconst C dX12_many_8 ki_m1 (gf_iconst C dX12_many_9 ki_m1 (gf_iconst C dX12_many_10 ki_m1 ?_)))
  refine gf_callV (ε2 := eI) C [.int r1, .int (9999 : Int32), .int (-1 : Int32), .int (-1 : Int32), .int (-1 : Int32)] dX12_many_11 mw_X12_layOrders ml_X12_258 s_117 (fun rZ hZ eZ => ok_X12_layOrders r1 (9999 : Int32) (-1 : Int32) (-1 : Int32) (-1 : Int32) h2 rZ hZ eZ) rfl rfl rfl (Nat.le_of_ble_eq_true rfl) (Nat.le_of_ble_eq_true rfl) (Nat.le_of_ble_eq_true rfl) (fun r3 h4 => ?_)
  exact gf_iret C dX12_many_14 rfl
def F_X12_isAny (a1 : Int32) (h : Hp) : Option (Int32 × Hp) :=
  bd (F_X12_layOrders a1 (1 : Int32) (-1 : Int32) (-1 : Int32) (-1 : Int32) h) (fun r1 h2 => jn (fun (s3 : Int32) (h4 : Hp) =>
  gd (isB s3) ( some (s3, h4))) (fun j5 => if 0 < r1 then (
  j5 (1 : Int32) h2) else (
  j5 (0 : Int32) h2)))
set_option maxRecDepth 100000 in
set_option maxHeartbeats 4000000 in
theorem ok_X12_isAny (a1 : Int32) (h : Hp) (rZ : Int32) (hZ : Hp) (eZ : F_X12_isAny a1 h = some (rZ, hZ)) : AC yX12_isAny cX12_isAny 2 (some .boolean) 6 140 [.ref 117, .int a1] h (eI rZ) hZ := by
  refine AC_intro (o := F_X12_isAny a1 h) RX12 rfl (plainFor_of_name (by decide)) [some (.ref 117), some (.int a1)] rfl (fun _ => rfl) (fun _ => Nat.le_of_ble_eq_true rfl) eZ (fun K C => ?_)
  unfold F_X12_isAny
  refine gf_aload_n C dX12_isAny_0 rfl rfl (gf_iload_n C dX12_isAny_1 rfl rfl (gf_iconst C dX12_isAny_2 ki_1 (gf_iconst C dX12_isAny_3 ki_m1 (gf_iconst C dX12_isAny_4 ki_m1 (gf_iconst C dX12_isAny_5 ki_m1 ?_)))))
  refine gf_callV (ε2 := eI) C [.int a1, .int (1 : Int32), .int (-1 : Int32), .int (-1 : Int32), .int (-1 : Int32)] dX12_isAny_6 mw_X12_layOrders ml_X12_258 s_117 (fun rZ hZ eZ => ok_X12_layOrders a1 (1 : Int32) (-1 : Int32) (-1 : Int32) (-1 : Int32) h rZ hZ eZ) rfl rfl rfl (Nat.le_of_ble_eq_true rfl) (Nat.le_of_ble_eq_true rfl) (Nat.le_of_ble_eq_true rfl) (fun r1 h2 => ?_)
  refine gf_jn (fun (j5 : Int32 → Hp → Option (Int32 × Hp)) => ∀ (s3 : Int32) (h4 : Hp), GF K eI h4 17 [none, none] [.int s3] (j5 s3 h4)) ?_ (fun j5 kj5 => ?_)
  · intro s3 h4
    refine gf_gd (fun b6 => ?_)
    exact gf_zret C dX12_isAny_17 (isB_nar b6) rfl
  refine gf_ifle C 16 dX12_isAny_9 (by decide) (fun _ => ?_) (fun _ => ?_)
  · refine gf_iconst C dX12_isAny_12 ki_1 ?_
    refine gf_goto C 17 dX12_isAny_13 (by decide) ?_
    exact gf_sub [none, none] trivial (kj5 (1 : Int32) h2)
  · refine gf_iconst C dX12_isAny_16 ki_0 ?_
    exact gf_sub [none, none] trivial (kj5 (0 : Int32) h2)
def F_X12_ones (a1 : Int64) (h : Hp) : Option (Int32 × Hp) :=
  (lp 4000000000 (fun (c4 : Int32 → Int32 → Hp → Option (Int32 × Hp)) (v1 : Int32) (v2 : Int32) (h3 : Hp) =>
  if v2 < (64 : Int32) then (
  bd (F_X12_has a1 v2 h3) (fun r5 h6 => jn (fun (s7 : Int32) (h8 : Hp) =>
  jl (v1 + s7) (fun x10 => c4 x10 (v2 + (1 : Int32)) h8)) (fun j9 => if r5 = 0 then (
  j9 (0 : Int32) h6) else (
  j9 (1 : Int32) h6)))) else (
  some (v1, h3))) (fun _ _ _ => none)) (0 : Int32) (0 : Int32) h
set_option maxRecDepth 100000 in
set_option maxHeartbeats 4000000 in
theorem ok_X12_ones (a1 : Int64) (h : Hp) (rZ : Int32) (hZ : Hp) (eZ : F_X12_ones a1 h = some (rZ, hZ)) : AC yX12_ones cX12_ones 4 (some .int) 1 22 [.long a1] h (eI rZ) hZ := by
  refine AC_intro (o := F_X12_ones a1 h) RX12 rfl (plainFor_of_name (by decide)) [some (.long a1), none, none, none] rfl (fun _ => rfl) (fun _ => Nat.le_of_ble_eq_true rfl) eZ (fun K C => ?_)
  unfold F_X12_ones
  refine gf_iconst C dX12_ones_0 ki_0 (gf_istore_n C dX12_ones_1 rfl [some (.long a1), none, some (.int (0 : Int32)), none] rfl rfl (Nat.le_of_ble_eq_true rfl) (gf_iconst C dX12_ones_2 ki_0 (gf_istore_n C dX12_ones_3 rfl [some (.long a1), none, some (.int (0 : Int32)), some (.int (0 : Int32))] rfl rfl (Nat.le_of_ble_eq_true rfl) ?_)))
  refine gf_sub [some (.long a1), none, some (.int (0 : Int32)), some (.int (0 : Int32))] (And.intro rfl (And.intro rfl (And.intro rfl trivial))) ?_
  refine lp_P (fun (c4 : Int32 → Int32 → Hp → Option (Int32 × Hp)) => ∀ (v1 : Int32) (v2 : Int32) (h3 : Hp), GF K eI h3 4 [some (.long a1), none, some (.int v1), some (.int v2)] [] (c4 v1 v2 h3)) (fun _ _ _ => gf_none) (fun c4 kc4 v1 v2 h3 => ?_) (0 : Int32) (0 : Int32) h
  refine gf_iload_n C dX12_ones_4 rfl rfl (gf_bipush C dX12_ones_5 kb_64 ?_)
  refine gf_icmpge C 32 dX12_ones_7 (by decide) (fun _ => ?_) (fun _ => ?_)
  · refine gf_iload_n C dX12_ones_10 rfl rfl (gf_lload_n C dX12_ones_11 rfl rfl (gf_iload_n C dX12_ones_12 rfl rfl ?_))
    refine gf_callS (ε2 := eI) C [.long a1, .int v2] dX12_ones_13 mw_X12_has ml_X12_223 (fun rZ hZ eZ => ok_X12_has a1 v2 h3 rZ hZ eZ) rfl rfl rfl (Nat.le_of_ble_eq_true rfl) (Nat.le_of_ble_eq_true rfl) (Nat.le_of_ble_eq_true rfl) (fun r5 h6 => ?_)
    refine gf_jn (fun (j9 : Int32 → Hp → Option (Int32 × Hp)) => ∀ (s7 : Int32) (h8 : Hp), GF K eI h8 24 [some (.long a1), none, none, some (.int v2)] [.int s7, .int v1] (j9 s7 h8)) ?_ (fun j9 kj9 => ?_)
    · intro s7 h8
      refine gf_iadd C dX12_ones_24 ?_
      refine gf_jlI (fun x10 => ?_)
      refine gf_istore_n C dX12_ones_25 rfl [some (.long a1), none, some (.int x10), some (.int v2)] rfl rfl (Nat.le_of_ble_eq_true rfl) (gf_iinc C dX12_ones_26 rfl (ii_1 _) [some (.long a1), none, some (.int x10), some (.int (v2 + (1 : Int32)))] rfl rfl ?_)
      refine gf_goto C 4 dX12_ones_29 (by decide) ?_
      exact gf_sub [some (.long a1), none, some (.int x10), some (.int (v2 + (1 : Int32)))] (And.intro rfl (And.intro rfl (And.intro rfl trivial))) (kc4 x10 (v2 + (1 : Int32)) h8)
    refine gf_ifeq C 23 dX12_ones_16 (by decide) (fun _ => ?_) (fun _ => ?_)
    · refine gf_iconst C dX12_ones_23 ki_0 ?_
      exact gf_sub [some (.long a1), none, none, some (.int v2)] (And.intro rfl (And.intro rfl trivial)) (kj9 (0 : Int32) h6)
    · refine gf_iconst C dX12_ones_19 ki_1 ?_
      refine gf_goto C 24 dX12_ones_20 (by decide) ?_
      exact gf_sub [some (.long a1), none, none, some (.int v2)] (And.intro rfl (And.intro rfl trivial)) (kj9 (1 : Int32) h6)
  · refine gf_iload_n C dX12_ones_32 rfl rfl ?_
    exact gf_iret C dX12_ones_33 rfl
def F_X12_shown (a1 : Int64) (a2 : Int32) (h : Hp) : Option (Int32 × Hp) :=
  if a2 = 0 then (
  bd (F_X12_ones a1 h) (fun r1 h2 => some (r1, h2))) else (
  jn (fun (s3 : Int32) (h4 : Hp) =>
  bd (F_X12_within s3 (0 : Int32) (47 : Int32) h4) (fun r6 h7 => jn (fun (s8 : Int32) (h9 : Hp) =>
  some (s8, h9)) (fun j10 => if r6 = 0 then (
  j10 (-1 : Int32) h7) else (
  j10 s3 h7)))) (fun j5 => if a2 = (1 : Int32) then (
  bd (F_X12_firstOf a1 (-1 : Int32) h) (fun r11 h12 => j5 r11 h12)) else (
  bd (F_X12_lastOf a1 (48 : Int32) h) (fun r13 h14 => j5 r13 h14))))
set_option maxRecDepth 100000 in
set_option maxHeartbeats 4000000 in
theorem ok_X12_shown (a1 : Int64) (a2 : Int32) (h : Hp) (rZ : Int32) (hZ : Hp) (eZ : F_X12_shown a1 a2 h = some (rZ, hZ)) : AC yX12_shown cX12_shown 4 (some .int) 2 45 [.long a1, .int a2] h (eI rZ) hZ := by
  refine AC_intro (o := F_X12_shown a1 a2 h) RX12 rfl (plainFor_of_name (by decide)) [some (.long a1), none, some (.int a2), none] rfl (fun _ => rfl) (fun _ => Nat.le_of_ble_eq_true rfl) eZ (fun K C => ?_)
  unfold F_X12_shown
  refine gf_iload_n C dX12_shown_0 rfl rfl ?_
  refine gf_ifne C 9 dX12_shown_1 (by decide) (fun _ => ?_) (fun _ => ?_)
  · refine gf_lload_n C dX12_shown_4 rfl rfl ?_
    refine gf_callS (ε2 := eI) C [.long a1] dX12_shown_5 mw_X12_ones ml_X12_262 (fun rZ hZ eZ => ok_X12_ones a1 h rZ hZ eZ) rfl rfl rfl (Nat.le_of_ble_eq_true rfl) (Nat.le_of_ble_eq_true rfl) (Nat.le_of_ble_eq_true rfl) (fun r1 h2 => ?_)
    exact gf_iret C dX12_shown_8 rfl
  · refine gf_iload_n C dX12_shown_9 rfl rfl (gf_iconst C dX12_shown_10 ki_1 ?_)
    refine gf_jn (fun (j5 : Int32 → Hp → Option (Int32 × Hp)) => ∀ (s3 : Int32) (h4 : Hp), GF K eI h4 28 [none, none, none, none] [.int s3] (j5 s3 h4)) ?_ (fun j5 kj5 => ?_)
    · intro s3 h4
      refine gf_istore_n C dX12_shown_28 rfl [none, none, none, some (.int s3)] rfl rfl (Nat.le_of_ble_eq_true rfl) (gf_iload_n C dX12_shown_29 rfl rfl (gf_iconst C dX12_shown_30 ki_0 (gf_bipush C dX12_shown_31 kb_47 ?_)))
      refine gf_callS (ε2 := eI) C [.int s3, .int (0 : Int32), .int (47 : Int32)] dX12_shown_33 mw_X12_within ml_X12_88 (fun rZ hZ eZ => ok_X12_within s3 (0 : Int32) (47 : Int32) h4 rZ hZ eZ) rfl rfl rfl (Nat.le_of_ble_eq_true rfl) (Nat.le_of_ble_eq_true rfl) (Nat.le_of_ble_eq_true rfl) (fun r6 h7 => ?_)
      refine gf_jn (fun (j10 : Int32 → Hp → Option (Int32 × Hp)) => ∀ (s8 : Int32) (h9 : Hp), GF K eI h9 44 [none, none, none, none] [.int s8] (j10 s8 h9)) ?_ (fun j10 kj10 => ?_)
      · intro s8 h9
        exact gf_iret C dX12_shown_44 rfl
      refine gf_ifeq C 43 dX12_shown_36 (by decide) (fun _ => ?_) (fun _ => ?_)
      · refine gf_iconst C dX12_shown_43 ki_m1 ?_
        exact gf_sub [none, none, none, none] trivial (kj10 (-1 : Int32) h7)
      · refine gf_iload_n C dX12_shown_39 rfl rfl ?_
        refine gf_goto C 44 dX12_shown_40 (by decide) ?_
        exact gf_sub [none, none, none, none] trivial (kj10 s3 h7)
    refine gf_icmpne C 22 dX12_shown_11 (by decide) (fun _ => ?_) (fun _ => ?_)
    · refine gf_lload_n C dX12_shown_14 rfl rfl (gf_iconst C dX12_shown_15 ki_m1 ?_)
      refine gf_callS (ε2 := eI) C [.long a1, .int (-1 : Int32)] dX12_shown_16 mw_X12_firstOf ml_X12_227 (fun rZ hZ eZ => ok_X12_firstOf a1 (-1 : Int32) h rZ hZ eZ) rfl rfl rfl (Nat.le_of_ble_eq_true rfl) (Nat.le_of_ble_eq_true rfl) (Nat.le_of_ble_eq_true rfl) (fun r11 h12 => ?_)
      refine gf_goto C 28 dX12_shown_19 (by decide) ?_
      exact gf_sub [none, none, none, none] trivial (kj5 r11 h12)
    · refine gf_lload_n C dX12_shown_22 rfl rfl (gf_bipush C dX12_shown_23 kb_48 ?_)
      refine gf_callS (ε2 := eI) C [.long a1, .int (48 : Int32)] dX12_shown_25 mw_X12_lastOf ml_X12_231 (fun rZ hZ eZ => ok_X12_lastOf a1 (48 : Int32) h rZ hZ eZ) rfl rfl rfl (Nat.le_of_ble_eq_true rfl) (Nat.le_of_ble_eq_true rfl) (Nat.le_of_ble_eq_true rfl) (fun r13 h14 => ?_)
      exact gf_sub [none, none, none, none] trivial (kj5 r13 h14)
def F_X12_isBefore (a1 : Int32) (a2 : Int32) (h : Hp) : Option (Int32 × Hp) :=
  (lp 4000000000 (fun (c4 : Int32 → Int32 → Hp → Option (Int32 × Hp)) (v1 : Int32) (v2 : Int32) (h3 : Hp) =>
  if v2 < (sG h3 7504) then (
  bd (F_X12_isAhead a1 v2 h3) (fun r5 h6 => jn (fun (s7 : Int32) (h8 : Hp) =>
  jl (v1 ||| s7) (fun x10 => c4 x10 (v2 + (1 : Int32)) h8)) (fun j9 => if r5 = 0 then (
  j9 (0 : Int32) h6) else (
  j9 ((1 : Int32) <<< (v2 &&& 31)) h6)))) else (
  (lp 4000000000 (fun (c14 : Int32 → Int32 → Hp → Option (Int32 × Hp)) (v11 : Int32) (v12 : Int32) (h13 : Hp) =>
  if v12 = v11 then (
  jn (fun (s15 : Int32) (h16 : Hp) =>
  gd (isB s15) ( some (s15, h16))) (fun j17 => if ((v12 >>> (a2 &&& 31)) &&& (1 : Int32)) = (1 : Int32) then (
  j17 (1 : Int32) h13) else (
  j17 (0 : Int32) h13))) else (
  (lp 4000000000 (fun (c22 : Int32 → Int32 → Hp → Option (Int32 × Hp)) (v19 : Int32) (v20 : Int32) (h21 : Hp) =>
  if v20 < (sG h21 7504) then (
  (lp 4000000000 (fun (c26 : Int32 → Int32 → Hp → Option (Int32 × Hp)) (v23 : Int32) (v24 : Int32) (h25 : Hp) =>
  jn (fun (h27 : Hp) =>
  c22 v23 (v20 + (1 : Int32)) h27) (fun j28 => if v24 < (sG h25 7504) then (
  if ((v12 >>> (v20 &&& 31)) &&& (1 : Int32)) = (1 : Int32) then (
  bd (F_X12_isAhead v20 v24 h25) (fun r29 h30 => jn (fun (s31 : Int32) (h32 : Hp) =>
  jl (v23 ||| s31) (fun x34 => c26 x34 (v24 + (1 : Int32)) h32)) (fun j33 => if r29 = 0 then (
  j33 (0 : Int32) h30) else (
  j33 ((1 : Int32) <<< (v24 &&& 31)) h30)))) else (
  j28 h25)) else (
  j28 h25))) (fun _ _ _ => none)) v19 (0 : Int32) h21) else (
  c14 v12 v19 h21)) (fun _ _ _ => none)) v12 (0 : Int32) h13)) (fun _ _ _ => none)) (0 : Int32) v1 h3)) (fun _ _ _ => none)) (0 : Int32) (0 : Int32) h
set_option maxRecDepth 100000 in
set_option maxHeartbeats 4000000 in
theorem ok_X12_isBefore (a1 : Int32) (a2 : Int32) (h : Hp) (rZ : Int32) (hZ : Hp) (eZ : F_X12_isBefore a1 a2 h = some (rZ, hZ)) : AC yX12_isBefore cX12_isBefore 7 (some .boolean) 3 74 [.ref 117, .int a1, .int a2] h (eI rZ) hZ := by
  refine AC_intro (o := F_X12_isBefore a1 a2 h) RX12 rfl (plainFor_of_name (by decide)) [some (.ref 117), some (.int a1), some (.int a2), none, none, none, none] rfl (fun _ => rfl) (fun _ => Nat.le_of_ble_eq_true rfl) eZ (fun K C => ?_)
  unfold F_X12_isBefore
  refine gf_iconst C dX12_isBefore_0 ki_0 (gf_istore_n C dX12_isBefore_1 rfl [some (.ref 117), some (.int a1), some (.int a2), some (.int (0 : Int32)), none, none, none] rfl rfl (Nat.le_of_ble_eq_true rfl) (gf_iconst C dX12_isBefore_2 ki_0 (gf_istore C dX12_isBefore_3 [some (.ref 117), some (.int a1), some (.int a2), some (.int (0 : Int32)), some (.int (0 : Int32)), none, none] rfl rfl (Nat.le_of_ble_eq_true rfl) (gf_iconst C dX12_isBefore_5 ki_0 (gf_istore C dX12_isBefore_6 [some (.ref 117), some (.int a1), some (.int a2), some (.int (0 : Int32)), some (.int (0 : Int32)), some (.int (0 : Int32)), none] rfl rfl (Nat.le_of_ble_eq_true rfl) ?_)))))
  refine gf_sub [some (.ref 117), some (.int a1), some (.int a2), some (.int (0 : Int32)), some (.int (0 : Int32)), some (.int (0 : Int32)), none] (And.intro rfl (And.intro rfl (And.intro rfl (And.intro rfl (And.intro rfl (And.intro rfl trivial)))))) ?_
  refine lp_P (fun (c4 : Int32 → Int32 → Hp → Option (Int32 × Hp)) => ∀ (v1 : Int32) (v2 : Int32) (h3 : Hp), GF K eI h3 8 [some (.ref 117), some (.int a1), some (.int a2), some (.int (0 : Int32)), some (.int v1), some (.int v2), none] [] (c4 v1 v2 h3)) (fun _ _ _ => gf_none) (fun c4 kc4 v1 v2 h3 => ?_) (0 : Int32) (0 : Int32) h
  refine gf_iload C dX12_isBefore_8 rfl (gf_aload_n C dX12_isBefore_10 rfl rfl (gf_getI C dX12_isBefore_11 fl_X12_166 s_117 rfl 7504 rfl ?_))
  refine gf_icmpge C 46 dX12_isBefore_14 (by decide) (fun _ => ?_) (fun _ => ?_)
  · refine gf_iload C dX12_isBefore_17 rfl (gf_aload_n C dX12_isBefore_19 rfl rfl (gf_iload_n C dX12_isBefore_20 rfl rfl (gf_iload C dX12_isBefore_21 rfl ?_)))
    refine gf_callV (ε2 := eI) C [.int a1, .int v2] dX12_isBefore_23 mw_X12_isAhead ml_X12_217 s_117 (fun rZ hZ eZ => ok_X12_isAhead a1 v2 h3 rZ hZ eZ) rfl rfl rfl (Nat.le_of_ble_eq_true rfl) (Nat.le_of_ble_eq_true rfl) (Nat.le_of_ble_eq_true rfl) (fun r5 h6 => ?_)
    refine gf_jn (fun (j9 : Int32 → Hp → Option (Int32 × Hp)) => ∀ (s7 : Int32) (h8 : Hp), GF K eI h8 37 [some (.ref 117), some (.int a1), some (.int a2), some (.int (0 : Int32)), none, some (.int v2), none] [.int s7, .int v1] (j9 s7 h8)) ?_ (fun j9 kj9 => ?_)
    · intro s7 h8
      refine gf_ior C dX12_isBefore_37 ?_
      refine gf_jlI (fun x10 => ?_)
      refine gf_istore C dX12_isBefore_38 [some (.ref 117), some (.int a1), some (.int a2), some (.int (0 : Int32)), some (.int x10), some (.int v2), none] rfl rfl (Nat.le_of_ble_eq_true rfl) (gf_iinc C dX12_isBefore_40 rfl (ii_1 _) [some (.ref 117), some (.int a1), some (.int a2), some (.int (0 : Int32)), some (.int x10), some (.int (v2 + (1 : Int32))), none] rfl rfl ?_)
      refine gf_goto C 8 dX12_isBefore_43 (by decide) ?_
      exact gf_sub [some (.ref 117), some (.int a1), some (.int a2), some (.int (0 : Int32)), some (.int x10), some (.int (v2 + (1 : Int32))), none] (And.intro rfl (And.intro rfl (And.intro rfl (And.intro rfl (And.intro rfl (And.intro rfl trivial)))))) (kc4 x10 (v2 + (1 : Int32)) h8)
    refine gf_ifeq C 36 dX12_isBefore_26 (by decide) (fun _ => ?_) (fun _ => ?_)
    · refine gf_iconst C dX12_isBefore_36 ki_0 ?_
      exact gf_sub [some (.ref 117), some (.int a1), some (.int a2), some (.int (0 : Int32)), none, some (.int v2), none] (And.intro rfl (And.intro rfl (And.intro rfl (And.intro rfl (And.intro rfl trivial))))) (kj9 (0 : Int32) h6)
    · refine gf_iconst C dX12_isBefore_29 ki_1 (gf_iload C dX12_isBefore_30 rfl (gf_ishl C dX12_isBefore_32 ?_))
      refine gf_goto C 37 dX12_isBefore_33 (by decide) ?_
      exact gf_sub [some (.ref 117), some (.int a1), some (.int a2), some (.int (0 : Int32)), none, some (.int v2), none] (And.intro rfl (And.intro rfl (And.intro rfl (And.intro rfl (And.intro rfl trivial))))) (kj9 ((1 : Int32) <<< (v2 &&& 31)) h6)
  · refine gf_sub [some (.ref 117), none, some (.int a2), some (.int (0 : Int32)), some (.int v1), none, none] (And.intro rfl (And.intro rfl (And.intro rfl (And.intro rfl trivial)))) ?_
    refine lp_P (fun (c14 : Int32 → Int32 → Hp → Option (Int32 × Hp)) => ∀ (v11 : Int32) (v12 : Int32) (h13 : Hp), GF K eI h13 46 [some (.ref 117), none, some (.int a2), some (.int v11), some (.int v12), none, none] [] (c14 v11 v12 h13)) (fun _ _ _ => gf_none) (fun c14 kc14 v11 v12 h13 => ?_) (0 : Int32) v1 h3
    refine gf_iload C dX12_isBefore_46 rfl (gf_iload_n C dX12_isBefore_48 rfl rfl ?_)
    refine gf_icmpeq C 128 dX12_isBefore_49 (by decide) (fun _ => ?_) (fun _ => ?_)
    · refine gf_iload C dX12_isBefore_128 rfl (gf_iload_n C dX12_isBefore_130 rfl rfl (gf_ishr C dX12_isBefore_131 (gf_iconst C dX12_isBefore_132 ki_1 (gf_iand C dX12_isBefore_133 (gf_iconst C dX12_isBefore_134 ki_1 ?_)))))
      refine gf_jn (fun (j17 : Int32 → Hp → Option (Int32 × Hp)) => ∀ (s15 : Int32) (h16 : Hp), GF K eI h16 143 [none, none, none, none, none, none, none] [.int s15] (j17 s15 h16)) ?_ (fun j17 kj17 => ?_)
      · intro s15 h16
        refine gf_gd (fun b18 => ?_)
        exact gf_zret C dX12_isBefore_143 (isB_nar b18) rfl
      refine gf_icmpne C 142 dX12_isBefore_135 (by decide) (fun _ => ?_) (fun _ => ?_)
      · refine gf_iconst C dX12_isBefore_138 ki_1 ?_
        refine gf_goto C 143 dX12_isBefore_139 (by decide) ?_
        exact gf_sub [none, none, none, none, none, none, none] trivial (kj17 (1 : Int32) h13)
      · refine gf_iconst C dX12_isBefore_142 ki_0 ?_
        exact gf_sub [none, none, none, none, none, none, none] trivial (kj17 (0 : Int32) h13)
    · refine gf_iload C dX12_isBefore_52 rfl (gf_istore_n C dX12_isBefore_54 rfl [some (.ref 117), none, some (.int a2), some (.int v12), some (.int v12), none, none] rfl rfl (Nat.le_of_ble_eq_true rfl) (gf_iconst C dX12_isBefore_55 ki_0 (gf_istore C dX12_isBefore_56 [some (.ref 117), none, some (.int a2), some (.int v12), some (.int v12), some (.int (0 : Int32)), none] rfl rfl (Nat.le_of_ble_eq_true rfl) ?_)))
      refine gf_sub [some (.ref 117), none, some (.int a2), some (.int v12), some (.int v12), some (.int (0 : Int32)), none] (And.intro rfl (And.intro rfl (And.intro rfl (And.intro rfl (And.intro rfl trivial))))) ?_
      refine lp_P (fun (c22 : Int32 → Int32 → Hp → Option (Int32 × Hp)) => ∀ (v19 : Int32) (v20 : Int32) (h21 : Hp), GF K eI h21 58 [some (.ref 117), none, some (.int a2), some (.int v12), some (.int v19), some (.int v20), none] [] (c22 v19 v20 h21)) (fun _ _ _ => gf_none) (fun c22 kc22 v19 v20 h21 => ?_) v12 (0 : Int32) h13
      refine gf_iload C dX12_isBefore_58 rfl (gf_aload_n C dX12_isBefore_60 rfl rfl (gf_getI C dX12_isBefore_61 fl_X12_166 s_117 rfl 7504 rfl ?_))
      refine gf_icmpge C 125 dX12_isBefore_64 (by decide) (fun _ => ?_) (fun _ => ?_)
      · refine gf_iconst C dX12_isBefore_67 ki_0 (gf_istore C dX12_isBefore_68 [some (.ref 117), none, some (.int a2), some (.int v12), some (.int v19), some (.int v20), some (.int (0 : Int32))] rfl rfl (Nat.le_of_ble_eq_true rfl) ?_)
        refine gf_sub [some (.ref 117), none, some (.int a2), some (.int v12), some (.int v19), some (.int v20), some (.int (0 : Int32))] (And.intro rfl (And.intro rfl (And.intro rfl (And.intro rfl (And.intro rfl (And.intro rfl trivial)))))) ?_
        refine lp_P (fun (c26 : Int32 → Int32 → Hp → Option (Int32 × Hp)) => ∀ (v23 : Int32) (v24 : Int32) (h25 : Hp), GF K eI h25 70 [some (.ref 117), none, some (.int a2), some (.int v12), some (.int v23), some (.int v20), some (.int v24)] [] (c26 v23 v24 h25)) (fun _ _ _ => gf_none) (fun c26 kc26 v23 v24 h25 => ?_) v19 (0 : Int32) h21
        refine gf_iload C dX12_isBefore_70 rfl (gf_aload_n C dX12_isBefore_72 rfl rfl (gf_getI C dX12_isBefore_73 fl_X12_166 s_117 rfl 7504 rfl ?_))
        refine gf_jn (fun (j28 : Hp → Option (Int32 × Hp)) => ∀ (h27 : Hp), GF K eI h27 119 [some (.ref 117), none, some (.int a2), some (.int v12), some (.int v23), some (.int v20), none] [] (j28 h27)) ?_ (fun j28 kj28 => ?_)
        · intro h27
          refine gf_iinc C dX12_isBefore_119 rfl (ii_1 _) [some (.ref 117), none, some (.int a2), some (.int v12), some (.int v23), some (.int (v20 + (1 : Int32))), none] rfl rfl ?_
          refine gf_goto C 58 dX12_isBefore_122 (by decide) ?_
          exact gf_sub [some (.ref 117), none, some (.int a2), some (.int v12), some (.int v23), some (.int (v20 + (1 : Int32))), none] (And.intro rfl (And.intro rfl (And.intro rfl (And.intro rfl (And.intro rfl trivial))))) (kc22 v23 (v20 + (1 : Int32)) h27)
        refine gf_icmpge C 119 dX12_isBefore_76 (by decide) (fun _ => ?_) (fun _ => ?_)
        · refine gf_iload_n C dX12_isBefore_79 rfl rfl (gf_iload C dX12_isBefore_80 rfl (gf_ishr C dX12_isBefore_82 (gf_iconst C dX12_isBefore_83 ki_1 (gf_iand C dX12_isBefore_84 (gf_iconst C dX12_isBefore_85 ki_1 ?_)))))
          refine gf_icmpne C 119 dX12_isBefore_86 (by decide) (fun _ => ?_) (fun _ => ?_)
          · refine gf_iload C dX12_isBefore_89 rfl (gf_aload_n C dX12_isBefore_91 rfl rfl (gf_iload C dX12_isBefore_92 rfl (gf_iload C dX12_isBefore_94 rfl ?_)))
            refine gf_callV (ε2 := eI) C [.int v20, .int v24] dX12_isBefore_96 mw_X12_isAhead ml_X12_217 s_117 (fun rZ hZ eZ => ok_X12_isAhead v20 v24 h25 rZ hZ eZ) rfl rfl rfl (Nat.le_of_ble_eq_true rfl) (Nat.le_of_ble_eq_true rfl) (Nat.le_of_ble_eq_true rfl) (fun r29 h30 => ?_)
            refine gf_jn (fun (j33 : Int32 → Hp → Option (Int32 × Hp)) => ∀ (s31 : Int32) (h32 : Hp), GF K eI h32 110 [some (.ref 117), none, some (.int a2), some (.int v12), none, some (.int v20), some (.int v24)] [.int s31, .int v23] (j33 s31 h32)) ?_ (fun j33 kj33 => ?_)
            · intro s31 h32
              refine gf_ior C dX12_isBefore_110 ?_
              refine gf_jlI (fun x34 => ?_)
              refine gf_istore C dX12_isBefore_111 [some (.ref 117), none, some (.int a2), some (.int v12), some (.int x34), some (.int v20), some (.int v24)] rfl rfl (Nat.le_of_ble_eq_true rfl) (gf_iinc C dX12_isBefore_113 rfl (ii_1 _) [some (.ref 117), none, some (.int a2), some (.int v12), some (.int x34), some (.int v20), some (.int (v24 + (1 : Int32)))] rfl rfl ?_)
              refine gf_goto C 70 dX12_isBefore_116 (by decide) ?_
              exact gf_sub [some (.ref 117), none, some (.int a2), some (.int v12), some (.int x34), some (.int v20), some (.int (v24 + (1 : Int32)))] (And.intro rfl (And.intro rfl (And.intro rfl (And.intro rfl (And.intro rfl (And.intro rfl trivial)))))) (kc26 x34 (v24 + (1 : Int32)) h32)
            refine gf_ifeq C 109 dX12_isBefore_99 (by decide) (fun _ => ?_) (fun _ => ?_)
            · refine gf_iconst C dX12_isBefore_109 ki_0 ?_
              exact gf_sub [some (.ref 117), none, some (.int a2), some (.int v12), none, some (.int v20), some (.int v24)] (And.intro rfl (And.intro rfl (And.intro rfl (And.intro rfl (And.intro rfl trivial))))) (kj33 (0 : Int32) h30)
            · refine gf_iconst C dX12_isBefore_102 ki_1 (gf_iload C dX12_isBefore_103 rfl (gf_ishl C dX12_isBefore_105 ?_))
              refine gf_goto C 110 dX12_isBefore_106 (by decide) ?_
              exact gf_sub [some (.ref 117), none, some (.int a2), some (.int v12), none, some (.int v20), some (.int v24)] (And.intro rfl (And.intro rfl (And.intro rfl (And.intro rfl (And.intro rfl trivial))))) (kj33 ((1 : Int32) <<< (v24 &&& 31)) h30)
          · exact gf_sub [some (.ref 117), none, some (.int a2), some (.int v12), some (.int v23), some (.int v20), none] (And.intro rfl (And.intro rfl (And.intro rfl (And.intro rfl (And.intro rfl trivial))))) (kj28 h25)
        · exact gf_sub [some (.ref 117), none, some (.int a2), some (.int v12), some (.int v23), some (.int v20), none] (And.intro rfl (And.intro rfl (And.intro rfl (And.intro rfl (And.intro rfl trivial))))) (kj28 h25)
      · refine gf_goto C 46 dX12_isBefore_125 (by decide) ?_
        exact gf_sub [some (.ref 117), none, some (.int a2), some (.int v12), some (.int v19), none, none] (And.intro rfl (And.intro rfl (And.intro rfl (And.intro rfl trivial)))) (kc14 v12 v19 h21)
def F_X12_lettersOf (a1 : Int32) (h : Hp) : Option (Int32 × Hp) :=
  gd (inb a1 7) ( jl (aG h 122 a1.toNatClampNeg) (fun x1 => (lp 4000000000 (fun (c5 : Int32 → Int32 → Hp → Option (Int32 × Hp)) (v2 : Int32) (v3 : Int32) (h4 : Hp) =>
  if 0 < v3 then (
  jl (v3 / (27 : Int32)) (fun x6 => c5 (v2 + (1 : Int32)) x6 h4)) else (
  some (v2, h4))) (fun _ _ _ => none)) (0 : Int32) x1 h))
set_option maxRecDepth 100000 in
set_option maxHeartbeats 4000000 in
theorem ok_X12_lettersOf (a1 : Int32) (h : Hp) (rZ : Int32) (hZ : Hp) (eZ : F_X12_lettersOf a1 h = some (rZ, hZ)) : AC yX12_lettersOf cX12_lettersOf 4 (some .int) 0 0 [.ref 117, .int a1] h (eI rZ) hZ := by
  refine AC_intro (o := F_X12_lettersOf a1 h) RX12 rfl (plainFor_of_name (by decide)) [some (.ref 117), some (.int a1), none, none] rfl (fun _ => rfl) (fun _ => Nat.le_of_ble_eq_true rfl) eZ (fun K C => ?_)
  unfold F_X12_lettersOf
  refine gf_iconst C dX12_lettersOf_0 ki_0 (gf_istore_n C dX12_lettersOf_1 rfl [some (.ref 117), some (.int a1), some (.int (0 : Int32)), none] rfl rfl (Nat.le_of_ble_eq_true rfl) (gf_aload_n C dX12_lettersOf_2 rfl rfl (gf_getR C dX12_lettersOf_3 fl_X12_32 s_117 rfl 122 rfl (gf_iload_n C dX12_lettersOf_6 rfl rfl (gf_iald C dX12_lettersOf_7 s_122 ?_)))))
  refine gf_jlI (fun x1 => ?_)
  refine gf_istore_n C dX12_lettersOf_8 rfl [some (.ref 117), some (.int a1), some (.int (0 : Int32)), some (.int x1)] rfl rfl (Nat.le_of_ble_eq_true rfl) ?_
  refine gf_sub [none, none, some (.int (0 : Int32)), some (.int x1)] (And.intro rfl (And.intro rfl trivial)) ?_
  refine lp_P (fun (c5 : Int32 → Int32 → Hp → Option (Int32 × Hp)) => ∀ (v2 : Int32) (v3 : Int32) (h4 : Hp), GF K eI h4 9 [none, none, some (.int v2), some (.int v3)] [] (c5 v2 v3 h4)) (fun _ _ _ => gf_none) (fun c5 kc5 v2 v3 h4 => ?_) (0 : Int32) x1 h
  refine gf_iload_n C dX12_lettersOf_9 rfl rfl ?_
  refine gf_ifle C 24 dX12_lettersOf_10 (by decide) (fun _ => ?_) (fun _ => ?_)
  · refine gf_iinc C dX12_lettersOf_13 rfl (ii_1 _) [none, none, some (.int (v2 + (1 : Int32))), some (.int v3)] rfl rfl (gf_iload_n C dX12_lettersOf_16 rfl rfl (gf_bipush C dX12_lettersOf_17 kb_27 (gf_idivC C dX12_lettersOf_19 (by decide) ?_)))
    refine gf_jlI (fun x6 => ?_)
    refine gf_istore_n C dX12_lettersOf_20 rfl [none, none, some (.int (v2 + (1 : Int32))), some (.int x6)] rfl rfl (Nat.le_of_ble_eq_true rfl) ?_
    refine gf_goto C 9 dX12_lettersOf_21 (by decide) ?_
    exact gf_sub [none, none, some (.int (v2 + (1 : Int32))), some (.int x6)] (And.intro rfl (And.intro rfl trivial)) (kc5 (v2 + (1 : Int32)) x6 h4)
  · refine gf_iload_n C dX12_lettersOf_24 rfl rfl ?_
    exact gf_iret C dX12_lettersOf_25 rfl
def F_X12_countOf (a1 : Int32) (a2 : Int32) (h : Hp) : Option (Int32 × Hp) :=
  (lp 4000000000 (fun (c4 : Int32 → Int32 → Hp → Option (Int32 × Hp)) (v1 : Int32) (v2 : Int32) (h3 : Hp) =>
  jn (fun (s5 : Int32) (h6 : Hp) =>
  if v2 < s5 then (
  jn (fun (s8 : Int32) (h9 : Hp) =>
  jl (v1 + s8) (fun x11 => c4 x11 (v2 + (1 : Int32)) h9)) (fun j10 => if a2 = 0 then (
  bd (F_X12_isBefore v2 a1 h6) (fun r12 h13 => if r12 = 0 then (
  j10 (0 : Int32) h13) else (
  j10 (1 : Int32) h13))) else (
  jl (((4 : Int32) * v2) + (1 : Int32)) (fun x14 => gd (inb x14 225) ( if (aG h6 124 x14.toNatClampNeg) = a1 then (
  j10 (1 : Int32) h6) else (
  j10 (0 : Int32) h6)))))) else (
  some (v1, h6))) (fun j7 => if a2 = 0 then (
  j7 (sG h3 7504) h3) else (
  gd (inb (0 : Int32) 225) ( j7 (aG h3 124 (0 : Int32).toNatClampNeg) h3)))) (fun _ _ _ => none)) (0 : Int32) (0 : Int32) h
set_option maxRecDepth 100000 in
set_option maxHeartbeats 4000000 in
theorem ok_X12_countOf (a1 : Int32) (a2 : Int32) (h : Hp) (rZ : Int32) (hZ : Hp) (eZ : F_X12_countOf a1 a2 h = some (rZ, hZ)) : AC yX12_countOf cX12_countOf 5 (some .int) 4 100 [.ref 117, .int a1, .int a2] h (eI rZ) hZ := by
  refine AC_intro (o := F_X12_countOf a1 a2 h) RX12 rfl (plainFor_of_name (by decide)) [some (.ref 117), some (.int a1), some (.int a2), none, none] rfl (fun _ => rfl) (fun _ => Nat.le_of_ble_eq_true rfl) eZ (fun K C => ?_)
  unfold F_X12_countOf
  refine gf_iconst C dX12_countOf_0 ki_0 (gf_istore_n C dX12_countOf_1 rfl [some (.ref 117), some (.int a1), some (.int a2), some (.int (0 : Int32)), none] rfl rfl (Nat.le_of_ble_eq_true rfl) (gf_iconst C dX12_countOf_2 ki_0 (gf_istore C dX12_countOf_3 [some (.ref 117), some (.int a1), some (.int a2), some (.int (0 : Int32)), some (.int (0 : Int32))] rfl rfl (Nat.le_of_ble_eq_true rfl) ?_)))
  refine gf_sub [some (.ref 117), some (.int a1), some (.int a2), some (.int (0 : Int32)), some (.int (0 : Int32))] (And.intro rfl (And.intro rfl (And.intro rfl (And.intro rfl (And.intro rfl trivial))))) ?_
  refine lp_P (fun (c4 : Int32 → Int32 → Hp → Option (Int32 × Hp)) => ∀ (v1 : Int32) (v2 : Int32) (h3 : Hp), GF K eI h3 5 [some (.ref 117), some (.int a1), some (.int a2), some (.int v1), some (.int v2)] [] (c4 v1 v2 h3)) (fun _ _ _ => gf_none) (fun c4 kc4 v1 v2 h3 => ?_) (0 : Int32) (0 : Int32) h
  refine gf_iload C dX12_countOf_5 rfl (gf_iload_n C dX12_countOf_7 rfl rfl ?_)
  refine gf_jn (fun (j7 : Int32 → Hp → Option (Int32 × Hp)) => ∀ (s5 : Int32) (h6 : Hp), GF K eI h6 24 [some (.ref 117), some (.int a1), some (.int a2), some (.int v1), some (.int v2)] [.int s5, .int v2] (j7 s5 h6)) ?_ (fun j7 kj7 => ?_)
  · intro s5 h6
    refine gf_icmpge C 78 dX12_countOf_24 (by decide) (fun _ => ?_) (fun _ => ?_)
    · refine gf_iload_n C dX12_countOf_27 rfl rfl (gf_iload_n C dX12_countOf_28 rfl rfl ?_)
      refine gf_jn (fun (j10 : Int32 → Hp → Option (Int32 × Hp)) => ∀ (s8 : Int32) (h9 : Hp), GF K eI h9 70 [some (.ref 117), some (.int a1), some (.int a2), none, some (.int v2)] [.int s8, .int v1] (j10 s8 h9)) ?_ (fun j10 kj10 => ?_)
      · intro s8 h9
        refine gf_iadd C dX12_countOf_70 ?_
        refine gf_jlI (fun x11 => ?_)
        refine gf_istore_n C dX12_countOf_71 rfl [some (.ref 117), some (.int a1), some (.int a2), some (.int x11), some (.int v2)] rfl rfl (Nat.le_of_ble_eq_true rfl) (gf_iinc C dX12_countOf_72 rfl (ii_1 _) [some (.ref 117), some (.int a1), some (.int a2), some (.int x11), some (.int (v2 + (1 : Int32)))] rfl rfl ?_)
        refine gf_goto C 5 dX12_countOf_75 (by decide) ?_
        exact gf_sub [some (.ref 117), some (.int a1), some (.int a2), some (.int x11), some (.int (v2 + (1 : Int32)))] (And.intro rfl (And.intro rfl (And.intro rfl (And.intro rfl (And.intro rfl trivial))))) (kc4 x11 (v2 + (1 : Int32)) h9)
      refine gf_ifeq C 55 dX12_countOf_29 (by decide) (fun _ => ?_) (fun _ => ?_)
      · refine gf_aload_n C dX12_countOf_55 rfl rfl (gf_iload C dX12_countOf_56 rfl (gf_iload_n C dX12_countOf_58 rfl rfl ?_))
        refine gf_callV (ε2 := eI) C [.int v2, .int a1] dX12_countOf_59 mw_X12_isBefore ml_X12_266 s_117 (fun rZ hZ eZ => ok_X12_isBefore v2 a1 h6 rZ hZ eZ) rfl rfl rfl (Nat.le_of_ble_eq_true rfl) (Nat.le_of_ble_eq_true rfl) (Nat.le_of_ble_eq_true rfl) (fun r12 h13 => ?_)
        refine gf_ifeq C 69 dX12_countOf_62 (by decide) (fun _ => ?_) (fun _ => ?_)
        · refine gf_iconst C dX12_countOf_69 ki_0 ?_
          exact gf_sub [some (.ref 117), some (.int a1), some (.int a2), none, some (.int v2)] (And.intro rfl (And.intro rfl (And.intro rfl (And.intro rfl trivial)))) (kj10 (0 : Int32) h13)
        · refine gf_iconst C dX12_countOf_65 ki_1 ?_
          refine gf_goto C 70 dX12_countOf_66 (by decide) ?_
          exact gf_sub [some (.ref 117), some (.int a1), some (.int a2), none, some (.int v2)] (And.intro rfl (And.intro rfl (And.intro rfl (And.intro rfl trivial)))) (kj10 (1 : Int32) h13)
      · refine gf_aload_n C dX12_countOf_32 rfl rfl (gf_getR C dX12_countOf_33 fl_X12_38 s_117 rfl 124 rfl (gf_iconst C dX12_countOf_36 ki_4 (gf_iload C dX12_countOf_37 rfl (gf_imul C dX12_countOf_39 (gf_iconst C dX12_countOf_40 ki_1 (gf_iadd C dX12_countOf_41 ?_))))))
        refine gf_jlI (fun x14 => ?_)
        refine gf_iald C dX12_countOf_42 s_124 (gf_iload_n C dX12_countOf_43 rfl rfl ?_)
        refine gf_icmpne C 51 dX12_countOf_44 (by decide) (fun _ => ?_) (fun _ => ?_)
        · refine gf_iconst C dX12_countOf_47 ki_1 ?_
          refine gf_goto C 70 dX12_countOf_48 (by decide) ?_
          exact gf_sub [some (.ref 117), some (.int a1), some (.int a2), none, some (.int v2)] (And.intro rfl (And.intro rfl (And.intro rfl (And.intro rfl trivial)))) (kj10 (1 : Int32) h6)
        · refine gf_iconst C dX12_countOf_51 ki_0 ?_
          refine gf_goto C 70 dX12_countOf_52 (by decide) ?_
          exact gf_sub [some (.ref 117), some (.int a1), some (.int a2), none, some (.int v2)] (And.intro rfl (And.intro rfl (And.intro rfl (And.intro rfl trivial)))) (kj10 (0 : Int32) h6)
    · refine gf_iload_n C dX12_countOf_78 rfl rfl ?_
      exact gf_iret C dX12_countOf_79 rfl
  refine gf_ifeq C 20 dX12_countOf_8 (by decide) (fun _ => ?_) (fun _ => ?_)
  · refine gf_aload_n C dX12_countOf_20 rfl rfl (gf_getI C dX12_countOf_21 fl_X12_166 s_117 rfl 7504 rfl ?_)
    exact gf_sub [some (.ref 117), some (.int a1), some (.int a2), some (.int v1), some (.int v2)] (And.intro rfl (And.intro rfl (And.intro rfl (And.intro rfl (And.intro rfl trivial))))) (kj7 (sG h3 7504) h3)
  · refine gf_aload_n C dX12_countOf_11 rfl rfl (gf_getR C dX12_countOf_12 fl_X12_38 s_117 rfl 124 rfl (gf_iconst C dX12_countOf_15 ki_0 (gf_iald C dX12_countOf_16 s_124 ?_)))
    refine gf_goto C 24 dX12_countOf_17 (by decide) ?_
    exact gf_sub [some (.ref 117), some (.int a1), some (.int a2), some (.int v1), some (.int v2)] (And.intro rfl (And.intro rfl (And.intro rfl (And.intro rfl (And.intro rfl trivial))))) (kj7 (aG h3 124 (0 : Int32).toNatClampNeg) h3)
def F_X12_picture (a1 : Int32) (a2 : Int32) (h : Hp) : Option (Int32 × Hp) :=
  bd (F_X12_isPicture a1 h) (fun r1 h2 => if r1 = 0 then (
  some ((-2 : Int32), h2)) else (
  bd (F_X12_layWindow a1 h2) (fun _ h3 => jn (fun (h4 : Hp) =>
  gd (inb a1 7) ( bd (F_X12_shown (lG h4 129 a1.toNatClampNeg) (a2 - (2 : Int32)) h4) (fun r6 h7 => some (r6, h7)))) (fun j5 => jn (fun (h8 : Hp) =>
  jn (fun (s10 : Int32) (h11 : Hp) =>
  bd (F_X12_countOf a1 s10 h11) (fun r13 h14 => some (r13, h14))) (fun j12 => if a2 = (1 : Int32) then (
  j12 (1 : Int32) h8) else (
  j12 (0 : Int32) h8))) (fun j9 => if a2 = (0 : Int32) then (
  bd (F_X12_lettersOf a1 h3) (fun r15 h16 => some (r15, h16))) else (if a2 = (1 : Int32) then (
  j9 h3) else (if a2 = (2 : Int32) then (
  j5 h3) else (if a2 = (3 : Int32) then (
  j5 h3) else (if a2 = (4 : Int32) then (
  j5 h3) else (if a2 = (5 : Int32) then (
  j9 h3) else (
  some ((-3 : Int32), h3))))))))))))
set_option maxRecDepth 100000 in
set_option maxHeartbeats 4000000 in
theorem ok_X12_picture (a1 : Int32) (a2 : Int32) (h : Hp) (rZ : Int32) (hZ : Hp) (eZ : F_X12_picture a1 a2 h = some (rZ, hZ)) : AC yX12_picture cX12_picture 3 (some .int) 5 124 [.ref 117, .int a1, .int a2] h (eI rZ) hZ := by
  refine AC_intro (o := F_X12_picture a1 a2 h) RX12 rfl (plainFor_of_name (by decide)) [some (.ref 117), some (.int a1), some (.int a2)] rfl (fun _ => rfl) (fun _ => Nat.le_of_ble_eq_true rfl) eZ (fun K C => ?_)
  unfold F_X12_picture
  refine gf_aload_n C dX12_picture_0 rfl rfl (gf_iload_n C dX12_picture_1 rfl rfl ?_)
  refine gf_callV (ε2 := eI) C [.int a1] dX12_picture_2 mw_X12_isPicture ml_X12_269 s_117 (fun rZ hZ eZ => ok_X12_isPicture a1 h rZ hZ eZ) rfl rfl rfl (Nat.le_of_ble_eq_true rfl) (Nat.le_of_ble_eq_true rfl) (Nat.le_of_ble_eq_true rfl) (fun r1 h2 => ?_)
  refine gf_ifne C 11 dX12_picture_5 (by decide) (fun _ => ?_) (fun _ => ?_)
  · refine gf_bipush C dX12_picture_8 kb_m2 ?_
    exact gf_iret C dX12_picture_10 rfl
  · refine gf_aload_n C dX12_picture_11 rfl rfl (gf_iload_n C dX12_picture_12 rfl rfl ?_)
    refine gf_callV (ε2 := eV) C [.int a1] dX12_picture_13 mw_X12_layWindow ml_X12_214 s_117 (fun rZ hZ eZ => ok_X12_layWindow a1 h2 rZ hZ eZ) rfl rfl rfl (Nat.le_of_ble_eq_true rfl) (Nat.le_of_ble_eq_true rfl) (Nat.le_of_ble_eq_true rfl) (fun _ h3 => ?_)
    refine gf_iload_n C dX12_picture_16 rfl rfl ?_
    refine gf_jn (fun (j5 : Hp → Option (Int32 × Hp)) => ∀ (h4 : Hp), GF K eI h4 78 [some (.ref 117), some (.int a1), some (.int a2)] [] (j5 h4)) ?_ (fun j5 kj5 => ?_)
    · intro h4
      refine gf_aload_n C dX12_picture_78 rfl rfl (gf_getR C dX12_picture_79 fl_X12_54 s_117 rfl 129 rfl (gf_iload_n C dX12_picture_82 rfl rfl (gf_lald C dX12_picture_83 s_129 (gf_iload_n C dX12_picture_84 rfl rfl (gf_iconst C dX12_picture_85 ki_2 (gf_isub C dX12_picture_86 ?_))))))
      refine gf_callS (ε2 := eI) C [.long (lG h4 129 a1.toNatClampNeg), .int (a2 - (2 : Int32))] dX12_picture_87 mw_X12_shown ml_X12_279 (fun rZ hZ eZ => ok_X12_shown (lG h4 129 a1.toNatClampNeg) (a2 - (2 : Int32)) h4 rZ hZ eZ) rfl rfl rfl (Nat.le_of_ble_eq_true rfl) (Nat.le_of_ble_eq_true rfl) (Nat.le_of_ble_eq_true rfl) (fun r6 h7 => ?_)
      exact gf_iret C dX12_picture_90 rfl
    refine gf_jn (fun (j9 : Hp → Option (Int32 × Hp)) => ∀ (h8 : Hp), GF K eI h8 62 [some (.ref 117), some (.int a1), some (.int a2)] [] (j9 h8)) ?_ (fun j9 kj9 => ?_)
    · intro h8
      refine gf_aload_n C dX12_picture_62 rfl rfl (gf_iload_n C dX12_picture_63 rfl rfl (gf_iload_n C dX12_picture_64 rfl rfl (gf_iconst C dX12_picture_65 ki_1 ?_)))
      refine gf_jn (fun (j12 : Int32 → Hp → Option (Int32 × Hp)) => ∀ (s10 : Int32) (h11 : Hp), GF K eI h11 74 [none, none, none] [.int s10, .int a1, .ref 117] (j12 s10 h11)) ?_ (fun j12 kj12 => ?_)
      · intro s10 h11
        refine gf_callV (ε2 := eI) C [.int a1, .int s10] dX12_picture_74 mw_X12_countOf ml_X12_275 s_117 (fun rZ hZ eZ => ok_X12_countOf a1 s10 h11 rZ hZ eZ) rfl rfl rfl (Nat.le_of_ble_eq_true rfl) (Nat.le_of_ble_eq_true rfl) (Nat.le_of_ble_eq_true rfl) (fun r13 h14 => ?_)
        exact gf_iret C dX12_picture_77 rfl
      refine gf_icmpne C 73 dX12_picture_66 (by decide) (fun _ => ?_) (fun _ => ?_)
      · refine gf_iconst C dX12_picture_69 ki_1 ?_
        refine gf_goto C 74 dX12_picture_70 (by decide) ?_
        exact gf_sub [none, none, none] trivial (kj12 (1 : Int32) h8)
      · refine gf_iconst C dX12_picture_73 ki_0 ?_
        exact gf_sub [none, none, none] trivial (kj12 (0 : Int32) h8)
    refine gf_swC (off := 39) C (0 : Int32) 56 dX12_picture_17 (by decide) (by decide) (by decide) (by decide) (fun _ => ?_) (fun c17 => ?_)
    · refine gf_aload_n C dX12_picture_56 rfl rfl (gf_iload_n C dX12_picture_57 rfl rfl ?_)
      refine gf_callV (ε2 := eI) C [.int a1] dX12_picture_58 mw_X12_lettersOf ml_X12_272 s_117 (fun rZ hZ eZ => ok_X12_lettersOf a1 h3 rZ hZ eZ) rfl rfl rfl (Nat.le_of_ble_eq_true rfl) (Nat.le_of_ble_eq_true rfl) (Nat.le_of_ble_eq_true rfl) (fun r15 h16 => ?_)
      exact gf_iret C dX12_picture_61 rfl
    refine gf_swC (off := 45) C (1 : Int32) 62 dX12_picture_17 (by decide) (by decide) (by decide) (by decide) (fun _ => ?_) (fun c18 => ?_)
    · exact gf_sub [some (.ref 117), some (.int a1), some (.int a2)] (And.intro rfl (And.intro rfl (And.intro rfl trivial))) (kj9 h3)
    refine gf_swC (off := 61) C (2 : Int32) 78 dX12_picture_17 (by decide) (by decide) (by decide) (by decide) (fun _ => ?_) (fun c19 => ?_)
    · exact gf_sub [some (.ref 117), some (.int a1), some (.int a2)] (And.intro rfl (And.intro rfl (And.intro rfl trivial))) (kj5 h3)
    refine gf_swC (off := 61) C (3 : Int32) 78 dX12_picture_17 (by decide) (by decide) (by decide) (by decide) (fun _ => ?_) (fun c20 => ?_)
    · exact gf_sub [some (.ref 117), some (.int a1), some (.int a2)] (And.intro rfl (And.intro rfl (And.intro rfl trivial))) (kj5 h3)
    refine gf_swC (off := 61) C (4 : Int32) 78 dX12_picture_17 (by decide) (by decide) (by decide) (by decide) (fun _ => ?_) (fun c21 => ?_)
    · exact gf_sub [some (.ref 117), some (.int a1), some (.int a2)] (And.intro rfl (And.intro rfl (And.intro rfl trivial))) (kj5 h3)
    refine gf_swC (off := 45) C (5 : Int32) 62 dX12_picture_17 (by decide) (by decide) (by decide) (by decide) (fun _ => ?_) (fun c22 => ?_)
    · exact gf_sub [some (.ref 117), some (.int a1), some (.int a2)] (And.intro rfl (And.intro rfl (And.intro rfl trivial))) (kj9 h3)
    have c17 := lv_neT c17 (a := 0) (by decide)
    have c18 := lv_neT c18 (a := 1) (by decide)
    have c19 := lv_neT c19 (a := 2) (by decide)
    have c20 := lv_neT c20 (a := 3) (by decide)
    have c21 := lv_neT c21 (a := 4) (by decide)
    have c22 := lv_neT c22 (a := 5) (by decide)
    refine gf_swD C 91 dX12_picture_17 (by omega) (by decide) ?_
    refine gf_bipush C dX12_picture_91 kb_m3 ?_
    exact gf_iret C dX12_picture_93 rfl
def F_X12_thing (a1 : Int32) (a2 : Int32) (h : Hp) : Option (Int32 × Hp) :=
  bd (F_X12_within a1 (0 : Int32) ((sG h 7506) - (1 : Int32)) h) (fun r1 h2 => if r1 = 0 then (
  some ((-2 : Int32), h2)) else (
  bd (F_X12_within a2 (0 : Int32) (2 : Int32) h2) (fun r3 h4 => if r3 = 0 then (
  some ((-3 : Int32), h4)) else (
  (lp 4000000000 (fun (c8 : Int32 → Int32 → Hp → Option (Int32 × Hp)) (v5 : Int32) (v6 : Int32) (h7 : Hp) =>
  if v6 < (sG h7 7504) then (
  bd (F_X12_value v6 ((2 : Int32) + a1) h7) (fun r9 h10 => jn (fun (s11 : Int32) (h12 : Hp) =>
  jl (v5 ||| s11) (fun x14 => c8 x14 (v6 + (1 : Int32)) h12)) (fun j13 => jn (fun (h15 : Hp) =>
  j13 (0 : Int32) h15) (fun j16 => if r9 < (a2 - (1 : Int32)) then (
  j16 h10) else (
  bd (F_X12_value v6 ((2 : Int32) + a1) h10) (fun r17 h18 => if r17 = (-1 : Int32) then (
  j16 h18) else (
  j13 ((1 : Int32) <<< (v6 &&& 31)) h18))))))) else (
  jn (fun (s19 : Int32) (h20 : Hp) =>
  some (s19, h20)) (fun j21 => if a2 = 0 then (
  gd (inb a1 6) ( j21 (aG h7 123 a1.toNatClampNeg) h7)) else (
  j21 v5 h7)))) (fun _ _ _ => none)) (0 : Int32) (0 : Int32) h4))))
set_option maxRecDepth 100000 in
set_option maxHeartbeats 4000000 in
theorem ok_X12_thing (a1 : Int32) (a2 : Int32) (h : Hp) (rZ : Int32) (hZ : Hp) (eZ : F_X12_thing a1 a2 h = some (rZ, hZ)) : AC yX12_thing cX12_thing 5 (some .int) 2 47 [.ref 117, .int a1, .int a2] h (eI rZ) hZ := by
  refine AC_intro (o := F_X12_thing a1 a2 h) RX12 rfl (plainFor_of_name (by decide)) [some (.ref 117), some (.int a1), some (.int a2), none, none] rfl (fun _ => rfl) (fun _ => Nat.le_of_ble_eq_true rfl) eZ (fun K C => ?_)
  unfold F_X12_thing
  refine gf_iload_n C dX12_thing_0 rfl rfl (gf_iconst C dX12_thing_1 ki_0 (gf_aload_n C dX12_thing_2 rfl rfl (gf_getI C dX12_thing_3 fl_X12_169 s_117 rfl 7506 rfl (gf_iconst C dX12_thing_6 ki_1 (gf_isub C dX12_thing_7 ?_)))))
  refine gf_callS (ε2 := eI) C [.int a1, .int (0 : Int32), .int ((sG h 7506) - (1 : Int32))] dX12_thing_8 mw_X12_within ml_X12_88 (fun rZ hZ eZ => ok_X12_within a1 (0 : Int32) ((sG h 7506) - (1 : Int32)) h rZ hZ eZ) rfl rfl rfl (Nat.le_of_ble_eq_true rfl) (Nat.le_of_ble_eq_true rfl) (Nat.le_of_ble_eq_true rfl) (fun r1 h2 => ?_)
  refine gf_ifne C 17 dX12_thing_11 (by decide) (fun _ => ?_) (fun _ => ?_)
  · refine gf_bipush C dX12_thing_14 kb_m2 ?_
    exact gf_iret C dX12_thing_16 rfl
  · refine gf_iload_n C dX12_thing_17 rfl rfl (gf_iconst C dX12_thing_18 ki_0 (gf_iconst C dX12_thing_19 ki_2 ?_))
    refine gf_callS (ε2 := eI) C [.int a2, .int (0 : Int32), .int (2 : Int32)] dX12_thing_20 mw_X12_within ml_X12_88 (fun rZ hZ eZ => ok_X12_within a2 (0 : Int32) (2 : Int32) h2 rZ hZ eZ) rfl rfl rfl (Nat.le_of_ble_eq_true rfl) (Nat.le_of_ble_eq_true rfl) (Nat.le_of_ble_eq_true rfl) (fun r3 h4 => ?_)
    refine gf_ifne C 29 dX12_thing_23 (by decide) (fun _ => ?_) (fun _ => ?_)
    · refine gf_bipush C dX12_thing_26 kb_m3 ?_
      exact gf_iret C dX12_thing_28 rfl
    · refine gf_iconst C dX12_thing_29 ki_0 (gf_istore_n C dX12_thing_30 rfl [some (.ref 117), some (.int a1), some (.int a2), some (.int (0 : Int32)), none] rfl rfl (Nat.le_of_ble_eq_true rfl) (gf_iconst C dX12_thing_31 ki_0 (gf_istore C dX12_thing_32 [some (.ref 117), some (.int a1), some (.int a2), some (.int (0 : Int32)), some (.int (0 : Int32))] rfl rfl (Nat.le_of_ble_eq_true rfl) ?_)))
      refine gf_sub [some (.ref 117), some (.int a1), some (.int a2), some (.int (0 : Int32)), some (.int (0 : Int32))] (And.intro rfl (And.intro rfl (And.intro rfl (And.intro rfl (And.intro rfl trivial))))) ?_
      refine lp_P (fun (c8 : Int32 → Int32 → Hp → Option (Int32 × Hp)) => ∀ (v5 : Int32) (v6 : Int32) (h7 : Hp), GF K eI h7 34 [some (.ref 117), some (.int a1), some (.int a2), some (.int v5), some (.int v6)] [] (c8 v5 v6 h7)) (fun _ _ _ => gf_none) (fun c8 kc8 v5 v6 h7 => ?_) (0 : Int32) (0 : Int32) h4
      refine gf_iload C dX12_thing_34 rfl (gf_aload_n C dX12_thing_36 rfl rfl (gf_getI C dX12_thing_37 fl_X12_166 s_117 rfl 7504 rfl ?_))
      refine gf_icmpge C 88 dX12_thing_40 (by decide) (fun _ => ?_) (fun _ => ?_)
      · refine gf_iload_n C dX12_thing_43 rfl rfl (gf_aload_n C dX12_thing_44 rfl rfl (gf_iload C dX12_thing_45 rfl (gf_iconst C dX12_thing_47 ki_2 (gf_iload_n C dX12_thing_48 rfl rfl (gf_iadd C dX12_thing_49 ?_)))))
        refine gf_callV (ε2 := eI) C [.int v6, .int ((2 : Int32) + a1)] dX12_thing_50 mw_X12_value ml_X12_211 s_117 (fun rZ hZ eZ => ok_X12_value v6 ((2 : Int32) + a1) h7 rZ hZ eZ) rfl rfl rfl (Nat.le_of_ble_eq_true rfl) (Nat.le_of_ble_eq_true rfl) (Nat.le_of_ble_eq_true rfl) (fun r9 h10 => ?_)
        refine gf_iload_n C dX12_thing_53 rfl rfl (gf_iconst C dX12_thing_54 ki_1 (gf_isub C dX12_thing_55 ?_))
        refine gf_jn (fun (j13 : Int32 → Hp → Option (Int32 × Hp)) => ∀ (s11 : Int32) (h12 : Hp), GF K eI h12 80 [some (.ref 117), some (.int a1), some (.int a2), none, some (.int v6)] [.int s11, .int v5] (j13 s11 h12)) ?_ (fun j13 kj13 => ?_)
        · intro s11 h12
          refine gf_ior C dX12_thing_80 ?_
          refine gf_jlI (fun x14 => ?_)
          refine gf_istore_n C dX12_thing_81 rfl [some (.ref 117), some (.int a1), some (.int a2), some (.int x14), some (.int v6)] rfl rfl (Nat.le_of_ble_eq_true rfl) (gf_iinc C dX12_thing_82 rfl (ii_1 _) [some (.ref 117), some (.int a1), some (.int a2), some (.int x14), some (.int (v6 + (1 : Int32)))] rfl rfl ?_)
          refine gf_goto C 34 dX12_thing_85 (by decide) ?_
          exact gf_sub [some (.ref 117), some (.int a1), some (.int a2), some (.int x14), some (.int (v6 + (1 : Int32)))] (And.intro rfl (And.intro rfl (And.intro rfl (And.intro rfl (And.intro rfl trivial))))) (kc8 x14 (v6 + (1 : Int32)) h12)
        refine gf_jn (fun (j16 : Hp → Option (Int32 × Hp)) => ∀ (h15 : Hp), GF K eI h15 79 [some (.ref 117), some (.int a1), some (.int a2), none, some (.int v6)] [.int v5] (j16 h15)) ?_ (fun j16 kj16 => ?_)
        · intro h15
          refine gf_iconst C dX12_thing_79 ki_0 ?_
          exact gf_sub [some (.ref 117), some (.int a1), some (.int a2), none, some (.int v6)] (And.intro rfl (And.intro rfl (And.intro rfl (And.intro rfl trivial)))) (kj13 (0 : Int32) h15)
        refine gf_icmplt C 79 dX12_thing_56 (by decide) (fun _ => ?_) (fun _ => ?_)
        · exact gf_sub [some (.ref 117), some (.int a1), some (.int a2), none, some (.int v6)] (And.intro rfl (And.intro rfl (And.intro rfl (And.intro rfl trivial)))) (kj16 h10)
        · refine gf_aload_n C dX12_thing_59 rfl rfl (gf_iload C dX12_thing_60 rfl (gf_iconst C dX12_thing_62 ki_2 (gf_iload_n C dX12_thing_63 rfl rfl (gf_iadd C dX12_thing_64 ?_))))
          refine gf_callV (ε2 := eI) C [.int v6, .int ((2 : Int32) + a1)] dX12_thing_65 mw_X12_value ml_X12_211 s_117 (fun rZ hZ eZ => ok_X12_value v6 ((2 : Int32) + a1) h10 rZ hZ eZ) rfl rfl rfl (Nat.le_of_ble_eq_true rfl) (Nat.le_of_ble_eq_true rfl) (Nat.le_of_ble_eq_true rfl) (fun r17 h18 => ?_)
          refine gf_iconst C dX12_thing_68 ki_m1 ?_
          refine gf_icmpeq C 79 dX12_thing_69 (by decide) (fun _ => ?_) (fun _ => ?_)
          · exact gf_sub [some (.ref 117), some (.int a1), some (.int a2), none, some (.int v6)] (And.intro rfl (And.intro rfl (And.intro rfl (And.intro rfl trivial)))) (kj16 h18)
          · refine gf_iconst C dX12_thing_72 ki_1 (gf_iload C dX12_thing_73 rfl (gf_ishl C dX12_thing_75 ?_))
            refine gf_goto C 80 dX12_thing_76 (by decide) ?_
            exact gf_sub [some (.ref 117), some (.int a1), some (.int a2), none, some (.int v6)] (And.intro rfl (And.intro rfl (And.intro rfl (And.intro rfl trivial)))) (kj13 ((1 : Int32) <<< (v6 &&& 31)) h18)
      · refine gf_iload_n C dX12_thing_88 rfl rfl ?_
        refine gf_jn (fun (j21 : Int32 → Hp → Option (Int32 × Hp)) => ∀ (s19 : Int32) (h20 : Hp), GF K eI h20 102 [none, none, none, none, none] [.int s19] (j21 s19 h20)) ?_ (fun j21 kj21 => ?_)
        · intro s19 h20
          exact gf_iret C dX12_thing_102 rfl
        refine gf_ifne C 101 dX12_thing_89 (by decide) (fun _ => ?_) (fun _ => ?_)
        · refine gf_aload_n C dX12_thing_92 rfl rfl (gf_getR C dX12_thing_93 fl_X12_35 s_117 rfl 123 rfl (gf_iload_n C dX12_thing_96 rfl rfl (gf_iald C dX12_thing_97 s_123 ?_)))
          refine gf_goto C 102 dX12_thing_98 (by decide) ?_
          exact gf_sub [none, none, none, none, none] trivial (kj21 (aG h7 123 a1.toNatClampNeg) h7)
        · refine gf_iload_n C dX12_thing_101 rfl rfl ?_
          exact gf_sub [none, none, none, none, none] trivial (kj21 v5 h7)
def F_X12_piece (a1 : Int32) (a2 : Int32) (a3 : Int32) (h : Hp) : Option (Int32 × Hp) :=
  bd (F_X12_isPicture a1 h) (fun r1 h2 => if r1 = 0 then (
  some ((-2 : Int32), h2)) else (
  bd (F_X12_isMatter a2 h2) (fun r3 h4 => jn (fun (h5 : Hp) =>
  some ((-3 : Int32), h5)) (fun j6 => if r3 = 0 then (
  j6 h4) else (
  bd (F_X12_within a3 (0 : Int32) (2 : Int32) h4) (fun r7 h8 => if r7 = 0 then (
  j6 h8) else (
  bd (F_X12_pieceAt a1 a2 h8) (fun r9 h10 => jn (fun (s11 : Int32) (h12 : Hp) =>
  some (s11, h12)) (fun j13 => if r9 = (-1 : Int32) then (
  j13 (-1 : Int32) h10) else (
  if a3 = (2 : Int32) then (
  j13 r9 h10) else (
  jl ((((4 : Int32) * r9) + (3 : Int32)) + a3) (fun x14 => gd (inb x14 225) ( j13 (aG h10 124 x14.toNatClampNeg) h10)))))))))))))
set_option maxRecDepth 100000 in
set_option maxHeartbeats 4000000 in
theorem ok_X12_piece (a1 : Int32) (a2 : Int32) (a3 : Int32) (h : Hp) (rZ : Int32) (hZ : Hp) (eZ : F_X12_piece a1 a2 a3 h = some (rZ, hZ)) : AC yX12_piece cX12_piece 5 (some .int) 2 43 [.ref 117, .int a1, .int a2, .int a3] h (eI rZ) hZ := by
  refine AC_intro (o := F_X12_piece a1 a2 a3 h) RX12 rfl (plainFor_of_name (by decide)) [some (.ref 117), some (.int a1), some (.int a2), some (.int a3), none] rfl (fun _ => rfl) (fun _ => Nat.le_of_ble_eq_true rfl) eZ (fun K C => ?_)
  unfold F_X12_piece
  refine gf_aload_n C dX12_piece_0 rfl rfl (gf_iload_n C dX12_piece_1 rfl rfl ?_)
  refine gf_callV (ε2 := eI) C [.int a1] dX12_piece_2 mw_X12_isPicture ml_X12_269 s_117 (fun rZ hZ eZ => ok_X12_isPicture a1 h rZ hZ eZ) rfl rfl rfl (Nat.le_of_ble_eq_true rfl) (Nat.le_of_ble_eq_true rfl) (Nat.le_of_ble_eq_true rfl) (fun r1 h2 => ?_)
  refine gf_ifne C 11 dX12_piece_5 (by decide) (fun _ => ?_) (fun _ => ?_)
  · refine gf_bipush C dX12_piece_8 kb_m2 ?_
    exact gf_iret C dX12_piece_10 rfl
  · refine gf_aload_n C dX12_piece_11 rfl rfl (gf_iload_n C dX12_piece_12 rfl rfl ?_)
    refine gf_callV (ε2 := eI) C [.int a2] dX12_piece_13 mw_X12_isMatter ml_X12_282 s_117 (fun rZ hZ eZ => ok_X12_isMatter a2 h2 rZ hZ eZ) rfl rfl rfl (Nat.le_of_ble_eq_true rfl) (Nat.le_of_ble_eq_true rfl) (Nat.le_of_ble_eq_true rfl) (fun r3 h4 => ?_)
    refine gf_jn (fun (j6 : Hp → Option (Int32 × Hp)) => ∀ (h5 : Hp), GF K eI h5 28 [none, none, none, none, none] [] (j6 h5)) ?_ (fun j6 kj6 => ?_)
    · intro h5
      refine gf_bipush C dX12_piece_28 kb_m3 ?_
      exact gf_iret C dX12_piece_30 rfl
    refine gf_ifeq C 28 dX12_piece_16 (by decide) (fun _ => ?_) (fun _ => ?_)
    · exact gf_sub [none, none, none, none, none] trivial (kj6 h4)
    · refine gf_iload_n C dX12_piece_19 rfl rfl (gf_iconst C dX12_piece_20 ki_0 (gf_iconst C dX12_piece_21 ki_2 ?_))
      refine gf_callS (ε2 := eI) C [.int a3, .int (0 : Int32), .int (2 : Int32)] dX12_piece_22 mw_X12_within ml_X12_88 (fun rZ hZ eZ => ok_X12_within a3 (0 : Int32) (2 : Int32) h4 rZ hZ eZ) rfl rfl rfl (Nat.le_of_ble_eq_true rfl) (Nat.le_of_ble_eq_true rfl) (Nat.le_of_ble_eq_true rfl) (fun r7 h8 => ?_)
      refine gf_ifne C 31 dX12_piece_25 (by decide) (fun _ => ?_) (fun _ => ?_)
      · exact gf_sub [none, none, none, none, none] trivial (kj6 h8)
      · refine gf_aload_n C dX12_piece_31 rfl rfl (gf_iload_n C dX12_piece_32 rfl rfl (gf_iload_n C dX12_piece_33 rfl rfl ?_))
        refine gf_callV (ε2 := eI) C [.int a1, .int a2] dX12_piece_34 mw_X12_pieceAt ml_X12_192 s_117 (fun rZ hZ eZ => ok_X12_pieceAt a1 a2 h8 rZ hZ eZ) rfl rfl rfl (Nat.le_of_ble_eq_true rfl) (Nat.le_of_ble_eq_true rfl) (Nat.le_of_ble_eq_true rfl) (fun r9 h10 => ?_)
        refine gf_istore C dX12_piece_37 [some (.ref 117), some (.int a1), some (.int a2), some (.int a3), some (.int r9)] rfl rfl (Nat.le_of_ble_eq_true rfl) (gf_iload C dX12_piece_39 rfl (gf_iconst C dX12_piece_41 ki_m1 ?_))
        refine gf_jn (fun (j13 : Int32 → Hp → Option (Int32 × Hp)) => ∀ (s11 : Int32) (h12 : Hp), GF K eI h12 72 [none, none, none, none, none] [.int s11] (j13 s11 h12)) ?_ (fun j13 kj13 => ?_)
        · intro s11 h12
          exact gf_iret C dX12_piece_72 rfl
        refine gf_icmpne C 49 dX12_piece_42 (by decide) (fun _ => ?_) (fun _ => ?_)
        · refine gf_iconst C dX12_piece_45 ki_m1 ?_
          refine gf_goto C 72 dX12_piece_46 (by decide) ?_
          exact gf_sub [none, none, none, none, none] trivial (kj13 (-1 : Int32) h10)
        · refine gf_iload_n C dX12_piece_49 rfl rfl (gf_iconst C dX12_piece_50 ki_2 ?_)
          refine gf_icmpne C 59 dX12_piece_51 (by decide) (fun _ => ?_) (fun _ => ?_)
          · refine gf_iload C dX12_piece_54 rfl ?_
            refine gf_goto C 72 dX12_piece_56 (by decide) ?_
            exact gf_sub [none, none, none, none, none] trivial (kj13 r9 h10)
          · refine gf_aload_n C dX12_piece_59 rfl rfl (gf_getR C dX12_piece_60 fl_X12_38 s_117 rfl 124 rfl (gf_iconst C dX12_piece_63 ki_4 (gf_iload C dX12_piece_64 rfl (gf_imul C dX12_piece_66 (gf_iconst C dX12_piece_67 ki_3 (gf_iadd C dX12_piece_68 (gf_iload_n C dX12_piece_69 rfl rfl ?_)))))))
            refine gf_iadd C dX12_piece_70 ?_
            refine gf_jlI (fun x14 => ?_)
            refine gf_iald C dX12_piece_71 s_124 ?_
            exact gf_sub [none, none, none, none, none] trivial (kj13 (aG h10 124 x14.toNatClampNeg) h10)
def F_X12_told (a1 : Int32) (a2 : Int32) (h : Hp) : Option (Int32 × Hp) :=
  jn (fun (h1 : Hp) =>
  some ((-3 : Int32), h1)) (fun j2 => if a1 < 0 then (
  j2 h) else (
  bd (F_X12_within a2 (0 : Int32) (1 : Int32) h) (fun r3 h4 => if r3 = 0 then (
  j2 h4) else (
  gd (inb (0 : Int32) 225) ( jn (fun (s5 : Int32) (h6 : Hp) =>
  some (s5, h6)) (fun j7 => if a1 < (aG h4 124 (0 : Int32).toNatClampNeg) then (
  jl ((((4 : Int32) * a1) + (1 : Int32)) + a2) (fun x8 => gd (inb x8 225) ( j7 (aG h4 124 x8.toNatClampNeg) h4))) else (
  j7 (-1 : Int32) h4)))))))
set_option maxRecDepth 100000 in
set_option maxHeartbeats 4000000 in
theorem ok_X12_told (a1 : Int32) (a2 : Int32) (h : Hp) (rZ : Int32) (hZ : Hp) (eZ : F_X12_told a1 a2 h = some (rZ, hZ)) : AC yX12_told cX12_told 3 (some .int) 1 22 [.ref 117, .int a1, .int a2] h (eI rZ) hZ := by
  refine AC_intro (o := F_X12_told a1 a2 h) RX12 rfl (plainFor_of_name (by decide)) [some (.ref 117), some (.int a1), some (.int a2)] rfl (fun _ => rfl) (fun _ => Nat.le_of_ble_eq_true rfl) eZ (fun K C => ?_)
  unfold F_X12_told
  refine gf_iload_n C dX12_told_0 rfl rfl ?_
  refine gf_jn (fun (j2 : Hp → Option (Int32 × Hp)) => ∀ (h1 : Hp), GF K eI h1 13 [none, none, none] [] (j2 h1)) ?_ (fun j2 kj2 => ?_)
  · intro h1
    refine gf_bipush C dX12_told_13 kb_m3 ?_
    exact gf_iret C dX12_told_15 rfl
  refine gf_iflt C 13 dX12_told_1 (by decide) (fun _ => ?_) (fun _ => ?_)
  · exact gf_sub [none, none, none] trivial (kj2 h)
  · refine gf_iload_n C dX12_told_4 rfl rfl (gf_iconst C dX12_told_5 ki_0 (gf_iconst C dX12_told_6 ki_1 ?_))
    refine gf_callS (ε2 := eI) C [.int a2, .int (0 : Int32), .int (1 : Int32)] dX12_told_7 mw_X12_within ml_X12_88 (fun rZ hZ eZ => ok_X12_within a2 (0 : Int32) (1 : Int32) h rZ hZ eZ) rfl rfl rfl (Nat.le_of_ble_eq_true rfl) (Nat.le_of_ble_eq_true rfl) (Nat.le_of_ble_eq_true rfl) (fun r3 h4 => ?_)
    refine gf_ifne C 16 dX12_told_10 (by decide) (fun _ => ?_) (fun _ => ?_)
    · exact gf_sub [none, none, none] trivial (kj2 h4)
    · refine gf_iload_n C dX12_told_16 rfl rfl (gf_aload_n C dX12_told_17 rfl rfl (gf_getR C dX12_told_18 fl_X12_38 s_117 rfl 124 rfl (gf_iconst C dX12_told_21 ki_0 (gf_iald C dX12_told_22 s_124 ?_))))
      refine gf_jn (fun (j7 : Int32 → Hp → Option (Int32 × Hp)) => ∀ (s5 : Int32) (h6 : Hp), GF K eI h6 42 [none, none, none] [.int s5] (j7 s5 h6)) ?_ (fun j7 kj7 => ?_)
      · intro s5 h6
        exact gf_iret C dX12_told_42 rfl
      refine gf_icmpge C 41 dX12_told_23 (by decide) (fun _ => ?_) (fun _ => ?_)
      · refine gf_aload_n C dX12_told_26 rfl rfl (gf_getR C dX12_told_27 fl_X12_38 s_117 rfl 124 rfl (gf_iconst C dX12_told_30 ki_4 (gf_iload_n C dX12_told_31 rfl rfl (gf_imul C dX12_told_32 (gf_iconst C dX12_told_33 ki_1 (gf_iadd C dX12_told_34 (gf_iload_n C dX12_told_35 rfl rfl ?_)))))))
        refine gf_iadd C dX12_told_36 ?_
        refine gf_jlI (fun x8 => ?_)
        refine gf_iald C dX12_told_37 s_124 ?_
        refine gf_goto C 42 dX12_told_38 (by decide) ?_
        exact gf_sub [none, none, none] trivial (kj7 (aG h4 124 x8.toNatClampNeg) h4)
      · refine gf_iconst C dX12_told_41 ki_m1 ?_
        exact gf_sub [none, none, none] trivial (kj7 (-1 : Int32) h4)
def F_X12_sun (a1 : Int32) (a2 : Int32) (h : Hp) : Option (Int32 × Hp) :=
  bd (F_X12_within a1 (0 : Int32) (47 : Int32) h) (fun r1 h2 => jn (fun (h3 : Hp) =>
  some ((-3 : Int32), h3)) (fun j4 => if r1 = 0 then (
  j4 h2) else (
  bd (F_X12_within a2 (0 : Int32) (1 : Int32) h2) (fun r5 h6 => if r5 = 0 then (
  j4 h6) else (
  bd (F_X12_isUp a1 h6) (fun r7 h8 => jn (fun (s9 : Int32) (h10 : Hp) =>
  some (s9, h10)) (fun j11 => if r7 = 0 then (
  j11 (-1 : Int32) h8) else (
  if a2 = 0 then (
  bd (F_X12_pointAt a1 h8) (fun r12 h13 => j11 r12 h13)) else (
  bd (F_X12_lengthAt a1 h8) (fun r14 h15 => j11 r14 h15))))))))))
set_option maxRecDepth 100000 in
set_option maxHeartbeats 4000000 in
theorem ok_X12_sun (a1 : Int32) (a2 : Int32) (h : Hp) (rZ : Int32) (hZ : Hp) (eZ : F_X12_sun a1 a2 h = some (rZ, hZ)) : AC yX12_sun cX12_sun 3 (some .int) 2 43 [.ref 117, .int a1, .int a2] h (eI rZ) hZ := by
  refine AC_intro (o := F_X12_sun a1 a2 h) RX12 rfl (plainFor_of_name (by decide)) [some (.ref 117), some (.int a1), some (.int a2)] rfl (fun _ => rfl) (fun _ => Nat.le_of_ble_eq_true rfl) eZ (fun K C => ?_)
  unfold F_X12_sun
  refine gf_iload_n C dX12_sun_0 rfl rfl (gf_iconst C dX12_sun_1 ki_0 (gf_bipush C dX12_sun_2 kb_47 ?_))
  refine gf_callS (ε2 := eI) C [.int a1, .int (0 : Int32), .int (47 : Int32)] dX12_sun_4 mw_X12_within ml_X12_88 (fun rZ hZ eZ => ok_X12_within a1 (0 : Int32) (47 : Int32) h rZ hZ eZ) rfl rfl rfl (Nat.le_of_ble_eq_true rfl) (Nat.le_of_ble_eq_true rfl) (Nat.le_of_ble_eq_true rfl) (fun r1 h2 => ?_)
  refine gf_jn (fun (j4 : Hp → Option (Int32 × Hp)) => ∀ (h3 : Hp), GF K eI h3 19 [none, none, none] [] (j4 h3)) ?_ (fun j4 kj4 => ?_)
  · intro h3
    refine gf_bipush C dX12_sun_19 kb_m3 ?_
    exact gf_iret C dX12_sun_21 rfl
  refine gf_ifeq C 19 dX12_sun_7 (by decide) (fun _ => ?_) (fun _ => ?_)
  · exact gf_sub [none, none, none] trivial (kj4 h2)
  · refine gf_iload_n C dX12_sun_10 rfl rfl (gf_iconst C dX12_sun_11 ki_0 (gf_iconst C dX12_sun_12 ki_1 ?_))
    refine gf_callS (ε2 := eI) C [.int a2, .int (0 : Int32), .int (1 : Int32)] dX12_sun_13 mw_X12_within ml_X12_88 (fun rZ hZ eZ => ok_X12_within a2 (0 : Int32) (1 : Int32) h2 rZ hZ eZ) rfl rfl rfl (Nat.le_of_ble_eq_true rfl) (Nat.le_of_ble_eq_true rfl) (Nat.le_of_ble_eq_true rfl) (fun r5 h6 => ?_)
    refine gf_ifne C 22 dX12_sun_16 (by decide) (fun _ => ?_) (fun _ => ?_)
    · exact gf_sub [none, none, none] trivial (kj4 h6)
    · refine gf_aload_n C dX12_sun_22 rfl rfl (gf_iload_n C dX12_sun_23 rfl rfl ?_)
      refine gf_callV (ε2 := eI) C [.int a1] dX12_sun_24 mw_X12_isUp ml_X12_198 s_117 (fun rZ hZ eZ => ok_X12_isUp a1 h6 rZ hZ eZ) rfl rfl rfl (Nat.le_of_ble_eq_true rfl) (Nat.le_of_ble_eq_true rfl) (Nat.le_of_ble_eq_true rfl) (fun r7 h8 => ?_)
      refine gf_jn (fun (j11 : Int32 → Hp → Option (Int32 × Hp)) => ∀ (s9 : Int32) (h10 : Hp), GF K eI h10 51 [none, none, none] [.int s9] (j11 s9 h10)) ?_ (fun j11 kj11 => ?_)
      · intro s9 h10
        exact gf_iret C dX12_sun_51 rfl
      refine gf_ifne C 34 dX12_sun_27 (by decide) (fun _ => ?_) (fun _ => ?_)
      · refine gf_iconst C dX12_sun_30 ki_m1 ?_
        refine gf_goto C 51 dX12_sun_31 (by decide) ?_
        exact gf_sub [none, none, none] trivial (kj11 (-1 : Int32) h8)
      · refine gf_iload_n C dX12_sun_34 rfl rfl ?_
        refine gf_ifne C 46 dX12_sun_35 (by decide) (fun _ => ?_) (fun _ => ?_)
        · refine gf_aload_n C dX12_sun_38 rfl rfl (gf_iload_n C dX12_sun_39 rfl rfl ?_)
          refine gf_callV (ε2 := eI) C [.int a1] dX12_sun_40 mw_X12_pointAt ml_X12_195 s_117 (fun rZ hZ eZ => ok_X12_pointAt a1 h8 rZ hZ eZ) rfl rfl rfl (Nat.le_of_ble_eq_true rfl) (Nat.le_of_ble_eq_true rfl) (Nat.le_of_ble_eq_true rfl) (fun r12 h13 => ?_)
          refine gf_goto C 51 dX12_sun_43 (by decide) ?_
          exact gf_sub [none, none, none] trivial (kj11 r12 h13)
        · refine gf_aload_n C dX12_sun_46 rfl rfl (gf_iload_n C dX12_sun_47 rfl rfl ?_)
          refine gf_callV (ε2 := eI) C [.int a1] dX12_sun_48 mw_X12_lengthAt ml_X12_205 s_117 (fun rZ hZ eZ => ok_X12_lengthAt a1 h8 rZ hZ eZ) rfl rfl rfl (Nat.le_of_ble_eq_true rfl) (Nat.le_of_ble_eq_true rfl) (Nat.le_of_ble_eq_true rfl) (fun r14 h15 => ?_)
          exact gf_sub [none, none, none] trivial (kj11 r14 h15)
def F_X12_put (h : Hp) : Option (Unit × Hp) :=
  jn (fun (h1 : Hp) =>
  bd (F_X12_bring 124 225 (0 : Int32) 126 1800 ((225 : Int32) * (sG h1 7510)) (225 : Int32) h1) (fun _ h3 => jl (sS h3 7510 ((sG h3 7510) + (1 : Int32))) (fun h4 => some ((), h4)))) (fun j2 => if (sG h 7510) = (8 : Int32) then (
  bd (F_X12_bring 126 1800 (225 : Int32) 126 1800 (0 : Int32) (1575 : Int32) h) (fun _ h5 => jl (sS h5 7510 ((sG h5 7510) - (1 : Int32))) (fun h6 => j2 h6))) else (
  j2 h))
set_option maxRecDepth 100000 in
set_option maxHeartbeats 4000000 in
theorem ok_X12_put (h : Hp) (rZ : Unit) (hZ : Hp) (eZ : F_X12_put h = some (rZ, hZ)) : AC yX12_put cX12_put 1 (none) 1 25 [.ref 117] h (eV rZ) hZ := by
  refine AC_intro (o := F_X12_put h) RX12 rfl (plainFor_of_name (by decide)) [some (.ref 117)] rfl (fun _ => rfl) (fun _ => Nat.le_of_ble_eq_true rfl) eZ (fun K C => ?_)
  unfold F_X12_put
  refine gf_aload_n C dX12_put_0 rfl rfl (gf_getI C dX12_put_1 fl_X12_189 s_117 rfl 7510 rfl (gf_bipush C dX12_put_4 kb_8 ?_))
  refine gf_jn (fun (j2 : Hp → Option (Unit × Hp)) => ∀ (h1 : Hp), GF K eV h1 37 [some (.ref 117)] [] (j2 h1)) ?_ (fun j2 kj2 => ?_)
  · intro h1
    refine gf_aload_n C dX12_put_37 rfl rfl (gf_getR C dX12_put_38 fl_X12_38 s_117 rfl 124 rfl (gf_iconst C dX12_put_41 ki_0 (gf_aload_n C dX12_put_42 rfl rfl (gf_getR C dX12_put_43 fl_X12_44 s_117 rfl 126 rfl (gf_sipush C dX12_put_46 ks_225 (gf_aload_n C dX12_put_49 rfl rfl (gf_getI C dX12_put_50 fl_X12_189 s_117 rfl 7510 rfl ?_)))))))
    refine gf_imul C dX12_put_53 (gf_sipush C dX12_put_54 ks_225 ?_)
    refine gf_callS (ε2 := eV) C [.ref 124, .int (0 : Int32), .ref 126, .int ((225 : Int32) * (sG h1 7510)), .int (225 : Int32)] dX12_put_57 mw_X12_bring ml_X12_172 (fun rZ hZ eZ => ok_X12_bring 124 225 (0 : Int32) 126 1800 ((225 : Int32) * (sG h1 7510)) (225 : Int32) s_124 s_126 h1 rZ hZ eZ) rfl rfl rfl (Nat.le_of_ble_eq_true rfl) (Nat.le_of_ble_eq_true rfl) (Nat.le_of_ble_eq_true rfl) (fun _ h3 => ?_)
    refine gf_aload_n C dX12_put_60 rfl rfl (gf_dup C dX12_put_61 rfl (gf_getI C dX12_put_62 fl_X12_189 s_117 rfl 7510 rfl (gf_iconst C dX12_put_65 ki_1 (gf_iadd C dX12_put_66 (gf_putI C dX12_put_67 fp_X12_189 s_117 rfl 7510 rfl ?_)))))
    refine gf_jlH (fun h4 => ?_)
    exact gf_vret C dX12_put_70 rfl
  refine gf_icmpne C 37 dX12_put_6 (by decide) (fun _ => ?_) (fun _ => ?_)
  · refine gf_aload_n C dX12_put_9 rfl rfl (gf_getR C dX12_put_10 fl_X12_44 s_117 rfl 126 rfl (gf_sipush C dX12_put_13 ks_225 (gf_aload_n C dX12_put_16 rfl rfl (gf_getR C dX12_put_17 fl_X12_44 s_117 rfl 126 rfl (gf_iconst C dX12_put_20 ki_0 (gf_sipush C dX12_put_21 ks_1575 ?_))))))
    refine gf_callS (ε2 := eV) C [.ref 126, .int (225 : Int32), .ref 126, .int (0 : Int32), .int (1575 : Int32)] dX12_put_24 mw_X12_bring ml_X12_172 (fun rZ hZ eZ => ok_X12_bring 126 1800 (225 : Int32) 126 1800 (0 : Int32) (1575 : Int32) s_126 s_126 h rZ hZ eZ) rfl rfl rfl (Nat.le_of_ble_eq_true rfl) (Nat.le_of_ble_eq_true rfl) (Nat.le_of_ble_eq_true rfl) (fun _ h5 => ?_)
    refine gf_aload_n C dX12_put_27 rfl rfl (gf_dup C dX12_put_28 rfl (gf_getI C dX12_put_29 fl_X12_189 s_117 rfl 7510 rfl (gf_iconst C dX12_put_32 ki_1 (gf_isub C dX12_put_33 (gf_putI C dX12_put_34 fp_X12_189 s_117 rfl 7510 rfl ?_)))))
    refine gf_jlH (fun h6 => ?_)
    exact gf_sub [some (.ref 117)] (And.intro rfl trivial) (kj2 h6)
  · exact gf_sub [some (.ref 117)] (And.intro rfl trivial) (kj2 h)
def F_X12_newPiece (a1 : Int32) (a2 : Int32) (a3 : Int32) (a4 : Int32) (h : Hp) : Option (Int32 × Hp) :=
  bd (F_X12_put h) (fun _ h1 => bd (F_X12_become a1 a2 a3 a4 h1) (fun _ h2 => gd (inb (0 : Int32) 225) ( some (aG h2 124 (0 : Int32).toNatClampNeg, h2))))
set_option maxRecDepth 100000 in
set_option maxHeartbeats 4000000 in
theorem ok_X12_newPiece (a1 : Int32) (a2 : Int32) (a3 : Int32) (a4 : Int32) (h : Hp) (rZ : Int32) (hZ : Hp) (eZ : F_X12_newPiece a1 a2 a3 a4 h = some (rZ, hZ)) : AC yX12_newPiece cX12_newPiece 5 (some .int) 2 49 [.ref 117, .int a1, .int a2, .int a3, .int a4] h (eI rZ) hZ := by
  refine AC_intro (o := F_X12_newPiece a1 a2 a3 a4 h) RX12 rfl (plainFor_of_name (by decide)) [some (.ref 117), some (.int a1), some (.int a2), some (.int a3), some (.int a4)] rfl (fun _ => rfl) (fun _ => Nat.le_of_ble_eq_true rfl) eZ (fun K C => ?_)
  unfold F_X12_newPiece
  refine gf_aload_n C dX12_newPiece_0 rfl rfl ?_
  refine gf_callV (ε2 := eV) C [] dX12_newPiece_1 mw_X12_put ml_X12_285 s_117 (fun rZ hZ eZ => ok_X12_put  h rZ hZ eZ) rfl rfl rfl (Nat.le_of_ble_eq_true rfl) (Nat.le_of_ble_eq_true rfl) (Nat.le_of_ble_eq_true rfl) (fun _ h1 => ?_)
  refine gf_aload_n C dX12_newPiece_4 rfl rfl (gf_iload_n C dX12_newPiece_5 rfl rfl (gf_iload_n C dX12_newPiece_6 rfl rfl (gf_iload_n C dX12_newPiece_7 rfl rfl (gf_iload C dX12_newPiece_8 rfl ?_))))
  refine gf_callV (ε2 := eV) C [.int a1, .int a2, .int a3, .int a4] dX12_newPiece_10 mw_X12_become ml_X12_182 s_117 (fun rZ hZ eZ => ok_X12_become a1 a2 a3 a4 h1 rZ hZ eZ) rfl rfl rfl (Nat.le_of_ble_eq_true rfl) (Nat.le_of_ble_eq_true rfl) (Nat.le_of_ble_eq_true rfl) (fun _ h2 => ?_)
  refine gf_aload_n C dX12_newPiece_13 rfl rfl (gf_getR C dX12_newPiece_14 fl_X12_38 s_117 rfl 124 rfl (gf_iconst C dX12_newPiece_17 ki_0 (gf_iald C dX12_newPiece_18 s_124 ?_)))
  exact gf_iret C dX12_newPiece_19 rfl
def F_X12_point (a1 : Int32) (a2 : Int32) (a3 : Int32) (h : Hp) : Option (Int32 × Hp) :=
  bd (F_X12_isPicture a1 h) (fun r1 h2 => if r1 = 0 then (
  some ((-2 : Int32), h2)) else (
  bd (F_X12_within a2 (0 : Int32) (24 : Int32) h2) (fun r3 h4 => jn (fun (s5 : Int32) (h6 : Hp) =>
  some (s5, h6)) (fun j7 => jn (fun (h8 : Hp) =>
  j7 (-3 : Int32) h8) (fun j9 => if r3 = 0 then (
  j9 h4) else (
  bd (F_X12_within a3 (0 : Int32) (9 : Int32) h4) (fun r10 h11 => if r10 = 0 then (
  j9 h11) else (
  bd (F_X12_newPiece a1 (0 : Int32) a2 a3 h11) (fun r12 h13 => j7 r12 h13)))))))))
set_option maxRecDepth 100000 in
set_option maxHeartbeats 4000000 in
theorem ok_X12_point (a1 : Int32) (a2 : Int32) (a3 : Int32) (h : Hp) (rZ : Int32) (hZ : Hp) (eZ : F_X12_point a1 a2 a3 h = some (rZ, hZ)) : AC yX12_point cX12_point 4 (some .int) 3 73 [.ref 117, .int a1, .int a2, .int a3] h (eI rZ) hZ := by
  refine AC_intro (o := F_X12_point a1 a2 a3 h) RX12 rfl (plainFor_of_name (by decide)) [some (.ref 117), some (.int a1), some (.int a2), some (.int a3)] rfl (fun _ => rfl) (fun _ => Nat.le_of_ble_eq_true rfl) eZ (fun K C => ?_)
  unfold F_X12_point
  refine gf_aload_n C dX12_point_0 rfl rfl (gf_iload_n C dX12_point_1 rfl rfl ?_)
  refine gf_callV (ε2 := eI) C [.int a1] dX12_point_2 mw_X12_isPicture ml_X12_269 s_117 (fun rZ hZ eZ => ok_X12_isPicture a1 h rZ hZ eZ) rfl rfl rfl (Nat.le_of_ble_eq_true rfl) (Nat.le_of_ble_eq_true rfl) (Nat.le_of_ble_eq_true rfl) (fun r1 h2 => ?_)
  refine gf_ifne C 11 dX12_point_5 (by decide) (fun _ => ?_) (fun _ => ?_)
  · refine gf_bipush C dX12_point_8 kb_m2 ?_
    exact gf_iret C dX12_point_10 rfl
  · refine gf_iload_n C dX12_point_11 rfl rfl (gf_iconst C dX12_point_12 ki_0 (gf_bipush C dX12_point_13 kb_24 ?_))
    refine gf_callS (ε2 := eI) C [.int a2, .int (0 : Int32), .int (24 : Int32)] dX12_point_15 mw_X12_within ml_X12_88 (fun rZ hZ eZ => ok_X12_within a2 (0 : Int32) (24 : Int32) h2 rZ hZ eZ) rfl rfl rfl (Nat.le_of_ble_eq_true rfl) (Nat.le_of_ble_eq_true rfl) (Nat.le_of_ble_eq_true rfl) (fun r3 h4 => ?_)
    refine gf_jn (fun (j7 : Int32 → Hp → Option (Int32 × Hp)) => ∀ (s5 : Int32) (h6 : Hp), GF K eI h6 44 [none, none, none, none] [.int s5] (j7 s5 h6)) ?_ (fun j7 kj7 => ?_)
    · intro s5 h6
      exact gf_iret C dX12_point_44 rfl
    refine gf_jn (fun (j9 : Hp → Option (Int32 × Hp)) => ∀ (h8 : Hp), GF K eI h8 42 [none, none, none, none] [] (j9 h8)) ?_ (fun j9 kj9 => ?_)
    · intro h8
      refine gf_bipush C dX12_point_42 kb_m3 ?_
      exact gf_sub [none, none, none, none] trivial (kj7 (-3 : Int32) h8)
    refine gf_ifeq C 42 dX12_point_18 (by decide) (fun _ => ?_) (fun _ => ?_)
    · exact gf_sub [none, none, none, none] trivial (kj9 h4)
    · refine gf_iload_n C dX12_point_21 rfl rfl (gf_iconst C dX12_point_22 ki_0 (gf_bipush C dX12_point_23 kb_9 ?_))
      refine gf_callS (ε2 := eI) C [.int a3, .int (0 : Int32), .int (9 : Int32)] dX12_point_25 mw_X12_within ml_X12_88 (fun rZ hZ eZ => ok_X12_within a3 (0 : Int32) (9 : Int32) h4 rZ hZ eZ) rfl rfl rfl (Nat.le_of_ble_eq_true rfl) (Nat.le_of_ble_eq_true rfl) (Nat.le_of_ble_eq_true rfl) (fun r10 h11 => ?_)
      refine gf_ifeq C 42 dX12_point_28 (by decide) (fun _ => ?_) (fun _ => ?_)
      · exact gf_sub [none, none, none, none] trivial (kj9 h11)
      · refine gf_aload_n C dX12_point_31 rfl rfl (gf_iload_n C dX12_point_32 rfl rfl (gf_iconst C dX12_point_33 ki_0 (gf_iload_n C dX12_point_34 rfl rfl (gf_iload_n C dX12_point_35 rfl rfl ?_))))
        refine gf_callV (ε2 := eI) C [.int a1, .int (0 : Int32), .int a2, .int a3] dX12_point_36 mw_X12_newPiece ml_X12_288 s_117 (fun rZ hZ eZ => ok_X12_newPiece a1 (0 : Int32) a2 a3 h11 rZ hZ eZ) rfl rfl rfl (Nat.le_of_ble_eq_true rfl) (Nat.le_of_ble_eq_true rfl) (Nat.le_of_ble_eq_true rfl) (fun r12 h13 => ?_)
        refine gf_goto C 44 dX12_point_39 (by decide) ?_
        exact gf_sub [none, none, none, none] trivial (kj7 r12 h13)
