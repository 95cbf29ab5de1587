theorem clX0 : CL 0 RX0 TX0 6 tyX0 := ⟨rfl, by decide, inW0, tyX0_ok, nmX0⟩
theorem clX1 : CL 1 RX1 TX1 12 tyX1 := ⟨rfl, by decide, inW1, tyX1_ok, nmX1⟩
theorem clX2 : CL 2 RX2 TX2 5 tyX2 := ⟨rfl, by decide, inW2, tyX2_ok, nmX2⟩
theorem clX3 : CL 3 RX3 TX3 5 tyX3 := ⟨rfl, by decide, inW3, tyX3_ok, nmX3⟩
theorem clX4 : CL 4 RX4 TX4 6 tyX4 := ⟨rfl, by decide, inW4, tyX4_ok, nmX4⟩
theorem clX5 : CL 5 RX5 TX5 5 tyX5 := ⟨rfl, by decide, inW5, tyX5_ok, nmX5⟩
theorem clX6 : CL 6 RX6 TX6 7 tyX6 := ⟨rfl, by decide, inW6, tyX6_ok, nmX6⟩
theorem clX7 : CL 7 RX7 TX7 8 tyX7 := ⟨rfl, by decide, inW7, tyX7_ok, nmX7⟩
theorem clX8 : CL 8 RX8 TX8 3 tyX8 := ⟨rfl, by decide, inW8, tyX8_ok, nmX8⟩
theorem clX9 : CL 9 RX9 TX9 3 tyX9 := ⟨rfl, by decide, inW9, tyX9_ok, nmX9⟩
theorem clX10 : CL 10 RX10 TX10 2 tyX10 := ⟨rfl, by decide, inW10, tyX10_ok, nmX10⟩
theorem clX11 : CL 11 RX11 TX11 9 tyX11 := ⟨rfl, by decide, inW11, tyX11_ok, nmX11⟩
theorem clX12 : CL 12 RX12 TX12 40 tyX12 := ⟨rfl, by decide, inW12, tyX12_ok, nmX12⟩
theorem ki_0 : Int32.ofInt 0 = (0 : Int32) := by decide
theorem fp_X0_32 : FP RX0 32 0 0 .int := ⟨RX0, TX0, 6, tyX0, clX0, by decide, tw 195 (by decide +kernel) rfl, rfl, by decide +kernel⟩
theorem fp_X0_36 : FP RX0 36 0 1 .int := ⟨RX0, TX0, 6, tyX0, clX0, by decide, tw 200 (by decide +kernel) rfl, rfl, by decide +kernel⟩
theorem fl_X0_12 : FL RX0 12 0 2 := ⟨RX0, TX0, 6, tyX0, clX0, by decide, tw 205 (by decide +kernel) rfl⟩
theorem lr_0_2 {k : Nat} (h : shp k = (0, 0)) : rf k 2 = some (k + 1) := (show ∀ k, k < ly_N → shp k = (0, 0) → rf k 2 = some (k + 1) by decide +kernel) k (shp_lt h (by omega)) h
theorem lq_0_2 {k : Nat} (h : shp k = (0, 0)) : shp (k + 1) = (0, 9) := (show ∀ k, k < ly_N → shp k = (0, 0) → shp (k + 1) = (0, 9) by decide +kernel) k (shp_lt h (by omega)) h
theorem kb_24 : (Int8.ofInt 24).toInt32 = (24 : Int32) := by decide
theorem ki_4 : Int32.ofInt 4 = (4 : Int32) := by decide
theorem ki_5 : Int32.ofInt 5 = (5 : Int32) := by decide
theorem fp_X9_18 : FP RX9 18 9 0 .int := ⟨RX9, TX9, 3, tyX9, clX9, by decide, tw 148 (by decide +kernel) rfl, rfl, by decide +kernel⟩
theorem fp_X9_22 : FP RX9 22 9 1 .int := ⟨RX9, TX9, 3, tyX9, clX9, by decide, tw 151 (by decide +kernel) rfl, rfl, by decide +kernel⟩
theorem fp_X9_25 : FP RX9 25 9 2 .int := ⟨RX9, TX9, 3, tyX9, clX9, by decide, tw 154 (by decide +kernel) rfl, rfl, by decide +kernel⟩
theorem ni_RX9 : Cond.initialized RX9 ∈ lw_gw := tw 85 (by decide +kernel) rfl
theorem nh_RX9 : RX9 ≠ "java/lang/invoke/MethodHandle" ∧ RX9 ≠ "java/lang/invoke/VarHandle" := by decide
theorem ds_0 : (parseMethodDescriptor "(III)V").map (fun d => d.parameters.length) = some 3 := by decide +kernel
theorem mw_X9_become : MV yX9_become cX9_become 4 (none) 3 9 := ⟨⟨tw 147 (by decide +kernel) rfl, ni_RX9, nh_RX9, ds_0⟩, tw 145 (by decide +kernel) rfl, tw 146 (by decide +kernel) rfl, TX9, 3, rfl⟩
theorem ml_X9_14 : Cond.methodLink RX9 14 yX9_become ∈ lw_gw := tw 144 (by decide +kernel) rfl
theorem ds_1 : (parseMethodDescriptor "()V").map (fun d => d.parameters.length) = some 0 := by decide +kernel
theorem mw_X9_clear : MV yX9_clear cX9_clear 1 (none) 0 9 := ⟨⟨tw 143 (by decide +kernel) rfl, ni_RX9, nh_RX9, ds_1⟩, tw 141 (by decide +kernel) rfl, tw 142 (by decide +kernel) rfl, TX9, 3, rfl⟩
theorem ml_X0_39 : Cond.methodLink RX0 39 yX9_clear ∈ lw_gw := tw 589 (by decide +kernel) rfl
theorem fl_X0_21 : FL RX0 21 0 3 := ⟨RX0, TX0, 6, tyX0, clX0, by decide, tw 209 (by decide +kernel) rfl⟩
theorem lr_0_3 {k : Nat} (h : shp k = (0, 0)) : rf k 3 = some (k + 2) := (show ∀ k, k < ly_N → shp k = (0, 0) → rf k 3 = some (k + 2) by decide +kernel) k (shp_lt h (by omega)) h
theorem lq_0_3 {k : Nat} (h : shp k = (0, 0)) : shp (k + 2) = (0, 5) := (show ∀ k, k < ly_N → shp k = (0, 0) → shp (k + 2) = (0, 5) by decide +kernel) k (shp_lt h (by omega)) h
theorem fp_X5_27 : FP RX5 27 5 0 .int := ⟨RX5, TX5, 5, tyX5, clX5, by decide, tw 177 (by decide +kernel) rfl, rfl, by decide +kernel⟩
theorem fl_X5_15 : FL RX5 15 5 2 := ⟨RX5, TX5, 5, tyX5, clX5, by decide, tw 181 (by decide +kernel) rfl⟩
theorem lr_5_2 {k : Nat} (h : shp k = (0, 5)) : rf k 2 = some (k + 2) := (show ∀ k, k < ly_N → shp k = (0, 5) → rf k 2 = some (k + 2) by decide +kernel) k (shp_lt h (by omega)) h
theorem lq_5_2 {k : Nat} (h : shp k = (0, 5)) : shp (k + 2) = (1, 56) := (show ∀ k, k < ly_N → shp k = (0, 5) → shp (k + 2) = (1, 56) by decide +kernel) k (shp_lt h (by omega)) h
theorem ki_m1 : Int32.ofInt (-1) = (-1 : Int32) := by decide
theorem ii_1 (x : Int32) : x + Int32.ofInt 1 = x + (1 : Int32) := rfl
theorem ni_RJ7 : Cond.initialized RJ7 ∈ lw_gw := tw 87 (by decide +kernel) rfl
theorem nh_RJ7 : RJ7 ≠ "java/lang/invoke/MethodHandle" ∧ RJ7 ≠ "java/lang/invoke/VarHandle" := by decide
theorem ds_2 : (parseMethodDescriptor "([II)V").map (fun d => d.parameters.length) = some 2 := by decide +kernel
theorem mw_J7_fill_53178 : MS yJ7_fill_53178 cJ7_fill_53178 4 (none) 2 := ⟨⟨tw 176 (by decide +kernel) rfl, ni_RJ7, nh_RJ7, ds_2⟩, tw 175 (by decide +kernel) rfl⟩
theorem ml_X5_31 : Cond.methodLink RX5 31 yJ7_fill_53178 ∈ lw_gw := tw 174 (by decide +kernel) rfl
theorem fl_X5_18 : FL RX5 18 5 3 := ⟨RX5, TX5, 5, tyX5, clX5, by decide, tw 182 (by decide +kernel) rfl⟩
theorem lr_5_3 {k : Nat} (h : shp k = (0, 5)) : rf k 3 = some (k + 3) := (show ∀ k, k < ly_N → shp k = (0, 5) → rf k 3 = some (k + 3) by decide +kernel) k (shp_lt h (by omega)) h
theorem lq_5_3 {k : Nat} (h : shp k = (0, 5)) : shp (k + 3) = (1, 56) := (show ∀ k, k < ly_N → shp k = (0, 5) → shp (k + 3) = (1, 56) by decide +kernel) k (shp_lt h (by omega)) h
theorem fl_X5_21 : FL RX5 21 5 4 := ⟨RX5, TX5, 5, tyX5, clX5, by decide, tw 183 (by decide +kernel) rfl⟩
theorem lr_5_4 {k : Nat} (h : shp k = (0, 5)) : rf k 4 = some (k + 4) := (show ∀ k, k < ly_N → shp k = (0, 5) → rf k 4 = some (k + 4) by decide +kernel) k (shp_lt h (by omega)) h
theorem lq_5_4 {k : Nat} (h : shp k = (0, 5)) : shp (k + 4) = (1, 56) := (show ∀ k, k < ly_N → shp k = (0, 5) → shp (k + 4) = (1, 56) by decide +kernel) k (shp_lt h (by omega)) h
theorem ni_RX5 : Cond.initialized RX5 ∈ lw_gw := tw 86 (by decide +kernel) rfl
theorem nh_RX5 : RX5 ≠ "java/lang/invoke/MethodHandle" ∧ RX5 ≠ "java/lang/invoke/VarHandle" := by decide
theorem mw_X5_clear : MV yX5_clear cX5_clear 1 (none) 0 5 := ⟨⟨tw 173 (by decide +kernel) rfl, ni_RX5, nh_RX5, ds_1⟩, tw 171 (by decide +kernel) rfl, tw 172 (by decide +kernel) rfl, TX5, 5, rfl⟩
theorem ml_X0_42 : Cond.methodLink RX0 42 yX5_clear ∈ lw_gw := tw 590 (by decide +kernel) rfl
theorem fl_X0_32 : FL RX0 32 0 0 := ⟨RX0, TX0, 6, tyX0, clX0, by decide, tw 195 (by decide +kernel) rfl⟩
theorem fl_X0_36 : FL RX0 36 0 1 := ⟨RX0, TX0, 6, tyX0, clX0, by decide, tw 200 (by decide +kernel) rfl⟩
theorem fl_X0_43 : FL RX0 43 9 0 := ⟨RX9, TX9, 3, tyX9, clX9, by decide, tw 149 (by decide +kernel) rfl⟩
theorem fl_X0_46 : FL RX0 46 9 1 := ⟨RX9, TX9, 3, tyX9, clX9, by decide, tw 152 (by decide +kernel) rfl⟩
theorem fl_X0_49 : FL RX0 49 9 2 := ⟨RX9, TX9, 3, tyX9, clX9, by decide, tw 155 (by decide +kernel) rfl⟩
theorem ml_X0_52 : Cond.methodLink RX0 52 yX9_become ∈ lw_gw := tw 504 (by decide +kernel) rfl
theorem fl_X5_27 : FL RX5 27 5 0 := ⟨RX5, TX5, 5, tyX5, clX5, by decide, tw 177 (by decide +kernel) rfl⟩
theorem fl_X5_9 : FL RX5 9 5 1 := ⟨RX5, TX5, 5, tyX5, clX5, by decide, tw 180 (by decide +kernel) rfl⟩
theorem lr_5_1 {k : Nat} (h : shp k = (0, 5)) : rf k 1 = some (k + 1) := (show ∀ k, k < ly_N → shp k = (0, 5) → rf k 1 = some (k + 1) by decide +kernel) k (shp_lt h (by omega)) h
theorem lq_5_1 {k : Nat} (h : shp k = (0, 5)) : shp (k + 1) = (1, 56) := (show ∀ k, k < ly_N → shp k = (0, 5) → shp (k + 1) = (1, 56) by decide +kernel) k (shp_lt h (by omega)) h
theorem kb_56 : (Int8.ofInt 56).toInt32 = (56 : Int32) := by decide
theorem cp_X5_37 : CPW RX5 37 := ⟨tw 509 (by decide +kernel) rfl, tw 511 (by decide +kernel) rfl, tw 510 (by decide +kernel) rfl, tw 96 (by decide +kernel) rfl⟩
theorem ds_3 : (parseMethodDescriptor "(LAlbumHours$Pieces;)V").map (fun d => d.parameters.length) = some 1 := by decide +kernel
theorem mw_X5_copyFrom : MV yX5_copyFrom cX5_copyFrom 2 (none) 1 5 := ⟨⟨tw 508 (by decide +kernel) rfl, ni_RX5, nh_RX5, ds_3⟩, tw 506 (by decide +kernel) rfl, tw 507 (by decide +kernel) rfl, TX5, 5, rfl⟩
theorem ml_X0_56 : Cond.methodLink RX0 56 yX5_copyFrom ∈ lw_gw := tw 505 (by decide +kernel) rfl
theorem fl_X0_25 : FL RX0 25 0 4 := ⟨RX0, TX0, 6, tyX0, clX0, by decide, tw 214 (by decide +kernel) rfl⟩
theorem lr_0_4 {k : Nat} (h : shp k = (0, 0)) : rf k 4 = some (k + 7) := (show ∀ k, k < ly_N → shp k = (0, 0) → rf k 4 = some (k + 7) by decide +kernel) k (shp_lt h (by omega)) h
theorem lq_0_4 {k : Nat} (h : shp k = (0, 0)) : shp (k + 7) = (1, 7) := (show ∀ k, k < ly_N → shp k = (0, 0) → shp (k + 7) = (1, 7) by decide +kernel) k (shp_lt h (by omega)) h
theorem kb_7 : (Int8.ofInt 7).toInt32 = (7 : Int32) := by decide
theorem cp_X0_60 : CPW RX0 60 := ⟨tw 512 (by decide +kernel) rfl, tw 511 (by decide +kernel) rfl, tw 510 (by decide +kernel) rfl, tw 96 (by decide +kernel) rfl⟩
theorem fl_X0_29 : FL RX0 29 0 5 := ⟨RX0, TX0, 6, tyX0, clX0, by decide, tw 215 (by decide +kernel) rfl⟩
theorem lr_0_5 {k : Nat} (h : shp k = (0, 0)) : rf k 5 = some (k + 8) := (show ∀ k, k < ly_N → shp k = (0, 0) → rf k 5 = some (k + 8) by decide +kernel) k (shp_lt h (by omega)) h
theorem lq_0_5 {k : Nat} (h : shp k = (0, 0)) : shp (k + 8) = (1, 6) := (show ∀ k, k < ly_N → shp k = (0, 0) → shp (k + 8) = (1, 6) by decide +kernel) k (shp_lt h (by omega)) h
theorem kb_6 : (Int8.ofInt 6).toInt32 = (6 : Int32) := by decide
theorem ki_1 : Int32.ofInt 1 = (1 : Int32) := by decide
theorem ki_2 : Int32.ofInt 2 = (2 : Int32) := by decide
theorem ni_RX0 : Cond.initialized RX0 ∈ lw_gw := tw 84 (by decide +kernel) rfl
theorem nh_RX0 : RX0 ≠ "java/lang/invoke/MethodHandle" ∧ RX0 ≠ "java/lang/invoke/VarHandle" := by decide
theorem ds_4 : (parseMethodDescriptor "(I)Z").map (fun d => d.parameters.length) = some 1 := by decide +kernel
theorem mw_X0_hasThing : MV yX0_hasThing cX0_hasThing 2 (some .boolean) 1 0 := ⟨⟨tw 650 (by decide +kernel) rfl, ni_RX0, nh_RX0, ds_4⟩, tw 648 (by decide +kernel) rfl, tw 649 (by decide +kernel) rfl, TX0, 6, rfl⟩
theorem ml_X0_66 : Cond.methodLink RX0 66 yX0_hasThing ∈ lw_gw := tw 647 (by decide +kernel) rfl
theorem ks_999 : (Int16.ofInt 999).toInt32 = (999 : Int32) := by decide
theorem ds_5 : (parseMethodDescriptor "(I)I").map (fun d => d.parameters.length) = some 1 := by decide +kernel
theorem mw_X0_kindOf : MV yX0_kindOf cX0_kindOf 2 (some .int) 1 0 := ⟨⟨tw 646 (by decide +kernel) rfl, ni_RX0, nh_RX0, ds_5⟩, tw 644 (by decide +kernel) rfl, tw 645 (by decide +kernel) rfl, TX0, 6, rfl⟩
theorem ml_X0_70 : Cond.methodLink RX0 70 yX0_kindOf ∈ lw_gw := tw 643 (by decide +kernel) rfl
theorem ki_3 : Int32.ofInt 3 = (3 : Int32) := by decide
theorem kb_9 : (Int8.ofInt 9).toInt32 = (9 : Int32) := by decide
theorem mw_X0_hasMatter : MV yX0_hasMatter cX0_hasMatter 2 (some .boolean) 1 0 := ⟨⟨tw 846 (by decide +kernel) rfl, ni_RX0, nh_RX0, ds_4⟩, tw 844 (by decide +kernel) rfl, tw 845 (by decide +kernel) rfl, TX0, 6, rfl⟩
theorem ml_X0_74 : Cond.methodLink RX0 74 yX0_hasMatter ∈ lw_gw := tw 884 (by decide +kernel) rfl
theorem mw_X0_mostValue : MV yX0_mostValue cX0_mostValue 2 (some .int) 1 0 := ⟨⟨tw 642 (by decide +kernel) rfl, ni_RX0, nh_RX0, ds_5⟩, tw 640 (by decide +kernel) rfl, tw 641 (by decide +kernel) rfl, TX0, 6, rfl⟩
theorem ml_X0_77 : Cond.methodLink RX0 77 yX0_mostValue ∈ lw_gw := tw 885 (by decide +kernel) rfl
theorem mw_X0_hasPicture : MV yX0_hasPicture cX0_hasPicture 2 (some .boolean) 1 0 := ⟨⟨tw 705 (by decide +kernel) rfl, ni_RX0, nh_RX0, ds_4⟩, tw 703 (by decide +kernel) rfl, tw 704 (by decide +kernel) rfl, TX0, 6, rfl⟩
theorem ml_X0_80 : Cond.methodLink RX0 80 yX0_hasPicture ∈ lw_gw := tw 710 (by decide +kernel) rfl
theorem kb_8 : (Int8.ofInt 8).toInt32 = (8 : Int32) := by decide
theorem ds_6 : (parseMethodDescriptor "(II)Z").map (fun d => d.parameters.length) = some 2 := by decide +kernel
theorem mw_X5_isKey : MS yX5_isKey cX5_isKey 2 (some .boolean) 2 := ⟨⟨tw 660 (by decide +kernel) rfl, ni_RX5, nh_RX5, ds_6⟩, tw 659 (by decide +kernel) rfl⟩
theorem ml_X5_43 : Cond.methodLink RX5 43 yX5_isKey ∈ lw_gw := tw 658 (by decide +kernel) rfl
theorem ds_7 : (parseMethodDescriptor "(II)I").map (fun d => d.parameters.length) = some 2 := by decide +kernel
theorem mw_X5_valueOf : MV yX5_valueOf cX5_valueOf 3 (some .int) 2 5 := ⟨⟨tw 737 (by decide +kernel) rfl, ni_RX5, nh_RX5, ds_7⟩, tw 735 (by decide +kernel) rfl, tw 736 (by decide +kernel) rfl, TX5, 5, rfl⟩
theorem ml_X0_83 : Cond.methodLink RX0 83 yX5_valueOf ∈ lw_gw := tw 838 (by decide +kernel) rfl
theorem s_91 : shp 91 = (0, 1) := by decide +kernel
theorem fp_X1_43 : FP RX1 43 1 5 .boolean := ⟨RX1, TX1, 12, tyX1, clX1, by decide, tw 394 (by decide +kernel) rfl, rfl, by decide +kernel⟩
theorem fp_X1_47 : FP RX1 47 1 6 .boolean := ⟨RX1, TX1, 12, tyX1, clX1, by decide, tw 395 (by decide +kernel) rfl, rfl, by decide +kernel⟩
theorem fp_X1_50 : FP RX1 50 1 7 .boolean := ⟨RX1, TX1, 12, tyX1, clX1, by decide, tw 396 (by decide +kernel) rfl, rfl, by decide +kernel⟩
theorem fl_X1_43 : FL RX1 43 1 5 := ⟨RX1, TX1, 12, tyX1, clX1, by decide, tw 394 (by decide +kernel) rfl⟩
theorem fl_X1_57 : FL RX1 57 1 4 := ⟨RX1, TX1, 12, tyX1, clX1, by decide, tw 393 (by decide +kernel) rfl⟩
theorem fl_X7_43 : FL RX7 43 7 1 := ⟨RX7, TX7, 8, tyX7, clX7, by decide, tw 295 (by decide +kernel) rfl⟩
theorem ni_RX7 : Cond.initialized RX7 ∈ lw_gw := tw 90 (by decide +kernel) rfl
theorem nh_RX7 : RX7 ≠ "java/lang/invoke/MethodHandle" ∧ RX7 ≠ "java/lang/invoke/VarHandle" := by decide
theorem ds_8 : (parseMethodDescriptor "()I").map (fun d => d.parameters.length) = some 0 := by decide +kernel
theorem mw_X7_everyone : MV yX7_everyone cX7_everyone 1 (some .int) 0 7 := ⟨⟨tw 965 (by decide +kernel) rfl, ni_RX7, nh_RX7, ds_8⟩, tw 963 (by decide +kernel) rfl, tw 964 (by decide +kernel) rfl, TX7, 8, rfl⟩
theorem ml_X1_61 : Cond.methodLink RX1 61 yX7_everyone ∈ lw_gw := tw 1079 (by decide +kernel) rfl
theorem fl_X1_39 : FL RX1 39 1 11 := ⟨RX1, TX1, 12, tyX1, clX1, by decide, tw 400 (by decide +kernel) rfl⟩
theorem s_109 : shp 109 = (0, 3) := by decide +kernel
theorem ks_128 : (Int16.ofInt 128).toInt32 = (128 : Int32) := by decide
theorem fl_X3_9 : FL RX3 9 3 1 := ⟨RX3, TX3, 5, tyX3, clX3, by decide, tw 357 (by decide +kernel) rfl⟩
theorem lr_3_1 {k : Nat} (h : shp k = (0, 3)) : rf k 1 = some (k + 1) := (show ∀ k, k < ly_N → shp k = (0, 3) → rf k 1 = some (k + 1) by decide +kernel) k (shp_lt h (by omega)) h
theorem lq_3_1 {k : Nat} (h : shp k = (0, 3)) : shp (k + 1) = (1, 128) := (show ∀ k, k < ly_N → shp k = (0, 3) → shp (k + 1) = (1, 128) by decide +kernel) k (shp_lt h (by omega)) h
theorem kb_49 : (Int8.ofInt 49).toInt32 = (49 : Int32) := by decide
theorem ml_X3_25 : Cond.methodLink RX3 25 yJ7_fill_53178 ∈ lw_gw := tw 1022 (by decide +kernel) rfl
theorem fl_X7_22 : FL RX7 22 7 5 := ⟨RX7, TX7, 8, tyX7, clX7, by decide, tw 300 (by decide +kernel) rfl⟩
theorem lr_7_5 {k : Nat} (h : shp k = (0, 7)) : rf k 5 = some (k + 4) := (show ∀ k, k < ly_N → shp k = (0, 7) → rf k 5 = some (k + 4) by decide +kernel) k (shp_lt h (by omega)) h
theorem lq_7_5 {k : Nat} (h : shp k = (0, 7)) : shp (k + 4) = (1, 6) := (show ∀ k, k < ly_N → shp k = (0, 7) → shp (k + 4) = (1, 6) by decide +kernel) k (shp_lt h (by omega)) h
theorem fl_X7_25 : FL RX7 25 7 6 := ⟨RX7, TX7, 8, tyX7, clX7, by decide, tw 301 (by decide +kernel) rfl⟩
theorem lr_7_6 {k : Nat} (h : shp k = (0, 7)) : rf k 6 = some (k + 5) := (show ∀ k, k < ly_N → shp k = (0, 7) → rf k 6 = some (k + 5) by decide +kernel) k (shp_lt h (by omega)) h
theorem lq_7_6 {k : Nat} (h : shp k = (0, 7)) : shp (k + 5) = (1, 6) := (show ∀ k, k < ly_N → shp k = (0, 7) → shp (k + 5) = (1, 6) by decide +kernel) k (shp_lt h (by omega)) h
theorem fl_X7_15 : FL RX7 15 7 3 := ⟨RX7, TX7, 8, tyX7, clX7, by decide, tw 298 (by decide +kernel) rfl⟩
theorem lr_7_3 {k : Nat} (h : shp k = (0, 7)) : rf k 3 = some (k + 2) := (show ∀ k, k < ly_N → shp k = (0, 7) → rf k 3 = some (k + 2) by decide +kernel) k (shp_lt h (by omega)) h
theorem lq_7_3 {k : Nat} (h : shp k = (0, 7)) : shp (k + 2) = (1, 7) := (show ∀ k, k < ly_N → shp k = (0, 7) → shp (k + 2) = (1, 7) by decide +kernel) k (shp_lt h (by omega)) h
theorem mw_X7_nextOnes : MV yX7_nextOnes cX7_nextOnes 7 (some .int) 2 7 := ⟨⟨tw 976 (by decide +kernel) rfl, ni_RX7, nh_RX7, ds_7⟩, tw 974 (by decide +kernel) rfl, tw 975 (by decide +kernel) rfl, TX7, 8, rfl⟩
theorem ml_X3_31 : Cond.methodLink RX3 31 yX7_nextOnes ∈ lw_gw := tw 1027 (by decide +kernel) rfl
theorem ni_RX11 : Cond.initialized RX11 ∈ lw_gw := tw 82 (by decide +kernel) rfl
theorem nh_RX11 : RX11 ≠ "java/lang/invoke/MethodHandle" ∧ RX11 ≠ "java/lang/invoke/VarHandle" := by decide
theorem mw_X11_hasBit : MS yX11_hasBit cX11_hasBit 2 (some .boolean) 2 := ⟨⟨tw 783 (by decide +kernel) rfl, ni_RX11, nh_RX11, ds_6⟩, tw 782 (by decide +kernel) rfl⟩
theorem ml_X3_37 : (RX3, 37, yX11_hasBit, "AlbumHours") ∈ lw_nw := List.mem_of_getElem? (i := 16) rfl
theorem kb_48 : (Int8.ofInt 48).toInt32 = (48 : Int32) := by decide
theorem fl_X7_9 : FL RX7 9 7 2 := ⟨RX7, TX7, 8, tyX7, clX7, by decide, tw 297 (by decide +kernel) rfl⟩
theorem lr_7_2 {k : Nat} (h : shp k = (0, 7)) : rf k 2 = some (k + 1) := (show ∀ k, k < ly_N → shp k = (0, 7) → rf k 2 = some (k + 1) by decide +kernel) k (shp_lt h (by omega)) h
theorem lq_7_2 {k : Nat} (h : shp k = (0, 7)) : shp (k + 1) = (2, 7) := (show ∀ k, k < ly_N → shp k = (0, 7) → shp (k + 1) = (2, 7) by decide +kernel) k (shp_lt h (by omega)) h
theorem kl_0 : Int64.ofNat ((0 : Fin 2) : Nat) = (0 : Int64) := by decide
theorem kb_32 : (Int8.ofInt 32).toInt32 = (32 : Int32) := by decide
theorem cw_J6_264 : Cond.constant RJ6 264 (65536 : Int32) ∈ lw_gw := tw 808 (by decide +kernel) rfl
theorem ks_256 : (Int16.ofInt 256).toInt32 = (256 : Int32) := by decide
theorem kb_16 : (Int8.ofInt 16).toInt32 = (16 : Int32) := by decide
theorem ii_2 (x : Int32) : x + Int32.ofInt 2 = x + (2 : Int32) := rfl
theorem ii_4 (x : Int32) : x + Int32.ofInt 4 = x + (4 : Int32) := rfl
theorem ii_8 (x : Int32) : x + Int32.ofInt 8 = x + (8 : Int32) := rfl
theorem ii_16 (x : Int32) : x + Int32.ofInt 16 = x + (16 : Int32) := rfl
theorem ni_RJ6 : Cond.initialized RJ6 ∈ lw_gw := tw 104 (by decide +kernel) rfl
theorem nh_RJ6 : RJ6 ≠ "java/lang/invoke/MethodHandle" ∧ RJ6 ≠ "java/lang/invoke/VarHandle" := by decide
theorem mw_J6_numberOfTrailingZeros_0f7a4 : MS yJ6_numberOfTrailingZeros_0f7a4 cJ6_numberOfTrailingZeros_0f7a4 2 (some .int) 1 := ⟨⟨tw 807 (by decide +kernel) rfl, ni_RJ6, nh_RJ6, ds_5⟩, tw 806 (by decide +kernel) rfl⟩
theorem ml_J13_311 : Cond.methodLink RJ13 311 yJ6_numberOfTrailingZeros_0f7a4 ∈ lw_gw := tw 805 (by decide +kernel) rfl
theorem ni_RJ13 : Cond.initialized RJ13 ∈ lw_gw := tw 103 (by decide +kernel) rfl
theorem nh_RJ13 : RJ13 ≠ "java/lang/invoke/MethodHandle" ∧ RJ13 ≠ "java/lang/invoke/VarHandle" := by decide
theorem ds_9 : (parseMethodDescriptor "(J)I").map (fun d => d.parameters.length) = some 1 := by decide +kernel
theorem mw_J13_numberOfTrailingZeros_95d88 : MS yJ13_numberOfTrailingZeros_95d88 cJ13_numberOfTrailingZeros_95d88 3 (some .int) 1 := ⟨⟨tw 804 (by decide +kernel) rfl, ni_RJ13, nh_RJ13, ds_9⟩, tw 803 (by decide +kernel) rfl⟩
theorem ml_X7_137 : Cond.methodLink RX7 137 yJ13_numberOfTrailingZeros_95d88 ∈ lw_gw := tw 987 (by decide +kernel) rfl
theorem mw_X7_freeBehind : MV yX7_freeBehind cX7_freeBehind 5 (some .int) 2 7 := ⟨⟨tw 986 (by decide +kernel) rfl, ni_RX7, nh_RX7, ds_7⟩, tw 984 (by decide +kernel) rfl, tw 985 (by decide +kernel) rfl, TX7, 8, rfl⟩
theorem ml_X3_41 : Cond.methodLink RX3 41 yX7_freeBehind ∈ lw_gw := tw 1029 (by decide +kernel) rfl
theorem ni_RJ9 : Cond.initialized RJ9 ∈ lw_gw := tw 101 (by decide +kernel) rfl
theorem nh_RJ9 : RJ9 ≠ "java/lang/invoke/MethodHandle" ∧ RJ9 ≠ "java/lang/invoke/VarHandle" := by decide
theorem mw_J9_min_7cf53 : MS yJ9_min_7cf53 cJ9_min_7cf53 2 (some .int) 2 := ⟨⟨tw 729 (by decide +kernel) rfl, ni_RJ9, nh_RJ9, ds_7⟩, tw 728 (by decide +kernel) rfl⟩
theorem ml_X3_44 : Cond.methodLink RX3 44 yJ9_min_7cf53 ∈ lw_gw := tw 1030 (by decide +kernel) rfl
theorem ni_RX3 : Cond.initialized RX3 ∈ lw_gw := tw 92 (by decide +kernel) rfl
theorem nh_RX3 : RX3 ≠ "java/lang/invoke/MethodHandle" ∧ RX3 ≠ "java/lang/invoke/VarHandle" := by decide
theorem ds_10 : (parseMethodDescriptor "(LAlbumHours$Rules;I)Z").map (fun d => d.parameters.length) = some 2 := by decide +kernel
theorem mw_X3_canBe : MV yX3_canBe cX3_canBe 8 (some .boolean) 2 3 := ⟨⟨tw 1026 (by decide +kernel) rfl, ni_RX3, nh_RX3, ds_10⟩, tw 1024 (by decide +kernel) rfl, tw 1025 (by decide +kernel) rfl, TX3, 5, rfl⟩
theorem ml_X1_65 : Cond.methodLink RX1 65 yX3_canBe ∈ lw_gw := tw 1080 (by decide +kernel) rfl
theorem cw_J6_265 : Cond.constant RJ6 265 (1431655765 : Int32) ∈ lw_gw := tw 825 (by decide +kernel) rfl
theorem cw_J6_266 : Cond.constant RJ6 266 (858993459 : Int32) ∈ lw_gw := tw 826 (by decide +kernel) rfl
theorem cw_J6_267 : Cond.constant RJ6 267 (252645135 : Int32) ∈ lw_gw := tw 827 (by decide +kernel) rfl
theorem kb_63 : (Int8.ofInt 63).toInt32 = (63 : Int32) := by decide
theorem mw_J6_bitCount_0f7a4 : MS yJ6_bitCount_0f7a4 cJ6_bitCount_0f7a4 1 (some .int) 1 := ⟨⟨tw 824 (by decide +kernel) rfl, ni_RJ6, nh_RJ6, ds_5⟩, tw 823 (by decide +kernel) rfl⟩
theorem ml_X1_69 : Cond.methodLink RX1 69 yJ6_bitCount_0f7a4 ∈ lw_gw := tw 1081 (by decide +kernel) rfl
theorem ni_RX1 : Cond.initialized RX1 ∈ lw_gw := tw 93 (by decide +kernel) rfl
theorem nh_RX1 : RX1 ≠ "java/lang/invoke/MethodHandle" ∧ RX1 ≠ "java/lang/invoke/VarHandle" := by decide
theorem ds_11 : (parseMethodDescriptor "(LAlbumHours$Rules;)I").map (fun d => d.parameters.length) = some 1 := by decide +kernel
theorem mw_X1_seekKnot : MV yX1_seekKnot cX1_seekKnot 5 (some .int) 1 1 := ⟨⟨tw 1078 (by decide +kernel) rfl, ni_RX1, nh_RX1, ds_11⟩, tw 1077 (by decide +kernel) rfl, tw 29 (by decide +kernel) rfl, TX1, 12, rfl⟩
theorem ml_X1_53 : Cond.methodLink RX1 53 yX1_seekKnot ∈ lw_gw := tw 1075 (by decide +kernel) rfl
theorem fp_X1_57 : FP RX1 57 1 4 .int := ⟨RX1, TX1, 12, tyX1, clX1, by decide, tw 393 (by decide +kernel) rfl, rfl, by decide +kernel⟩
theorem fl_X1_47 : FL RX1 47 1 6 := ⟨RX1, TX1, 12, tyX1, clX1, by decide, tw 395 (by decide +kernel) rfl⟩
theorem fp_X1_75 : FP RX1 75 1 0 .int := ⟨RX1, TX1, 12, tyX1, clX1, by decide, tw 386 (by decide +kernel) rfl, rfl, by decide +kernel⟩
theorem fl_X1_78 : FL RX1 78 0 3 := ⟨RX0, TX0, 6, tyX0, clX0, by decide, tw 211 (by decide +kernel) rfl⟩
theorem fl_X1_83 : FL RX1 83 5 0 := ⟨RX5, TX5, 5, tyX5, clX5, by decide, tw 178 (by decide +kernel) rfl⟩
theorem fl_X1_75 : FL RX1 75 1 0 := ⟨RX1, TX1, 12, tyX1, clX1, by decide, tw 386 (by decide +kernel) rfl⟩
theorem mw_X5_keyOf : MV yX5_keyOf cX5_keyOf 2 (some .int) 1 5 := ⟨⟨tw 861 (by decide +kernel) rfl, ni_RX5, nh_RX5, ds_5⟩, tw 860 (by decide +kernel) rfl, tw 18 (by decide +kernel) rfl, TX5, 5, rfl⟩
theorem ml_X5_47 : Cond.methodLink RX5 47 yX5_keyOf ∈ lw_gw := tw 858 (by decide +kernel) rfl
theorem mw_X5_pictureOf : MV yX5_pictureOf cX5_pictureOf 3 (some .int) 1 5 := ⟨⟨tw 857 (by decide +kernel) rfl, ni_RX5, nh_RX5, ds_5⟩, tw 855 (by decide +kernel) rfl, tw 856 (by decide +kernel) rfl, TX5, 5, rfl⟩
theorem ml_X1_90 : Cond.methodLink RX1 90 yX5_pictureOf ∈ lw_gw := tw 1094 (by decide +kernel) rfl
theorem mw_X5_matterOf : MV yX5_matterOf cX5_matterOf 3 (some .int) 1 5 := ⟨⟨tw 865 (by decide +kernel) rfl, ni_RX5, nh_RX5, ds_5⟩, tw 863 (by decide +kernel) rfl, tw 864 (by decide +kernel) rfl, TX5, 5, rfl⟩
theorem ml_X1_93 : Cond.methodLink RX1 93 yX5_matterOf ∈ lw_gw := tw 1095 (by decide +kernel) rfl
theorem fl_X1_18 : FL RX1 18 1 8 := ⟨RX1, TX1, 12, tyX1, clX1, by decide, tw 397 (by decide +kernel) rfl⟩
theorem s_93 : shp 93 = (0, 5) := by decide +kernel
theorem ml_X1_96 : Cond.methodLink RX1 96 yX5_copyFrom ∈ lw_gw := tw 1096 (by decide +kernel) rfl
theorem mw_X5_numberOf : MV yX5_numberOf cX5_numberOf 3 (some .int) 2 5 := ⟨⟨tw 718 (by decide +kernel) rfl, ni_RX5, nh_RX5, ds_7⟩, tw 716 (by decide +kernel) rfl, tw 717 (by decide +kernel) rfl, TX5, 5, rfl⟩
theorem ml_X5_51 : Cond.methodLink RX5 51 yX5_numberOf ∈ lw_gw := tw 715 (by decide +kernel) rfl
theorem kb_55 : (Int8.ofInt 55).toInt32 = (55 : Int32) := by decide
theorem ds_12 : (parseMethodDescriptor "(II)V").map (fun d => d.parameters.length) = some 2 := by decide +kernel
theorem mw_X5_remove : MV yX5_remove cX5_remove 7 (none) 2 5 := ⟨⟨tw 915 (by decide +kernel) rfl, ni_RX5, nh_RX5, ds_12⟩, tw 913 (by decide +kernel) rfl, tw 914 (by decide +kernel) rfl, TX5, 5, rfl⟩
theorem ml_X1_100 : Cond.methodLink RX1 100 yX5_remove ∈ lw_gw := tw 1097 (by decide +kernel) rfl
theorem fl_X1_25 : FL RX1 25 1 9 := ⟨RX1, TX1, 12, tyX1, clX1, by decide, tw 398 (by decide +kernel) rfl⟩
theorem s_98 : shp 98 = (0, 7) := by decide +kernel
theorem fp_X7_43 : FP RX7 43 7 1 .int := ⟨RX7, TX7, 8, tyX7, clX7, by decide, tw 295 (by decide +kernel) rfl, rfl, by decide +kernel⟩
theorem cp_X7_63 : CPW RX7 63 := ⟨tw 788 (by decide +kernel) rfl, tw 511 (by decide +kernel) rfl, tw 510 (by decide +kernel) rfl, tw 96 (by decide +kernel) rfl⟩
theorem ds_13 : (parseMethodDescriptor "(LAlbumHours$Rules;)V").map (fun d => d.parameters.length) = some 1 := by decide +kernel
theorem mw_X7_copyFrom : MV yX7_copyFrom cX7_copyFrom 2 (none) 1 7 := ⟨⟨tw 1056 (by decide +kernel) rfl, ni_RX7, nh_RX7, ds_13⟩, tw 1054 (by decide +kernel) rfl, tw 1055 (by decide +kernel) rfl, TX7, 8, rfl⟩
theorem ml_X1_104 : Cond.methodLink RX1 104 yX7_copyFrom ∈ lw_gw := tw 1053 (by decide +kernel) rfl
theorem ml_X7_69 : Cond.methodLink RX7 69 yX5_valueOf ∈ lw_gw := tw 734 (by decide +kernel) rfl
theorem mw_X5_slackOf : MV yX5_slackOf cX5_slackOf 3 (some .int) 2 5 := ⟨⟨tw 741 (by decide +kernel) rfl, ni_RX5, nh_RX5, ds_7⟩, tw 739 (by decide +kernel) rfl, tw 740 (by decide +kernel) rfl, TX5, 5, rfl⟩
theorem ml_X7_74 : Cond.methodLink RX7 74 yX5_slackOf ∈ lw_gw := tw 738 (by decide +kernel) rfl
theorem cw_X7_77 : Cond.constantLong RX7 77 (281474976710655 : Int64) ∈ lw_gw := tw 742 (by decide +kernel) rfl
theorem fl_X7_79 : FL RX7 79 0 2 := ⟨RX0, TX0, 6, tyX0, clX0, by decide, tw 206 (by decide +kernel) rfl⟩
theorem fl_X9_18 : FL RX9 18 9 0 := ⟨RX9, TX9, 3, tyX9, clX9, by decide, tw 148 (by decide +kernel) rfl⟩
theorem mw_J9_abs_0f7a4 : MS yJ9_abs_0f7a4 cJ9_abs_0f7a4 1 (some .int) 1 := ⟨⟨tw 749 (by decide +kernel) rfl, ni_RJ9, nh_RJ9, ds_5⟩, tw 748 (by decide +kernel) rfl⟩
theorem ml_X9_28 : Cond.methodLink RX9 28 yJ9_abs_0f7a4 ∈ lw_gw := tw 747 (by decide +kernel) rfl
theorem kb_12 : (Int8.ofInt 12).toInt32 = (12 : Int32) := by decide
theorem mw_X9_isUp : MV yX9_isUp cX9_isUp 2 (some .boolean) 1 9 := ⟨⟨tw 746 (by decide +kernel) rfl, ni_RX9, nh_RX9, ds_4⟩, tw 744 (by decide +kernel) rfl, tw 745 (by decide +kernel) rfl, TX9, 3, rfl⟩
theorem ml_X7_83 : Cond.methodLink RX7 83 yX9_isUp ∈ lw_gw := tw 743 (by decide +kernel) rfl
theorem kl_1 : Int64.ofNat ((1 : Fin 2) : Nat) = (1 : Int64) := by decide
theorem ml_X9_34 : Cond.methodLink RX9 34 yX9_isUp ∈ lw_gw := tw 754 (by decide +kernel) rfl
theorem mw_X9_pointAt : MV yX9_pointAt cX9_pointAt 2 (some .int) 1 9 := ⟨⟨tw 753 (by decide +kernel) rfl, ni_RX9, nh_RX9, ds_5⟩, tw 751 (by decide +kernel) rfl, tw 752 (by decide +kernel) rfl, TX9, 3, rfl⟩
theorem ml_X7_89 : Cond.methodLink RX7 89 yX9_pointAt ∈ lw_gw := tw 750 (by decide +kernel) rfl
theorem ml_X7_100 : Cond.methodLink RX7 100 yJ9_abs_0f7a4 ∈ lw_gw := tw 758 (by decide +kernel) rfl
theorem ds_14 : (parseMethodDescriptor "(III)Z").map (fun d => d.parameters.length) = some 3 := by decide +kernel
theorem mw_X7_isNear : MS yX7_isNear cX7_isNear 3 (some .boolean) 3 := ⟨⟨tw 757 (by decide +kernel) rfl, ni_RX7, nh_RX7, ds_14⟩, tw 756 (by decide +kernel) rfl⟩
theorem ml_X7_93 : Cond.methodLink RX7 93 yX7_isNear ∈ lw_gw := tw 755 (by decide +kernel) rfl
theorem fl_X9_25 : FL RX9 25 9 2 := ⟨RX9, TX9, 3, tyX9, clX9, by decide, tw 154 (by decide +kernel) rfl⟩
theorem fl_X9_22 : FL RX9 22 9 1 := ⟨RX9, TX9, 3, tyX9, clX9, by decide, tw 151 (by decide +kernel) rfl⟩
theorem mw_X9_lengthAt : MV yX9_lengthAt cX9_lengthAt 3 (some .int) 1 9 := ⟨⟨tw 762 (by decide +kernel) rfl, ni_RX9, nh_RX9, ds_5⟩, tw 760 (by decide +kernel) rfl, tw 761 (by decide +kernel) rfl, TX9, 3, rfl⟩
theorem ml_X7_97 : Cond.methodLink RX7 97 yX9_lengthAt ∈ lw_gw := tw 759 (by decide +kernel) rfl
theorem ds_15 : (parseMethodDescriptor "(LAlbumHours$Album;LAlbumHours$Pieces;I)V").map (fun d => d.parameters.length) = some 3 := by decide +kernel
theorem mw_X7_readWindow : MV yX7_readWindow cX7_readWindow 12 (none) 3 7 := ⟨⟨tw 733 (by decide +kernel) rfl, ni_RX7, nh_RX7, ds_15⟩, tw 732 (by decide +kernel) rfl, tw 13 (by decide +kernel) rfl, TX7, 8, rfl⟩
theorem ml_X7_48 : Cond.methodLink RX7 48 yX7_readWindow ∈ lw_gw := tw 730 (by decide +kernel) rfl
theorem ml_X7_103 : Cond.methodLink RX7 103 yJ7_fill_53178 ∈ lw_gw := tw 767 (by decide +kernel) rfl
theorem fl_X7_109 : FL RX7 109 0 1 := ⟨RX0, TX0, 6, tyX0, clX0, by decide, tw 201 (by decide +kernel) rfl⟩
theorem fl_X7_28 : FL RX7 28 7 7 := ⟨RX7, TX7, 8, tyX7, clX7, by decide, tw 302 (by decide +kernel) rfl⟩
theorem lr_7_7 {k : Nat} (h : shp k = (0, 7)) : rf k 7 = some (k + 6) := (show ∀ k, k < ly_N → shp k = (0, 7) → rf k 7 = some (k + 6) by decide +kernel) k (shp_lt h (by omega)) h
theorem lq_7_7 {k : Nat} (h : shp k = (0, 7)) : shp (k + 6) = (1, 7) := (show ∀ k, k < ly_N → shp k = (0, 7) → shp (k + 6) = (1, 7) by decide +kernel) k (shp_lt h (by omega)) h
theorem ml_X7_112 : Cond.methodLink RX7 112 yX0_kindOf ∈ lw_gw := tw 768 (by decide +kernel) rfl
theorem mw_X7_readWear : MV yX7_readWear cX7_readWear 4 (none) 0 7 := ⟨⟨tw 772 (by decide +kernel) rfl, ni_RX7, nh_RX7, ds_1⟩, tw 771 (by decide +kernel) rfl, tw 15 (by decide +kernel) rfl, TX7, 8, rfl⟩
theorem ml_X7_115 : Cond.methodLink RX7 115 yX7_readWear ∈ lw_gw := tw 769 (by decide +kernel) rfl
theorem ml_X7_125 : (RX7, 125, yX11_hasBit, "AlbumHours") ∈ lw_nw := List.mem_of_getElem? (i := 13) rfl
theorem mw_X7_putAhead : MV yX7_putAhead cX7_putAhead 4 (none) 2 7 := ⟨⟨tw 780 (by decide +kernel) rfl, ni_RX7, nh_RX7, ds_12⟩, tw 778 (by decide +kernel) rfl, tw 779 (by decide +kernel) rfl, TX7, 8, rfl⟩
theorem ml_X7_122 : Cond.methodLink RX7 122 yX7_putAhead ∈ lw_gw := tw 777 (by decide +kernel) rfl
theorem mw_X7_readThing : MV yX7_readThing cX7_readThing 6 (none) 2 7 := ⟨⟨tw 776 (by decide +kernel) rfl, ni_RX7, nh_RX7, ds_12⟩, tw 775 (by decide +kernel) rfl, tw 16 (by decide +kernel) rfl, TX7, 8, rfl⟩
theorem ml_X7_118 : Cond.methodLink RX7 118 yX7_readThing ∈ lw_gw := tw 773 (by decide +kernel) rfl
theorem ds_16 : (parseMethodDescriptor "(LAlbumHours$Album;LAlbumHours$Pieces;)V").map (fun d => d.parameters.length) = some 2 := by decide +kernel
theorem mw_X7_readThings : MV yX7_readThings cX7_readThings 5 (none) 2 7 := ⟨⟨tw 766 (by decide +kernel) rfl, ni_RX7, nh_RX7, ds_16⟩, tw 765 (by decide +kernel) rfl, tw 14 (by decide +kernel) rfl, TX7, 8, rfl⟩
theorem ml_X7_52 : Cond.methodLink RX7 52 yX7_readThings ∈ lw_gw := tw 763 (by decide +kernel) rfl
theorem ds_17 : (parseMethodDescriptor "(LAlbumHours$Album;LAlbumHours$Pieces;II)V").map (fun d => d.parameters.length) = some 4 := by decide +kernel
theorem mw_X7_readAgain : MV yX7_readAgain cX7_readAgain 5 (none) 4 7 := ⟨⟨tw 1101 (by decide +kernel) rfl, ni_RX7, nh_RX7, ds_17⟩, tw 1099 (by decide +kernel) rfl, tw 1100 (by decide +kernel) rfl, TX7, 8, rfl⟩
theorem ml_X1_107 : Cond.methodLink RX1 107 yX7_readAgain ∈ lw_gw := tw 1098 (by decide +kernel) rfl
theorem ds_18 : (parseMethodDescriptor "(LAlbumHours$Album;LAlbumHours$Rules;I)Z").map (fun d => d.parameters.length) = some 3 := by decide +kernel
theorem mw_X1_isLoose : MV yX1_isLoose cX1_isLoose 6 (some .boolean) 3 1 := ⟨⟨tw 1093 (by decide +kernel) rfl, ni_RX1, nh_RX1, ds_18⟩, tw 1092 (by decide +kernel) rfl, tw 30 (by decide +kernel) rfl, TX1, 12, rfl⟩
theorem ml_X1_86 : Cond.methodLink RX1 86 yX1_isLoose ∈ lw_gw := tw 1090 (by decide +kernel) rfl
theorem fl_X1_9 : FL RX1 9 1 3 := ⟨RX1, TX1, 12, tyX1, clX1, by decide, tw 392 (by decide +kernel) rfl⟩
theorem s_92 : shp 92 = (1, 56) := by decide +kernel
theorem ds_19 : (parseMethodDescriptor "(IIII)V").map (fun d => d.parameters.length) = some 4 := by decide +kernel
theorem mw_X5_put : MV yX5_put cX5_put 6 (none) 4 5 := ⟨⟨tw 657 (by decide +kernel) rfl, ni_RX5, nh_RX5, ds_19⟩, tw 655 (by decide +kernel) rfl, tw 656 (by decide +kernel) rfl, TX5, 5, rfl⟩
theorem ml_X1_111 : Cond.methodLink RX1 111 yX5_put ∈ lw_gw := tw 1114 (by decide +kernel) rfl
theorem fl_X1_32 : FL RX1 32 1 10 := ⟨RX1, TX1, 12, tyX1, clX1, by decide, tw 399 (by decide +kernel) rfl⟩
theorem s_105 : shp 105 = (0, 4) := by decide +kernel
theorem fp_X4_22 : FP RX4 22 4 2 (.object "AlbumHours$Rules") := ⟨RX4, TX4, 6, tyX4, clX4, by decide, tw 332 (by decide +kernel) rfl, rfl, by decide +kernel⟩
theorem ml_X4_26 : Cond.methodLink RX4 26 yX7_everyone ∈ lw_gw := tw 962 (by decide +kernel) rfl
theorem fl_X4_15 : FL RX4 15 4 4 := ⟨RX4, TX4, 6, tyX4, clX4, by decide, tw 334 (by decide +kernel) rfl⟩
theorem lr_4_4 {k : Nat} (h : shp k = (0, 4)) : rf k 4 = some (k + 2) := (show ∀ k, k < ly_N → shp k = (0, 4) → rf k 4 = some (k + 2) by decide +kernel) k (shp_lt h (by omega)) h
theorem lq_4_4 {k : Nat} (h : shp k = (0, 4)) : shp (k + 2) = (2, 128) := (show ∀ k, k < ly_N → shp k = (0, 4) → shp (k + 2) = (2, 128) by decide +kernel) k (shp_lt h (by omega)) h
theorem ds_20 : (parseMethodDescriptor "([JJ)V").map (fun d => d.parameters.length) = some 2 := by decide +kernel
theorem mw_J7_fill_d0a16 : MS yJ7_fill_d0a16 cJ7_fill_d0a16 5 (none) 2 := ⟨⟨tw 968 (by decide +kernel) rfl, ni_RJ7, nh_RJ7, ds_20⟩, tw 967 (by decide +kernel) rfl⟩
theorem ml_X4_32 : Cond.methodLink RX4 32 yJ7_fill_d0a16 ∈ lw_gw := tw 966 (by decide +kernel) rfl
theorem fl_X4_9 : FL RX4 9 4 3 := ⟨RX4, TX4, 6, tyX4, clX4, by decide, tw 333 (by decide +kernel) rfl⟩
theorem lr_4_3 {k : Nat} (h : shp k = (0, 4)) : rf k 3 = some (k + 1) := (show ∀ k, k < ly_N → shp k = (0, 4) → rf k 3 = some (k + 1) by decide +kernel) k (shp_lt h (by omega)) h
theorem lq_4_3 {k : Nat} (h : shp k = (0, 4)) : shp (k + 1) = (1, 128) := (show ∀ k, k < ly_N → shp k = (0, 4) → shp (k + 1) = (1, 128) by decide +kernel) k (shp_lt h (by omega)) h
theorem ml_X4_60 : (RX4, 60, yX11_hasBit, "AlbumHours") ∈ lw_nw := List.mem_of_getElem? (i := 15) rfl
theorem cw_J13_314 : Cond.constantLong RJ13 314 (6148914691236517205 : Int64) ∈ lw_gw := tw 796 (by decide +kernel) rfl
theorem cw_J13_316 : Cond.constantLong RJ13 316 (3689348814741910323 : Int64) ∈ lw_gw := tw 797 (by decide +kernel) rfl
theorem cw_J13_318 : Cond.constantLong RJ13 318 (1085102592571150095 : Int64) ∈ lw_gw := tw 798 (by decide +kernel) rfl
theorem kb_127 : (Int8.ofInt 127).toInt32 = (127 : Int32) := by decide
theorem mw_J13_bitCount_95d88 : MS yJ13_bitCount_95d88 cJ13_bitCount_95d88 2 (some .int) 1 := ⟨⟨tw 795 (by decide +kernel) rfl, ni_RJ13, nh_RJ13, ds_9⟩, tw 794 (by decide +kernel) rfl⟩
theorem ml_X4_68 : Cond.methodLink RX4 68 yJ13_bitCount_95d88 ∈ lw_gw := tw 981 (by decide +kernel) rfl
theorem ml_X4_74 : Cond.methodLink RX4 74 yJ13_numberOfTrailingZeros_95d88 ∈ lw_gw := tw 982 (by decide +kernel) rfl
theorem ml_X4_77 : Cond.methodLink RX4 77 yX7_freeBehind ∈ lw_gw := tw 983 (by decide +kernel) rfl
theorem ni_RX4 : Cond.initialized RX4 ∈ lw_gw := tw 91 (by decide +kernel) rfl
theorem nh_RX4 : RX4 ≠ "java/lang/invoke/MethodHandle" ∧ RX4 ≠ "java/lang/invoke/VarHandle" := by decide
theorem ds_21 : (parseMethodDescriptor "(LAlbumHours$Rules;IJ)J").map (fun d => d.parameters.length) = some 3 := by decide +kernel
theorem mw_X4_freeThen : MS yX4_freeThen cX4_freeThen 11 (some .long) 3 := ⟨⟨tw 980 (by decide +kernel) rfl, ni_RX4, nh_RX4, ds_21⟩, tw 979 (by decide +kernel) rfl⟩
theorem ml_X4_64 : Cond.methodLink RX4 64 yX4_freeThen ∈ lw_gw := tw 978 (by decide +kernel) rfl
theorem ml_X4_57 : Cond.methodLink RX4 57 yX7_nextOnes ∈ lw_gw := tw 973 (by decide +kernel) rfl
theorem ds_22 : (parseMethodDescriptor "(LAlbumHours$Rules;II)V").map (fun d => d.parameters.length) = some 3 := by decide +kernel
theorem mw_X4_reachOn : MV yX4_reachOn cX4_reachOn 6 (none) 3 4 := ⟨⟨tw 972 (by decide +kernel) rfl, ni_RX4, nh_RX4, ds_22⟩, tw 971 (by decide +kernel) rfl, tw 23 (by decide +kernel) rfl, TX4, 6, rfl⟩
theorem ml_X4_38 : Cond.methodLink RX4 38 yX4_reachOn ∈ lw_gw := tw 969 (by decide +kernel) rfl
theorem fl_X4_19 : FL RX4 19 4 5 := ⟨RX4, TX4, 6, tyX4, clX4, by decide, tw 335 (by decide +kernel) rfl⟩
theorem lr_4_5 {k : Nat} (h : shp k = (0, 4)) : rf k 5 = some (k + 3) := (show ∀ k, k < ly_N → shp k = (0, 4) → rf k 5 = some (k + 3) by decide +kernel) k (shp_lt h (by omega)) h
theorem lq_4_5 {k : Nat} (h : shp k = (0, 4)) : shp (k + 3) = (1, 6272) := (show ∀ k, k < ly_N → shp k = (0, 4) → shp (k + 3) = (1, 6272) by decide +kernel) k (shp_lt h (by omega)) h
theorem mw_X4_waysFrom : MV yX4_waysFrom cX4_waysFrom 4 (some .int) 2 4 := ⟨⟨tw 999 (by decide +kernel) rfl, ni_RX4, nh_RX4, ds_7⟩, tw 998 (by decide +kernel) rfl, tw 26 (by decide +kernel) rfl, TX4, 6, rfl⟩
theorem ml_X4_45 : Cond.methodLink RX4 45 yX4_waysFrom ∈ lw_gw := tw 996 (by decide +kernel) rfl
theorem fp_X4_49 : FP RX4 49 4 1 .int := ⟨RX4, TX4, 6, tyX4, clX4, by decide, tw 329 (by decide +kernel) rfl, rfl, by decide +kernel⟩
theorem fp_X4_53 : FP RX4 53 4 0 .boolean := ⟨RX4, TX4, 6, tyX4, clX4, by decide, tw 327 (by decide +kernel) rfl, rfl, by decide +kernel⟩
theorem ds_23 : (parseMethodDescriptor "(LAlbumHours$Rules;III)I").map (fun d => d.parameters.length) = some 4 := by decide +kernel
theorem mw_X4_waysBy : MV yX4_waysBy cX4_waysBy 6 (some .int) 4 4 := ⟨⟨tw 995 (by decide +kernel) rfl, ni_RX4, nh_RX4, ds_23⟩, tw 994 (by decide +kernel) rfl, tw 25 (by decide +kernel) rfl, TX4, 6, rfl⟩
theorem ml_X4_80 : Cond.methodLink RX4 80 yX4_waysBy ∈ lw_gw := tw 992 (by decide +kernel) rfl
theorem mw_X4_countOn : MV yX4_countOn cX4_countOn 11 (none) 3 4 := ⟨⟨tw 991 (by decide +kernel) rfl, ni_RX4, nh_RX4, ds_22⟩, tw 990 (by decide +kernel) rfl, tw 24 (by decide +kernel) rfl, TX4, 6, rfl⟩
theorem ml_X4_42 : Cond.methodLink RX4 42 yX4_countOn ∈ lw_gw := tw 988 (by decide +kernel) rfl
theorem ii_m1 (x : Int32) : x + Int32.ofInt (-1) = x + (-1 : Int32) := rfl
theorem mw_X4_seek : MV yX4_seek cX4_seek 4 (none) 1 4 := ⟨⟨tw 961 (by decide +kernel) rfl, ni_RX4, nh_RX4, ds_13⟩, tw 959 (by decide +kernel) rfl, tw 960 (by decide +kernel) rfl, TX4, 6, rfl⟩
theorem ml_X1_115 : Cond.methodLink RX1 115 yX4_seek ∈ lw_gw := tw 1058 (by decide +kernel) rfl
theorem fl_X1_118 : FL RX1 118 4 1 := ⟨RX4, TX4, 6, tyX4, clX4, by decide, tw 330 (by decide +kernel) rfl⟩
theorem ml_X1_121 : Cond.methodLink RX1 121 yX7_putAhead ∈ lw_gw := tw 1057 (by decide +kernel) rfl
theorem fl_X1_50 : FL RX1 50 1 7 := ⟨RX1, TX1, 12, tyX1, clX1, by decide, tw 396 (by decide +kernel) rfl⟩
theorem fp_X1_124 : FP RX1 124 1 1 .int := ⟨RX1, TX1, 12, tyX1, clX1, by decide, tw 388 (by decide +kernel) rfl, rfl, by decide +kernel⟩
theorem fp_X1_127 : FP RX1 127 1 2 .int := ⟨RX1, TX1, 12, tyX1, clX1, by decide, tw 390 (by decide +kernel) rfl, rfl, by decide +kernel⟩
theorem fl_X1_130 : FL RX1 130 0 0 := ⟨RX0, TX0, 6, tyX0, clX0, by decide, tw 198 (by decide +kernel) rfl⟩
theorem fl_X1_133 : FL RX1 133 0 1 := ⟨RX0, TX0, 6, tyX0, clX0, by decide, tw 203 (by decide +kernel) rfl⟩
theorem ml_X1_150 : Cond.methodLink RX1 150 yX0_kindOf ∈ lw_gw := tw 1126 (by decide +kernel) rfl
theorem mw_X0_picturesSeeing : MV yX0_picturesSeeing cX0_picturesSeeing 5 (some .int) 2 0 := ⟨⟨tw 837 (by decide +kernel) rfl, ni_RX0, nh_RX0, ds_7⟩, tw 835 (by decide +kernel) rfl, tw 836 (by decide +kernel) rfl, TX0, 6, rfl⟩
theorem ml_X1_153 : Cond.methodLink RX1 153 yX0_picturesSeeing ∈ lw_gw := tw 1127 (by decide +kernel) rfl
theorem ml_X1_156 : (RX1, 156, yX11_hasBit, "AlbumHours") ∈ lw_nw := List.mem_of_getElem? (i := 18) rfl
theorem ds_24 : (parseMethodDescriptor "(LAlbumHours$Album;II)Z").map (fun d => d.parameters.length) = some 3 := by decide +kernel
theorem mw_X1_canNarrow : MS yX1_canNarrow cX1_canNarrow 5 (some .boolean) 3 := ⟨⟨tw 1125 (by decide +kernel) rfl, ni_RX1, nh_RX1, ds_24⟩, tw 1124 (by decide +kernel) rfl⟩
theorem ml_X1_136 : Cond.methodLink RX1 136 yX1_canNarrow ∈ lw_gw := tw 1123 (by decide +kernel) rfl
theorem ds_25 : (parseMethodDescriptor "(LAlbumHours$Album;LAlbumHours$Rules;III)I").map (fun d => d.parameters.length) = some 5 := by decide +kernel
theorem mw_X1_ordersWithPiece : MV yX1_ordersWithPiece cX1_ordersWithPiece 6 (some .int) 5 1 := ⟨⟨tw 1113 (by decide +kernel) rfl, ni_RX1, nh_RX1, ds_25⟩, tw 1111 (by decide +kernel) rfl, tw 1112 (by decide +kernel) rfl, TX1, 12, rfl⟩
theorem ml_X1_140 : Cond.methodLink RX1 140 yX1_ordersWithPiece ∈ lw_gw := tw 1129 (by decide +kernel) rfl
theorem mw_J9_max_7cf53 : MS yJ9_max_7cf53 cJ9_max_7cf53 2 (some .int) 2 := ⟨⟨tw 1039 (by decide +kernel) rfl, ni_RJ9, nh_RJ9, ds_7⟩, tw 1038 (by decide +kernel) rfl⟩
theorem ml_X1_144 : Cond.methodLink RX1 144 yJ9_max_7cf53 ∈ lw_gw := tw 1130 (by decide +kernel) rfl
theorem kb_10 : (Int8.ofInt 10).toInt32 = (10 : Int32) := by decide
theorem s_22 : shp 22 = (0, 2) := by decide +kernel
theorem fp_X2_21 : FP RX2 21 2 0 .int := ⟨RX2, TX2, 5, tyX2, clX2, by decide, tw 270 (by decide +kernel) rfl, rfl, by decide +kernel⟩
theorem fp_X2_25 : FP RX2 25 2 4 .int := ⟨RX2, TX2, 5, tyX2, clX2, by decide, tw 275 (by decide +kernel) rfl, rfl, by decide +kernel⟩
theorem fl_X2_21 : FL RX2 21 2 0 := ⟨RX2, TX2, 5, tyX2, clX2, by decide, tw 270 (by decide +kernel) rfl⟩
theorem fl_X2_28 : FL RX2 28 2 1 := ⟨RX2, TX2, 5, tyX2, clX2, by decide, tw 272 (by decide +kernel) rfl⟩
theorem mw_J9_floorMod_7cf53 : MS yJ9_floorMod_7cf53 cJ9_floorMod_7cf53 3 (some .int) 2 := ⟨⟨tw 897 (by decide +kernel) rfl, ni_RJ9, nh_RJ9, ds_7⟩, tw 896 (by decide +kernel) rfl⟩
theorem ml_X2_39 : Cond.methodLink RX2 39 yJ9_floorMod_7cf53 ∈ lw_gw := tw 895 (by decide +kernel) rfl
theorem fl_X2_11 : FL RX2 11 2 2 := ⟨RX2, TX2, 5, tyX2, clX2, by decide, tw 273 (by decide +kernel) rfl⟩
theorem s_23 : shp 23 = (4, 8) := by decide +kernel
theorem ni_RX2 : Cond.initialized RX2 ∈ lw_gw := tw 89 (by decide +kernel) rfl
theorem nh_RX2 : RX2 ≠ "java/lang/invoke/MethodHandle" ∧ RX2 ≠ "java/lang/invoke/VarHandle" := by decide
theorem ds_26 : (parseMethodDescriptor "(I)LAlbumHours$Pieces;").map (fun d => d.parameters.length) = some 1 := by decide +kernel
theorem mw_X2_pastAt : MV yX2_pastAt cX2_pastAt 3 (some (.object "AlbumHours$Pieces")) 1 2 := ⟨⟨tw 894 (by decide +kernel) rfl, ni_RX2, nh_RX2, ds_26⟩, tw 893 (by decide +kernel) rfl, tw 20 (by decide +kernel) rfl, TX2, 5, rfl⟩
theorem ml_X2_31 : Cond.methodLink RX2 31 yX2_pastAt ∈ lw_gw := tw 891 (by decide +kernel) rfl
theorem ml_X2_35 : Cond.methodLink RX2 35 yX5_copyFrom ∈ lw_gw := tw 898 (by decide +kernel) rfl
theorem fp_X2_28 : FP RX2 28 2 1 .int := ⟨RX2, TX2, 5, tyX2, clX2, by decide, tw 272 (by decide +kernel) rfl, rfl, by decide +kernel⟩
theorem fl_X2_17 : FL RX2 17 2 3 := ⟨RX2, TX2, 5, tyX2, clX2, by decide, tw 274 (by decide +kernel) rfl⟩
theorem s_24 : shp 24 = (4, 2) := by decide +kernel
theorem fl_X2_25 : FL RX2 25 2 4 := ⟨RX2, TX2, 5, tyX2, clX2, by decide, tw 275 (by decide +kernel) rfl⟩
theorem ml_X2_45 : (RX2, 45, yX11_hasBit, "AlbumHours") ∈ lw_nw := List.mem_of_getElem? (i := 14) rfl
theorem ml_X3_49 : Cond.methodLink RX3 49 yX7_everyone ∈ lw_gw := tw 1020 (by decide +kernel) rfl
theorem fl_X3_18 : FL RX3 18 3 3 := ⟨RX3, TX3, 5, tyX3, clX3, by decide, tw 359 (by decide +kernel) rfl⟩
theorem lr_3_3 {k : Nat} (h : shp k = (0, 3)) : rf k 3 = some (k + 3) := (show ∀ k, k < ly_N → shp k = (0, 3) → rf k 3 = some (k + 3) by decide +kernel) k (shp_lt h (by omega)) h
theorem lq_3_3 {k : Nat} (h : shp k = (0, 3)) : shp (k + 3) = (2, 7) := (show ∀ k, k < ly_N → shp k = (0, 3) → shp (k + 3) = (2, 7) by decide +kernel) k (shp_lt h (by omega)) h
theorem ml_X3_53 : Cond.methodLink RX3 53 yJ7_fill_d0a16 ∈ lw_gw := tw 1021 (by decide +kernel) rfl
theorem fl_X3_22 : FL RX3 22 3 4 := ⟨RX3, TX3, 5, tyX3, clX3, by decide, tw 360 (by decide +kernel) rfl⟩
theorem lr_3_4 {k : Nat} (h : shp k = (0, 3)) : rf k 4 = some (k + 4) := (show ∀ k, k < ly_N → shp k = (0, 3) → rf k 4 = some (k + 4) by decide +kernel) k (shp_lt h (by omega)) h
theorem lq_3_4 {k : Nat} (h : shp k = (0, 3)) : shp (k + 4) = (1, 7) := (show ∀ k, k < ly_N → shp k = (0, 3) → shp (k + 4) = (1, 7) by decide +kernel) k (shp_lt h (by omega)) h
theorem fp_X3_56 : FP RX3 56 3 0 .boolean := ⟨RX3, TX3, 5, tyX3, clX3, by decide, tw 355 (by decide +kernel) rfl, rfl, by decide +kernel⟩
theorem ml_X3_60 : Cond.methodLink RX3 60 yX3_canBe ∈ lw_gw := tw 1023 (by decide +kernel) rfl
theorem fl_X3_15 : FL RX3 15 3 2 := ⟨RX3, TX3, 5, tyX3, clX3, by decide, tw 358 (by decide +kernel) rfl⟩
theorem lr_3_2 {k : Nat} (h : shp k = (0, 3)) : rf k 2 = some (k + 2) := (show ∀ k, k < ly_N → shp k = (0, 3) → rf k 2 = some (k + 2) by decide +kernel) k (shp_lt h (by omega)) h
theorem lq_3_2 {k : Nat} (h : shp k = (0, 3)) : shp (k + 2) = (1, 128) := (show ∀ k, k < ly_N → shp k = (0, 3) → shp (k + 2) = (1, 128) by decide +kernel) k (shp_lt h (by omega)) h
theorem ds_27 : (parseMethodDescriptor "(I)J").map (fun d => d.parameters.length) = some 1 := by decide +kernel
theorem mw_X7_windowOf : MV yX7_windowOf cX7_windowOf 2 (some .long) 1 7 := ⟨⟨tw 792 (by decide +kernel) rfl, ni_RX7, nh_RX7, ds_27⟩, tw 790 (by decide +kernel) rfl, tw 791 (by decide +kernel) rfl, TX7, 8, rfl⟩
theorem ml_X3_68 : Cond.methodLink RX3 68 yX7_windowOf ∈ lw_gw := tw 1035 (by decide +kernel) rfl
theorem kb_31 : (Int8.ofInt 31).toInt32 = (31 : Int32) := by decide
theorem ii_m2 (x : Int32) : x + Int32.ofInt (-2) = x + (-2 : Int32) := rfl
theorem ii_m4 (x : Int32) : x + Int32.ofInt (-4) = x + (-4 : Int32) := rfl
theorem ii_m8 (x : Int32) : x + Int32.ofInt (-8) = x + (-8 : Int32) := rfl
theorem ii_m16 (x : Int32) : x + Int32.ofInt (-16) = x + (-16 : Int32) := rfl
theorem mw_J6_numberOfLeadingZeros_0f7a4 : MS yJ6_numberOfLeadingZeros_0f7a4 cJ6_numberOfLeadingZeros_0f7a4 2 (some .int) 1 := ⟨⟨tw 817 (by decide +kernel) rfl, ni_RJ6, nh_RJ6, ds_5⟩, tw 816 (by decide +kernel) rfl⟩
theorem ml_J13_308 : Cond.methodLink RJ13 308 yJ6_numberOfLeadingZeros_0f7a4 ∈ lw_gw := tw 815 (by decide +kernel) rfl
theorem mw_J13_numberOfLeadingZeros_95d88 : MS yJ13_numberOfLeadingZeros_95d88 cJ13_numberOfLeadingZeros_95d88 3 (some .int) 1 := ⟨⟨tw 814 (by decide +kernel) rfl, ni_RJ13, nh_RJ13, ds_9⟩, tw 813 (by decide +kernel) rfl⟩
theorem ml_X11_361 : Cond.methodLink RX11 361 yJ13_numberOfLeadingZeros_95d88 ∈ lw_gw := tw 812 (by decide +kernel) rfl
theorem mw_X11_lastSlot : MS yX11_lastSlot cX11_lastSlot 2 (some .int) 1 := ⟨⟨tw 811 (by decide +kernel) rfl, ni_RX11, nh_RX11, ds_9⟩, tw 810 (by decide +kernel) rfl⟩
theorem ml_X3_72 : (RX3, 72, yX11_lastSlot, "AlbumHours") ∈ lw_nw := List.mem_of_getElem? (i := 17) rfl
theorem ml_X3_76 : Cond.methodLink RX3 76 yJ9_max_7cf53 ∈ lw_gw := tw 1037 (by decide +kernel) rfl
theorem ml_X3_79 : Cond.methodLink RX3 79 yJ6_bitCount_0f7a4 ∈ lw_gw := tw 1040 (by decide +kernel) rfl
theorem mw_X3_seekBetween : MV yX3_seekBetween cX3_seekBetween 9 (none) 3 3 := ⟨⟨tw 1034 (by decide +kernel) rfl, ni_RX3, nh_RX3, ds_22⟩, tw 1033 (by decide +kernel) rfl, tw 28 (by decide +kernel) rfl, TX3, 5, rfl⟩
theorem ml_X3_64 : Cond.methodLink RX3 64 yX3_seekBetween ∈ lw_gw := tw 1031 (by decide +kernel) rfl
theorem fl_X4_22 : FL RX4 22 4 2 := ⟨RX4, TX4, 6, tyX4, clX4, by decide, tw 332 (by decide +kernel) rfl⟩
theorem fl_X4_49 : FL RX4 49 4 1 := ⟨RX4, TX4, 6, tyX4, clX4, by decide, tw 329 (by decide +kernel) rfl⟩
theorem fl_X4_84 : FL RX4 84 7 1 := ⟨RX7, TX7, 8, tyX7, clX7, by decide, tw 296 (by decide +kernel) rfl⟩
theorem s_12 : shp 12 = (0, 6) := by decide +kernel
theorem fl_X6_12 : FL RX6 12 6 0 := ⟨RX6, TX6, 7, tyX6, clX6, by decide, tw 237 (by decide +kernel) rfl⟩
theorem s_13 : shp 13 = (0, 0) := by decide +kernel
theorem ds_28 : (parseMethodDescriptor "(LAlbumHours$Album;)V").map (fun d => d.parameters.length) = some 1 := by decide +kernel
theorem mw_X0_copyFrom : MV yX0_copyFrom cX0_copyFrom 2 (none) 1 0 := ⟨⟨tw 503 (by decide +kernel) rfl, ni_RX0, nh_RX0, ds_28⟩, tw 501 (by decide +kernel) rfl, tw 502 (by decide +kernel) rfl, TX0, 6, rfl⟩
theorem ml_X6_22 : Cond.methodLink RX6 22 yX0_copyFrom ∈ lw_gw := tw 500 (by decide +kernel) rfl
theorem fp_X6_26 : FP RX6 26 6 1 .int := ⟨RX6, TX6, 7, tyX6, clX6, by decide, tw 239 (by decide +kernel) rfl, rfl, by decide +kernel⟩
theorem fp_X6_30 : FP RX6 30 6 5 .int := ⟨RX6, TX6, 7, tyX6, clX6, by decide, tw 244 (by decide +kernel) rfl, rfl, by decide +kernel⟩
theorem fl_X6_30 : FL RX6 30 6 5 := ⟨RX6, TX6, 7, tyX6, clX6, by decide, tw 244 (by decide +kernel) rfl⟩
theorem fp_X6_40 : FP RX6 40 6 4 .int := ⟨RX6, TX6, 7, tyX6, clX6, by decide, tw 243 (by decide +kernel) rfl, rfl, by decide +kernel⟩
theorem ks_200 : (Int16.ofInt 200).toInt32 = (200 : Int32) := by decide
theorem fl_X6_18 : FL RX6 18 6 2 := ⟨RX6, TX6, 7, tyX6, clX6, by decide, tw 241 (by decide +kernel) rfl⟩
theorem s_1 : shp 1 = (0, 10) := by decide +kernel
theorem fl_X6_40 : FL RX6 40 6 4 := ⟨RX6, TX6, 7, tyX6, clX6, by decide, tw 243 (by decide +kernel) rfl⟩
theorem fl_X10_15 : FL RX10 15 10 0 := ⟨RX10, TX10, 2, tyX10, clX10, by decide, tw 119 (by decide +kernel) rfl⟩
theorem fl_X10_9 : FL RX10 9 10 1 := ⟨RX10, TX10, 2, tyX10, clX10, by decide, tw 121 (by decide +kernel) rfl⟩
theorem s_2 : shp 2 = (1, 200) := by decide +kernel
theorem ni_RX10 : Cond.initialized RX10 ∈ lw_gw := tw 83 (by decide +kernel) rfl
theorem nh_RX10 : RX10 ≠ "java/lang/invoke/MethodHandle" ∧ RX10 ≠ "java/lang/invoke/VarHandle" := by decide
theorem mw_X10_letterAt : MV yX10_letterAt cX10_letterAt 2 (some .int) 1 10 := ⟨⟨tw 520 (by decide +kernel) rfl, ni_RX10, nh_RX10, ds_5⟩, tw 518 (by decide +kernel) rfl, tw 519 (by decide +kernel) rfl, TX10, 2, rfl⟩
theorem ml_X6_48 : Cond.methodLink RX6 48 yX10_letterAt ∈ lw_gw := tw 517 (by decide +kernel) rfl
theorem kb_97 : (Int8.ofInt 97).toInt32 = (97 : Int32) := by decide
theorem kb_57 : (Int8.ofInt 57).toInt32 = (57 : Int32) := by decide
theorem kb_122 : (Int8.ofInt 122).toInt32 = (122 : Int32) := by decide
theorem mw_X10_kindOf : MS yX10_kindOf cX10_kindOf 1 (some .int) 1 := ⟨⟨tw 523 (by decide +kernel) rfl, ni_RX10, nh_RX10, ds_5⟩, tw 522 (by decide +kernel) rfl⟩
theorem ml_X6_52 : Cond.methodLink RX6 52 yX10_kindOf ∈ lw_gw := tw 521 (by decide +kernel) rfl
theorem fp_X6_43 : FP RX6 43 6 3 .int := ⟨RX6, TX6, 7, tyX6, clX6, by decide, tw 242 (by decide +kernel) rfl, rfl, by decide +kernel⟩
theorem fl_X6_43 : FL RX6 43 6 3 := ⟨RX6, TX6, 7, tyX6, clX6, by decide, tw 242 (by decide +kernel) rfl⟩
theorem ni_RX6 : Cond.initialized RX6 ∈ lw_gw := tw 88 (by decide +kernel) rfl
theorem nh_RX6 : RX6 ≠ "java/lang/invoke/MethodHandle" ∧ RX6 ≠ "java/lang/invoke/VarHandle" := by decide
theorem mw_X6_step : MV yX6_step cX6_step 2 (none) 0 6 := ⟨⟨tw 516 (by decide +kernel) rfl, ni_RX6, nh_RX6, ds_1⟩, tw 515 (by decide +kernel) rfl, tw 0 (by decide +kernel) rfl, TX6, 7, rfl⟩
theorem ml_X6_33 : Cond.methodLink RX6 33 yX6_step ∈ lw_gw := tw 513 (by decide +kernel) rfl
theorem ml_X6_92 : Cond.methodLink RX6 92 yJ0_length_8abf5 ∈ lw_gw := tw 533 (by decide +kernel) rfl
theorem ml_X6_98 : Cond.methodLink RX6 98 yJ0_charAt_5068e ∈ lw_gw := tw 543 (by decide +kernel) rfl
theorem ds_29 : (parseMethodDescriptor "(Ljava/lang/String;)Z").map (fun d => d.parameters.length) = some 1 := by decide +kernel
theorem mw_X6_is : MV yX6_is cX6_is 3 (some .boolean) 1 6 := ⟨⟨tw 532 (by decide +kernel) rfl, ni_RX6, nh_RX6, ds_29⟩, tw 531 (by decide +kernel) rfl, tw 2 (by decide +kernel) rfl, TX6, 7, rfl⟩
theorem ml_X6_57 : Cond.methodLink RX6 57 yX6_is ∈ lw_gw := tw 529 (by decide +kernel) rfl
theorem fl_X6_121 : FL RX6 121 0 0 := ⟨RX0, TX0, 6, tyX0, clX0, by decide, tw 197 (by decide +kernel) rfl⟩
theorem fp_X6_109 : FP RX6 109 6 6 .int := ⟨RX6, TX6, 7, tyX6, clX6, by decide, tw 245 (by decide +kernel) rfl, rfl, by decide +kernel⟩
theorem fl_X6_109 : FL RX6 109 6 6 := ⟨RX6, TX6, 7, tyX6, clX6, by decide, tw 245 (by decide +kernel) rfl⟩
theorem mw_X6_readNumber : MV yX6_readNumber cX6_readNumber 4 (some .boolean) 2 6 := ⟨⟨tw 599 (by decide +kernel) rfl, ni_RX6, nh_RX6, ds_6⟩, tw 598 (by decide +kernel) rfl, tw 5 (by decide +kernel) rfl, TX6, 7, rfl⟩
theorem ml_X6_105 : Cond.methodLink RX6 105 yX6_readNumber ∈ lw_gw := tw 596 (by decide +kernel) rfl
theorem fl_X6_135 : FL RX6 135 0 1 := ⟨RX0, TX0, 6, tyX0, clX0, by decide, tw 202 (by decide +kernel) rfl⟩
theorem ml_X6_152 : Cond.methodLink RX6 152 yX0_mostValue ∈ lw_gw := tw 639 (by decide +kernel) rfl
theorem fl_X6_158 : FL RX6 158 0 3 := ⟨RX0, TX0, 6, tyX0, clX0, by decide, tw 213 (by decide +kernel) rfl⟩
theorem s_15 : shp 15 = (0, 5) := by decide +kernel
theorem ml_X6_162 : Cond.methodLink RX6 162 yX5_put ∈ lw_gw := tw 654 (by decide +kernel) rfl
theorem ds_30 : (parseMethodDescriptor "()Z").map (fun d => d.parameters.length) = some 0 := by decide +kernel
theorem mw_X6_readSight : MV yX6_readSight cX6_readSight 3 (some .boolean) 0 6 := ⟨⟨tw 666 (by decide +kernel) rfl, ni_RX6, nh_RX6, ds_30⟩, tw 665 (by decide +kernel) rfl, tw 10 (by decide +kernel) rfl, TX6, 7, rfl⟩
theorem ml_X6_89 : Cond.methodLink RX6 89 yX6_readSight ∈ lw_gw := tw 663 (by decide +kernel) rfl
theorem kb_99 : (Int8.ofInt 99).toInt32 = (99 : Int32) := by decide
theorem mw_X11_mostSlack : MS yX11_mostSlack cX11_mostSlack 1 (some .int) 1 := ⟨⟨tw 653 (by decide +kernel) rfl, ni_RX11, nh_RX11, ds_5⟩, tw 652 (by decide +kernel) rfl⟩
theorem ml_X6_155 : (RX6, 155, yX11_mostSlack, "AlbumHours") ∈ lw_nw := List.mem_of_getElem? (i := 11) rfl
theorem mw_X6_readShadow : MV yX6_readShadow cX6_readShadow 4 (some .boolean) 1 6 := ⟨⟨tw 638 (by decide +kernel) rfl, ni_RX6, nh_RX6, ds_4⟩, tw 637 (by decide +kernel) rfl, tw 9 (by decide +kernel) rfl, TX6, 7, rfl⟩
theorem ml_X6_81 : Cond.methodLink RX6 81 yX6_readShadow ∈ lw_gw := tw 635 (by decide +kernel) rfl
theorem mw_X6_thingKindNamed : MV yX6_thingKindNamed cX6_thingKindNamed 1 (some .int) 0 6 := ⟨⟨tw 625 (by decide +kernel) rfl, ni_RX6, nh_RX6, ds_8⟩, tw 624 (by decide +kernel) rfl, tw 8 (by decide +kernel) rfl, TX6, 7, rfl⟩
theorem ml_X6_138 : Cond.methodLink RX6 138 yX6_thingKindNamed ∈ lw_gw := tw 622 (by decide +kernel) rfl
theorem ds_31 : (parseMethodDescriptor "(I)V").map (fun d => d.parameters.length) = some 1 := by decide +kernel
theorem mw_X0_addThing : MV yX0_addThing cX0_addThing 2 (none) 1 0 := ⟨⟨tw 633 (by decide +kernel) rfl, ni_RX0, nh_RX0, ds_31⟩, tw 631 (by decide +kernel) rfl, tw 632 (by decide +kernel) rfl, TX0, 6, rfl⟩
theorem ml_X6_141 : Cond.methodLink RX6 141 yX0_addThing ∈ lw_gw := tw 630 (by decide +kernel) rfl
theorem mw_X6_readThing : MV yX6_readThing cX6_readThing 2 (some .boolean) 0 6 := ⟨⟨tw 621 (by decide +kernel) rfl, ni_RX6, nh_RX6, ds_30⟩, tw 620 (by decide +kernel) rfl, tw 7 (by decide +kernel) rfl, TX6, 7, rfl⟩
theorem ml_X6_76 : Cond.methodLink RX6 76 yX6_readThing ∈ lw_gw := tw 618 (by decide +kernel) rfl
theorem mw_X11_lengthened : MS yX11_lengthened cX11_lengthened 2 (some .int) 2 := ⟨⟨tw 608 (by decide +kernel) rfl, ni_RX11, nh_RX11, ds_7⟩, tw 607 (by decide +kernel) rfl⟩
theorem ml_X6_124 : (RX6, 124, yX11_lengthened, "AlbumHours") ∈ lw_nw := List.mem_of_getElem? (i := 10) rfl
theorem mw_X0_pictureNamed : MV yX0_pictureNamed cX0_pictureNamed 3 (some .int) 1 0 := ⟨⟨tw 612 (by decide +kernel) rfl, ni_RX0, nh_RX0, ds_5⟩, tw 610 (by decide +kernel) rfl, tw 611 (by decide +kernel) rfl, TX0, 6, rfl⟩
theorem ml_X6_128 : Cond.methodLink RX6 128 yX0_pictureNamed ∈ lw_gw := tw 609 (by decide +kernel) rfl
theorem mw_X0_addPicture : MV yX0_addPicture cX0_addPicture 2 (none) 1 0 := ⟨⟨tw 616 (by decide +kernel) rfl, ni_RX0, nh_RX0, ds_31⟩, tw 614 (by decide +kernel) rfl, tw 615 (by decide +kernel) rfl, TX0, 6, rfl⟩
theorem ml_X6_131 : Cond.methodLink RX6 131 yX0_addPicture ∈ lw_gw := tw 613 (by decide +kernel) rfl
theorem mw_X6_readPicture : MV yX6_readPicture cX6_readPicture 3 (some .boolean) 0 6 := ⟨⟨tw 605 (by decide +kernel) rfl, ni_RX6, nh_RX6, ds_30⟩, tw 604 (by decide +kernel) rfl, tw 6 (by decide +kernel) rfl, TX6, 7, rfl⟩
theorem ml_X6_71 : Cond.methodLink RX6 71 yX6_readPicture ∈ lw_gw := tw 602 (by decide +kernel) rfl
theorem kb_18 : (Int8.ofInt 18).toInt32 = (18 : Int32) := by decide
theorem kb_30 : (Int8.ofInt 30).toInt32 = (30 : Int32) := by decide
theorem kb_40 : (Int8.ofInt 40).toInt32 = (40 : Int32) := by decide
theorem fl_X6_112 : FL RX6 112 0 2 := ⟨RX0, TX0, 6, tyX0, clX0, by decide, tw 207 (by decide +kernel) rfl⟩
theorem s_14 : shp 14 = (0, 9) := by decide +kernel
theorem ml_X6_115 : Cond.methodLink RX6 115 yX9_become ∈ lw_gw := tw 600 (by decide +kernel) rfl
theorem mw_X6_readSun : MV yX6_readSun cX6_readSun 3 (some .boolean) 0 6 := ⟨⟨tw 595 (by decide +kernel) rfl, ni_RX6, nh_RX6, ds_30⟩, tw 594 (by decide +kernel) rfl, tw 4 (by decide +kernel) rfl, TX6, 7, rfl⟩
theorem ml_X6_66 : Cond.methodLink RX6 66 yX6_readSun ∈ lw_gw := tw 592 (by decide +kernel) rfl
theorem mw_X0_clear : MV yX0_clear cX0_clear 1 (none) 0 0 := ⟨⟨tw 588 (by decide +kernel) rfl, ni_RX0, nh_RX0, ds_1⟩, tw 586 (by decide +kernel) rfl, tw 587 (by decide +kernel) rfl, TX0, 6, rfl⟩
theorem ml_X6_102 : Cond.methodLink RX6 102 yX0_clear ∈ lw_gw := tw 585 (by decide +kernel) rfl
theorem mw_X6_readAlbum : MV yX6_readAlbum cX6_readAlbum 1 (some .boolean) 0 6 := ⟨⟨tw 584 (by decide +kernel) rfl, ni_RX6, nh_RX6, ds_30⟩, tw 583 (by decide +kernel) rfl, tw 3 (by decide +kernel) rfl, TX6, 7, rfl⟩
theorem ml_X6_61 : Cond.methodLink RX6 61 yX6_readAlbum ∈ lw_gw := tw 581 (by decide +kernel) rfl
theorem mw_X6_readClause : MV yX6_readClause cX6_readClause 1 (some .boolean) 0 6 := ⟨⟨tw 527 (by decide +kernel) rfl, ni_RX6, nh_RX6, ds_30⟩, tw 526 (by decide +kernel) rfl, tw 1 (by decide +kernel) rfl, TX6, 7, rfl⟩
theorem ml_X6_36 : Cond.methodLink RX6 36 yX6_readClause ∈ lw_gw := tw 524 (by decide +kernel) rfl
theorem fl_X6_26 : FL RX6 26 6 1 := ⟨RX6, TX6, 7, tyX6, clX6, by decide, tw 239 (by decide +kernel) rfl⟩
theorem kb_59 : (Int8.ofInt 59).toInt32 = (59 : Int32) := by decide
theorem fl_X7_31 : FL RX7 31 0 0 := ⟨RX0, TX0, 6, tyX0, clX0, by decide, tw 196 (by decide +kernel) rfl⟩
theorem ml_X7_37 : Cond.methodLink RX7 37 yJ9_min_7cf53 ∈ lw_gw := tw 727 (by decide +kernel) rfl
theorem fl_X7_44 : FL RX7 44 0 3 := ⟨RX0, TX0, 6, tyX0, clX0, by decide, tw 210 (by decide +kernel) rfl⟩
theorem fl_X7_19 : FL RX7 19 7 4 := ⟨RX7, TX7, 8, tyX7, clX7, by decide, tw 299 (by decide +kernel) rfl⟩
theorem lr_7_4 {k : Nat} (h : shp k = (0, 7)) : rf k 4 = some (k + 3) := (show ∀ k, k < ly_N → shp k = (0, 7) → rf k 4 = some (k + 3) by decide +kernel) k (shp_lt h (by omega)) h
theorem lq_7_4 {k : Nat} (h : shp k = (0, 7)) : shp (k + 3) = (1, 7) := (show ∀ k, k < ly_N → shp k = (0, 7) → shp (k + 3) = (1, 7) by decide +kernel) k (shp_lt h (by omega)) h
theorem mw_X7_chainAhead : MV yX7_chainAhead cX7_chainAhead 3 (none) 0 7 := ⟨⟨tw 787 (by decide +kernel) rfl, ni_RX7, nh_RX7, ds_1⟩, tw 786 (by decide +kernel) rfl, tw 17 (by decide +kernel) rfl, TX7, 8, rfl⟩
theorem ml_X7_56 : Cond.methodLink RX7 56 yX7_chainAhead ∈ lw_gw := tw 784 (by decide +kernel) rfl
theorem fp_X7_59 : FP RX7 59 7 0 .boolean := ⟨RX7, TX7, 8, tyX7, clX7, by decide, tw 293 (by decide +kernel) rfl, rfl, by decide +kernel⟩
theorem mw_X7_earlierThan : MV yX7_earlierThan cX7_earlierThan 2 (some .int) 1 7 := ⟨⟨tw 821 (by decide +kernel) rfl, ni_RX7, nh_RX7, ds_5⟩, tw 819 (by decide +kernel) rfl, tw 820 (by decide +kernel) rfl, TX7, 8, rfl⟩
theorem ml_X7_129 : Cond.methodLink RX7 129 yX7_earlierThan ∈ lw_gw := tw 1215 (by decide +kernel) rfl
theorem ml_X7_132 : Cond.methodLink RX7 132 yJ6_bitCount_0f7a4 ∈ lw_gw := tw 1216 (by decide +kernel) rfl
theorem s_114 : shp 114 = (0, 8) := by decide +kernel
theorem fl_X8_11 : FL RX8 11 8 1 := ⟨RX8, TX8, 3, tyX8, clX8, by decide, tw 439 (by decide +kernel) rfl⟩
theorem s_115 : shp 115 = (1, 3) := by decide +kernel
theorem ml_X8_22 : Cond.methodLink RX8 22 yJ7_fill_53178 ∈ lw_gw := tw 436 (by decide +kernel) rfl
theorem ni_RX8 : Cond.initialized RX8 ∈ lw_gw := tw 94 (by decide +kernel) rfl
theorem nh_RX8 : RX8 ≠ "java/lang/invoke/MethodHandle" ∧ RX8 ≠ "java/lang/invoke/VarHandle" := by decide
theorem mw_X8_has : MV yX8_has cX8_has 2 (some .boolean) 1 8 := ⟨⟨tw 1138 (by decide +kernel) rfl, ni_RX8, nh_RX8, ds_4⟩, tw 1136 (by decide +kernel) rfl, tw 1137 (by decide +kernel) rfl, TX8, 3, rfl⟩
theorem ml_X8_28 : Cond.methodLink RX8 28 yX8_has ∈ lw_gw := tw 1143 (by decide +kernel) rfl
theorem mw_X8_sizeOf : MV yX8_sizeOf cX8_sizeOf 2 (some .int) 1 8 := ⟨⟨tw 1155 (by decide +kernel) rfl, ni_RX8, nh_RX8, ds_5⟩, tw 1154 (by decide +kernel) rfl, tw 31 (by decide +kernel) rfl, TX8, 3, rfl⟩
theorem ml_X8_32 : Cond.methodLink RX8 32 yX8_sizeOf ∈ lw_gw := tw 1152 (by decide +kernel) rfl
theorem mw_X8_hasPlace : MV yX8_hasPlace cX8_hasPlace 3 (some .boolean) 2 8 := ⟨⟨tw 1151 (by decide +kernel) rfl, ni_RX8, nh_RX8, ds_6⟩, tw 1149 (by decide +kernel) rfl, tw 1150 (by decide +kernel) rfl, TX8, 3, rfl⟩
theorem ml_X8_40 : Cond.methodLink RX8 40 yX8_hasPlace ∈ lw_gw := tw 1148 (by decide +kernel) rfl
theorem fl_X8_15 : FL RX8 15 8 2 := ⟨RX8, TX8, 3, tyX8, clX8, by decide, tw 440 (by decide +kernel) rfl⟩
theorem s_116 : shp 116 = (2, 24) := by decide +kernel
theorem ds_32 : (parseMethodDescriptor "(IIJ)V").map (fun d => d.parameters.length) = some 3 := by decide +kernel
theorem mw_X8_put : MV yX8_put cX8_put 5 (none) 3 8 := ⟨⟨tw 1147 (by decide +kernel) rfl, ni_RX8, nh_RX8, ds_32⟩, tw 1145 (by decide +kernel) rfl, tw 1146 (by decide +kernel) rfl, TX8, 3, rfl⟩
theorem ml_X8_36 : Cond.methodLink RX8 36 yX8_put ∈ lw_gw := tw 1144 (by decide +kernel) rfl
theorem ds_33 : (parseMethodDescriptor "(II)J").map (fun d => d.parameters.length) = some 2 := by decide +kernel
theorem mw_X8_at : MV yX8_at cX8_at 3 (some .long) 2 8 := ⟨⟨tw 1181 (by decide +kernel) rfl, ni_RX8, nh_RX8, ds_33⟩, tw 1179 (by decide +kernel) rfl, tw 1180 (by decide +kernel) rfl, TX8, 3, rfl⟩
theorem ml_X8_44 : Cond.methodLink RX8 44 yX8_at ∈ lw_gw := tw 1178 (by decide +kernel) rfl
theorem fl_X8_48 : FL RX8 48 8 0 := ⟨RX8, TX8, 3, tyX8, clX8, by decide, tw 437 (by decide +kernel) rfl⟩
theorem fp_X8_48 : FP RX8 48 8 0 .long := ⟨RX8, TX8, 3, tyX8, clX8, by decide, tw 437 (by decide +kernel) rfl, rfl, by decide +kernel⟩
theorem ml_X8_52 : Cond.methodLink RX8 52 yJ9_max_7cf53 ∈ lw_gw := tw 1221 (by decide +kernel) rfl
theorem fp_X10_15 : FP RX10 15 10 0 .int := ⟨RX10, TX10, 2, tyX10, clX10, by decide, tw 119 (by decide +kernel) rfl, rfl, by decide +kernel⟩
theorem ml_X10_19 : Cond.methodLink RX10 19 yX10_letterAt ∈ lw_gw := tw 694 (by decide +kernel) rfl
theorem ml_X10_23 : Cond.methodLink RX10 23 yX10_kindOf ∈ lw_gw := tw 695 (by decide +kernel) rfl
theorem ml_X10_26 : (RX10, 26, yX11_lengthened, "AlbumHours") ∈ lw_nw := List.mem_of_getElem? (i := 12) rfl
theorem s_0 : shp 0 = (0, 11) := by decide +kernel
theorem kb_m3 : (Int8.ofInt (-3)).toInt32 = (-3 : Int32) := by decide
theorem ks_255 : (Int16.ofInt 255).toInt32 = (255 : Int32) := by decide
theorem fl_X11_12 : FL RX11 12 11 0 := ⟨RX11, TX11, 9, tyX11, clX11, by decide, tw 448 (by decide +kernel) rfl⟩
theorem mw_X10_add : MV yX10_add cX10_add 2 (some .boolean) 1 10 := ⟨⟨tw 483 (by decide +kernel) rfl, ni_RX10, nh_RX10, ds_4⟩, tw 481 (by decide +kernel) rfl, tw 482 (by decide +kernel) rfl, TX10, 2, rfl⟩
theorem ml_X11_74 : Cond.methodLink RX11 74 yX10_add ∈ lw_gw := tw 480 (by decide +kernel) rfl
theorem kb_m5 : (Int8.ofInt (-5)).toInt32 = (-5 : Int32) := by decide
theorem fl_X11_78 : FL RX11 78 10 0 := ⟨RX10, TX10, 2, tyX10, clX10, by decide, tw 120 (by decide +kernel) rfl⟩
theorem mw_X10_clear : MV yX10_clear cX10_clear 2 (some .int) 0 10 := ⟨⟨tw 491 (by decide +kernel) rfl, ni_RX10, nh_RX10, ds_8⟩, tw 489 (by decide +kernel) rfl, tw 490 (by decide +kernel) rfl, TX10, 2, rfl⟩
theorem ml_X11_82 : Cond.methodLink RX11 82 yX10_clear ∈ lw_gw := tw 488 (by decide +kernel) rfl
theorem fl_X11_28 : FL RX11 28 11 2 := ⟨RX11, TX11, 9, tyX11, clX11, by decide, tw 450 (by decide +kernel) rfl⟩
theorem fl_X11_19 : FL RX11 19 11 1 := ⟨RX11, TX11, 9, tyX11, clX11, by decide, tw 449 (by decide +kernel) rfl⟩
theorem s_3 : shp 3 = (0, 0) := by decide +kernel
theorem ds_34 : (parseMethodDescriptor "(LAlbumHours$Album;)I").map (fun d => d.parameters.length) = some 1 := by decide +kernel
theorem mw_X6_read : MV yX6_read cX6_read 3 (some .int) 1 6 := ⟨⟨tw 499 (by decide +kernel) rfl, ni_RX6, nh_RX6, ds_34⟩, tw 497 (by decide +kernel) rfl, tw 498 (by decide +kernel) rfl, TX6, 7, rfl⟩
theorem ml_X11_86 : Cond.methodLink RX11 86 yX6_read ∈ lw_gw := tw 496 (by decide +kernel) rfl
theorem fl_X11_90 : FL RX11 90 6 0 := ⟨RX6, TX6, 7, tyX6, clX6, by decide, tw 238 (by decide +kernel) rfl⟩
theorem ml_X11_93 : Cond.methodLink RX11 93 yX0_copyFrom ∈ lw_gw := tw 672 (by decide +kernel) rfl
theorem fl_X11_35 : FL RX11 35 11 3 := ⟨RX11, TX11, 9, tyX11, clX11, by decide, tw 451 (by decide +kernel) rfl⟩
theorem mw_X2_clear : MV yX2_clear cX2_clear 1 (none) 0 2 := ⟨⟨tw 676 (by decide +kernel) rfl, ni_RX2, nh_RX2, ds_1⟩, tw 674 (by decide +kernel) rfl, tw 675 (by decide +kernel) rfl, TX2, 5, rfl⟩
theorem ml_X11_97 : Cond.methodLink RX11 97 yX2_clear ∈ lw_gw := tw 673 (by decide +kernel) rfl
theorem fl_X11_70 : FL RX11 70 11 8 := ⟨RX11, TX11, 9, tyX11, clX11, by decide, tw 456 (by decide +kernel) rfl⟩
theorem mw_X8_clear : MV yX8_clear cX8_clear 1 (none) 0 8 := ⟨⟨tw 435 (by decide +kernel) rfl, ni_RX8, nh_RX8, ds_1⟩, tw 433 (by decide +kernel) rfl, tw 434 (by decide +kernel) rfl, TX8, 3, rfl⟩
theorem ml_X11_99 : Cond.methodLink RX11 99 yX8_clear ∈ lw_gw := tw 677 (by decide +kernel) rfl
theorem fl_X11_42 : FL RX11 42 11 4 := ⟨RX11, TX11, 9, tyX11, clX11, by decide, tw 452 (by decide +kernel) rfl⟩
theorem s_75 : shp 75 = (0, 7) := by decide +kernel
theorem fp_X11_342 : FP RX11 342 7 0 .boolean := ⟨RX7, TX7, 8, tyX7, clX7, by decide, tw 294 (by decide +kernel) rfl, rfl, by decide +kernel⟩
theorem fl_X11_49 : FL RX11 49 11 5 := ⟨RX11, TX11, 9, tyX11, clX11, by decide, tw 453 (by decide +kernel) rfl⟩
theorem s_82 : shp 82 = (0, 4) := by decide +kernel
theorem fp_X11_346 : FP RX11 346 4 0 .boolean := ⟨RX4, TX4, 6, tyX4, clX4, by decide, tw 328 (by decide +kernel) rfl, rfl, by decide +kernel⟩
theorem fl_X11_56 : FL RX11 56 11 6 := ⟨RX11, TX11, 9, tyX11, clX11, by decide, tw 454 (by decide +kernel) rfl⟩
theorem s_86 : shp 86 = (0, 3) := by decide +kernel
theorem fp_X11_347 : FP RX11 347 3 0 .boolean := ⟨RX3, TX3, 5, tyX3, clX3, by decide, tw 356 (by decide +kernel) rfl, rfl, by decide +kernel⟩
theorem fl_X11_63 : FL RX11 63 11 7 := ⟨RX11, TX11, 9, tyX11, clX11, by decide, tw 455 (by decide +kernel) rfl⟩
theorem mw_X1_forget : MV yX1_forget cX1_forget 1 (none) 0 1 := ⟨⟨tw 685 (by decide +kernel) rfl, ni_RX1, nh_RX1, ds_1⟩, tw 683 (by decide +kernel) rfl, tw 684 (by decide +kernel) rfl, TX1, 12, rfl⟩
theorem ml_X11_348 : Cond.methodLink RX11 348 yX1_forget ∈ lw_gw := tw 682 (by decide +kernel) rfl
theorem mw_X11_forgetFindings : MV yX11_forgetFindings cX11_forgetFindings 1 (none) 0 11 := ⟨⟨tw 681 (by decide +kernel) rfl, ni_RX11, nh_RX11, ds_1⟩, tw 680 (by decide +kernel) rfl, tw 11 (by decide +kernel) rfl, TX11, 9, rfl⟩
theorem ml_X11_100 : Cond.methodLink RX11 100 yX11_forgetFindings ∈ lw_gw := tw 678 (by decide +kernel) rfl
theorem fl_X11_103 : FL RX11 103 6 1 := ⟨RX6, TX6, 7, tyX6, clX6, by decide, tw 240 (by decide +kernel) rfl⟩
theorem kb_m4 : (Int8.ofInt (-4)).toInt32 = (-4 : Int32) := by decide
theorem mw_X10_wholeWord : MV yX10_wholeWord cX10_wholeWord 5 (some .int) 0 10 := ⟨⟨tw 693 (by decide +kernel) rfl, ni_RX10, nh_RX10, ds_8⟩, tw 691 (by decide +kernel) rfl, tw 692 (by decide +kernel) rfl, TX10, 2, rfl⟩
theorem ml_X11_106 : Cond.methodLink RX11 106 yX10_wholeWord ∈ lw_gw := tw 690 (by decide +kernel) rfl
theorem ml_X11_109 : Cond.methodLink RX11 109 yX0_pictureNamed ∈ lw_gw := tw 697 (by decide +kernel) rfl
theorem ml_X11_113 : Cond.methodLink RX11 113 yX0_hasPicture ∈ lw_gw := tw 702 (by decide +kernel) rfl
theorem kb_m2 : (Int8.ofInt (-2)).toInt32 = (-2 : Int32) := by decide
theorem mw_X0_wordLetters : MV yX0_wordLetters cX0_wordLetters 4 (some .int) 1 0 := ⟨⟨tw 709 (by decide +kernel) rfl, ni_RX0, nh_RX0, ds_5⟩, tw 707 (by decide +kernel) rfl, tw 708 (by decide +kernel) rfl, TX0, 6, rfl⟩
theorem ml_X11_116 : Cond.methodLink RX11 116 yX0_wordLetters ∈ lw_gw := tw 706 (by decide +kernel) rfl
theorem fl_X11_119 : FL RX11 119 0 3 := ⟨RX0, TX0, 6, tyX0, clX0, by decide, tw 212 (by decide +kernel) rfl⟩
theorem s_5 : shp 5 = (0, 5) := by decide +kernel
theorem mw_X5_manyOf : MV yX5_manyOf cX5_manyOf 4 (some .int) 1 5 := ⟨⟨tw 714 (by decide +kernel) rfl, ni_RX5, nh_RX5, ds_5⟩, tw 712 (by decide +kernel) rfl, tw 713 (by decide +kernel) rfl, TX5, 5, rfl⟩
theorem ml_X11_123 : Cond.methodLink RX11 123 yX5_manyOf ∈ lw_gw := tw 711 (by decide +kernel) rfl
theorem fl_X11_342 : FL RX11 342 7 0 := ⟨RX7, TX7, 8, tyX7, clX7, by decide, tw 294 (by decide +kernel) rfl⟩
theorem mw_X7_read : MV yX7_read cX7_read 3 (none) 1 7 := ⟨⟨tw 726 (by decide +kernel) rfl, ni_RX7, nh_RX7, ds_28⟩, tw 724 (by decide +kernel) rfl, tw 725 (by decide +kernel) rfl, TX7, 8, rfl⟩
theorem ml_X11_351 : Cond.methodLink RX11 351 yX7_read ∈ lw_gw := tw 723 (by decide +kernel) rfl
theorem ds_35 : (parseMethodDescriptor "()LAlbumHours$Rules;").map (fun d => d.parameters.length) = some 0 := by decide +kernel
theorem mw_X11_rulesNow : MV yX11_rulesNow cX11_rulesNow 1 (some (.object "AlbumHours$Rules")) 0 11 := ⟨⟨tw 722 (by decide +kernel) rfl, ni_RX11, nh_RX11, ds_35⟩, tw 721 (by decide +kernel) rfl, tw 12 (by decide +kernel) rfl, TX11, 9, rfl⟩
theorem ml_X11_128 : Cond.methodLink RX11 128 yX11_rulesNow ∈ lw_gw := tw 719 (by decide +kernel) rfl
theorem ml_X11_132 : Cond.methodLink RX11 132 yX7_windowOf ∈ lw_gw := tw 789 (by decide +kernel) rfl
theorem ml_X11_136 : Cond.methodLink RX11 136 yJ13_bitCount_95d88 ∈ lw_gw := tw 793 (by decide +kernel) rfl
theorem ml_X11_358 : Cond.methodLink RX11 358 yJ13_numberOfTrailingZeros_95d88 ∈ lw_gw := tw 802 (by decide +kernel) rfl
theorem mw_X11_firstSlot : MS yX11_firstSlot cX11_firstSlot 2 (some .int) 1 := ⟨⟨tw 801 (by decide +kernel) rfl, ni_RX11, nh_RX11, ds_9⟩, tw 800 (by decide +kernel) rfl⟩
theorem ml_X11_142 : Cond.methodLink RX11 142 yX11_firstSlot ∈ lw_gw := tw 799 (by decide +kernel) rfl
theorem ml_X11_145 : Cond.methodLink RX11 145 yX11_lastSlot ∈ lw_gw := tw 809 (by decide +kernel) rfl
theorem ml_X11_148 : Cond.methodLink RX11 148 yX7_earlierThan ∈ lw_gw := tw 818 (by decide +kernel) rfl
theorem ml_X11_151 : Cond.methodLink RX11 151 yJ6_bitCount_0f7a4 ∈ lw_gw := tw 822 (by decide +kernel) rfl
theorem ml_X11_155 : Cond.methodLink RX11 155 yX0_hasThing ∈ lw_gw := tw 832 (by decide +kernel) rfl
theorem ml_X11_158 : Cond.methodLink RX11 158 yX0_kindOf ∈ lw_gw := tw 833 (by decide +kernel) rfl
theorem ml_X11_161 : Cond.methodLink RX11 161 yX0_picturesSeeing ∈ lw_gw := tw 834 (by decide +kernel) rfl
theorem ml_X11_165 : Cond.methodLink RX11 165 yX0_hasMatter ∈ lw_gw := tw 843 (by decide +kernel) rfl
theorem ml_X11_168 : Cond.methodLink RX11 168 yX5_valueOf ∈ lw_gw := tw 847 (by decide +kernel) rfl
theorem ml_X11_171 : Cond.methodLink RX11 171 yX5_slackOf ∈ lw_gw := tw 848 (by decide +kernel) rfl
theorem ml_X11_174 : Cond.methodLink RX11 174 yX5_numberOf ∈ lw_gw := tw 849 (by decide +kernel) rfl
theorem ml_X11_177 : Cond.methodLink RX11 177 yX5_pictureOf ∈ lw_gw := tw 854 (by decide +kernel) rfl
theorem ml_X11_180 : Cond.methodLink RX11 180 yX5_matterOf ∈ lw_gw := tw 862 (by decide +kernel) rfl
theorem fl_X11_183 : FL RX11 183 0 2 := ⟨RX0, TX0, 6, tyX0, clX0, by decide, tw 208 (by decide +kernel) rfl⟩
theorem s_4 : shp 4 = (0, 9) := by decide +kernel
theorem ml_X11_187 : Cond.methodLink RX11 187 yX9_pointAt ∈ lw_gw := tw 870 (by decide +kernel) rfl
theorem ml_X11_192 : Cond.methodLink RX11 192 yX9_lengthAt ∈ lw_gw := tw 871 (by decide +kernel) rfl
theorem mw_X0_takesValue : MV yX0_takesValue cX0_takesValue 3 (some .boolean) 2 0 := ⟨⟨tw 883 (by decide +kernel) rfl, ni_RX0, nh_RX0, ds_6⟩, tw 881 (by decide +kernel) rfl, tw 882 (by decide +kernel) rfl, TX0, 6, rfl⟩
theorem ml_X11_199 : Cond.methodLink RX11 199 yX0_takesValue ∈ lw_gw := tw 880 (by decide +kernel) rfl
theorem ml_X11_203 : Cond.methodLink RX11 203 yX11_mostSlack ∈ lw_gw := tw 886 (by decide +kernel) rfl
theorem mw_X2_remember : MV yX2_remember cX2_remember 3 (none) 1 2 := ⟨⟨tw 890 (by decide +kernel) rfl, ni_RX2, nh_RX2, ds_3⟩, tw 888 (by decide +kernel) rfl, tw 889 (by decide +kernel) rfl, TX2, 5, rfl⟩
theorem ml_X11_206 : Cond.methodLink RX11 206 yX2_remember ∈ lw_gw := tw 887 (by decide +kernel) rfl
theorem ml_X11_210 : Cond.methodLink RX11 210 yX5_put ∈ lw_gw := tw 899 (by decide +kernel) rfl
theorem fl_X11_214 : FL RX11 214 5 0 := ⟨RX5, TX5, 5, tyX5, clX5, by decide, tw 179 (by decide +kernel) rfl⟩
theorem ds_36 : (parseMethodDescriptor "(IIII)I").map (fun d => d.parameters.length) = some 4 := by decide +kernel
theorem mw_X11_tell : MV yX11_tell cX11_tell 5 (some .int) 4 11 := ⟨⟨tw 879 (by decide +kernel) rfl, ni_RX11, nh_RX11, ds_36⟩, tw 878 (by decide +kernel) rfl, tw 19 (by decide +kernel) rfl, TX11, 9, rfl⟩
theorem ml_X11_195 : Cond.methodLink RX11 195 yX11_tell ∈ lw_gw := tw 876 (by decide +kernel) rfl
theorem ml_X11_215 : Cond.methodLink RX11 215 yX5_remove ∈ lw_gw := tw 912 (by decide +kernel) rfl
theorem ds_37 : (parseMethodDescriptor "(LAlbumHours$Pieces;)Z").map (fun d => d.parameters.length) = some 1 := by decide +kernel
theorem mw_X2_restoreLatest : MV yX2_restoreLatest cX2_restoreLatest 3 (some .boolean) 1 2 := ⟨⟨tw 923 (by decide +kernel) rfl, ni_RX2, nh_RX2, ds_37⟩, tw 921 (by decide +kernel) rfl, tw 922 (by decide +kernel) rfl, TX2, 5, rfl⟩
theorem ml_X11_219 : Cond.methodLink RX11 219 yX2_restoreLatest ∈ lw_gw := tw 920 (by decide +kernel) rfl
theorem fl_X11_223 : FL RX11 223 2 0 := ⟨RX2, TX2, 5, tyX2, clX2, by decide, tw 271 (by decide +kernel) rfl⟩
theorem ds_38 : (parseMethodDescriptor "(ILAlbumHours$Pieces;)V").map (fun d => d.parameters.length) = some 2 := by decide +kernel
theorem mw_X2_store : MV yX2_store cX2_store 3 (none) 2 2 := ⟨⟨tw 931 (by decide +kernel) rfl, ni_RX2, nh_RX2, ds_38⟩, tw 929 (by decide +kernel) rfl, tw 930 (by decide +kernel) rfl, TX2, 5, rfl⟩
theorem ml_X11_224 : Cond.methodLink RX11 224 yX2_store ∈ lw_gw := tw 928 (by decide +kernel) rfl
theorem ds_39 : (parseMethodDescriptor "(ILAlbumHours$Pieces;)Z").map (fun d => d.parameters.length) = some 2 := by decide +kernel
theorem mw_X2_restoreKept : MV yX2_restoreKept cX2_restoreKept 3 (some .boolean) 2 2 := ⟨⟨tw 939 (by decide +kernel) rfl, ni_RX2, nh_RX2, ds_39⟩, tw 937 (by decide +kernel) rfl, tw 938 (by decide +kernel) rfl, TX2, 5, rfl⟩
theorem ml_X11_228 : Cond.methodLink RX11 228 yX2_restoreKept ∈ lw_gw := tw 936 (by decide +kernel) rfl
theorem mw_X11_areTwoPictures : MV yX11_areTwoPictures cX11_areTwoPictures 3 (some .boolean) 2 11 := ⟨⟨tw 948 (by decide +kernel) rfl, ni_RX11, nh_RX11, ds_6⟩, tw 947 (by decide +kernel) rfl, tw 21 (by decide +kernel) rfl, TX11, 9, rfl⟩
theorem ml_X11_232 : Cond.methodLink RX11 232 yX11_areTwoPictures ∈ lw_gw := tw 945 (by decide +kernel) rfl
theorem ml_X11_235 : Cond.methodLink RX11 235 yX11_hasBit ∈ lw_gw := tw 949 (by decide +kernel) rfl
theorem fl_X11_346 : FL RX11 346 4 0 := ⟨RX4, TX4, 6, tyX4, clX4, by decide, tw 328 (by decide +kernel) rfl⟩
theorem ml_X11_353 : Cond.methodLink RX11 353 yX4_seek ∈ lw_gw := tw 958 (by decide +kernel) rfl
theorem ds_40 : (parseMethodDescriptor "()LAlbumHours$Orders;").map (fun d => d.parameters.length) = some 0 := by decide +kernel
theorem mw_X11_ordersNow : MV yX11_ordersNow cX11_ordersNow 1 (some (.object "AlbumHours$Orders")) 0 11 := ⟨⟨tw 957 (by decide +kernel) rfl, ni_RX11, nh_RX11, ds_40⟩, tw 956 (by decide +kernel) rfl, tw 22 (by decide +kernel) rfl, TX11, 9, rfl⟩
theorem ml_X11_238 : Cond.methodLink RX11 238 yX11_ordersNow ∈ lw_gw := tw 954 (by decide +kernel) rfl
theorem fl_X11_242 : FL RX11 242 4 1 := ⟨RX4, TX4, 6, tyX4, clX4, by decide, tw 331 (by decide +kernel) rfl⟩
theorem mw_X4_pictureAt : MV yX4_pictureAt cX4_pictureAt 9 (some .int) 2 4 := ⟨⟨tw 1007 (by decide +kernel) rfl, ni_RX4, nh_RX4, ds_7⟩, tw 1005 (by decide +kernel) rfl, tw 1006 (by decide +kernel) rfl, TX4, 6, rfl⟩
theorem ml_X11_245 : Cond.methodLink RX11 245 yX4_pictureAt ∈ lw_gw := tw 1004 (by decide +kernel) rfl
theorem fl_X11_347 : FL RX11 347 3 0 := ⟨RX3, TX3, 5, tyX3, clX3, by decide, tw 356 (by decide +kernel) rfl⟩
theorem mw_X3_seek : MV yX3_seek cX3_seek 6 (none) 1 3 := ⟨⟨tw 1019 (by decide +kernel) rfl, ni_RX3, nh_RX3, ds_13⟩, tw 1017 (by decide +kernel) rfl, tw 1018 (by decide +kernel) rfl, TX3, 5, rfl⟩
theorem ml_X11_357 : Cond.methodLink RX11 357 yX3_seek ∈ lw_gw := tw 1016 (by decide +kernel) rfl
theorem ds_41 : (parseMethodDescriptor "()LAlbumHours$Hours;").map (fun d => d.parameters.length) = some 0 := by decide +kernel
theorem mw_X11_hoursNow : MV yX11_hoursNow cX11_hoursNow 1 (some (.object "AlbumHours$Hours")) 0 11 := ⟨⟨tw 1015 (by decide +kernel) rfl, ni_RX11, nh_RX11, ds_41⟩, tw 1014 (by decide +kernel) rfl, tw 27 (by decide +kernel) rfl, TX11, 9, rfl⟩
theorem ml_X11_248 : Cond.methodLink RX11 248 yX11_hoursNow ∈ lw_gw := tw 1012 (by decide +kernel) rfl
theorem mw_X3_placesOf : MV yX3_placesOf cX3_placesOf 2 (some .int) 1 3 := ⟨⟨tw 1044 (by decide +kernel) rfl, ni_RX3, nh_RX3, ds_5⟩, tw 1042 (by decide +kernel) rfl, tw 1043 (by decide +kernel) rfl, TX3, 5, rfl⟩
theorem ml_X11_252 : Cond.methodLink RX11 252 yX3_placesOf ∈ lw_gw := tw 1041 (by decide +kernel) rfl
theorem ds_42 : (parseMethodDescriptor "(LAlbumHours$Rules;II)I").map (fun d => d.parameters.length) = some 3 := by decide +kernel
theorem mw_X1_ordersWithAhead : MV yX1_ordersWithAhead cX1_ordersWithAhead 4 (some .int) 3 1 := ⟨⟨tw 1052 (by decide +kernel) rfl, ni_RX1, nh_RX1, ds_42⟩, tw 1050 (by decide +kernel) rfl, tw 1051 (by decide +kernel) rfl, TX1, 12, rfl⟩
theorem ml_X11_255 : Cond.methodLink RX11 255 yX1_ordersWithAhead ∈ lw_gw := tw 1049 (by decide +kernel) rfl
theorem mw_X3_leftTo : MV yX3_leftTo cX3_leftTo 2 (some .long) 1 3 := ⟨⟨tw 1066 (by decide +kernel) rfl, ni_RX3, nh_RX3, ds_27⟩, tw 1064 (by decide +kernel) rfl, tw 1065 (by decide +kernel) rfl, TX3, 5, rfl⟩
theorem ml_X11_259 : Cond.methodLink RX11 259 yX3_leftTo ∈ lw_gw := tw 1063 (by decide +kernel) rfl
theorem mw_X1_knotOf : MV yX1_knotOf cX1_knotOf 2 (some .int) 1 1 := ⟨⟨tw 1074 (by decide +kernel) rfl, ni_RX1, nh_RX1, ds_11⟩, tw 1072 (by decide +kernel) rfl, tw 1073 (by decide +kernel) rfl, TX1, 12, rfl⟩
theorem ml_X11_262 : Cond.methodLink RX11 262 yX1_knotOf ∈ lw_gw := tw 1071 (by decide +kernel) rfl
theorem ds_43 : (parseMethodDescriptor "(LAlbumHours$Album;LAlbumHours$Rules;)V").map (fun d => d.parameters.length) = some 2 := by decide +kernel
theorem mw_X1_seekLoose : MV yX1_seekLoose cX1_seekLoose 4 (none) 2 1 := ⟨⟨tw 1089 (by decide +kernel) rfl, ni_RX1, nh_RX1, ds_43⟩, tw 1087 (by decide +kernel) rfl, tw 1088 (by decide +kernel) rfl, TX1, 12, rfl⟩
theorem ml_X11_266 : Cond.methodLink RX11 266 yX1_seekLoose ∈ lw_gw := tw 1086 (by decide +kernel) rfl
theorem fl_X11_270 : FL RX11 270 1 0 := ⟨RX1, TX1, 12, tyX1, clX1, by decide, tw 387 (by decide +kernel) rfl⟩
theorem mw_X1_looseNumber : MV yX1_looseNumber cX1_looseNumber 2 (some .int) 1 1 := ⟨⟨tw 1105 (by decide +kernel) rfl, ni_RX1, nh_RX1, ds_5⟩, tw 1103 (by decide +kernel) rfl, tw 1104 (by decide +kernel) rfl, TX1, 12, rfl⟩
theorem ml_X11_273 : Cond.methodLink RX11 273 yX1_looseNumber ∈ lw_gw := tw 1102 (by decide +kernel) rfl
theorem ml_X11_276 : Cond.methodLink RX11 276 yX1_ordersWithPiece ∈ lw_gw := tw 1110 (by decide +kernel) rfl
theorem ds_44 : (parseMethodDescriptor "(LAlbumHours$Album;LAlbumHours$Rules;I)V").map (fun d => d.parameters.length) = some 3 := by decide +kernel
theorem mw_X1_seekAsk : MV yX1_seekAsk cX1_seekAsk 9 (none) 3 1 := ⟨⟨tw 1122 (by decide +kernel) rfl, ni_RX1, nh_RX1, ds_44⟩, tw 1120 (by decide +kernel) rfl, tw 1121 (by decide +kernel) rfl, TX1, 12, rfl⟩
theorem ml_X11_280 : Cond.methodLink RX11 280 yX1_seekAsk ∈ lw_gw := tw 1119 (by decide +kernel) rfl
theorem fl_X11_284 : FL RX11 284 1 1 := ⟨RX1, TX1, 12, tyX1, clX1, by decide, tw 389 (by decide +kernel) rfl⟩
theorem fl_X11_287 : FL RX11 287 1 2 := ⟨RX1, TX1, 12, tyX1, clX1, by decide, tw 391 (by decide +kernel) rfl⟩
theorem ml_X11_290 : Cond.methodLink RX11 290 yX8_has ∈ lw_gw := tw 1135 (by decide +kernel) rfl
theorem kb_m13 : (Int8.ofInt (-13)).toInt32 = (-13 : Int32) := by decide
theorem mw_X8_renew : MV yX8_renew cX8_renew 4 (none) 2 8 := ⟨⟨tw 1142 (by decide +kernel) rfl, ni_RX8, nh_RX8, ds_12⟩, tw 1140 (by decide +kernel) rfl, tw 1141 (by decide +kernel) rfl, TX8, 3, rfl⟩
theorem ml_X11_293 : Cond.methodLink RX11 293 yX8_renew ∈ lw_gw := tw 1139 (by decide +kernel) rfl
theorem mw_X8_isMissing : MV yX8_isMissing cX8_isMissing 2 (some .boolean) 1 8 := ⟨⟨tw 1163 (by decide +kernel) rfl, ni_RX8, nh_RX8, ds_4⟩, tw 1161 (by decide +kernel) rfl, tw 1162 (by decide +kernel) rfl, TX8, 3, rfl⟩
theorem ml_X11_296 : Cond.methodLink RX11 296 yX8_isMissing ∈ lw_gw := tw 1160 (by decide +kernel) rfl
theorem ml_X11_299 : Cond.methodLink RX11 299 yX8_hasPlace ∈ lw_gw := tw 1164 (by decide +kernel) rfl
theorem kb_m12 : (Int8.ofInt (-12)).toInt32 = (-12 : Int32) := by decide
theorem ml_X11_302 : Cond.methodLink RX11 302 yX8_put ∈ lw_gw := tw 1165 (by decide +kernel) rfl
theorem kb_m11 : (Int8.ofInt (-11)).toInt32 = (-11 : Int32) := by decide
theorem mw_X8_change : MV yX8_change cX8_change 7 (none) 4 8 := ⟨⟨tw 1177 (by decide +kernel) rfl, ni_RX8, nh_RX8, ds_19⟩, tw 1175 (by decide +kernel) rfl, tw 1176 (by decide +kernel) rfl, TX8, 3, rfl⟩
theorem ml_X11_305 : Cond.methodLink RX11 305 yX8_change ∈ lw_gw := tw 1174 (by decide +kernel) rfl
theorem ml_X11_308 : Cond.methodLink RX11 308 yX8_at ∈ lw_gw := tw 1186 (by decide +kernel) rfl
theorem mw_X8_addUp : MV yX8_addUp cX8_addUp 4 (some .int) 1 8 := ⟨⟨tw 1194 (by decide +kernel) rfl, ni_RX8, nh_RX8, ds_5⟩, tw 1192 (by decide +kernel) rfl, tw 1193 (by decide +kernel) rfl, TX8, 3, rfl⟩
theorem ml_X11_312 : Cond.methodLink RX11 312 yX8_addUp ∈ lw_gw := tw 1191 (by decide +kernel) rfl
theorem mw_X8_remove : MV yX8_remove cX8_remove 3 (some .int) 1 8 := ⟨⟨tw 1202 (by decide +kernel) rfl, ni_RX8, nh_RX8, ds_5⟩, tw 1200 (by decide +kernel) rfl, tw 1201 (by decide +kernel) rfl, TX8, 3, rfl⟩
theorem ml_X11_315 : Cond.methodLink RX11 315 yX8_remove ∈ lw_gw := tw 1199 (by decide +kernel) rfl
theorem fl_X11_317 : FL RX11 317 8 0 := ⟨RX8, TX8, 3, tyX8, clX8, by decide, tw 438 (by decide +kernel) rfl⟩
theorem fl_X11_321 : FL RX11 321 0 0 := ⟨RX0, TX0, 6, tyX0, clX0, by decide, tw 199 (by decide +kernel) rfl⟩
theorem fl_X11_324 : FL RX11 324 0 1 := ⟨RX0, TX0, 6, tyX0, clX0, by decide, tw 204 (by decide +kernel) rfl⟩
theorem mw_X7_pairsBefore : MV yX7_pairsBefore cX7_pairsBefore 3 (some .int) 0 7 := ⟨⟨tw 1214 (by decide +kernel) rfl, ni_RX7, nh_RX7, ds_8⟩, tw 1212 (by decide +kernel) rfl, tw 1213 (by decide +kernel) rfl, TX7, 8, rfl⟩
theorem ml_X11_327 : Cond.methodLink RX11 327 yX7_pairsBefore ∈ lw_gw := tw 1211 (by decide +kernel) rfl
theorem fl_X11_330 : FL RX11 330 9 0 := ⟨RX9, TX9, 3, tyX9, clX9, by decide, tw 150 (by decide +kernel) rfl⟩
theorem fl_X11_333 : FL RX11 333 9 1 := ⟨RX9, TX9, 3, tyX9, clX9, by decide, tw 153 (by decide +kernel) rfl⟩
theorem fl_X11_336 : FL RX11 336 9 2 := ⟨RX9, TX9, 3, tyX9, clX9, by decide, tw 156 (by decide +kernel) rfl⟩
theorem mw_X8_allPlaces : MV yX8_allPlaces cX8_allPlaces 3 (some .int) 0 8 := ⟨⟨tw 1220 (by decide +kernel) rfl, ni_RX8, nh_RX8, ds_8⟩, tw 1218 (by decide +kernel) rfl, tw 1219 (by decide +kernel) rfl, TX8, 3, rfl⟩
theorem ml_X11_339 : Cond.methodLink RX11 339 yX8_allPlaces ∈ lw_gw := tw 1217 (by decide +kernel) rfl
theorem s_117 : shp 117 = (0, 12) := by decide +kernel
theorem ni_RX12 : Cond.initialized RX12 ∈ lw_gw := tw 95 (by decide +kernel) rfl
theorem nh_RX12 : RX12 ≠ "java/lang/invoke/MethodHandle" ∧ RX12 ≠ "java/lang/invoke/VarHandle" := by decide
theorem mw_X12_within : MS yX12_within cX12_within 3 (some .boolean) 3 := ⟨⟨tw 1356 (by decide +kernel) rfl, ni_RX12, nh_RX12, ds_14⟩, tw 1355 (by decide +kernel) rfl⟩
theorem ml_X12_88 : Cond.methodLink RX12 88 yX12_within ∈ lw_gw := tw 1354 (by decide +kernel) rfl
theorem fl_X12_92 : FL RX12 92 12 1 := ⟨RX12, TX12, 40, tyX12, clX12, by decide, tw 1229 (by decide +kernel) rfl⟩
theorem fl_X12_7 : FL RX12 7 12 0 := ⟨RX12, TX12, 40, tyX12, clX12, by decide, tw 1228 (by decide +kernel) rfl⟩
theorem s_118 : shp 118 = (1, 200) := by decide +kernel
theorem fp_X12_92 : FP RX12 92 12 1 .int := ⟨RX12, TX12, 40, tyX12, clX12, by decide, tw 1229 (by decide +kernel) rfl, rfl, by decide +kernel⟩
theorem fl_X12_95 : FL RX12 95 12 2 := ⟨RX12, TX12, 40, tyX12, clX12, by decide, tw 1230 (by decide +kernel) rfl⟩
theorem fp_X12_98 : FP RX12 98 12 3 .int := ⟨RX12, TX12, 40, tyX12, clX12, by decide, tw 1231 (by decide +kernel) rfl, rfl, by decide +kernel⟩
theorem fp_X12_101 : FP RX12 101 12 4 .int := ⟨RX12, TX12, 40, tyX12, clX12, by decide, tw 1232 (by decide +kernel) rfl, rfl, by decide +kernel⟩
theorem fp_X12_108 : FP RX12 108 12 5 .int := ⟨RX12, TX12, 40, tyX12, clX12, by decide, tw 1233 (by decide +kernel) rfl, rfl, by decide +kernel⟩
theorem fl_X12_101 : FL RX12 101 12 4 := ⟨RX12, TX12, 40, tyX12, clX12, by decide, tw 1232 (by decide +kernel) rfl⟩
theorem fp_X12_95 : FP RX12 95 12 2 .int := ⟨RX12, TX12, 40, tyX12, clX12, by decide, tw 1230 (by decide +kernel) rfl, rfl, by decide +kernel⟩
theorem fl_X12_108 : FL RX12 108 12 5 := ⟨RX12, TX12, 40, tyX12, clX12, by decide, tw 1233 (by decide +kernel) rfl⟩
theorem mw_X12_kindOf : MS yX12_kindOf cX12_kindOf 1 (some .int) 1 := ⟨⟨tw 1382 (by decide +kernel) rfl, ni_RX12, nh_RX12, ds_5⟩, tw 1381 (by decide +kernel) rfl⟩
theorem ml_X12_104 : Cond.methodLink RX12 104 yX12_kindOf ∈ lw_gw := tw 1380 (by decide +kernel) rfl
theorem fl_X12_111 : FL RX12 111 12 6 := ⟨RX12, TX12, 40, tyX12, clX12, by decide, tw 1234 (by decide +kernel) rfl⟩
theorem fl_X12_98 : FL RX12 98 12 3 := ⟨RX12, TX12, 40, tyX12, clX12, by decide, tw 1231 (by decide +kernel) rfl⟩
theorem fp_X12_111 : FP RX12 111 12 6 .int := ⟨RX12, TX12, 40, tyX12, clX12, by decide, tw 1234 (by decide +kernel) rfl, rfl, by decide +kernel⟩
theorem kb_27 : (Int8.ofInt 27).toInt32 = (27 : Int32) := by decide
theorem kb_96 : (Int8.ofInt 96).toInt32 = (96 : Int32) := by decide
theorem mw_X12_at : MV yX12_at cX12_at 3 (some .boolean) 2 12 := ⟨⟨tw 1390 (by decide +kernel) rfl, ni_RX12, nh_RX12, ds_6⟩, tw 1389 (by decide +kernel) rfl, tw 36 (by decide +kernel) rfl, TX12, 40, rfl⟩
theorem ml_X12_114 : Cond.methodLink RX12 114 yX12_at ∈ lw_gw := tw 1387 (by decide +kernel) rfl
theorem mw_X12_take : MV yX12_take cX12_take 1 (none) 0 12 := ⟨⟨tw 1379 (by decide +kernel) rfl, ni_RX12, nh_RX12, ds_1⟩, tw 1378 (by decide +kernel) rfl, tw 34 (by decide +kernel) rfl, TX12, 40, rfl⟩
theorem ml_X12_118 : Cond.methodLink RX12 118 yX12_take ∈ lw_gw := tw 1376 (by decide +kernel) rfl
theorem ds_45 : (parseMethodDescriptor "(Z)Z").map (fun d => d.parameters.length) = some 1 := by decide +kernel
theorem mw_X12_want : MV yX12_want cX12_want 2 (some .boolean) 1 12 := ⟨⟨tw 1406 (by decide +kernel) rfl, ni_RX12, nh_RX12, ds_45⟩, tw 1405 (by decide +kernel) rfl, tw 40 (by decide +kernel) rfl, TX12, 40, rfl⟩
theorem ml_X12_121 : Cond.methodLink RX12 121 yX12_want ∈ lw_gw := tw 1403 (by decide +kernel) rfl
theorem fl_X12_125 : FL RX12 125 12 7 := ⟨RX12, TX12, 40, tyX12, clX12, by decide, tw 1235 (by decide +kernel) rfl⟩
theorem fl_X12_13 : FL RX12 13 12 8 := ⟨RX12, TX12, 40, tyX12, clX12, by decide, tw 1236 (by decide +kernel) rfl⟩
theorem s_119 : shp 119 = (1, 120) := by decide +kernel
theorem mw_X12_number : MV yX12_number cX12_number 5 (some .int) 2 12 := ⟨⟨tw 1402 (by decide +kernel) rfl, ni_RX12, nh_RX12, ds_7⟩, tw 1401 (by decide +kernel) rfl, tw 39 (by decide +kernel) rfl, TX12, 40, rfl⟩
theorem ml_X12_128 : Cond.methodLink RX12 128 yX12_number ∈ lw_gw := tw 1399 (by decide +kernel) rfl
theorem ds_46 : (parseMethodDescriptor "(IIIII)V").map (fun d => d.parameters.length) = some 5 := by decide +kernel
theorem mw_X12_lay : MV yX12_lay cX12_lay 7 (none) 5 12 := ⟨⟨tw 1394 (by decide +kernel) rfl, ni_RX12, nh_RX12, ds_46⟩, tw 1393 (by decide +kernel) rfl, tw 37 (by decide +kernel) rfl, TX12, 40, rfl⟩
theorem ml_X12_132 : Cond.methodLink RX12 132 yX12_lay ∈ lw_gw := tw 1391 (by decide +kernel) rfl
theorem fl_X12_136 : FL RX12 136 12 9 := ⟨RX12, TX12, 40, tyX12, clX12, by decide, tw 1237 (by decide +kernel) rfl⟩
theorem fl_X12_16 : FL RX12 16 12 11 := ⟨RX12, TX12, 40, tyX12, clX12, by decide, tw 1239 (by decide +kernel) rfl⟩
theorem s_120 : shp 120 = (1, 7) := by decide +kernel
theorem fp_X12_136 : FP RX12 136 12 9 .int := ⟨RX12, TX12, 40, tyX12, clX12, by decide, tw 1237 (by decide +kernel) rfl, rfl, by decide +kernel⟩
theorem mw_X12_wordOf : MV yX12_wordOf cX12_wordOf 3 (some .int) 0 12 := ⟨⟨tw 1414 (by decide +kernel) rfl, ni_RX12, nh_RX12, ds_8⟩, tw 1413 (by decide +kernel) rfl, tw 42 (by decide +kernel) rfl, TX12, 40, rfl⟩
theorem ml_X12_139 : Cond.methodLink RX12 139 yX12_wordOf ∈ lw_gw := tw 1411 (by decide +kernel) rfl
theorem fl_X12_143 : FL RX12 143 12 10 := ⟨RX12, TX12, 40, tyX12, clX12, by decide, tw 1238 (by decide +kernel) rfl⟩
theorem kb_111 : (Int8.ofInt 111).toInt32 = (111 : Int32) := by decide
theorem kb_109 : (Int8.ofInt 109).toInt32 = (109 : Int32) := by decide
theorem kb_101 : (Int8.ofInt 101).toInt32 = (101 : Int32) := by decide
theorem kb_115 : (Int8.ofInt 115).toInt32 = (115 : Int32) := by decide
theorem ds_47 : (parseMethodDescriptor "(IIIIIII)Z").map (fun d => d.parameters.length) = some 7 := by decide +kernel
theorem mw_X12_isWord : MV yX12_isWord cX12_isWord 9 (some .boolean) 7 12 := ⟨⟨tw 1386 (by decide +kernel) rfl, ni_RX12, nh_RX12, ds_47⟩, tw 1385 (by decide +kernel) rfl, tw 35 (by decide +kernel) rfl, TX12, 40, rfl⟩
theorem ml_X12_146 : Cond.methodLink RX12 146 yX12_isWord ∈ lw_gw := tw 1383 (by decide +kernel) rfl
theorem fl_X12_19 : FL RX12 19 12 12 := ⟨RX12, TX12, 40, tyX12, clX12, by decide, tw 1240 (by decide +kernel) rfl⟩
theorem s_121 : shp 121 = (1, 6) := by decide +kernel
theorem fp_X12_143 : FP RX12 143 12 10 .int := ⟨RX12, TX12, 40, tyX12, clX12, by decide, tw 1238 (by decide +kernel) rfl, rfl, by decide +kernel⟩
theorem kb_103 : (Int8.ofInt 103).toInt32 = (103 : Int32) := by decide
theorem kb_112 : (Int8.ofInt 112).toInt32 = (112 : Int32) := by decide
theorem kb_119 : (Int8.ofInt 119).toInt32 = (119 : Int32) := by decide
theorem kb_114 : (Int8.ofInt 114).toInt32 = (114 : Int32) := by decide
theorem kb_108 : (Int8.ofInt 108).toInt32 = (108 : Int32) := by decide
theorem kb_98 : (Int8.ofInt 98).toInt32 = (98 : Int32) := by decide
theorem kb_117 : (Int8.ofInt 117).toInt32 = (117 : Int32) := by decide
theorem kb_110 : (Int8.ofInt 110).toInt32 = (110 : Int32) := by decide
theorem kb_105 : (Int8.ofInt 105).toInt32 = (105 : Int32) := by decide
theorem kb_116 : (Int8.ofInt 116).toInt32 = (116 : Int32) := by decide
theorem kb_104 : (Int8.ofInt 104).toInt32 = (104 : Int32) := by decide
theorem mw_X12_readSee : MV yX12_readSee cX12_readSee 4 (none) 0 12 := ⟨⟨tw 1426 (by decide +kernel) rfl, ni_RX12, nh_RX12, ds_1⟩, tw 1425 (by decide +kernel) rfl, tw 45 (by decide +kernel) rfl, TX12, 40, rfl⟩
theorem ml_X12_163 : Cond.methodLink RX12 163 yX12_readSee ∈ lw_gw := tw 1423 (by decide +kernel) rfl
theorem mw_X12_readPiece : MV yX12_readPiece cX12_readPiece 4 (none) 1 12 := ⟨⟨tw 1422 (by decide +kernel) rfl, ni_RX12, nh_RX12, ds_31⟩, tw 1421 (by decide +kernel) rfl, tw 44 (by decide +kernel) rfl, TX12, 40, rfl⟩
theorem ml_X12_159 : Cond.methodLink RX12 159 yX12_readPiece ∈ lw_gw := tw 1419 (by decide +kernel) rfl
theorem mw_X12_readThing : MV yX12_readThing cX12_readThing 2 (none) 0 12 := ⟨⟨tw 1418 (by decide +kernel) rfl, ni_RX12, nh_RX12, ds_1⟩, tw 1417 (by decide +kernel) rfl, tw 43 (by decide +kernel) rfl, TX12, 40, rfl⟩
theorem ml_X12_156 : Cond.methodLink RX12 156 yX12_readThing ∈ lw_gw := tw 1415 (by decide +kernel) rfl
theorem mw_X12_readPicture : MV yX12_readPicture cX12_readPicture 4 (none) 0 12 := ⟨⟨tw 1410 (by decide +kernel) rfl, ni_RX12, nh_RX12, ds_1⟩, tw 1409 (by decide +kernel) rfl, tw 41 (by decide +kernel) rfl, TX12, 40, rfl⟩
theorem ml_X12_153 : Cond.methodLink RX12 153 yX12_readPicture ∈ lw_gw := tw 1407 (by decide +kernel) rfl
theorem mw_X12_readSun : MV yX12_readSun cX12_readSun 3 (none) 0 12 := ⟨⟨tw 1398 (by decide +kernel) rfl, ni_RX12, nh_RX12, ds_1⟩, tw 1397 (by decide +kernel) rfl, tw 38 (by decide +kernel) rfl, TX12, 40, rfl⟩
theorem ml_X12_150 : Cond.methodLink RX12 150 yX12_readSun ∈ lw_gw := tw 1395 (by decide +kernel) rfl
theorem fp_X12_125 : FP RX12 125 12 7 .int := ⟨RX12, TX12, 40, tyX12, clX12, by decide, tw 1235 (by decide +kernel) rfl, rfl, by decide +kernel⟩
theorem fl_X12_166 : FL RX12 166 12 16 := ⟨RX12, TX12, 40, tyX12, clX12, by decide, tw 1244 (by decide +kernel) rfl⟩
theorem fl_X12_169 : FL RX12 169 12 18 := ⟨RX12, TX12, 40, tyX12, clX12, by decide, tw 1246 (by decide +kernel) rfl⟩
theorem fl_X12_32 : FL RX12 32 12 17 := ⟨RX12, TX12, 40, tyX12, clX12, by decide, tw 1245 (by decide +kernel) rfl⟩
theorem s_122 : shp 122 = (1, 7) := by decide +kernel
theorem ds_48 : (parseMethodDescriptor "([II[III)V").map (fun d => d.parameters.length) = some 5 := by decide +kernel
theorem mw_X12_bring : MS yX12_bring cX12_bring 6 (none) 5 := ⟨⟨tw 1371 (by decide +kernel) rfl, ni_RX12, nh_RX12, ds_48⟩, tw 1370 (by decide +kernel) rfl⟩
theorem ml_X12_172 : Cond.methodLink RX12 172 yX12_bring ∈ lw_gw := tw 1369 (by decide +kernel) rfl
theorem fl_X12_35 : FL RX12 35 12 19 := ⟨RX12, TX12, 40, tyX12, clX12, by decide, tw 1247 (by decide +kernel) rfl⟩
theorem s_123 : shp 123 = (1, 6) := by decide +kernel
theorem mw_X12_readClause : MV yX12_readClause cX12_readClause 1 (none) 0 12 := ⟨⟨tw 1375 (by decide +kernel) rfl, ni_RX12, nh_RX12, ds_1⟩, tw 1374 (by decide +kernel) rfl, tw 33 (by decide +kernel) rfl, TX12, 40, rfl⟩
theorem ml_X12_176 : Cond.methodLink RX12 176 yX12_readClause ∈ lw_gw := tw 1372 (by decide +kernel) rfl
theorem mw_X12_read : MV yX12_read cX12_read 2 (none) 0 12 := ⟨⟨tw 1368 (by decide +kernel) rfl, ni_RX12, nh_RX12, ds_1⟩, tw 1367 (by decide +kernel) rfl, tw 32 (by decide +kernel) rfl, TX12, 40, rfl⟩
theorem ml_X12_179 : Cond.methodLink RX12 179 yX12_read ∈ lw_gw := tw 1365 (by decide +kernel) rfl
theorem fp_X12_22 : FP RX12 22 12 13 .int := ⟨RX12, TX12, 40, tyX12, clX12, by decide, tw 1241 (by decide +kernel) rfl, rfl, by decide +kernel⟩
theorem fp_X12_26 : FP RX12 26 12 14 .int := ⟨RX12, TX12, 40, tyX12, clX12, by decide, tw 1242 (by decide +kernel) rfl, rfl, by decide +kernel⟩
theorem fp_X12_29 : FP RX12 29 12 15 .int := ⟨RX12, TX12, 40, tyX12, clX12, by decide, tw 1243 (by decide +kernel) rfl, rfl, by decide +kernel⟩
theorem fp_X12_166 : FP RX12 166 12 16 .int := ⟨RX12, TX12, 40, tyX12, clX12, by decide, tw 1244 (by decide +kernel) rfl, rfl, by decide +kernel⟩
theorem fp_X12_169 : FP RX12 169 12 18 .int := ⟨RX12, TX12, 40, tyX12, clX12, by decide, tw 1246 (by decide +kernel) rfl, rfl, by decide +kernel⟩
theorem fl_X12_38 : FL RX12 38 12 20 := ⟨RX12, TX12, 40, tyX12, clX12, by decide, tw 1248 (by decide +kernel) rfl⟩
theorem s_124 : shp 124 = (1, 225) := by decide +kernel
theorem mw_X12_pieceAt : MV yX12_pieceAt cX12_pieceAt 5 (some .int) 2 12 := ⟨⟨tw 1442 (by decide +kernel) rfl, ni_RX12, nh_RX12, ds_7⟩, tw 1441 (by decide +kernel) rfl, tw 48 (by decide +kernel) rfl, TX12, 40, rfl⟩
theorem ml_X12_192 : Cond.methodLink RX12 192 yX12_pieceAt ∈ lw_gw := tw 1439 (by decide +kernel) rfl
theorem mw_X12_become : MV yX12_become cX12_become 6 (none) 4 12 := ⟨⟨tw 1438 (by decide +kernel) rfl, ni_RX12, nh_RX12, ds_19⟩, tw 1437 (by decide +kernel) rfl, tw 47 (by decide +kernel) rfl, TX12, 40, rfl⟩
theorem ml_X12_182 : Cond.methodLink RX12 182 yX12_become ∈ lw_gw := tw 1435 (by decide +kernel) rfl
theorem mw_X12_tell : MV yX12_tell cX12_tell 5 (none) 1 12 := ⟨⟨tw 1434 (by decide +kernel) rfl, ni_RX12, nh_RX12, ds_31⟩, tw 1433 (by decide +kernel) rfl, tw 46 (by decide +kernel) rfl, TX12, 40, rfl⟩
theorem ml_X12_186 : Cond.methodLink RX12 186 yX12_tell ∈ lw_gw := tw 1431 (by decide +kernel) rfl
theorem fp_X12_189 : FP RX12 189 12 22 .int := ⟨RX12, TX12, 40, tyX12, clX12, by decide, tw 1250 (by decide +kernel) rfl, rfl, by decide +kernel⟩
theorem fl_X12_50 : FL RX12 50 12 25 := ⟨RX12, TX12, 40, tyX12, clX12, by decide, tw 1253 (by decide +kernel) rfl⟩
theorem s_128 : shp 128 = (3, 2) := by decide +kernel
theorem fl_X12_82 : FL RX12 82 12 36 := ⟨RX12, TX12, 40, tyX12, clX12, by decide, tw 1264 (by decide +kernel) rfl⟩
theorem s_138 : shp 138 = (1, 3) := by decide +kernel
theorem fl_X12_22 : FL RX12 22 12 13 := ⟨RX12, TX12, 40, tyX12, clX12, by decide, tw 1241 (by decide +kernel) rfl⟩
theorem fl_X12_29 : FL RX12 29 12 15 := ⟨RX12, TX12, 40, tyX12, clX12, by decide, tw 1243 (by decide +kernel) rfl⟩
theorem fl_X12_26 : FL RX12 26 12 14 := ⟨RX12, TX12, 40, tyX12, clX12, by decide, tw 1242 (by decide +kernel) rfl⟩
theorem mw_X12_pointAt : MV yX12_pointAt cX12_pointAt 2 (some .int) 1 12 := ⟨⟨tw 1470 (by decide +kernel) rfl, ni_RX12, nh_RX12, ds_5⟩, tw 1469 (by decide +kernel) rfl, tw 53 (by decide +kernel) rfl, TX12, 40, rfl⟩
theorem ml_X12_195 : Cond.methodLink RX12 195 yX12_pointAt ∈ lw_gw := tw 1467 (by decide +kernel) rfl
theorem mw_X12_lengthAt : MV yX12_lengthAt cX12_lengthAt 3 (some .int) 1 12 := ⟨⟨tw 1477 (by decide +kernel) rfl, ni_RX12, nh_RX12, ds_5⟩, tw 1476 (by decide +kernel) rfl, tw 54 (by decide +kernel) rfl, TX12, 40, rfl⟩
theorem ml_X12_205 : Cond.methodLink RX12 205 yX12_lengthAt ∈ lw_gw := tw 1474 (by decide +kernel) rfl
theorem mw_X12_off : MS yX12_off cX12_off 2 (some .int) 2 := ⟨⟨tw 1473 (by decide +kernel) rfl, ni_RX12, nh_RX12, ds_7⟩, tw 1472 (by decide +kernel) rfl⟩
theorem ml_X12_202 : Cond.methodLink RX12 202 yX12_off ∈ lw_gw := tw 1471 (by decide +kernel) rfl
theorem mw_X12_isUp : MV yX12_isUp cX12_isUp 2 (some .boolean) 1 12 := ⟨⟨tw 1466 (by decide +kernel) rfl, ni_RX12, nh_RX12, ds_4⟩, tw 1465 (by decide +kernel) rfl, tw 52 (by decide +kernel) rfl, TX12, 40, rfl⟩
theorem ml_X12_198 : Cond.methodLink RX12 198 yX12_isUp ∈ lw_gw := tw 1463 (by decide +kernel) rfl
theorem fl_X12_54 : FL RX12 54 12 26 := ⟨RX12, TX12, 40, tyX12, clX12, by decide, tw 1254 (by decide +kernel) rfl⟩
theorem s_129 : shp 129 = (2, 7) := by decide +kernel
theorem mw_X12_isIn : MV yX12_isIn cX12_isIn 6 (some .boolean) 2 12 := ⟨⟨tw 1462 (by decide +kernel) rfl, ni_RX12, nh_RX12, ds_6⟩, tw 1461 (by decide +kernel) rfl, tw 51 (by decide +kernel) rfl, TX12, 40, rfl⟩
theorem ml_X12_208 : Cond.methodLink RX12 208 yX12_isIn ∈ lw_gw := tw 1459 (by decide +kernel) rfl
theorem mw_X12_value : MV yX12_value cX12_value 4 (some .int) 2 12 := ⟨⟨tw 1497 (by decide +kernel) rfl, ni_RX12, nh_RX12, ds_7⟩, tw 1496 (by decide +kernel) rfl, tw 59 (by decide +kernel) rfl, TX12, 40, rfl⟩
theorem ml_X12_211 : Cond.methodLink RX12 211 yX12_value ∈ lw_gw := tw 1494 (by decide +kernel) rfl
theorem mw_X12_layWindow : MV yX12_layWindow cX12_layWindow 3 (none) 1 12 := ⟨⟨tw 1458 (by decide +kernel) rfl, ni_RX12, nh_RX12, ds_31⟩, tw 1457 (by decide +kernel) rfl, tw 50 (by decide +kernel) rfl, TX12, 40, rfl⟩
theorem ml_X12_214 : Cond.methodLink RX12 214 yX12_layWindow ∈ lw_gw := tw 1455 (by decide +kernel) rfl
theorem fl_X12_58 : FL RX12 58 12 27 := ⟨RX12, TX12, 40, tyX12, clX12, by decide, tw 1255 (by decide +kernel) rfl⟩
theorem s_130 : shp 130 = (3, 49) := by decide +kernel
theorem mw_X12_isAhead : MV yX12_isAhead cX12_isAhead 8 (some .boolean) 2 12 := ⟨⟨tw 1493 (by decide +kernel) rfl, ni_RX12, nh_RX12, ds_6⟩, tw 1492 (by decide +kernel) rfl, tw 58 (by decide +kernel) rfl, TX12, 40, rfl⟩
theorem ml_X12_217 : Cond.methodLink RX12 217 yX12_isAhead ∈ lw_gw := tw 1490 (by decide +kernel) rfl
theorem fl_X12_61 : FL RX12 61 12 28 := ⟨RX12, TX12, 40, tyX12, clX12, by decide, tw 1256 (by decide +kernel) rfl⟩
theorem s_131 : shp 131 = (1, 8) := by decide +kernel
theorem mw_X12_isWhole : MV yX12_isWhole cX12_isWhole 7 (some .boolean) 2 12 := ⟨⟨tw 1612 (by decide +kernel) rfl, ni_RX12, nh_RX12, ds_6⟩, tw 1611 (by decide +kernel) rfl, tw 71 (by decide +kernel) rfl, TX12, 40, rfl⟩
theorem ml_X12_220 : Cond.methodLink RX12 220 yX12_isWhole ∈ lw_gw := tw 1609 (by decide +kernel) rfl
theorem ds_49 : (parseMethodDescriptor "(JI)Z").map (fun d => d.parameters.length) = some 2 := by decide +kernel
theorem mw_X12_has : MS yX12_has cX12_has 3 (some .boolean) 2 := ⟨⟨tw 1506 (by decide +kernel) rfl, ni_RX12, nh_RX12, ds_49⟩, tw 1505 (by decide +kernel) rfl⟩
theorem ml_X12_223 : Cond.methodLink RX12 223 yX12_has ∈ lw_gw := tw 1504 (by decide +kernel) rfl
theorem fl_X12_64 : FL RX12 64 12 29 := ⟨RX12, TX12, 40, tyX12, clX12, by decide, tw 1257 (by decide +kernel) rfl⟩
theorem s_132 : shp 132 = (1, 8) := by decide +kernel
theorem ds_50 : (parseMethodDescriptor "(JI)I").map (fun d => d.parameters.length) = some 2 := by decide +kernel
theorem mw_X12_firstOf : MS yX12_firstOf cX12_firstOf 4 (some .int) 2 := ⟨⟨tw 1509 (by decide +kernel) rfl, ni_RX12, nh_RX12, ds_50⟩, tw 1508 (by decide +kernel) rfl⟩
theorem ml_X12_227 : Cond.methodLink RX12 227 yX12_firstOf ∈ lw_gw := tw 1507 (by decide +kernel) rfl
theorem fl_X12_73 : FL RX12 73 12 32 := ⟨RX12, TX12, 40, tyX12, clX12, by decide, tw 1260 (by decide +kernel) rfl⟩
theorem s_135 : shp 135 = (1, 7) := by decide +kernel
theorem fl_X12_234 : FL RX12 234 12 34 := ⟨RX12, TX12, 40, tyX12, clX12, by decide, tw 1262 (by decide +kernel) rfl⟩
theorem fl_X12_76 : FL RX12 76 12 33 := ⟨RX12, TX12, 40, tyX12, clX12, by decide, tw 1261 (by decide +kernel) rfl⟩
theorem s_136 : shp 136 = (1, 7) := by decide +kernel
theorem fl_X12_70 : FL RX12 70 12 31 := ⟨RX12, TX12, 40, tyX12, clX12, by decide, tw 1259 (by decide +kernel) rfl⟩
theorem s_134 : shp 134 = (2, 7) := by decide +kernel
theorem kb_47 : (Int8.ofInt 47).toInt32 = (47 : Int32) := by decide
theorem fl_X12_67 : FL RX12 67 12 30 := ⟨RX12, TX12, 40, tyX12, clX12, by decide, tw 1258 (by decide +kernel) rfl⟩
theorem s_133 : shp 133 = (1, 8) := by decide +kernel
theorem mw_X12_lastOf : MS yX12_lastOf cX12_lastOf 4 (some .int) 2 := ⟨⟨tw 1512 (by decide +kernel) rfl, ni_RX12, nh_RX12, ds_50⟩, tw 1511 (by decide +kernel) rfl⟩
theorem ml_X12_231 : Cond.methodLink RX12 231 yX12_lastOf ∈ lw_gw := tw 1510 (by decide +kernel) rfl
theorem mw_X12_layAll : MV yX12_layAll cX12_layAll 3 (none) 0 12 := ⟨⟨tw 1604 (by decide +kernel) rfl, ni_RX12, nh_RX12, ds_1⟩, tw 1603 (by decide +kernel) rfl, tw 69 (by decide +kernel) rfl, TX12, 40, rfl⟩
theorem ml_X12_237 : Cond.methodLink RX12 237 yX12_layAll ∈ lw_gw := tw 1601 (by decide +kernel) rfl
theorem fp_X12_234 : FP RX12 234 12 34 .int := ⟨RX12, TX12, 40, tyX12, clX12, by decide, tw 1262 (by decide +kernel) rfl, rfl, by decide +kernel⟩
theorem fp_X12_240 : FP RX12 240 12 39 .int := ⟨RX12, TX12, 40, tyX12, clX12, by decide, tw 1267 (by decide +kernel) rfl, rfl, by decide +kernel⟩
theorem mw_X12_isLast : MV yX12_isLast cX12_isLast 5 (some .boolean) 1 12 := ⟨⟨tw 1608 (by decide +kernel) rfl, ni_RX12, nh_RX12, ds_4⟩, tw 1607 (by decide +kernel) rfl, tw 70 (by decide +kernel) rfl, TX12, 40, rfl⟩
theorem ml_X12_243 : Cond.methodLink RX12 243 yX12_isLast ∈ lw_gw := tw 1605 (by decide +kernel) rfl
theorem mw_X12_isGiven : MV yX12_isGiven cX12_isGiven 2 (some .boolean) 1 12 := ⟨⟨tw 1616 (by decide +kernel) rfl, ni_RX12, nh_RX12, ds_4⟩, tw 1615 (by decide +kernel) rfl, tw 72 (by decide +kernel) rfl, TX12, 40, rfl⟩
theorem ml_X12_246 : Cond.methodLink RX12 246 yX12_isGiven ∈ lw_gw := tw 1613 (by decide +kernel) rfl
theorem mw_X12_note : MV yX12_note cX12_note 7 (none) 1 12 := ⟨⟨tw 1624 (by decide +kernel) rfl, ni_RX12, nh_RX12, ds_31⟩, tw 1623 (by decide +kernel) rfl, tw 74 (by decide +kernel) rfl, TX12, 40, rfl⟩
theorem ml_X12_252 : Cond.methodLink RX12 252 yX12_note ∈ lw_gw := tw 1621 (by decide +kernel) rfl
theorem fl_X12_79 : FL RX12 79 12 35 := ⟨RX12, TX12, 40, tyX12, clX12, by decide, tw 1263 (by decide +kernel) rfl⟩
theorem s_137 : shp 137 = (1, 8) := by decide +kernel
theorem fl_X12_240 : FL RX12 240 12 39 := ⟨RX12, TX12, 40, tyX12, clX12, by decide, tw 1267 (by decide +kernel) rfl⟩
theorem mw_X12_weigh : MV yX12_weigh cX12_weigh 8 (none) 4 12 := ⟨⟨tw 1620 (by decide +kernel) rfl, ni_RX12, nh_RX12, ds_19⟩, tw 1619 (by decide +kernel) rfl, tw 73 (by decide +kernel) rfl, TX12, 40, rfl⟩
theorem ml_X12_249 : Cond.methodLink RX12 249 yX12_weigh ∈ lw_gw := tw 1617 (by decide +kernel) rfl
theorem mw_X12_whole : MV yX12_whole cX12_whole 1 (some .int) 0 12 := ⟨⟨tw 1596 (by decide +kernel) rfl, ni_RX12, nh_RX12, ds_8⟩, tw 1595 (by decide +kernel) rfl, tw 67 (by decide +kernel) rfl, TX12, 40, rfl⟩
theorem ml_X12_255 : Cond.methodLink RX12 255 yX12_whole ∈ lw_gw := tw 1593 (by decide +kernel) rfl
theorem ks_9999 : (Int16.ofInt 9999).toInt32 = (9999 : Int32) := by decide
theorem ds_51 : (parseMethodDescriptor "(IIIII)I").map (fun d => d.parameters.length) = some 5 := by decide +kernel
theorem mw_X12_layOrders : MV yX12_layOrders cX12_layOrders 9 (some .int) 5 12 := ⟨⟨tw 1600 (by decide +kernel) rfl, ni_RX12, nh_RX12, ds_51⟩, tw 1599 (by decide +kernel) rfl, tw 68 (by decide +kernel) rfl, TX12, 40, rfl⟩
theorem ml_X12_258 : Cond.methodLink RX12 258 yX12_layOrders ∈ lw_gw := tw 1597 (by decide +kernel) rfl
theorem kb_64 : (Int8.ofInt 64).toInt32 = (64 : Int32) := by decide
theorem mw_X12_ones : MS yX12_ones cX12_ones 4 (some .int) 1 := ⟨⟨tw 1503 (by decide +kernel) rfl, ni_RX12, nh_RX12, ds_9⟩, tw 1502 (by decide +kernel) rfl⟩
theorem ml_X12_262 : Cond.methodLink RX12 262 yX12_ones ∈ lw_gw := tw 1501 (by decide +kernel) rfl
theorem mw_X12_isBefore : MV yX12_isBefore cX12_isBefore 7 (some .boolean) 2 12 := ⟨⟨tw 1489 (by decide +kernel) rfl, ni_RX12, nh_RX12, ds_6⟩, tw 1488 (by decide +kernel) rfl, tw 57 (by decide +kernel) rfl, TX12, 40, rfl⟩
theorem ml_X12_266 : Cond.methodLink RX12 266 yX12_isBefore ∈ lw_gw := tw 1486 (by decide +kernel) rfl
theorem mw_X12_isPicture : MV yX12_isPicture cX12_isPicture 2 (some .boolean) 1 12 := ⟨⟨tw 1454 (by decide +kernel) rfl, ni_RX12, nh_RX12, ds_4⟩, tw 1453 (by decide +kernel) rfl, tw 49 (by decide +kernel) rfl, TX12, 40, rfl⟩
theorem ml_X12_269 : Cond.methodLink RX12 269 yX12_isPicture ∈ lw_gw := tw 1451 (by decide +kernel) rfl
theorem mw_X12_shown : MS yX12_shown cX12_shown 4 (some .int) 2 := ⟨⟨tw 1500 (by decide +kernel) rfl, ni_RX12, nh_RX12, ds_50⟩, tw 1499 (by decide +kernel) rfl⟩
theorem ml_X12_279 : Cond.methodLink RX12 279 yX12_shown ∈ lw_gw := tw 1498 (by decide +kernel) rfl
theorem ds_52 : (parseMethodDescriptor "(IZ)I").map (fun d => d.parameters.length) = some 2 := by decide +kernel
theorem mw_X12_countOf : MV yX12_countOf cX12_countOf 5 (some .int) 2 12 := ⟨⟨tw 1485 (by decide +kernel) rfl, ni_RX12, nh_RX12, ds_52⟩, tw 1484 (by decide +kernel) rfl, tw 56 (by decide +kernel) rfl, TX12, 40, rfl⟩
theorem ml_X12_275 : Cond.methodLink RX12 275 yX12_countOf ∈ lw_gw := tw 1482 (by decide +kernel) rfl
theorem mw_X12_lettersOf : MV yX12_lettersOf cX12_lettersOf 4 (some .int) 1 12 := ⟨⟨tw 1481 (by decide +kernel) rfl, ni_RX12, nh_RX12, ds_5⟩, tw 1480 (by decide +kernel) rfl, tw 55 (by decide +kernel) rfl, TX12, 40, rfl⟩
theorem ml_X12_272 : Cond.methodLink RX12 272 yX12_lettersOf ∈ lw_gw := tw 1478 (by decide +kernel) rfl
theorem mw_X12_isMatter : MV yX12_isMatter cX12_isMatter 2 (some .boolean) 1 12 := ⟨⟨tw 1524 (by decide +kernel) rfl, ni_RX12, nh_RX12, ds_4⟩, tw 1523 (by decide +kernel) rfl, tw 60 (by decide +kernel) rfl, TX12, 40, rfl⟩
theorem ml_X12_282 : Cond.methodLink RX12 282 yX12_isMatter ∈ lw_gw := tw 1521 (by decide +kernel) rfl
theorem fl_X12_189 : FL RX12 189 12 22 := ⟨RX12, TX12, 40, tyX12, clX12, by decide, tw 1250 (by decide +kernel) rfl⟩
theorem fl_X12_44 : FL RX12 44 12 23 := ⟨RX12, TX12, 40, tyX12, clX12, by decide, tw 1251 (by decide +kernel) rfl⟩
theorem s_126 : shp 126 = (1, 1800) := by decide +kernel
theorem ks_225 : (Int16.ofInt 225).toInt32 = (225 : Int32) := by decide
theorem ks_1575 : (Int16.ofInt 1575).toInt32 = (1575 : Int32) := by decide
theorem mw_X12_put : MV yX12_put cX12_put 1 (none) 0 12 := ⟨⟨tw 1544 (by decide +kernel) rfl, ni_RX12, nh_RX12, ds_1⟩, tw 1543 (by decide +kernel) rfl, tw 62 (by decide +kernel) rfl, TX12, 40, rfl⟩
theorem ml_X12_285 : Cond.methodLink RX12 285 yX12_put ∈ lw_gw := tw 1541 (by decide +kernel) rfl
theorem mw_X12_newPiece : MV yX12_newPiece cX12_newPiece 5 (some .int) 4 12 := ⟨⟨tw 1540 (by decide +kernel) rfl, ni_RX12, nh_RX12, ds_36⟩, tw 1539 (by decide +kernel) rfl, tw 61 (by decide +kernel) rfl, TX12, 40, rfl⟩
theorem ml_X12_288 : Cond.methodLink RX12 288 yX12_newPiece ∈ lw_gw := tw 1537 (by decide +kernel) rfl
theorem mw_X12_mostOf : MV yX12_mostOf cX12_mostOf 2 (some .int) 1 12 := ⟨⟨tw 1556 (by decide +kernel) rfl, ni_RX12, nh_RX12, ds_5⟩, tw 1555 (by decide +kernel) rfl, tw 63 (by decide +kernel) rfl, TX12, 40, rfl⟩
theorem ml_X12_292 : Cond.methodLink RX12 292 yX12_mostOf ∈ lw_gw := tw 1553 (by decide +kernel) rfl
theorem mw_X12_remove : MV yX12_remove cX12_remove 2 (none) 1 12 := ⟨⟨tw 1564 (by decide +kernel) rfl, ni_RX12, nh_RX12, ds_31⟩, tw 1563 (by decide +kernel) rfl, tw 64 (by decide +kernel) rfl, TX12, 40, rfl⟩
theorem ml_X12_295 : Cond.methodLink RX12 295 yX12_remove ∈ lw_gw := tw 1561 (by decide +kernel) rfl
theorem fl_X12_47 : FL RX12 47 12 24 := ⟨RX12, TX12, 40, tyX12, clX12, by decide, tw 1252 (by decide +kernel) rfl⟩
theorem s_127 : shp 127 = (1, 450) := by decide +kernel
theorem mw_X12_areTwo : MV yX12_areTwo cX12_areTwo 3 (some .boolean) 2 12 := ⟨⟨tw 1584 (by decide +kernel) rfl, ni_RX12, nh_RX12, ds_6⟩, tw 1583 (by decide +kernel) rfl, tw 65 (by decide +kernel) rfl, TX12, 40, rfl⟩
theorem ml_X12_298 : Cond.methodLink RX12 298 yX12_areTwo ∈ lw_gw := tw 1581 (by decide +kernel) rfl
theorem mw_X12_many : MV yX12_many cX12_many 1 (some .int) 0 12 := ⟨⟨tw 1592 (by decide +kernel) rfl, ni_RX12, nh_RX12, ds_8⟩, tw 1591 (by decide +kernel) rfl, tw 66 (by decide +kernel) rfl, TX12, 40, rfl⟩
theorem ml_X12_301 : Cond.methodLink RX12 301 yX12_many ∈ lw_gw := tw 1589 (by decide +kernel) rfl
theorem mw_X12_isAny : MV yX12_isAny cX12_isAny 2 (some .boolean) 1 12 := ⟨⟨tw 1652 (by decide +kernel) rfl, ni_RX12, nh_RX12, ds_4⟩, tw 1651 (by decide +kernel) rfl, tw 76 (by decide +kernel) rfl, TX12, 40, rfl⟩
theorem ml_X12_304 : Cond.methodLink RX12 304 yX12_isAny ∈ lw_gw := tw 1649 (by decide +kernel) rfl
theorem mw_X12_knotOf : MV yX12_knotOf cX12_knotOf 4 (some .int) 0 12 := ⟨⟨tw 1648 (by decide +kernel) rfl, ni_RX12, nh_RX12, ds_8⟩, tw 1647 (by decide +kernel) rfl, tw 75 (by decide +kernel) rfl, TX12, 40, rfl⟩
theorem ml_X12_307 : Cond.methodLink RX12 307 yX12_knotOf ∈ lw_gw := tw 1645 (by decide +kernel) rfl
theorem fl_X12_41 : FL RX12 41 12 21 := ⟨RX12, TX12, 40, tyX12, clX12, by decide, tw 1249 (by decide +kernel) rfl⟩
theorem s_125 : shp 125 = (1, 225) := by decide +kernel
theorem ds_53 : (parseMethodDescriptor "(III)I").map (fun d => d.parameters.length) = some 3 := by decide +kernel
theorem mw_X12_wouldBe : MV yX12_wouldBe cX12_wouldBe 5 (some .int) 3 12 := ⟨⟨tw 1664 (by decide +kernel) rfl, ni_RX12, nh_RX12, ds_53⟩, tw 1663 (by decide +kernel) rfl, tw 77 (by decide +kernel) rfl, TX12, 40, rfl⟩
theorem ml_X12_310 : Cond.methodLink RX12 310 yX12_wouldBe ∈ lw_gw := tw 1661 (by decide +kernel) rfl
theorem mw_X12_isStrip : MS yX12_isStrip cX12_isStrip 1 (some .boolean) 1 := ⟨⟨tw 1675 (by decide +kernel) rfl, ni_RX12, nh_RX12, ds_4⟩, tw 1674 (by decide +kernel) rfl⟩
theorem ml_X12_314 : Cond.methodLink RX12 314 yX12_isStrip ∈ lw_gw := tw 1673 (by decide +kernel) rfl
theorem fl_X12_85 : FL RX12 85 12 37 := ⟨RX12, TX12, 40, tyX12, clX12, by decide, tw 1265 (by decide +kernel) rfl⟩
theorem s_139 : shp 139 = (2, 24) := by decide +kernel
theorem mw_X12_lack : MV yX12_lack cX12_lack 3 (some .int) 2 12 := ⟨⟨tw 1683 (by decide +kernel) rfl, ni_RX12, nh_RX12, ds_7⟩, tw 1682 (by decide +kernel) rfl, tw 78 (by decide +kernel) rfl, TX12, 40, rfl⟩
theorem ml_X12_317 : Cond.methodLink RX12 317 yX12_lack ∈ lw_gw := tw 1680 (by decide +kernel) rfl
theorem fp_X12_320 : FP RX12 320 12 38 .long := ⟨RX12, TX12, 40, tyX12, clX12, by decide, tw 1266 (by decide +kernel) rfl, rfl, by decide +kernel⟩
theorem fl_X12_320 : FL RX12 320 12 38 := ⟨RX12, TX12, 40, tyX12, clX12, by decide, tw 1266 (by decide +kernel) rfl⟩
theorem mw_X12_pairs : MV yX12_pairs cX12_pairs 4 (some .int) 0 12 := ⟨⟨tw 1715 (by decide +kernel) rfl, ni_RX12, nh_RX12, ds_8⟩, tw 1714 (by decide +kernel) rfl, tw 79 (by decide +kernel) rfl, TX12, 40, rfl⟩
theorem ml_X12_324 : Cond.methodLink RX12 324 yX12_pairs ∈ lw_gw := tw 1712 (by decide +kernel) rfl
theorem mw_X12_placesOfAll : MV yX12_placesOfAll cX12_placesOfAll 3 (some .int) 0 12 := ⟨⟨tw 1719 (by decide +kernel) rfl, ni_RX12, nh_RX12, ds_8⟩, tw 1718 (by decide +kernel) rfl, tw 80 (by decide +kernel) rfl, TX12, 40, rfl⟩
theorem ml_X12_327 : Cond.methodLink RX12 327 yX12_placesOfAll ∈ lw_gw := tw 1716 (by decide +kernel) rfl
