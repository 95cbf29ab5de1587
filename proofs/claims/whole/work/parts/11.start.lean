theorem wc__law_7 : Cond.classLink R_law 7 RX11 ∈ lw_gw := tw 105 (by decide +kernel) rfl
theorem wi_11 : Cond.instantiable RX11 9 ∈ lw_gw := tw 106 (by decide +kernel) rfl
theorem wdf_11 : ∀ j, j < 9 → defaultValue (tyX11 j) = vp_V [.null, .null, .null, .null, .null, .null, .null, .null, .null] j := by
  intro j hj
  rcases (show j = 0 ∨ j = 1 ∨ j = 2 ∨ j = 3 ∨ j = 4 ∨ j = 5 ∨ j = 6 ∨ j = 7 ∨ j = 8 by omega) with rfl | rfl | rfl | rfl | rfl | rfl | rfl | rfl | rfl <;> rfl
theorem ml__law_9 : Cond.methodLink R_law 9 yX11_init ∈ lw_gw := tw 107 (by decide +kernel) rfl
theorem mi_X11_init : MI yX11_init cX11_init 1 none 0 := ⟨tw 109 (by decide +kernel) rfl, ni_RX11, nh_RX11, ds_1⟩
theorem wm_X11_init : Cond.instanceMethod yX11_init ∈ lw_gw := tw 108 (by decide +kernel) rfl
theorem wc__law_10 : Cond.classLink R_law 10 RX12 ∈ lw_gw := tw 1222 (by decide +kernel) rfl
theorem wi_12 : Cond.instantiable RX12 40 ∈ lw_gw := tw 1223 (by decide +kernel) rfl
theorem wdf_12 : ∀ j, j < 40 → defaultValue (tyX12 j) = vp_V [.null, .int 0, .int 0, .int 0, .int 0, .int 0, .int 0, .int 0, .null, .int 0, .int 0, .null, .null, .int 0, .int 0, .int 0, .int 0, .null, .int 0, .null, .null, .null, .int 0, .null, .null, .null, .null, .null, .null, .null, .null, .null, .null, .null, .int 0, .null, .null, .null, .long 0, .int 0] j := by
  intro j hj
  rcases (show j = 0 ∨ j = 1 ∨ j = 2 ∨ j = 3 ∨ j = 4 ∨ j = 5 ∨ j = 6 ∨ j = 7 ∨ j = 8 ∨ j = 9 ∨ j = 10 ∨ j = 11 ∨ j = 12 ∨ j = 13 ∨ j = 14 ∨ j = 15 ∨ j = 16 ∨ j = 17 ∨ j = 18 ∨ j = 19 ∨ j = 20 ∨ j = 21 ∨ j = 22 ∨ j = 23 ∨ j = 24 ∨ j = 25 ∨ j = 26 ∨ j = 27 ∨ j = 28 ∨ j = 29 ∨ j = 30 ∨ j = 31 ∨ j = 32 ∨ j = 33 ∨ j = 34 ∨ j = 35 ∨ j = 36 ∨ j = 37 ∨ j = 38 ∨ j = 39 by omega) with rfl | rfl | rfl | rfl | rfl | rfl | rfl | rfl | rfl | rfl | rfl | rfl | rfl | rfl | rfl | rfl | rfl | rfl | rfl | rfl | rfl | rfl | rfl | rfl | rfl | rfl | rfl | rfl | rfl | rfl | rfl | rfl | rfl | rfl | rfl | rfl | rfl | rfl | rfl | rfl <;> rfl
theorem ml__law_12 : Cond.methodLink R_law 12 yX12_init ∈ lw_gw := tw 1224 (by decide +kernel) rfl
theorem mi_X12_init : MI yX12_init cX12_init 2 none 0 := ⟨tw 1226 (by decide +kernel) rfl, ni_RX12, nh_RX12, ds_1⟩
theorem wm_X12_init : Cond.instanceMethod yX12_init ∈ lw_gw := tw 1225 (by decide +kernel) rfl
/-- the scalars, the arrays of the world as it is made -/
def hi_S : Nat → Int32 := fun u => if u = 256 then (24 : Int32) else if u = 257 then (4 : Int32) else if u = 258 then (5 : Int32) else if u = 896 then (24 : Int32) else if u = 897 then (4 : Int32) else if u = 898 then (5 : Int32) else if u = 7501 then (24 : Int32) else if u = 7502 then (4 : Int32) else if u = 7503 then (5 : Int32) else 0
def hi_M : List Nat := [7, 8, 9, 17, 18, 19, 27, 28, 29, 32, 33, 34, 37, 38, 39, 42, 43, 44, 47, 48, 49, 52, 53, 54, 57, 58, 59, 62, 63, 64, 67, 68, 69, 72, 73, 74, 95, 96, 97, 115]
def hi_A : Nat → Nat → Int32 := fun k => if k = 138 then (upd (upd (upd (fun _ => 0) 0 (-1 : Int32)) 1 (-1 : Int32)) 2 (-1 : Int32)) else if hi_M.contains k then (fun _ => (-1 : Int32)) else fun _ => 0
def h_init : Hp := (hi_S, hi_A, fun _ _ => 0, fun _ => 0, fun _ => none)
/-- the strings' terms -/
def sw_tm (i : Nat) : Term := .string "AlbumHours$Reader" (sw_idx.getD i 0)
theorem str_start {p : Program} {s : State} {m : MethodId} {meth : Method} {c : Code} {b L : Nat} {xs : Nat → Int32} (C0 : lw_At p s m meth c b L xs) : ∃ adK adV : Nat → Nat, vk_S sw_N sw_len sw_byt adK adV (fun q => s.heap.size ≤ q) s s.heap ∧ (∀ i, i < sw_N → vk_R RX6 (sw_idx.getD i 0) (sw_txt.getD i "") (adK i) s) ∧ va_Z "java/lang/String" "COMPACT_STRINGS" "Z" (.int 1) (fun q => s.heap.size ≤ q) s s.heap ∧ va_Zq "jdk/internal/util/Preconditions" "SIOOBE_FORMATTER" "Ljava/util/function/BiFunction;" (fun q => s.heap.size ≤ q) s s.heap := by
  obtain ⟨hx, hb, hr, hml, hown, hts, hX, hbl, hlocks, hgv⟩ := C0
  have hq := flat_of_before _ hgv
  have hA : ∀ a : Nat, a < s.heap.size → ¬ (fun q => s.heap.size ≤ q) a := fun a h => Nat.not_le.mpr h
  have hsr : ∀ i, i < sw_N → (Cond.stringRef RX6 (sw_idx.getD i 0) (sw_txt.getD i "")).before #[Value.ref b] s = true := fun i hi => hts _ ((show ∀ i, i < sw_N → Cond.stringRef RX6 (sw_idx.getD i 0) (sw_txt.getD i "") ∈ lw_tbl by decide +kernel) i hi)
  obtain ⟨adK, adV, h1, h2⟩ := vk_Sof (args := #[Value.ref b]) (s := s) (N := sw_N) (tm := sw_tm) (len := sw_len) (byt := sw_byt) (A := fun q => s.heap.size ≤ q) (by decide +kernel)
    (fun i hi => hq _ ((show ∀ i, i < sw_N → Cond.exactly (sw_tm i) "java/lang/String" ∈ flatC (Jvm.Cond.and given_1 narrow_1) by decide +kernel) i hi))
    (fun i hi => hq _ ((show ∀ i, i < sw_N → Cond.eq (.field (sw_tm i) "java/lang/String" "coder" "B") (.int 0) ∈ flatC (Jvm.Cond.and given_1 narrow_1) by decide +kernel) i hi))
    (fun i hi => hq _ ((show ∀ i, i < sw_N → Cond.arrayOf (.field (sw_tm i) "java/lang/String" "value" "[B") .byte ∈ flatC (Jvm.Cond.and given_1 narrow_1) by decide +kernel) i hi))
    (fun i hi => hq _ ((show ∀ i, i < sw_N → Cond.eq (.length (.field (sw_tm i) "java/lang/String" "value" "[B")) (.int (Int32.ofNat (sw_len.getD i 0))) ∈ flatC (Jvm.Cond.and given_1 narrow_1) by decide +kernel) i hi))
    (fun i hi j hj => hq _ ((show ∀ i, i < sw_N → ∀ j, j < sw_len.getD i 0 → Cond.eq (.elem (.field (sw_tm i) "java/lang/String" "value" "[B") (.int (Int32.ofNat j))) (.int ((sw_byt.getD i []).getD j 0)) ∈ flatC (Jvm.Cond.and given_1 narrow_1) by decide +kernel) i hi j hj))
    (fun i j hi hj hij => by
      rcases (show ∀ i, i < sw_N → ∀ j, j < sw_N → i ≠ j → (Cond.not (Cond.eq (sw_tm i) (sw_tm j)) ∈ flatC (Jvm.Cond.and given_1 narrow_1) ∨ Cond.not (Cond.eq (sw_tm j) (sw_tm i)) ∈ flatC (Jvm.Cond.and given_1 narrow_1)) by decide +kernel) i hi j hj hij with z | z
      · exact Or.inl (hq _ z)
      · exact Or.inr (hq _ z)) hA
  refine ⟨adK, adV, h1, fun i hi => vk_R.of (hsr i hi) (h2 i hi), ?_, ?_⟩
  · exact va_Zof (hts (.laysStatic "java/lang/String" "COMPACT_STRINGS" "Z") (by decide +kernel)) (hts (.initialized "java/lang/String") (by decide +kernel)) (va_eqt (hq (.eq (.static "java/lang/String" "COMPACT_STRINGS" "Z") (.int 1)) (by decide +kernel))) hA
  · exact va_Zqof (hts (.laysStatic "jdk/internal/util/Preconditions" "SIOOBE_FORMATTER" "Ljava/util/function/BiFunction;") (by decide +kernel)) (hts (.initialized "jdk/internal/util/Preconditions") (by decide +kernel)) (hq (.isRef (.static "jdk/internal/util/Preconditions" "SIOOBE_FORMATTER" "Ljava/util/function/BiFunction;")) (by decide +kernel)) hA
