section
variable {τ σ : Type} {K : CK} {own : String} {cc : ByteArray} {nL fr lo : Nat} {ret : Option FieldType} {ε : τ → Option Value} {ε2 : σ → Option Value} {h : Hp} {pc : Nat} {ls ls2 : List (Option Value)} {st : List Value} {o o1 o2 : Option (τ × Hp)}
def slen (i : Nat) : Int32 := Int32.ofNat (sw_len.getD i 0)
def schr (i : Nat) (j : Int32) : Int32 := (sw_byt.getD i []).getD j.toNatClampNeg 0
theorem gf_ldcS (C : CX K RX6 cc nL ret fr lo) {i ix : Nat} (d : decode cc pc = .ok (.ldc ix, 2)) (hi : i < sw_N) (hx : sw_idx.getD i 0 = ix) (k : GF K ε h (pc + 2) ls (.ref (1000 + i) :: st) o) : GF K ε h pc ls st o := by
  subst hx
  intro r h1 ho H locs arr hP hS hv
  have S := C.2.2.2.2.2.2.2.1
  have k2 := k r h1 ho H locs arr hP hS hv
  rw [List.map_cons, show cv (jad (kE K)) (.ref (1000 + i)) = .ref (jK (kE K) i) from congrArg Value.ref (S.2.2.2.1 i hi)] at k2
  exact va_ldcS C.1 C.2.1 C.2.2.2.1 (S.2.1 i hi) d k2
theorem gf_sval (C : CX K RJ0 cc nL ret fr lo) {i : Nat} (d : decode cc pc = .ok (.getfield 9, 3)) (hi : i < sw_N) (k : GF K ε h (pc + 3) ls (.ref (2000 + i) :: st) o) : GF K ε h pc ls (.ref (1000 + i) :: st) o := by
  intro r h1 ho H locs arr hP hS hv
  have S := C.2.2.2.2.2.2.2.1
  have k2 := k r h1 ho H locs arr hP hS hv
  rw [List.map_cons, show cv (jad (kE K)) (.ref (2000 + i)) = .ref (jV (kE K) i) from congrArg Value.ref (S.2.2.2.2.2.1 i hi)] at k2
  show kW K H locs _ (F0 (kM K) pc arr (.ref (jad (kE K) (1000 + i)) :: st.map (cv (jad (kE K)))))
  rw [S.2.2.2.1 i hi]
  exact vk_getf C.1 C.2.1 (S.1.1 i hi).2.2.1 hS C.2.2.2.1 (C.2.2.2.2.1 _ (tw 1720 (by decide +kernel) rfl)) (fun _ q => q) d k2
theorem gf_scod (C : CX K RJ0 cc nL ret fr lo) {i : Nat} (d : decode cc pc = .ok (.getfield 15, 3)) (hi : i < sw_N) (k : GF K ε h (pc + 3) ls (.int 0 :: st) o) : GF K ε h pc ls (.ref (1000 + i) :: st) o := by
  intro r h1 ho H locs arr hP hS hv
  have S := C.2.2.2.2.2.2.2.1
  have k2 := k r h1 ho H locs arr hP hS hv
  show kW K H locs _ (F0 (kM K) pc arr (.ref (jad (kE K) (1000 + i)) :: st.map (cv (jad (kE K)))))
  rw [S.2.2.2.1 i hi]
  exact vk_getf C.1 C.2.1 (S.1.1 i hi).2.1 hS C.2.2.2.1 (C.2.2.2.2.1 _ (tw 1721 (by decide +kernel) rfl)) (fun _ q => q) d k2
theorem gf_gets1 (C : CX K RJ0 cc nL ret fr lo) (d : decode cc pc = .ok (.getstatic 38, 3)) (k : GF K ε h (pc + 3) ls (.int 1 :: st) o) : GF K ε h pc ls st o := by
  intro r h1 ho H locs arr hP hS hv
  exact va_gets C.1 C.2.1 C.2.2.2.2.2.2.2.1.2.2.1 hS C.2.2.2.1 (C.2.2.2.2.1 _ (tw 541 (by decide +kernel) rfl)) (fun _ q => q) d (k r h1 ho H locs arr hP hS hv)
theorem gf_blen (C : CX K own cc nL ret fr lo) {i : Nat} (d : decode cc pc = .ok (.arraylength, 1)) (hi : i < sw_N) (k : GF K ε h (pc + 1) ls (.int (Int32.ofNat (sw_len.getD i 0)) :: st) o) : GF K ε h pc ls (.ref (2000 + i) :: st) o := by
  intro r h1 ho H locs arr hP hS hv
  have S := C.2.2.2.2.2.2.2.1
  show kW K H locs _ (F0 (kM K) pc arr (.ref (jad (kE K) (2000 + i)) :: st.map (cv (jad (kE K)))))
  rw [S.2.2.2.2.2.1 i hi]
  exact va_tlen C.1 C.2.1 (S.1.1 i hi).2.2.2 hS rfl d (k r h1 ho H locs arr hP hS hv)
theorem gf_bbald (C : CX K own cc nL ret fr lo) {i : Nat} {j : Int32} (d : decode cc pc = .ok (.baload, 1)) (hi : i < sw_N) (hj : vp_in j (sw_len.getD i 0)) (k : GF K ε h (pc + 1) ls (.int ((sw_byt.getD i []).getD j.toNatClampNeg 0) :: st) o) : GF K ε h pc ls (.int j :: .ref (2000 + i) :: st) o := by
  intro r h1 ho H locs arr hP hS hv
  have S := C.2.2.2.2.2.2.2.1
  show kW K H locs _ (F0 (kM K) pc arr (.int j :: .ref (jad (kE K) (2000 + i)) :: st.map (cv (jad (kE K)))))
  rw [S.2.2.2.2.2.1 i hi]
  exact va_tb C.1 C.2.1 (S.1.1 i hi).2.2.2 hS hj rfl d (k r h1 ho H locs arr hP hS hv)
theorem gf_getsq (C : CX K RJ0 cc nL ret fr lo) (d : decode cc pc = .ok (.getstatic 1053, 3)) (k0 : GF K ε h (pc + 3) ls (.null :: st) o) (k1 : GF K ε h (pc + 3) ls (.ref 3000 :: st) o) : GF K ε h pc ls st o := by
  intro r h1 ho H locs arr hP hS hv
  have S := C.2.2.2.2.2.2.2.1
  rcases S.2.2.2.2.2.2 with hz | hz
  · exact va_gets C.1 C.2.1 hz hS C.2.2.2.1 (C.2.2.2.2.1 _ (tw 557 (by decide +kernel) rfl)) (fun _ q => q) d (k0 r h1 ho H locs arr hP hS hv)
  · exact va_gets C.1 C.2.1 hz hS C.2.2.2.1 (C.2.2.2.2.1 _ (tw 557 (by decide +kernel) rfl)) (fun _ q => q) d (k1 r h1 ho H locs arr hP hS hv)
def MVS (y : MethodName) (b : ByteArray) (n : Nat) (rt : Option FieldType) (np : Nat) : Prop := MI y b n rt np ∧ Cond.instanceMethod y ∈ lw_gw ∧ Cond.selects "java/lang/String" y y ∈ lw_gw
theorem gf_callVS (C : CX K own cc nL ret fr lo) {y : MethodName} {b : ByteArray} {n : Nat} {rt : Option FieldType} {np fr2 lo2 ix i : Nat} (As : List Value) {stk : List Value} {r2 : σ} (d : decode cc pc = .ok (.invokevirtual ix, 3)) (mv : MVS y b n rt np) (wl : Cond.methodLink own ix y ∈ lw_gw) (hi : i < sw_N) (ok : AC y b n rt fr2 lo2 (.ref (1000 + i) :: As) h (ε2 r2) h)
    (hst : stk = As.reverse ++ .ref (1000 + i) :: st) (hln : ls.length = nL) (hn : As.length = np) (hfr : fr2 + 1 ≤ fr) (hlo : 8 + (n + 11) + lo2 ≤ lo) (hst8 : (st.map fun v => v.category).sum ≤ 8) (k : GF K ε h (pc + 3) ls ((ε2 r2).toList ++ st) o) : GF K ε h pc ls stk o := by
  subst hst
  intro r h1 ho H locs arr hP hS hv
  obtain ⟨mi, wi, wsel⟩ := mv
  have hts := C.2.2.2.2.1
  have hR : K.2.2.2.1 = { frames := fr, cells := 0, slots := 0, locals := lo } := C.2.2.2.2.2.2.2.2.2.2
  have S := C.2.2.2.2.2.2.2.1
  have rc := vk_recv S.1 hi hS
  rw [← S.2.2.2.1 i hi] at rc
  refine jcall (rest := st.map (cv (jad (kE K)))) (va_runV (C := "java/lang/String") (own := own) (As := As.map (cv (jad (kE K)))) (n := np) (maxL := n) (bytes := b) (ret := rt) ⟨C.1, C.2.1, C.2.2.1, C.2.2.2.1, hts⟩ (ok K.2.1 (kE K))
    ⟨⟨rfl, rfl, by rw [hR]; exact hfr, by rw [hR]; exact hlo, mi.ws C, List.mem_cons_self, hts _ mi.1, hts _ mi.2.1, mi.2.2.1, mi.np, hts _ wl⟩, hts _ wi, hts _ wsel⟩
    ⟨Wd.blind _ _ _, rc, fun U hU hW => ⟨rfl, Wd.next C hP hS hU hW⟩⟩ rfl (by rw [List.length_map]; exact hn) (hv.1.trans hln) (by simp [List.map_append, List.map_reverse, cv]) (st_room hst8) d ⟨Nat.zero_le _, Nat.zero_le _⟩) hS (fun H1 locs1 hP1 hS1 => ?_)
  rw [rv_list]
  exact k r h1 ho H1 locs1 arr hP1 hS1 hv
theorem mw_J0_length_8abf5 : MVS yJ0_length_8abf5 cJ0_length_8abf5 1 (some .int) 0 := ⟨⟨tw 536 (by decide +kernel) rfl, tw 97 (by decide +kernel) rfl, by decide, by decide +kernel⟩, tw 534 (by decide +kernel) rfl, tw 535 (by decide +kernel) rfl⟩
theorem mw_J0_coder_7d493 : MVS yJ0_coder_7d493 cJ0_coder_7d493 1 (some .byte) 0 := ⟨⟨tw 540 (by decide +kernel) rfl, tw 97 (by decide +kernel) rfl, by decide, by decide +kernel⟩, tw 538 (by decide +kernel) rfl, tw 539 (by decide +kernel) rfl⟩
theorem mw_J0_charAt_5068e : MVS yJ0_charAt_5068e cJ0_charAt_5068e 2 (some .char) 1 := ⟨⟨tw 546 (by decide +kernel) rfl, tw 97 (by decide +kernel) rfl, by decide, by decide +kernel⟩, tw 544 (by decide +kernel) rfl, tw 545 (by decide +kernel) rfl⟩
theorem mw_J0_isLatin1_aae02 : MVS yJ0_isLatin1_aae02 cJ0_isLatin1_aae02 1 (some .boolean) 0 := ⟨⟨tw 550 (by decide +kernel) rfl, tw 97 (by decide +kernel) rfl, by decide, by decide +kernel⟩, tw 548 (by decide +kernel) rfl, tw 549 (by decide +kernel) rfl⟩
theorem mw_J0_checkIndex_df160 : MS yJ0_checkIndex_df160 cJ0_checkIndex_df160 2 (none) 2 := ⟨⟨tw 556 (by decide +kernel) rfl, tw 97 (by decide +kernel) rfl, by decide, by decide +kernel⟩, tw 555 (by decide +kernel) rfl⟩
theorem mw_J1_charAt_3b067 : MS yJ1_charAt_3b067 cJ1_charAt_3b067 2 (some .char) 2 := ⟨⟨tw 553 (by decide +kernel) rfl, tw 98 (by decide +kernel) rfl, by decide, by decide +kernel⟩, tw 552 (by decide +kernel) rfl⟩
theorem mw_J3_checkIndex_8e157 : MS yJ3_checkIndex_8e157 cJ3_checkIndex_8e157 3 (some .int) 3 := ⟨⟨tw 561 (by decide +kernel) rfl, tw 99 (by decide +kernel) rfl, by decide, by decide +kernel⟩, tw 560 (by decide +kernel) rfl⟩
theorem ok_coder {i : Nat} (hi : i < sw_N) (h : Hp) : AC yJ0_coder_7d493 cJ0_coder_7d493 1 (some .byte) 0 0 [.ref (1000 + i)] h (eI 0) h := by
  refine AC_intro (ε := eI) (r := 0) (o := if (1 : Int32) = 0 then none else some (0, h)) RJ0 rfl (plainFor_of_name (by decide)) [some (.ref (1000 + i))] rfl (fun _ => rfl) (fun _ => Nat.le_of_ble_eq_true rfl) ?_ (fun K C => ?_)
  · rw [if_neg (by decide)]
  · refine gf_gets1 C dJ0_coder_7d493_0 (gf_ifeq C 13 dJ0_coder_7d493_3 (by decide) (fun _ => gf_none) (fun _ => ?_))
    refine gf_aload_n C dJ0_coder_7d493_6 rfl rfl (gf_scod C dJ0_coder_7d493_7 hi (gf_goto C 14 dJ0_coder_7d493_10 (by decide) ?_))
    exact gf_zret C dJ0_coder_7d493_14 rfl rfl
theorem ok_isLatin1 {i : Nat} (hi : i < sw_N) (h : Hp) : AC yJ0_isLatin1_aae02 cJ0_isLatin1_aae02 1 (some .boolean) 0 0 [.ref (1000 + i)] h (eI 1) h := by
  refine AC_intro (ε := eI) (r := 1) (o := if (1 : Int32) = 0 then none else (if (0 : Int32) = 0 then some (1, h) else none)) RJ0 rfl (plainFor_of_name (by decide)) [some (.ref (1000 + i))] rfl (fun _ => rfl) (fun _ => Nat.le_of_ble_eq_true rfl) ?_ (fun K C => ?_)
  · rw [if_neg (by decide), if_pos rfl]
  · refine gf_gets1 C dJ0_isLatin1_aae02_0 (gf_ifeq C 17 dJ0_isLatin1_aae02_3 (by decide) (fun _ => gf_none) (fun _ => ?_))
    refine gf_aload_n C dJ0_isLatin1_aae02_6 rfl rfl (gf_scod C dJ0_isLatin1_aae02_7 hi (gf_ifne C 17 dJ0_isLatin1_aae02_10 (by decide) (fun _ => ?_) (fun _ => gf_none)))
    refine gf_iconst C (v := 1) dJ0_isLatin1_aae02_13 (by decide) (gf_goto C 18 dJ0_isLatin1_aae02_14 (by decide) ?_)
    exact gf_zret C dJ0_isLatin1_aae02_18 rfl rfl
theorem slen_shr : ∀ i, i < sw_N → Int32.ofNat (sw_len.getD i 0) >>> ((0 : Int32) &&& 31) = slen i := by decide +kernel
theorem ok_slen {i : Nat} (hi : i < sw_N) (h : Hp) : AC yJ0_length_8abf5 cJ0_length_8abf5 1 (some .int) 1 20 [.ref (1000 + i)] h (eI (slen i)) h := by
  refine AC_intro (ε := eI) (r := (slen i)) (o := some (slen i, h)) RJ0 rfl (plainFor_of_name (by decide)) [some (.ref (1000 + i))] rfl (fun _ => rfl) (fun _ => Nat.le_of_ble_eq_true rfl) ?_ (fun K C => ?_)
  · rfl
  · refine gf_aload_n C dJ0_length_8abf5_0 rfl rfl (gf_sval C dJ0_length_8abf5_1 hi (gf_blen C dJ0_length_8abf5_4 hi (gf_aload_n C dJ0_length_8abf5_5 rfl rfl ?_)))
    refine gf_callVS (ε2 := eI) (r2 := 0) C [] dJ0_length_8abf5_6 mw_J0_coder_7d493 (tw 537 (by decide +kernel) rfl) hi (ok_coder hi h) rfl rfl rfl (Nat.le_of_ble_eq_true rfl) (Nat.le_of_ble_eq_true rfl) (Nat.le_of_ble_eq_true rfl) ?_
    refine gf_ishr C dJ0_length_8abf5_9 ?_
    rw [slen_shr i hi]
    exact gf_iret C dJ0_length_8abf5_10 rfl
theorem ok_pcN {j n : Int32} (h1 : ¬ j < 0) (h2 : j < n) (h : Hp) : AC yJ3_checkIndex_8e157 cJ3_checkIndex_8e157 3 (some .int) 0 0 [.int j, .int n, .null] h (eI j) h := by
  refine AC_intro (ε := eI) (r := j) (o := if j < 0 then none else (if j < n then some (j, h) else none)) RJ3 rfl (plainFor_of_name (by decide)) [some (.int j), some (.int n), some (.null)] rfl (fun _ => rfl) (fun _ => Nat.le_of_ble_eq_true rfl) ?_ (fun K C => ?_)
  · rw [if_neg h1, if_pos h2]
  · refine gf_iload_n C dJ3_checkIndex_8e157_0 rfl rfl (gf_iflt C 9 dJ3_checkIndex_8e157_1 (by decide) (fun _ => gf_none) (fun _ => ?_))
    refine gf_iload_n C dJ3_checkIndex_8e157_4 rfl rfl (gf_iload_n C dJ3_checkIndex_8e157_5 rfl rfl (gf_icmplt C 16 dJ3_checkIndex_8e157_6 (by decide) (fun _ => ?_) (fun _ => gf_none)))
    refine gf_iload_n C dJ3_checkIndex_8e157_16 rfl rfl ?_
    exact gf_iret C dJ3_checkIndex_8e157_17 rfl
theorem ok_pcR {j n : Int32} (h1 : ¬ j < 0) (h2 : j < n) (h : Hp) : AC yJ3_checkIndex_8e157 cJ3_checkIndex_8e157 3 (some .int) 0 0 [.int j, .int n, .ref 3000] h (eI j) h := by
  refine AC_intro (ε := eI) (r := j) (o := if j < 0 then none else (if j < n then some (j, h) else none)) RJ3 rfl (plainFor_of_name (by decide)) [some (.int j), some (.int n), some (.ref 3000)] rfl (fun _ => rfl) (fun _ => Nat.le_of_ble_eq_true rfl) ?_ (fun K C => ?_)
  · rw [if_neg h1, if_pos h2]
  · refine gf_iload_n C dJ3_checkIndex_8e157_0 rfl rfl (gf_iflt C 9 dJ3_checkIndex_8e157_1 (by decide) (fun _ => gf_none) (fun _ => ?_))
    refine gf_iload_n C dJ3_checkIndex_8e157_4 rfl rfl (gf_iload_n C dJ3_checkIndex_8e157_5 rfl rfl (gf_icmplt C 16 dJ3_checkIndex_8e157_6 (by decide) (fun _ => ?_) (fun _ => gf_none)))
    refine gf_iload_n C dJ3_checkIndex_8e157_16 rfl rfl ?_
    exact gf_iret C dJ3_checkIndex_8e157_17 rfl
theorem ok_sci {j n : Int32} (h1 : ¬ j < 0) (h2 : j < n) (h : Hp) : AC yJ0_checkIndex_df160 cJ0_checkIndex_df160 2 (none) 1 22 [.int j, .int n] h (eV ()) h := by
  refine AC_intro (ε := eV) (r := ()) (o := some ((), h)) RJ0 rfl (plainFor_of_name (by decide)) [some (.int j), some (.int n)] rfl (fun _ => rfl) (fun _ => Nat.le_of_ble_eq_true rfl) ?_ (fun K C => ?_)
  · rfl
  · skip
    refine gf_iload_n C dJ0_checkIndex_df160_0 rfl rfl (gf_iload_n C dJ0_checkIndex_df160_1 rfl rfl (gf_getsq C dJ0_checkIndex_df160_2 ?_ ?_))
    · refine gf_callS1 (ε2 := eI) (r2 := j) C [.int j, .int n, .null] dJ0_checkIndex_df160_5 mw_J3_checkIndex_8e157 (tw 559 (by decide +kernel) rfl) (ok_pcN h1 h2 h) rfl rfl rfl (Nat.le_of_ble_eq_true rfl) (Nat.le_of_ble_eq_true rfl) (Nat.le_of_ble_eq_true rfl) ?_
      exact gf_pop C dJ0_checkIndex_df160_8 rfl (gf_vret C dJ0_checkIndex_df160_9 rfl)
    · refine gf_callS1 (ε2 := eI) (r2 := j) C [.int j, .int n, .ref 3000] dJ0_checkIndex_df160_5 mw_J3_checkIndex_8e157 (tw 559 (by decide +kernel) rfl) (ok_pcR h1 h2 h) rfl rfl rfl (Nat.le_of_ble_eq_true rfl) (Nat.le_of_ble_eq_true rfl) (Nat.le_of_ble_eq_true rfl) ?_
      exact gf_pop C dJ0_checkIndex_df160_8 rfl (gf_vret C dJ0_checkIndex_df160_9 rfl)
theorem schr_raw : ∀ i, i < sw_N → ∀ k, k < 10 → ((((sw_byt.getD i []).getD k 0) &&& 255).toUInt32 % 65536).toInt32 = (sw_byt.getD i []).getD k 0 ∧ narrow .char (.int ((sw_byt.getD i []).getD k 0)) = .int ((sw_byt.getD i []).getD k 0) := by decide +kernel
theorem slen_lt : ∀ i, i < sw_N → sw_len.getD i 0 < 10 := by decide +kernel
theorem in_of_inb {i : Nat} {j : Int32} (hi : i < sw_N) (hj : inb j (sw_len.getD i 0) = true) : ¬ j < 0 ∧ j < Int32.ofNat (sw_len.getD i 0) ∧ j.toNatClampNeg < 10 := by
  have h := inb_in hj
  have hl := slen_lt i hi
  obtain ⟨k, hk, rfl⟩ := vp_in_of h (by omega)
  refine ⟨nI_pos (by omega), nI_lt hk (by omega), ?_⟩
  rw [nI_clamp (by omega)]
  omega
theorem ok_l1 {i : Nat} {j : Int32} (hi : i < sw_N) (hj : inb j (sw_len.getD i 0) = true) (h : Hp) : AC yJ1_charAt_3b067 cJ1_charAt_3b067 2 (some .char) 2 43 [.ref (2000 + i), .int j] h (eI (schr i j)) h := by
  refine AC_intro (ε := eI) (r := (schr i j)) (o := some (schr i j, h)) RJ1 rfl (plainFor_of_name (by decide)) [some (.ref (2000 + i)), some (.int j)] rfl (fun _ => rfl) (fun _ => Nat.le_of_ble_eq_true rfl) ?_ (fun K C => ?_)
  · rfl
  · obtain ⟨g1, g2, g3⟩ := in_of_inb hi hj
    obtain ⟨e1, e2⟩ := schr_raw i hi _ g3
    refine gf_iload_n C dJ1_charAt_3b067_0 rfl rfl (gf_aload_n C dJ1_charAt_3b067_1 rfl rfl (gf_blen C dJ1_charAt_3b067_2 hi ?_))
    refine gf_callS1 (ε2 := eV) (r2 := ()) C [.int j, .int (Int32.ofNat (sw_len.getD i 0))] dJ1_charAt_3b067_3 mw_J0_checkIndex_df160 (tw 554 (by decide +kernel) rfl) (ok_sci g1 g2 h) rfl rfl rfl (Nat.le_of_ble_eq_true rfl) (Nat.le_of_ble_eq_true rfl) (Nat.le_of_ble_eq_true rfl) ?_
    refine gf_aload_n C dJ1_charAt_3b067_6 rfl rfl (gf_iload_n C dJ1_charAt_3b067_7 rfl rfl (gf_bbald C dJ1_charAt_3b067_8 hi (inb_in hj) (gf_sipush C (v := 255) dJ1_charAt_3b067_9 (by decide) (gf_iand C dJ1_charAt_3b067_12 (gf_i2c C dJ1_charAt_3b067_13 ?_)))))
    rw [e1]
    exact gf_zret C dJ1_charAt_3b067_14 e2 rfl
theorem ok_schr {i : Nat} {j : Int32} (hi : i < sw_N) (hj : inb j (sw_len.getD i 0) = true) (h : Hp) : AC yJ0_charAt_5068e cJ0_charAt_5068e 2 (some .char) 3 64 [.ref (1000 + i), .int j] h (eI (schr i j)) h := by
  refine AC_intro (ε := eI) (r := (schr i j)) (o := if (1 : Int32) = 0 then none else some (schr i j, h)) RJ0 rfl (plainFor_of_name (by decide)) [some (.ref (1000 + i)), some (.int j)] rfl (fun _ => rfl) (fun _ => Nat.le_of_ble_eq_true rfl) ?_ (fun K C => ?_)
  · rw [if_neg (by decide)]
  · obtain ⟨g1, g2, g3⟩ := in_of_inb hi hj
    obtain ⟨e1, e2⟩ := schr_raw i hi _ g3
    refine gf_aload_n C dJ0_charAt_5068e_0 rfl rfl ?_
    refine gf_callVS (ε2 := eI) (r2 := 1) C [] dJ0_charAt_5068e_1 mw_J0_isLatin1_aae02 (tw 547 (by decide +kernel) rfl) hi (ok_isLatin1 hi h) rfl rfl rfl (Nat.le_of_ble_eq_true rfl) (Nat.le_of_ble_eq_true rfl) (Nat.le_of_ble_eq_true rfl) ?_
    refine gf_ifeq C 16 dJ0_charAt_5068e_4 (by decide) (fun _ => gf_none) (fun _ => ?_)
    refine gf_aload_n C dJ0_charAt_5068e_7 rfl rfl (gf_sval C dJ0_charAt_5068e_8 hi (gf_iload_n C dJ0_charAt_5068e_11 rfl rfl ?_))
    refine gf_callS1 (ε2 := eI) (r2 := schr i j) C [.ref (2000 + i), .int j] dJ0_charAt_5068e_12 mw_J1_charAt_3b067 (tw 551 (by decide +kernel) rfl) (ok_l1 hi hj h) rfl rfl rfl (Nat.le_of_ble_eq_true rfl) (Nat.le_of_ble_eq_true rfl) (Nat.le_of_ble_eq_true rfl) ?_
    exact gf_zret C dJ0_charAt_5068e_15 e2 rfl
theorem gf_strlen (C : CX K own cc nL ret fr lo) {i ix : Nat} (d : decode cc pc = .ok (.invokevirtual ix, 3)) (hi : i < sw_N) (wl : Cond.methodLink own ix yJ0_length_8abf5 ∈ lw_gw) (hln : ls.length = nL) (hfr : 2 ≤ fr) (hlo : 40 ≤ lo) (hst8 : (st.map fun v => v.category).sum ≤ 8) (k : GF K ε h (pc + 3) ls (.int (slen i) :: st) o) : GF K ε h pc ls (.ref (1000 + i) :: st) o :=
  gf_callVS (ε2 := eI) (r2 := slen i) C [] d mw_J0_length_8abf5 wl hi (ok_slen hi h) rfl hln rfl hfr hlo hst8 k
theorem gf_strchr (C : CX K own cc nL ret fr lo) {i ix : Nat} {j : Int32} (d : decode cc pc = .ok (.invokevirtual ix, 3)) (hi : i < sw_N) (wl : Cond.methodLink own ix yJ0_charAt_5068e ∈ lw_gw) (hln : ls.length = nL) (hfr : 4 ≤ fr) (hlo : 85 ≤ lo) (hst8 : (st.map fun v => v.category).sum ≤ 8) (k : GF K ε h (pc + 3) ls (.int (schr i j) :: st) o) : GF K ε h pc ls (.int j :: .ref (1000 + i) :: st) (gd (inb j (sw_len.getD i 0)) o) := by
  cases c : inb j (sw_len.getD i 0) with
  | false => exact gf_none
  | true => exact gf_callVS (ε2 := eI) (r2 := schr i j) C [.int j] d mw_J0_charAt_5068e wl hi (ok_schr hi c h) rfl hln rfl hfr hlo hst8 k
end
