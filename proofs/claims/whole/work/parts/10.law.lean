-- ===== the law over the made world =====
def StrOkA (A : Nat → Prop) (E : JE) (U : State) : Prop := vk_S sw_N sw_len sw_byt (jK E) (jV E) A U U.heap ∧ (∀ i, i < sw_N → vk_R RX6 (sw_idx.getD i 0) (sw_txt.getD i "") (jK E i) U) ∧ va_Z "java/lang/String" "COMPACT_STRINGS" "Z" (.int 1) A U U.heap ∧ (∀ i, i < sw_N → jad E (1000 + i) = jK E i) ∧ (∀ q ∈ lw_nw, va_Nw (.methodLinkNest q.1 q.2.1 q.2.2.1 q.2.2.2) U) ∧ (∀ i, i < sw_N → jad E (2000 + i) = jV E i) ∧ (va_Z "jdk/internal/util/Preconditions" "SIOOBE_FORMATTER" "Ljava/util/function/BiFunction;" .null A U U.heap ∨ va_Z "jdk/internal/util/Preconditions" "SIOOBE_FORMATTER" "Ljava/util/function/BiFunction;" (.ref (jad E 3000)) A U U.heap)
theorem StrOkA.narrow {A : Nat → Prop} {E : JE} {U : State} (hA : ∀ q, Ast E q → A q) (h : StrOkA A E U) : StrOk E U := by
  obtain ⟨h1, h2, h3, h4, h5, h6, h7⟩ := h
  exact ⟨h1.narrow hA, h2, h3.narrow hA, h4, h5, h6, h7.elim (fun z => Or.inl (z.narrow hA)) (fun z => Or.inr (z.narrow hA))⟩
theorem StrOkA.later {A : Nat → Prop} {E : JE} {s U : State} {H : Heap} {locs : List Loc} (h : StrOkA A E s) (hS : va_S A s.heap H locs) (hU : U.heap = H) (hW : s.WarmedH U.vm) : StrOkA A E U := by
  obtain ⟨h1, h2, h3, h4, h5, h6, h7⟩ := h
  refine ⟨?_, fun i hi => (h2 i hi).warm hW, ?_, h4, fun q hq => va_Nw.warmM hW (h5 q hq), h6, ?_⟩
  · rw [hU]
    exact (h1.kept hS.2.1).moved hW.alike
  · rw [hU]
    exact (h3.kept hS.2.1).moved hW.alike
  · rw [hU]
    rcases h7 with h7 | h7
    · exact Or.inl ((h7.kept hS.2.1).moved hW.alike)
    · exact Or.inr ((h7.kept hS.2.1).moved hW.alike)
/-- what the law's body knows beside the world -/
def LX (K : CB) (E : JE) (b L : Nat) (xs : Nat → Int32) : Prop := bD K = jD E ∧ apart E ∧ (∀ q, Ast E q → bA K q) ∧ StrOkA (bA K) E (bS K) ∧ va_X b L xs (bS K) (bS K).heap ∧ b < (bS K).heap.size ∧ ¬ bA K b
section
variable {K : CB} {own : String} {cc : ByteArray} {nL fr mc ms lo nc ns pc : Nat} {ret : Option FieldType} {ws : va_W} {tys : List (ClassId × FieldType)} {ls ls2 : List (Option Value)} {st : List Value} {E : JE} {b L : Nat} {xs : Nat → Int32}
theorem gw_sld (Y : CY K own cc nL ret fr mc ms lo) (X : LX K E b L xs) {i : Int32} (d : decode cc pc = .ok (.iaload, 1)) (hin : vp_in i L) (k : GW K ws tys nc ns (pc + 1) ls (.int (xs i.toNatClampNeg) :: st)) : GW K ws tys nc ns pc ls (.int i :: .ref b :: st) := by
  intro H locs arr hP hK hD hS hv
  exact va_sld Y.1 Y.2.1 X.2.2.2.2.1 X.2.2.2.2.2.1 X.2.2.2.2.2.2 hS hin d (k H locs arr hP hK hD hS hv)
theorem gw_slen (Y : CY K own cc nL ret fr mc ms lo) (X : LX K E b L xs) (d : decode cc pc = .ok (.arraylength, 1)) (k : GW K ws tys nc ns (pc + 1) ls (.int (Int32.ofNat L) :: st)) : GW K ws tys nc ns pc ls (.ref b :: st) := by
  intro H locs arr hP hK hD hS hv
  exact va_slen Y.1 Y.2.1 X.2.2.2.2.1 X.2.2.2.2.2.1 X.2.2.2.2.2.2 hS d (k H locs arr hP hK hD hS hv)
theorem gw_swC (Y : CY K own cc nL ret fr mc ms lo) {dflt lo2 hi : Int} {offs : Array Int} {len : Nat} {x : Int32} {off : Int} (v : Int32) (tgt : Nat) (d : decode cc pc = .ok (.tableswitch dflt lo2 hi offs, len)) (c1 : ¬ v.toInt < lo2) (c2 : ¬ hi < v.toInt) (ho : offs[(v.toInt - lo2).toNat]? = some off) (ht : (pc : Int) + off = (tgt : Int)) (k1 : x = v → GW K ws tys nc ns tgt ls st) (k2 : ¬ x = v → GW K ws tys nc ns pc ls (.int x :: st)) : GW K ws tys nc ns pc ls (.int x :: st) := by
  by_cases c : x = v
  · intro H locs arr hP hK hD hS hv
    have k3 := k1 c H locs arr hP hK hD hS hv
    subst c
    exact lv_tableIn Y.1 Y.2.1 d c1 c2 ho ht k3
  · exact k2 c
theorem gw_swD (Y : CY K own cc nL ret fr mc ms lo) {dflt lo2 hi : Int} {offs : Array Int} {len : Nat} {x : Int32} (tgt : Nat) (d : decode cc pc = .ok (.tableswitch dflt lo2 hi offs, len)) (c : x.toInt < lo2 ∨ hi < x.toInt) (ht : (pc : Int) + dflt = (tgt : Int)) (k : GW K ws tys nc ns tgt ls st) : GW K ws tys nc ns pc ls (.int x :: st) := fun H locs arr hP hK hD hS hv => lv_tableOut Y.1 Y.2.1 d c ht (k H locs arr hP hK hD hS hv)
theorem gw_st (Y : CY K own cc nL ret fr mc ms lo) (X : LX K E b L xs) {y : MethodName} {bts : ByteArray} {n : Nat} {rt : Option FieldType} {np ci fr2 lo2 ix a : Nat} (As : List Value) {stk : List Value} {rv : Option Value} {h h2 : Hp} (d : decode cc pc = .ok (.invokevirtual ix, 3)) (mv : MV y bts n rt np ci) (wl : Cond.methodLink own ix y ∈ lw_gw) (hs : shp a = (0, ci)) (ok : AC y bts n rt fr2 lo2 (.ref a :: As) h rv h2) (hAs : As.map (cv (jad E)) = As)
    (hst : stk = As.reverse ++ .ref (jad E a) :: st) (hln : ls.length = nL) (hn : As.length = np) (hfr : fr2 + 1 ≤ fr) (hlo : 8 + (n + 11) + lo2 ≤ lo) (hst8 : (st.map fun v => v.category).sum ≤ 8) (hmc : nc ≤ mc) (hms : ns ≤ ms) (k : GW K (wsl E h2) (tysl E) nc ns (pc + 3) ls ((rv.map (cv (jad E))).toList ++ st)) : GW K (wsl E h) (tysl E) nc ns pc ls stk := by
  subst hst
  intro H locs arr hP hK hD hS hv
  obtain ⟨mi, wi, wsel, T, N, hc⟩ := mv
  obtain ⟨hDE, hap, hAst, hstr, -, -, -⟩ := X
  have hts := Y.2.2.2.2.1
  have hRm : K.2.2.2.1 = { frames := fr, cells := mc, slots := ms, locals := lo } := Y.2.2.2.2.2.2.2.2.2
  have hl := shp_lt hs (by omega)
  have hP' := hP
  have hK' := hK
  rw [hDE] at hP' hK'
  have hwsm : ∀ w ∈ wsm y bts n rt, ∀ (a' : Array Value) (U : State), (bS K).WarmedH U.vm → w.before a' U = true := by
    intro w hw a' U hW
    have h1 : w ∈ lw_gw := by
      rcases List.mem_cons.mp hw with h | h
      · rw [h]; exact mi.1
      · exact h
    exact word_at hW (good_of_word (gw_good h1)) (hts w h1)
  have hr := va_runV (R := K.2.2.2.1) (C := y.cls) (own := own) (As := As) (n := np) (maxL := n) (bytes := bts) (ret := rt) (rest := st) (g := F0 (bM K) pc arr (As.reverse ++ .ref (jad E a) :: st)) (e := K.2.2.1) (below := K.2.2.2.2.2.2.2.1) (meth := K.2.2.2.2.2.2.2.2.1) (locs := locs) (cells := nc) (slots := ns) (H := H) ⟨Y.1, Y.2.1, Y.2.2.1, Y.2.2.2.1, hts⟩ (ok K.2.1 E)
    ⟨⟨rfl, rfl, by rw [hRm]; exact hfr, by rw [hRm]; exact hlo, hwsm, List.mem_cons_self, hts _ mi.1, hts _ mi.2.1, mi.2.2.1, mi.np, hts _ wl⟩, hts _ wi, hts _ wsel⟩
    ⟨Wd.blind _ _ _, va_recv hK' hP' hc (by rw [wsl_get _ _ hl, cE_obj _ _ hs]), fun U hU hW => ⟨by rw [List.map_cons, hAs]; rfl, by rw [hU]; exact hP', va_K.moved hW.alike hK', hap, (hstr.later hS hU hW).narrow hAst⟩⟩ rfl hn (hv.1.trans hln) rfl (lv_room hst8) d ⟨by rw [hRm]; exact hmc, by rw [hRm]; exact hms⟩
  intro T0 hT0 X0
  obtain ⟨v, st₀, t, T', Lc, h0, X', hL, e1, e2, ⟨hvv, hp, hz, hk⟩, stp⟩ := hr T0 hT0 X0
  cases hvv
  rw [h0] at hz hk
  obtain ⟨t2, a1, b1⟩ := k T'.heap (locs ++ Lc) arr (by rw [hDE, e1]; exact hp) hK ((wsl_D h2 hap).weaken (fun _ _ _ z => hAst _ z)) ⟨Nat.le_trans hS.1 (by rw [e1]; exact hz), fun q h1 h2 => by rw [e1, hk q (Nat.lt_of_lt_of_le h1 hS.1) (fun z => h2 (hAst q z))]; exact hS.2.1 q h1 h2, fun q hq => by
      rcases List.mem_append.mp hq with h | h
      · exact hS.2.2 q h
      · exact hAst _ (hL q h)⟩ hv T' rfl X'
  exact ⟨t2, stp t2 a1, b1⟩
end
theorem lg_cmp_self (x : Int64) : lg_cmp x x = 0 := by simp [lg_cmp]
/-! THE CLAIM OUT OF ONE WALK OF THE LAW'S BODY. Your part is whole_start (and what it stands on); all else here is the same for every law, but numbers. -/
def R_law : String := "AlbumHoursLaw"
def lw_P (b : Addr) (xs : List Int32) (args : Array Value) (s : State) : Prop := args = #[.ref b] ∧ s.IntsAt b xs ∧ xs.length ≤ 2560 ∧ (Jvm.Cond.and given_1 narrow_1).before args s = true
def lw_Q (_ : Array Value) (s : State) (o : Outcome) (t : State) : Prop := o = .returned (some (.int 1)) ∧ Framed s o t [] 600000 7302250
def lw_Z (below : List Frame) (a : Array Value) (s : State) : State → Prop := fun t => ∃ o, t.status = .running ∧ Ended t below o ∧ lw_Q a s o t
/-- the law's own end, with 1 on the stack, nothing written that was there before, its room as the claim has it -/
theorem lw_ret {p : Program} {l : Launch} {e : Env} {s : State} {m : MethodId} {below : List Frame} {meth : Method} {c : Code} {b : Nat} (hx : p.tables.exec = Jvm.exec) (hb : c.code = code) (hr : meth.sig.returnType = ret) (hlocks : meth.locks = false) {pc : Nat} {H : Heap} {ls : Array Slot} (hdg : decode code pc = .ok (.ireturn, 1)) : W p l e room_1 s m #[Value.ref b] below meth c H [] 600000 7302250 (lw_Z below #[Value.ref b] s) (F0 m pc ls [.int 1]) := by
  intro T hT X
  obtain ⟨fs, hret, hrun, hended, hW, hframe⟩ := X.leave (v := some (.int 1)) (hlocks := hlocks) (fun h => by rw [hr] at h; cases h)
  have hmeth' : T.vm.method? m = some meth := X.method'
  refine ⟨T.setFrames fs, ?_, .returned (some (.int 1)), hrun, hended, rfl, ⟨_, rfl⟩, hW, hframe⟩
  jvm_step X.here [X.here.top, hx, hb, hdg, hmeth', hr, ret, narrow_b1]
  (try refine ⟨rfl, ?_⟩); (try refine ⟨rfl, ?_⟩)
  first | (intro acts; rw [hret _ acts rfl rfl rfl]) | rw [hret _ _ rfl rfl rfl]
  exact Steps.refl _
/-- what holds at the law's entry: the machine, the code, the tables' words (any of lw_tbl by 'hts w (by decide +kernel)'), the script of L ints xs at the cell b, what the Statement gives of the start (any of its parts by flat_of_before) -/
def lw_At (p : Program) (s : State) (m : MethodId) (meth : Method) (c : Code) (b L : Nat) (xs : Nat → Int32) : Prop :=
  p.tables.exec = Jvm.exec ∧ c.code = code ∧ meth.sig.returnType = ret ∧ c.maxLocals = 4 ∧ s.vm.findClass R_law = some m.cls ∧ (∀ w ∈ lw_tbl, w.before #[Value.ref b] s = true) ∧ va_X b L xs s s.heap ∧ b < s.heap.size ∧ meth.locks = false ∧ (Jvm.Cond.and given_1 narrow_1).before #[Value.ref b] s = true
theorem mw_X11_write : MV yX11_write cX11_write 2 (some .int) 1 11 := ⟨⟨tw 479 (by decide +kernel) rfl, ni_RX11, nh_RX11, ds_5⟩, tw 477 (by decide +kernel) rfl, tw 478 (by decide +kernel) rfl, TX11, 9, rfl⟩
theorem mlL_13 : Cond.methodLink R_law 13 yX11_write ∈ lw_gw := tw 476 (by decide +kernel) rfl
theorem mw_X12_write : MV yX12_write cX12_write 2 (some .int) 1 12 := ⟨⟨tw 1353 (by decide +kernel) rfl, ni_RX12, nh_RX12, ds_5⟩, tw 1351 (by decide +kernel) rfl, tw 1352 (by decide +kernel) rfl, TX12, 40, rfl⟩
theorem mlL_17 : Cond.methodLink R_law 17 yX12_write ∈ lw_gw := tw 1350 (by decide +kernel) rfl
theorem mw_X11_erase : MV yX11_erase cX11_erase 1 (some .int) 0 11 := ⟨⟨tw 487 (by decide +kernel) rfl, ni_RX11, nh_RX11, ds_8⟩, tw 485 (by decide +kernel) rfl, tw 486 (by decide +kernel) rfl, TX11, 9, rfl⟩
theorem mlL_18 : Cond.methodLink R_law 18 yX11_erase ∈ lw_gw := tw 484 (by decide +kernel) rfl
theorem mw_X12_erase : MV yX12_erase cX12_erase 2 (some .int) 0 12 := ⟨⟨tw 1360 (by decide +kernel) rfl, ni_RX12, nh_RX12, ds_8⟩, tw 1358 (by decide +kernel) rfl, tw 1359 (by decide +kernel) rfl, TX12, 40, rfl⟩
theorem mlL_22 : Cond.methodLink R_law 22 yX12_erase ∈ lw_gw := tw 1357 (by decide +kernel) rfl
theorem mw_X11_fault : MV yX11_fault cX11_fault 1 (some .int) 0 11 := ⟨⟨tw 495 (by decide +kernel) rfl, ni_RX11, nh_RX11, ds_8⟩, tw 493 (by decide +kernel) rfl, tw 494 (by decide +kernel) rfl, TX11, 9, rfl⟩
theorem mlL_23 : Cond.methodLink R_law 23 yX11_fault ∈ lw_gw := tw 492 (by decide +kernel) rfl
theorem mw_X12_fault : MV yX12_fault cX12_fault 1 (some .int) 0 12 := ⟨⟨tw 1364 (by decide +kernel) rfl, ni_RX12, nh_RX12, ds_8⟩, tw 1362 (by decide +kernel) rfl, tw 1363 (by decide +kernel) rfl, TX12, 40, rfl⟩
theorem mlL_26 : Cond.methodLink R_law 26 yX12_fault ∈ lw_gw := tw 1361 (by decide +kernel) rfl
theorem mw_X11_album : MV yX11_album cX11_album 1 (some .int) 0 11 := ⟨⟨tw 671 (by decide +kernel) rfl, ni_RX11, nh_RX11, ds_8⟩, tw 669 (by decide +kernel) rfl, tw 670 (by decide +kernel) rfl, TX11, 9, rfl⟩
theorem mlL_27 : Cond.methodLink R_law 27 yX11_album ∈ lw_gw := tw 668 (by decide +kernel) rfl
theorem mw_X12_album : MV yX12_album cX12_album 2 (some .int) 0 12 := ⟨⟨tw 1430 (by decide +kernel) rfl, ni_RX12, nh_RX12, ds_8⟩, tw 1428 (by decide +kernel) rfl, tw 1429 (by decide +kernel) rfl, TX12, 40, rfl⟩
theorem mlL_30 : Cond.methodLink R_law 30 yX12_album ∈ lw_gw := tw 1427 (by decide +kernel) rfl
theorem mw_X11_find : MV yX11_find cX11_find 1 (some .int) 0 11 := ⟨⟨tw 689 (by decide +kernel) rfl, ni_RX11, nh_RX11, ds_8⟩, tw 687 (by decide +kernel) rfl, tw 688 (by decide +kernel) rfl, TX11, 9, rfl⟩
theorem mlL_31 : Cond.methodLink R_law 31 yX11_find ∈ lw_gw := tw 686 (by decide +kernel) rfl
theorem mw_X12_find : MV yX12_find cX12_find 5 (some .int) 0 12 := ⟨⟨tw 1446 (by decide +kernel) rfl, ni_RX12, nh_RX12, ds_8⟩, tw 1444 (by decide +kernel) rfl, tw 1445 (by decide +kernel) rfl, TX12, 40, rfl⟩
theorem mlL_34 : Cond.methodLink R_law 34 yX12_find ∈ lw_gw := tw 1443 (by decide +kernel) rfl
theorem mw_X11_picture : MV yX11_picture cX11_picture 3 (some .int) 2 11 := ⟨⟨tw 701 (by decide +kernel) rfl, ni_RX11, nh_RX11, ds_7⟩, tw 699 (by decide +kernel) rfl, tw 700 (by decide +kernel) rfl, TX11, 9, rfl⟩
theorem mlL_35 : Cond.methodLink R_law 35 yX11_picture ∈ lw_gw := tw 698 (by decide +kernel) rfl
theorem mw_X12_picture : MV yX12_picture cX12_picture 3 (some .int) 2 12 := ⟨⟨tw 1450 (by decide +kernel) rfl, ni_RX12, nh_RX12, ds_7⟩, tw 1448 (by decide +kernel) rfl, tw 1449 (by decide +kernel) rfl, TX12, 40, rfl⟩
theorem mlL_39 : Cond.methodLink R_law 39 yX12_picture ∈ lw_gw := tw 1447 (by decide +kernel) rfl
theorem mw_X11_thing : MV yX11_thing cX11_thing 3 (some .int) 2 11 := ⟨⟨tw 831 (by decide +kernel) rfl, ni_RX11, nh_RX11, ds_7⟩, tw 829 (by decide +kernel) rfl, tw 830 (by decide +kernel) rfl, TX11, 9, rfl⟩
theorem mlL_40 : Cond.methodLink R_law 40 yX11_thing ∈ lw_gw := tw 828 (by decide +kernel) rfl
theorem mw_X12_thing : MV yX12_thing cX12_thing 5 (some .int) 2 12 := ⟨⟨tw 1516 (by decide +kernel) rfl, ni_RX12, nh_RX12, ds_7⟩, tw 1514 (by decide +kernel) rfl, tw 1515 (by decide +kernel) rfl, TX12, 40, rfl⟩
theorem mlL_43 : Cond.methodLink R_law 43 yX12_thing ∈ lw_gw := tw 1513 (by decide +kernel) rfl
theorem mw_X11_piece : MV yX11_piece cX11_piece 4 (some .int) 3 11 := ⟨⟨tw 842 (by decide +kernel) rfl, ni_RX11, nh_RX11, ds_53⟩, tw 840 (by decide +kernel) rfl, tw 841 (by decide +kernel) rfl, TX11, 9, rfl⟩
theorem mlL_44 : Cond.methodLink R_law 44 yX11_piece ∈ lw_gw := tw 839 (by decide +kernel) rfl
theorem mw_X12_piece : MV yX12_piece cX12_piece 5 (some .int) 3 12 := ⟨⟨tw 1520 (by decide +kernel) rfl, ni_RX12, nh_RX12, ds_53⟩, tw 1518 (by decide +kernel) rfl, tw 1519 (by decide +kernel) rfl, TX12, 40, rfl⟩
theorem mlL_48 : Cond.methodLink R_law 48 yX12_piece ∈ lw_gw := tw 1517 (by decide +kernel) rfl
theorem mw_X11_told : MV yX11_told cX11_told 3 (some .int) 2 11 := ⟨⟨tw 853 (by decide +kernel) rfl, ni_RX11, nh_RX11, ds_7⟩, tw 851 (by decide +kernel) rfl, tw 852 (by decide +kernel) rfl, TX11, 9, rfl⟩
theorem mlL_49 : Cond.methodLink R_law 49 yX11_told ∈ lw_gw := tw 850 (by decide +kernel) rfl
theorem mw_X12_told : MV yX12_told cX12_told 3 (some .int) 2 12 := ⟨⟨tw 1528 (by decide +kernel) rfl, ni_RX12, nh_RX12, ds_7⟩, tw 1526 (by decide +kernel) rfl, tw 1527 (by decide +kernel) rfl, TX12, 40, rfl⟩
theorem mlL_52 : Cond.methodLink R_law 52 yX12_told ∈ lw_gw := tw 1525 (by decide +kernel) rfl
theorem mw_X11_sun : MV yX11_sun cX11_sun 3 (some .int) 2 11 := ⟨⟨tw 869 (by decide +kernel) rfl, ni_RX11, nh_RX11, ds_7⟩, tw 867 (by decide +kernel) rfl, tw 868 (by decide +kernel) rfl, TX11, 9, rfl⟩
theorem mlL_53 : Cond.methodLink R_law 53 yX11_sun ∈ lw_gw := tw 866 (by decide +kernel) rfl
theorem mw_X12_sun : MV yX12_sun cX12_sun 3 (some .int) 2 12 := ⟨⟨tw 1532 (by decide +kernel) rfl, ni_RX12, nh_RX12, ds_7⟩, tw 1530 (by decide +kernel) rfl, tw 1531 (by decide +kernel) rfl, TX12, 40, rfl⟩
theorem mlL_56 : Cond.methodLink R_law 56 yX12_sun ∈ lw_gw := tw 1529 (by decide +kernel) rfl
theorem mw_X11_point : MV yX11_point cX11_point 4 (some .int) 3 11 := ⟨⟨tw 875 (by decide +kernel) rfl, ni_RX11, nh_RX11, ds_53⟩, tw 873 (by decide +kernel) rfl, tw 874 (by decide +kernel) rfl, TX11, 9, rfl⟩
theorem mlL_57 : Cond.methodLink R_law 57 yX11_point ∈ lw_gw := tw 872 (by decide +kernel) rfl
theorem mw_X12_point : MV yX12_point cX12_point 4 (some .int) 3 12 := ⟨⟨tw 1536 (by decide +kernel) rfl, ni_RX12, nh_RX12, ds_53⟩, tw 1534 (by decide +kernel) rfl, tw 1535 (by decide +kernel) rfl, TX12, 40, rfl⟩
theorem mlL_60 : Cond.methodLink R_law 60 yX12_point ∈ lw_gw := tw 1533 (by decide +kernel) rfl
theorem mw_X11_length : MV yX11_length cX11_length 4 (some .int) 3 11 := ⟨⟨tw 903 (by decide +kernel) rfl, ni_RX11, nh_RX11, ds_53⟩, tw 901 (by decide +kernel) rfl, tw 902 (by decide +kernel) rfl, TX11, 9, rfl⟩
theorem mlL_61 : Cond.methodLink R_law 61 yX11_length ∈ lw_gw := tw 900 (by decide +kernel) rfl
theorem mw_X12_length : MV yX12_length cX12_length 4 (some .int) 3 12 := ⟨⟨tw 1548 (by decide +kernel) rfl, ni_RX12, nh_RX12, ds_53⟩, tw 1546 (by decide +kernel) rfl, tw 1547 (by decide +kernel) rfl, TX12, 40, rfl⟩
theorem mlL_64 : Cond.methodLink R_law 64 yX12_length ∈ lw_gw := tw 1545 (by decide +kernel) rfl
theorem mw_X11_see : MV yX11_see cX11_see 4 (some .int) 3 11 := ⟨⟨tw 907 (by decide +kernel) rfl, ni_RX11, nh_RX11, ds_53⟩, tw 905 (by decide +kernel) rfl, tw 906 (by decide +kernel) rfl, TX11, 9, rfl⟩
theorem mlL_65 : Cond.methodLink R_law 65 yX11_see ∈ lw_gw := tw 904 (by decide +kernel) rfl
theorem mw_X12_see : MV yX12_see cX12_see 4 (some .int) 3 12 := ⟨⟨tw 1552 (by decide +kernel) rfl, ni_RX12, nh_RX12, ds_53⟩, tw 1550 (by decide +kernel) rfl, tw 1551 (by decide +kernel) rfl, TX12, 40, rfl⟩
theorem mlL_68 : Cond.methodLink R_law 68 yX12_see ∈ lw_gw := tw 1549 (by decide +kernel) rfl
theorem mw_X11_strike : MV yX11_strike cX11_strike 3 (some .int) 2 11 := ⟨⟨tw 911 (by decide +kernel) rfl, ni_RX11, nh_RX11, ds_7⟩, tw 909 (by decide +kernel) rfl, tw 910 (by decide +kernel) rfl, TX11, 9, rfl⟩
theorem mlL_69 : Cond.methodLink R_law 69 yX11_strike ∈ lw_gw := tw 908 (by decide +kernel) rfl
theorem mw_X12_strike : MV yX12_strike cX12_strike 4 (some .int) 2 12 := ⟨⟨tw 1560 (by decide +kernel) rfl, ni_RX12, nh_RX12, ds_7⟩, tw 1558 (by decide +kernel) rfl, tw 1559 (by decide +kernel) rfl, TX12, 40, rfl⟩
theorem mlL_72 : Cond.methodLink R_law 72 yX12_strike ∈ lw_gw := tw 1557 (by decide +kernel) rfl
theorem mw_X11_undo : MV yX11_undo cX11_undo 1 (some .int) 0 11 := ⟨⟨tw 919 (by decide +kernel) rfl, ni_RX11, nh_RX11, ds_8⟩, tw 917 (by decide +kernel) rfl, tw 918 (by decide +kernel) rfl, TX11, 9, rfl⟩
theorem mlL_73 : Cond.methodLink R_law 73 yX11_undo ∈ lw_gw := tw 916 (by decide +kernel) rfl
theorem mw_X12_undo : MV yX12_undo cX12_undo 1 (some .int) 0 12 := ⟨⟨tw 1568 (by decide +kernel) rfl, ni_RX12, nh_RX12, ds_8⟩, tw 1566 (by decide +kernel) rfl, tw 1567 (by decide +kernel) rfl, TX12, 40, rfl⟩
theorem mlL_76 : Cond.methodLink R_law 76 yX12_undo ∈ lw_gw := tw 1565 (by decide +kernel) rfl
theorem mw_X11_keep : MV yX11_keep cX11_keep 2 (some .int) 1 11 := ⟨⟨tw 927 (by decide +kernel) rfl, ni_RX11, nh_RX11, ds_5⟩, tw 925 (by decide +kernel) rfl, tw 926 (by decide +kernel) rfl, TX11, 9, rfl⟩
theorem mlL_77 : Cond.methodLink R_law 77 yX11_keep ∈ lw_gw := tw 924 (by decide +kernel) rfl
theorem mw_X12_keep : MV yX12_keep cX12_keep 2 (some .int) 1 12 := ⟨⟨tw 1572 (by decide +kernel) rfl, ni_RX12, nh_RX12, ds_5⟩, tw 1570 (by decide +kernel) rfl, tw 1571 (by decide +kernel) rfl, TX12, 40, rfl⟩
theorem mlL_80 : Cond.methodLink R_law 80 yX12_keep ∈ lw_gw := tw 1569 (by decide +kernel) rfl
theorem mw_X11_back : MV yX11_back cX11_back 2 (some .int) 1 11 := ⟨⟨tw 935 (by decide +kernel) rfl, ni_RX11, nh_RX11, ds_5⟩, tw 933 (by decide +kernel) rfl, tw 934 (by decide +kernel) rfl, TX11, 9, rfl⟩
theorem mlL_81 : Cond.methodLink R_law 81 yX11_back ∈ lw_gw := tw 932 (by decide +kernel) rfl
theorem mw_X12_back : MV yX12_back cX12_back 2 (some .int) 1 12 := ⟨⟨tw 1576 (by decide +kernel) rfl, ni_RX12, nh_RX12, ds_5⟩, tw 1574 (by decide +kernel) rfl, tw 1575 (by decide +kernel) rfl, TX12, 40, rfl⟩
theorem mlL_84 : Cond.methodLink R_law 84 yX12_back ∈ lw_gw := tw 1573 (by decide +kernel) rfl
theorem mw_X11_before : MV yX11_before cX11_before 3 (some .int) 2 11 := ⟨⟨tw 944 (by decide +kernel) rfl, ni_RX11, nh_RX11, ds_7⟩, tw 942 (by decide +kernel) rfl, tw 943 (by decide +kernel) rfl, TX11, 9, rfl⟩
theorem mlL_85 : Cond.methodLink R_law 85 yX11_before ∈ lw_gw := tw 941 (by decide +kernel) rfl
theorem mw_X12_before : MV yX12_before cX12_before 3 (some .int) 2 12 := ⟨⟨tw 1580 (by decide +kernel) rfl, ni_RX12, nh_RX12, ds_7⟩, tw 1578 (by decide +kernel) rfl, tw 1579 (by decide +kernel) rfl, TX12, 40, rfl⟩
theorem mlL_88 : Cond.methodLink R_law 88 yX12_before ∈ lw_gw := tw 1577 (by decide +kernel) rfl
theorem mw_X11_orders : MV yX11_orders cX11_orders 1 (some .int) 0 11 := ⟨⟨tw 953 (by decide +kernel) rfl, ni_RX11, nh_RX11, ds_8⟩, tw 951 (by decide +kernel) rfl, tw 952 (by decide +kernel) rfl, TX11, 9, rfl⟩
theorem mlL_89 : Cond.methodLink R_law 89 yX11_orders ∈ lw_gw := tw 950 (by decide +kernel) rfl
theorem mw_X12_orders : MV yX12_orders cX12_orders 1 (some .int) 0 12 := ⟨⟨tw 1588 (by decide +kernel) rfl, ni_RX12, nh_RX12, ds_8⟩, tw 1586 (by decide +kernel) rfl, tw 1587 (by decide +kernel) rfl, TX12, 40, rfl⟩
theorem mlL_92 : Cond.methodLink R_law 92 yX12_orders ∈ lw_gw := tw 1585 (by decide +kernel) rfl
theorem mw_X11_order : MV yX11_order cX11_order 3 (some .int) 2 11 := ⟨⟨tw 1003 (by decide +kernel) rfl, ni_RX11, nh_RX11, ds_7⟩, tw 1001 (by decide +kernel) rfl, tw 1002 (by decide +kernel) rfl, TX11, 9, rfl⟩
theorem mlL_93 : Cond.methodLink R_law 93 yX11_order ∈ lw_gw := tw 1000 (by decide +kernel) rfl
theorem mw_X12_order : MV yX12_order cX12_order 3 (some .int) 2 12 := ⟨⟨tw 1628 (by decide +kernel) rfl, ni_RX12, nh_RX12, ds_7⟩, tw 1626 (by decide +kernel) rfl, tw 1627 (by decide +kernel) rfl, TX12, 40, rfl⟩
theorem mlL_96 : Cond.methodLink R_law 96 yX12_order ∈ lw_gw := tw 1625 (by decide +kernel) rfl
theorem mw_X11_place : MV yX11_place cX11_place 4 (some .int) 2 11 := ⟨⟨tw 1011 (by decide +kernel) rfl, ni_RX11, nh_RX11, ds_7⟩, tw 1009 (by decide +kernel) rfl, tw 1010 (by decide +kernel) rfl, TX11, 9, rfl⟩
theorem mlL_97 : Cond.methodLink R_law 97 yX11_place ∈ lw_gw := tw 1008 (by decide +kernel) rfl
theorem mw_X12_place : MV yX12_place cX12_place 3 (some .int) 2 12 := ⟨⟨tw 1632 (by decide +kernel) rfl, ni_RX12, nh_RX12, ds_7⟩, tw 1630 (by decide +kernel) rfl, tw 1631 (by decide +kernel) rfl, TX12, 40, rfl⟩
theorem mlL_100 : Cond.methodLink R_law 100 yX12_place ∈ lw_gw := tw 1629 (by decide +kernel) rfl
theorem mw_X11_often : MV yX11_often cX11_often 3 (some .int) 2 11 := ⟨⟨tw 1048 (by decide +kernel) rfl, ni_RX11, nh_RX11, ds_7⟩, tw 1046 (by decide +kernel) rfl, tw 1047 (by decide +kernel) rfl, TX11, 9, rfl⟩
theorem mlL_101 : Cond.methodLink R_law 101 yX11_often ∈ lw_gw := tw 1045 (by decide +kernel) rfl
theorem mw_X12_often : MV yX12_often cX12_often 3 (some .int) 2 12 := ⟨⟨tw 1636 (by decide +kernel) rfl, ni_RX12, nh_RX12, ds_7⟩, tw 1634 (by decide +kernel) rfl, tw 1635 (by decide +kernel) rfl, TX12, 40, rfl⟩
theorem mlL_104 : Cond.methodLink R_law 104 yX12_often ∈ lw_gw := tw 1633 (by decide +kernel) rfl
theorem mw_X11_left : MV yX11_left cX11_left 3 (some .int) 2 11 := ⟨⟨tw 1062 (by decide +kernel) rfl, ni_RX11, nh_RX11, ds_7⟩, tw 1060 (by decide +kernel) rfl, tw 1061 (by decide +kernel) rfl, TX11, 9, rfl⟩
theorem mlL_105 : Cond.methodLink R_law 105 yX11_left ∈ lw_gw := tw 1059 (by decide +kernel) rfl
theorem mw_X12_left : MV yX12_left cX12_left 3 (some .int) 2 12 := ⟨⟨tw 1640 (by decide +kernel) rfl, ni_RX12, nh_RX12, ds_7⟩, tw 1638 (by decide +kernel) rfl, tw 1639 (by decide +kernel) rfl, TX12, 40, rfl⟩
theorem mlL_108 : Cond.methodLink R_law 108 yX12_left ∈ lw_gw := tw 1637 (by decide +kernel) rfl
theorem mw_X11_knot : MV yX11_knot cX11_knot 3 (some .int) 1 11 := ⟨⟨tw 1070 (by decide +kernel) rfl, ni_RX11, nh_RX11, ds_5⟩, tw 1068 (by decide +kernel) rfl, tw 1069 (by decide +kernel) rfl, TX11, 9, rfl⟩
theorem mlL_109 : Cond.methodLink R_law 109 yX11_knot ∈ lw_gw := tw 1067 (by decide +kernel) rfl
theorem mw_X12_knot : MV yX12_knot cX12_knot 3 (some .int) 1 12 := ⟨⟨tw 1644 (by decide +kernel) rfl, ni_RX12, nh_RX12, ds_5⟩, tw 1642 (by decide +kernel) rfl, tw 1643 (by decide +kernel) rfl, TX12, 40, rfl⟩
theorem mlL_112 : Cond.methodLink R_law 112 yX12_knot ∈ lw_gw := tw 1641 (by decide +kernel) rfl
theorem mw_X11_loose : MV yX11_loose cX11_loose 2 (some .int) 1 11 := ⟨⟨tw 1085 (by decide +kernel) rfl, ni_RX11, nh_RX11, ds_5⟩, tw 1083 (by decide +kernel) rfl, tw 1084 (by decide +kernel) rfl, TX11, 9, rfl⟩
theorem mlL_113 : Cond.methodLink R_law 113 yX11_loose ∈ lw_gw := tw 1082 (by decide +kernel) rfl
theorem mw_X12_loose : MV yX12_loose cX12_loose 6 (some .int) 1 12 := ⟨⟨tw 1656 (by decide +kernel) rfl, ni_RX12, nh_RX12, ds_5⟩, tw 1654 (by decide +kernel) rfl, tw 1655 (by decide +kernel) rfl, TX12, 40, rfl⟩
theorem mlL_116 : Cond.methodLink R_law 116 yX12_loose ∈ lw_gw := tw 1653 (by decide +kernel) rfl
theorem mw_X11_would : MV yX11_would cX11_would 4 (some .int) 3 11 := ⟨⟨tw 1109 (by decide +kernel) rfl, ni_RX11, nh_RX11, ds_53⟩, tw 1107 (by decide +kernel) rfl, tw 1108 (by decide +kernel) rfl, TX11, 9, rfl⟩
theorem mlL_117 : Cond.methodLink R_law 117 yX11_would ∈ lw_gw := tw 1106 (by decide +kernel) rfl
theorem mw_X12_would : MV yX12_would cX12_would 4 (some .int) 3 12 := ⟨⟨tw 1660 (by decide +kernel) rfl, ni_RX12, nh_RX12, ds_53⟩, tw 1658 (by decide +kernel) rfl, tw 1659 (by decide +kernel) rfl, TX12, 40, rfl⟩
theorem mlL_120 : Cond.methodLink R_law 120 yX12_would ∈ lw_gw := tw 1657 (by decide +kernel) rfl
theorem mw_X11_ask : MV yX11_ask cX11_ask 2 (some .int) 1 11 := ⟨⟨tw 1118 (by decide +kernel) rfl, ni_RX11, nh_RX11, ds_5⟩, tw 1116 (by decide +kernel) rfl, tw 1117 (by decide +kernel) rfl, TX11, 9, rfl⟩
theorem mlL_121 : Cond.methodLink R_law 121 yX11_ask ∈ lw_gw := tw 1115 (by decide +kernel) rfl
theorem mw_X12_ask : MV yX12_ask cX12_ask 9 (some .int) 1 12 := ⟨⟨tw 1668 (by decide +kernel) rfl, ni_RX12, nh_RX12, ds_5⟩, tw 1666 (by decide +kernel) rfl, tw 1667 (by decide +kernel) rfl, TX12, 40, rfl⟩
theorem mlL_124 : Cond.methodLink R_law 124 yX12_ask ∈ lw_gw := tw 1665 (by decide +kernel) rfl
theorem mw_X11_strip : MV yX11_strip cX11_strip 3 (some .int) 2 11 := ⟨⟨tw 1134 (by decide +kernel) rfl, ni_RX11, nh_RX11, ds_7⟩, tw 1132 (by decide +kernel) rfl, tw 1133 (by decide +kernel) rfl, TX11, 9, rfl⟩
theorem mlL_125 : Cond.methodLink R_law 125 yX11_strip ∈ lw_gw := tw 1131 (by decide +kernel) rfl
theorem mw_X12_strip : MV yX12_strip cX12_strip 4 (some .int) 2 12 := ⟨⟨tw 1672 (by decide +kernel) rfl, ni_RX12, nh_RX12, ds_7⟩, tw 1670 (by decide +kernel) rfl, tw 1671 (by decide +kernel) rfl, TX12, 40, rfl⟩
theorem mlL_128 : Cond.methodLink R_law 128 yX12_strip ∈ lw_gw := tw 1669 (by decide +kernel) rfl
theorem mw_X11_set : MV yX11_set cX11_set 4 (some .int) 3 11 := ⟨⟨tw 1159 (by decide +kernel) rfl, ni_RX11, nh_RX11, ds_53⟩, tw 1157 (by decide +kernel) rfl, tw 1158 (by decide +kernel) rfl, TX11, 9, rfl⟩
theorem mlL_129 : Cond.methodLink R_law 129 yX11_set ∈ lw_gw := tw 1156 (by decide +kernel) rfl
theorem mw_X12_set : MV yX12_set cX12_set 5 (some .int) 3 12 := ⟨⟨tw 1679 (by decide +kernel) rfl, ni_RX12, nh_RX12, ds_53⟩, tw 1677 (by decide +kernel) rfl, tw 1678 (by decide +kernel) rfl, TX12, 40, rfl⟩
theorem mlL_132 : Cond.methodLink R_law 132 yX12_set ∈ lw_gw := tw 1676 (by decide +kernel) rfl
theorem mw_X11_load : MV yX11_load cX11_load 7 (some .int) 4 11 := ⟨⟨tw 1169 (by decide +kernel) rfl, ni_RX11, nh_RX11, ds_36⟩, tw 1167 (by decide +kernel) rfl, tw 1168 (by decide +kernel) rfl, TX11, 9, rfl⟩
theorem mlL_133 : Cond.methodLink R_law 133 yX11_load ∈ lw_gw := tw 1166 (by decide +kernel) rfl
theorem mw_X12_load : MV yX12_load cX12_load 6 (some .int) 4 12 := ⟨⟨tw 1687 (by decide +kernel) rfl, ni_RX12, nh_RX12, ds_36⟩, tw 1685 (by decide +kernel) rfl, tw 1686 (by decide +kernel) rfl, TX12, 40, rfl⟩
theorem mlL_137 : Cond.methodLink R_law 137 yX12_load ∈ lw_gw := tw 1684 (by decide +kernel) rfl
theorem mw_X11_work : MV yX11_work cX11_work 6 (some .int) 4 11 := ⟨⟨tw 1173 (by decide +kernel) rfl, ni_RX11, nh_RX11, ds_36⟩, tw 1171 (by decide +kernel) rfl, tw 1172 (by decide +kernel) rfl, TX11, 9, rfl⟩
theorem mlL_138 : Cond.methodLink R_law 138 yX11_work ∈ lw_gw := tw 1170 (by decide +kernel) rfl
theorem mw_X12_work : MV yX12_work cX12_work 11 (some .int) 4 12 := ⟨⟨tw 1691 (by decide +kernel) rfl, ni_RX12, nh_RX12, ds_36⟩, tw 1689 (by decide +kernel) rfl, tw 1690 (by decide +kernel) rfl, TX12, 40, rfl⟩
theorem mlL_141 : Cond.methodLink R_law 141 yX12_work ∈ lw_gw := tw 1688 (by decide +kernel) rfl
theorem mw_X11_bits : MV yX11_bits cX11_bits 3 (some .int) 2 11 := ⟨⟨tw 1185 (by decide +kernel) rfl, ni_RX11, nh_RX11, ds_7⟩, tw 1183 (by decide +kernel) rfl, tw 1184 (by decide +kernel) rfl, TX11, 9, rfl⟩
theorem mlL_142 : Cond.methodLink R_law 142 yX11_bits ∈ lw_gw := tw 1182 (by decide +kernel) rfl
theorem mw_X12_bits : MV yX12_bits cX12_bits 4 (some .int) 2 12 := ⟨⟨tw 1695 (by decide +kernel) rfl, ni_RX12, nh_RX12, ds_7⟩, tw 1693 (by decide +kernel) rfl, tw 1694 (by decide +kernel) rfl, TX12, 40, rfl⟩
theorem mlL_145 : Cond.methodLink R_law 145 yX12_bits ∈ lw_gw := tw 1692 (by decide +kernel) rfl
theorem mw_X11_sum : MV yX11_sum cX11_sum 2 (some .int) 1 11 := ⟨⟨tw 1190 (by decide +kernel) rfl, ni_RX11, nh_RX11, ds_5⟩, tw 1188 (by decide +kernel) rfl, tw 1189 (by decide +kernel) rfl, TX11, 9, rfl⟩
theorem mlL_146 : Cond.methodLink R_law 146 yX11_sum ∈ lw_gw := tw 1187 (by decide +kernel) rfl
theorem mw_X12_sum : MV yX12_sum cX12_sum 3 (some .int) 1 12 := ⟨⟨tw 1699 (by decide +kernel) rfl, ni_RX12, nh_RX12, ds_5⟩, tw 1697 (by decide +kernel) rfl, tw 1698 (by decide +kernel) rfl, TX12, 40, rfl⟩
theorem mlL_149 : Cond.methodLink R_law 149 yX12_sum ∈ lw_gw := tw 1696 (by decide +kernel) rfl
theorem mw_X11_drop : MV yX11_drop cX11_drop 2 (some .int) 1 11 := ⟨⟨tw 1198 (by decide +kernel) rfl, ni_RX11, nh_RX11, ds_5⟩, tw 1196 (by decide +kernel) rfl, tw 1197 (by decide +kernel) rfl, TX11, 9, rfl⟩
theorem mlL_150 : Cond.methodLink R_law 150 yX11_drop ∈ lw_gw := tw 1195 (by decide +kernel) rfl
theorem mw_X12_drop : MV yX12_drop cX12_drop 3 (some .int) 1 12 := ⟨⟨tw 1703 (by decide +kernel) rfl, ni_RX12, nh_RX12, ds_5⟩, tw 1701 (by decide +kernel) rfl, tw 1702 (by decide +kernel) rfl, TX12, 40, rfl⟩
theorem mlL_153 : Cond.methodLink R_law 153 yX12_drop ∈ lw_gw := tw 1700 (by decide +kernel) rfl
theorem ds_55 : (parseMethodDescriptor "()J").map (fun d => d.parameters.length) = some 0 := by decide +kernel
theorem mw_X11_latest : MV yX11_latest cX11_latest 1 (some .long) 0 11 := ⟨⟨tw 1206 (by decide +kernel) rfl, ni_RX11, nh_RX11, ds_55⟩, tw 1204 (by decide +kernel) rfl, tw 1205 (by decide +kernel) rfl, TX11, 9, rfl⟩
theorem mlL_154 : Cond.methodLink R_law 154 yX11_latest ∈ lw_gw := tw 1203 (by decide +kernel) rfl
theorem mw_X12_latest : MV yX12_latest cX12_latest 1 (some .long) 0 12 := ⟨⟨tw 1707 (by decide +kernel) rfl, ni_RX12, nh_RX12, ds_55⟩, tw 1705 (by decide +kernel) rfl, tw 1706 (by decide +kernel) rfl, TX12, 40, rfl⟩
theorem mlL_158 : Cond.methodLink R_law 158 yX12_latest ∈ lw_gw := tw 1704 (by decide +kernel) rfl
theorem mw_X11_count : MV yX11_count cX11_count 2 (some .int) 1 11 := ⟨⟨tw 1210 (by decide +kernel) rfl, ni_RX11, nh_RX11, ds_5⟩, tw 1208 (by decide +kernel) rfl, tw 1209 (by decide +kernel) rfl, TX11, 9, rfl⟩
theorem mlL_159 : Cond.methodLink R_law 159 yX11_count ∈ lw_gw := tw 1207 (by decide +kernel) rfl
theorem mw_X12_count : MV yX12_count cX12_count 2 (some .int) 1 12 := ⟨⟨tw 1711 (by decide +kernel) rfl, ni_RX12, nh_RX12, ds_5⟩, tw 1709 (by decide +kernel) rfl, tw 1710 (by decide +kernel) rfl, TX12, 40, rfl⟩
theorem mlL_162 : Cond.methodLink R_law 162 yX12_count ∈ lw_gw := tw 1708 (by decide +kernel) rfl
theorem ii_5 (x : Int32) : x + Int32.ofInt 5 = x + (5 : Int32) := rfl
/-- every call: equal answers, and the relation is kept -/
def StepsOk (I : Hp → Prop) : Prop := (∀ (a1 : Int32) (h : Hp), I h → ∃ r h1 h2, F_X11_write a1 h = some (r, h1) ∧ F_X12_write a1 h1 = some (r, h2) ∧ I h2) ∧
  (∀ (h : Hp), I h → ∃ r h1 h2, F_X11_erase h = some (r, h1) ∧ F_X12_erase h1 = some (r, h2) ∧ I h2) ∧
  (∀ (h : Hp), I h → ∃ r h1 h2, F_X11_fault h = some (r, h1) ∧ F_X12_fault h1 = some (r, h2) ∧ I h2) ∧
  (∀ (h : Hp), I h → ∃ r h1 h2, F_X11_album h = some (r, h1) ∧ F_X12_album h1 = some (r, h2) ∧ I h2) ∧
  (∀ (h : Hp), I h → ∃ r h1 h2, F_X11_find h = some (r, h1) ∧ F_X12_find h1 = some (r, h2) ∧ I h2) ∧
  (∀ (a1 a2 : Int32) (h : Hp), I h → ∃ r h1 h2, F_X11_picture a1 a2 h = some (r, h1) ∧ F_X12_picture a1 a2 h1 = some (r, h2) ∧ I h2) ∧
  (∀ (a1 a2 : Int32) (h : Hp), I h → ∃ r h1 h2, F_X11_thing a1 a2 h = some (r, h1) ∧ F_X12_thing a1 a2 h1 = some (r, h2) ∧ I h2) ∧
  (∀ (a1 a2 a3 : Int32) (h : Hp), I h → ∃ r h1 h2, F_X11_piece a1 a2 a3 h = some (r, h1) ∧ F_X12_piece a1 a2 a3 h1 = some (r, h2) ∧ I h2) ∧
  (∀ (a1 a2 : Int32) (h : Hp), I h → ∃ r h1 h2, F_X11_told a1 a2 h = some (r, h1) ∧ F_X12_told a1 a2 h1 = some (r, h2) ∧ I h2) ∧
  (∀ (a1 a2 : Int32) (h : Hp), I h → ∃ r h1 h2, F_X11_sun a1 a2 h = some (r, h1) ∧ F_X12_sun a1 a2 h1 = some (r, h2) ∧ I h2) ∧
  (∀ (a1 a2 a3 : Int32) (h : Hp), I h → ∃ r h1 h2, F_X11_point a1 a2 a3 h = some (r, h1) ∧ F_X12_point a1 a2 a3 h1 = some (r, h2) ∧ I h2) ∧
  (∀ (a1 a2 a3 : Int32) (h : Hp), I h → ∃ r h1 h2, F_X11_length a1 a2 a3 h = some (r, h1) ∧ F_X12_length a1 a2 a3 h1 = some (r, h2) ∧ I h2) ∧
  (∀ (a1 a2 a3 : Int32) (h : Hp), I h → ∃ r h1 h2, F_X11_see a1 a2 a3 h = some (r, h1) ∧ F_X12_see a1 a2 a3 h1 = some (r, h2) ∧ I h2) ∧
  (∀ (a1 a2 : Int32) (h : Hp), I h → ∃ r h1 h2, F_X11_strike a1 a2 h = some (r, h1) ∧ F_X12_strike a1 a2 h1 = some (r, h2) ∧ I h2) ∧
  (∀ (h : Hp), I h → ∃ r h1 h2, F_X11_undo h = some (r, h1) ∧ F_X12_undo h1 = some (r, h2) ∧ I h2) ∧
  (∀ (a1 : Int32) (h : Hp), I h → ∃ r h1 h2, F_X11_keep a1 h = some (r, h1) ∧ F_X12_keep a1 h1 = some (r, h2) ∧ I h2) ∧
  (∀ (a1 : Int32) (h : Hp), I h → ∃ r h1 h2, F_X11_back a1 h = some (r, h1) ∧ F_X12_back a1 h1 = some (r, h2) ∧ I h2) ∧
  (∀ (a1 a2 : Int32) (h : Hp), I h → ∃ r h1 h2, F_X11_before a1 a2 h = some (r, h1) ∧ F_X12_before a1 a2 h1 = some (r, h2) ∧ I h2) ∧
  (∀ (h : Hp), I h → ∃ r h1 h2, F_X11_orders h = some (r, h1) ∧ F_X12_orders h1 = some (r, h2) ∧ I h2) ∧
  (∀ (a1 a2 : Int32) (h : Hp), I h → ∃ r h1 h2, F_X11_order a1 a2 h = some (r, h1) ∧ F_X12_order a1 a2 h1 = some (r, h2) ∧ I h2) ∧
  (∀ (a1 a2 : Int32) (h : Hp), I h → ∃ r h1 h2, F_X11_place a1 a2 h = some (r, h1) ∧ F_X12_place a1 a2 h1 = some (r, h2) ∧ I h2) ∧
  (∀ (a1 a2 : Int32) (h : Hp), I h → ∃ r h1 h2, F_X11_often a1 a2 h = some (r, h1) ∧ F_X12_often a1 a2 h1 = some (r, h2) ∧ I h2) ∧
  (∀ (a1 a2 : Int32) (h : Hp), I h → ∃ r h1 h2, F_X11_left a1 a2 h = some (r, h1) ∧ F_X12_left a1 a2 h1 = some (r, h2) ∧ I h2) ∧
  (∀ (a1 : Int32) (h : Hp), I h → ∃ r h1 h2, F_X11_knot a1 h = some (r, h1) ∧ F_X12_knot a1 h1 = some (r, h2) ∧ I h2) ∧
  (∀ (a1 : Int32) (h : Hp), I h → ∃ r h1 h2, F_X11_loose a1 h = some (r, h1) ∧ F_X12_loose a1 h1 = some (r, h2) ∧ I h2) ∧
  (∀ (a1 a2 a3 : Int32) (h : Hp), I h → ∃ r h1 h2, F_X11_would a1 a2 a3 h = some (r, h1) ∧ F_X12_would a1 a2 a3 h1 = some (r, h2) ∧ I h2) ∧
  (∀ (a1 : Int32) (h : Hp), I h → ∃ r h1 h2, F_X11_ask a1 h = some (r, h1) ∧ F_X12_ask a1 h1 = some (r, h2) ∧ I h2) ∧
  (∀ (a1 a2 : Int32) (h : Hp), I h → ∃ r h1 h2, F_X11_strip a1 a2 h = some (r, h1) ∧ F_X12_strip a1 a2 h1 = some (r, h2) ∧ I h2) ∧
  (∀ (a1 a2 a3 : Int32) (h : Hp), I h → ∃ r h1 h2, F_X11_set a1 a2 a3 h = some (r, h1) ∧ F_X12_set a1 a2 a3 h1 = some (r, h2) ∧ I h2) ∧
  (∀ (a1 a2 a3 a4 : Int32) (h : Hp), I h → ∃ r h1 h2, F_X11_load a1 a2 a3 a4 h = some (r, h1) ∧ F_X12_load a1 a2 a3 a4 h1 = some (r, h2) ∧ I h2) ∧
  (∀ (a1 a2 a3 a4 : Int32) (h : Hp), I h → ∃ r h1 h2, F_X11_work a1 a2 a3 a4 h = some (r, h1) ∧ F_X12_work a1 a2 a3 a4 h1 = some (r, h2) ∧ I h2) ∧
  (∀ (a1 a2 : Int32) (h : Hp), I h → ∃ r h1 h2, F_X11_bits a1 a2 h = some (r, h1) ∧ F_X12_bits a1 a2 h1 = some (r, h2) ∧ I h2) ∧
  (∀ (a1 : Int32) (h : Hp), I h → ∃ r h1 h2, F_X11_sum a1 h = some (r, h1) ∧ F_X12_sum a1 h1 = some (r, h2) ∧ I h2) ∧
  (∀ (a1 : Int32) (h : Hp), I h → ∃ r h1 h2, F_X11_drop a1 h = some (r, h1) ∧ F_X12_drop a1 h1 = some (r, h2) ∧ I h2) ∧
  (∀ (h : Hp), I h → ∃ r h1 h2, F_X11_latest h = some (r, h1) ∧ F_X12_latest h1 = some (r, h2) ∧ I h2) ∧
  (∀ (a1 : Int32) (h : Hp), I h → ∃ r h1 h2, F_X11_count a1 h = some (r, h1) ∧ F_X12_count a1 h1 = some (r, h2) ∧ I h2)
set_option maxRecDepth 100000 in
set_option maxHeartbeats 40000000 in
theorem law_op {K : CB} {E : JE} {b L : Nat} {xs : Nat → Int32} {I : Hp → Prop} (Y : CY K R_law cL_law 4 ret 13 600000 7302250 462) (X : LX K E b L xs) (hst : StepsOk I) (h : Hp) (hI : I h) (x3 : Int32) (hi0 : vp_in x3 L) (hi1 : vp_in (x3 + 1) L) (hi2 : vp_in (x3 + 2) L) (hi3 : vp_in (x3 + 3) L) (hi4 : vp_in (x3 + 4) L) (fin : ∀ h2, I h2 → GW K (wsl E h2) (tysl E) 600000 7302250 1251 [some (.ref b), some (.ref (jad E 0)), some (.ref (jad E 117)), some (.int x3)] []) (x : Int32) : GW K (wsl E h) (tysl E) 600000 7302250 32 [some (.ref b), some (.ref (jad E 0)), some (.ref (jad E 117)), some (.int x3)] [.int x] := by
  unfold StepsOk at hst
  obtain ⟨s0, s1, s2, s3, s4, s5, s6, s7, s8, s9, s10, s11, s12, s13, s14, s15, s16, s17, s18, s19, s20, s21, s22, s23, s24, s25, s26, s27, s28, s29, s30, s31, s32, s33, s34, s35⟩ := hst
  refine gw_swC (off := 160) Y (0 : Int32) 192 dL_law_32 (by decide) (by decide) (by decide) (by decide) (fun _ => ?_) (fun c0 => ?_)
  · obtain ⟨r, h1, h2, e1, e2, i2⟩ := s0 (xs (x3 + (1 : Int32)).toNatClampNeg) h hI
    refine gw_aload_n Y dL_law_192 rfl rfl ?_
    refine gw_aload_n Y dL_law_193 rfl rfl ?_
    refine gw_iload_n Y dL_law_194 rfl rfl ?_
    refine gw_iconst Y dL_law_195 ki_1 ?_
    refine gw_iadd Y dL_law_196 ?_
    refine gw_sld Y X dL_law_197 hi1 ?_
    refine gw_st Y X [.int (xs (x3 + (1 : Int32)).toNatClampNeg)] dL_law_198 mw_X11_write mlL_13 s_0 (ok_X11_write (xs (x3 + (1 : Int32)).toNatClampNeg) _ _ _ e1) rfl rfl rfl rfl (Nat.le_of_ble_eq_true rfl) (Nat.le_of_ble_eq_true rfl) (Nat.le_of_ble_eq_true rfl) (Nat.le_of_ble_eq_true rfl) (Nat.le_of_ble_eq_true rfl) ?_
    refine gw_aload_n Y dL_law_201 rfl rfl ?_
    refine gw_aload_n Y dL_law_202 rfl rfl ?_
    refine gw_iload_n Y dL_law_203 rfl rfl ?_
    refine gw_iconst Y dL_law_204 ki_1 ?_
    refine gw_iadd Y dL_law_205 ?_
    refine gw_sld Y X dL_law_206 hi1 ?_
    refine gw_st Y X [.int (xs (x3 + (1 : Int32)).toNatClampNeg)] dL_law_207 mw_X12_write mlL_17 s_117 (ok_X12_write (xs (x3 + (1 : Int32)).toNatClampNeg) _ _ _ e2) rfl rfl rfl rfl (Nat.le_of_ble_eq_true rfl) (Nat.le_of_ble_eq_true rfl) (Nat.le_of_ble_eq_true rfl) (Nat.le_of_ble_eq_true rfl) (Nat.le_of_ble_eq_true rfl) ?_
    exact gw_icmpeq Y 1251 dL_law_210 (by decide) (fun _ => fin _ i2) (fun c => absurd rfl c)
  refine gw_swC (off := 183) Y (1 : Int32) 215 dL_law_32 (by decide) (by decide) (by decide) (by decide) (fun _ => ?_) (fun c1 => ?_)
  · obtain ⟨r, h1, h2, e1, e2, i2⟩ := s1 h hI
    refine gw_aload_n Y dL_law_215 rfl rfl ?_
    refine gw_st Y X [] dL_law_216 mw_X11_erase mlL_18 s_0 (ok_X11_erase _ _ _ e1) rfl rfl rfl rfl (Nat.le_of_ble_eq_true rfl) (Nat.le_of_ble_eq_true rfl) (Nat.le_of_ble_eq_true rfl) (Nat.le_of_ble_eq_true rfl) (Nat.le_of_ble_eq_true rfl) ?_
    refine gw_aload_n Y dL_law_219 rfl rfl ?_
    refine gw_st Y X [] dL_law_220 mw_X12_erase mlL_22 s_117 (ok_X12_erase _ _ _ e2) rfl rfl rfl rfl (Nat.le_of_ble_eq_true rfl) (Nat.le_of_ble_eq_true rfl) (Nat.le_of_ble_eq_true rfl) (Nat.le_of_ble_eq_true rfl) (Nat.le_of_ble_eq_true rfl) ?_
    exact gw_icmpeq Y 1251 dL_law_223 (by decide) (fun _ => fin _ i2) (fun c => absurd rfl c)
  refine gw_swC (off := 196) Y (2 : Int32) 228 dL_law_32 (by decide) (by decide) (by decide) (by decide) (fun _ => ?_) (fun c2 => ?_)
  · obtain ⟨r, h1, h2, e1, e2, i2⟩ := s2 h hI
    refine gw_aload_n Y dL_law_228 rfl rfl ?_
    refine gw_st Y X [] dL_law_229 mw_X11_fault mlL_23 s_0 (ok_X11_fault _ _ _ e1) rfl rfl rfl rfl (Nat.le_of_ble_eq_true rfl) (Nat.le_of_ble_eq_true rfl) (Nat.le_of_ble_eq_true rfl) (Nat.le_of_ble_eq_true rfl) (Nat.le_of_ble_eq_true rfl) ?_
    refine gw_aload_n Y dL_law_232 rfl rfl ?_
    refine gw_st Y X [] dL_law_233 mw_X12_fault mlL_26 s_117 (ok_X12_fault _ _ _ e2) rfl rfl rfl rfl (Nat.le_of_ble_eq_true rfl) (Nat.le_of_ble_eq_true rfl) (Nat.le_of_ble_eq_true rfl) (Nat.le_of_ble_eq_true rfl) (Nat.le_of_ble_eq_true rfl) ?_
    exact gw_icmpeq Y 1251 dL_law_236 (by decide) (fun _ => fin _ i2) (fun c => absurd rfl c)
  refine gw_swC (off := 209) Y (3 : Int32) 241 dL_law_32 (by decide) (by decide) (by decide) (by decide) (fun _ => ?_) (fun c3 => ?_)
  · obtain ⟨r, h1, h2, e1, e2, i2⟩ := s3 h hI
    refine gw_aload_n Y dL_law_241 rfl rfl ?_
    refine gw_st Y X [] dL_law_242 mw_X11_album mlL_27 s_0 (ok_X11_album _ _ _ e1) rfl rfl rfl rfl (Nat.le_of_ble_eq_true rfl) (Nat.le_of_ble_eq_true rfl) (Nat.le_of_ble_eq_true rfl) (Nat.le_of_ble_eq_true rfl) (Nat.le_of_ble_eq_true rfl) ?_
    refine gw_aload_n Y dL_law_245 rfl rfl ?_
    refine gw_st Y X [] dL_law_246 mw_X12_album mlL_30 s_117 (ok_X12_album _ _ _ e2) rfl rfl rfl rfl (Nat.le_of_ble_eq_true rfl) (Nat.le_of_ble_eq_true rfl) (Nat.le_of_ble_eq_true rfl) (Nat.le_of_ble_eq_true rfl) (Nat.le_of_ble_eq_true rfl) ?_
    exact gw_icmpeq Y 1251 dL_law_249 (by decide) (fun _ => fin _ i2) (fun c => absurd rfl c)
  refine gw_swC (off := 222) Y (4 : Int32) 254 dL_law_32 (by decide) (by decide) (by decide) (by decide) (fun _ => ?_) (fun c4 => ?_)
  · obtain ⟨r, h1, h2, e1, e2, i2⟩ := s4 h hI
    refine gw_aload_n Y dL_law_254 rfl rfl ?_
    refine gw_st Y X [] dL_law_255 mw_X11_find mlL_31 s_0 (ok_X11_find _ _ _ e1) rfl rfl rfl rfl (Nat.le_of_ble_eq_true rfl) (Nat.le_of_ble_eq_true rfl) (Nat.le_of_ble_eq_true rfl) (Nat.le_of_ble_eq_true rfl) (Nat.le_of_ble_eq_true rfl) ?_
    refine gw_aload_n Y dL_law_258 rfl rfl ?_
    refine gw_st Y X [] dL_law_259 mw_X12_find mlL_34 s_117 (ok_X12_find _ _ _ e2) rfl rfl rfl rfl (Nat.le_of_ble_eq_true rfl) (Nat.le_of_ble_eq_true rfl) (Nat.le_of_ble_eq_true rfl) (Nat.le_of_ble_eq_true rfl) (Nat.le_of_ble_eq_true rfl) ?_
    exact gw_icmpeq Y 1251 dL_law_262 (by decide) (fun _ => fin _ i2) (fun c => absurd rfl c)
  refine gw_swC (off := 235) Y (5 : Int32) 267 dL_law_32 (by decide) (by decide) (by decide) (by decide) (fun _ => ?_) (fun c5 => ?_)
  · obtain ⟨r, h1, h2, e1, e2, i2⟩ := s5 (xs (x3 + (1 : Int32)).toNatClampNeg) (xs (x3 + (2 : Int32)).toNatClampNeg) h hI
    refine gw_aload_n Y dL_law_267 rfl rfl ?_
    refine gw_aload_n Y dL_law_268 rfl rfl ?_
    refine gw_iload_n Y dL_law_269 rfl rfl ?_
    refine gw_iconst Y dL_law_270 ki_1 ?_
    refine gw_iadd Y dL_law_271 ?_
    refine gw_sld Y X dL_law_272 hi1 ?_
    refine gw_aload_n Y dL_law_273 rfl rfl ?_
    refine gw_iload_n Y dL_law_274 rfl rfl ?_
    refine gw_iconst Y dL_law_275 ki_2 ?_
    refine gw_iadd Y dL_law_276 ?_
    refine gw_sld Y X dL_law_277 hi2 ?_
    refine gw_st Y X [.int (xs (x3 + (1 : Int32)).toNatClampNeg), .int (xs (x3 + (2 : Int32)).toNatClampNeg)] dL_law_278 mw_X11_picture mlL_35 s_0 (ok_X11_picture (xs (x3 + (1 : Int32)).toNatClampNeg) (xs (x3 + (2 : Int32)).toNatClampNeg) _ _ _ e1) rfl rfl rfl rfl (Nat.le_of_ble_eq_true rfl) (Nat.le_of_ble_eq_true rfl) (Nat.le_of_ble_eq_true rfl) (Nat.le_of_ble_eq_true rfl) (Nat.le_of_ble_eq_true rfl) ?_
    refine gw_aload_n Y dL_law_281 rfl rfl ?_
    refine gw_aload_n Y dL_law_282 rfl rfl ?_
    refine gw_iload_n Y dL_law_283 rfl rfl ?_
    refine gw_iconst Y dL_law_284 ki_1 ?_
    refine gw_iadd Y dL_law_285 ?_
    refine gw_sld Y X dL_law_286 hi1 ?_
    refine gw_aload_n Y dL_law_287 rfl rfl ?_
    refine gw_iload_n Y dL_law_288 rfl rfl ?_
    refine gw_iconst Y dL_law_289 ki_2 ?_
    refine gw_iadd Y dL_law_290 ?_
    refine gw_sld Y X dL_law_291 hi2 ?_
    refine gw_st Y X [.int (xs (x3 + (1 : Int32)).toNatClampNeg), .int (xs (x3 + (2 : Int32)).toNatClampNeg)] dL_law_292 mw_X12_picture mlL_39 s_117 (ok_X12_picture (xs (x3 + (1 : Int32)).toNatClampNeg) (xs (x3 + (2 : Int32)).toNatClampNeg) _ _ _ e2) rfl rfl rfl rfl (Nat.le_of_ble_eq_true rfl) (Nat.le_of_ble_eq_true rfl) (Nat.le_of_ble_eq_true rfl) (Nat.le_of_ble_eq_true rfl) (Nat.le_of_ble_eq_true rfl) ?_
    exact gw_icmpeq Y 1251 dL_law_295 (by decide) (fun _ => fin _ i2) (fun c => absurd rfl c)
  refine gw_swC (off := 268) Y (6 : Int32) 300 dL_law_32 (by decide) (by decide) (by decide) (by decide) (fun _ => ?_) (fun c6 => ?_)
  · obtain ⟨r, h1, h2, e1, e2, i2⟩ := s6 (xs (x3 + (1 : Int32)).toNatClampNeg) (xs (x3 + (2 : Int32)).toNatClampNeg) h hI
    refine gw_aload_n Y dL_law_300 rfl rfl ?_
    refine gw_aload_n Y dL_law_301 rfl rfl ?_
    refine gw_iload_n Y dL_law_302 rfl rfl ?_
    refine gw_iconst Y dL_law_303 ki_1 ?_
    refine gw_iadd Y dL_law_304 ?_
    refine gw_sld Y X dL_law_305 hi1 ?_
    refine gw_aload_n Y dL_law_306 rfl rfl ?_
    refine gw_iload_n Y dL_law_307 rfl rfl ?_
    refine gw_iconst Y dL_law_308 ki_2 ?_
    refine gw_iadd Y dL_law_309 ?_
    refine gw_sld Y X dL_law_310 hi2 ?_
    refine gw_st Y X [.int (xs (x3 + (1 : Int32)).toNatClampNeg), .int (xs (x3 + (2 : Int32)).toNatClampNeg)] dL_law_311 mw_X11_thing mlL_40 s_0 (ok_X11_thing (xs (x3 + (1 : Int32)).toNatClampNeg) (xs (x3 + (2 : Int32)).toNatClampNeg) _ _ _ e1) rfl rfl rfl rfl (Nat.le_of_ble_eq_true rfl) (Nat.le_of_ble_eq_true rfl) (Nat.le_of_ble_eq_true rfl) (Nat.le_of_ble_eq_true rfl) (Nat.le_of_ble_eq_true rfl) ?_
    refine gw_aload_n Y dL_law_314 rfl rfl ?_
    refine gw_aload_n Y dL_law_315 rfl rfl ?_
    refine gw_iload_n Y dL_law_316 rfl rfl ?_
    refine gw_iconst Y dL_law_317 ki_1 ?_
    refine gw_iadd Y dL_law_318 ?_
    refine gw_sld Y X dL_law_319 hi1 ?_
    refine gw_aload_n Y dL_law_320 rfl rfl ?_
    refine gw_iload_n Y dL_law_321 rfl rfl ?_
    refine gw_iconst Y dL_law_322 ki_2 ?_
    refine gw_iadd Y dL_law_323 ?_
    refine gw_sld Y X dL_law_324 hi2 ?_
    refine gw_st Y X [.int (xs (x3 + (1 : Int32)).toNatClampNeg), .int (xs (x3 + (2 : Int32)).toNatClampNeg)] dL_law_325 mw_X12_thing mlL_43 s_117 (ok_X12_thing (xs (x3 + (1 : Int32)).toNatClampNeg) (xs (x3 + (2 : Int32)).toNatClampNeg) _ _ _ e2) rfl rfl rfl rfl (Nat.le_of_ble_eq_true rfl) (Nat.le_of_ble_eq_true rfl) (Nat.le_of_ble_eq_true rfl) (Nat.le_of_ble_eq_true rfl) (Nat.le_of_ble_eq_true rfl) ?_
    exact gw_icmpeq Y 1251 dL_law_328 (by decide) (fun _ => fin _ i2) (fun c => absurd rfl c)
  refine gw_swC (off := 301) Y (7 : Int32) 333 dL_law_32 (by decide) (by decide) (by decide) (by decide) (fun _ => ?_) (fun c7 => ?_)
  · obtain ⟨r, h1, h2, e1, e2, i2⟩ := s7 (xs (x3 + (1 : Int32)).toNatClampNeg) (xs (x3 + (2 : Int32)).toNatClampNeg) (xs (x3 + (3 : Int32)).toNatClampNeg) h hI
    refine gw_aload_n Y dL_law_333 rfl rfl ?_
    refine gw_aload_n Y dL_law_334 rfl rfl ?_
    refine gw_iload_n Y dL_law_335 rfl rfl ?_
    refine gw_iconst Y dL_law_336 ki_1 ?_
    refine gw_iadd Y dL_law_337 ?_
    refine gw_sld Y X dL_law_338 hi1 ?_
    refine gw_aload_n Y dL_law_339 rfl rfl ?_
    refine gw_iload_n Y dL_law_340 rfl rfl ?_
    refine gw_iconst Y dL_law_341 ki_2 ?_
    refine gw_iadd Y dL_law_342 ?_
    refine gw_sld Y X dL_law_343 hi2 ?_
    refine gw_aload_n Y dL_law_344 rfl rfl ?_
    refine gw_iload_n Y dL_law_345 rfl rfl ?_
    refine gw_iconst Y dL_law_346 ki_3 ?_
    refine gw_iadd Y dL_law_347 ?_
    refine gw_sld Y X dL_law_348 hi3 ?_
    refine gw_st Y X [.int (xs (x3 + (1 : Int32)).toNatClampNeg), .int (xs (x3 + (2 : Int32)).toNatClampNeg), .int (xs (x3 + (3 : Int32)).toNatClampNeg)] dL_law_349 mw_X11_piece mlL_44 s_0 (ok_X11_piece (xs (x3 + (1 : Int32)).toNatClampNeg) (xs (x3 + (2 : Int32)).toNatClampNeg) (xs (x3 + (3 : Int32)).toNatClampNeg) _ _ _ e1) rfl rfl rfl rfl (Nat.le_of_ble_eq_true rfl) (Nat.le_of_ble_eq_true rfl) (Nat.le_of_ble_eq_true rfl) (Nat.le_of_ble_eq_true rfl) (Nat.le_of_ble_eq_true rfl) ?_
    refine gw_aload_n Y dL_law_352 rfl rfl ?_
    refine gw_aload_n Y dL_law_353 rfl rfl ?_
    refine gw_iload_n Y dL_law_354 rfl rfl ?_
    refine gw_iconst Y dL_law_355 ki_1 ?_
    refine gw_iadd Y dL_law_356 ?_
    refine gw_sld Y X dL_law_357 hi1 ?_
    refine gw_aload_n Y dL_law_358 rfl rfl ?_
    refine gw_iload_n Y dL_law_359 rfl rfl ?_
    refine gw_iconst Y dL_law_360 ki_2 ?_
    refine gw_iadd Y dL_law_361 ?_
    refine gw_sld Y X dL_law_362 hi2 ?_
    refine gw_aload_n Y dL_law_363 rfl rfl ?_
    refine gw_iload_n Y dL_law_364 rfl rfl ?_
    refine gw_iconst Y dL_law_365 ki_3 ?_
    refine gw_iadd Y dL_law_366 ?_
    refine gw_sld Y X dL_law_367 hi3 ?_
    refine gw_st Y X [.int (xs (x3 + (1 : Int32)).toNatClampNeg), .int (xs (x3 + (2 : Int32)).toNatClampNeg), .int (xs (x3 + (3 : Int32)).toNatClampNeg)] dL_law_368 mw_X12_piece mlL_48 s_117 (ok_X12_piece (xs (x3 + (1 : Int32)).toNatClampNeg) (xs (x3 + (2 : Int32)).toNatClampNeg) (xs (x3 + (3 : Int32)).toNatClampNeg) _ _ _ e2) rfl rfl rfl rfl (Nat.le_of_ble_eq_true rfl) (Nat.le_of_ble_eq_true rfl) (Nat.le_of_ble_eq_true rfl) (Nat.le_of_ble_eq_true rfl) (Nat.le_of_ble_eq_true rfl) ?_
    exact gw_icmpeq Y 1251 dL_law_371 (by decide) (fun _ => fin _ i2) (fun c => absurd rfl c)
  refine gw_swC (off := 344) Y (8 : Int32) 376 dL_law_32 (by decide) (by decide) (by decide) (by decide) (fun _ => ?_) (fun c8 => ?_)
  · obtain ⟨r, h1, h2, e1, e2, i2⟩ := s8 (xs (x3 + (1 : Int32)).toNatClampNeg) (xs (x3 + (2 : Int32)).toNatClampNeg) h hI
    refine gw_aload_n Y dL_law_376 rfl rfl ?_
    refine gw_aload_n Y dL_law_377 rfl rfl ?_
    refine gw_iload_n Y dL_law_378 rfl rfl ?_
    refine gw_iconst Y dL_law_379 ki_1 ?_
    refine gw_iadd Y dL_law_380 ?_
    refine gw_sld Y X dL_law_381 hi1 ?_
    refine gw_aload_n Y dL_law_382 rfl rfl ?_
    refine gw_iload_n Y dL_law_383 rfl rfl ?_
    refine gw_iconst Y dL_law_384 ki_2 ?_
    refine gw_iadd Y dL_law_385 ?_
    refine gw_sld Y X dL_law_386 hi2 ?_
    refine gw_st Y X [.int (xs (x3 + (1 : Int32)).toNatClampNeg), .int (xs (x3 + (2 : Int32)).toNatClampNeg)] dL_law_387 mw_X11_told mlL_49 s_0 (ok_X11_told (xs (x3 + (1 : Int32)).toNatClampNeg) (xs (x3 + (2 : Int32)).toNatClampNeg) _ _ _ e1) rfl rfl rfl rfl (Nat.le_of_ble_eq_true rfl) (Nat.le_of_ble_eq_true rfl) (Nat.le_of_ble_eq_true rfl) (Nat.le_of_ble_eq_true rfl) (Nat.le_of_ble_eq_true rfl) ?_
    refine gw_aload_n Y dL_law_390 rfl rfl ?_
    refine gw_aload_n Y dL_law_391 rfl rfl ?_
    refine gw_iload_n Y dL_law_392 rfl rfl ?_
    refine gw_iconst Y dL_law_393 ki_1 ?_
    refine gw_iadd Y dL_law_394 ?_
    refine gw_sld Y X dL_law_395 hi1 ?_
    refine gw_aload_n Y dL_law_396 rfl rfl ?_
    refine gw_iload_n Y dL_law_397 rfl rfl ?_
    refine gw_iconst Y dL_law_398 ki_2 ?_
    refine gw_iadd Y dL_law_399 ?_
    refine gw_sld Y X dL_law_400 hi2 ?_
    refine gw_st Y X [.int (xs (x3 + (1 : Int32)).toNatClampNeg), .int (xs (x3 + (2 : Int32)).toNatClampNeg)] dL_law_401 mw_X12_told mlL_52 s_117 (ok_X12_told (xs (x3 + (1 : Int32)).toNatClampNeg) (xs (x3 + (2 : Int32)).toNatClampNeg) _ _ _ e2) rfl rfl rfl rfl (Nat.le_of_ble_eq_true rfl) (Nat.le_of_ble_eq_true rfl) (Nat.le_of_ble_eq_true rfl) (Nat.le_of_ble_eq_true rfl) (Nat.le_of_ble_eq_true rfl) ?_
    exact gw_icmpeq Y 1251 dL_law_404 (by decide) (fun _ => fin _ i2) (fun c => absurd rfl c)
  refine gw_swC (off := 377) Y (9 : Int32) 409 dL_law_32 (by decide) (by decide) (by decide) (by decide) (fun _ => ?_) (fun c9 => ?_)
  · obtain ⟨r, h1, h2, e1, e2, i2⟩ := s9 (xs (x3 + (1 : Int32)).toNatClampNeg) (xs (x3 + (2 : Int32)).toNatClampNeg) h hI
    refine gw_aload_n Y dL_law_409 rfl rfl ?_
    refine gw_aload_n Y dL_law_410 rfl rfl ?_
    refine gw_iload_n Y dL_law_411 rfl rfl ?_
    refine gw_iconst Y dL_law_412 ki_1 ?_
    refine gw_iadd Y dL_law_413 ?_
    refine gw_sld Y X dL_law_414 hi1 ?_
    refine gw_aload_n Y dL_law_415 rfl rfl ?_
    refine gw_iload_n Y dL_law_416 rfl rfl ?_
    refine gw_iconst Y dL_law_417 ki_2 ?_
    refine gw_iadd Y dL_law_418 ?_
    refine gw_sld Y X dL_law_419 hi2 ?_
    refine gw_st Y X [.int (xs (x3 + (1 : Int32)).toNatClampNeg), .int (xs (x3 + (2 : Int32)).toNatClampNeg)] dL_law_420 mw_X11_sun mlL_53 s_0 (ok_X11_sun (xs (x3 + (1 : Int32)).toNatClampNeg) (xs (x3 + (2 : Int32)).toNatClampNeg) _ _ _ e1) rfl rfl rfl rfl (Nat.le_of_ble_eq_true rfl) (Nat.le_of_ble_eq_true rfl) (Nat.le_of_ble_eq_true rfl) (Nat.le_of_ble_eq_true rfl) (Nat.le_of_ble_eq_true rfl) ?_
    refine gw_aload_n Y dL_law_423 rfl rfl ?_
    refine gw_aload_n Y dL_law_424 rfl rfl ?_
    refine gw_iload_n Y dL_law_425 rfl rfl ?_
    refine gw_iconst Y dL_law_426 ki_1 ?_
    refine gw_iadd Y dL_law_427 ?_
    refine gw_sld Y X dL_law_428 hi1 ?_
    refine gw_aload_n Y dL_law_429 rfl rfl ?_
    refine gw_iload_n Y dL_law_430 rfl rfl ?_
    refine gw_iconst Y dL_law_431 ki_2 ?_
    refine gw_iadd Y dL_law_432 ?_
    refine gw_sld Y X dL_law_433 hi2 ?_
    refine gw_st Y X [.int (xs (x3 + (1 : Int32)).toNatClampNeg), .int (xs (x3 + (2 : Int32)).toNatClampNeg)] dL_law_434 mw_X12_sun mlL_56 s_117 (ok_X12_sun (xs (x3 + (1 : Int32)).toNatClampNeg) (xs (x3 + (2 : Int32)).toNatClampNeg) _ _ _ e2) rfl rfl rfl rfl (Nat.le_of_ble_eq_true rfl) (Nat.le_of_ble_eq_true rfl) (Nat.le_of_ble_eq_true rfl) (Nat.le_of_ble_eq_true rfl) (Nat.le_of_ble_eq_true rfl) ?_
    exact gw_icmpeq Y 1251 dL_law_437 (by decide) (fun _ => fin _ i2) (fun c => absurd rfl c)
  refine gw_swC (off := 410) Y (10 : Int32) 442 dL_law_32 (by decide) (by decide) (by decide) (by decide) (fun _ => ?_) (fun c10 => ?_)
  · obtain ⟨r, h1, h2, e1, e2, i2⟩ := s10 (xs (x3 + (1 : Int32)).toNatClampNeg) (xs (x3 + (2 : Int32)).toNatClampNeg) (xs (x3 + (3 : Int32)).toNatClampNeg) h hI
    refine gw_aload_n Y dL_law_442 rfl rfl ?_
    refine gw_aload_n Y dL_law_443 rfl rfl ?_
    refine gw_iload_n Y dL_law_444 rfl rfl ?_
    refine gw_iconst Y dL_law_445 ki_1 ?_
    refine gw_iadd Y dL_law_446 ?_
    refine gw_sld Y X dL_law_447 hi1 ?_
    refine gw_aload_n Y dL_law_448 rfl rfl ?_
    refine gw_iload_n Y dL_law_449 rfl rfl ?_
    refine gw_iconst Y dL_law_450 ki_2 ?_
    refine gw_iadd Y dL_law_451 ?_
    refine gw_sld Y X dL_law_452 hi2 ?_
    refine gw_aload_n Y dL_law_453 rfl rfl ?_
    refine gw_iload_n Y dL_law_454 rfl rfl ?_
    refine gw_iconst Y dL_law_455 ki_3 ?_
    refine gw_iadd Y dL_law_456 ?_
    refine gw_sld Y X dL_law_457 hi3 ?_
    refine gw_st Y X [.int (xs (x3 + (1 : Int32)).toNatClampNeg), .int (xs (x3 + (2 : Int32)).toNatClampNeg), .int (xs (x3 + (3 : Int32)).toNatClampNeg)] dL_law_458 mw_X11_point mlL_57 s_0 (ok_X11_point (xs (x3 + (1 : Int32)).toNatClampNeg) (xs (x3 + (2 : Int32)).toNatClampNeg) (xs (x3 + (3 : Int32)).toNatClampNeg) _ _ _ e1) rfl rfl rfl rfl (Nat.le_of_ble_eq_true rfl) (Nat.le_of_ble_eq_true rfl) (Nat.le_of_ble_eq_true rfl) (Nat.le_of_ble_eq_true rfl) (Nat.le_of_ble_eq_true rfl) ?_
    refine gw_aload_n Y dL_law_461 rfl rfl ?_
    refine gw_aload_n Y dL_law_462 rfl rfl ?_
    refine gw_iload_n Y dL_law_463 rfl rfl ?_
    refine gw_iconst Y dL_law_464 ki_1 ?_
    refine gw_iadd Y dL_law_465 ?_
    refine gw_sld Y X dL_law_466 hi1 ?_
    refine gw_aload_n Y dL_law_467 rfl rfl ?_
    refine gw_iload_n Y dL_law_468 rfl rfl ?_
    refine gw_iconst Y dL_law_469 ki_2 ?_
    refine gw_iadd Y dL_law_470 ?_
    refine gw_sld Y X dL_law_471 hi2 ?_
    refine gw_aload_n Y dL_law_472 rfl rfl ?_
    refine gw_iload_n Y dL_law_473 rfl rfl ?_
    refine gw_iconst Y dL_law_474 ki_3 ?_
    refine gw_iadd Y dL_law_475 ?_
    refine gw_sld Y X dL_law_476 hi3 ?_
    refine gw_st Y X [.int (xs (x3 + (1 : Int32)).toNatClampNeg), .int (xs (x3 + (2 : Int32)).toNatClampNeg), .int (xs (x3 + (3 : Int32)).toNatClampNeg)] dL_law_477 mw_X12_point mlL_60 s_117 (ok_X12_point (xs (x3 + (1 : Int32)).toNatClampNeg) (xs (x3 + (2 : Int32)).toNatClampNeg) (xs (x3 + (3 : Int32)).toNatClampNeg) _ _ _ e2) rfl rfl rfl rfl (Nat.le_of_ble_eq_true rfl) (Nat.le_of_ble_eq_true rfl) (Nat.le_of_ble_eq_true rfl) (Nat.le_of_ble_eq_true rfl) (Nat.le_of_ble_eq_true rfl) ?_
    exact gw_icmpeq Y 1251 dL_law_480 (by decide) (fun _ => fin _ i2) (fun c => absurd rfl c)
  refine gw_swC (off := 453) Y (11 : Int32) 485 dL_law_32 (by decide) (by decide) (by decide) (by decide) (fun _ => ?_) (fun c11 => ?_)
  · obtain ⟨r, h1, h2, e1, e2, i2⟩ := s11 (xs (x3 + (1 : Int32)).toNatClampNeg) (xs (x3 + (2 : Int32)).toNatClampNeg) (xs (x3 + (3 : Int32)).toNatClampNeg) h hI
    refine gw_aload_n Y dL_law_485 rfl rfl ?_
    refine gw_aload_n Y dL_law_486 rfl rfl ?_
    refine gw_iload_n Y dL_law_487 rfl rfl ?_
    refine gw_iconst Y dL_law_488 ki_1 ?_
    refine gw_iadd Y dL_law_489 ?_
    refine gw_sld Y X dL_law_490 hi1 ?_
    refine gw_aload_n Y dL_law_491 rfl rfl ?_
    refine gw_iload_n Y dL_law_492 rfl rfl ?_
    refine gw_iconst Y dL_law_493 ki_2 ?_
    refine gw_iadd Y dL_law_494 ?_
    refine gw_sld Y X dL_law_495 hi2 ?_
    refine gw_aload_n Y dL_law_496 rfl rfl ?_
    refine gw_iload_n Y dL_law_497 rfl rfl ?_
    refine gw_iconst Y dL_law_498 ki_3 ?_
    refine gw_iadd Y dL_law_499 ?_
    refine gw_sld Y X dL_law_500 hi3 ?_
    refine gw_st Y X [.int (xs (x3 + (1 : Int32)).toNatClampNeg), .int (xs (x3 + (2 : Int32)).toNatClampNeg), .int (xs (x3 + (3 : Int32)).toNatClampNeg)] dL_law_501 mw_X11_length mlL_61 s_0 (ok_X11_length (xs (x3 + (1 : Int32)).toNatClampNeg) (xs (x3 + (2 : Int32)).toNatClampNeg) (xs (x3 + (3 : Int32)).toNatClampNeg) _ _ _ e1) rfl rfl rfl rfl (Nat.le_of_ble_eq_true rfl) (Nat.le_of_ble_eq_true rfl) (Nat.le_of_ble_eq_true rfl) (Nat.le_of_ble_eq_true rfl) (Nat.le_of_ble_eq_true rfl) ?_
    refine gw_aload_n Y dL_law_504 rfl rfl ?_
    refine gw_aload_n Y dL_law_505 rfl rfl ?_
    refine gw_iload_n Y dL_law_506 rfl rfl ?_
    refine gw_iconst Y dL_law_507 ki_1 ?_
    refine gw_iadd Y dL_law_508 ?_
    refine gw_sld Y X dL_law_509 hi1 ?_
    refine gw_aload_n Y dL_law_510 rfl rfl ?_
    refine gw_iload_n Y dL_law_511 rfl rfl ?_
    refine gw_iconst Y dL_law_512 ki_2 ?_
    refine gw_iadd Y dL_law_513 ?_
    refine gw_sld Y X dL_law_514 hi2 ?_
    refine gw_aload_n Y dL_law_515 rfl rfl ?_
    refine gw_iload_n Y dL_law_516 rfl rfl ?_
    refine gw_iconst Y dL_law_517 ki_3 ?_
    refine gw_iadd Y dL_law_518 ?_
    refine gw_sld Y X dL_law_519 hi3 ?_
    refine gw_st Y X [.int (xs (x3 + (1 : Int32)).toNatClampNeg), .int (xs (x3 + (2 : Int32)).toNatClampNeg), .int (xs (x3 + (3 : Int32)).toNatClampNeg)] dL_law_520 mw_X12_length mlL_64 s_117 (ok_X12_length (xs (x3 + (1 : Int32)).toNatClampNeg) (xs (x3 + (2 : Int32)).toNatClampNeg) (xs (x3 + (3 : Int32)).toNatClampNeg) _ _ _ e2) rfl rfl rfl rfl (Nat.le_of_ble_eq_true rfl) (Nat.le_of_ble_eq_true rfl) (Nat.le_of_ble_eq_true rfl) (Nat.le_of_ble_eq_true rfl) (Nat.le_of_ble_eq_true rfl) ?_
    exact gw_icmpeq Y 1251 dL_law_523 (by decide) (fun _ => fin _ i2) (fun c => absurd rfl c)
  refine gw_swC (off := 496) Y (12 : Int32) 528 dL_law_32 (by decide) (by decide) (by decide) (by decide) (fun _ => ?_) (fun c12 => ?_)
  · obtain ⟨r, h1, h2, e1, e2, i2⟩ := s12 (xs (x3 + (1 : Int32)).toNatClampNeg) (xs (x3 + (2 : Int32)).toNatClampNeg) (xs (x3 + (3 : Int32)).toNatClampNeg) h hI
    refine gw_aload_n Y dL_law_528 rfl rfl ?_
    refine gw_aload_n Y dL_law_529 rfl rfl ?_
    refine gw_iload_n Y dL_law_530 rfl rfl ?_
    refine gw_iconst Y dL_law_531 ki_1 ?_
    refine gw_iadd Y dL_law_532 ?_
    refine gw_sld Y X dL_law_533 hi1 ?_
    refine gw_aload_n Y dL_law_534 rfl rfl ?_
    refine gw_iload_n Y dL_law_535 rfl rfl ?_
    refine gw_iconst Y dL_law_536 ki_2 ?_
    refine gw_iadd Y dL_law_537 ?_
    refine gw_sld Y X dL_law_538 hi2 ?_
    refine gw_aload_n Y dL_law_539 rfl rfl ?_
    refine gw_iload_n Y dL_law_540 rfl rfl ?_
    refine gw_iconst Y dL_law_541 ki_3 ?_
    refine gw_iadd Y dL_law_542 ?_
    refine gw_sld Y X dL_law_543 hi3 ?_
    refine gw_st Y X [.int (xs (x3 + (1 : Int32)).toNatClampNeg), .int (xs (x3 + (2 : Int32)).toNatClampNeg), .int (xs (x3 + (3 : Int32)).toNatClampNeg)] dL_law_544 mw_X11_see mlL_65 s_0 (ok_X11_see (xs (x3 + (1 : Int32)).toNatClampNeg) (xs (x3 + (2 : Int32)).toNatClampNeg) (xs (x3 + (3 : Int32)).toNatClampNeg) _ _ _ e1) rfl rfl rfl rfl (Nat.le_of_ble_eq_true rfl) (Nat.le_of_ble_eq_true rfl) (Nat.le_of_ble_eq_true rfl) (Nat.le_of_ble_eq_true rfl) (Nat.le_of_ble_eq_true rfl) ?_
    refine gw_aload_n Y dL_law_547 rfl rfl ?_
    refine gw_aload_n Y dL_law_548 rfl rfl ?_
    refine gw_iload_n Y dL_law_549 rfl rfl ?_
    refine gw_iconst Y dL_law_550 ki_1 ?_
    refine gw_iadd Y dL_law_551 ?_
    refine gw_sld Y X dL_law_552 hi1 ?_
    refine gw_aload_n Y dL_law_553 rfl rfl ?_
    refine gw_iload_n Y dL_law_554 rfl rfl ?_
    refine gw_iconst Y dL_law_555 ki_2 ?_
    refine gw_iadd Y dL_law_556 ?_
    refine gw_sld Y X dL_law_557 hi2 ?_
    refine gw_aload_n Y dL_law_558 rfl rfl ?_
    refine gw_iload_n Y dL_law_559 rfl rfl ?_
    refine gw_iconst Y dL_law_560 ki_3 ?_
    refine gw_iadd Y dL_law_561 ?_
    refine gw_sld Y X dL_law_562 hi3 ?_
    refine gw_st Y X [.int (xs (x3 + (1 : Int32)).toNatClampNeg), .int (xs (x3 + (2 : Int32)).toNatClampNeg), .int (xs (x3 + (3 : Int32)).toNatClampNeg)] dL_law_563 mw_X12_see mlL_68 s_117 (ok_X12_see (xs (x3 + (1 : Int32)).toNatClampNeg) (xs (x3 + (2 : Int32)).toNatClampNeg) (xs (x3 + (3 : Int32)).toNatClampNeg) _ _ _ e2) rfl rfl rfl rfl (Nat.le_of_ble_eq_true rfl) (Nat.le_of_ble_eq_true rfl) (Nat.le_of_ble_eq_true rfl) (Nat.le_of_ble_eq_true rfl) (Nat.le_of_ble_eq_true rfl) ?_
    exact gw_icmpeq Y 1251 dL_law_566 (by decide) (fun _ => fin _ i2) (fun c => absurd rfl c)
  refine gw_swC (off := 539) Y (13 : Int32) 571 dL_law_32 (by decide) (by decide) (by decide) (by decide) (fun _ => ?_) (fun c13 => ?_)
  · obtain ⟨r, h1, h2, e1, e2, i2⟩ := s13 (xs (x3 + (1 : Int32)).toNatClampNeg) (xs (x3 + (2 : Int32)).toNatClampNeg) h hI
    refine gw_aload_n Y dL_law_571 rfl rfl ?_
    refine gw_aload_n Y dL_law_572 rfl rfl ?_
    refine gw_iload_n Y dL_law_573 rfl rfl ?_
    refine gw_iconst Y dL_law_574 ki_1 ?_
    refine gw_iadd Y dL_law_575 ?_
    refine gw_sld Y X dL_law_576 hi1 ?_
    refine gw_aload_n Y dL_law_577 rfl rfl ?_
    refine gw_iload_n Y dL_law_578 rfl rfl ?_
    refine gw_iconst Y dL_law_579 ki_2 ?_
    refine gw_iadd Y dL_law_580 ?_
    refine gw_sld Y X dL_law_581 hi2 ?_
    refine gw_st Y X [.int (xs (x3 + (1 : Int32)).toNatClampNeg), .int (xs (x3 + (2 : Int32)).toNatClampNeg)] dL_law_582 mw_X11_strike mlL_69 s_0 (ok_X11_strike (xs (x3 + (1 : Int32)).toNatClampNeg) (xs (x3 + (2 : Int32)).toNatClampNeg) _ _ _ e1) rfl rfl rfl rfl (Nat.le_of_ble_eq_true rfl) (Nat.le_of_ble_eq_true rfl) (Nat.le_of_ble_eq_true rfl) (Nat.le_of_ble_eq_true rfl) (Nat.le_of_ble_eq_true rfl) ?_
    refine gw_aload_n Y dL_law_585 rfl rfl ?_
    refine gw_aload_n Y dL_law_586 rfl rfl ?_
    refine gw_iload_n Y dL_law_587 rfl rfl ?_
    refine gw_iconst Y dL_law_588 ki_1 ?_
    refine gw_iadd Y dL_law_589 ?_
    refine gw_sld Y X dL_law_590 hi1 ?_
    refine gw_aload_n Y dL_law_591 rfl rfl ?_
    refine gw_iload_n Y dL_law_592 rfl rfl ?_
    refine gw_iconst Y dL_law_593 ki_2 ?_
    refine gw_iadd Y dL_law_594 ?_
    refine gw_sld Y X dL_law_595 hi2 ?_
    refine gw_st Y X [.int (xs (x3 + (1 : Int32)).toNatClampNeg), .int (xs (x3 + (2 : Int32)).toNatClampNeg)] dL_law_596 mw_X12_strike mlL_72 s_117 (ok_X12_strike (xs (x3 + (1 : Int32)).toNatClampNeg) (xs (x3 + (2 : Int32)).toNatClampNeg) _ _ _ e2) rfl rfl rfl rfl (Nat.le_of_ble_eq_true rfl) (Nat.le_of_ble_eq_true rfl) (Nat.le_of_ble_eq_true rfl) (Nat.le_of_ble_eq_true rfl) (Nat.le_of_ble_eq_true rfl) ?_
    exact gw_icmpeq Y 1251 dL_law_599 (by decide) (fun _ => fin _ i2) (fun c => absurd rfl c)
  refine gw_swC (off := 572) Y (14 : Int32) 604 dL_law_32 (by decide) (by decide) (by decide) (by decide) (fun _ => ?_) (fun c14 => ?_)
  · obtain ⟨r, h1, h2, e1, e2, i2⟩ := s14 h hI
    refine gw_aload_n Y dL_law_604 rfl rfl ?_
    refine gw_st Y X [] dL_law_605 mw_X11_undo mlL_73 s_0 (ok_X11_undo _ _ _ e1) rfl rfl rfl rfl (Nat.le_of_ble_eq_true rfl) (Nat.le_of_ble_eq_true rfl) (Nat.le_of_ble_eq_true rfl) (Nat.le_of_ble_eq_true rfl) (Nat.le_of_ble_eq_true rfl) ?_
    refine gw_aload_n Y dL_law_608 rfl rfl ?_
    refine gw_st Y X [] dL_law_609 mw_X12_undo mlL_76 s_117 (ok_X12_undo _ _ _ e2) rfl rfl rfl rfl (Nat.le_of_ble_eq_true rfl) (Nat.le_of_ble_eq_true rfl) (Nat.le_of_ble_eq_true rfl) (Nat.le_of_ble_eq_true rfl) (Nat.le_of_ble_eq_true rfl) ?_
    exact gw_icmpeq Y 1251 dL_law_612 (by decide) (fun _ => fin _ i2) (fun c => absurd rfl c)
  refine gw_swC (off := 585) Y (15 : Int32) 617 dL_law_32 (by decide) (by decide) (by decide) (by decide) (fun _ => ?_) (fun c15 => ?_)
  · obtain ⟨r, h1, h2, e1, e2, i2⟩ := s15 (xs (x3 + (1 : Int32)).toNatClampNeg) h hI
    refine gw_aload_n Y dL_law_617 rfl rfl ?_
    refine gw_aload_n Y dL_law_618 rfl rfl ?_
    refine gw_iload_n Y dL_law_619 rfl rfl ?_
    refine gw_iconst Y dL_law_620 ki_1 ?_
    refine gw_iadd Y dL_law_621 ?_
    refine gw_sld Y X dL_law_622 hi1 ?_
    refine gw_st Y X [.int (xs (x3 + (1 : Int32)).toNatClampNeg)] dL_law_623 mw_X11_keep mlL_77 s_0 (ok_X11_keep (xs (x3 + (1 : Int32)).toNatClampNeg) _ _ _ e1) rfl rfl rfl rfl (Nat.le_of_ble_eq_true rfl) (Nat.le_of_ble_eq_true rfl) (Nat.le_of_ble_eq_true rfl) (Nat.le_of_ble_eq_true rfl) (Nat.le_of_ble_eq_true rfl) ?_
    refine gw_aload_n Y dL_law_626 rfl rfl ?_
    refine gw_aload_n Y dL_law_627 rfl rfl ?_
    refine gw_iload_n Y dL_law_628 rfl rfl ?_
    refine gw_iconst Y dL_law_629 ki_1 ?_
    refine gw_iadd Y dL_law_630 ?_
    refine gw_sld Y X dL_law_631 hi1 ?_
    refine gw_st Y X [.int (xs (x3 + (1 : Int32)).toNatClampNeg)] dL_law_632 mw_X12_keep mlL_80 s_117 (ok_X12_keep (xs (x3 + (1 : Int32)).toNatClampNeg) _ _ _ e2) rfl rfl rfl rfl (Nat.le_of_ble_eq_true rfl) (Nat.le_of_ble_eq_true rfl) (Nat.le_of_ble_eq_true rfl) (Nat.le_of_ble_eq_true rfl) (Nat.le_of_ble_eq_true rfl) ?_
    exact gw_icmpeq Y 1251 dL_law_635 (by decide) (fun _ => fin _ i2) (fun c => absurd rfl c)
  refine gw_swC (off := 608) Y (16 : Int32) 640 dL_law_32 (by decide) (by decide) (by decide) (by decide) (fun _ => ?_) (fun c16 => ?_)
  · obtain ⟨r, h1, h2, e1, e2, i2⟩ := s16 (xs (x3 + (1 : Int32)).toNatClampNeg) h hI
    refine gw_aload_n Y dL_law_640 rfl rfl ?_
    refine gw_aload_n Y dL_law_641 rfl rfl ?_
    refine gw_iload_n Y dL_law_642 rfl rfl ?_
    refine gw_iconst Y dL_law_643 ki_1 ?_
    refine gw_iadd Y dL_law_644 ?_
    refine gw_sld Y X dL_law_645 hi1 ?_
    refine gw_st Y X [.int (xs (x3 + (1 : Int32)).toNatClampNeg)] dL_law_646 mw_X11_back mlL_81 s_0 (ok_X11_back (xs (x3 + (1 : Int32)).toNatClampNeg) _ _ _ e1) rfl rfl rfl rfl (Nat.le_of_ble_eq_true rfl) (Nat.le_of_ble_eq_true rfl) (Nat.le_of_ble_eq_true rfl) (Nat.le_of_ble_eq_true rfl) (Nat.le_of_ble_eq_true rfl) ?_
    refine gw_aload_n Y dL_law_649 rfl rfl ?_
    refine gw_aload_n Y dL_law_650 rfl rfl ?_
    refine gw_iload_n Y dL_law_651 rfl rfl ?_
    refine gw_iconst Y dL_law_652 ki_1 ?_
    refine gw_iadd Y dL_law_653 ?_
    refine gw_sld Y X dL_law_654 hi1 ?_
    refine gw_st Y X [.int (xs (x3 + (1 : Int32)).toNatClampNeg)] dL_law_655 mw_X12_back mlL_84 s_117 (ok_X12_back (xs (x3 + (1 : Int32)).toNatClampNeg) _ _ _ e2) rfl rfl rfl rfl (Nat.le_of_ble_eq_true rfl) (Nat.le_of_ble_eq_true rfl) (Nat.le_of_ble_eq_true rfl) (Nat.le_of_ble_eq_true rfl) (Nat.le_of_ble_eq_true rfl) ?_
    exact gw_icmpeq Y 1251 dL_law_658 (by decide) (fun _ => fin _ i2) (fun c => absurd rfl c)
  refine gw_swC (off := 631) Y (17 : Int32) 663 dL_law_32 (by decide) (by decide) (by decide) (by decide) (fun _ => ?_) (fun c17 => ?_)
  · obtain ⟨r, h1, h2, e1, e2, i2⟩ := s17 (xs (x3 + (1 : Int32)).toNatClampNeg) (xs (x3 + (2 : Int32)).toNatClampNeg) h hI
    refine gw_aload_n Y dL_law_663 rfl rfl ?_
    refine gw_aload_n Y dL_law_664 rfl rfl ?_
    refine gw_iload_n Y dL_law_665 rfl rfl ?_
    refine gw_iconst Y dL_law_666 ki_1 ?_
    refine gw_iadd Y dL_law_667 ?_
    refine gw_sld Y X dL_law_668 hi1 ?_
    refine gw_aload_n Y dL_law_669 rfl rfl ?_
    refine gw_iload_n Y dL_law_670 rfl rfl ?_
    refine gw_iconst Y dL_law_671 ki_2 ?_
    refine gw_iadd Y dL_law_672 ?_
    refine gw_sld Y X dL_law_673 hi2 ?_
    refine gw_st Y X [.int (xs (x3 + (1 : Int32)).toNatClampNeg), .int (xs (x3 + (2 : Int32)).toNatClampNeg)] dL_law_674 mw_X11_before mlL_85 s_0 (ok_X11_before (xs (x3 + (1 : Int32)).toNatClampNeg) (xs (x3 + (2 : Int32)).toNatClampNeg) _ _ _ e1) rfl rfl rfl rfl (Nat.le_of_ble_eq_true rfl) (Nat.le_of_ble_eq_true rfl) (Nat.le_of_ble_eq_true rfl) (Nat.le_of_ble_eq_true rfl) (Nat.le_of_ble_eq_true rfl) ?_
    refine gw_aload_n Y dL_law_677 rfl rfl ?_
    refine gw_aload_n Y dL_law_678 rfl rfl ?_
    refine gw_iload_n Y dL_law_679 rfl rfl ?_
    refine gw_iconst Y dL_law_680 ki_1 ?_
    refine gw_iadd Y dL_law_681 ?_
    refine gw_sld Y X dL_law_682 hi1 ?_
    refine gw_aload_n Y dL_law_683 rfl rfl ?_
    refine gw_iload_n Y dL_law_684 rfl rfl ?_
    refine gw_iconst Y dL_law_685 ki_2 ?_
    refine gw_iadd Y dL_law_686 ?_
    refine gw_sld Y X dL_law_687 hi2 ?_
    refine gw_st Y X [.int (xs (x3 + (1 : Int32)).toNatClampNeg), .int (xs (x3 + (2 : Int32)).toNatClampNeg)] dL_law_688 mw_X12_before mlL_88 s_117 (ok_X12_before (xs (x3 + (1 : Int32)).toNatClampNeg) (xs (x3 + (2 : Int32)).toNatClampNeg) _ _ _ e2) rfl rfl rfl rfl (Nat.le_of_ble_eq_true rfl) (Nat.le_of_ble_eq_true rfl) (Nat.le_of_ble_eq_true rfl) (Nat.le_of_ble_eq_true rfl) (Nat.le_of_ble_eq_true rfl) ?_
    exact gw_icmpeq Y 1251 dL_law_691 (by decide) (fun _ => fin _ i2) (fun c => absurd rfl c)
  refine gw_swC (off := 664) Y (18 : Int32) 696 dL_law_32 (by decide) (by decide) (by decide) (by decide) (fun _ => ?_) (fun c18 => ?_)
  · obtain ⟨r, h1, h2, e1, e2, i2⟩ := s18 h hI
    refine gw_aload_n Y dL_law_696 rfl rfl ?_
    refine gw_st Y X [] dL_law_697 mw_X11_orders mlL_89 s_0 (ok_X11_orders _ _ _ e1) rfl rfl rfl rfl (Nat.le_of_ble_eq_true rfl) (Nat.le_of_ble_eq_true rfl) (Nat.le_of_ble_eq_true rfl) (Nat.le_of_ble_eq_true rfl) (Nat.le_of_ble_eq_true rfl) ?_
    refine gw_aload_n Y dL_law_700 rfl rfl ?_
    refine gw_st Y X [] dL_law_701 mw_X12_orders mlL_92 s_117 (ok_X12_orders _ _ _ e2) rfl rfl rfl rfl (Nat.le_of_ble_eq_true rfl) (Nat.le_of_ble_eq_true rfl) (Nat.le_of_ble_eq_true rfl) (Nat.le_of_ble_eq_true rfl) (Nat.le_of_ble_eq_true rfl) ?_
    exact gw_icmpeq Y 1251 dL_law_704 (by decide) (fun _ => fin _ i2) (fun c => absurd rfl c)
  refine gw_swC (off := 677) Y (19 : Int32) 709 dL_law_32 (by decide) (by decide) (by decide) (by decide) (fun _ => ?_) (fun c19 => ?_)
  · obtain ⟨r, h1, h2, e1, e2, i2⟩ := s19 (xs (x3 + (1 : Int32)).toNatClampNeg) (xs (x3 + (2 : Int32)).toNatClampNeg) h hI
    refine gw_aload_n Y dL_law_709 rfl rfl ?_
    refine gw_aload_n Y dL_law_710 rfl rfl ?_
    refine gw_iload_n Y dL_law_711 rfl rfl ?_
    refine gw_iconst Y dL_law_712 ki_1 ?_
    refine gw_iadd Y dL_law_713 ?_
    refine gw_sld Y X dL_law_714 hi1 ?_
    refine gw_aload_n Y dL_law_715 rfl rfl ?_
    refine gw_iload_n Y dL_law_716 rfl rfl ?_
    refine gw_iconst Y dL_law_717 ki_2 ?_
    refine gw_iadd Y dL_law_718 ?_
    refine gw_sld Y X dL_law_719 hi2 ?_
    refine gw_st Y X [.int (xs (x3 + (1 : Int32)).toNatClampNeg), .int (xs (x3 + (2 : Int32)).toNatClampNeg)] dL_law_720 mw_X11_order mlL_93 s_0 (ok_X11_order (xs (x3 + (1 : Int32)).toNatClampNeg) (xs (x3 + (2 : Int32)).toNatClampNeg) _ _ _ e1) rfl rfl rfl rfl (Nat.le_of_ble_eq_true rfl) (Nat.le_of_ble_eq_true rfl) (Nat.le_of_ble_eq_true rfl) (Nat.le_of_ble_eq_true rfl) (Nat.le_of_ble_eq_true rfl) ?_
    refine gw_aload_n Y dL_law_723 rfl rfl ?_
    refine gw_aload_n Y dL_law_724 rfl rfl ?_
    refine gw_iload_n Y dL_law_725 rfl rfl ?_
    refine gw_iconst Y dL_law_726 ki_1 ?_
    refine gw_iadd Y dL_law_727 ?_
    refine gw_sld Y X dL_law_728 hi1 ?_
    refine gw_aload_n Y dL_law_729 rfl rfl ?_
    refine gw_iload_n Y dL_law_730 rfl rfl ?_
    refine gw_iconst Y dL_law_731 ki_2 ?_
    refine gw_iadd Y dL_law_732 ?_
    refine gw_sld Y X dL_law_733 hi2 ?_
    refine gw_st Y X [.int (xs (x3 + (1 : Int32)).toNatClampNeg), .int (xs (x3 + (2 : Int32)).toNatClampNeg)] dL_law_734 mw_X12_order mlL_96 s_117 (ok_X12_order (xs (x3 + (1 : Int32)).toNatClampNeg) (xs (x3 + (2 : Int32)).toNatClampNeg) _ _ _ e2) rfl rfl rfl rfl (Nat.le_of_ble_eq_true rfl) (Nat.le_of_ble_eq_true rfl) (Nat.le_of_ble_eq_true rfl) (Nat.le_of_ble_eq_true rfl) (Nat.le_of_ble_eq_true rfl) ?_
    exact gw_icmpeq Y 1251 dL_law_737 (by decide) (fun _ => fin _ i2) (fun c => absurd rfl c)
  refine gw_swC (off := 710) Y (20 : Int32) 742 dL_law_32 (by decide) (by decide) (by decide) (by decide) (fun _ => ?_) (fun c20 => ?_)
  · obtain ⟨r, h1, h2, e1, e2, i2⟩ := s20 (xs (x3 + (1 : Int32)).toNatClampNeg) (xs (x3 + (2 : Int32)).toNatClampNeg) h hI
    refine gw_aload_n Y dL_law_742 rfl rfl ?_
    refine gw_aload_n Y dL_law_743 rfl rfl ?_
    refine gw_iload_n Y dL_law_744 rfl rfl ?_
    refine gw_iconst Y dL_law_745 ki_1 ?_
    refine gw_iadd Y dL_law_746 ?_
    refine gw_sld Y X dL_law_747 hi1 ?_
    refine gw_aload_n Y dL_law_748 rfl rfl ?_
    refine gw_iload_n Y dL_law_749 rfl rfl ?_
    refine gw_iconst Y dL_law_750 ki_2 ?_
    refine gw_iadd Y dL_law_751 ?_
    refine gw_sld Y X dL_law_752 hi2 ?_
    refine gw_st Y X [.int (xs (x3 + (1 : Int32)).toNatClampNeg), .int (xs (x3 + (2 : Int32)).toNatClampNeg)] dL_law_753 mw_X11_place mlL_97 s_0 (ok_X11_place (xs (x3 + (1 : Int32)).toNatClampNeg) (xs (x3 + (2 : Int32)).toNatClampNeg) _ _ _ e1) rfl rfl rfl rfl (Nat.le_of_ble_eq_true rfl) (Nat.le_of_ble_eq_true rfl) (Nat.le_of_ble_eq_true rfl) (Nat.le_of_ble_eq_true rfl) (Nat.le_of_ble_eq_true rfl) ?_
    refine gw_aload_n Y dL_law_756 rfl rfl ?_
    refine gw_aload_n Y dL_law_757 rfl rfl ?_
    refine gw_iload_n Y dL_law_758 rfl rfl ?_
    refine gw_iconst Y dL_law_759 ki_1 ?_
    refine gw_iadd Y dL_law_760 ?_
    refine gw_sld Y X dL_law_761 hi1 ?_
    refine gw_aload_n Y dL_law_762 rfl rfl ?_
    refine gw_iload_n Y dL_law_763 rfl rfl ?_
    refine gw_iconst Y dL_law_764 ki_2 ?_
    refine gw_iadd Y dL_law_765 ?_
    refine gw_sld Y X dL_law_766 hi2 ?_
    refine gw_st Y X [.int (xs (x3 + (1 : Int32)).toNatClampNeg), .int (xs (x3 + (2 : Int32)).toNatClampNeg)] dL_law_767 mw_X12_place mlL_100 s_117 (ok_X12_place (xs (x3 + (1 : Int32)).toNatClampNeg) (xs (x3 + (2 : Int32)).toNatClampNeg) _ _ _ e2) rfl rfl rfl rfl (Nat.le_of_ble_eq_true rfl) (Nat.le_of_ble_eq_true rfl) (Nat.le_of_ble_eq_true rfl) (Nat.le_of_ble_eq_true rfl) (Nat.le_of_ble_eq_true rfl) ?_
    exact gw_icmpeq Y 1251 dL_law_770 (by decide) (fun _ => fin _ i2) (fun c => absurd rfl c)
  refine gw_swC (off := 743) Y (21 : Int32) 775 dL_law_32 (by decide) (by decide) (by decide) (by decide) (fun _ => ?_) (fun c21 => ?_)
  · obtain ⟨r, h1, h2, e1, e2, i2⟩ := s21 (xs (x3 + (1 : Int32)).toNatClampNeg) (xs (x3 + (2 : Int32)).toNatClampNeg) h hI
    refine gw_aload_n Y dL_law_775 rfl rfl ?_
    refine gw_aload_n Y dL_law_776 rfl rfl ?_
    refine gw_iload_n Y dL_law_777 rfl rfl ?_
    refine gw_iconst Y dL_law_778 ki_1 ?_
    refine gw_iadd Y dL_law_779 ?_
    refine gw_sld Y X dL_law_780 hi1 ?_
    refine gw_aload_n Y dL_law_781 rfl rfl ?_
    refine gw_iload_n Y dL_law_782 rfl rfl ?_
    refine gw_iconst Y dL_law_783 ki_2 ?_
    refine gw_iadd Y dL_law_784 ?_
    refine gw_sld Y X dL_law_785 hi2 ?_
    refine gw_st Y X [.int (xs (x3 + (1 : Int32)).toNatClampNeg), .int (xs (x3 + (2 : Int32)).toNatClampNeg)] dL_law_786 mw_X11_often mlL_101 s_0 (ok_X11_often (xs (x3 + (1 : Int32)).toNatClampNeg) (xs (x3 + (2 : Int32)).toNatClampNeg) _ _ _ e1) rfl rfl rfl rfl (Nat.le_of_ble_eq_true rfl) (Nat.le_of_ble_eq_true rfl) (Nat.le_of_ble_eq_true rfl) (Nat.le_of_ble_eq_true rfl) (Nat.le_of_ble_eq_true rfl) ?_
    refine gw_aload_n Y dL_law_789 rfl rfl ?_
    refine gw_aload_n Y dL_law_790 rfl rfl ?_
    refine gw_iload_n Y dL_law_791 rfl rfl ?_
    refine gw_iconst Y dL_law_792 ki_1 ?_
    refine gw_iadd Y dL_law_793 ?_
    refine gw_sld Y X dL_law_794 hi1 ?_
    refine gw_aload_n Y dL_law_795 rfl rfl ?_
    refine gw_iload_n Y dL_law_796 rfl rfl ?_
    refine gw_iconst Y dL_law_797 ki_2 ?_
    refine gw_iadd Y dL_law_798 ?_
    refine gw_sld Y X dL_law_799 hi2 ?_
    refine gw_st Y X [.int (xs (x3 + (1 : Int32)).toNatClampNeg), .int (xs (x3 + (2 : Int32)).toNatClampNeg)] dL_law_800 mw_X12_often mlL_104 s_117 (ok_X12_often (xs (x3 + (1 : Int32)).toNatClampNeg) (xs (x3 + (2 : Int32)).toNatClampNeg) _ _ _ e2) rfl rfl rfl rfl (Nat.le_of_ble_eq_true rfl) (Nat.le_of_ble_eq_true rfl) (Nat.le_of_ble_eq_true rfl) (Nat.le_of_ble_eq_true rfl) (Nat.le_of_ble_eq_true rfl) ?_
    exact gw_icmpeq Y 1251 dL_law_803 (by decide) (fun _ => fin _ i2) (fun c => absurd rfl c)
  refine gw_swC (off := 776) Y (22 : Int32) 808 dL_law_32 (by decide) (by decide) (by decide) (by decide) (fun _ => ?_) (fun c22 => ?_)
  · obtain ⟨r, h1, h2, e1, e2, i2⟩ := s22 (xs (x3 + (1 : Int32)).toNatClampNeg) (xs (x3 + (2 : Int32)).toNatClampNeg) h hI
    refine gw_aload_n Y dL_law_808 rfl rfl ?_
    refine gw_aload_n Y dL_law_809 rfl rfl ?_
    refine gw_iload_n Y dL_law_810 rfl rfl ?_
    refine gw_iconst Y dL_law_811 ki_1 ?_
    refine gw_iadd Y dL_law_812 ?_
    refine gw_sld Y X dL_law_813 hi1 ?_
    refine gw_aload_n Y dL_law_814 rfl rfl ?_
    refine gw_iload_n Y dL_law_815 rfl rfl ?_
    refine gw_iconst Y dL_law_816 ki_2 ?_
    refine gw_iadd Y dL_law_817 ?_
    refine gw_sld Y X dL_law_818 hi2 ?_
    refine gw_st Y X [.int (xs (x3 + (1 : Int32)).toNatClampNeg), .int (xs (x3 + (2 : Int32)).toNatClampNeg)] dL_law_819 mw_X11_left mlL_105 s_0 (ok_X11_left (xs (x3 + (1 : Int32)).toNatClampNeg) (xs (x3 + (2 : Int32)).toNatClampNeg) _ _ _ e1) rfl rfl rfl rfl (Nat.le_of_ble_eq_true rfl) (Nat.le_of_ble_eq_true rfl) (Nat.le_of_ble_eq_true rfl) (Nat.le_of_ble_eq_true rfl) (Nat.le_of_ble_eq_true rfl) ?_
    refine gw_aload_n Y dL_law_822 rfl rfl ?_
    refine gw_aload_n Y dL_law_823 rfl rfl ?_
    refine gw_iload_n Y dL_law_824 rfl rfl ?_
    refine gw_iconst Y dL_law_825 ki_1 ?_
    refine gw_iadd Y dL_law_826 ?_
    refine gw_sld Y X dL_law_827 hi1 ?_
    refine gw_aload_n Y dL_law_828 rfl rfl ?_
    refine gw_iload_n Y dL_law_829 rfl rfl ?_
    refine gw_iconst Y dL_law_830 ki_2 ?_
    refine gw_iadd Y dL_law_831 ?_
    refine gw_sld Y X dL_law_832 hi2 ?_
    refine gw_st Y X [.int (xs (x3 + (1 : Int32)).toNatClampNeg), .int (xs (x3 + (2 : Int32)).toNatClampNeg)] dL_law_833 mw_X12_left mlL_108 s_117 (ok_X12_left (xs (x3 + (1 : Int32)).toNatClampNeg) (xs (x3 + (2 : Int32)).toNatClampNeg) _ _ _ e2) rfl rfl rfl rfl (Nat.le_of_ble_eq_true rfl) (Nat.le_of_ble_eq_true rfl) (Nat.le_of_ble_eq_true rfl) (Nat.le_of_ble_eq_true rfl) (Nat.le_of_ble_eq_true rfl) ?_
    exact gw_icmpeq Y 1251 dL_law_836 (by decide) (fun _ => fin _ i2) (fun c => absurd rfl c)
  refine gw_swC (off := 809) Y (23 : Int32) 841 dL_law_32 (by decide) (by decide) (by decide) (by decide) (fun _ => ?_) (fun c23 => ?_)
  · obtain ⟨r, h1, h2, e1, e2, i2⟩ := s23 (xs (x3 + (1 : Int32)).toNatClampNeg) h hI
    refine gw_aload_n Y dL_law_841 rfl rfl ?_
    refine gw_aload_n Y dL_law_842 rfl rfl ?_
    refine gw_iload_n Y dL_law_843 rfl rfl ?_
    refine gw_iconst Y dL_law_844 ki_1 ?_
    refine gw_iadd Y dL_law_845 ?_
    refine gw_sld Y X dL_law_846 hi1 ?_
    refine gw_st Y X [.int (xs (x3 + (1 : Int32)).toNatClampNeg)] dL_law_847 mw_X11_knot mlL_109 s_0 (ok_X11_knot (xs (x3 + (1 : Int32)).toNatClampNeg) _ _ _ e1) rfl rfl rfl rfl (Nat.le_of_ble_eq_true rfl) (Nat.le_of_ble_eq_true rfl) (Nat.le_of_ble_eq_true rfl) (Nat.le_of_ble_eq_true rfl) (Nat.le_of_ble_eq_true rfl) ?_
    refine gw_aload_n Y dL_law_850 rfl rfl ?_
    refine gw_aload_n Y dL_law_851 rfl rfl ?_
    refine gw_iload_n Y dL_law_852 rfl rfl ?_
    refine gw_iconst Y dL_law_853 ki_1 ?_
    refine gw_iadd Y dL_law_854 ?_
    refine gw_sld Y X dL_law_855 hi1 ?_
    refine gw_st Y X [.int (xs (x3 + (1 : Int32)).toNatClampNeg)] dL_law_856 mw_X12_knot mlL_112 s_117 (ok_X12_knot (xs (x3 + (1 : Int32)).toNatClampNeg) _ _ _ e2) rfl rfl rfl rfl (Nat.le_of_ble_eq_true rfl) (Nat.le_of_ble_eq_true rfl) (Nat.le_of_ble_eq_true rfl) (Nat.le_of_ble_eq_true rfl) (Nat.le_of_ble_eq_true rfl) ?_
    exact gw_icmpeq Y 1251 dL_law_859 (by decide) (fun _ => fin _ i2) (fun c => absurd rfl c)
  refine gw_swC (off := 832) Y (24 : Int32) 864 dL_law_32 (by decide) (by decide) (by decide) (by decide) (fun _ => ?_) (fun c24 => ?_)
  · obtain ⟨r, h1, h2, e1, e2, i2⟩ := s24 (xs (x3 + (1 : Int32)).toNatClampNeg) h hI
    refine gw_aload_n Y dL_law_864 rfl rfl ?_
    refine gw_aload_n Y dL_law_865 rfl rfl ?_
    refine gw_iload_n Y dL_law_866 rfl rfl ?_
    refine gw_iconst Y dL_law_867 ki_1 ?_
    refine gw_iadd Y dL_law_868 ?_
    refine gw_sld Y X dL_law_869 hi1 ?_
    refine gw_st Y X [.int (xs (x3 + (1 : Int32)).toNatClampNeg)] dL_law_870 mw_X11_loose mlL_113 s_0 (ok_X11_loose (xs (x3 + (1 : Int32)).toNatClampNeg) _ _ _ e1) rfl rfl rfl rfl (Nat.le_of_ble_eq_true rfl) (Nat.le_of_ble_eq_true rfl) (Nat.le_of_ble_eq_true rfl) (Nat.le_of_ble_eq_true rfl) (Nat.le_of_ble_eq_true rfl) ?_
    refine gw_aload_n Y dL_law_873 rfl rfl ?_
    refine gw_aload_n Y dL_law_874 rfl rfl ?_
    refine gw_iload_n Y dL_law_875 rfl rfl ?_
    refine gw_iconst Y dL_law_876 ki_1 ?_
    refine gw_iadd Y dL_law_877 ?_
    refine gw_sld Y X dL_law_878 hi1 ?_
    refine gw_st Y X [.int (xs (x3 + (1 : Int32)).toNatClampNeg)] dL_law_879 mw_X12_loose mlL_116 s_117 (ok_X12_loose (xs (x3 + (1 : Int32)).toNatClampNeg) _ _ _ e2) rfl rfl rfl rfl (Nat.le_of_ble_eq_true rfl) (Nat.le_of_ble_eq_true rfl) (Nat.le_of_ble_eq_true rfl) (Nat.le_of_ble_eq_true rfl) (Nat.le_of_ble_eq_true rfl) ?_
    exact gw_icmpeq Y 1251 dL_law_882 (by decide) (fun _ => fin _ i2) (fun c => absurd rfl c)
  refine gw_swC (off := 855) Y (25 : Int32) 887 dL_law_32 (by decide) (by decide) (by decide) (by decide) (fun _ => ?_) (fun c25 => ?_)
  · obtain ⟨r, h1, h2, e1, e2, i2⟩ := s25 (xs (x3 + (1 : Int32)).toNatClampNeg) (xs (x3 + (2 : Int32)).toNatClampNeg) (xs (x3 + (3 : Int32)).toNatClampNeg) h hI
    refine gw_aload_n Y dL_law_887 rfl rfl ?_
    refine gw_aload_n Y dL_law_888 rfl rfl ?_
    refine gw_iload_n Y dL_law_889 rfl rfl ?_
    refine gw_iconst Y dL_law_890 ki_1 ?_
    refine gw_iadd Y dL_law_891 ?_
    refine gw_sld Y X dL_law_892 hi1 ?_
    refine gw_aload_n Y dL_law_893 rfl rfl ?_
    refine gw_iload_n Y dL_law_894 rfl rfl ?_
    refine gw_iconst Y dL_law_895 ki_2 ?_
    refine gw_iadd Y dL_law_896 ?_
    refine gw_sld Y X dL_law_897 hi2 ?_
    refine gw_aload_n Y dL_law_898 rfl rfl ?_
    refine gw_iload_n Y dL_law_899 rfl rfl ?_
    refine gw_iconst Y dL_law_900 ki_3 ?_
    refine gw_iadd Y dL_law_901 ?_
    refine gw_sld Y X dL_law_902 hi3 ?_
    refine gw_st Y X [.int (xs (x3 + (1 : Int32)).toNatClampNeg), .int (xs (x3 + (2 : Int32)).toNatClampNeg), .int (xs (x3 + (3 : Int32)).toNatClampNeg)] dL_law_903 mw_X11_would mlL_117 s_0 (ok_X11_would (xs (x3 + (1 : Int32)).toNatClampNeg) (xs (x3 + (2 : Int32)).toNatClampNeg) (xs (x3 + (3 : Int32)).toNatClampNeg) _ _ _ e1) rfl rfl rfl rfl (Nat.le_of_ble_eq_true rfl) (Nat.le_of_ble_eq_true rfl) (Nat.le_of_ble_eq_true rfl) (Nat.le_of_ble_eq_true rfl) (Nat.le_of_ble_eq_true rfl) ?_
    refine gw_aload_n Y dL_law_906 rfl rfl ?_
    refine gw_aload_n Y dL_law_907 rfl rfl ?_
    refine gw_iload_n Y dL_law_908 rfl rfl ?_
    refine gw_iconst Y dL_law_909 ki_1 ?_
    refine gw_iadd Y dL_law_910 ?_
    refine gw_sld Y X dL_law_911 hi1 ?_
    refine gw_aload_n Y dL_law_912 rfl rfl ?_
    refine gw_iload_n Y dL_law_913 rfl rfl ?_
    refine gw_iconst Y dL_law_914 ki_2 ?_
    refine gw_iadd Y dL_law_915 ?_
    refine gw_sld Y X dL_law_916 hi2 ?_
    refine gw_aload_n Y dL_law_917 rfl rfl ?_
    refine gw_iload_n Y dL_law_918 rfl rfl ?_
    refine gw_iconst Y dL_law_919 ki_3 ?_
    refine gw_iadd Y dL_law_920 ?_
    refine gw_sld Y X dL_law_921 hi3 ?_
    refine gw_st Y X [.int (xs (x3 + (1 : Int32)).toNatClampNeg), .int (xs (x3 + (2 : Int32)).toNatClampNeg), .int (xs (x3 + (3 : Int32)).toNatClampNeg)] dL_law_922 mw_X12_would mlL_120 s_117 (ok_X12_would (xs (x3 + (1 : Int32)).toNatClampNeg) (xs (x3 + (2 : Int32)).toNatClampNeg) (xs (x3 + (3 : Int32)).toNatClampNeg) _ _ _ e2) rfl rfl rfl rfl (Nat.le_of_ble_eq_true rfl) (Nat.le_of_ble_eq_true rfl) (Nat.le_of_ble_eq_true rfl) (Nat.le_of_ble_eq_true rfl) (Nat.le_of_ble_eq_true rfl) ?_
    exact gw_icmpeq Y 1251 dL_law_925 (by decide) (fun _ => fin _ i2) (fun c => absurd rfl c)
  refine gw_swC (off := 898) Y (26 : Int32) 930 dL_law_32 (by decide) (by decide) (by decide) (by decide) (fun _ => ?_) (fun c26 => ?_)
  · obtain ⟨r, h1, h2, e1, e2, i2⟩ := s26 (xs (x3 + (1 : Int32)).toNatClampNeg) h hI
    refine gw_aload_n Y dL_law_930 rfl rfl ?_
    refine gw_aload_n Y dL_law_931 rfl rfl ?_
    refine gw_iload_n Y dL_law_932 rfl rfl ?_
    refine gw_iconst Y dL_law_933 ki_1 ?_
    refine gw_iadd Y dL_law_934 ?_
    refine gw_sld Y X dL_law_935 hi1 ?_
    refine gw_st Y X [.int (xs (x3 + (1 : Int32)).toNatClampNeg)] dL_law_936 mw_X11_ask mlL_121 s_0 (ok_X11_ask (xs (x3 + (1 : Int32)).toNatClampNeg) _ _ _ e1) rfl rfl rfl rfl (Nat.le_of_ble_eq_true rfl) (Nat.le_of_ble_eq_true rfl) (Nat.le_of_ble_eq_true rfl) (Nat.le_of_ble_eq_true rfl) (Nat.le_of_ble_eq_true rfl) ?_
    refine gw_aload_n Y dL_law_939 rfl rfl ?_
    refine gw_aload_n Y dL_law_940 rfl rfl ?_
    refine gw_iload_n Y dL_law_941 rfl rfl ?_
    refine gw_iconst Y dL_law_942 ki_1 ?_
    refine gw_iadd Y dL_law_943 ?_
    refine gw_sld Y X dL_law_944 hi1 ?_
    refine gw_st Y X [.int (xs (x3 + (1 : Int32)).toNatClampNeg)] dL_law_945 mw_X12_ask mlL_124 s_117 (ok_X12_ask (xs (x3 + (1 : Int32)).toNatClampNeg) _ _ _ e2) rfl rfl rfl rfl (Nat.le_of_ble_eq_true rfl) (Nat.le_of_ble_eq_true rfl) (Nat.le_of_ble_eq_true rfl) (Nat.le_of_ble_eq_true rfl) (Nat.le_of_ble_eq_true rfl) ?_
    exact gw_icmpeq Y 1251 dL_law_948 (by decide) (fun _ => fin _ i2) (fun c => absurd rfl c)
  refine gw_swC (off := 921) Y (27 : Int32) 953 dL_law_32 (by decide) (by decide) (by decide) (by decide) (fun _ => ?_) (fun c27 => ?_)
  · obtain ⟨r, h1, h2, e1, e2, i2⟩ := s27 (xs (x3 + (1 : Int32)).toNatClampNeg) (xs (x3 + (2 : Int32)).toNatClampNeg) h hI
    refine gw_aload_n Y dL_law_953 rfl rfl ?_
    refine gw_aload_n Y dL_law_954 rfl rfl ?_
    refine gw_iload_n Y dL_law_955 rfl rfl ?_
    refine gw_iconst Y dL_law_956 ki_1 ?_
    refine gw_iadd Y dL_law_957 ?_
    refine gw_sld Y X dL_law_958 hi1 ?_
    refine gw_aload_n Y dL_law_959 rfl rfl ?_
    refine gw_iload_n Y dL_law_960 rfl rfl ?_
    refine gw_iconst Y dL_law_961 ki_2 ?_
    refine gw_iadd Y dL_law_962 ?_
    refine gw_sld Y X dL_law_963 hi2 ?_
    refine gw_st Y X [.int (xs (x3 + (1 : Int32)).toNatClampNeg), .int (xs (x3 + (2 : Int32)).toNatClampNeg)] dL_law_964 mw_X11_strip mlL_125 s_0 (ok_X11_strip (xs (x3 + (1 : Int32)).toNatClampNeg) (xs (x3 + (2 : Int32)).toNatClampNeg) _ _ _ e1) rfl rfl rfl rfl (Nat.le_of_ble_eq_true rfl) (Nat.le_of_ble_eq_true rfl) (Nat.le_of_ble_eq_true rfl) (Nat.le_of_ble_eq_true rfl) (Nat.le_of_ble_eq_true rfl) ?_
    refine gw_aload_n Y dL_law_967 rfl rfl ?_
    refine gw_aload_n Y dL_law_968 rfl rfl ?_
    refine gw_iload_n Y dL_law_969 rfl rfl ?_
    refine gw_iconst Y dL_law_970 ki_1 ?_
    refine gw_iadd Y dL_law_971 ?_
    refine gw_sld Y X dL_law_972 hi1 ?_
    refine gw_aload_n Y dL_law_973 rfl rfl ?_
    refine gw_iload_n Y dL_law_974 rfl rfl ?_
    refine gw_iconst Y dL_law_975 ki_2 ?_
    refine gw_iadd Y dL_law_976 ?_
    refine gw_sld Y X dL_law_977 hi2 ?_
    refine gw_st Y X [.int (xs (x3 + (1 : Int32)).toNatClampNeg), .int (xs (x3 + (2 : Int32)).toNatClampNeg)] dL_law_978 mw_X12_strip mlL_128 s_117 (ok_X12_strip (xs (x3 + (1 : Int32)).toNatClampNeg) (xs (x3 + (2 : Int32)).toNatClampNeg) _ _ _ e2) rfl rfl rfl rfl (Nat.le_of_ble_eq_true rfl) (Nat.le_of_ble_eq_true rfl) (Nat.le_of_ble_eq_true rfl) (Nat.le_of_ble_eq_true rfl) (Nat.le_of_ble_eq_true rfl) ?_
    exact gw_icmpeq Y 1251 dL_law_981 (by decide) (fun _ => fin _ i2) (fun c => absurd rfl c)
  refine gw_swC (off := 954) Y (28 : Int32) 986 dL_law_32 (by decide) (by decide) (by decide) (by decide) (fun _ => ?_) (fun c28 => ?_)
  · obtain ⟨r, h1, h2, e1, e2, i2⟩ := s28 (xs (x3 + (1 : Int32)).toNatClampNeg) (xs (x3 + (2 : Int32)).toNatClampNeg) (xs (x3 + (3 : Int32)).toNatClampNeg) h hI
    refine gw_aload_n Y dL_law_986 rfl rfl ?_
    refine gw_aload_n Y dL_law_987 rfl rfl ?_
    refine gw_iload_n Y dL_law_988 rfl rfl ?_
    refine gw_iconst Y dL_law_989 ki_1 ?_
    refine gw_iadd Y dL_law_990 ?_
    refine gw_sld Y X dL_law_991 hi1 ?_
    refine gw_aload_n Y dL_law_992 rfl rfl ?_
    refine gw_iload_n Y dL_law_993 rfl rfl ?_
    refine gw_iconst Y dL_law_994 ki_2 ?_
    refine gw_iadd Y dL_law_995 ?_
    refine gw_sld Y X dL_law_996 hi2 ?_
    refine gw_aload_n Y dL_law_997 rfl rfl ?_
    refine gw_iload_n Y dL_law_998 rfl rfl ?_
    refine gw_iconst Y dL_law_999 ki_3 ?_
    refine gw_iadd Y dL_law_1000 ?_
    refine gw_sld Y X dL_law_1001 hi3 ?_
    refine gw_st Y X [.int (xs (x3 + (1 : Int32)).toNatClampNeg), .int (xs (x3 + (2 : Int32)).toNatClampNeg), .int (xs (x3 + (3 : Int32)).toNatClampNeg)] dL_law_1002 mw_X11_set mlL_129 s_0 (ok_X11_set (xs (x3 + (1 : Int32)).toNatClampNeg) (xs (x3 + (2 : Int32)).toNatClampNeg) (xs (x3 + (3 : Int32)).toNatClampNeg) _ _ _ e1) rfl rfl rfl rfl (Nat.le_of_ble_eq_true rfl) (Nat.le_of_ble_eq_true rfl) (Nat.le_of_ble_eq_true rfl) (Nat.le_of_ble_eq_true rfl) (Nat.le_of_ble_eq_true rfl) ?_
    refine gw_aload_n Y dL_law_1005 rfl rfl ?_
    refine gw_aload_n Y dL_law_1006 rfl rfl ?_
    refine gw_iload_n Y dL_law_1007 rfl rfl ?_
    refine gw_iconst Y dL_law_1008 ki_1 ?_
    refine gw_iadd Y dL_law_1009 ?_
    refine gw_sld Y X dL_law_1010 hi1 ?_
    refine gw_aload_n Y dL_law_1011 rfl rfl ?_
    refine gw_iload_n Y dL_law_1012 rfl rfl ?_
    refine gw_iconst Y dL_law_1013 ki_2 ?_
    refine gw_iadd Y dL_law_1014 ?_
    refine gw_sld Y X dL_law_1015 hi2 ?_
    refine gw_aload_n Y dL_law_1016 rfl rfl ?_
    refine gw_iload_n Y dL_law_1017 rfl rfl ?_
    refine gw_iconst Y dL_law_1018 ki_3 ?_
    refine gw_iadd Y dL_law_1019 ?_
    refine gw_sld Y X dL_law_1020 hi3 ?_
    refine gw_st Y X [.int (xs (x3 + (1 : Int32)).toNatClampNeg), .int (xs (x3 + (2 : Int32)).toNatClampNeg), .int (xs (x3 + (3 : Int32)).toNatClampNeg)] dL_law_1021 mw_X12_set mlL_132 s_117 (ok_X12_set (xs (x3 + (1 : Int32)).toNatClampNeg) (xs (x3 + (2 : Int32)).toNatClampNeg) (xs (x3 + (3 : Int32)).toNatClampNeg) _ _ _ e2) rfl rfl rfl rfl (Nat.le_of_ble_eq_true rfl) (Nat.le_of_ble_eq_true rfl) (Nat.le_of_ble_eq_true rfl) (Nat.le_of_ble_eq_true rfl) (Nat.le_of_ble_eq_true rfl) ?_
    exact gw_icmpeq Y 1251 dL_law_1024 (by decide) (fun _ => fin _ i2) (fun c => absurd rfl c)
  refine gw_swC (off := 997) Y (29 : Int32) 1029 dL_law_32 (by decide) (by decide) (by decide) (by decide) (fun _ => ?_) (fun c29 => ?_)
  · obtain ⟨r, h1, h2, e1, e2, i2⟩ := s29 (xs (x3 + (1 : Int32)).toNatClampNeg) (xs (x3 + (2 : Int32)).toNatClampNeg) (xs (x3 + (3 : Int32)).toNatClampNeg) (xs (x3 + (4 : Int32)).toNatClampNeg) h hI
    refine gw_aload_n Y dL_law_1029 rfl rfl ?_
    refine gw_aload_n Y dL_law_1030 rfl rfl ?_
    refine gw_iload_n Y dL_law_1031 rfl rfl ?_
    refine gw_iconst Y dL_law_1032 ki_1 ?_
    refine gw_iadd Y dL_law_1033 ?_
    refine gw_sld Y X dL_law_1034 hi1 ?_
    refine gw_aload_n Y dL_law_1035 rfl rfl ?_
    refine gw_iload_n Y dL_law_1036 rfl rfl ?_
    refine gw_iconst Y dL_law_1037 ki_2 ?_
    refine gw_iadd Y dL_law_1038 ?_
    refine gw_sld Y X dL_law_1039 hi2 ?_
    refine gw_aload_n Y dL_law_1040 rfl rfl ?_
    refine gw_iload_n Y dL_law_1041 rfl rfl ?_
    refine gw_iconst Y dL_law_1042 ki_3 ?_
    refine gw_iadd Y dL_law_1043 ?_
    refine gw_sld Y X dL_law_1044 hi3 ?_
    refine gw_aload_n Y dL_law_1045 rfl rfl ?_
    refine gw_iload_n Y dL_law_1046 rfl rfl ?_
    refine gw_iconst Y dL_law_1047 ki_4 ?_
    refine gw_iadd Y dL_law_1048 ?_
    refine gw_sld Y X dL_law_1049 hi4 ?_
    refine gw_st Y X [.int (xs (x3 + (1 : Int32)).toNatClampNeg), .int (xs (x3 + (2 : Int32)).toNatClampNeg), .int (xs (x3 + (3 : Int32)).toNatClampNeg), .int (xs (x3 + (4 : Int32)).toNatClampNeg)] dL_law_1050 mw_X11_load mlL_133 s_0 (ok_X11_load (xs (x3 + (1 : Int32)).toNatClampNeg) (xs (x3 + (2 : Int32)).toNatClampNeg) (xs (x3 + (3 : Int32)).toNatClampNeg) (xs (x3 + (4 : Int32)).toNatClampNeg) _ _ _ e1) rfl rfl rfl rfl (Nat.le_of_ble_eq_true rfl) (Nat.le_of_ble_eq_true rfl) (Nat.le_of_ble_eq_true rfl) (Nat.le_of_ble_eq_true rfl) (Nat.le_of_ble_eq_true rfl) ?_
    refine gw_aload_n Y dL_law_1053 rfl rfl ?_
    refine gw_aload_n Y dL_law_1054 rfl rfl ?_
    refine gw_iload_n Y dL_law_1055 rfl rfl ?_
    refine gw_iconst Y dL_law_1056 ki_1 ?_
    refine gw_iadd Y dL_law_1057 ?_
    refine gw_sld Y X dL_law_1058 hi1 ?_
    refine gw_aload_n Y dL_law_1059 rfl rfl ?_
    refine gw_iload_n Y dL_law_1060 rfl rfl ?_
    refine gw_iconst Y dL_law_1061 ki_2 ?_
    refine gw_iadd Y dL_law_1062 ?_
    refine gw_sld Y X dL_law_1063 hi2 ?_
    refine gw_aload_n Y dL_law_1064 rfl rfl ?_
    refine gw_iload_n Y dL_law_1065 rfl rfl ?_
    refine gw_iconst Y dL_law_1066 ki_3 ?_
    refine gw_iadd Y dL_law_1067 ?_
    refine gw_sld Y X dL_law_1068 hi3 ?_
    refine gw_aload_n Y dL_law_1069 rfl rfl ?_
    refine gw_iload_n Y dL_law_1070 rfl rfl ?_
    refine gw_iconst Y dL_law_1071 ki_4 ?_
    refine gw_iadd Y dL_law_1072 ?_
    refine gw_sld Y X dL_law_1073 hi4 ?_
    refine gw_st Y X [.int (xs (x3 + (1 : Int32)).toNatClampNeg), .int (xs (x3 + (2 : Int32)).toNatClampNeg), .int (xs (x3 + (3 : Int32)).toNatClampNeg), .int (xs (x3 + (4 : Int32)).toNatClampNeg)] dL_law_1074 mw_X12_load mlL_137 s_117 (ok_X12_load (xs (x3 + (1 : Int32)).toNatClampNeg) (xs (x3 + (2 : Int32)).toNatClampNeg) (xs (x3 + (3 : Int32)).toNatClampNeg) (xs (x3 + (4 : Int32)).toNatClampNeg) _ _ _ e2) rfl rfl rfl rfl (Nat.le_of_ble_eq_true rfl) (Nat.le_of_ble_eq_true rfl) (Nat.le_of_ble_eq_true rfl) (Nat.le_of_ble_eq_true rfl) (Nat.le_of_ble_eq_true rfl) ?_
    exact gw_icmpeq Y 1251 dL_law_1077 (by decide) (fun _ => fin _ i2) (fun c => absurd rfl c)
  refine gw_swC (off := 1050) Y (30 : Int32) 1082 dL_law_32 (by decide) (by decide) (by decide) (by decide) (fun _ => ?_) (fun c30 => ?_)
  · obtain ⟨r, h1, h2, e1, e2, i2⟩ := s30 (xs (x3 + (1 : Int32)).toNatClampNeg) (xs (x3 + (2 : Int32)).toNatClampNeg) (xs (x3 + (3 : Int32)).toNatClampNeg) (xs (x3 + (4 : Int32)).toNatClampNeg) h hI
    refine gw_aload_n Y dL_law_1082 rfl rfl ?_
    refine gw_aload_n Y dL_law_1083 rfl rfl ?_
    refine gw_iload_n Y dL_law_1084 rfl rfl ?_
    refine gw_iconst Y dL_law_1085 ki_1 ?_
    refine gw_iadd Y dL_law_1086 ?_
    refine gw_sld Y X dL_law_1087 hi1 ?_
    refine gw_aload_n Y dL_law_1088 rfl rfl ?_
    refine gw_iload_n Y dL_law_1089 rfl rfl ?_
    refine gw_iconst Y dL_law_1090 ki_2 ?_
    refine gw_iadd Y dL_law_1091 ?_
    refine gw_sld Y X dL_law_1092 hi2 ?_
    refine gw_aload_n Y dL_law_1093 rfl rfl ?_
    refine gw_iload_n Y dL_law_1094 rfl rfl ?_
    refine gw_iconst Y dL_law_1095 ki_3 ?_
    refine gw_iadd Y dL_law_1096 ?_
    refine gw_sld Y X dL_law_1097 hi3 ?_
    refine gw_aload_n Y dL_law_1098 rfl rfl ?_
    refine gw_iload_n Y dL_law_1099 rfl rfl ?_
    refine gw_iconst Y dL_law_1100 ki_4 ?_
    refine gw_iadd Y dL_law_1101 ?_
    refine gw_sld Y X dL_law_1102 hi4 ?_
    refine gw_st Y X [.int (xs (x3 + (1 : Int32)).toNatClampNeg), .int (xs (x3 + (2 : Int32)).toNatClampNeg), .int (xs (x3 + (3 : Int32)).toNatClampNeg), .int (xs (x3 + (4 : Int32)).toNatClampNeg)] dL_law_1103 mw_X11_work mlL_138 s_0 (ok_X11_work (xs (x3 + (1 : Int32)).toNatClampNeg) (xs (x3 + (2 : Int32)).toNatClampNeg) (xs (x3 + (3 : Int32)).toNatClampNeg) (xs (x3 + (4 : Int32)).toNatClampNeg) _ _ _ e1) rfl rfl rfl rfl (Nat.le_of_ble_eq_true rfl) (Nat.le_of_ble_eq_true rfl) (Nat.le_of_ble_eq_true rfl) (Nat.le_of_ble_eq_true rfl) (Nat.le_of_ble_eq_true rfl) ?_
    refine gw_aload_n Y dL_law_1106 rfl rfl ?_
    refine gw_aload_n Y dL_law_1107 rfl rfl ?_
    refine gw_iload_n Y dL_law_1108 rfl rfl ?_
    refine gw_iconst Y dL_law_1109 ki_1 ?_
    refine gw_iadd Y dL_law_1110 ?_
    refine gw_sld Y X dL_law_1111 hi1 ?_
    refine gw_aload_n Y dL_law_1112 rfl rfl ?_
    refine gw_iload_n Y dL_law_1113 rfl rfl ?_
    refine gw_iconst Y dL_law_1114 ki_2 ?_
    refine gw_iadd Y dL_law_1115 ?_
    refine gw_sld Y X dL_law_1116 hi2 ?_
    refine gw_aload_n Y dL_law_1117 rfl rfl ?_
    refine gw_iload_n Y dL_law_1118 rfl rfl ?_
    refine gw_iconst Y dL_law_1119 ki_3 ?_
    refine gw_iadd Y dL_law_1120 ?_
    refine gw_sld Y X dL_law_1121 hi3 ?_
    refine gw_aload_n Y dL_law_1122 rfl rfl ?_
    refine gw_iload_n Y dL_law_1123 rfl rfl ?_
    refine gw_iconst Y dL_law_1124 ki_4 ?_
    refine gw_iadd Y dL_law_1125 ?_
    refine gw_sld Y X dL_law_1126 hi4 ?_
    refine gw_st Y X [.int (xs (x3 + (1 : Int32)).toNatClampNeg), .int (xs (x3 + (2 : Int32)).toNatClampNeg), .int (xs (x3 + (3 : Int32)).toNatClampNeg), .int (xs (x3 + (4 : Int32)).toNatClampNeg)] dL_law_1127 mw_X12_work mlL_141 s_117 (ok_X12_work (xs (x3 + (1 : Int32)).toNatClampNeg) (xs (x3 + (2 : Int32)).toNatClampNeg) (xs (x3 + (3 : Int32)).toNatClampNeg) (xs (x3 + (4 : Int32)).toNatClampNeg) _ _ _ e2) rfl rfl rfl rfl (Nat.le_of_ble_eq_true rfl) (Nat.le_of_ble_eq_true rfl) (Nat.le_of_ble_eq_true rfl) (Nat.le_of_ble_eq_true rfl) (Nat.le_of_ble_eq_true rfl) ?_
    exact gw_icmpeq Y 1251 dL_law_1130 (by decide) (fun _ => fin _ i2) (fun c => absurd rfl c)
  refine gw_swC (off := 1103) Y (31 : Int32) 1135 dL_law_32 (by decide) (by decide) (by decide) (by decide) (fun _ => ?_) (fun c31 => ?_)
  · obtain ⟨r, h1, h2, e1, e2, i2⟩ := s31 (xs (x3 + (1 : Int32)).toNatClampNeg) (xs (x3 + (2 : Int32)).toNatClampNeg) h hI
    refine gw_aload_n Y dL_law_1135 rfl rfl ?_
    refine gw_aload_n Y dL_law_1136 rfl rfl ?_
    refine gw_iload_n Y dL_law_1137 rfl rfl ?_
    refine gw_iconst Y dL_law_1138 ki_1 ?_
    refine gw_iadd Y dL_law_1139 ?_
    refine gw_sld Y X dL_law_1140 hi1 ?_
    refine gw_aload_n Y dL_law_1141 rfl rfl ?_
    refine gw_iload_n Y dL_law_1142 rfl rfl ?_
    refine gw_iconst Y dL_law_1143 ki_2 ?_
    refine gw_iadd Y dL_law_1144 ?_
    refine gw_sld Y X dL_law_1145 hi2 ?_
    refine gw_st Y X [.int (xs (x3 + (1 : Int32)).toNatClampNeg), .int (xs (x3 + (2 : Int32)).toNatClampNeg)] dL_law_1146 mw_X11_bits mlL_142 s_0 (ok_X11_bits (xs (x3 + (1 : Int32)).toNatClampNeg) (xs (x3 + (2 : Int32)).toNatClampNeg) _ _ _ e1) rfl rfl rfl rfl (Nat.le_of_ble_eq_true rfl) (Nat.le_of_ble_eq_true rfl) (Nat.le_of_ble_eq_true rfl) (Nat.le_of_ble_eq_true rfl) (Nat.le_of_ble_eq_true rfl) ?_
    refine gw_aload_n Y dL_law_1149 rfl rfl ?_
    refine gw_aload_n Y dL_law_1150 rfl rfl ?_
    refine gw_iload_n Y dL_law_1151 rfl rfl ?_
    refine gw_iconst Y dL_law_1152 ki_1 ?_
    refine gw_iadd Y dL_law_1153 ?_
    refine gw_sld Y X dL_law_1154 hi1 ?_
    refine gw_aload_n Y dL_law_1155 rfl rfl ?_
    refine gw_iload_n Y dL_law_1156 rfl rfl ?_
    refine gw_iconst Y dL_law_1157 ki_2 ?_
    refine gw_iadd Y dL_law_1158 ?_
    refine gw_sld Y X dL_law_1159 hi2 ?_
    refine gw_st Y X [.int (xs (x3 + (1 : Int32)).toNatClampNeg), .int (xs (x3 + (2 : Int32)).toNatClampNeg)] dL_law_1160 mw_X12_bits mlL_145 s_117 (ok_X12_bits (xs (x3 + (1 : Int32)).toNatClampNeg) (xs (x3 + (2 : Int32)).toNatClampNeg) _ _ _ e2) rfl rfl rfl rfl (Nat.le_of_ble_eq_true rfl) (Nat.le_of_ble_eq_true rfl) (Nat.le_of_ble_eq_true rfl) (Nat.le_of_ble_eq_true rfl) (Nat.le_of_ble_eq_true rfl) ?_
    exact gw_icmpeq Y 1251 dL_law_1163 (by decide) (fun _ => fin _ i2) (fun c => absurd rfl c)
  refine gw_swC (off := 1136) Y (32 : Int32) 1168 dL_law_32 (by decide) (by decide) (by decide) (by decide) (fun _ => ?_) (fun c32 => ?_)
  · obtain ⟨r, h1, h2, e1, e2, i2⟩ := s32 (xs (x3 + (1 : Int32)).toNatClampNeg) h hI
    refine gw_aload_n Y dL_law_1168 rfl rfl ?_
    refine gw_aload_n Y dL_law_1169 rfl rfl ?_
    refine gw_iload_n Y dL_law_1170 rfl rfl ?_
    refine gw_iconst Y dL_law_1171 ki_1 ?_
    refine gw_iadd Y dL_law_1172 ?_
    refine gw_sld Y X dL_law_1173 hi1 ?_
    refine gw_st Y X [.int (xs (x3 + (1 : Int32)).toNatClampNeg)] dL_law_1174 mw_X11_sum mlL_146 s_0 (ok_X11_sum (xs (x3 + (1 : Int32)).toNatClampNeg) _ _ _ e1) rfl rfl rfl rfl (Nat.le_of_ble_eq_true rfl) (Nat.le_of_ble_eq_true rfl) (Nat.le_of_ble_eq_true rfl) (Nat.le_of_ble_eq_true rfl) (Nat.le_of_ble_eq_true rfl) ?_
    refine gw_aload_n Y dL_law_1177 rfl rfl ?_
    refine gw_aload_n Y dL_law_1178 rfl rfl ?_
    refine gw_iload_n Y dL_law_1179 rfl rfl ?_
    refine gw_iconst Y dL_law_1180 ki_1 ?_
    refine gw_iadd Y dL_law_1181 ?_
    refine gw_sld Y X dL_law_1182 hi1 ?_
    refine gw_st Y X [.int (xs (x3 + (1 : Int32)).toNatClampNeg)] dL_law_1183 mw_X12_sum mlL_149 s_117 (ok_X12_sum (xs (x3 + (1 : Int32)).toNatClampNeg) _ _ _ e2) rfl rfl rfl rfl (Nat.le_of_ble_eq_true rfl) (Nat.le_of_ble_eq_true rfl) (Nat.le_of_ble_eq_true rfl) (Nat.le_of_ble_eq_true rfl) (Nat.le_of_ble_eq_true rfl) ?_
    exact gw_icmpeq Y 1251 dL_law_1186 (by decide) (fun _ => fin _ i2) (fun c => absurd rfl c)
  refine gw_swC (off := 1159) Y (33 : Int32) 1191 dL_law_32 (by decide) (by decide) (by decide) (by decide) (fun _ => ?_) (fun c33 => ?_)
  · obtain ⟨r, h1, h2, e1, e2, i2⟩ := s33 (xs (x3 + (1 : Int32)).toNatClampNeg) h hI
    refine gw_aload_n Y dL_law_1191 rfl rfl ?_
    refine gw_aload_n Y dL_law_1192 rfl rfl ?_
    refine gw_iload_n Y dL_law_1193 rfl rfl ?_
    refine gw_iconst Y dL_law_1194 ki_1 ?_
    refine gw_iadd Y dL_law_1195 ?_
    refine gw_sld Y X dL_law_1196 hi1 ?_
    refine gw_st Y X [.int (xs (x3 + (1 : Int32)).toNatClampNeg)] dL_law_1197 mw_X11_drop mlL_150 s_0 (ok_X11_drop (xs (x3 + (1 : Int32)).toNatClampNeg) _ _ _ e1) rfl rfl rfl rfl (Nat.le_of_ble_eq_true rfl) (Nat.le_of_ble_eq_true rfl) (Nat.le_of_ble_eq_true rfl) (Nat.le_of_ble_eq_true rfl) (Nat.le_of_ble_eq_true rfl) ?_
    refine gw_aload_n Y dL_law_1200 rfl rfl ?_
    refine gw_aload_n Y dL_law_1201 rfl rfl ?_
    refine gw_iload_n Y dL_law_1202 rfl rfl ?_
    refine gw_iconst Y dL_law_1203 ki_1 ?_
    refine gw_iadd Y dL_law_1204 ?_
    refine gw_sld Y X dL_law_1205 hi1 ?_
    refine gw_st Y X [.int (xs (x3 + (1 : Int32)).toNatClampNeg)] dL_law_1206 mw_X12_drop mlL_153 s_117 (ok_X12_drop (xs (x3 + (1 : Int32)).toNatClampNeg) _ _ _ e2) rfl rfl rfl rfl (Nat.le_of_ble_eq_true rfl) (Nat.le_of_ble_eq_true rfl) (Nat.le_of_ble_eq_true rfl) (Nat.le_of_ble_eq_true rfl) (Nat.le_of_ble_eq_true rfl) ?_
    exact gw_icmpeq Y 1251 dL_law_1209 (by decide) (fun _ => fin _ i2) (fun c => absurd rfl c)
  refine gw_swC (off := 1182) Y (34 : Int32) 1214 dL_law_32 (by decide) (by decide) (by decide) (by decide) (fun _ => ?_) (fun c34 => ?_)
  · obtain ⟨r, h1, h2, e1, e2, i2⟩ := s34 h hI
    refine gw_aload_n Y dL_law_1214 rfl rfl ?_
    refine gw_st Y X [] dL_law_1215 mw_X11_latest mlL_154 s_0 (ok_X11_latest _ _ _ e1) rfl rfl rfl rfl (Nat.le_of_ble_eq_true rfl) (Nat.le_of_ble_eq_true rfl) (Nat.le_of_ble_eq_true rfl) (Nat.le_of_ble_eq_true rfl) (Nat.le_of_ble_eq_true rfl) ?_
    refine gw_aload_n Y dL_law_1218 rfl rfl ?_
    refine gw_st Y X [] dL_law_1219 mw_X12_latest mlL_158 s_117 (ok_X12_latest _ _ _ e2) rfl rfl rfl rfl (Nat.le_of_ble_eq_true rfl) (Nat.le_of_ble_eq_true rfl) (Nat.le_of_ble_eq_true rfl) (Nat.le_of_ble_eq_true rfl) (Nat.le_of_ble_eq_true rfl) ?_
    refine gw_lcmp Y dL_law_1222 ?_
    exact gw_ifeq Y 1251 dL_law_1223 (by decide) (fun _ => fin _ i2) (fun c => absurd (lg_cmp_self _) c)
  refine gw_swC (off := 1196) Y (35 : Int32) 1228 dL_law_32 (by decide) (by decide) (by decide) (by decide) (fun _ => ?_) (fun c35 => ?_)
  · obtain ⟨r, h1, h2, e1, e2, i2⟩ := s35 (xs (x3 + (1 : Int32)).toNatClampNeg) h hI
    refine gw_aload_n Y dL_law_1228 rfl rfl ?_
    refine gw_aload_n Y dL_law_1229 rfl rfl ?_
    refine gw_iload_n Y dL_law_1230 rfl rfl ?_
    refine gw_iconst Y dL_law_1231 ki_1 ?_
    refine gw_iadd Y dL_law_1232 ?_
    refine gw_sld Y X dL_law_1233 hi1 ?_
    refine gw_st Y X [.int (xs (x3 + (1 : Int32)).toNatClampNeg)] dL_law_1234 mw_X11_count mlL_159 s_0 (ok_X11_count (xs (x3 + (1 : Int32)).toNatClampNeg) _ _ _ e1) rfl rfl rfl rfl (Nat.le_of_ble_eq_true rfl) (Nat.le_of_ble_eq_true rfl) (Nat.le_of_ble_eq_true rfl) (Nat.le_of_ble_eq_true rfl) (Nat.le_of_ble_eq_true rfl) ?_
    refine gw_aload_n Y dL_law_1237 rfl rfl ?_
    refine gw_aload_n Y dL_law_1238 rfl rfl ?_
    refine gw_iload_n Y dL_law_1239 rfl rfl ?_
    refine gw_iconst Y dL_law_1240 ki_1 ?_
    refine gw_iadd Y dL_law_1241 ?_
    refine gw_sld Y X dL_law_1242 hi1 ?_
    refine gw_st Y X [.int (xs (x3 + (1 : Int32)).toNatClampNeg)] dL_law_1243 mw_X12_count mlL_162 s_117 (ok_X12_count (xs (x3 + (1 : Int32)).toNatClampNeg) _ _ _ e2) rfl rfl rfl rfl (Nat.le_of_ble_eq_true rfl) (Nat.le_of_ble_eq_true rfl) (Nat.le_of_ble_eq_true rfl) (Nat.le_of_ble_eq_true rfl) (Nat.le_of_ble_eq_true rfl) ?_
    exact gw_icmpeq Y 1251 dL_law_1246 (by decide) (fun _ => fin _ i2) (fun c => absurd rfl c)
  have c0 := lv_neT c0 (a := 0) (by decide)
  have c1 := lv_neT c1 (a := 1) (by decide)
  have c2 := lv_neT c2 (a := 2) (by decide)
  have c3 := lv_neT c3 (a := 3) (by decide)
  have c4 := lv_neT c4 (a := 4) (by decide)
  have c5 := lv_neT c5 (a := 5) (by decide)
  have c6 := lv_neT c6 (a := 6) (by decide)
  have c7 := lv_neT c7 (a := 7) (by decide)
  have c8 := lv_neT c8 (a := 8) (by decide)
  have c9 := lv_neT c9 (a := 9) (by decide)
  have c10 := lv_neT c10 (a := 10) (by decide)
  have c11 := lv_neT c11 (a := 11) (by decide)
  have c12 := lv_neT c12 (a := 12) (by decide)
  have c13 := lv_neT c13 (a := 13) (by decide)
  have c14 := lv_neT c14 (a := 14) (by decide)
  have c15 := lv_neT c15 (a := 15) (by decide)
  have c16 := lv_neT c16 (a := 16) (by decide)
  have c17 := lv_neT c17 (a := 17) (by decide)
  have c18 := lv_neT c18 (a := 18) (by decide)
  have c19 := lv_neT c19 (a := 19) (by decide)
  have c20 := lv_neT c20 (a := 20) (by decide)
  have c21 := lv_neT c21 (a := 21) (by decide)
  have c22 := lv_neT c22 (a := 22) (by decide)
  have c23 := lv_neT c23 (a := 23) (by decide)
  have c24 := lv_neT c24 (a := 24) (by decide)
  have c25 := lv_neT c25 (a := 25) (by decide)
  have c26 := lv_neT c26 (a := 26) (by decide)
  have c27 := lv_neT c27 (a := 27) (by decide)
  have c28 := lv_neT c28 (a := 28) (by decide)
  have c29 := lv_neT c29 (a := 29) (by decide)
  have c30 := lv_neT c30 (a := 30) (by decide)
  have c31 := lv_neT c31 (a := 31) (by decide)
  have c32 := lv_neT c32 (a := 32) (by decide)
  have c33 := lv_neT c33 (a := 33) (by decide)
  have c34 := lv_neT c34 (a := 34) (by decide)
  have c35 := lv_neT c35 (a := 35) (by decide)
  exact gw_swD Y 1251 dL_law_32 (by omega) (by decide) (fin h hI)
theorem jb_in {x : Int32} {L k i : Nat} (hx : x = nI i) (h : i + k < L) (hL : L ≤ 2560) : vp_in (x + nI k) L := by
  rw [hx, nI_add]
  exact vp_in_nI h (by omega)
set_option maxRecDepth 100000 in
set_option maxHeartbeats 4000000 in
theorem law_loop {K : CB} {E : JE} {b L : Nat} {xs : Nat → Int32} {I : Hp → Prop} (Y : CY K R_law cL_law 4 ret 13 600000 7302250 462) (X : LX K E b L xs) (hL : L ≤ 2560) (hst : StepsOk I) (hend : ∀ (ws : va_W) (tys : List (ClassId × FieldType)) (ls : List (Option Value)), GW K ws tys 600000 7302250 1258 ls [.int 1]) : ∀ (m i : Nat) (x3 : Int32) (h : Hp), x3 = nI i → i ≤ L + 5 → L + 10 - i < m → I h → GW K (wsl E h) (tysl E) 600000 7302250 18 [some (.ref b), some (.ref (jad E 0)), some (.ref (jad E 117)), some (.int x3)] [] := by
  intro m
  induction m with
  | zero => intro i x3 h _ _ hm; omega
  | succ m ih =>
    intro i x3 h hx hi hm hI
    refine gw_iload_n Y dL_law_18 rfl rfl (gw_aload_n Y dL_law_19 rfl rfl (gw_slen Y X dL_law_20 (gw_iconst Y dL_law_21 ki_5 (gw_isub Y dL_law_22 ?_))))
    refine gw_icmpgt Y 1257 dL_law_23 (by decide) (fun c => ?_) (fun c => ?_)
    · exact gw_iconst Y dL_law_1257 ki_1 (hend _ _ _)
    · have hle : i + 5 ≤ L := by
        have c1 : x3 ≤ Int32.ofNat L - 5 := Int32.not_lt.mp c
        have c2 := Int32.le_iff_toInt_le.mp c1
        rw [hx, nI_toInt (by omega), show (Int32.ofNat L : Int32) = nI L from rfl, show (5 : Int32) = nI 5 from rfl, pk_sub_toInt (by omega) (by omega)] at c2
        omega
      refine gw_aload_n Y dL_law_26 rfl rfl (gw_iload_n Y dL_law_27 rfl rfl (gw_sld Y X dL_law_28 (by rw [hx]; exact vp_in_nI (by omega) (by omega)) (gw_bipush Y dL_law_29 kb_63 (gw_iand Y dL_law_31 ?_))))
      refine law_op Y X hst h hI x3 (by rw [hx]; exact vp_in_nI (by omega) (by omega)) (jb_in (k := 1) hx (by omega) hL) (jb_in (k := 2) hx (by omega) hL) (jb_in (k := 3) hx (by omega) hL) (jb_in (k := 4) hx (by omega) hL) (fun h2 hI2 => ?_) _
      refine gw_iinc (v := x3 + 5) Y dL_law_1251 rfl (ii_5 _) [some (.ref b), some (.ref (jad E 0)), some (.ref (jad E 117)), some (.int (x3 + 5))] rfl rfl ?_
      refine gw_goto Y 18 dL_law_1254 (by decide) ?_
      exact ih (i + 5) (x3 + 5) h2 (by rw [hx, show (5 : Int32) = nI 5 from rfl, nI_add]) (by omega) (by omega) hI2
