set_option maxRecDepth 100000 in
set_option maxHeartbeats 4000000 in
theorem whole_start_I {I : Hp → Prop} (hst : StepsOk I) (h0 : I h_init) {p : Program} {e : Env} {s : State} {m : MethodId} {below : List Frame} {meth : Method} {c : Code} (l : Launch) {b L : Nat} {xs : Nat → Int32} (hL : L ≤ 2560) (C0 : lw_At p s m meth c b L xs) : W p l e room_1 s m #[Value.ref b] below meth c s.heap [] 0 0 (lw_Z below #[Value.ref b] s) (entryFrame m ([Value.ref b] : List Value).toArray 4) := by
  obtain ⟨adK, adV, g1, g2, g3, g4⟩ := str_start C0
  obtain ⟨hx, hb, hr, hml, hown, hts, hX, hbl, hlocks, hgv⟩ := id C0
  have hgw : ∀ w ∈ lw_gw, w.before #[Value.ref b] s = true := fun w h => hts w (List.mem_filter.mp h).1
  obtain ⟨c0, z0, k0⟩ := u_known (C := RX0) (T := TX0) (N := 6) (n := 6) hgw inW0 (hgw _ wi_0)
  obtain ⟨c1, z1, k1⟩ := u_known (C := RX1) (T := TX1) (N := 12) (n := 12) hgw inW1 (hgw _ wi_1)
  obtain ⟨c2, z2, k2⟩ := u_known (C := RX2) (T := TX2) (N := 5) (n := 5) hgw inW2 (hgw _ wi_2)
  obtain ⟨c3, z3, k3⟩ := u_known (C := RX3) (T := TX3) (N := 5) (n := 5) hgw inW3 (hgw _ wi_3)
  obtain ⟨c4, z4, k4⟩ := u_known (C := RX4) (T := TX4) (N := 6) (n := 6) hgw inW4 (hgw _ wi_4)
  obtain ⟨c5, z5, k5⟩ := u_known (C := RX5) (T := TX5) (N := 5) (n := 5) hgw inW5 (hgw _ wi_5)
  obtain ⟨c6, z6, k6⟩ := u_known (C := RX6) (T := TX6) (N := 7) (n := 7) hgw inW6 (hgw _ wi_6)
  obtain ⟨c7, z7, k7⟩ := u_known (C := RX7) (T := TX7) (N := 8) (n := 8) hgw inW7 (hgw _ wi_7)
  obtain ⟨c8, z8, k8⟩ := u_known (C := RX8) (T := TX8) (N := 3) (n := 3) hgw inW8 (hgw _ wi_8)
  obtain ⟨c9, z9, k9⟩ := u_known (C := RX9) (T := TX9) (N := 3) (n := 3) hgw inW9 (hgw _ wi_9)
  obtain ⟨c10, z10, k10⟩ := u_known (C := RX10) (T := TX10) (N := 2) (n := 2) hgw inW10 (hgw _ wi_10)
  obtain ⟨c11, z11, k11⟩ := u_known (C := RX11) (T := TX11) (N := 9) (n := 9) hgw inW11 (hgw _ wi_11)
  obtain ⟨c12, z12, k12⟩ := u_known (C := RX12) (T := TX12) (N := 40) (n := 40) hgw inW12 (hgw _ wi_12)
  obtain ⟨dC, dI, hKc⟩ : ∃ (dC : Nat → ClassId) (dI : Nat → Nat → Nat), ∀ (k : Nat) (q : vw_C), vwCl[k]? = some q → u_Kn s q.1 q.2.1 q.2.2 (dC k) (dI k) := by
    refine ⟨fun k => if k = 0 then c0 else if k = 1 then c1 else if k = 2 then c2 else if k = 3 then c3 else if k = 4 then c4 else if k = 5 then c5 else if k = 6 then c6 else if k = 7 then c7 else if k = 8 then c8 else if k = 9 then c9 else if k = 10 then c10 else if k = 11 then c11 else c12, fun k => if k = 0 then z0 else if k = 1 then z1 else if k = 2 then z2 else if k = 3 then z3 else if k = 4 then z4 else if k = 5 then z5 else if k = 6 then z6 else if k = 7 then z7 else if k = 8 then z8 else if k = 9 then z9 else if k = 10 then z10 else if k = 11 then z11 else z12, ?_⟩
    intro k q hq
    match k, hq with
    | 0, hq => cases hq; exact k0
    | 1, hq => cases hq; exact k1
    | 2, hq => cases hq; exact k2
    | 3, hq => cases hq; exact k3
    | 4, hq => cases hq; exact k4
    | 5, hq => cases hq; exact k5
    | 6, hq => cases hq; exact k6
    | 7, hq => cases hq; exact k7
    | 8, hq => cases hq; exact k8
    | 9, hq => cases hq; exact k9
    | 10, hq => cases hq; exact k10
    | 11, hq => cases hq; exact k11
    | 12, hq => cases hq; exact k12
    | k + 13, hq => simp [vwCl] at hq
  obtain ⟨zq, g5⟩ : ∃ zq : Nat, va_Z "jdk/internal/util/Preconditions" "SIOOBE_FORMATTER" "Ljava/util/function/BiFunction;" .null (fun q => s.heap.size ≤ q) s s.heap ∨ va_Z "jdk/internal/util/Preconditions" "SIOOBE_FORMATTER" "Ljava/util/function/BiFunction;" (.ref zq) (fun q => s.heap.size ≤ q) s s.heap := by
    rcases g4 with z | ⟨t, z⟩
    · exact ⟨0, Or.inl z⟩
    · exact ⟨t, Or.inr z⟩
  have nw : NwOk s := ⟨fun q hq => va_Nw.of rfl (hts _ ((show ∀ q ∈ lw_nw, Cond.methodLinkNest q.1 q.2.1 q.2.2.1 q.2.2.2 ∈ lw_tbl by decide +kernel) q hq)), va_AO.of (hts (.arrayOver (.object "AlbumHours$Pieces")) (by decide +kernel))⟩
  have Y : CY (p, l, e, room_1, s, m, #[Value.ref b], below, meth, c, (dC, dI), (fun q => s.heap.size ≤ q), lw_Z below #[Value.ref b] s) R_law cL_law 4 ret 13 600000 7302250 462 := ⟨hx, hb, hml, hown, hgw, nw, hr, hlocks, fun _ h => h, rfl⟩
  have G := start_gw Y rfl adK adV zq g1 g2 g3 g5 hX hbl hL hst h0 (fun ws tys ls H locs arr hP hK hD hS hv => va_forget (fun q hq => hS.2.2 q hq) (lw_ret hx hb hr hlocks dL_law_1258))
  have hl := lv_entry ([.ref b]) (n := 4) (Nat.le_of_ble_eq_true rfl)
  rw [lg_entry_eq]
  exact G s.heap [] _ (fun k q h => by simp at h) ⟨hKc, fun k q h => by simp at h⟩ ⟨fun i j p q h => by simp at h, fun k q h => by simp at h⟩ va_S.rf hl

