-- ===== as the world is made =====
def s_init : Sta := ([], al_0, [], fun _ => none, (fun _ => -1, fun _ _ => 0, 0))
theorem s_init_ok : st_ok s_init := ⟨⟨Nat.zero_le _, fun i hi => absurd hi (Nat.not_lt_zero i)⟩, al_0_ok, ⟨Nat.zero_le _, fun i hi => absurd hi (Nat.not_lt_zero i)⟩, fun k L e => (by cases e), fun i _ => ⟨by show (-1 : Int) ≤ -1; omega, by show (-1 : Int) ≤ 8; omega⟩⟩
theorem Jn_init : Jn h_init := by
  refine ⟨s_init, ⟨s_init_ok, ⟨rfl, fun i hi => absurd hi (Nat.not_lt_zero i)⟩, ⟨al_0_ok, rfl, rfl, ⟨rfl, rfl, rfl, by decide⟩, ⟨pc_nil_ok, rfl, fun i hi => absurd hi (Nat.not_lt_zero i), fun k _ => ?_⟩, fun i hi => absurd hi (Nat.not_lt_zero i), fun i hi => absurd hi (Nat.not_lt_zero i)⟩, ⟨rfl, 0, by omega, rfl, fun i hi => absurd hi (Nat.not_lt_zero i)⟩, ⟨0, by omega, rfl, fun k _ => ⟨fun _ => Nat.zero_testBit k, fun L e => (by cases e)⟩⟩, ⟨fun i _ => rfl, fun i j _ _ hij => ?_, rfl⟩, ⟨Or.inl rfl, Or.inl rfl, Or.inl rfl, Or.inl rfl, Or.inl rfl, Or.inl rfl⟩⟩, s_init_ok, ⟨rfl, fun i hi => absurd hi (Nat.not_lt_zero i)⟩, ⟨al_0_ok, ⟨rfl, rfl, rfl⟩, rfl, rfl, fun i hi => absurd hi (Nat.not_lt_zero i), fun i hi => absurd hi (Nat.not_lt_zero i), ⟨pc_nil_ok, rfl, fun i hi => absurd hi (Nat.not_lt_zero i)⟩⟩, ⟨rfl, fun i hi => absurd hi (Nat.not_lt_zero i)⟩, fun k _ => ⟨fun _ => rfl, fun L e => (by cases e)⟩, ⟨fun i hi => ?_, fun i j _ _ hij => ?_, rfl⟩⟩
  · obtain ⟨a, b, c⟩ := pc_nil_n k
    show aG h_init 7 k = iI (pc_n [] k) ∧ aG h_init 8 k = iI (pc_v [] k) ∧ aG h_init 9 k = iI (pc_s [] k)
    rw [a, b, c]
    exact ⟨rfl, rfl, rfl⟩
  · have hij : (j : Int) < -1 := hij
    omega
  · have : i = 0 ∨ i = 1 ∨ i = 2 := by omega
    rcases this with e | e | e <;> subst e <;> rfl
  · have hij : (j : Int) < -1 := hij
    omega
