-- ===== frames: what a method may write =====
def FrX (S A : List Nat) (h h' : Hp) : Prop := (∀ v, v ∉ S → sG h' v = sG h v ∧ tG h' v = tG h v ∧ oG h' v = oG h v) ∧ (∀ k, k ∉ A → aF h' k = aF h k ∧ lF h' k = lF h k)
def FpX {τ : Type} (R : Hp → Prop) (o : Option (τ × Hp)) : Prop := ∀ r h', o = some (r, h') → R h'
theorem FrX.refl (S A : List Nat) (h : Hp) : FrX S A h h := ⟨fun _ _ => ⟨rfl, rfl, rfl⟩, fun _ _ => ⟨rfl, rfl⟩⟩
theorem FrX.sub {S A S2 A2 : List Nat} {h h1 h2 : Hp} (q : FrX S A h h1) (f : FrX S2 A2 h1 h2) (s : ∀ v ∈ S2, v ∈ S) (a : ∀ v ∈ A2, v ∈ A) : FrX S A h h2 := by
  refine ⟨fun v hv => ?_, fun k hk => ?_⟩
  · have e1 := q.1 v hv
    have e2 := f.1 v (fun z => hv (s v z))
    exact ⟨e2.1.trans e1.1, e2.2.1.trans e1.2.1, e2.2.2.trans e1.2.2⟩
  · have e1 := q.2 k hk
    have e2 := f.2 k (fun z => hk (a k z))
    exact ⟨e2.1.trans e1.1, e2.2.trans e1.2⟩
theorem FrX.trans {S A : List Nat} {h h1 h2 : Hp} (q : FrX S A h h1) (f : FrX S A h1 h2) : FrX S A h h2 := q.sub f (fun _ z => z) (fun _ z => z)
theorem FrX.mono {S A S2 A2 : List Nat} {h h1 : Hp} (q : FrX S A h h1) (s : ∀ v ∈ S, v ∈ S2) (a : ∀ v ∈ A, v ∈ A2) : FrX S2 A2 h h1 := (FrX.refl S2 A2 h).sub q s a
theorem FrX.eq {h h' : Hp} (q : FrX [] [] h h') : h' = h := by
  obtain ⟨a, b, c, d, e⟩ := h
  obtain ⟨a2, b2, c2, d2, e2⟩ := h'
  have h1 : a2 = a := funext fun v => (q.1 v (by simp)).1
  have h2 : d2 = d := funext fun v => (q.1 v (by simp)).2.1
  have h3 : e2 = e := funext fun v => (q.1 v (by simp)).2.2
  have h4 : b2 = b := funext fun v => (q.2 v (by simp)).1
  have h5 : c2 = c := funext fun v => (q.2 v (by simp)).2
  rw [h1, h2, h3, h4, h5]
theorem FrX.sS {S A : List Nat} {h h1 : Hp} (q : FrX S A h h1) {v : Nat} (m : v ∈ S) (x : Int32) : FrX S A h (sS h1 v x) := by
  refine ⟨fun u hu => ?_, fun k hk => q.2 k hk⟩
  have e : u ≠ v := fun e => hu (e ▸ m)
  have e1 := q.1 u hu
  refine ⟨?_, e1.2.1, e1.2.2⟩
  show (if u = v then x else h1.1 u) = _
  rw [if_neg e]
  exact e1.1
theorem FrX.tS {S A : List Nat} {h h1 : Hp} (q : FrX S A h h1) {v : Nat} (m : v ∈ S) (x : Int64) : FrX S A h (tS h1 v x) := by
  refine ⟨fun u hu => ?_, fun k hk => q.2 k hk⟩
  have e : u ≠ v := fun e => hu (e ▸ m)
  have e1 := q.1 u hu
  refine ⟨e1.1, ?_, e1.2.2⟩
  show (if u = v then x else h1.2.2.2.1 u) = _
  rw [if_neg e]
  exact e1.2.1
theorem FrX.oS {S A : List Nat} {h h1 : Hp} (q : FrX S A h h1) {v : Nat} (m : v ∈ S) (x : Option Nat) : FrX S A h (oS h1 v x) := by
  refine ⟨fun u hu => ?_, fun k hk => q.2 k hk⟩
  have e : u ≠ v := fun e => hu (e ▸ m)
  have e1 := q.1 u hu
  refine ⟨e1.1, e1.2.1, ?_⟩
  show (if u = v then x else h1.2.2.2.2 u) = _
  rw [if_neg e]
  exact e1.2.2
theorem FrX.aV {S A : List Nat} {h h1 : Hp} (q : FrX S A h h1) {v : Nat} (m : v ∈ A) (x : Nat → Int32) : FrX S A h (aV h1 v x) := by
  refine ⟨fun k hk => q.1 k hk, fun u hu => ?_⟩
  have e : u ≠ v := fun e => hu (e ▸ m)
  have e1 := q.2 u hu
  refine ⟨?_, e1.2⟩
  show (if u = v then x else h1.2.1 u) = _
  rw [if_neg e]
  exact e1.1
theorem FrX.lV {S A : List Nat} {h h1 : Hp} (q : FrX S A h h1) {v : Nat} (m : v ∈ A) (x : Nat → Int64) : FrX S A h (lV h1 v x) := by
  refine ⟨fun k hk => q.1 k hk, fun u hu => ?_⟩
  have e : u ≠ v := fun e => hu (e ▸ m)
  have e1 := q.2 u hu
  refine ⟨e1.1, ?_⟩
  show (if u = v then x else h1.2.2.1 u) = _
  rw [if_neg e]
  exact e1.2
theorem FrX.aS {S A : List Nat} {h h1 : Hp} (q : FrX S A h h1) {v : Nat} (m : v ∈ A) (i : Nat) (x : Int32) : FrX S A h (aS h1 v i x) := q.aV m _
theorem FrX.lS {S A : List Nat} {h h1 : Hp} (q : FrX S A h h1) {v : Nat} (m : v ∈ A) (i : Nat) (x : Int64) : FrX S A h (lS h1 v i x) := q.lV m _
section
variable {R : Hp → Prop} {τ ρ α β γ δ ε : Type}
theorem fp_some {x : τ} {h : Hp} (q : R h) : FpX R (some (x, h)) := fun r h' e => by
  cases e
  exact q
theorem fp_none : FpX R (none : Option (τ × Hp)) := fun r h' e => by cases e
theorem fp_gd {c : Bool} {o : Option (τ × Hp)} (q : FpX R o) : FpX R (gd c o) := by
  cases c
  · exact fp_none
  · exact q
theorem fp_bd {o : Option (ρ × Hp)} {k : ρ → Hp → Option (τ × Hp)} (q : FpX R o) (kk : ∀ r h, R h → FpX R (k r h)) : FpX R (bd o k) := by
  cases o with
  | none => exact fp_none
  | some x => exact kk x.1 x.2 (q x.1 x.2 rfl)
theorem fp_ite {c : Prop} [Decidable c] {a b : Option (τ × Hp)} (h1 : FpX R a) (h2 : FpX R b) : FpX R (if c then a else b) := by
  by_cases z : c
  · rw [if_pos z]; exact h1
  · rw [if_neg z]; exact h2
theorem fp_jlH {a : Hp} {k : Hp → Option (τ × Hp)} (q : R a) (kk : ∀ h, R h → FpX R (k h)) : FpX R (jl a k) := kk a q
theorem fp_jlV {a : α} {k : α → Option (τ × Hp)} (kk : ∀ x, FpX R (k x)) : FpX R (jl a k) := kk a
theorem fp_jo {o : Option Nat} {f0 : Option (τ × Hp)} {f1 : Nat → Option (τ × Hp)} (h0 : FpX R f0) (h1 : ∀ a, o = some a → FpX R (f1 a)) : FpX R (jo o f0 f1) := by
  cases o with
  | none => exact h0
  | some a => exact h1 a rfl
theorem fp_jn0 {k : Hp → Option (τ × Hp)} {f : (Hp → Option (τ × Hp)) → Option (τ × Hp)} (hk : ∀ h, R h → FpX R (k h)) (hf : ∀ j : Hp → Option (τ × Hp), (∀ h, R h → FpX R (j h)) → FpX R (f j)) : FpX R (jn k f) := hf k hk
theorem fp_jn1 {k : α → Hp → Option (τ × Hp)} {f : (α → Hp → Option (τ × Hp)) → Option (τ × Hp)} (hk : ∀ a h, R h → FpX R (k a h)) (hf : ∀ j : α → Hp → Option (τ × Hp), (∀ a h, R h → FpX R (j a h)) → FpX R (f j)) : FpX R (jn k f) := hf k hk
theorem fp_jn2 {k : α → β → Hp → Option (τ × Hp)} {f : (α → β → Hp → Option (τ × Hp)) → Option (τ × Hp)} (hk : ∀ a b h, R h → FpX R (k a b h)) (hf : ∀ j : α → β → Hp → Option (τ × Hp), (∀ a b h, R h → FpX R (j a b h)) → FpX R (f j)) : FpX R (jn k f) := hf k hk
theorem fp_jn3 {k : α → β → γ → Hp → Option (τ × Hp)} {f : (α → β → γ → Hp → Option (τ × Hp)) → Option (τ × Hp)} (hk : ∀ a b c h, R h → FpX R (k a b c h)) (hf : ∀ j : α → β → γ → Hp → Option (τ × Hp), (∀ a b c h, R h → FpX R (j a b c h)) → FpX R (f j)) : FpX R (jn k f) := hf k hk
theorem fp_lpP {n : Nat} {body : α → α} {bot : α} (P : α → Prop) (h0 : P bot) (hs : ∀ c, P c → P (body c)) : P (lp n body bot) := by
  induction n with
  | zero => exact h0
  | succ n ih => exact hs _ ih
theorem fp_lp0 {n : Nat} {body : (Hp → Option (τ × Hp)) → Hp → Option (τ × Hp)} {bot : Hp → Option (τ × Hp)} (hs : ∀ c : Hp → Option (τ × Hp), (∀ h, R h → FpX R (c h)) → ∀ h, R h → FpX R (body c h)) (h0 : ∀ h, FpX R (bot h)) {h : Hp} (q : R h) : FpX R (lp n body bot h) :=
  fp_lpP (α := Hp → Option (τ × Hp)) (fun c => ∀ h, R h → FpX R (c h)) (fun h _ => h0 h) hs h q
theorem fp_lp1 {n : Nat} {body : (α → Hp → Option (τ × Hp)) → α → Hp → Option (τ × Hp)} {bot : α → Hp → Option (τ × Hp)} (hs : ∀ c : α → Hp → Option (τ × Hp), (∀ a h, R h → FpX R (c a h)) → ∀ a h, R h → FpX R (body c a h)) (h0 : ∀ a h, FpX R (bot a h)) {a : α} {h : Hp} (q : R h) : FpX R (lp n body bot a h) :=
  fp_lpP (α := α → Hp → Option (τ × Hp)) (fun c => ∀ a h, R h → FpX R (c a h)) (fun a h _ => h0 a h) hs a h q
theorem fp_lp2 {n : Nat} {body : (α → β → Hp → Option (τ × Hp)) → α → β → Hp → Option (τ × Hp)} {bot : α → β → Hp → Option (τ × Hp)} (hs : ∀ c : α → β → Hp → Option (τ × Hp), (∀ a b h, R h → FpX R (c a b h)) → ∀ a b h, R h → FpX R (body c a b h)) (h0 : ∀ a b h, FpX R (bot a b h)) {a : α} {b : β} {h : Hp} (q : R h) : FpX R (lp n body bot a b h) :=
  fp_lpP (α := α → β → Hp → Option (τ × Hp)) (fun c => ∀ a b h, R h → FpX R (c a b h)) (fun a b h _ => h0 a b h) hs a b h q
theorem fp_lp3 {n : Nat} {body : (α → β → γ → Hp → Option (τ × Hp)) → α → β → γ → Hp → Option (τ × Hp)} {bot : α → β → γ → Hp → Option (τ × Hp)} (hs : ∀ c : α → β → γ → Hp → Option (τ × Hp), (∀ a b d h, R h → FpX R (c a b d h)) → ∀ a b d h, R h → FpX R (body c a b d h)) (h0 : ∀ a b d h, FpX R (bot a b d h)) {a : α} {b : β} {d : γ} {h : Hp} (q : R h) : FpX R (lp n body bot a b d h) :=
  fp_lpP (α := α → β → γ → Hp → Option (τ × Hp)) (fun c => ∀ a b d h, R h → FpX R (c a b d h)) (fun a b d h _ => h0 a b d h) hs a b d h q
theorem fp_lp4 {n : Nat} {body : (α → β → γ → δ → Hp → Option (τ × Hp)) → α → β → γ → δ → Hp → Option (τ × Hp)} {bot : α → β → γ → δ → Hp → Option (τ × Hp)} (hs : ∀ c : α → β → γ → δ → Hp → Option (τ × Hp), (∀ a b d e h, R h → FpX R (c a b d e h)) → ∀ a b d e h, R h → FpX R (body c a b d e h)) (h0 : ∀ a b d e h, FpX R (bot a b d e h)) {a : α} {b : β} {d : γ} {e : δ} {h : Hp} (q : R h) : FpX R (lp n body bot a b d e h) :=
  fp_lpP (α := α → β → γ → δ → Hp → Option (τ × Hp)) (fun c => ∀ a b d e h, R h → FpX R (c a b d e h)) (fun a b d e h _ => h0 a b d e h) hs a b d e h q
theorem fp_lp5 {n : Nat} {body : (α → β → γ → δ → ε → Hp → Option (τ × Hp)) → α → β → γ → δ → ε → Hp → Option (τ × Hp)} {bot : α → β → γ → δ → ε → Hp → Option (τ × Hp)} (hs : ∀ c : α → β → γ → δ → ε → Hp → Option (τ × Hp), (∀ a b d e f h, R h → FpX R (c a b d e f h)) → ∀ a b d e f h, R h → FpX R (body c a b d e f h)) (h0 : ∀ a b d e f h, FpX R (bot a b d e f h)) {a : α} {b : β} {d : γ} {e : δ} {f : ε} {h : Hp} (q : R h) : FpX R (lp n body bot a b d e f h) :=
  fp_lpP (α := α → β → γ → δ → ε → Hp → Option (τ × Hp)) (fun c => ∀ a b d e f h, R h → FpX R (c a b d e f h)) (fun a b d e f h _ => h0 a b d e f h) hs a b d e f h q
theorem fp_call {S A S2 A2 : List Nat} {h0 h : Hp} {o : Option (τ × Hp)} (f : FpX (FrX S2 A2 h) o) (s : ∀ v ∈ S2, v ∈ S) (a : ∀ v ∈ A2, v ∈ A) (q : FrX S A h0 h) : FpX (FrX S A h0) o := fun r h' e => q.sub (f r h' e) s a
theorem fp_pure {h : Hp} {o : Option (τ × Hp)} (f : FpX (FrX [] [] h) o) {r : τ} {h' : Hp} (e : o = some (r, h')) : h' = h := (f r h' e).eq
end
theorem fr_X9_become (t : Nat) (a1 : Int32) (a2 : Int32) (a3 : Int32) (h : Hp) : FpX (FrX [64 * t, 64 * t + 1, 64 * t + 2] [] h) (F_X9_become t a1 a2 a3 h) := by
  unfold F_X9_become
  have q0 := FrX.refl [64 * t, 64 * t + 1, 64 * t + 2] [] h
  refine fp_jlH (FrX.sS q0 (by simp only [List.mem_cons, List.not_mem_nil, or_false, true_or, or_true]; try omega) _) (fun hz1 qz2 => ?_)
  refine fp_jlH (FrX.sS qz2 (by simp only [List.mem_cons, List.not_mem_nil, or_false, true_or, or_true]; try omega) _) (fun hz3 qz4 => ?_)
  refine fp_jlH (FrX.sS qz4 (by simp only [List.mem_cons, List.not_mem_nil, or_false, true_or, or_true]; try omega) _) (fun hz5 qz6 => ?_)
  exact fp_some qz6
theorem fr_X9_clear (t : Nat) (h : Hp) : FpX (FrX [64 * t, 64 * t + 1, 64 * t + 2] [] h) (F_X9_clear t h) := by
  unfold F_X9_clear
  have q0 := FrX.refl [64 * t, 64 * t + 1, 64 * t + 2] [] h
  refine fp_bd (fp_call (fr_X9_become _ _ _ _ _ ) (fun v z => by simp only [List.mem_cons, List.not_mem_nil, or_false, true_or, or_true] at z ⊢; try omega) (fun _ z => absurd z (by simp)) q0) (fun _ _ qz1 => ?_)
  exact fp_some qz1
theorem fr_J7_fill_53178 (a1 : Nat) (n1 : Nat) (a2 : Int32) (h : Hp) : FpX (FrX [] [a1] h) (F_J7_fill_53178 a1 n1 a2 h) := by
  unfold F_J7_fill_53178
  have q0 := FrX.refl [] [a1] h
  refine fp_jlV (fun _ => ?_)
  refine fp_lp1 (fun _ kz2 _ _ qz1 => ?_) (fun _ _ => fp_none) q0
  refine fp_ite ?_ ?_
  · refine fp_gd ?_
    refine fp_jlH (FrX.aS qz1 (by simp only [List.mem_cons, List.not_mem_nil, or_false, true_or, or_true]; try omega) _ _) (fun hz3 qz4 => ?_)
    exact kz2 _ _ qz4
  · exact fp_some qz1
theorem fr_X5_clear (t : Nat) (h : Hp) : FpX (FrX [64 * t] [t + 2, t + 3, t + 4] h) (F_X5_clear t h) := by
  unfold F_X5_clear
  have q0 := FrX.refl [64 * t] [t + 2, t + 3, t + 4] h
  refine fp_jlH (FrX.sS q0 (by simp only [List.mem_cons, List.not_mem_nil, or_false, true_or, or_true]; try omega) _) (fun hz1 qz2 => ?_)
  refine fp_bd (fp_call (fr_J7_fill_53178 _ _ _ _ ) (fun _ z => absurd z (by simp)) (fun v z => by simp only [List.mem_cons, List.not_mem_nil, or_false, true_or, or_true] at z ⊢; try omega) qz2) (fun _ _ qz3 => ?_)
  refine fp_bd (fp_call (fr_J7_fill_53178 _ _ _ _ ) (fun _ z => absurd z (by simp)) (fun v z => by simp only [List.mem_cons, List.not_mem_nil, or_false, true_or, or_true] at z ⊢; try omega) qz3) (fun _ _ qz4 => ?_)
  refine fp_bd (fp_call (fr_J7_fill_53178 _ _ _ _ ) (fun _ z => absurd z (by simp)) (fun v z => by simp only [List.mem_cons, List.not_mem_nil, or_false, true_or, or_true] at z ⊢; try omega) qz4) (fun _ _ qz5 => ?_)
  exact fp_some qz5
theorem fr_X0_clear (t : Nat) (h : Hp) : FpX (FrX [64 * t, 64 * t + 1, 64 * t + 128, 64 * t + 64, 64 * t + 65, 64 * t + 66] [t + 4, t + 5, t + 6] h) (F_X0_clear t h) := by
  unfold F_X0_clear
  have q0 := FrX.refl [64 * t, 64 * t + 1, 64 * t + 128, 64 * t + 64, 64 * t + 65, 64 * t + 66] [t + 4, t + 5, t + 6] h
  refine fp_jlH (FrX.sS q0 (by simp only [List.mem_cons, List.not_mem_nil, or_false, true_or, or_true]; try omega) _) (fun hz1 qz2 => ?_)
  refine fp_jlH (FrX.sS qz2 (by simp only [List.mem_cons, List.not_mem_nil, or_false, true_or, or_true]; try omega) _) (fun hz3 qz4 => ?_)
  refine fp_bd (fp_call (fr_X9_clear _ _ ) (fun v z => by simp only [List.mem_cons, List.not_mem_nil, or_false, true_or, or_true] at z ⊢; try omega) (fun _ z => absurd z (by simp)) qz4) (fun _ _ qz5 => ?_)
  refine fp_bd (fp_call (fr_X5_clear _ _ ) (fun v z => by simp only [List.mem_cons, List.not_mem_nil, or_false, true_or, or_true] at z ⊢; try omega) (fun v z => by simp only [List.mem_cons, List.not_mem_nil, or_false, true_or, or_true] at z ⊢; try omega) qz5) (fun _ _ qz6 => ?_)
  exact fp_some qz6
theorem fr_X5_copyFrom (t : Nat) (a1 : Nat) (h : Hp) : FpX (FrX [64 * t] [t + 1, t + 2, t + 3, t + 4] h) (F_X5_copyFrom t a1 h) := by
  unfold F_X5_copyFrom
  have q0 := FrX.refl [64 * t] [t + 1, t + 2, t + 3, t + 4] h
  refine fp_jlH (FrX.sS q0 (by simp only [List.mem_cons, List.not_mem_nil, or_false, true_or, or_true]; try omega) _) (fun hz1 qz2 => ?_)
  refine fp_gd ?_
  refine fp_jlH (FrX.aV qz2 (by simp only [List.mem_cons, List.not_mem_nil, or_false, true_or, or_true]; try omega) _) (fun hz3 qz4 => ?_)
  refine fp_gd ?_
  refine fp_jlH (FrX.aV qz4 (by simp only [List.mem_cons, List.not_mem_nil, or_false, true_or, or_true]; try omega) _) (fun hz5 qz6 => ?_)
  refine fp_gd ?_
  refine fp_jlH (FrX.aV qz6 (by simp only [List.mem_cons, List.not_mem_nil, or_false, true_or, or_true]; try omega) _) (fun hz7 qz8 => ?_)
  refine fp_gd ?_
  refine fp_jlH (FrX.aV qz8 (by simp only [List.mem_cons, List.not_mem_nil, or_false, true_or, or_true]; try omega) _) (fun hz9 qz10 => ?_)
  exact fp_some qz10
theorem fr_X0_copyFrom (t : Nat) (a1 : Nat) (h : Hp) : FpX (FrX [64 * t, 64 * t + 1, 64 * t + 128, 64 * t + 64, 64 * t + 65, 64 * t + 66] [t + 3, t + 4, t + 5, t + 6, t + 7, t + 8] h) (F_X0_copyFrom t a1 h) := by
  unfold F_X0_copyFrom
  have q0 := FrX.refl [64 * t, 64 * t + 1, 64 * t + 128, 64 * t + 64, 64 * t + 65, 64 * t + 66] [t + 3, t + 4, t + 5, t + 6, t + 7, t + 8] h
  refine fp_jlH (FrX.sS q0 (by simp only [List.mem_cons, List.not_mem_nil, or_false, true_or, or_true]; try omega) _) (fun hz1 qz2 => ?_)
  refine fp_jlH (FrX.sS qz2 (by simp only [List.mem_cons, List.not_mem_nil, or_false, true_or, or_true]; try omega) _) (fun hz3 qz4 => ?_)
  refine fp_bd (fp_call (fr_X9_become _ _ _ _ _ ) (fun v z => by simp only [List.mem_cons, List.not_mem_nil, or_false, true_or, or_true] at z ⊢; try omega) (fun _ z => absurd z (by simp)) qz4) (fun _ _ qz5 => ?_)
  refine fp_bd (fp_call (fr_X5_copyFrom _ _ _ ) (fun v z => by simp only [List.mem_cons, List.not_mem_nil, or_false, true_or, or_true] at z ⊢; try omega) (fun v z => by simp only [List.mem_cons, List.not_mem_nil, or_false, true_or, or_true] at z ⊢; try omega) qz5) (fun _ _ qz6 => ?_)
  refine fp_gd ?_
  refine fp_jlH (FrX.aV qz6 (by simp only [List.mem_cons, List.not_mem_nil, or_false, true_or, or_true]; try omega) _) (fun hz7 qz8 => ?_)
  refine fp_gd ?_
  refine fp_jlH (FrX.aV qz8 (by simp only [List.mem_cons, List.not_mem_nil, or_false, true_or, or_true]; try omega) _) (fun hz9 qz10 => ?_)
  exact fp_some qz10
theorem fr_X0_addPicture (t : Nat) (a1 : Int32) (h : Hp) : FpX (FrX [64 * t] [t + 7] h) (F_X0_addPicture t a1 h) := by
  unfold F_X0_addPicture
  have q0 := FrX.refl [64 * t] [t + 7] h
  refine fp_jn0 (fun _ qz1 => ?_) (fun _ kz2 => ?_)
  · exact fp_some qz1
  · refine fp_ite ?_ ?_
    · exact kz2 _ q0
    · refine fp_ite ?_ ?_
      · refine fp_gd ?_
        refine fp_jlH (FrX.aS q0 (by simp only [List.mem_cons, List.not_mem_nil, or_false, true_or, or_true]; try omega) _ _) (fun hz3 qz4 => ?_)
        refine fp_jlH (FrX.sS qz4 (by simp only [List.mem_cons, List.not_mem_nil, or_false, true_or, or_true]; try omega) _) (fun hz5 qz6 => ?_)
        exact fp_some qz6
      · exact kz2 _ q0
theorem fr_X0_addThing (t : Nat) (a1 : Int32) (h : Hp) : FpX (FrX [64 * t + 1] [t + 8] h) (F_X0_addThing t a1 h) := by
  unfold F_X0_addThing
  have q0 := FrX.refl [64 * t + 1] [t + 8] h
  refine fp_jn0 (fun _ qz1 => ?_) (fun _ kz2 => ?_)
  · exact fp_some qz1
  · refine fp_ite ?_ ?_
    · exact kz2 _ q0
    · refine fp_ite ?_ ?_
      · refine fp_gd ?_
        refine fp_jlH (FrX.aS q0 (by simp only [List.mem_cons, List.not_mem_nil, or_false, true_or, or_true]; try omega) _ _) (fun hz3 qz4 => ?_)
        refine fp_jlH (FrX.sS qz4 (by simp only [List.mem_cons, List.not_mem_nil, or_false, true_or, or_true]; try omega) _) (fun hz5 qz6 => ?_)
        exact fp_some qz6
      · exact kz2 _ q0
theorem fr_X0_hasPicture (t : Nat) (a1 : Int32) (h : Hp) : FpX (FrX [] [] h) (F_X0_hasPicture t a1 h) := by
  unfold F_X0_hasPicture
  have q0 := FrX.refl [] [] h
  refine fp_jn1 (fun _ _ qz1 => ?_) (fun _ kz2 => ?_)
  · refine fp_gd ?_
    exact fp_some qz1
  · refine fp_jn0 (fun _ qz3 => ?_) (fun _ kz4 => ?_)
    · exact kz2 _ _ qz3
    · refine fp_ite ?_ ?_
      · exact kz4 _ q0
      · refine fp_ite ?_ ?_
        · exact kz2 _ _ q0
        · exact kz4 _ q0
theorem fr_X0_hasThing (t : Nat) (a1 : Int32) (h : Hp) : FpX (FrX [] [] h) (F_X0_hasThing t a1 h) := by
  unfold F_X0_hasThing
  have q0 := FrX.refl [] [] h
  refine fp_jn1 (fun _ _ qz1 => ?_) (fun _ kz2 => ?_)
  · refine fp_gd ?_
    exact fp_some qz1
  · refine fp_jn0 (fun _ qz3 => ?_) (fun _ kz4 => ?_)
    · exact kz2 _ _ qz3
    · refine fp_ite ?_ ?_
      · exact kz4 _ q0
      · refine fp_ite ?_ ?_
        · exact kz2 _ _ q0
        · exact kz4 _ q0
theorem fr_X0_hasMatter (t : Nat) (a1 : Int32) (h : Hp) : FpX (FrX [] [] h) (F_X0_hasMatter t a1 h) := by
  unfold F_X0_hasMatter
  have q0 := FrX.refl [] [] h
  refine fp_jn1 (fun _ _ qz1 => ?_) (fun _ kz2 => ?_)
  · refine fp_gd ?_
    exact fp_some qz1
  · refine fp_jn0 (fun _ qz3 => ?_) (fun _ kz4 => ?_)
    · exact kz2 _ _ qz3
    · refine fp_ite ?_ ?_
      · exact kz4 _ q0
      · refine fp_ite ?_ ?_
        · exact kz2 _ _ q0
        · exact kz4 _ q0
theorem fr_X0_kindOf (t : Nat) (a1 : Int32) (h : Hp) : FpX (FrX [] [] h) (F_X0_kindOf t a1 h) := by
  unfold F_X0_kindOf
  have q0 := FrX.refl [] [] h
  refine fp_bd (fp_call (fr_X0_hasThing _ _ _ ) (fun _ z => absurd z (by simp)) (fun _ z => absurd z (by simp)) q0) (fun _ _ qz1 => ?_)
  refine fp_jn1 (fun _ _ qz2 => ?_) (fun _ kz3 => ?_)
  · exact fp_some qz2
  · refine fp_jn0 (fun _ qz4 => ?_) (fun _ kz5 => ?_)
    · exact kz3 _ _ qz4
    · refine fp_ite ?_ ?_
      · exact kz5 _ qz1
      · refine fp_ite ?_ ?_
        · refine fp_gd ?_
          exact kz3 _ _ qz1
        · exact kz5 _ qz1
theorem fr_X0_mostValue (t : Nat) (a1 : Int32) (h : Hp) : FpX (FrX [] [] h) (F_X0_mostValue t a1 h) := by
  unfold F_X0_mostValue
  have q0 := FrX.refl [] [] h
  refine fp_ite ?_ ?_
  · exact fp_some q0
  · refine fp_ite ?_ ?_
    · exact fp_some q0
    · refine fp_bd (fp_call (fr_X0_kindOf _ _ _ ) (fun _ z => absurd z (by simp)) (fun _ z => absurd z (by simp)) q0) (fun _ _ qz1 => ?_)
      refine fp_jn1 (fun _ _ qz2 => ?_) (fun _ kz3 => ?_)
      · exact fp_some qz2
      · refine fp_ite ?_ ?_
        · exact kz3 _ _ qz1
        · exact kz3 _ _ qz1
theorem fr_X0_takesValue (t : Nat) (a1 : Int32) (a2 : Int32) (h : Hp) : FpX (FrX [] [] h) (F_X0_takesValue t a1 a2 h) := by
  unfold F_X0_takesValue
  have q0 := FrX.refl [] [] h
  refine fp_bd (fp_call (fr_X0_hasMatter _ _ _ ) (fun _ z => absurd z (by simp)) (fun _ z => absurd z (by simp)) q0) (fun _ _ qz1 => ?_)
  refine fp_jn1 (fun _ _ qz2 => ?_) (fun _ kz3 => ?_)
  · refine fp_gd ?_
    exact fp_some qz2
  · refine fp_jn0 (fun _ qz4 => ?_) (fun _ kz5 => ?_)
    · exact kz3 _ _ qz4
    · refine fp_ite ?_ ?_
      · exact kz5 _ qz1
      · refine fp_ite ?_ ?_
        · exact kz5 _ qz1
        · refine fp_bd (fp_call (fr_X0_mostValue _ _ _ ) (fun _ z => absurd z (by simp)) (fun _ z => absurd z (by simp)) qz1) (fun _ _ qz6 => ?_)
          refine fp_ite ?_ ?_
          · exact kz5 _ qz6
          · exact kz3 _ _ qz6
theorem fr_X0_pictureNamed (t : Nat) (a1 : Int32) (h : Hp) : FpX (FrX [] [] h) (F_X0_pictureNamed t a1 h) := by
  unfold F_X0_pictureNamed
  have q0 := FrX.refl [] [] h
  refine fp_lp1 (fun _ kz2 _ _ qz1 => ?_) (fun _ _ => fp_none) q0
  refine fp_jn0 (fun _ qz3 => ?_) (fun _ kz4 => ?_)
  · exact fp_some qz3
  · refine fp_ite ?_ ?_
    · refine fp_ite ?_ ?_
      · refine fp_gd ?_
        refine fp_ite ?_ ?_
        · exact fp_some qz1
        · exact kz2 _ _ qz1
      · exact kz4 _ qz1
    · exact kz4 _ qz1
theorem fr_X0_wordLetters (t : Nat) (a1 : Int32) (h : Hp) : FpX (FrX [] [] h) (F_X0_wordLetters t a1 h) := by
  unfold F_X0_wordLetters
  have q0 := FrX.refl [] [] h
  refine fp_bd (fp_call (fr_X0_hasPicture _ _ _ ) (fun _ z => absurd z (by simp)) (fun _ z => absurd z (by simp)) q0) (fun _ _ qz1 => ?_)
  refine fp_jn0 (fun _ qz2 => ?_) (fun _ kz3 => ?_)
  · exact fp_some qz2
  · refine fp_ite ?_ ?_
    · exact kz3 _ qz1
    · refine fp_ite ?_ ?_
      · refine fp_lp2 (fun _ kz5 _ _ _ qz4 => ?_) (fun _ _ _ => fp_none) qz1
        refine fp_ite ?_ ?_
        · refine fp_gd ?_
          refine fp_jn1 (fun _ _ qz6 => ?_) (fun _ kz7 => ?_)
          · exact kz5 _ _ _ qz6
          · refine fp_ite ?_ ?_
            · exact kz7 _ _ qz4
            · exact kz7 _ _ qz4
        · exact fp_some qz4
      · exact kz3 _ qz1
theorem fr_X5_isKey (a1 : Int32) (a2 : Int32) (h : Hp) : FpX (FrX [] [] h) (F_X5_isKey a1 a2 h) := by
  unfold F_X5_isKey
  have q0 := FrX.refl [] [] h
  refine fp_jn1 (fun _ _ qz1 => ?_) (fun _ kz2 => ?_)
  · refine fp_gd ?_
    exact fp_some qz1
  · refine fp_jn0 (fun _ qz3 => ?_) (fun _ kz4 => ?_)
    · exact kz2 _ _ qz3
    · refine fp_ite ?_ ?_
      · exact kz4 _ q0
      · refine fp_ite ?_ ?_
        · refine fp_ite ?_ ?_
          · exact kz4 _ q0
          · refine fp_ite ?_ ?_
            · exact kz2 _ _ q0
            · exact kz4 _ q0
        · exact kz4 _ q0
theorem fr_X5_valueOf (t : Nat) (a1 : Int32) (a2 : Int32) (h : Hp) : FpX (FrX [] [] h) (F_X5_valueOf t a1 a2 h) := by
  unfold F_X5_valueOf
  have q0 := FrX.refl [] [] h
  refine fp_bd (fp_call (fr_X5_isKey _ _ _ ) (fun _ z => absurd z (by simp)) (fun _ z => absurd z (by simp)) q0) (fun _ _ qz1 => ?_)
  refine fp_jn1 (fun _ _ qz2 => ?_) (fun _ kz3 => ?_)
  · exact fp_some qz2
  · refine fp_ite ?_ ?_
    · exact kz3 _ _ qz1
    · refine fp_gd ?_
      exact kz3 _ _ qz1
theorem fr_X0_picturesSeeing (t : Nat) (a1 : Int32) (a2 : Int32) (h : Hp) : FpX (FrX [] [] h) (F_X0_picturesSeeing t a1 a2 h) := by
  unfold F_X0_picturesSeeing
  have q0 := FrX.refl [] [] h
  refine fp_lp2 (fun _ kz2 _ _ _ qz1 => ?_) (fun _ _ _ => fp_none) q0
  refine fp_ite ?_ ?_
  · refine fp_bd (fp_call (fr_X5_valueOf _ _ _ _ ) (fun _ z => absurd z (by simp)) (fun _ z => absurd z (by simp)) qz1) (fun _ _ qz3 => ?_)
    refine fp_jn1 (fun _ _ qz4 => ?_) (fun _ kz5 => ?_)
    · exact kz2 _ _ _ qz4
    · refine fp_ite ?_ ?_
      · exact kz5 _ _ qz3
      · refine fp_jlV (fun _ => ?_)
        exact kz5 _ _ qz3
  · exact fp_some qz1
theorem fr_X1_forget (h : Hp) : FpX (FrX [5829, 5830, 5831] [] h) (F_X1_forget h) := by
  unfold F_X1_forget
  have q0 := FrX.refl [5829, 5830, 5831] [] h
  refine fp_jlH (FrX.sS q0 (by decide) _) (fun hz1 qz2 => ?_)
  refine fp_jlH (FrX.sS qz2 (by decide) _) (fun hz3 qz4 => ?_)
  refine fp_jlH (FrX.sS qz4 (by decide) _) (fun hz5 qz6 => ?_)
  exact fp_some qz6
theorem fr_X7_everyone (t : Nat) (h : Hp) : FpX (FrX [] [] h) (F_X7_everyone t h) := by
  unfold F_X7_everyone
  have q0 := FrX.refl [] [] h
  exact fp_some q0
theorem fr_X7_nextOnes (t : Nat) (a1 : Int32) (a2 : Int32) (h : Hp) : FpX (FrX [] [] h) (F_X7_nextOnes t a1 a2 h) := by
  unfold F_X7_nextOnes
  have q0 := FrX.refl [] [] h
  refine fp_jlV (fun _ => ?_)
  refine fp_lp2 (fun _ kz2 _ _ _ qz1 => ?_) (fun _ _ _ => fp_none) q0
  refine fp_ite ?_ ?_
  · refine fp_gd ?_
    refine fp_jn1 (fun _ _ qz3 => ?_) (fun _ kz4 => ?_)
    · refine fp_jn1 (fun _ _ qz5 => ?_) (fun _ kz6 => ?_)
      · exact kz2 _ _ _ qz5
      · refine fp_ite ?_ ?_
        · exact kz6 _ _ qz3
        · refine fp_gd ?_
          refine fp_ite ?_ ?_
          · exact kz6 _ _ qz3
          · refine fp_gd ?_
            refine fp_jlV (fun _ => ?_)
            exact kz6 _ _ qz3
    · refine fp_ite ?_ ?_
      · exact kz4 _ _ qz1
      · exact kz4 _ _ qz1
  · refine fp_lp2 (fun _ kz8 _ _ _ qz7 => ?_) (fun _ _ _ => fp_none) qz1
    refine fp_jn0 (fun _ qz9 => ?_) (fun _ kz10 => ?_)
    · exact fp_some qz9
    · refine fp_ite ?_ ?_
      · refine fp_ite ?_ ?_
        · refine fp_gd ?_
          refine fp_jn1 (fun _ _ qz11 => ?_) (fun _ kz12 => ?_)
          · exact kz8 _ _ _ qz11
          · refine fp_ite ?_ ?_
            · exact kz12 _ _ qz7
            · refine fp_jlV (fun _ => ?_)
              exact kz12 _ _ qz7
        · exact kz10 _ qz7
      · exact kz10 _ qz7
theorem fr_X11_hasBit (a1 : Int32) (a2 : Int32) (h : Hp) : FpX (FrX [] [] h) (F_X11_hasBit a1 a2 h) := by
  unfold F_X11_hasBit
  have q0 := FrX.refl [] [] h
  refine fp_jn1 (fun _ _ qz1 => ?_) (fun _ kz2 => ?_)
  · refine fp_gd ?_
    exact fp_some qz1
  · refine fp_ite ?_ ?_
    · exact kz2 _ _ q0
    · exact kz2 _ _ q0
theorem fr_J6_numberOfTrailingZeros_0f7a4 (a1 : Int32) (h : Hp) : FpX (FrX [] [] h) (F_J6_numberOfTrailingZeros_0f7a4 a1 h) := by
  unfold F_J6_numberOfTrailingZeros_0f7a4
  have q0 := FrX.refl [] [] h
  refine fp_jlV (fun _ => ?_)
  refine fp_ite ?_ ?_
  · refine fp_jn2 (fun _ _ _ qz1 => ?_) (fun _ kz2 => ?_)
    · refine fp_jn2 (fun _ _ _ qz3 => ?_) (fun _ kz4 => ?_)
      · refine fp_jn2 (fun _ _ _ qz5 => ?_) (fun _ kz6 => ?_)
        · refine fp_jn2 (fun _ _ _ qz7 => ?_) (fun _ kz8 => ?_)
          · exact fp_some qz7
          · refine fp_ite ?_ ?_
            · refine fp_jlV (fun _ => ?_)
              exact kz8 _ _ _ qz5
            · exact kz8 _ _ _ qz5
        · refine fp_ite ?_ ?_
          · refine fp_jlV (fun _ => ?_)
            exact kz6 _ _ _ qz3
          · exact kz6 _ _ _ qz3
      · refine fp_ite ?_ ?_
        · refine fp_jlV (fun _ => ?_)
          exact kz4 _ _ _ qz1
        · exact kz4 _ _ _ qz1
    · refine fp_ite ?_ ?_
      · refine fp_jlV (fun _ => ?_)
        exact kz2 _ _ _ q0
      · exact kz2 _ _ _ q0
  · exact fp_some q0
theorem fr_J13_numberOfTrailingZeros_95d88 (a1 : Int64) (h : Hp) : FpX (FrX [] [] h) (F_J13_numberOfTrailingZeros_95d88 a1 h) := by
  unfold F_J13_numberOfTrailingZeros_95d88
  have q0 := FrX.refl [] [] h
  refine fp_jlV (fun _ => ?_)
  refine fp_jn1 (fun _ _ qz1 => ?_) (fun _ kz2 => ?_)
  · exact fp_some qz1
  · refine fp_ite ?_ ?_
    · refine fp_bd (fp_call (fr_J6_numberOfTrailingZeros_0f7a4 _ _ ) (fun _ z => absurd z (by simp)) (fun _ z => absurd z (by simp)) q0) (fun _ _ qz3 => ?_)
      exact kz2 _ _ qz3
    · refine fp_bd (fp_call (fr_J6_numberOfTrailingZeros_0f7a4 _ _ ) (fun _ z => absurd z (by simp)) (fun _ z => absurd z (by simp)) q0) (fun _ _ qz4 => ?_)
      exact kz2 _ _ qz4
theorem fr_X7_freeBehind (t : Nat) (a1 : Int32) (a2 : Int32) (h : Hp) : FpX (FrX [] [] h) (F_X7_freeBehind t a1 a2 h) := by
  unfold F_X7_freeBehind
  have q0 := FrX.refl [] [] h
  refine fp_jn0 (fun _ qz1 => ?_) (fun _ kz2 => ?_)
  · exact fp_some qz1
  · refine fp_ite ?_ ?_
    · exact kz2 _ q0
    · refine fp_ite ?_ ?_
      · refine fp_ite ?_ ?_
        · exact kz2 _ q0
        · refine fp_ite ?_ ?_
          · refine fp_gd ?_
            refine fp_jlV (fun _ => ?_)
            refine fp_jn1 (fun _ _ qz3 => ?_) (fun _ kz4 => ?_)
            · exact fp_some qz3
            · refine fp_ite ?_ ?_
              · exact kz4 _ _ q0
              · refine fp_bd (fp_call (fr_J13_numberOfTrailingZeros_95d88 _ _ ) (fun _ z => absurd z (by simp)) (fun _ z => absurd z (by simp)) q0) (fun _ _ qz5 => ?_)
                exact kz4 _ _ qz5
          · exact kz2 _ q0
      · exact kz2 _ q0
theorem fr_J9_min_7cf53 (a1 : Int32) (a2 : Int32) (h : Hp) : FpX (FrX [] [] h) (F_J9_min_7cf53 a1 a2 h) := by
  unfold F_J9_min_7cf53
  have q0 := FrX.refl [] [] h
  refine fp_jn1 (fun _ _ qz1 => ?_) (fun _ kz2 => ?_)
  · exact fp_some qz1
  · refine fp_ite ?_ ?_
    · exact kz2 _ _ q0
    · exact kz2 _ _ q0
theorem fr_X3_canBe (t : Nat) (a1 : Nat) (a2 : Int32) (h : Hp) : FpX (FrX [] [t + 1] h) (F_X3_canBe t a1 a2 h) := by
  unfold F_X3_canBe
  have q0 := FrX.refl [] [t + 1] h
  refine fp_jn0 (fun _ qz1 => ?_) (fun _ kz2 => ?_)
  · exact fp_some qz1
  · refine fp_ite ?_ ?_
    · exact kz2 _ q0
    · refine fp_ite ?_ ?_
      · refine fp_bd (fp_call (fr_J7_fill_53178 _ _ _ _ ) (fun _ z => absurd z (by simp)) (fun v z => by simp only [List.mem_cons, List.not_mem_nil, or_false, true_or, or_true] at z ⊢; try omega) q0) (fun _ _ qz3 => ?_)
        refine fp_gd ?_
        refine fp_jlH (FrX.aS qz3 (by simp only [List.mem_cons, List.not_mem_nil, or_false, true_or, or_true]; try omega) _ _) (fun hz4 qz5 => ?_)
        refine fp_lp1 (fun _ kz7 _ _ qz6 => ?_) (fun _ _ => fp_none) qz5
        refine fp_ite ?_ ?_
        · refine fp_jn0 (fun _ qz8 => ?_) (fun _ kz9 => ?_)
          · exact kz7 _ _ qz8
          · refine fp_ite ?_ ?_
            · refine fp_gd ?_
              refine fp_ite ?_ ?_
              · exact kz9 _ qz6
              · refine fp_bd (fp_call (fr_X7_nextOnes _ _ _ _ ) (fun _ z => absurd z (by simp)) (fun _ z => absurd z (by simp)) qz6) (fun _ _ qz10 => ?_)
                refine fp_lp1 (fun _ kz12 _ _ qz11 => ?_) (fun _ _ => fp_none) qz10
                refine fp_ite ?_ ?_
                · refine fp_bd (fp_call (fr_X11_hasBit _ _ _ ) (fun _ z => absurd z (by simp)) (fun _ z => absurd z (by simp)) qz11) (fun _ _ qz13 => ?_)
                  refine fp_jn0 (fun _ qz14 => ?_) (fun _ kz15 => ?_)
                  · exact kz12 _ _ qz14
                  · refine fp_ite ?_ ?_
                    · exact kz15 _ qz13
                    · refine fp_gd ?_
                      refine fp_bd (fp_call (fr_X7_freeBehind _ _ _ _ ) (fun _ z => absurd z (by simp)) (fun _ z => absurd z (by simp)) qz13) (fun _ _ qz16 => ?_)
                      refine fp_jlV (fun _ => ?_)
                      refine fp_ite ?_ ?_
                      · exact kz15 _ qz16
                      · refine fp_ite ?_ ?_
                        · refine fp_gd ?_
                          refine fp_bd (fp_call (fr_J9_min_7cf53 _ _ _ ) (fun _ z => absurd z (by simp)) (fun _ z => absurd z (by simp)) qz16) (fun _ _ qz17 => ?_)
                          refine fp_gd ?_
                          refine fp_jlH (FrX.aS qz17 (by simp only [List.mem_cons, List.not_mem_nil, or_false, true_or, or_true]; try omega) _ _) (fun hz18 qz19 => ?_)
                          exact kz15 _ qz19
                        · exact kz15 _ qz16
                · exact kz9 _ qz11
            · exact kz9 _ qz6
        · refine fp_gd ?_
          refine fp_jn1 (fun _ _ qz20 => ?_) (fun _ kz21 => ?_)
          · refine fp_gd ?_
            exact fp_some qz20
          · refine fp_ite ?_ ?_
            · exact kz21 _ _ qz6
            · exact kz21 _ _ qz6
      · exact kz2 _ q0
theorem fr_J6_bitCount_0f7a4 (a1 : Int32) (h : Hp) : FpX (FrX [] [] h) (F_J6_bitCount_0f7a4 a1 h) := by
  unfold F_J6_bitCount_0f7a4
  have q0 := FrX.refl [] [] h
  refine fp_jlV (fun _ => ?_)
  refine fp_jlV (fun _ => ?_)
  refine fp_jlV (fun _ => ?_)
  refine fp_jlV (fun _ => ?_)
  refine fp_jlV (fun _ => ?_)
  exact fp_some q0
theorem fr_X1_seekKnot (a1 : Nat) (h : Hp) : FpX (FrX [] [110] h) (F_X1_seekKnot a1 h) := by
  unfold F_X1_seekKnot
  have q0 := FrX.refl [] [110] h
  refine fp_bd (fp_call (fr_X7_everyone _ _ ) (fun _ z => absurd z (by simp)) (fun _ z => absurd z (by simp)) q0) (fun _ _ qz1 => ?_)
  refine fp_bd (fp_call (fr_X3_canBe _ _ _ _ ) (fun _ z => absurd z (by simp)) (by decide) qz1) (fun _ _ qz2 => ?_)
  refine fp_ite ?_ ?_
  · refine fp_lp1 (fun _ kz4 _ _ qz3 => ?_) (fun _ _ => fp_none) qz2
    refine fp_ite ?_ ?_
    · exact fp_some qz3
    · refine fp_lp1 (fun _ kz6 _ _ qz5 => ?_) (fun _ _ => fp_none) qz3
      refine fp_ite ?_ ?_
      · exact kz4 _ _ qz5
      · refine fp_bd (fp_call (fr_J6_bitCount_0f7a4 _ _ ) (fun _ z => absurd z (by simp)) (fun _ z => absurd z (by simp)) qz5) (fun _ _ qz7 => ?_)
        refine fp_jn0 (fun _ qz8 => ?_) (fun _ kz9 => ?_)
        · exact kz6 _ _ qz8
        · refine fp_ite ?_ ?_
          · refine fp_bd (fp_call (fr_X3_canBe _ _ _ _ ) (fun _ z => absurd z (by simp)) (by decide) qz7) (fun _ _ qz10 => ?_)
            refine fp_ite ?_ ?_
            · exact fp_some qz10
            · exact kz9 _ qz10
          · exact kz9 _ qz7
  · exact fp_some qz2
theorem fr_X1_knotOf (a1 : Nat) (h : Hp) : FpX (FrX [5828, 5829] [110] h) (F_X1_knotOf a1 h) := by
  unfold F_X1_knotOf
  have q0 := FrX.refl [5828, 5829] [110] h
  refine fp_jn0 (fun _ qz1 => ?_) (fun _ kz2 => ?_)
  · refine fp_jlH (FrX.sS qz1 (by decide) _) (fun hz3 qz4 => ?_)
    exact fp_some qz4
  · refine fp_ite ?_ ?_
    · refine fp_bd (fp_call (fr_X1_seekKnot _ _ ) (fun _ z => absurd z (by simp)) (by decide) q0) (fun _ _ qz5 => ?_)
      refine fp_jlH (FrX.sS qz5 (by decide) _) (fun hz6 qz7 => ?_)
      exact kz2 _ qz7
    · exact kz2 _ q0
theorem fr_X5_keyOf (t : Nat) (a1 : Int32) (h : Hp) : FpX (FrX [] [] h) (F_X5_keyOf t a1 h) := by
  unfold F_X5_keyOf
  have q0 := FrX.refl [] [] h
  refine fp_jn1 (fun _ _ qz1 => ?_) (fun _ kz2 => ?_)
  · exact fp_some qz1
  · refine fp_jn0 (fun _ qz3 => ?_) (fun _ kz4 => ?_)
    · exact kz2 _ _ qz3
    · refine fp_ite ?_ ?_
      · exact kz4 _ q0
      · refine fp_ite ?_ ?_
        · refine fp_ite ?_ ?_
          · refine fp_gd ?_
            exact kz2 _ _ q0
          · exact kz4 _ q0
        · exact kz4 _ q0
theorem fr_X5_pictureOf (t : Nat) (a1 : Int32) (h : Hp) : FpX (FrX [] [] h) (F_X5_pictureOf t a1 h) := by
  unfold F_X5_pictureOf
  have q0 := FrX.refl [] [] h
  refine fp_bd (fp_call (fr_X5_keyOf _ _ _ ) (fun _ z => absurd z (by simp)) (fun _ z => absurd z (by simp)) q0) (fun _ _ qz1 => ?_)
  refine fp_jn1 (fun _ _ qz2 => ?_) (fun _ kz3 => ?_)
  · exact fp_some qz2
  · refine fp_ite ?_ ?_
    · exact kz3 _ _ qz1
    · exact kz3 _ _ qz1
theorem fr_X5_matterOf (t : Nat) (a1 : Int32) (h : Hp) : FpX (FrX [] [] h) (F_X5_matterOf t a1 h) := by
  unfold F_X5_matterOf
  have q0 := FrX.refl [] [] h
  refine fp_bd (fp_call (fr_X5_keyOf _ _ _ ) (fun _ z => absurd z (by simp)) (fun _ z => absurd z (by simp)) q0) (fun _ _ qz1 => ?_)
  refine fp_jn1 (fun _ _ qz2 => ?_) (fun _ kz3 => ?_)
  · exact fp_some qz2
  · refine fp_ite ?_ ?_
    · exact kz3 _ _ qz1
    · exact kz3 _ _ qz1
theorem fr_X5_numberOf (t : Nat) (a1 : Int32) (a2 : Int32) (h : Hp) : FpX (FrX [] [] h) (F_X5_numberOf t a1 a2 h) := by
  unfold F_X5_numberOf
  have q0 := FrX.refl [] [] h
  refine fp_bd (fp_call (fr_X5_isKey _ _ _ ) (fun _ z => absurd z (by simp)) (fun _ z => absurd z (by simp)) q0) (fun _ _ qz1 => ?_)
  refine fp_jn1 (fun _ _ qz2 => ?_) (fun _ kz3 => ?_)
  · exact fp_some qz2
  · refine fp_ite ?_ ?_
    · exact kz3 _ _ qz1
    · refine fp_gd ?_
      exact kz3 _ _ qz1
theorem fr_X5_remove (t : Nat) (a1 : Int32) (a2 : Int32) (h : Hp) : FpX (FrX [64 * t] [t + 1, t + 2, t + 3, t + 4] h) (F_X5_remove t a1 a2 h) := by
  unfold F_X5_remove
  have q0 := FrX.refl [64 * t] [t + 1, t + 2, t + 3, t + 4] h
  refine fp_bd (fp_call (fr_X5_numberOf _ _ _ _ ) (fun _ z => absurd z (by simp)) (fun _ z => absurd z (by simp)) q0) (fun _ _ qz1 => ?_)
  refine fp_jn0 (fun _ qz2 => ?_) (fun _ kz3 => ?_)
  · exact fp_some qz2
  · refine fp_ite ?_ ?_
    · exact kz3 _ qz1
    · refine fp_ite ?_ ?_
      · refine fp_jlV (fun _ => ?_)
        refine fp_gd ?_
        refine fp_jlH (FrX.aS qz1 (by simp only [List.mem_cons, List.not_mem_nil, or_false, true_or, or_true]; try omega) _ _) (fun hz4 qz5 => ?_)
        refine fp_gd ?_
        refine fp_jlH (FrX.aS qz5 (by simp only [List.mem_cons, List.not_mem_nil, or_false, true_or, or_true]; try omega) _ _) (fun hz6 qz7 => ?_)
        refine fp_gd ?_
        refine fp_jlH (FrX.aS qz7 (by simp only [List.mem_cons, List.not_mem_nil, or_false, true_or, or_true]; try omega) _ _) (fun hz8 qz9 => ?_)
        refine fp_jlH (FrX.sS qz9 (by simp only [List.mem_cons, List.not_mem_nil, or_false, true_or, or_true]; try omega) _) (fun hz10 qz11 => ?_)
        refine fp_lp1 (fun _ kz13 _ _ qz12 => ?_) (fun _ _ => fp_none) qz11
        refine fp_jn0 (fun _ qz14 => ?_) (fun _ kz15 => ?_)
        · exact fp_some qz14
        · refine fp_ite ?_ ?_
          · refine fp_ite ?_ ?_
            · refine fp_gd ?_
              refine fp_jlV (fun _ => ?_)
              refine fp_gd ?_
              refine fp_jlH (FrX.aS qz12 (by simp only [List.mem_cons, List.not_mem_nil, or_false, true_or, or_true]; try omega) _ _) (fun hz16 qz17 => ?_)
              refine fp_jn0 (fun _ qz18 => ?_) (fun _ kz19 => ?_)
              · exact kz13 _ _ qz18
              · refine fp_ite ?_ ?_
                · exact kz19 _ qz17
                · refine fp_ite ?_ ?_
                  · refine fp_gd ?_
                    refine fp_jlH (FrX.aS qz17 (by simp only [List.mem_cons, List.not_mem_nil, or_false, true_or, or_true]; try omega) _ _) (fun hz20 qz21 => ?_)
                    exact kz19 _ qz21
                  · exact kz19 _ qz17
            · exact kz15 _ qz12
          · exact kz15 _ qz12
      · exact kz3 _ qz1
theorem fr_X7_copyFrom (t : Nat) (a1 : Nat) (h : Hp) : FpX (FrX [64 * t + 1] [t + 1, t + 2, t + 4, t + 5] h) (F_X7_copyFrom t a1 h) := by
  unfold F_X7_copyFrom
  have q0 := FrX.refl [64 * t + 1] [t + 1, t + 2, t + 4, t + 5] h
  refine fp_jlH (FrX.sS q0 (by simp only [List.mem_cons, List.not_mem_nil, or_false, true_or, or_true]; try omega) _) (fun hz1 qz2 => ?_)
  refine fp_gd ?_
  refine fp_jlH (FrX.lV qz2 (by simp only [List.mem_cons, List.not_mem_nil, or_false, true_or, or_true]; try omega) _) (fun hz3 qz4 => ?_)
  refine fp_gd ?_
  refine fp_jlH (FrX.aV qz4 (by simp only [List.mem_cons, List.not_mem_nil, or_false, true_or, or_true]; try omega) _) (fun hz5 qz6 => ?_)
  refine fp_gd ?_
  refine fp_jlH (FrX.aV qz6 (by simp only [List.mem_cons, List.not_mem_nil, or_false, true_or, or_true]; try omega) _) (fun hz7 qz8 => ?_)
  refine fp_gd ?_
  refine fp_jlH (FrX.aV qz8 (by simp only [List.mem_cons, List.not_mem_nil, or_false, true_or, or_true]; try omega) _) (fun hz9 qz10 => ?_)
  exact fp_some qz10
theorem fr_X5_slackOf (t : Nat) (a1 : Int32) (a2 : Int32) (h : Hp) : FpX (FrX [] [] h) (F_X5_slackOf t a1 a2 h) := by
  unfold F_X5_slackOf
  have q0 := FrX.refl [] [] h
  refine fp_bd (fp_call (fr_X5_isKey _ _ _ ) (fun _ z => absurd z (by simp)) (fun _ z => absurd z (by simp)) q0) (fun _ _ qz1 => ?_)
  refine fp_jn1 (fun _ _ qz2 => ?_) (fun _ kz3 => ?_)
  · exact fp_some qz2
  · refine fp_ite ?_ ?_
    · exact kz3 _ _ qz1
    · refine fp_gd ?_
      exact kz3 _ _ qz1
theorem fr_J9_abs_0f7a4 (a1 : Int32) (h : Hp) : FpX (FrX [] [] h) (F_J9_abs_0f7a4 a1 h) := by
  unfold F_J9_abs_0f7a4
  have q0 := FrX.refl [] [] h
  refine fp_jn1 (fun _ _ qz1 => ?_) (fun _ kz2 => ?_)
  · exact fp_some qz1
  · refine fp_ite ?_ ?_
    · exact kz2 _ _ q0
    · exact kz2 _ _ q0
theorem fr_X9_isUp (t : Nat) (a1 : Int32) (h : Hp) : FpX (FrX [] [] h) (F_X9_isUp t a1 h) := by
  unfold F_X9_isUp
  have q0 := FrX.refl [] [] h
  refine fp_bd (fp_call (fr_J9_abs_0f7a4 _ _ ) (fun _ z => absurd z (by simp)) (fun _ z => absurd z (by simp)) q0) (fun _ _ qz1 => ?_)
  refine fp_jn1 (fun _ _ qz2 => ?_) (fun _ kz3 => ?_)
  · refine fp_gd ?_
    exact fp_some qz2
  · refine fp_ite ?_ ?_
    · exact kz3 _ _ qz1
    · exact kz3 _ _ qz1
theorem fr_X9_pointAt (t : Nat) (a1 : Int32) (h : Hp) : FpX (FrX [] [] h) (F_X9_pointAt t a1 h) := by
  unfold F_X9_pointAt
  have q0 := FrX.refl [] [] h
  refine fp_bd (fp_call (fr_X9_isUp _ _ _ ) (fun _ z => absurd z (by simp)) (fun _ z => absurd z (by simp)) q0) (fun _ _ qz1 => ?_)
  refine fp_jn1 (fun _ _ qz2 => ?_) (fun _ kz3 => ?_)
  · exact fp_some qz2
  · refine fp_ite ?_ ?_
    · exact kz3 _ _ qz1
    · exact kz3 _ _ qz1
theorem fr_X7_isNear (a1 : Int32) (a2 : Int32) (a3 : Int32) (h : Hp) : FpX (FrX [] [] h) (F_X7_isNear a1 a2 a3 h) := by
  unfold F_X7_isNear
  have q0 := FrX.refl [] [] h
  refine fp_jn1 (fun _ _ qz1 => ?_) (fun _ kz2 => ?_)
  · refine fp_gd ?_
    exact fp_some qz1
  · refine fp_jn0 (fun _ qz3 => ?_) (fun _ kz4 => ?_)
    · exact kz2 _ _ qz3
    · refine fp_ite ?_ ?_
      · exact kz4 _ q0
      · refine fp_bd (fp_call (fr_J9_abs_0f7a4 _ _ ) (fun _ z => absurd z (by simp)) (fun _ z => absurd z (by simp)) q0) (fun _ _ qz5 => ?_)
        refine fp_ite ?_ ?_
        · exact kz2 _ _ qz5
        · exact kz4 _ qz5
theorem fr_X9_lengthAt (t : Nat) (a1 : Int32) (h : Hp) : FpX (FrX [] [] h) (F_X9_lengthAt t a1 h) := by
  unfold F_X9_lengthAt
  have q0 := FrX.refl [] [] h
  refine fp_jlV (fun _ => ?_)
  refine fp_bd (fp_call (fr_X9_isUp _ _ _ ) (fun _ z => absurd z (by simp)) (fun _ z => absurd z (by simp)) q0) (fun _ _ qz1 => ?_)
  refine fp_jn1 (fun _ _ qz2 => ?_) (fun _ kz3 => ?_)
  · exact fp_some qz2
  · refine fp_ite ?_ ?_
    · exact kz3 _ _ qz1
    · exact kz3 _ _ qz1
theorem fr_X7_readWindow (t : Nat) (a1 : Nat) (a2 : Nat) (a3 : Int32) (h : Hp) : FpX (FrX [] [t + 1] h) (F_X7_readWindow t a1 a2 a3 h) := by
  unfold F_X7_readWindow
  have q0 := FrX.refl [] [t + 1] h
  refine fp_jn0 (fun _ qz1 => ?_) (fun _ kz2 => ?_)
  · exact fp_some qz1
  · refine fp_ite ?_ ?_
    · exact kz2 _ q0
    · refine fp_ite ?_ ?_
      · refine fp_bd (fp_call (fr_X5_valueOf _ _ _ _ ) (fun _ z => absurd z (by simp)) (fun _ z => absurd z (by simp)) q0) (fun _ _ qz3 => ?_)
        refine fp_bd (fp_call (fr_X5_slackOf _ _ _ _ ) (fun _ z => absurd z (by simp)) (fun _ z => absurd z (by simp)) qz3) (fun _ _ qz4 => ?_)
        refine fp_bd (fp_call (fr_X5_valueOf _ _ _ _ ) (fun _ z => absurd z (by simp)) (fun _ z => absurd z (by simp)) qz4) (fun _ _ qz5 => ?_)
        refine fp_bd (fp_call (fr_X5_slackOf _ _ _ _ ) (fun _ z => absurd z (by simp)) (fun _ z => absurd z (by simp)) qz5) (fun _ _ qz6 => ?_)
        refine fp_gd ?_
        refine fp_jlH (FrX.lS qz6 (by simp only [List.mem_cons, List.not_mem_nil, or_false, true_or, or_true]; try omega) _ _) (fun hz7 qz8 => ?_)
        refine fp_jn0 (fun _ qz9 => ?_) (fun _ kz10 => ?_)
        · refine fp_lp2 (fun _ kz12 _ _ _ qz11 => ?_) (fun _ _ _ => fp_none) qz9
          refine fp_ite ?_ ?_
          · refine fp_bd (fp_call (fr_X9_isUp _ _ _ ) (fun _ z => absurd z (by simp)) (fun _ z => absurd z (by simp)) qz11) (fun _ _ qz13 => ?_)
            refine fp_jn1 (fun _ _ qz14 => ?_) (fun _ kz15 => ?_)
            · refine fp_jn1 (fun _ _ qz16 => ?_) (fun _ kz17 => ?_)
              · exact kz12 _ _ _ qz16
              · refine fp_ite ?_ ?_
                · exact kz17 _ _ qz14
                · refine fp_jlV (fun _ => ?_)
                  exact kz17 _ _ qz14
            · refine fp_jn0 (fun _ qz18 => ?_) (fun _ kz19 => ?_)
              · exact kz15 _ _ qz18
              · refine fp_ite ?_ ?_
                · exact kz19 _ qz13
                · refine fp_bd (fp_call (fr_X9_pointAt _ _ _ ) (fun _ z => absurd z (by simp)) (fun _ z => absurd z (by simp)) qz13) (fun _ _ qz20 => ?_)
                  refine fp_bd (fp_call (fr_X7_isNear _ _ _ _ ) (fun _ z => absurd z (by simp)) (fun _ z => absurd z (by simp)) qz20) (fun _ _ qz21 => ?_)
                  refine fp_ite ?_ ?_
                  · exact kz19 _ qz21
                  · refine fp_bd (fp_call (fr_X9_lengthAt _ _ _ ) (fun _ z => absurd z (by simp)) (fun _ z => absurd z (by simp)) qz21) (fun _ _ qz22 => ?_)
                    refine fp_bd (fp_call (fr_X7_isNear _ _ _ _ ) (fun _ z => absurd z (by simp)) (fun _ z => absurd z (by simp)) qz22) (fun _ _ qz23 => ?_)
                    refine fp_ite ?_ ?_
                    · exact kz19 _ qz23
                    · exact kz15 _ _ qz23
          · refine fp_gd ?_
            refine fp_jlH (FrX.lS qz11 (by simp only [List.mem_cons, List.not_mem_nil, or_false, true_or, or_true]; try omega) _ _) (fun hz24 qz25 => ?_)
            exact fp_some qz25
        · refine fp_ite ?_ ?_
          · refine fp_ite ?_ ?_
            · exact fp_some qz8
            · exact kz10 _ qz8
          · exact kz10 _ qz8
      · exact kz2 _ q0
theorem fr_X7_readWear (t : Nat) (h : Hp) : FpX (FrX [] [t + 2] h) (F_X7_readWear t h) := by
  unfold F_X7_readWear
  have q0 := FrX.refl [] [t + 2] h
  refine fp_lp1 (fun _ kz2 _ _ qz1 => ?_) (fun _ _ => fp_none) q0
  refine fp_ite ?_ ?_
  · refine fp_lp1 (fun _ kz4 _ _ qz3 => ?_) (fun _ _ => fp_none) qz1
    refine fp_ite ?_ ?_
    · refine fp_gd ?_
      refine fp_jn1 (fun _ _ qz5 => ?_) (fun _ kz6 => ?_)
      · refine fp_jn0 (fun _ qz7 => ?_) (fun _ kz8 => ?_)
        · exact kz4 _ _ qz7
        · refine fp_ite ?_ ?_
          · exact kz8 _ qz5
          · refine fp_gd ?_
            refine fp_gd ?_
            refine fp_jlH (FrX.aS qz5 (by simp only [List.mem_cons, List.not_mem_nil, or_false, true_or, or_true]; try omega) _ _) (fun hz9 qz10 => ?_)
            exact kz8 _ qz10
      · refine fp_jn0 (fun _ qz11 => ?_) (fun _ kz12 => ?_)
        · exact kz6 _ _ qz11
        · refine fp_ite ?_ ?_
          · exact kz12 _ qz3
          · refine fp_gd ?_
            refine fp_gd ?_
            refine fp_ite ?_ ?_
            · exact kz6 _ _ qz3
            · exact kz12 _ qz3
    · exact kz2 _ _ qz3
  · exact fp_some qz1
theorem fr_X7_putAhead (t : Nat) (a1 : Int32) (a2 : Int32) (h : Hp) : FpX (FrX [] [t + 2] h) (F_X7_putAhead t a1 a2 h) := by
  unfold F_X7_putAhead
  have q0 := FrX.refl [] [t + 2] h
  refine fp_lp1 (fun _ kz2 _ _ qz1 => ?_) (fun _ _ => fp_none) q0
  refine fp_jn0 (fun _ qz3 => ?_) (fun _ kz4 => ?_)
  · exact fp_some qz3
  · refine fp_ite ?_ ?_
    · refine fp_ite ?_ ?_
      · refine fp_bd (fp_call (fr_X11_hasBit _ _ _ ) (fun _ z => absurd z (by simp)) (fun _ z => absurd z (by simp)) qz1) (fun _ _ qz5 => ?_)
        refine fp_jn0 (fun _ qz6 => ?_) (fun _ kz7 => ?_)
        · exact kz2 _ _ qz6
        · refine fp_ite ?_ ?_
          · exact kz7 _ qz5
          · refine fp_gd ?_
            refine fp_gd ?_
            refine fp_jlH (FrX.aS qz5 (by simp only [List.mem_cons, List.not_mem_nil, or_false, true_or, or_true]; try omega) _ _) (fun hz8 qz9 => ?_)
            exact kz7 _ qz9
      · exact kz4 _ qz1
    · exact kz4 _ qz1
theorem fr_X7_readThing (t : Nat) (a1 : Int32) (a2 : Int32) (h : Hp) : FpX (FrX [] [t + 2, t + 4, t + 5] h) (F_X7_readThing t a1 a2 h) := by
  unfold F_X7_readThing
  have q0 := FrX.refl [] [t + 2, t + 4, t + 5] h
  refine fp_jn0 (fun _ qz1 => ?_) (fun _ kz2 => ?_)
  · exact fp_some qz1
  · refine fp_ite ?_ ?_
    · exact kz2 _ q0
    · refine fp_ite ?_ ?_
      · refine fp_lp3 (fun _ kz4 _ _ _ _ qz3 => ?_) (fun _ _ _ _ => fp_none) q0
        refine fp_ite ?_ ?_
        · refine fp_gd ?_
          refine fp_jn1 (fun _ _ qz5 => ?_) (fun _ kz6 => ?_)
          · refine fp_gd ?_
            refine fp_jn1 (fun _ _ qz7 => ?_) (fun _ kz8 => ?_)
            · exact kz4 _ _ _ _ qz7
            · refine fp_ite ?_ ?_
              · refine fp_jlV (fun _ => ?_)
                exact kz8 _ _ qz5
              · exact kz8 _ _ qz5
          · refine fp_ite ?_ ?_
            · refine fp_jlV (fun _ => ?_)
              exact kz6 _ _ qz3
            · exact kz6 _ _ qz3
        · refine fp_jn0 (fun _ qz9 => ?_) (fun _ kz10 => ?_)
          · refine fp_jn0 (fun _ qz11 => ?_) (fun _ kz12 => ?_)
            · refine fp_ite ?_ ?_
              · refine fp_gd ?_
                refine fp_jlH (FrX.aS qz11 (by simp only [List.mem_cons, List.not_mem_nil, or_false, true_or, or_true]; try omega) _ _) (fun hz13 qz14 => ?_)
                refine fp_gd ?_
                refine fp_jlH (FrX.aS qz14 (by simp only [List.mem_cons, List.not_mem_nil, or_false, true_or, or_true]; try omega) _ _) (fun hz15 qz16 => ?_)
                exact fp_some qz16
              · exact fp_some qz11
            · refine fp_ite ?_ ?_
              · refine fp_bd (fp_call (fr_X7_putAhead _ _ _ _ ) (fun _ z => absurd z (by simp)) (fun v z => by simp only [List.mem_cons, List.not_mem_nil, or_false, true_or, or_true] at z ⊢; try omega) qz9) (fun _ _ qz17 => ?_)
                exact kz12 _ qz17
              · exact kz12 _ qz9
          · refine fp_ite ?_ ?_
            · refine fp_bd (fp_call (fr_X7_putAhead _ _ _ _ ) (fun _ z => absurd z (by simp)) (fun v z => by simp only [List.mem_cons, List.not_mem_nil, or_false, true_or, or_true] at z ⊢; try omega) qz3) (fun _ _ qz18 => ?_)
              exact kz10 _ qz18
            · exact kz10 _ qz3
      · exact kz2 _ q0
theorem fr_X7_readThings (t : Nat) (a1 : Nat) (a2 : Nat) (h : Hp) : FpX (FrX [] [t + 2, t + 4, t + 5, t + 6] h) (F_X7_readThings t a1 a2 h) := by
  unfold F_X7_readThings
  have q0 := FrX.refl [] [t + 2, t + 4, t + 5, t + 6] h
  refine fp_bd (fp_call (fr_J7_fill_53178 _ _ _ _ ) (fun _ z => absurd z (by simp)) (fun v z => by simp only [List.mem_cons, List.not_mem_nil, or_false, true_or, or_true] at z ⊢; try omega) q0) (fun _ _ qz1 => ?_)
  refine fp_bd (fp_call (fr_J7_fill_53178 _ _ _ _ ) (fun _ z => absurd z (by simp)) (fun v z => by simp only [List.mem_cons, List.not_mem_nil, or_false, true_or, or_true] at z ⊢; try omega) qz1) (fun _ _ qz2 => ?_)
  refine fp_bd (fp_call (fr_J7_fill_53178 _ _ _ _ ) (fun _ z => absurd z (by simp)) (fun v z => by simp only [List.mem_cons, List.not_mem_nil, or_false, true_or, or_true] at z ⊢; try omega) qz2) (fun _ _ qz3 => ?_)
  refine fp_lp1 (fun _ kz5 _ _ qz4 => ?_) (fun _ _ => fp_none) qz3
  refine fp_ite ?_ ?_
  · refine fp_lp1 (fun _ kz7 _ _ qz6 => ?_) (fun _ _ => fp_none) qz4
    refine fp_ite ?_ ?_
    · refine fp_bd (fp_call (fr_X5_valueOf _ _ _ _ ) (fun _ z => absurd z (by simp)) (fun _ z => absurd z (by simp)) qz6) (fun _ _ qz8 => ?_)
      refine fp_gd ?_
      refine fp_jlH (FrX.aS qz8 (by simp only [List.mem_cons, List.not_mem_nil, or_false, true_or, or_true]; try omega) _ _) (fun hz9 qz10 => ?_)
      exact kz7 _ _ qz10
    · refine fp_bd (fp_call (fr_X0_kindOf _ _ _ ) (fun _ z => absurd z (by simp)) (fun _ z => absurd z (by simp)) qz6) (fun _ _ qz11 => ?_)
      refine fp_jn0 (fun _ qz12 => ?_) (fun _ kz13 => ?_)
      · exact kz5 _ _ qz12
      · refine fp_ite ?_ ?_
        · refine fp_bd (fp_call (fr_X7_readWear _ _ ) (fun _ z => absurd z (by simp)) (fun v z => by simp only [List.mem_cons, List.not_mem_nil, or_false, true_or, or_true] at z ⊢; try omega) qz11) (fun _ _ qz14 => ?_)
          exact kz13 _ qz14
        · refine fp_bd (fp_call (fr_X0_kindOf _ _ _ ) (fun _ z => absurd z (by simp)) (fun _ z => absurd z (by simp)) qz11) (fun _ _ qz15 => ?_)
          refine fp_bd (fp_call (fr_X7_readThing _ _ _ _ ) (fun _ z => absurd z (by simp)) (fun v z => by simp only [List.mem_cons, List.not_mem_nil, or_false, true_or, or_true] at z ⊢; try omega) qz15) (fun _ _ qz16 => ?_)
          exact kz13 _ qz16
  · exact fp_some qz4
theorem fr_X7_readAgain (t : Nat) (a1 : Nat) (a2 : Nat) (a3 : Int32) (a4 : Int32) (h : Hp) : FpX (FrX [] [t + 1, t + 2, t + 4, t + 5, t + 6] h) (F_X7_readAgain t a1 a2 a3 a4 h) := by
  unfold F_X7_readAgain
  have q0 := FrX.refl [] [t + 1, t + 2, t + 4, t + 5, t + 6] h
  refine fp_jn0 (fun _ qz1 => ?_) (fun _ kz2 => ?_)
  · exact fp_some qz1
  · refine fp_ite ?_ ?_
    · refine fp_bd (fp_call (fr_X7_readWindow _ _ _ _ _ ) (fun _ z => absurd z (by simp)) (fun v z => by simp only [List.mem_cons, List.not_mem_nil, or_false, true_or, or_true] at z ⊢; try omega) q0) (fun _ _ qz3 => ?_)
      exact kz2 _ qz3
    · refine fp_bd (fp_call (fr_X7_readThings _ _ _ _ ) (fun _ z => absurd z (by simp)) (fun v z => by simp only [List.mem_cons, List.not_mem_nil, or_false, true_or, or_true] at z ⊢; try omega) q0) (fun _ _ qz4 => ?_)
      exact kz2 _ qz4
theorem fr_X1_isLoose (a1 : Nat) (a2 : Nat) (a3 : Int32) (h : Hp) : FpX (FrX [5952, 6273] [94, 95, 96, 97, 99, 100, 102, 103, 104, 110] h) (F_X1_isLoose a1 a2 a3 h) := by
  unfold F_X1_isLoose
  have q0 := FrX.refl [5952, 6273] [94, 95, 96, 97, 99, 100, 102, 103, 104, 110] h
  refine fp_bd (fp_call (fr_X5_pictureOf _ _ _ ) (fun _ z => absurd z (by simp)) (fun _ z => absurd z (by simp)) q0) (fun _ _ qz1 => ?_)
  refine fp_bd (fp_call (fr_X5_matterOf _ _ _ ) (fun _ z => absurd z (by simp)) (fun _ z => absurd z (by simp)) qz1) (fun _ _ qz2 => ?_)
  refine fp_bd (fp_call (fr_X5_copyFrom _ _ _ ) (by decide) (by decide) qz2) (fun _ _ qz3 => ?_)
  refine fp_bd (fp_call (fr_X5_remove _ _ _ _ ) (by decide) (by decide) qz3) (fun _ _ qz4 => ?_)
  refine fp_bd (fp_call (fr_X7_copyFrom _ _ _ ) (by decide) (by decide) qz4) (fun _ _ qz5 => ?_)
  refine fp_bd (fp_call (fr_X7_readAgain _ _ _ _ _ _ ) (fun _ z => absurd z (by simp)) (by decide) qz5) (fun _ _ qz6 => ?_)
  refine fp_bd (fp_call (fr_X7_everyone _ _ ) (fun _ z => absurd z (by simp)) (fun _ z => absurd z (by simp)) qz6) (fun _ _ qz7 => ?_)
  refine fp_bd (fp_call (fr_X3_canBe _ _ _ _ ) (fun _ z => absurd z (by simp)) (by decide) qz7) (fun _ _ qz8 => ?_)
  refine fp_gd ?_
  exact fp_some qz8
theorem fr_X1_seekLoose (a1 : Nat) (a2 : Nat) (h : Hp) : FpX (FrX [5824, 5830, 5952, 6273] [92, 94, 95, 96, 97, 99, 100, 102, 103, 104, 110] h) (F_X1_seekLoose a1 a2 h) := by
  unfold F_X1_seekLoose
  have q0 := FrX.refl [5824, 5830, 5952, 6273] [92, 94, 95, 96, 97, 99, 100, 102, 103, 104, 110] h
  refine fp_ite ?_ ?_
  · refine fp_jlH (FrX.sS q0 (by decide) _) (fun hz1 qz2 => ?_)
    refine fp_jlH (FrX.sS qz2 (by decide) _) (fun hz3 qz4 => ?_)
    refine fp_bd (fp_call (fr_X7_everyone _ _ ) (fun _ z => absurd z (by simp)) (fun _ z => absurd z (by simp)) qz4) (fun _ _ qz5 => ?_)
    refine fp_bd (fp_call (fr_X3_canBe _ _ _ _ ) (fun _ z => absurd z (by simp)) (by decide) qz5) (fun _ _ qz6 => ?_)
    refine fp_ite ?_ ?_
    · refine fp_lp1 (fun _ kz8 _ _ qz7 => ?_) (fun _ _ => fp_none) qz6
      refine fp_jn0 (fun _ qz9 => ?_) (fun _ kz10 => ?_)
      · exact fp_some qz9
      · refine fp_ite ?_ ?_
        · refine fp_ite ?_ ?_
          · refine fp_bd (fp_call (fr_X1_isLoose _ _ _ _ ) (by decide) (by decide) qz7) (fun _ _ qz11 => ?_)
            refine fp_jn0 (fun _ qz12 => ?_) (fun _ kz13 => ?_)
            · exact kz8 _ _ qz12
            · refine fp_ite ?_ ?_
              · exact kz13 _ qz11
              · refine fp_gd ?_
                refine fp_jlH (FrX.aS qz11 (by decide) _ _) (fun hz14 qz15 => ?_)
                refine fp_jlH (FrX.sS qz15 (by decide) _) (fun hz16 qz17 => ?_)
                exact kz13 _ qz17
          · exact kz10 _ qz7
        · exact kz10 _ qz7
    · exact fp_some qz6
  · exact fp_some q0
theorem fr_X1_looseNumber (a1 : Int32) (h : Hp) : FpX (FrX [] [] h) (F_X1_looseNumber a1 h) := by
  unfold F_X1_looseNumber
  have q0 := FrX.refl [] [] h
  refine fp_jn1 (fun _ _ qz1 => ?_) (fun _ kz2 => ?_)
  · exact fp_some qz1
  · refine fp_jn0 (fun _ qz3 => ?_) (fun _ kz4 => ?_)
    · exact kz2 _ _ qz3
    · refine fp_ite ?_ ?_
      · exact kz4 _ q0
      · refine fp_ite ?_ ?_
        · refine fp_ite ?_ ?_
          · refine fp_gd ?_
            exact kz2 _ _ q0
          · exact kz4 _ q0
        · exact kz4 _ q0
theorem fr_X5_put (t : Nat) (a1 : Int32) (a2 : Int32) (a3 : Int32) (a4 : Int32) (h : Hp) : FpX (FrX [64 * t] [t + 1, t + 2, t + 3, t + 4] h) (F_X5_put t a1 a2 a3 a4 h) := by
  unfold F_X5_put
  have q0 := FrX.refl [64 * t] [t + 1, t + 2, t + 3, t + 4] h
  refine fp_bd (fp_call (fr_X5_isKey _ _ _ ) (fun _ z => absurd z (by simp)) (fun _ z => absurd z (by simp)) q0) (fun _ _ qz1 => ?_)
  refine fp_ite ?_ ?_
  · exact fp_some qz1
  · refine fp_jlV (fun _ => ?_)
    refine fp_gd ?_
    refine fp_jlH (FrX.aS qz1 (by simp only [List.mem_cons, List.not_mem_nil, or_false, true_or, or_true]; try omega) _ _) (fun hz2 qz3 => ?_)
    refine fp_gd ?_
    refine fp_jlH (FrX.aS qz3 (by simp only [List.mem_cons, List.not_mem_nil, or_false, true_or, or_true]; try omega) _ _) (fun hz4 qz5 => ?_)
    refine fp_gd ?_
    refine fp_jn0 (fun _ qz6 => ?_) (fun _ kz7 => ?_)
    · exact fp_some qz6
    · refine fp_ite ?_ ?_
      · refine fp_ite ?_ ?_
        · exact kz7 _ qz5
        · refine fp_ite ?_ ?_
          · refine fp_gd ?_
            refine fp_jlH (FrX.aS qz5 (by simp only [List.mem_cons, List.not_mem_nil, or_false, true_or, or_true]; try omega) _ _) (fun hz8 qz9 => ?_)
            refine fp_gd ?_
            refine fp_jlH (FrX.aS qz9 (by simp only [List.mem_cons, List.not_mem_nil, or_false, true_or, or_true]; try omega) _ _) (fun hz10 qz11 => ?_)
            refine fp_jlH (FrX.sS qz11 (by simp only [List.mem_cons, List.not_mem_nil, or_false, true_or, or_true]; try omega) _) (fun hz12 qz13 => ?_)
            exact fp_some qz13
          · exact kz7 _ qz5
      · exact kz7 _ qz5
theorem fr_J7_fill_d0a16 (a1 : Nat) (n1 : Nat) (a2 : Int64) (h : Hp) : FpX (FrX [] [a1] h) (F_J7_fill_d0a16 a1 n1 a2 h) := by
  unfold F_J7_fill_d0a16
  have q0 := FrX.refl [] [a1] h
  refine fp_jlV (fun _ => ?_)
  refine fp_lp1 (fun _ kz2 _ _ qz1 => ?_) (fun _ _ => fp_none) q0
  refine fp_ite ?_ ?_
  · refine fp_gd ?_
    refine fp_jlH (FrX.lS qz1 (by simp only [List.mem_cons, List.not_mem_nil, or_false, true_or, or_true]; try omega) _ _) (fun hz3 qz4 => ?_)
    exact kz2 _ _ qz4
  · exact fp_some qz1
theorem fr_J13_bitCount_95d88 (a1 : Int64) (h : Hp) : FpX (FrX [] [] h) (F_J13_bitCount_95d88 a1 h) := by
  unfold F_J13_bitCount_95d88
  have q0 := FrX.refl [] [] h
  refine fp_jlV (fun _ => ?_)
  refine fp_jlV (fun _ => ?_)
  refine fp_jlV (fun _ => ?_)
  refine fp_jlV (fun _ => ?_)
  refine fp_jlV (fun _ => ?_)
  refine fp_jlV (fun _ => ?_)
  exact fp_some q0
theorem fr_X4_freeThen (a1 : Nat) (a2 : Int32) (a3 : Int64) (h : Hp) : FpX (FrX [] [] h) (F_X4_freeThen a1 a2 a3 h) := by
  unfold F_X4_freeThen
  have q0 := FrX.refl [] [] h
  refine fp_bd (fp_call (fr_J13_bitCount_95d88 _ _ ) (fun _ z => absurd z (by simp)) (fun _ z => absurd z (by simp)) q0) (fun _ _ qz1 => ?_)
  refine fp_lp3 (fun _ kz3 _ _ _ _ qz2 => ?_) (fun _ _ _ _ => fp_none) qz1
  refine fp_ite ?_ ?_
  · refine fp_bd (fp_call (fr_J13_numberOfTrailingZeros_95d88 _ _ ) (fun _ z => absurd z (by simp)) (fun _ z => absurd z (by simp)) qz2) (fun _ _ qz4 => ?_)
    refine fp_bd (fp_call (fr_X7_freeBehind _ _ _ _ ) (fun _ z => absurd z (by simp)) (fun _ z => absurd z (by simp)) qz4) (fun _ _ qz5 => ?_)
    refine fp_jn1 (fun _ _ qz6 => ?_) (fun _ kz7 => ?_)
    · refine fp_jlV (fun _ => ?_)
      exact kz3 _ _ _ _ qz6
    · refine fp_ite ?_ ?_
      · exact kz7 _ _ qz5
      · refine fp_jlV (fun _ => ?_)
        exact kz7 _ _ qz5
  · exact fp_some qz2
theorem fr_X4_reachOn (t : Nat) (a1 : Nat) (a2 : Int32) (a3 : Int32) (h : Hp) : FpX (FrX [] [t + 1, t + 2] h) (F_X4_reachOn t a1 a2 a3 h) := by
  unfold F_X4_reachOn
  have q0 := FrX.refl [] [t + 1, t + 2] h
  refine fp_jn0 (fun _ qz1 => ?_) (fun _ kz2 => ?_)
  · exact fp_some qz1
  · refine fp_ite ?_ ?_
    · exact kz2 _ q0
    · refine fp_ite ?_ ?_
      · refine fp_gd ?_
        refine fp_jn1 (fun _ _ qz3 => ?_) (fun _ kz4 => ?_)
        · refine fp_gd ?_
          refine fp_jlH (FrX.aS qz3 (by simp only [List.mem_cons, List.not_mem_nil, or_false, true_or, or_true]; try omega) _ _) (fun hz5 qz6 => ?_)
          refine fp_lp1 (fun _ kz8 _ _ qz7 => ?_) (fun _ _ => fp_none) qz6
          refine fp_ite ?_ ?_
          · refine fp_jlV (fun _ => ?_)
            refine fp_gd ?_
            refine fp_bd (fp_call (fr_X11_hasBit _ _ _ ) (fun _ z => absurd z (by simp)) (fun _ z => absurd z (by simp)) qz7) (fun _ _ qz9 => ?_)
            refine fp_jn0 (fun _ qz10 => ?_) (fun _ kz11 => ?_)
            · exact kz8 _ _ qz10
            · refine fp_ite ?_ ?_
              · exact kz11 _ qz9
              · refine fp_ite ?_ ?_
                · refine fp_gd ?_
                  refine fp_gd ?_
                  refine fp_bd (fp_call (fr_X4_freeThen _ _ _ _ ) (fun _ z => absurd z (by simp)) (fun _ z => absurd z (by simp)) qz9) (fun _ _ qz12 => ?_)
                  refine fp_gd ?_
                  refine fp_jlH (FrX.lS qz12 (by simp only [List.mem_cons, List.not_mem_nil, or_false, true_or, or_true]; try omega) _ _) (fun hz13 qz14 => ?_)
                  exact kz11 _ qz14
                · exact kz11 _ qz9
          · exact fp_some qz7
        · refine fp_ite ?_ ?_
          · exact kz4 _ _ q0
          · refine fp_bd (fp_call (fr_X7_nextOnes _ _ _ _ ) (fun _ z => absurd z (by simp)) (fun _ z => absurd z (by simp)) q0) (fun _ _ qz15 => ?_)
            exact kz4 _ _ qz15
      · exact kz2 _ q0
theorem fr_X4_waysFrom (t : Nat) (a1 : Int32) (a2 : Int32) (h : Hp) : FpX (FrX [] [] h) (F_X4_waysFrom t a1 a2 h) := by
  unfold F_X4_waysFrom
  have q0 := FrX.refl [] [] h
  refine fp_jn1 (fun _ _ qz1 => ?_) (fun _ kz2 => ?_)
  · refine fp_jn1 (fun _ _ qz3 => ?_) (fun _ kz4 => ?_)
    · exact fp_some qz3
    · refine fp_ite ?_ ?_
      · exact kz4 _ _ qz1
      · refine fp_gd ?_
        exact kz4 _ _ qz1
  · refine fp_jn0 (fun _ qz5 => ?_) (fun _ kz6 => ?_)
    · exact kz2 _ _ qz5
    · refine fp_ite ?_ ?_
      · exact kz6 _ q0
      · refine fp_ite ?_ ?_
        · refine fp_ite ?_ ?_
          · exact kz6 _ q0
          · refine fp_ite ?_ ?_
            · exact kz2 _ _ q0
            · exact kz6 _ q0
        · exact kz6 _ q0
theorem fr_X4_waysBy (t : Nat) (a1 : Nat) (a2 : Int32) (a3 : Int32) (a4 : Int32) (h : Hp) : FpX (FrX [] [] h) (F_X4_waysBy t a1 a2 a3 a4 h) := by
  unfold F_X4_waysBy
  have q0 := FrX.refl [] [] h
  refine fp_jn0 (fun _ qz1 => ?_) (fun _ kz2 => ?_)
  · exact fp_some qz1
  · refine fp_ite ?_ ?_
    · exact kz2 _ q0
    · refine fp_ite ?_ ?_
      · refine fp_gd ?_
        refine fp_bd (fp_call (fr_X11_hasBit _ _ _ ) (fun _ z => absurd z (by simp)) (fun _ z => absurd z (by simp)) q0) (fun _ _ qz3 => ?_)
        refine fp_ite ?_ ?_
        · exact kz2 _ qz3
        · refine fp_bd (fp_call (fr_X7_freeBehind _ _ _ _ ) (fun _ z => absurd z (by simp)) (fun _ z => absurd z (by simp)) qz3) (fun _ _ qz4 => ?_)
          refine fp_jn1 (fun _ _ qz5 => ?_) (fun _ kz6 => ?_)
          · exact fp_some qz5
          · refine fp_ite ?_ ?_
            · exact kz6 _ _ qz4
            · refine fp_bd (fp_call (fr_X4_waysFrom _ _ _ _ ) (fun _ z => absurd z (by simp)) (fun _ z => absurd z (by simp)) qz4) (fun _ _ qz7 => ?_)
              exact kz6 _ _ qz7
      · exact kz2 _ q0
theorem fr_X4_countOn (t : Nat) (a1 : Nat) (a2 : Int32) (a3 : Int32) (h : Hp) : FpX (FrX [] [t + 3] h) (F_X4_countOn t a1 a2 a3 h) := by
  unfold F_X4_countOn
  have q0 := FrX.refl [] [t + 3] h
  refine fp_jn0 (fun _ qz1 => ?_) (fun _ kz2 => ?_)
  · exact fp_some qz1
  · refine fp_ite ?_ ?_
    · exact kz2 _ q0
    · refine fp_ite ?_ ?_
      · refine fp_gd ?_
        refine fp_jlV (fun _ => ?_)
        refine fp_bd (fp_call (fr_J13_bitCount_95d88 _ _ ) (fun _ z => absurd z (by simp)) (fun _ z => absurd z (by simp)) q0) (fun _ _ qz3 => ?_)
        refine fp_lp2 (fun _ kz5 _ _ _ qz4 => ?_) (fun _ _ _ => fp_none) qz3
        refine fp_ite ?_ ?_
        · refine fp_bd (fp_call (fr_J13_numberOfTrailingZeros_95d88 _ _ ) (fun _ z => absurd z (by simp)) (fun _ z => absurd z (by simp)) qz4) (fun _ _ qz6 => ?_)
          refine fp_jn1 (fun _ _ qz7 => ?_) (fun _ kz8 => ?_)
          · refine fp_lp2 (fun _ kz10 _ _ _ qz9 => ?_) (fun _ _ _ => fp_none) qz7
            refine fp_jn0 (fun _ qz11 => ?_) (fun _ kz12 => ?_)
            · refine fp_jn0 (fun _ qz13 => ?_) (fun _ kz14 => ?_)
              · refine fp_jlV (fun _ => ?_)
                exact kz5 _ _ _ qz13
              · refine fp_ite ?_ ?_
                · refine fp_gd ?_
                  refine fp_jlH (FrX.aS qz11 (by simp only [List.mem_cons, List.not_mem_nil, or_false, true_or, or_true]; try omega) _ _) (fun hz15 qz16 => ?_)
                  exact kz14 _ qz16
                · exact kz14 _ qz11
            · refine fp_ite ?_ ?_
              · refine fp_ite ?_ ?_
                · exact kz12 _ qz9
                · refine fp_bd (fp_call (fr_X4_waysBy _ _ _ _ _ _ ) (fun _ z => absurd z (by simp)) (fun _ z => absurd z (by simp)) qz9) (fun _ _ qz17 => ?_)
                  refine fp_jlV (fun _ => ?_)
                  exact kz10 _ _ _ qz17
              · exact kz12 _ qz9
          · refine fp_ite ?_ ?_
            · exact kz8 _ _ qz6
            · exact kz8 _ _ qz6
        · exact fp_some qz4
      · exact kz2 _ q0
theorem fr_X4_seek (t : Nat) (a1 : Nat) (h : Hp) : FpX (FrX [64 * t, 64 * t + 1, 64 * t + 2] [t + 1, t + 2, t + 3] h) (F_X4_seek t a1 h) := by
  unfold F_X4_seek
  have q0 := FrX.refl [64 * t, 64 * t + 1, 64 * t + 2] [t + 1, t + 2, t + 3] h
  refine fp_jlH (FrX.oS q0 (by simp only [List.mem_cons, List.not_mem_nil, or_false, true_or, or_true]; try omega) _) (fun hz1 qz2 => ?_)
  refine fp_bd (fp_call (fr_X7_everyone _ _ ) (fun _ z => absurd z (by simp)) (fun _ z => absurd z (by simp)) qz2) (fun _ _ qz3 => ?_)
  refine fp_bd (fp_call (fr_J7_fill_d0a16 _ _ _ _ ) (fun _ z => absurd z (by simp)) (fun v z => by simp only [List.mem_cons, List.not_mem_nil, or_false, true_or, or_true] at z ⊢; try omega) qz3) (fun _ _ qz4 => ?_)
  refine fp_gd ?_
  refine fp_jlH (FrX.lS qz4 (by simp only [List.mem_cons, List.not_mem_nil, or_false, true_or, or_true]; try omega) _ _) (fun hz5 qz6 => ?_)
  refine fp_lp1 (fun _ kz8 _ _ qz7 => ?_) (fun _ _ => fp_none) qz6
  refine fp_ite ?_ ?_
  · refine fp_bd (fp_call (fr_X4_reachOn _ _ _ _ _ ) (fun _ z => absurd z (by simp)) (fun v z => by simp only [List.mem_cons, List.not_mem_nil, or_false, true_or, or_true] at z ⊢; try omega) qz7) (fun _ _ qz9 => ?_)
    exact kz8 _ _ qz9
  · refine fp_lp1 (fun _ kz11 _ _ qz10 => ?_) (fun _ _ => fp_none) qz7
    refine fp_ite ?_ ?_
    · refine fp_bd (fp_call (fr_X4_waysFrom _ _ _ _ ) (fun _ z => absurd z (by simp)) (fun _ z => absurd z (by simp)) qz10) (fun _ _ qz12 => ?_)
      refine fp_jlH (FrX.sS qz12 (by simp only [List.mem_cons, List.not_mem_nil, or_false, true_or, or_true]; try omega) _) (fun hz13 qz14 => ?_)
      refine fp_jlH (FrX.sS qz14 (by simp only [List.mem_cons, List.not_mem_nil, or_false, true_or, or_true]; try omega) _) (fun hz15 qz16 => ?_)
      exact fp_some qz16
    · refine fp_bd (fp_call (fr_X4_countOn _ _ _ _ _ ) (fun _ z => absurd z (by simp)) (fun v z => by simp only [List.mem_cons, List.not_mem_nil, or_false, true_or, or_true] at z ⊢; try omega) qz10) (fun _ _ qz17 => ?_)
      exact kz11 _ _ qz17
theorem fr_X1_ordersWithPiece (a1 : Nat) (a2 : Nat) (a3 : Int32) (a4 : Int32) (a5 : Int32) (h : Hp) : FpX (FrX [5952, 6273, 6720, 6721, 6722] [94, 95, 96, 97, 99, 100, 102, 103, 104, 106, 107, 108] h) (F_X1_ordersWithPiece a1 a2 a3 a4 a5 h) := by
  unfold F_X1_ordersWithPiece
  have q0 := FrX.refl [5952, 6273, 6720, 6721, 6722] [94, 95, 96, 97, 99, 100, 102, 103, 104, 106, 107, 108] h
  refine fp_bd (fp_call (fr_X5_copyFrom _ _ _ ) (by decide) (by decide) q0) (fun _ _ qz1 => ?_)
  refine fp_bd (fp_call (fr_X5_put _ _ _ _ _ _ ) (by decide) (by decide) qz1) (fun _ _ qz2 => ?_)
  refine fp_bd (fp_call (fr_X7_copyFrom _ _ _ ) (by decide) (by decide) qz2) (fun _ _ qz3 => ?_)
  refine fp_bd (fp_call (fr_X7_readAgain _ _ _ _ _ _ ) (fun _ z => absurd z (by simp)) (by decide) qz3) (fun _ _ qz4 => ?_)
  refine fp_bd (fp_call (fr_X4_seek _ _ _ ) (by decide) (by decide) qz4) (fun _ _ qz5 => ?_)
  exact fp_some qz5
theorem fr_X1_ordersWithAhead (a1 : Nat) (a2 : Int32) (a3 : Int32) (h : Hp) : FpX (FrX [6273, 6720, 6721, 6722] [99, 100, 102, 103, 106, 107, 108] h) (F_X1_ordersWithAhead a1 a2 a3 h) := by
  unfold F_X1_ordersWithAhead
  have q0 := FrX.refl [6273, 6720, 6721, 6722] [99, 100, 102, 103, 106, 107, 108] h
  refine fp_bd (fp_call (fr_X7_copyFrom _ _ _ ) (by decide) (by decide) q0) (fun _ _ qz1 => ?_)
  refine fp_bd (fp_call (fr_X7_putAhead _ _ _ _ ) (fun _ z => absurd z (by simp)) (by decide) qz1) (fun _ _ qz2 => ?_)
  refine fp_bd (fp_call (fr_X4_seek _ _ _ ) (by decide) (by decide) qz2) (fun _ _ qz3 => ?_)
  exact fp_some qz3
theorem fr_X1_canNarrow (a1 : Nat) (a2 : Int32) (a3 : Int32) (h : Hp) : FpX (FrX [] [] h) (F_X1_canNarrow a1 a2 a3 h) := by
  unfold F_X1_canNarrow
  have q0 := FrX.refl [] [] h
  refine fp_bd (fp_call (fr_X0_kindOf _ _ _ ) (fun _ z => absurd z (by simp)) (fun _ z => absurd z (by simp)) q0) (fun _ _ qz1 => ?_)
  refine fp_ite ?_ ?_
  · exact fp_some qz1
  · refine fp_bd (fp_call (fr_X0_picturesSeeing _ _ _ _ ) (fun _ z => absurd z (by simp)) (fun _ z => absurd z (by simp)) qz1) (fun _ _ qz2 => ?_)
    refine fp_bd (fp_call (fr_X0_picturesSeeing _ _ _ _ ) (fun _ z => absurd z (by simp)) (fun _ z => absurd z (by simp)) qz2) (fun _ _ qz3 => ?_)
    refine fp_bd (fp_call (fr_X11_hasBit _ _ _ ) (fun _ z => absurd z (by simp)) (fun _ z => absurd z (by simp)) qz3) (fun _ _ qz4 => ?_)
    refine fp_jn1 (fun _ _ qz5 => ?_) (fun _ kz6 => ?_)
    · refine fp_gd ?_
      exact fp_some qz5
    · refine fp_jn0 (fun _ qz7 => ?_) (fun _ kz8 => ?_)
      · exact kz6 _ _ qz7
      · refine fp_ite ?_ ?_
        · refine fp_ite ?_ ?_
          · exact kz8 _ qz4
          · refine fp_ite ?_ ?_
            · exact kz8 _ qz4
            · exact kz6 _ _ qz4
        · exact kz8 _ qz4
theorem fr_J9_max_7cf53 (a1 : Int32) (a2 : Int32) (h : Hp) : FpX (FrX [] [] h) (F_J9_max_7cf53 a1 a2 h) := by
  unfold F_J9_max_7cf53
  have q0 := FrX.refl [] [] h
  refine fp_jn1 (fun _ _ qz1 => ?_) (fun _ kz2 => ?_)
  · exact fp_some qz1
  · refine fp_ite ?_ ?_
    · exact kz2 _ _ q0
    · exact kz2 _ _ q0
theorem fr_X1_seekAsk (a1 : Nat) (a2 : Nat) (a3 : Int32) (h : Hp) : FpX (FrX [5825, 5826, 5831, 5952, 6273, 6720, 6721, 6722] [94, 95, 96, 97, 99, 100, 102, 103, 104, 106, 107, 108] h) (F_X1_seekAsk a1 a2 a3 h) := by
  unfold F_X1_seekAsk
  have q0 := FrX.refl [5825, 5826, 5831, 5952, 6273, 6720, 6721, 6722] [94, 95, 96, 97, 99, 100, 102, 103, 104, 106, 107, 108] h
  refine fp_ite ?_ ?_
  · refine fp_jlH (FrX.sS q0 (by decide) _) (fun hz1 qz2 => ?_)
    refine fp_jlH (FrX.sS qz2 (by decide) _) (fun hz3 qz4 => ?_)
    refine fp_jlH (FrX.sS qz4 (by decide) _) (fun hz5 qz6 => ?_)
    refine fp_lp2 (fun _ kz8 _ _ _ qz7 => ?_) (fun _ _ _ => fp_none) qz6
    refine fp_ite ?_ ?_
    · refine fp_lp2 (fun _ kz10 _ _ _ qz9 => ?_) (fun _ _ _ => fp_none) qz7
      refine fp_ite ?_ ?_
      · refine fp_bd (fp_call (fr_X1_canNarrow _ _ _ _ ) (fun _ z => absurd z (by simp)) (fun _ z => absurd z (by simp)) qz9) (fun _ _ qz11 => ?_)
        refine fp_jn1 (fun _ _ qz12 => ?_) (fun _ kz13 => ?_)
        · exact kz10 _ _ _ qz12
        · refine fp_ite ?_ ?_
          · exact kz13 _ _ qz11
          · refine fp_jlV (fun _ => ?_)
            refine fp_bd (fp_call (fr_X1_ordersWithPiece _ _ _ _ _ _ ) (by decide) (by decide) qz11) (fun _ _ qz14 => ?_)
            refine fp_ite ?_ ?_
            · refine fp_bd (fp_call (fr_X1_ordersWithPiece _ _ _ _ _ _ ) (by decide) (by decide) qz14) (fun _ _ qz15 => ?_)
              refine fp_bd (fp_call (fr_J9_max_7cf53 _ _ _ ) (fun _ z => absurd z (by simp)) (fun _ z => absurd z (by simp)) qz15) (fun _ _ qz16 => ?_)
              refine fp_ite ?_ ?_
              · refine fp_jlH (FrX.sS qz16 (by decide) _) (fun hz17 qz18 => ?_)
                refine fp_jlH (FrX.sS qz18 (by decide) _) (fun hz19 qz20 => ?_)
                exact kz13 _ _ qz20
              · exact kz13 _ _ qz16
            · exact kz13 _ _ qz14
      · exact kz8 _ _ _ qz9
    · exact fp_some qz7
  · exact fp_some q0
theorem fr_X2_clear (h : Hp) : FpX (FrX [1408, 1412] [] h) (F_X2_clear h) := by
  unfold F_X2_clear
  have q0 := FrX.refl [1408, 1412] [] h
  refine fp_jlH (FrX.sS q0 (by decide) _) (fun hz1 qz2 => ?_)
  refine fp_jlH (FrX.sS qz2 (by decide) _) (fun hz3 qz4 => ?_)
  exact fp_some qz4
theorem fr_J9_floorMod_7cf53 (a1 : Int32) (a2 : Int32) (h : Hp) : FpX (FrX [] [] h) (F_J9_floorMod_7cf53 a1 a2 h) := by
  unfold F_J9_floorMod_7cf53
  have q0 := FrX.refl [] [] h
  refine fp_gd ?_
  refine fp_jlV (fun _ => ?_)
  refine fp_jn0 (fun _ qz1 => ?_) (fun _ kz2 => ?_)
  · exact fp_some qz1
  · refine fp_ite ?_ ?_
    · refine fp_ite ?_ ?_
      · exact kz2 _ q0
      · exact fp_some q0
    · exact kz2 _ q0
theorem fr_X2_pastAt (a1 : Int32) (h : Hp) : FpX (FrX [] [] h) (F_X2_pastAt a1 h) := by
  unfold F_X2_pastAt
  have q0 := FrX.refl [] [] h
  refine fp_bd (fp_call (fr_J9_floorMod_7cf53 _ _ _ ) (fun _ z => absurd z (by simp)) (fun _ z => absurd z (by simp)) q0) (fun _ _ qz1 => ?_)
  refine fp_jn1 (fun _ _ qz2 => ?_) (fun _ kz3 => ?_)
  · exact fp_some qz2
  · refine fp_ite ?_ ?_
    · refine fp_gd ?_
      refine fp_jlV (fun _ => ?_)
      exact kz3 _ _ qz1
    · exact kz3 _ _ qz1
theorem pastAt_r (a1 : Int32) (h : Hp) (r : Option Nat) (h' : Hp) (e : F_X2_pastAt a1 h = some (r, h')) : ∀ a, r = some a → a ∈ [25, 30, 35, 40, 45, 50, 55, 60] := by
  intro a ha
  subst ha
  unfold F_X2_pastAt at e
  cases e1 : F_J9_floorMod_7cf53 ((sG h 1409) + a1) (8 : Int32) h with
  | none => rw [e1] at e; cases e
  | some x =>
    rw [e1] at e
    simp only [bd, jn, jl] at e
    by_cases c : x.1 < (8 : Int32)
    · rw [if_pos c] at e
      by_cases d : inb x.1 8 = true
      · rw [d] at e
        simp only [gd] at e
        have e2 : rf 23 x.1.toNatClampNeg = some a := by
          have := Option.some.inj e
          exact (Prod.mk.inj this).1
        have hd := inb_in d
        unfold vp_in at hd
        have hlt : x.1.toNatClampNeg < 8 := Nat.lt_of_not_le (fun z => hd (Or.inr z))
        generalize x.1.toNatClampNeg = k at e2 hlt
        have : ∀ k, k < 8 → ∀ a, rf 23 k = some a → a ∈ [25, 30, 35, 40, 45, 50, 55, 60] := by
          intro k hk
          rcases (show k = 0 ∨ k = 1 ∨ k = 2 ∨ k = 3 ∨ k = 4 ∨ k = 5 ∨ k = 6 ∨ k = 7 by omega) with rfl | rfl | rfl | rfl | rfl | rfl | rfl | rfl <;> intro a ha <;> cases ha <;> decide
        exact this k hlt a e2
      · have d2 : inb x.1 8 = false := by cases z : inb x.1 8 with
          | true => exact absurd z d
          | false => rfl
        rw [d2] at e
        cases e
    · rw [if_neg c] at e
      have := Option.some.inj e
      cases (Prod.mk.inj this).1
theorem fr_X2_remember (a1 : Nat) (h : Hp) : FpX (FrX [1408, 1409, 1600, 1920, 2240, 2560, 2880, 3200, 3520, 3840] [26, 27, 28, 29, 31, 32, 33, 34, 36, 37, 38, 39, 41, 42, 43, 44, 46, 47, 48, 49, 51, 52, 53, 54, 56, 57, 58, 59, 61, 62, 63, 64] h) (F_X2_remember a1 h) := by
  unfold F_X2_remember
  have q0 := FrX.refl [1408, 1409, 1600, 1920, 2240, 2560, 2880, 3200, 3520, 3840] [26, 27, 28, 29, 31, 32, 33, 34, 36, 37, 38, 39, 41, 42, 43, 44, 46, 47, 48, 49, 51, 52, 53, 54, 56, 57, 58, 59, 61, 62, 63, 64] h
  refine fp_jn0 (fun h1 q1 => ?_) (fun j2 k2 => ?_)
  · cases e1 : F_X2_pastAt (sG h1 1408) h1 with
    | none => exact fp_none
    | some x =>
      obtain ⟨x1, x2⟩ := x
      have q4 := fp_call (fr_X2_pastAt _ _) (fun _ z => absurd z (by simp)) (fun _ z => absurd z (by simp)) q1 x1 x2 e1
      have hr := pastAt_r _ _ x1 x2 e1
      rw [bd_e]
      refine fp_jn0 (fun h5 q5 => ?_) (fun j6 k6 => ?_)
      · exact fp_jlH (FrX.sS q5 (by decide) _) (fun h7 q7 => fp_some q7)
      · refine fp_jo (k6 _ q4) (fun a ha => ?_)
        have hm := hr a ha
        refine fp_gd (fp_bd (fp_call (fr_X5_copyFrom a a1 x2) ?_ ?_ q4) (fun _ _ q => k6 _ q))
        · intro v hv
          simp only [List.mem_cons, List.not_mem_nil, or_false] at hv hm ⊢
          omega
        · intro v hv
          simp only [List.mem_cons, List.not_mem_nil, or_false] at hv hm ⊢
          omega
  · refine fp_ite ?_ (k2 _ q0)
    exact fp_jlH (FrX.sS q0 (by decide) _) (fun h11 q11 => fp_jlH (FrX.sS q11 (by decide) _) (fun h12 q12 => k2 _ q12))
theorem fr_X2_restoreLatest (a1 : Nat) (h : Hp) : FpX (FrX [1408, 64 * a1] [a1 + 1, a1 + 2, a1 + 3, a1 + 4] h) (F_X2_restoreLatest a1 h) := by
  unfold F_X2_restoreLatest
  have q0 := FrX.refl [1408, 64 * a1] [a1 + 1, a1 + 2, a1 + 3, a1 + 4] h
  refine fp_ite ?_ ?_
  · refine fp_jlH (FrX.sS q0 (by simp only [List.mem_cons, List.not_mem_nil, or_false, true_or, or_true]; try omega) _) (fun hz1 qz2 => ?_)
    refine fp_bd (fp_call (fr_X2_pastAt _ _ ) (fun _ z => absurd z (by simp)) (fun _ z => absurd z (by simp)) qz2) (fun _ _ qz3 => ?_)
    refine fp_jn0 (fun _ qz4 => ?_) (fun _ kz5 => ?_)
    · exact fp_some qz4
    · refine fp_jo ?_ (fun _ _ => ?_)
      · exact kz5 _ qz3
      · refine fp_gd ?_
        refine fp_bd (fp_call (fr_X5_copyFrom _ _ _ ) (fun v z => by simp only [List.mem_cons, List.not_mem_nil, or_false, true_or, or_true] at z ⊢; try omega) (fun v z => by simp only [List.mem_cons, List.not_mem_nil, or_false, true_or, or_true] at z ⊢; try omega) qz3) (fun _ _ qz6 => ?_)
        exact kz5 _ qz6
  · exact fp_some q0
theorem kept_r (a1 : Int32) (d : inb a1 2 = true) : ∀ a, rf 24 a1.toNatClampNeg = some a → a ∈ [65, 70] := by
  have hd := inb_in d
  unfold vp_in at hd
  have hlt : a1.toNatClampNeg < 2 := Nat.lt_of_not_le (fun z => hd (Or.inr z))
  generalize a1.toNatClampNeg = k at hlt
  rcases (show k = 0 ∨ k = 1 by omega) with rfl | rfl <;> intro a ha <;> cases ha <;> decide
theorem fp_gdE {R : Hp → Prop} {τ : Type} {c : Bool} {o : Option (τ × Hp)} (q : c = true → FpX R o) : FpX R (gd c o) := by
  cases c
  · exact fp_none
  · exact q rfl
theorem fr_X2_store (a1 : Int32) (a2 : Nat) (h : Hp) : FpX (FrX [1412, 4160, 4480] [66, 67, 68, 69, 71, 72, 73, 74] h) (F_X2_store a1 a2 h) := by
  unfold F_X2_store
  have q0 := FrX.refl [1412, 4160, 4480] [66, 67, 68, 69, 71, 72, 73, 74] h
  refine fp_jn0 (fun h1 q1 => fp_some q1) (fun j2 k2 => ?_)
  refine fp_ite (k2 _ q0) (fp_ite ?_ (k2 _ q0))
  refine fp_gdE (fun d => fp_jlV (fun q3 => fp_jo (k2 _ q0) (fun a4 _ => fp_gd ?_)))
  show FpX _ (jo _ _ _)
  refine fp_jo fp_none (fun a ha => ?_)
  have hm := kept_r a1 d a ha
  refine fp_gd (fp_bd (fp_call (fr_X5_copyFrom a a2 h) ?_ ?_ q0) (fun _ _ q => ?_))
  · intro v hv
    simp only [List.mem_cons, List.not_mem_nil, or_false] at hv hm ⊢
    omega
  · intro v hv
    simp only [List.mem_cons, List.not_mem_nil, or_false] at hv hm ⊢
    omega
  · exact fp_jlH (FrX.sS q (by decide) _) (fun h8 q8 => fp_some q8)
theorem fr_X2_restoreKept (a1 : Int32) (a2 : Nat) (h : Hp) : FpX (FrX [1408, 64 * a2] [a2 + 1, a2 + 2, a2 + 3, a2 + 4] h) (F_X2_restoreKept a1 a2 h) := by
  unfold F_X2_restoreKept
  have q0 := FrX.refl [1408, 64 * a2] [a2 + 1, a2 + 2, a2 + 3, a2 + 4] h
  refine fp_jn0 (fun _ qz1 => ?_) (fun _ kz2 => ?_)
  · exact fp_some qz1
  · refine fp_ite ?_ ?_
    · exact kz2 _ q0
    · refine fp_ite ?_ ?_
      · refine fp_gd ?_
        refine fp_jlV (fun _ => ?_)
        refine fp_jo ?_ (fun _ _ => ?_)
        · exact kz2 _ q0
        · refine fp_bd (fp_call (fr_X11_hasBit _ _ _ ) (fun _ z => absurd z (by simp)) (fun _ z => absurd z (by simp)) q0) (fun _ _ qz3 => ?_)
          refine fp_ite ?_ ?_
          · exact kz2 _ qz3
          · refine fp_gd ?_
            refine fp_jlV (fun _ => ?_)
            refine fp_jo ?_ (fun _ _ => ?_)
            · exact fp_none
            · refine fp_gd ?_
              refine fp_bd (fp_call (fr_X5_copyFrom _ _ _ ) (fun v z => by simp only [List.mem_cons, List.not_mem_nil, or_false, true_or, or_true] at z ⊢; try omega) (fun v z => by simp only [List.mem_cons, List.not_mem_nil, or_false, true_or, or_true] at z ⊢; try omega) qz3) (fun _ _ qz4 => ?_)
              refine fp_jlH (FrX.sS qz4 (by simp only [List.mem_cons, List.not_mem_nil, or_false, true_or, or_true]; try omega) _) (fun hz5 qz6 => ?_)
              exact fp_some qz6
      · exact kz2 _ q0
theorem fr_X7_windowOf (t : Nat) (a1 : Int32) (h : Hp) : FpX (FrX [] [] h) (F_X7_windowOf t a1 h) := by
  unfold F_X7_windowOf
  have q0 := FrX.refl [] [] h
  refine fp_jn1 (fun _ _ qz1 => ?_) (fun _ kz2 => ?_)
  · exact fp_some qz1
  · refine fp_jn0 (fun _ qz3 => ?_) (fun _ kz4 => ?_)
    · exact kz2 _ _ qz3
    · refine fp_ite ?_ ?_
      · exact kz4 _ q0
      · refine fp_ite ?_ ?_
        · refine fp_gd ?_
          exact kz2 _ _ q0
        · exact kz4 _ q0
theorem fr_J6_numberOfLeadingZeros_0f7a4 (a1 : Int32) (h : Hp) : FpX (FrX [] [] h) (F_J6_numberOfLeadingZeros_0f7a4 a1 h) := by
  unfold F_J6_numberOfLeadingZeros_0f7a4
  have q0 := FrX.refl [] [] h
  refine fp_ite ?_ ?_
  · refine fp_jn2 (fun _ _ _ qz1 => ?_) (fun _ kz2 => ?_)
    · refine fp_jn2 (fun _ _ _ qz3 => ?_) (fun _ kz4 => ?_)
      · refine fp_jn2 (fun _ _ _ qz5 => ?_) (fun _ kz6 => ?_)
        · refine fp_jn2 (fun _ _ _ qz7 => ?_) (fun _ kz8 => ?_)
          · exact fp_some qz7
          · refine fp_ite ?_ ?_
            · exact kz8 _ _ _ qz5
            · refine fp_jlV (fun _ => ?_)
              exact kz8 _ _ _ qz5
        · refine fp_ite ?_ ?_
          · exact kz6 _ _ _ qz3
          · refine fp_jlV (fun _ => ?_)
            exact kz6 _ _ _ qz3
      · refine fp_ite ?_ ?_
        · exact kz4 _ _ _ qz1
        · refine fp_jlV (fun _ => ?_)
          exact kz4 _ _ _ qz1
    · refine fp_ite ?_ ?_
      · exact kz2 _ _ _ q0
      · refine fp_jlV (fun _ => ?_)
        exact kz2 _ _ _ q0
  · refine fp_jn1 (fun _ _ qz9 => ?_) (fun _ kz10 => ?_)
    · exact fp_some qz9
    · refine fp_ite ?_ ?_
      · exact kz10 _ _ q0
      · exact kz10 _ _ q0
theorem fr_J13_numberOfLeadingZeros_95d88 (a1 : Int64) (h : Hp) : FpX (FrX [] [] h) (F_J13_numberOfLeadingZeros_95d88 a1 h) := by
  unfold F_J13_numberOfLeadingZeros_95d88
  have q0 := FrX.refl [] [] h
  refine fp_jlV (fun _ => ?_)
  refine fp_jn1 (fun _ _ qz1 => ?_) (fun _ kz2 => ?_)
  · exact fp_some qz1
  · refine fp_ite ?_ ?_
    · refine fp_bd (fp_call (fr_J6_numberOfLeadingZeros_0f7a4 _ _ ) (fun _ z => absurd z (by simp)) (fun _ z => absurd z (by simp)) q0) (fun _ _ qz3 => ?_)
      exact kz2 _ _ qz3
    · refine fp_bd (fp_call (fr_J6_numberOfLeadingZeros_0f7a4 _ _ ) (fun _ z => absurd z (by simp)) (fun _ z => absurd z (by simp)) q0) (fun _ _ qz4 => ?_)
      exact kz2 _ _ qz4
theorem fr_X11_lastSlot (a1 : Int64) (h : Hp) : FpX (FrX [] [] h) (F_X11_lastSlot a1 h) := by
  unfold F_X11_lastSlot
  have q0 := FrX.refl [] [] h
  refine fp_jn1 (fun _ _ qz1 => ?_) (fun _ kz2 => ?_)
  · exact fp_some qz1
  · refine fp_ite ?_ ?_
    · exact kz2 _ _ q0
    · refine fp_bd (fp_call (fr_J13_numberOfLeadingZeros_95d88 _ _ ) (fun _ z => absurd z (by simp)) (fun _ z => absurd z (by simp)) q0) (fun _ _ qz3 => ?_)
      exact kz2 _ _ qz3
theorem fr_X3_seekBetween (t : Nat) (a1 : Nat) (a2 : Int32) (a3 : Int32) (h : Hp) : FpX (FrX [] [t + 2, t + 3, t + 4] h) (F_X3_seekBetween t a1 a2 a3 h) := by
  unfold F_X3_seekBetween
  have q0 := FrX.refl [] [t + 2, t + 3, t + 4] h
  refine fp_jlV (fun _ => ?_)
  refine fp_jn0 (fun _ qz1 => ?_) (fun _ kz2 => ?_)
  · exact fp_some qz1
  · refine fp_ite ?_ ?_
    · exact kz2 _ q0
    · refine fp_ite ?_ ?_
      · refine fp_ite ?_ ?_
        · refine fp_gd ?_
          refine fp_ite ?_ ?_
          · exact kz2 _ q0
          · refine fp_bd (fp_call (fr_X7_windowOf _ _ _ ) (fun _ z => absurd z (by simp)) (fun _ z => absurd z (by simp)) q0) (fun _ _ qz3 => ?_)
            refine fp_gd ?_
            refine fp_jlV (fun _ => ?_)
            refine fp_gd ?_
            refine fp_bd (fp_call (fr_X11_lastSlot _ _ ) (fun _ z => absurd z (by simp)) (fun _ z => absurd z (by simp)) qz3) (fun _ _ qz4 => ?_)
            refine fp_bd (fp_call (fr_J9_max_7cf53 _ _ _ ) (fun _ z => absurd z (by simp)) (fun _ z => absurd z (by simp)) qz4) (fun _ _ qz5 => ?_)
            refine fp_gd ?_
            refine fp_jlH (FrX.aS qz5 (by simp only [List.mem_cons, List.not_mem_nil, or_false, true_or, or_true]; try omega) _ _) (fun hz6 qz7 => ?_)
            refine fp_gd ?_
            refine fp_ite ?_ ?_
            · exact fp_some qz7
            · refine fp_gd ?_
              refine fp_gd ?_
              refine fp_jlV (fun _ => ?_)
              refine fp_ite ?_ ?_
              · exact fp_some qz7
              · refine fp_gd ?_
                refine fp_gd ?_
                refine fp_jlH (FrX.lS qz7 (by simp only [List.mem_cons, List.not_mem_nil, or_false, true_or, or_true]; try omega) _ _) (fun hz8 qz9 => ?_)
                refine fp_gd ?_
                refine fp_bd (fp_call (fr_J6_bitCount_0f7a4 _ _ ) (fun _ z => absurd z (by simp)) (fun _ z => absurd z (by simp)) qz9) (fun _ _ qz10 => ?_)
                refine fp_gd ?_
                refine fp_jlH (FrX.aS qz10 (by simp only [List.mem_cons, List.not_mem_nil, or_false, true_or, or_true]; try omega) _ _) (fun hz11 qz12 => ?_)
                exact fp_some qz12
        · exact kz2 _ q0
      · exact kz2 _ q0
theorem fr_X3_seek (t : Nat) (a1 : Nat) (h : Hp) : FpX (FrX [64 * t] [t + 1, t + 2, t + 3, t + 4] h) (F_X3_seek t a1 h) := by
  unfold F_X3_seek
  have q0 := FrX.refl [64 * t] [t + 1, t + 2, t + 3, t + 4] h
  refine fp_bd (fp_call (fr_X7_everyone _ _ ) (fun _ z => absurd z (by simp)) (fun _ z => absurd z (by simp)) q0) (fun _ _ qz1 => ?_)
  refine fp_bd (fp_call (fr_J7_fill_d0a16 _ _ _ _ ) (fun _ z => absurd z (by simp)) (fun v z => by simp only [List.mem_cons, List.not_mem_nil, or_false, true_or, or_true] at z ⊢; try omega) qz1) (fun _ _ qz2 => ?_)
  refine fp_bd (fp_call (fr_J7_fill_53178 _ _ _ _ ) (fun _ z => absurd z (by simp)) (fun v z => by simp only [List.mem_cons, List.not_mem_nil, or_false, true_or, or_true] at z ⊢; try omega) qz2) (fun _ _ qz3 => ?_)
  refine fp_jlH (FrX.sS qz3 (by simp only [List.mem_cons, List.not_mem_nil, or_false, true_or, or_true]; try omega) _) (fun hz4 qz5 => ?_)
  refine fp_bd (fp_call (fr_X3_canBe _ _ _ _ ) (fun _ z => absurd z (by simp)) (fun v z => by simp only [List.mem_cons, List.not_mem_nil, or_false, true_or, or_true] at z ⊢; try omega) qz5) (fun _ _ qz6 => ?_)
  refine fp_ite ?_ ?_
  · exact fp_some qz6
  · refine fp_bd (fp_call (fr_J7_fill_53178 _ _ _ _ ) (fun _ z => absurd z (by simp)) (fun v z => by simp only [List.mem_cons, List.not_mem_nil, or_false, true_or, or_true] at z ⊢; try omega) qz6) (fun _ _ qz7 => ?_)
    refine fp_jn0 (fun _ qz8 => ?_) (fun _ kz9 => ?_)
    · refine fp_bd (fp_call (fr_J9_min_7cf53 _ _ _ ) (fun _ z => absurd z (by simp)) (fun _ z => absurd z (by simp)) qz8) (fun _ _ qz10 => ?_)
      refine fp_jlV (fun _ => ?_)
      refine fp_lp1 (fun _ kz12 _ _ qz11 => ?_) (fun _ _ => fp_none) qz10
      refine fp_ite ?_ ?_
      · exact fp_some qz11
      · refine fp_bd (fp_call (fr_X7_nextOnes _ _ _ _ ) (fun _ z => absurd z (by simp)) (fun _ z => absurd z (by simp)) qz11) (fun _ _ qz13 => ?_)
        refine fp_lp1 (fun _ kz15 _ _ qz14 => ?_) (fun _ _ => fp_none) qz13
        refine fp_ite ?_ ?_
        · refine fp_bd (fp_call (fr_X11_hasBit _ _ _ ) (fun _ z => absurd z (by simp)) (fun _ z => absurd z (by simp)) qz14) (fun _ _ qz16 => ?_)
          refine fp_jn0 (fun _ qz17 => ?_) (fun _ kz18 => ?_)
          · exact kz15 _ _ qz17
          · refine fp_ite ?_ ?_
            · exact kz18 _ qz16
            · refine fp_bd (fp_call (fr_X3_seekBetween _ _ _ _ _ ) (fun _ z => absurd z (by simp)) (fun v z => by simp only [List.mem_cons, List.not_mem_nil, or_false, true_or, or_true] at z ⊢; try omega) qz16) (fun _ _ qz19 => ?_)
              exact kz18 _ qz19
        · exact kz12 _ _ qz14
    · refine fp_ite ?_ ?_
      · refine fp_gd ?_
        refine fp_jlH (FrX.aS qz7 (by simp only [List.mem_cons, List.not_mem_nil, or_false, true_or, or_true]; try omega) _ _) (fun hz20 qz21 => ?_)
        exact kz9 _ qz21
      · exact kz9 _ qz7
theorem fr_X3_leftTo (t : Nat) (a1 : Int32) (h : Hp) : FpX (FrX [] [] h) (F_X3_leftTo t a1 h) := by
  unfold F_X3_leftTo
  have q0 := FrX.refl [] [] h
  refine fp_jn1 (fun _ _ qz1 => ?_) (fun _ kz2 => ?_)
  · exact fp_some qz1
  · refine fp_jn0 (fun _ qz3 => ?_) (fun _ kz4 => ?_)
    · exact kz2 _ _ qz3
    · refine fp_ite ?_ ?_
      · exact kz4 _ q0
      · refine fp_ite ?_ ?_
        · refine fp_gd ?_
          exact kz2 _ _ q0
        · exact kz4 _ q0
theorem fr_X3_placesOf (t : Nat) (a1 : Int32) (h : Hp) : FpX (FrX [] [] h) (F_X3_placesOf t a1 h) := by
  unfold F_X3_placesOf
  have q0 := FrX.refl [] [] h
  refine fp_jn1 (fun _ _ qz1 => ?_) (fun _ kz2 => ?_)
  · exact fp_some qz1
  · refine fp_jn0 (fun _ qz3 => ?_) (fun _ kz4 => ?_)
    · exact kz2 _ _ qz3
    · refine fp_ite ?_ ?_
      · exact kz4 _ q0
      · refine fp_ite ?_ ?_
        · refine fp_gd ?_
          exact kz2 _ _ q0
        · exact kz4 _ q0
theorem fr_X4_pictureAt (t : Nat) (a1 : Int32) (a2 : Int32) (h : Hp) : FpX (FrX [] [] h) (F_X4_pictureAt t a1 a2 h) := by
  unfold F_X4_pictureAt
  have q0 := FrX.refl [] [] h
  refine fp_jlV (fun _ => ?_)
  refine fp_jn0 (fun _ qz1 => ?_) (fun _ kz2 => ?_)
  · exact fp_some qz1
  · refine fp_jo ?_ (fun _ _ => ?_)
    · exact kz2 _ q0
    · refine fp_ite ?_ ?_
      · exact kz2 _ q0
      · refine fp_ite ?_ ?_
        · refine fp_ite ?_ ?_
          · exact kz2 _ q0
          · refine fp_jlV (fun _ => ?_)
            refine fp_jo ?_ (fun _ _ => ?_)
            · exact fp_none
            · refine fp_gd ?_
              refine fp_ite ?_ ?_
              · refine fp_lp5 (fun _ kz4 _ _ _ _ _ _ qz3 => ?_) (fun _ _ _ _ _ _ => fp_none) q0
                refine fp_jn0 (fun _ qz5 => ?_) (fun _ kz6 => ?_)
                · exact fp_some qz5
                · refine fp_ite ?_ ?_
                  · exact kz6 _ qz3
                  · refine fp_ite ?_ ?_
                    · refine fp_lp2 (fun _ kz8 _ _ _ qz7 => ?_) (fun _ _ _ => fp_none) qz3
                      refine fp_jn0 (fun _ qz9 => ?_) (fun _ kz10 => ?_)
                      · refine fp_jlV (fun _ => ?_)
                        refine fp_jlV (fun _ => ?_)
                        refine fp_jo ?_ (fun _ _ => ?_)
                        · exact fp_none
                        · refine fp_gd ?_
                          refine fp_bd (fp_call (fr_X7_freeBehind _ _ _ _ ) (fun _ z => absurd z (by simp)) (fun _ z => absurd z (by simp)) qz9) (fun _ _ qz11 => ?_)
                          exact kz4 _ _ _ _ _ _ qz11
                      · refine fp_ite ?_ ?_
                        · refine fp_jlV (fun _ => ?_)
                          refine fp_jo ?_ (fun _ _ => ?_)
                          · exact fp_none
                          · refine fp_gd ?_
                            refine fp_bd (fp_call (fr_X4_waysBy _ _ _ _ _ _ ) (fun _ z => absurd z (by simp)) (fun _ z => absurd z (by simp)) qz7) (fun _ _ qz12 => ?_)
                            refine fp_ite ?_ ?_
                            · exact kz10 _ qz12
                            · refine fp_jlV (fun _ => ?_)
                              exact kz8 _ _ _ qz12
                        · exact kz10 _ qz7
                    · exact kz6 _ qz3
              · exact kz2 _ q0
        · exact kz2 _ q0
theorem fr_X5_manyOf (t : Nat) (a1 : Int32) (h : Hp) : FpX (FrX [] [] h) (F_X5_manyOf t a1 h) := by
  unfold F_X5_manyOf
  have q0 := FrX.refl [] [] h
  refine fp_lp2 (fun _ kz2 _ _ _ qz1 => ?_) (fun _ _ _ => fp_none) q0
  refine fp_ite ?_ ?_
  · refine fp_bd (fp_call (fr_X5_numberOf _ _ _ _ ) (fun _ z => absurd z (by simp)) (fun _ z => absurd z (by simp)) qz1) (fun _ _ qz3 => ?_)
    refine fp_jn1 (fun _ _ qz4 => ?_) (fun _ kz5 => ?_)
    · exact kz2 _ _ _ qz4
    · refine fp_ite ?_ ?_
      · exact kz5 _ _ qz3
      · exact kz5 _ _ qz3
  · exact fp_some qz1
theorem fr_X10_letterAt (a1 : Int32) (h : Hp) : FpX (FrX [] [] h) (F_X10_letterAt a1 h) := by
  unfold F_X10_letterAt
  have q0 := FrX.refl [] [] h
  refine fp_jn1 (fun _ _ qz1 => ?_) (fun _ kz2 => ?_)
  · exact fp_some qz1
  · refine fp_jn0 (fun _ qz3 => ?_) (fun _ kz4 => ?_)
    · exact kz2 _ _ qz3
    · refine fp_ite ?_ ?_
      · exact kz4 _ q0
      · refine fp_ite ?_ ?_
        · refine fp_ite ?_ ?_
          · refine fp_gd ?_
            exact kz2 _ _ q0
          · exact kz4 _ q0
        · exact kz4 _ q0
theorem fr_X10_kindOf (a1 : Int32) (h : Hp) : FpX (FrX [] [] h) (F_X10_kindOf a1 h) := by
  unfold F_X10_kindOf
  have q0 := FrX.refl [] [] h
  refine fp_ite ?_ ?_
  · exact fp_some q0
  · refine fp_jn0 (fun _ qz1 => ?_) (fun _ kz2 => ?_)
    · refine fp_jn1 (fun _ _ qz3 => ?_) (fun _ kz4 => ?_)
      · exact fp_some qz3
      · refine fp_jn0 (fun _ qz5 => ?_) (fun _ kz6 => ?_)
        · exact kz4 _ _ qz5
        · refine fp_ite ?_ ?_
          · exact kz6 _ qz1
          · refine fp_ite ?_ ?_
            · exact kz6 _ qz1
            · exact kz4 _ _ qz1
    · refine fp_ite ?_ ?_
      · exact kz2 _ q0
      · refine fp_ite ?_ ?_
        · exact kz2 _ q0
        · exact fp_some q0
theorem fr_X6_step (h : Hp) : FpX (FrX [771, 772, 773] [] h) (F_X6_step h) := by
  unfold F_X6_step
  have q0 := FrX.refl [771, 772, 773] [] h
  refine fp_jlH (FrX.sS q0 (by decide) _) (fun hz1 qz2 => ?_)
  refine fp_lp1 (fun _ kz4 _ _ qz3 => ?_) (fun _ _ => fp_none) qz2
  refine fp_jn0 (fun _ qz5 => ?_) (fun _ kz6 => ?_)
  · refine fp_bd (fp_call (fr_X10_letterAt _ _ ) (fun _ z => absurd z (by simp)) (fun _ z => absurd z (by simp)) qz5) (fun _ _ qz7 => ?_)
    refine fp_bd (fp_call (fr_X10_kindOf _ _ ) (fun _ z => absurd z (by simp)) (fun _ z => absurd z (by simp)) qz7) (fun _ _ qz8 => ?_)
    refine fp_jlH (FrX.sS qz8 (by decide) _) (fun hz9 qz10 => ?_)
    refine fp_jn1 (fun _ _ qz11 => ?_) (fun _ kz12 => ?_)
    · refine fp_jlH (FrX.sS qz11 (by decide) _) (fun hz13 qz14 => ?_)
      refine fp_jn0 (fun _ qz15 => ?_) (fun _ kz16 => ?_)
      · refine fp_lp1 (fun _ kz18 _ _ qz17 => ?_) (fun _ _ => fp_none) qz15
        refine fp_jn0 (fun _ qz19 => ?_) (fun _ kz20 => ?_)
        · exact fp_some qz19
        · refine fp_ite ?_ ?_
          · refine fp_bd (fp_call (fr_X10_letterAt _ _ ) (fun _ z => absurd z (by simp)) (fun _ z => absurd z (by simp)) qz17) (fun _ _ qz21 => ?_)
            refine fp_bd (fp_call (fr_X10_kindOf _ _ ) (fun _ z => absurd z (by simp)) (fun _ z => absurd z (by simp)) qz21) (fun _ _ qz22 => ?_)
            refine fp_ite ?_ ?_
            · refine fp_jlH (FrX.sS qz22 (by decide) _) (fun hz23 qz24 => ?_)
              exact kz18 _ _ qz24
            · exact kz20 _ qz22
          · exact kz20 _ qz17
      · refine fp_ite ?_ ?_
        · exact kz16 _ qz14
        · refine fp_ite ?_ ?_
          · exact kz16 _ qz14
          · exact fp_some qz14
    · refine fp_ite ?_ ?_
      · exact kz12 _ _ qz10
      · exact kz12 _ _ qz10
  · refine fp_ite ?_ ?_
    · refine fp_bd (fp_call (fr_X10_letterAt _ _ ) (fun _ z => absurd z (by simp)) (fun _ z => absurd z (by simp)) qz3) (fun _ _ qz25 => ?_)
      refine fp_ite ?_ ?_
      · refine fp_jlH (FrX.sS qz25 (by decide) _) (fun hz26 qz27 => ?_)
        exact kz4 _ _ qz27
      · exact kz6 _ qz25
    · exact kz6 _ qz3
theorem fr_X6_is (a1 : Nat) (h : Hp) : FpX (FrX [] [] h) (F_X6_is a1 h) := by
  unfold F_X6_is
  have q0 := FrX.refl [] [] h
  refine fp_jn0 (fun _ qz1 => ?_) (fun _ kz2 => ?_)
  · exact fp_some qz1
  · refine fp_ite ?_ ?_
    · refine fp_ite ?_ ?_
      · refine fp_lp1 (fun _ kz4 _ _ qz3 => ?_) (fun _ _ => fp_none) q0
        refine fp_ite ?_ ?_
        · refine fp_bd (fp_call (fr_X10_letterAt _ _ ) (fun _ z => absurd z (by simp)) (fun _ z => absurd z (by simp)) qz3) (fun _ _ qz5 => ?_)
          refine fp_gd ?_
          refine fp_ite ?_ ?_
          · exact kz4 _ _ qz5
          · exact fp_some qz5
        · exact fp_some qz3
      · exact kz2 _ q0
    · exact kz2 _ q0
theorem fr_X6_readNumber (a1 : Int32) (a2 : Int32) (h : Hp) : FpX (FrX [771, 772, 773, 774] [] h) (F_X6_readNumber a1 a2 h) := by
  unfold F_X6_readNumber
  have q0 := FrX.refl [771, 772, 773, 774] [] h
  refine fp_jn0 (fun _ qz1 => ?_) (fun _ kz2 => ?_)
  · exact fp_some qz1
  · refine fp_ite ?_ ?_
    · refine fp_ite ?_ ?_
      · exact kz2 _ q0
      · refine fp_jlH (FrX.sS q0 (by decide) _) (fun hz3 qz4 => ?_)
        refine fp_jlV (fun _ => ?_)
        refine fp_lp1 (fun _ kz6 _ _ qz5 => ?_) (fun _ _ => fp_none) qz4
        refine fp_ite ?_ ?_
        · refine fp_bd (fp_call (fr_X10_letterAt _ _ ) (fun _ z => absurd z (by simp)) (fun _ z => absurd z (by simp)) qz5) (fun _ _ qz7 => ?_)
          refine fp_jlH (FrX.sS qz7 (by decide) _) (fun hz8 qz9 => ?_)
          exact kz6 _ _ qz9
        · refine fp_jn0 (fun _ qz10 => ?_) (fun _ kz11 => ?_)
          · exact fp_some qz10
          · refine fp_ite ?_ ?_
            · exact kz11 _ qz5
            · refine fp_ite ?_ ?_
              · exact kz11 _ qz5
              · refine fp_bd (fp_call (fr_X6_step _ ) (by decide) (fun _ z => absurd z (by simp)) qz5) (fun _ _ qz12 => ?_)
                exact fp_some qz12
    · exact kz2 _ q0
theorem fr_X6_readSight (h : Hp) : FpX (FrX [771, 772, 773, 774, 960] [16, 17, 18, 19] h) (F_X6_readSight h) := by
  unfold F_X6_readSight
  have q0 := FrX.refl [771, 772, 773, 774, 960] [16, 17, 18, 19] h
  refine fp_bd (fp_call (fr_X6_step _ ) (by decide) (fun _ z => absurd z (by simp)) q0) (fun _ _ qz1 => ?_)
  refine fp_bd (fp_call (fr_X6_readNumber _ _ _ ) (by decide) (fun _ z => absurd z (by simp)) qz1) (fun _ _ qz2 => ?_)
  refine fp_ite ?_ ?_
  · exact fp_some qz2
  · refine fp_jlV (fun _ => ?_)
    refine fp_bd (fp_call (fr_X6_readNumber _ _ _ ) (by decide) (fun _ z => absurd z (by simp)) qz2) (fun _ _ qz3 => ?_)
    refine fp_ite ?_ ?_
    · exact fp_some qz3
    · refine fp_jlV (fun _ => ?_)
      refine fp_bd (fp_call (fr_X0_mostValue _ _ _ ) (fun _ z => absurd z (by simp)) (fun _ z => absurd z (by simp)) qz3) (fun _ _ qz4 => ?_)
      refine fp_bd (fp_call (fr_X6_readNumber _ _ _ ) (by decide) (fun _ z => absurd z (by simp)) qz4) (fun _ _ qz5 => ?_)
      refine fp_ite ?_ ?_
      · exact fp_some qz5
      · refine fp_bd (fp_call (fr_X5_put _ _ _ _ _ _ ) (by decide) (by decide) qz5) (fun _ _ qz6 => ?_)
        exact fp_some qz6
theorem fr_X11_mostSlack (a1 : Int32) (h : Hp) : FpX (FrX [] [] h) (F_X11_mostSlack a1 h) := by
  unfold F_X11_mostSlack
  have q0 := FrX.refl [] [] h
  refine fp_ite ?_ ?_
  · exact fp_some q0
  · refine fp_jn1 (fun _ _ qz1 => ?_) (fun _ kz2 => ?_)
    · exact fp_some qz1
    · refine fp_ite ?_ ?_
      · exact kz2 _ _ q0
      · exact kz2 _ _ q0
theorem fr_X6_readShadow (a1 : Int32) (h : Hp) : FpX (FrX [771, 772, 773, 774, 960] [16, 17, 18, 19] h) (F_X6_readShadow a1 h) := by
  unfold F_X6_readShadow
  have q0 := FrX.refl [771, 772, 773, 774, 960] [16, 17, 18, 19] h
  refine fp_bd (fp_call (fr_X6_step _ ) (by decide) (fun _ z => absurd z (by simp)) q0) (fun _ _ qz1 => ?_)
  refine fp_bd (fp_call (fr_X6_readNumber _ _ _ ) (by decide) (fun _ z => absurd z (by simp)) qz1) (fun _ _ qz2 => ?_)
  refine fp_ite ?_ ?_
  · exact fp_some qz2
  · refine fp_jlV (fun _ => ?_)
    refine fp_bd (fp_call (fr_X0_mostValue _ _ _ ) (fun _ z => absurd z (by simp)) (fun _ z => absurd z (by simp)) qz2) (fun _ _ qz3 => ?_)
    refine fp_bd (fp_call (fr_X6_readNumber _ _ _ ) (by decide) (fun _ z => absurd z (by simp)) qz3) (fun _ _ qz4 => ?_)
    refine fp_ite ?_ ?_
    · exact fp_some qz4
    · refine fp_jlV (fun _ => ?_)
      refine fp_bd (fp_call (fr_X11_mostSlack _ _ ) (fun _ z => absurd z (by simp)) (fun _ z => absurd z (by simp)) qz4) (fun _ _ qz5 => ?_)
      refine fp_bd (fp_call (fr_X6_readNumber _ _ _ ) (by decide) (fun _ z => absurd z (by simp)) qz5) (fun _ _ qz6 => ?_)
      refine fp_ite ?_ ?_
      · exact fp_some qz6
      · refine fp_bd (fp_call (fr_X5_put _ _ _ _ _ _ ) (by decide) (by decide) qz6) (fun _ _ qz7 => ?_)
        exact fp_some qz7
theorem fr_X6_thingKindNamed (h : Hp) : FpX (FrX [] [] h) (F_X6_thingKindNamed h) := by
  unfold F_X6_thingKindNamed
  have q0 := FrX.refl [] [] h
  refine fp_bd (fp_call (fr_X6_is _ _ ) (fun _ z => absurd z (by simp)) (fun _ z => absurd z (by simp)) q0) (fun _ _ qz1 => ?_)
  refine fp_ite ?_ ?_
  · refine fp_bd (fp_call (fr_X6_is _ _ ) (fun _ z => absurd z (by simp)) (fun _ z => absurd z (by simp)) qz1) (fun _ _ qz2 => ?_)
    refine fp_ite ?_ ?_
    · refine fp_bd (fp_call (fr_X6_is _ _ ) (fun _ z => absurd z (by simp)) (fun _ z => absurd z (by simp)) qz2) (fun _ _ qz3 => ?_)
      refine fp_ite ?_ ?_
      · refine fp_bd (fp_call (fr_X6_is _ _ ) (fun _ z => absurd z (by simp)) (fun _ z => absurd z (by simp)) qz3) (fun _ _ qz4 => ?_)
        refine fp_jn1 (fun _ _ qz5 => ?_) (fun _ kz6 => ?_)
        · exact fp_some qz5
        · refine fp_ite ?_ ?_
          · exact kz6 _ _ qz4
          · exact kz6 _ _ qz4
      · exact fp_some qz3
    · exact fp_some qz2
  · exact fp_some qz1
theorem fr_X6_readThing (h : Hp) : FpX (FrX [771, 772, 773, 833] [21] h) (F_X6_readThing h) := by
  unfold F_X6_readThing
  have q0 := FrX.refl [771, 772, 773, 833] [21] h
  refine fp_ite ?_ ?_
  · refine fp_bd (fp_call (fr_X6_step _ ) (by decide) (fun _ z => absurd z (by simp)) q0) (fun _ _ qz1 => ?_)
    refine fp_bd (fp_call (fr_X6_thingKindNamed _ ) (fun _ z => absurd z (by simp)) (fun _ z => absurd z (by simp)) qz1) (fun _ _ qz2 => ?_)
    refine fp_ite ?_ ?_
    · exact fp_some qz2
    · refine fp_bd (fp_call (fr_X0_addThing _ _ _ ) (by decide) (by decide) qz2) (fun _ _ qz3 => ?_)
      refine fp_bd (fp_call (fr_X6_step _ ) (by decide) (fun _ z => absurd z (by simp)) qz3) (fun _ _ qz4 => ?_)
      exact fp_some qz4
  · exact fp_some q0
theorem fr_X11_lengthened (a1 : Int32) (a2 : Int32) (h : Hp) : FpX (FrX [] [] h) (F_X11_lengthened a1 a2 h) := by
  unfold F_X11_lengthened
  have q0 := FrX.refl [] [] h
  exact fp_some q0
theorem fr_X6_readPicture (h : Hp) : FpX (FrX [771, 772, 773, 832] [20] h) (F_X6_readPicture h) := by
  unfold F_X6_readPicture
  have q0 := FrX.refl [771, 772, 773, 832] [20] h
  refine fp_ite ?_ ?_
  · refine fp_bd (fp_call (fr_X6_step _ ) (by decide) (fun _ z => absurd z (by simp)) q0) (fun _ _ qz1 => ?_)
    refine fp_jn0 (fun _ qz2 => ?_) (fun _ kz3 => ?_)
    · exact fp_some qz2
    · refine fp_ite ?_ ?_
      · refine fp_ite ?_ ?_
        · exact kz3 _ qz1
        · refine fp_jlV (fun _ => ?_)
          refine fp_lp2 (fun _ kz5 _ _ _ qz4 => ?_) (fun _ _ _ => fp_none) qz1
          refine fp_ite ?_ ?_
          · refine fp_bd (fp_call (fr_X10_letterAt _ _ ) (fun _ z => absurd z (by simp)) (fun _ z => absurd z (by simp)) qz4) (fun _ _ qz6 => ?_)
            refine fp_bd (fp_call (fr_X11_lengthened _ _ _ ) (fun _ z => absurd z (by simp)) (fun _ z => absurd z (by simp)) qz6) (fun _ _ qz7 => ?_)
            exact kz5 _ _ _ qz7
          · refine fp_bd (fp_call (fr_X0_pictureNamed _ _ _ ) (fun _ z => absurd z (by simp)) (fun _ z => absurd z (by simp)) qz4) (fun _ _ qz8 => ?_)
            refine fp_ite ?_ ?_
            · refine fp_bd (fp_call (fr_X0_addPicture _ _ _ ) (by decide) (by decide) qz8) (fun _ _ qz9 => ?_)
              refine fp_bd (fp_call (fr_X6_step _ ) (by decide) (fun _ z => absurd z (by simp)) qz9) (fun _ _ qz10 => ?_)
              exact fp_some qz10
            · exact fp_some qz8
      · exact kz3 _ qz1
  · exact fp_some q0
theorem fr_X6_readSun (h : Hp) : FpX (FrX [771, 772, 773, 774, 896, 897, 898] [] h) (F_X6_readSun h) := by
  unfold F_X6_readSun
  have q0 := FrX.refl [771, 772, 773, 774, 896, 897, 898] [] h
  refine fp_bd (fp_call (fr_X6_step _ ) (by decide) (fun _ z => absurd z (by simp)) q0) (fun _ _ qz1 => ?_)
  refine fp_bd (fp_call (fr_X6_readNumber _ _ _ ) (by decide) (fun _ z => absurd z (by simp)) qz1) (fun _ _ qz2 => ?_)
  refine fp_ite ?_ ?_
  · exact fp_some qz2
  · refine fp_jlV (fun _ => ?_)
    refine fp_bd (fp_call (fr_X6_readNumber _ _ _ ) (by decide) (fun _ z => absurd z (by simp)) qz2) (fun _ _ qz3 => ?_)
    refine fp_ite ?_ ?_
    · exact fp_some qz3
    · refine fp_jlV (fun _ => ?_)
      refine fp_bd (fp_call (fr_X6_readNumber _ _ _ ) (by decide) (fun _ z => absurd z (by simp)) qz3) (fun _ _ qz4 => ?_)
      refine fp_ite ?_ ?_
      · exact fp_some qz4
      · refine fp_bd (fp_call (fr_X9_become _ _ _ _ _ ) (by decide) (fun _ z => absurd z (by simp)) qz4) (fun _ _ qz5 => ?_)
        exact fp_some qz5
theorem fr_X6_readAlbum (h : Hp) : FpX (FrX [771, 772, 773, 832, 833, 896, 897, 898, 960] [17, 18, 19] h) (F_X6_readAlbum h) := by
  unfold F_X6_readAlbum
  have q0 := FrX.refl [771, 772, 773, 832, 833, 896, 897, 898, 960] [17, 18, 19] h
  refine fp_bd (fp_call (fr_X0_clear _ _ ) (by decide) (by decide) q0) (fun _ _ qz1 => ?_)
  refine fp_bd (fp_call (fr_X6_step _ ) (by decide) (fun _ z => absurd z (by simp)) qz1) (fun _ _ qz2 => ?_)
  exact fp_some qz2
theorem fr_X6_readClause (h : Hp) : FpX (FrX [771, 772, 773, 774, 832, 833, 896, 897, 898, 960] [16, 17, 18, 19, 20, 21] h) (F_X6_readClause h) := by
  unfold F_X6_readClause
  have q0 := FrX.refl [771, 772, 773, 774, 832, 833, 896, 897, 898, 960] [16, 17, 18, 19, 20, 21] h
  refine fp_bd (fp_call (fr_X6_is _ _ ) (fun _ z => absurd z (by simp)) (fun _ z => absurd z (by simp)) q0) (fun _ _ qz1 => ?_)
  refine fp_ite ?_ ?_
  · refine fp_bd (fp_call (fr_X6_is _ _ ) (fun _ z => absurd z (by simp)) (fun _ z => absurd z (by simp)) qz1) (fun _ _ qz2 => ?_)
    refine fp_ite ?_ ?_
    · refine fp_bd (fp_call (fr_X6_is _ _ ) (fun _ z => absurd z (by simp)) (fun _ z => absurd z (by simp)) qz2) (fun _ _ qz3 => ?_)
      refine fp_ite ?_ ?_
      · refine fp_bd (fp_call (fr_X6_is _ _ ) (fun _ z => absurd z (by simp)) (fun _ z => absurd z (by simp)) qz3) (fun _ _ qz4 => ?_)
        refine fp_ite ?_ ?_
        · refine fp_bd (fp_call (fr_X6_is _ _ ) (fun _ z => absurd z (by simp)) (fun _ z => absurd z (by simp)) qz4) (fun _ _ qz5 => ?_)
          refine fp_ite ?_ ?_
          · refine fp_bd (fp_call (fr_X6_is _ _ ) (fun _ z => absurd z (by simp)) (fun _ z => absurd z (by simp)) qz5) (fun _ _ qz6 => ?_)
            refine fp_ite ?_ ?_
            · refine fp_bd (fp_call (fr_X6_is _ _ ) (fun _ z => absurd z (by simp)) (fun _ z => absurd z (by simp)) qz6) (fun _ _ qz7 => ?_)
              refine fp_jn1 (fun _ _ qz8 => ?_) (fun _ kz9 => ?_)
              · refine fp_gd ?_
                exact fp_some qz8
              · refine fp_jn0 (fun _ qz10 => ?_) (fun _ kz11 => ?_)
                · exact kz9 _ _ qz10
                · refine fp_ite ?_ ?_
                  · exact kz11 _ qz7
                  · refine fp_bd (fp_call (fr_X6_readSight _ ) (by decide) (by decide) qz7) (fun _ _ qz12 => ?_)
                    refine fp_ite ?_ ?_
                    · exact kz11 _ qz12
                    · exact kz9 _ _ qz12
            · refine fp_bd (fp_call (fr_X6_readShadow _ _ ) (by decide) (by decide) qz6) (fun _ _ qz13 => ?_)
              refine fp_gd ?_
              exact fp_some qz13
          · refine fp_bd (fp_call (fr_X6_readShadow _ _ ) (by decide) (by decide) qz5) (fun _ _ qz14 => ?_)
            refine fp_gd ?_
            exact fp_some qz14
        · refine fp_bd (fp_call (fr_X6_readThing _ ) (by decide) (by decide) qz4) (fun _ _ qz15 => ?_)
          refine fp_gd ?_
          exact fp_some qz15
      · refine fp_bd (fp_call (fr_X6_readPicture _ ) (by decide) (by decide) qz3) (fun _ _ qz16 => ?_)
        refine fp_gd ?_
        exact fp_some qz16
    · refine fp_bd (fp_call (fr_X6_readSun _ ) (by decide) (fun _ z => absurd z (by simp)) qz2) (fun _ _ qz17 => ?_)
      refine fp_gd ?_
      exact fp_some qz17
  · refine fp_bd (fp_call (fr_X6_readAlbum _ ) (by decide) (by decide) qz1) (fun _ _ qz18 => ?_)
    refine fp_gd ?_
    exact fp_some qz18
theorem fr_X6_read (a1 : Nat) (h : Hp) : FpX (FrX [769, 771, 772, 773, 774, 832, 833, 896, 897, 898, 960] [16, 17, 18, 19, 20, 21] h) (F_X6_read a1 h) := by
  unfold F_X6_read
  have q0 := FrX.refl [769, 771, 772, 773, 774, 832, 833, 896, 897, 898, 960] [16, 17, 18, 19, 20, 21] h
  refine fp_bd (fp_call (fr_X0_copyFrom _ _ _ ) (by decide) (by decide) q0) (fun _ _ qz1 => ?_)
  refine fp_jlH (FrX.sS qz1 (by decide) _) (fun hz2 qz3 => ?_)
  refine fp_jlH (FrX.sS qz3 (by decide) _) (fun hz4 qz5 => ?_)
  refine fp_bd (fp_call (fr_X6_step _ ) (by decide) (fun _ z => absurd z (by simp)) qz5) (fun _ _ qz6 => ?_)
  refine fp_lp1 (fun _ kz8 _ _ qz7 => ?_) (fun _ _ => fp_none) qz6
  refine fp_ite ?_ ?_
  · refine fp_bd (fp_call (fr_X6_readClause _ ) (by decide) (by decide) qz7) (fun _ _ qz9 => ?_)
    refine fp_ite ?_ ?_
    · exact fp_some qz9
    · refine fp_jlH (FrX.sS qz9 (by decide) _) (fun hz10 qz11 => ?_)
      refine fp_ite ?_ ?_
      · exact fp_some qz11
      · refine fp_jn0 (fun _ qz12 => ?_) (fun _ kz13 => ?_)
        · exact fp_some qz12
        · refine fp_ite ?_ ?_
          · refine fp_bd (fp_call (fr_X10_letterAt _ _ ) (fun _ z => absurd z (by simp)) (fun _ z => absurd z (by simp)) qz11) (fun _ _ qz14 => ?_)
            refine fp_ite ?_ ?_
            · refine fp_jn0 (fun _ qz15 => ?_) (fun _ kz16 => ?_)
              · exact kz8 _ _ qz15
              · refine fp_ite ?_ ?_
                · refine fp_bd (fp_call (fr_X6_step _ ) (by decide) (fun _ z => absurd z (by simp)) qz14) (fun _ _ qz17 => ?_)
                  exact kz16 _ qz17
                · exact kz16 _ qz14
            · exact kz13 _ qz14
          · exact kz13 _ qz11
  · exact fp_some qz7
theorem fr_X7_chainAhead (t : Nat) (h : Hp) : FpX (FrX [] [t + 3] h) (F_X7_chainAhead t h) := by
  unfold F_X7_chainAhead
  have q0 := FrX.refl [] [t + 3] h
  refine fp_gd ?_
  refine fp_jlH (FrX.aV q0 (by simp only [List.mem_cons, List.not_mem_nil, or_false, true_or, or_true]; try omega) _) (fun hz1 qz2 => ?_)
  refine fp_lp1 (fun _ kz4 _ _ qz3 => ?_) (fun _ _ => fp_none) qz2
  refine fp_ite ?_ ?_
  · refine fp_lp1 (fun _ kz6 _ _ qz5 => ?_) (fun _ _ => fp_none) qz3
    refine fp_ite ?_ ?_
    · refine fp_gd ?_
      refine fp_bd (fp_call (fr_X11_hasBit _ _ _ ) (fun _ z => absurd z (by simp)) (fun _ z => absurd z (by simp)) qz5) (fun _ _ qz7 => ?_)
      refine fp_jn0 (fun _ qz8 => ?_) (fun _ kz9 => ?_)
      · exact kz6 _ _ qz8
      · refine fp_ite ?_ ?_
        · exact kz9 _ qz7
        · refine fp_gd ?_
          refine fp_gd ?_
          refine fp_gd ?_
          refine fp_jlH (FrX.aS qz7 (by simp only [List.mem_cons, List.not_mem_nil, or_false, true_or, or_true]; try omega) _ _) (fun hz10 qz11 => ?_)
          exact kz9 _ qz11
    · exact kz4 _ _ qz5
  · exact fp_some qz3
theorem fr_X7_read (t : Nat) (a1 : Nat) (h : Hp) : FpX (FrX [64 * t, 64 * t + 1] [t + 1, t + 2, t + 3, t + 4, t + 5, t + 6] h) (F_X7_read t a1 h) := by
  unfold F_X7_read
  have q0 := FrX.refl [64 * t, 64 * t + 1] [t + 1, t + 2, t + 3, t + 4, t + 5, t + 6] h
  refine fp_bd (fp_call (fr_J9_min_7cf53 _ _ _ ) (fun _ z => absurd z (by simp)) (fun _ z => absurd z (by simp)) q0) (fun _ _ qz1 => ?_)
  refine fp_jlH (FrX.sS qz1 (by simp only [List.mem_cons, List.not_mem_nil, or_false, true_or, or_true]; try omega) _) (fun hz2 qz3 => ?_)
  refine fp_lp1 (fun _ kz5 _ _ qz4 => ?_) (fun _ _ => fp_none) qz3
  refine fp_ite ?_ ?_
  · refine fp_bd (fp_call (fr_X7_readWindow _ _ _ _ _ ) (fun _ z => absurd z (by simp)) (fun v z => by simp only [List.mem_cons, List.not_mem_nil, or_false, true_or, or_true] at z ⊢; try omega) qz4) (fun _ _ qz6 => ?_)
    exact kz5 _ _ qz6
  · refine fp_bd (fp_call (fr_X7_readThings _ _ _ _ ) (fun _ z => absurd z (by simp)) (fun v z => by simp only [List.mem_cons, List.not_mem_nil, or_false, true_or, or_true] at z ⊢; try omega) qz4) (fun _ _ qz7 => ?_)
    refine fp_bd (fp_call (fr_X7_chainAhead _ _ ) (fun _ z => absurd z (by simp)) (fun v z => by simp only [List.mem_cons, List.not_mem_nil, or_false, true_or, or_true] at z ⊢; try omega) qz7) (fun _ _ qz8 => ?_)
    refine fp_jlH (FrX.sS qz8 (by simp only [List.mem_cons, List.not_mem_nil, or_false, true_or, or_true]; try omega) _) (fun hz9 qz10 => ?_)
    exact fp_some qz10
theorem fr_X7_earlierThan (t : Nat) (a1 : Int32) (h : Hp) : FpX (FrX [] [] h) (F_X7_earlierThan t a1 h) := by
  unfold F_X7_earlierThan
  have q0 := FrX.refl [] [] h
  refine fp_jn1 (fun _ _ qz1 => ?_) (fun _ kz2 => ?_)
  · exact fp_some qz1
  · refine fp_jn0 (fun _ qz3 => ?_) (fun _ kz4 => ?_)
    · exact kz2 _ _ qz3
    · refine fp_ite ?_ ?_
      · exact kz4 _ q0
      · refine fp_ite ?_ ?_
        · refine fp_gd ?_
          exact kz2 _ _ q0
        · exact kz4 _ q0
theorem fr_X7_pairsBefore (t : Nat) (h : Hp) : FpX (FrX [] [] h) (F_X7_pairsBefore t h) := by
  unfold F_X7_pairsBefore
  have q0 := FrX.refl [] [] h
  refine fp_lp2 (fun _ kz2 _ _ _ qz1 => ?_) (fun _ _ _ => fp_none) q0
  refine fp_ite ?_ ?_
  · refine fp_bd (fp_call (fr_X7_earlierThan _ _ _ ) (fun _ z => absurd z (by simp)) (fun _ z => absurd z (by simp)) qz1) (fun _ _ qz3 => ?_)
    refine fp_bd (fp_call (fr_J6_bitCount_0f7a4 _ _ ) (fun _ z => absurd z (by simp)) (fun _ z => absurd z (by simp)) qz3) (fun _ _ qz4 => ?_)
    refine fp_jlV (fun _ => ?_)
    exact kz2 _ _ _ qz4
  · exact fp_some qz1
theorem fr_X8_clear (h : Hp) : FpX (FrX [] [115] h) (F_X8_clear h) := by
  unfold F_X8_clear
  have q0 := FrX.refl [] [115] h
  refine fp_bd (fp_call (fr_J7_fill_53178 _ _ _ _ ) (fun _ z => absurd z (by simp)) (by decide) q0) (fun _ _ qz1 => ?_)
  exact fp_some qz1
theorem fr_X8_has (a1 : Int32) (h : Hp) : FpX (FrX [] [] h) (F_X8_has a1 h) := by
  unfold F_X8_has
  have q0 := FrX.refl [] [] h
  refine fp_jn1 (fun _ _ qz1 => ?_) (fun _ kz2 => ?_)
  · refine fp_gd ?_
    exact fp_some qz1
  · refine fp_jn0 (fun _ qz3 => ?_) (fun _ kz4 => ?_)
    · exact kz2 _ _ qz3
    · refine fp_ite ?_ ?_
      · exact kz4 _ q0
      · refine fp_ite ?_ ?_
        · exact kz2 _ _ q0
        · exact kz4 _ q0
theorem fr_X8_sizeOf (a1 : Int32) (h : Hp) : FpX (FrX [] [] h) (F_X8_sizeOf a1 h) := by
  unfold F_X8_sizeOf
  have q0 := FrX.refl [] [] h
  refine fp_bd (fp_call (fr_X8_has _ _ ) (fun _ z => absurd z (by simp)) (fun _ z => absurd z (by simp)) q0) (fun _ _ qz1 => ?_)
  refine fp_jn1 (fun _ _ qz2 => ?_) (fun _ kz3 => ?_)
  · exact fp_some qz2
  · refine fp_ite ?_ ?_
    · exact kz3 _ _ qz1
    · refine fp_gd ?_
      exact kz3 _ _ qz1
theorem fr_X8_isMissing (a1 : Int32) (h : Hp) : FpX (FrX [] [] h) (F_X8_isMissing a1 h) := by
  unfold F_X8_isMissing
  have q0 := FrX.refl [] [] h
  refine fp_bd (fp_call (fr_X8_sizeOf _ _ ) (fun _ z => absurd z (by simp)) (fun _ z => absurd z (by simp)) q0) (fun _ _ qz1 => ?_)
  refine fp_jn1 (fun _ _ qz2 => ?_) (fun _ kz3 => ?_)
  · refine fp_gd ?_
    exact fp_some qz2
  · refine fp_ite ?_ ?_
    · exact kz3 _ _ qz1
    · exact kz3 _ _ qz1
theorem fr_X8_hasPlace (a1 : Int32) (a2 : Int32) (h : Hp) : FpX (FrX [] [] h) (F_X8_hasPlace a1 a2 h) := by
  unfold F_X8_hasPlace
  have q0 := FrX.refl [] [] h
  refine fp_jn1 (fun _ _ qz1 => ?_) (fun _ kz2 => ?_)
  · refine fp_gd ?_
    exact fp_some qz1
  · refine fp_jn0 (fun _ qz3 => ?_) (fun _ kz4 => ?_)
    · exact kz2 _ _ qz3
    · refine fp_ite ?_ ?_
      · exact kz4 _ q0
      · refine fp_ite ?_ ?_
        · refine fp_bd (fp_call (fr_X8_sizeOf _ _ ) (fun _ z => absurd z (by simp)) (fun _ z => absurd z (by simp)) q0) (fun _ _ qz5 => ?_)
          refine fp_ite ?_ ?_
          · exact kz2 _ _ qz5
          · exact kz4 _ qz5
        · exact kz4 _ q0
theorem fr_X8_put (a1 : Int32) (a2 : Int32) (a3 : Int64) (h : Hp) : FpX (FrX [] [116] h) (F_X8_put a1 a2 a3 h) := by
  unfold F_X8_put
  have q0 := FrX.refl [] [116] h
  refine fp_bd (fp_call (fr_X8_hasPlace _ _ _ ) (fun _ z => absurd z (by simp)) (fun _ z => absurd z (by simp)) q0) (fun _ _ qz1 => ?_)
  refine fp_jn0 (fun _ qz2 => ?_) (fun _ kz3 => ?_)
  · exact fp_some qz2
  · refine fp_ite ?_ ?_
    · exact kz3 _ qz1
    · refine fp_gd ?_
      refine fp_jlH (FrX.lS qz1 (by decide) _ _) (fun hz4 qz5 => ?_)
      exact kz3 _ qz5
theorem fr_X8_renew (a1 : Int32) (a2 : Int32) (h : Hp) : FpX (FrX [] [115, 116] h) (F_X8_renew a1 a2 h) := by
  unfold F_X8_renew
  have q0 := FrX.refl [] [115, 116] h
  refine fp_bd (fp_call (fr_X8_has _ _ ) (fun _ z => absurd z (by simp)) (fun _ z => absurd z (by simp)) q0) (fun _ _ qz1 => ?_)
  refine fp_jn0 (fun _ qz2 => ?_) (fun _ kz3 => ?_)
  · exact fp_some qz2
  · refine fp_ite ?_ ?_
    · exact kz3 _ qz1
    · refine fp_ite ?_ ?_
      · exact kz3 _ qz1
      · refine fp_ite ?_ ?_
        · exact kz3 _ qz1
        · refine fp_gd ?_
          refine fp_jlH (FrX.aS qz1 (by decide) _ _) (fun hz4 qz5 => ?_)
          refine fp_lp1 (fun _ kz7 _ _ qz6 => ?_) (fun _ _ => fp_none) qz5
          refine fp_ite ?_ ?_
          · refine fp_bd (fp_call (fr_X8_put _ _ _ _ ) (fun _ z => absurd z (by simp)) (by decide) qz6) (fun _ _ qz8 => ?_)
            exact kz7 _ _ qz8
          · exact fp_some qz6
theorem fr_X8_at (a1 : Int32) (a2 : Int32) (h : Hp) : FpX (FrX [] [] h) (F_X8_at a1 a2 h) := by
  unfold F_X8_at
  have q0 := FrX.refl [] [] h
  refine fp_bd (fp_call (fr_X8_hasPlace _ _ _ ) (fun _ z => absurd z (by simp)) (fun _ z => absurd z (by simp)) q0) (fun _ _ qz1 => ?_)
  refine fp_jn1 (fun _ _ qz2 => ?_) (fun _ kz3 => ?_)
  · exact fp_some qz2
  · refine fp_ite ?_ ?_
    · exact kz3 _ _ qz1
    · refine fp_gd ?_
      exact kz3 _ _ qz1
theorem fr_X8_change (a1 : Int32) (a2 : Int32) (a3 : Int32) (a4 : Int32) (h : Hp) : FpX (FrX [7296] [116] h) (F_X8_change a1 a2 a3 a4 h) := by
  unfold F_X8_change
  have q0 := FrX.refl [7296] [116] h
  refine fp_bd (fp_call (fr_X8_at _ _ _ ) (fun _ z => absurd z (by simp)) (fun _ z => absurd z (by simp)) q0) (fun _ _ qz1 => ?_)
  refine fp_jn0 (fun _ qz2 => ?_) (fun _ kz3 => ?_)
  · refine fp_bd (fp_call (fr_X8_put _ _ _ _ ) (fun _ z => absurd z (by simp)) (by decide) qz2) (fun _ _ qz4 => ?_)
    exact fp_some qz4
  · refine fp_ite ?_ ?_
    · refine fp_bd (fp_call (fr_X8_at _ _ _ ) (fun _ z => absurd z (by simp)) (fun _ z => absurd z (by simp)) qz1) (fun _ _ qz5 => ?_)
      refine fp_jlH (FrX.tS qz5 (by decide) _) (fun hz6 qz7 => ?_)
      exact kz3 _ qz7
    · refine fp_ite ?_ ?_
      · refine fp_bd (fp_call (fr_X8_at _ _ _ ) (fun _ z => absurd z (by simp)) (fun _ z => absurd z (by simp)) qz1) (fun _ _ qz8 => ?_)
        refine fp_jlH (FrX.tS qz8 (by decide) _) (fun hz9 qz10 => ?_)
        exact kz3 _ qz10
      · refine fp_jn1 (fun _ _ qz11 => ?_) (fun _ kz12 => ?_)
        · refine fp_jlH (FrX.tS qz11 (by decide) _) (fun hz13 qz14 => ?_)
          exact kz3 _ qz14
        · refine fp_ite ?_ ?_
          · exact kz12 _ _ qz1
          · exact kz12 _ _ qz1
theorem fr_X8_addUp (a1 : Int32) (h : Hp) : FpX (FrX [7296] [] h) (F_X8_addUp a1 h) := by
  unfold F_X8_addUp
  have q0 := FrX.refl [7296] [] h
  refine fp_bd (fp_call (fr_X8_sizeOf _ _ ) (fun _ z => absurd z (by simp)) (fun _ z => absurd z (by simp)) q0) (fun _ _ qz1 => ?_)
  refine fp_jlH (FrX.tS qz1 (by decide) _) (fun hz2 qz3 => ?_)
  refine fp_lp1 (fun _ kz5 _ _ qz4 => ?_) (fun _ _ => fp_none) qz3
  refine fp_ite ?_ ?_
  · refine fp_bd (fp_call (fr_X8_at _ _ _ ) (fun _ z => absurd z (by simp)) (fun _ z => absurd z (by simp)) qz4) (fun _ _ qz6 => ?_)
    refine fp_jlH (FrX.tS qz6 (by decide) _) (fun hz7 qz8 => ?_)
    exact kz5 _ _ qz8
  · exact fp_some qz4
theorem fr_X8_remove (a1 : Int32) (h : Hp) : FpX (FrX [] [115] h) (F_X8_remove a1 h) := by
  unfold F_X8_remove
  have q0 := FrX.refl [] [115] h
  refine fp_bd (fp_call (fr_X8_sizeOf _ _ ) (fun _ z => absurd z (by simp)) (fun _ z => absurd z (by simp)) q0) (fun _ _ qz1 => ?_)
  refine fp_bd (fp_call (fr_X8_has _ _ ) (fun _ z => absurd z (by simp)) (fun _ z => absurd z (by simp)) qz1) (fun _ _ qz2 => ?_)
  refine fp_jn0 (fun _ qz3 => ?_) (fun _ kz4 => ?_)
  · exact fp_some qz3
  · refine fp_ite ?_ ?_
    · exact kz4 _ qz2
    · refine fp_gd ?_
      refine fp_jlH (FrX.aS qz2 (by decide) _ _) (fun hz5 qz6 => ?_)
      exact kz4 _ qz6
theorem fr_X8_allPlaces (h : Hp) : FpX (FrX [] [] h) (F_X8_allPlaces h) := by
  unfold F_X8_allPlaces
  have q0 := FrX.refl [] [] h
  refine fp_lp2 (fun _ kz2 _ _ _ qz1 => ?_) (fun _ _ _ => fp_none) q0
  refine fp_ite ?_ ?_
  · refine fp_bd (fp_call (fr_X8_sizeOf _ _ ) (fun _ z => absurd z (by simp)) (fun _ z => absurd z (by simp)) qz1) (fun _ _ qz3 => ?_)
    refine fp_bd (fp_call (fr_J9_max_7cf53 _ _ _ ) (fun _ z => absurd z (by simp)) (fun _ z => absurd z (by simp)) qz3) (fun _ _ qz4 => ?_)
    refine fp_jlV (fun _ => ?_)
    exact kz2 _ _ _ qz4
  · exact fp_some qz1
theorem fr_X10_add (a1 : Int32) (h : Hp) : FpX (FrX [64] [2] h) (F_X10_add a1 h) := by
  unfold F_X10_add
  have q0 := FrX.refl [64] [2] h
  refine fp_jn0 (fun _ qz1 => ?_) (fun _ kz2 => ?_)
  · exact fp_some qz1
  · refine fp_ite ?_ ?_
    · exact kz2 _ q0
    · refine fp_ite ?_ ?_
      · refine fp_gd ?_
        refine fp_jlH (FrX.aS q0 (by decide) _ _) (fun hz3 qz4 => ?_)
        refine fp_jlH (FrX.sS qz4 (by decide) _) (fun hz5 qz6 => ?_)
        exact fp_some qz6
      · exact kz2 _ q0
theorem fr_X10_clear (h : Hp) : FpX (FrX [64] [] h) (F_X10_clear h) := by
  unfold F_X10_clear
  have q0 := FrX.refl [64] [] h
  refine fp_jlV (fun _ => ?_)
  refine fp_jlH (FrX.sS q0 (by decide) _) (fun hz1 qz2 => ?_)
  exact fp_some qz2
theorem fr_X10_wholeWord (h : Hp) : FpX (FrX [] [] h) (F_X10_wholeWord h) := by
  unfold F_X10_wholeWord
  have q0 := FrX.refl [] [] h
  refine fp_lp3 (fun _ kz2 _ _ _ _ qz1 => ?_) (fun _ _ _ _ => fp_none) q0
  refine fp_ite ?_ ?_
  · refine fp_bd (fp_call (fr_X10_letterAt _ _ ) (fun _ z => absurd z (by simp)) (fun _ z => absurd z (by simp)) qz1) (fun _ _ qz3 => ?_)
    refine fp_jn2 (fun _ _ _ qz4 => ?_) (fun _ kz5 => ?_)
    · exact kz2 _ _ _ _ qz4
    · refine fp_ite ?_ ?_
      · exact kz5 _ _ _ qz3
      · refine fp_bd (fp_call (fr_X10_kindOf _ _ ) (fun _ z => absurd z (by simp)) (fun _ z => absurd z (by simp)) qz3) (fun _ _ qz6 => ?_)
        refine fp_jn0 (fun _ qz7 => ?_) (fun _ kz8 => ?_)
        · exact fp_some qz7
        · refine fp_ite ?_ ?_
          · refine fp_ite ?_ ?_
            · exact kz8 _ qz6
            · refine fp_bd (fp_call (fr_X11_lengthened _ _ _ ) (fun _ z => absurd z (by simp)) (fun _ z => absurd z (by simp)) qz6) (fun _ _ qz9 => ?_)
              exact kz5 _ _ _ qz9
          · exact kz8 _ qz6
  · refine fp_jn1 (fun _ _ qz10 => ?_) (fun _ kz11 => ?_)
    · exact fp_some qz10
    · refine fp_ite ?_ ?_
      · exact kz11 _ _ qz1
      · exact kz11 _ _ qz1
theorem fr_X11_write (a1 : Int32) (h : Hp) : FpX (FrX [64] [2] h) (F_X11_write a1 h) := by
  unfold F_X11_write
  have q0 := FrX.refl [64] [2] h
  refine fp_jn0 (fun _ qz1 => ?_) (fun _ kz2 => ?_)
  · exact fp_some qz1
  · refine fp_ite ?_ ?_
    · exact kz2 _ q0
    · refine fp_ite ?_ ?_
      · exact kz2 _ q0
      · refine fp_bd (fp_call (fr_X10_add _ _ ) (by decide) (by decide) q0) (fun _ _ qz3 => ?_)
        refine fp_jn1 (fun _ _ qz4 => ?_) (fun _ kz5 => ?_)
        · exact fp_some qz4
        · refine fp_ite ?_ ?_
          · exact kz5 _ _ qz3
          · exact kz5 _ _ qz3
theorem fr_X11_erase (h : Hp) : FpX (FrX [64] [] h) (F_X11_erase h) := by
  unfold F_X11_erase
  have q0 := FrX.refl [64] [] h
  refine fp_bd (fp_call (fr_X10_clear _ ) (by decide) (fun _ z => absurd z (by simp)) q0) (fun _ _ qz1 => ?_)
  exact fp_some qz1
theorem fr_X11_fault (h : Hp) : FpX (FrX [769, 771, 772, 773, 774, 832, 833, 896, 897, 898, 960] [16, 17, 18, 19, 20, 21] h) (F_X11_fault h) := by
  unfold F_X11_fault
  have q0 := FrX.refl [769, 771, 772, 773, 774, 832, 833, 896, 897, 898, 960] [16, 17, 18, 19, 20, 21] h
  refine fp_bd (fp_call (fr_X6_read _ _ ) (by decide) (by decide) q0) (fun _ _ qz1 => ?_)
  exact fp_some qz1
theorem fr_X11_forgetFindings (h : Hp) : FpX (FrX [4800, 5248, 5504, 5829, 5830, 5831] [] h) (F_X11_forgetFindings h) := by
  unfold F_X11_forgetFindings
  have q0 := FrX.refl [4800, 5248, 5504, 5829, 5830, 5831] [] h
  refine fp_jlH (FrX.sS q0 (by decide) _) (fun hz1 qz2 => ?_)
  refine fp_jlH (FrX.sS qz2 (by decide) _) (fun hz3 qz4 => ?_)
  refine fp_jlH (FrX.sS qz4 (by decide) _) (fun hz5 qz6 => ?_)
  refine fp_bd (fp_call (fr_X1_forget _ ) (by decide) (fun _ z => absurd z (by simp)) qz6) (fun _ _ qz7 => ?_)
  exact fp_some qz7
theorem fr_X11_album (h : Hp) : FpX (FrX [64, 192, 193, 256, 257, 258, 320, 769, 771, 772, 773, 774, 832, 833, 896, 897, 898, 960, 1408, 1412, 4800, 5248, 5504, 5829, 5830, 5831] [6, 7, 8, 9, 10, 11, 16, 17, 18, 19, 20, 21, 115] h) (F_X11_album h) := by
  unfold F_X11_album
  have q0 := FrX.refl [64, 192, 193, 256, 257, 258, 320, 769, 771, 772, 773, 774, 832, 833, 896, 897, 898, 960, 1408, 1412, 4800, 5248, 5504, 5829, 5830, 5831] [6, 7, 8, 9, 10, 11, 16, 17, 18, 19, 20, 21, 115] h
  refine fp_bd (fp_call (fr_X6_read _ _ ) (by decide) (by decide) q0) (fun _ _ qz1 => ?_)
  refine fp_ite ?_ ?_
  · refine fp_bd (fp_call (fr_X0_copyFrom _ _ _ ) (by decide) (by decide) qz1) (fun _ _ qz2 => ?_)
    refine fp_bd (fp_call (fr_X10_clear _ ) (by decide) (fun _ z => absurd z (by simp)) qz2) (fun _ _ qz3 => ?_)
    refine fp_bd (fp_call (fr_X2_clear _ ) (by decide) (fun _ z => absurd z (by simp)) qz3) (fun _ _ qz4 => ?_)
    refine fp_bd (fp_call (fr_X8_clear _ ) (fun _ z => absurd z (by simp)) (by decide) qz4) (fun _ _ qz5 => ?_)
    refine fp_bd (fp_call (fr_X11_forgetFindings _ ) (by decide) (fun _ z => absurd z (by simp)) qz5) (fun _ _ qz6 => ?_)
    exact fp_some qz6
  · exact fp_some qz1
theorem fr_X11_find (h : Hp) : FpX (FrX [] [] h) (F_X11_find h) := by
  unfold F_X11_find
  have q0 := FrX.refl [] [] h
  refine fp_bd (fp_call (fr_X10_wholeWord _ ) (fun _ z => absurd z (by simp)) (fun _ z => absurd z (by simp)) q0) (fun _ _ qz1 => ?_)
  refine fp_bd (fp_call (fr_X0_pictureNamed _ _ _ ) (fun _ z => absurd z (by simp)) (fun _ z => absurd z (by simp)) qz1) (fun _ _ qz2 => ?_)
  exact fp_some qz2
theorem fr_X11_rulesNow (h : Hp) : FpX (FrX [4800, 4801] [76, 77, 78, 79, 80, 81] h) (F_X11_rulesNow h) := by
  unfold F_X11_rulesNow
  have q0 := FrX.refl [4800, 4801] [76, 77, 78, 79, 80, 81] h
  refine fp_jn0 (fun _ qz1 => ?_) (fun _ kz2 => ?_)
  · exact fp_some qz1
  · refine fp_ite ?_ ?_
    · refine fp_bd (fp_call (fr_X7_read _ _ _ ) (by decide) (by decide) q0) (fun _ _ qz3 => ?_)
      exact kz2 _ qz3
    · exact kz2 _ q0
theorem fr_X11_firstSlot (a1 : Int64) (h : Hp) : FpX (FrX [] [] h) (F_X11_firstSlot a1 h) := by
  unfold F_X11_firstSlot
  have q0 := FrX.refl [] [] h
  refine fp_jn1 (fun _ _ qz1 => ?_) (fun _ kz2 => ?_)
  · exact fp_some qz1
  · refine fp_ite ?_ ?_
    · exact kz2 _ _ q0
    · refine fp_bd (fp_call (fr_J13_numberOfTrailingZeros_95d88 _ _ ) (fun _ z => absurd z (by simp)) (fun _ z => absurd z (by simp)) q0) (fun _ _ qz3 => ?_)
      exact kz2 _ _ qz3
theorem fr_X11_picture (a1 : Int32) (a2 : Int32) (h : Hp) : FpX (FrX [4800, 4801] [76, 77, 78, 79, 80, 81] h) (F_X11_picture a1 a2 h) := by
  unfold F_X11_picture
  have q0 := FrX.refl [4800, 4801] [76, 77, 78, 79, 80, 81] h
  refine fp_bd (fp_call (fr_X0_hasPicture _ _ _ ) (fun _ z => absurd z (by simp)) (fun _ z => absurd z (by simp)) q0) (fun _ _ qz1 => ?_)
  refine fp_ite ?_ ?_
  · exact fp_some qz1
  · refine fp_ite ?_ ?_
    · refine fp_bd (fp_call (fr_X0_wordLetters _ _ _ ) (fun _ z => absurd z (by simp)) (fun _ z => absurd z (by simp)) qz1) (fun _ _ qz2 => ?_)
      exact fp_some qz2
    · refine fp_ite ?_ ?_
      · refine fp_bd (fp_call (fr_X5_manyOf _ _ _ ) (fun _ z => absurd z (by simp)) (fun _ z => absurd z (by simp)) qz1) (fun _ _ qz3 => ?_)
        exact fp_some qz3
      · refine fp_ite ?_ ?_
        · refine fp_bd (fp_call (fr_X11_rulesNow _ ) (by decide) (by decide) qz1) (fun _ _ qz4 => ?_)
          refine fp_bd (fp_call (fr_X7_windowOf _ _ _ ) (fun _ z => absurd z (by simp)) (fun _ z => absurd z (by simp)) qz4) (fun _ _ qz5 => ?_)
          refine fp_bd (fp_call (fr_J13_bitCount_95d88 _ _ ) (fun _ z => absurd z (by simp)) (fun _ z => absurd z (by simp)) qz5) (fun _ _ qz6 => ?_)
          exact fp_some qz6
        · refine fp_ite ?_ ?_
          · refine fp_bd (fp_call (fr_X11_rulesNow _ ) (by decide) (by decide) qz1) (fun _ _ qz7 => ?_)
            refine fp_bd (fp_call (fr_X7_windowOf _ _ _ ) (fun _ z => absurd z (by simp)) (fun _ z => absurd z (by simp)) qz7) (fun _ _ qz8 => ?_)
            refine fp_bd (fp_call (fr_X11_firstSlot _ _ ) (fun _ z => absurd z (by simp)) (fun _ z => absurd z (by simp)) qz8) (fun _ _ qz9 => ?_)
            exact fp_some qz9
          · refine fp_ite ?_ ?_
            · refine fp_bd (fp_call (fr_X11_rulesNow _ ) (by decide) (by decide) qz1) (fun _ _ qz10 => ?_)
              refine fp_bd (fp_call (fr_X7_windowOf _ _ _ ) (fun _ z => absurd z (by simp)) (fun _ z => absurd z (by simp)) qz10) (fun _ _ qz11 => ?_)
              refine fp_bd (fp_call (fr_X11_lastSlot _ _ ) (fun _ z => absurd z (by simp)) (fun _ z => absurd z (by simp)) qz11) (fun _ _ qz12 => ?_)
              exact fp_some qz12
            · refine fp_ite ?_ ?_
              · refine fp_bd (fp_call (fr_X11_rulesNow _ ) (by decide) (by decide) qz1) (fun _ _ qz13 => ?_)
                refine fp_bd (fp_call (fr_X7_earlierThan _ _ _ ) (fun _ z => absurd z (by simp)) (fun _ z => absurd z (by simp)) qz13) (fun _ _ qz14 => ?_)
                refine fp_bd (fp_call (fr_J6_bitCount_0f7a4 _ _ ) (fun _ z => absurd z (by simp)) (fun _ z => absurd z (by simp)) qz14) (fun _ _ qz15 => ?_)
                exact fp_some qz15
              · exact fp_some qz1
theorem fr_X11_thing (a1 : Int32) (a2 : Int32) (h : Hp) : FpX (FrX [] [] h) (F_X11_thing a1 a2 h) := by
  unfold F_X11_thing
  have q0 := FrX.refl [] [] h
  refine fp_bd (fp_call (fr_X0_hasThing _ _ _ ) (fun _ z => absurd z (by simp)) (fun _ z => absurd z (by simp)) q0) (fun _ _ qz1 => ?_)
  refine fp_ite ?_ ?_
  · exact fp_some qz1
  · refine fp_ite ?_ ?_
    · refine fp_bd (fp_call (fr_X0_kindOf _ _ _ ) (fun _ z => absurd z (by simp)) (fun _ z => absurd z (by simp)) qz1) (fun _ _ qz2 => ?_)
      exact fp_some qz2
    · refine fp_ite ?_ ?_
      · refine fp_bd (fp_call (fr_X0_picturesSeeing _ _ _ _ ) (fun _ z => absurd z (by simp)) (fun _ z => absurd z (by simp)) qz1) (fun _ _ qz3 => ?_)
        exact fp_some qz3
      · refine fp_ite ?_ ?_
        · refine fp_bd (fp_call (fr_X0_picturesSeeing _ _ _ _ ) (fun _ z => absurd z (by simp)) (fun _ z => absurd z (by simp)) qz1) (fun _ _ qz4 => ?_)
          exact fp_some qz4
        · exact fp_some qz1
theorem fr_X11_piece (a1 : Int32) (a2 : Int32) (a3 : Int32) (h : Hp) : FpX (FrX [] [] h) (F_X11_piece a1 a2 a3 h) := by
  unfold F_X11_piece
  have q0 := FrX.refl [] [] h
  refine fp_bd (fp_call (fr_X0_hasPicture _ _ _ ) (fun _ z => absurd z (by simp)) (fun _ z => absurd z (by simp)) q0) (fun _ _ qz1 => ?_)
  refine fp_ite ?_ ?_
  · exact fp_some qz1
  · refine fp_bd (fp_call (fr_X0_hasMatter _ _ _ ) (fun _ z => absurd z (by simp)) (fun _ z => absurd z (by simp)) qz1) (fun _ _ qz2 => ?_)
    refine fp_ite ?_ ?_
    · exact fp_some qz2
    · refine fp_ite ?_ ?_
      · refine fp_bd (fp_call (fr_X5_valueOf _ _ _ _ ) (fun _ z => absurd z (by simp)) (fun _ z => absurd z (by simp)) qz2) (fun _ _ qz3 => ?_)
        exact fp_some qz3
      · refine fp_ite ?_ ?_
        · refine fp_bd (fp_call (fr_X5_slackOf _ _ _ _ ) (fun _ z => absurd z (by simp)) (fun _ z => absurd z (by simp)) qz2) (fun _ _ qz4 => ?_)
          exact fp_some qz4
        · refine fp_ite ?_ ?_
          · refine fp_bd (fp_call (fr_X5_numberOf _ _ _ _ ) (fun _ z => absurd z (by simp)) (fun _ z => absurd z (by simp)) qz2) (fun _ _ qz5 => ?_)
            exact fp_some qz5
          · exact fp_some qz2
theorem fr_X11_told (a1 : Int32) (a2 : Int32) (h : Hp) : FpX (FrX [] [] h) (F_X11_told a1 a2 h) := by
  unfold F_X11_told
  have q0 := FrX.refl [] [] h
  refine fp_ite ?_ ?_
  · exact fp_some q0
  · refine fp_ite ?_ ?_
    · refine fp_bd (fp_call (fr_X5_pictureOf _ _ _ ) (fun _ z => absurd z (by simp)) (fun _ z => absurd z (by simp)) q0) (fun _ _ qz1 => ?_)
      exact fp_some qz1
    · refine fp_ite ?_ ?_
      · refine fp_bd (fp_call (fr_X5_matterOf _ _ _ ) (fun _ z => absurd z (by simp)) (fun _ z => absurd z (by simp)) q0) (fun _ _ qz2 => ?_)
        exact fp_some qz2
      · exact fp_some q0
theorem fr_X11_sun (a1 : Int32) (a2 : Int32) (h : Hp) : FpX (FrX [] [] h) (F_X11_sun a1 a2 h) := by
  unfold F_X11_sun
  have q0 := FrX.refl [] [] h
  refine fp_jn0 (fun _ qz1 => ?_) (fun _ kz2 => ?_)
  · exact fp_some qz1
  · refine fp_ite ?_ ?_
    · exact kz2 _ q0
    · refine fp_ite ?_ ?_
      · refine fp_ite ?_ ?_
        · refine fp_bd (fp_call (fr_X9_pointAt _ _ _ ) (fun _ z => absurd z (by simp)) (fun _ z => absurd z (by simp)) q0) (fun _ _ qz3 => ?_)
          exact fp_some qz3
        · refine fp_ite ?_ ?_
          · refine fp_bd (fp_call (fr_X9_lengthAt _ _ _ ) (fun _ z => absurd z (by simp)) (fun _ z => absurd z (by simp)) q0) (fun _ _ qz4 => ?_)
            exact fp_some qz4
          · exact fp_some q0
      · exact kz2 _ q0
theorem fr_X11_tell (a1 : Int32) (a2 : Int32) (a3 : Int32) (a4 : Int32) (h : Hp) : FpX (FrX [320, 1408, 1409, 1600, 1920, 2240, 2560, 2880, 3200, 3520, 3840, 4800, 5248, 5504, 5829, 5830, 5831] [6, 7, 8, 9, 26, 27, 28, 29, 31, 32, 33, 34, 36, 37, 38, 39, 41, 42, 43, 44, 46, 47, 48, 49, 51, 52, 53, 54, 56, 57, 58, 59, 61, 62, 63, 64] h) (F_X11_tell a1 a2 a3 a4 h) := by
  unfold F_X11_tell
  have q0 := FrX.refl [320, 1408, 1409, 1600, 1920, 2240, 2560, 2880, 3200, 3520, 3840, 4800, 5248, 5504, 5829, 5830, 5831] [6, 7, 8, 9, 26, 27, 28, 29, 31, 32, 33, 34, 36, 37, 38, 39, 41, 42, 43, 44, 46, 47, 48, 49, 51, 52, 53, 54, 56, 57, 58, 59, 61, 62, 63, 64] h
  refine fp_bd (fp_call (fr_X0_hasPicture _ _ _ ) (fun _ z => absurd z (by simp)) (fun _ z => absurd z (by simp)) q0) (fun _ _ qz1 => ?_)
  refine fp_ite ?_ ?_
  · exact fp_some qz1
  · refine fp_bd (fp_call (fr_X0_takesValue _ _ _ _ ) (fun _ z => absurd z (by simp)) (fun _ z => absurd z (by simp)) qz1) (fun _ _ qz2 => ?_)
    refine fp_jn0 (fun _ qz3 => ?_) (fun _ kz4 => ?_)
    · exact fp_some qz3
    · refine fp_ite ?_ ?_
      · exact kz4 _ qz2
      · refine fp_ite ?_ ?_
        · exact kz4 _ qz2
        · refine fp_bd (fp_call (fr_X11_mostSlack _ _ ) (fun _ z => absurd z (by simp)) (fun _ z => absurd z (by simp)) qz2) (fun _ _ qz5 => ?_)
          refine fp_ite ?_ ?_
          · exact kz4 _ qz5
          · refine fp_bd (fp_call (fr_X2_remember _ _ ) (by decide) (by decide) qz5) (fun _ _ qz6 => ?_)
            refine fp_bd (fp_call (fr_X5_put _ _ _ _ _ _ ) (by decide) (by decide) qz6) (fun _ _ qz7 => ?_)
            refine fp_bd (fp_call (fr_X11_forgetFindings _ ) (by decide) (fun _ z => absurd z (by simp)) qz7) (fun _ _ qz8 => ?_)
            exact fp_some qz8
theorem fr_X11_point (a1 : Int32) (a2 : Int32) (a3 : Int32) (h : Hp) : FpX (FrX [320, 1408, 1409, 1600, 1920, 2240, 2560, 2880, 3200, 3520, 3840, 4800, 5248, 5504, 5829, 5830, 5831] [6, 7, 8, 9, 26, 27, 28, 29, 31, 32, 33, 34, 36, 37, 38, 39, 41, 42, 43, 44, 46, 47, 48, 49, 51, 52, 53, 54, 56, 57, 58, 59, 61, 62, 63, 64] h) (F_X11_point a1 a2 a3 h) := by
  unfold F_X11_point
  have q0 := FrX.refl [320, 1408, 1409, 1600, 1920, 2240, 2560, 2880, 3200, 3520, 3840, 4800, 5248, 5504, 5829, 5830, 5831] [6, 7, 8, 9, 26, 27, 28, 29, 31, 32, 33, 34, 36, 37, 38, 39, 41, 42, 43, 44, 46, 47, 48, 49, 51, 52, 53, 54, 56, 57, 58, 59, 61, 62, 63, 64] h
  refine fp_bd (fp_call (fr_X11_tell _ _ _ _ _ ) (by decide) (by decide) q0) (fun _ _ qz1 => ?_)
  exact fp_some qz1
theorem fr_X11_length (a1 : Int32) (a2 : Int32) (a3 : Int32) (h : Hp) : FpX (FrX [320, 1408, 1409, 1600, 1920, 2240, 2560, 2880, 3200, 3520, 3840, 4800, 5248, 5504, 5829, 5830, 5831] [6, 7, 8, 9, 26, 27, 28, 29, 31, 32, 33, 34, 36, 37, 38, 39, 41, 42, 43, 44, 46, 47, 48, 49, 51, 52, 53, 54, 56, 57, 58, 59, 61, 62, 63, 64] h) (F_X11_length a1 a2 a3 h) := by
  unfold F_X11_length
  have q0 := FrX.refl [320, 1408, 1409, 1600, 1920, 2240, 2560, 2880, 3200, 3520, 3840, 4800, 5248, 5504, 5829, 5830, 5831] [6, 7, 8, 9, 26, 27, 28, 29, 31, 32, 33, 34, 36, 37, 38, 39, 41, 42, 43, 44, 46, 47, 48, 49, 51, 52, 53, 54, 56, 57, 58, 59, 61, 62, 63, 64] h
  refine fp_bd (fp_call (fr_X11_tell _ _ _ _ _ ) (by decide) (by decide) q0) (fun _ _ qz1 => ?_)
  exact fp_some qz1
theorem fr_X11_see (a1 : Int32) (a2 : Int32) (a3 : Int32) (h : Hp) : FpX (FrX [320, 1408, 1409, 1600, 1920, 2240, 2560, 2880, 3200, 3520, 3840, 4800, 5248, 5504, 5829, 5830, 5831] [6, 7, 8, 9, 26, 27, 28, 29, 31, 32, 33, 34, 36, 37, 38, 39, 41, 42, 43, 44, 46, 47, 48, 49, 51, 52, 53, 54, 56, 57, 58, 59, 61, 62, 63, 64] h) (F_X11_see a1 a2 a3 h) := by
  unfold F_X11_see
  have q0 := FrX.refl [320, 1408, 1409, 1600, 1920, 2240, 2560, 2880, 3200, 3520, 3840, 4800, 5248, 5504, 5829, 5830, 5831] [6, 7, 8, 9, 26, 27, 28, 29, 31, 32, 33, 34, 36, 37, 38, 39, 41, 42, 43, 44, 46, 47, 48, 49, 51, 52, 53, 54, 56, 57, 58, 59, 61, 62, 63, 64] h
  refine fp_bd (fp_call (fr_X0_hasThing _ _ _ ) (fun _ z => absurd z (by simp)) (fun _ z => absurd z (by simp)) q0) (fun _ _ qz1 => ?_)
  refine fp_ite ?_ ?_
  · exact fp_some qz1
  · refine fp_bd (fp_call (fr_X11_tell _ _ _ _ _ ) (by decide) (by decide) qz1) (fun _ _ qz2 => ?_)
    exact fp_some qz2
theorem fr_X11_strike (a1 : Int32) (a2 : Int32) (h : Hp) : FpX (FrX [320, 1408, 1409, 1600, 1920, 2240, 2560, 2880, 3200, 3520, 3840, 4800, 5248, 5504, 5829, 5830, 5831] [6, 7, 8, 9, 26, 27, 28, 29, 31, 32, 33, 34, 36, 37, 38, 39, 41, 42, 43, 44, 46, 47, 48, 49, 51, 52, 53, 54, 56, 57, 58, 59, 61, 62, 63, 64] h) (F_X11_strike a1 a2 h) := by
  unfold F_X11_strike
  have q0 := FrX.refl [320, 1408, 1409, 1600, 1920, 2240, 2560, 2880, 3200, 3520, 3840, 4800, 5248, 5504, 5829, 5830, 5831] [6, 7, 8, 9, 26, 27, 28, 29, 31, 32, 33, 34, 36, 37, 38, 39, 41, 42, 43, 44, 46, 47, 48, 49, 51, 52, 53, 54, 56, 57, 58, 59, 61, 62, 63, 64] h
  refine fp_bd (fp_call (fr_X0_hasPicture _ _ _ ) (fun _ z => absurd z (by simp)) (fun _ z => absurd z (by simp)) q0) (fun _ _ qz1 => ?_)
  refine fp_ite ?_ ?_
  · exact fp_some qz1
  · refine fp_bd (fp_call (fr_X0_hasMatter _ _ _ ) (fun _ z => absurd z (by simp)) (fun _ z => absurd z (by simp)) qz1) (fun _ _ qz2 => ?_)
    refine fp_ite ?_ ?_
    · exact fp_some qz2
    · refine fp_bd (fp_call (fr_X5_numberOf _ _ _ _ ) (fun _ z => absurd z (by simp)) (fun _ z => absurd z (by simp)) qz2) (fun _ _ qz3 => ?_)
      refine fp_ite ?_ ?_
      · exact fp_some qz3
      · refine fp_bd (fp_call (fr_X2_remember _ _ ) (by decide) (by decide) qz3) (fun _ _ qz4 => ?_)
        refine fp_bd (fp_call (fr_X5_remove _ _ _ _ ) (by decide) (by decide) qz4) (fun _ _ qz5 => ?_)
        refine fp_bd (fp_call (fr_X11_forgetFindings _ ) (by decide) (fun _ z => absurd z (by simp)) qz5) (fun _ _ qz6 => ?_)
        exact fp_some qz6
theorem fr_X11_undo (h : Hp) : FpX (FrX [320, 1408, 4800, 5248, 5504, 5829, 5830, 5831] [6, 7, 8, 9] h) (F_X11_undo h) := by
  unfold F_X11_undo
  have q0 := FrX.refl [320, 1408, 4800, 5248, 5504, 5829, 5830, 5831] [6, 7, 8, 9] h
  refine fp_bd (fp_call (fr_X2_restoreLatest _ _ ) (by decide) (by decide) q0) (fun _ _ qz1 => ?_)
  refine fp_ite ?_ ?_
  · exact fp_some qz1
  · refine fp_bd (fp_call (fr_X11_forgetFindings _ ) (by decide) (fun _ z => absurd z (by simp)) qz1) (fun _ _ qz2 => ?_)
    exact fp_some qz2
theorem fr_X11_keep (a1 : Int32) (h : Hp) : FpX (FrX [1412, 4160, 4480] [66, 67, 68, 69, 71, 72, 73, 74] h) (F_X11_keep a1 h) := by
  unfold F_X11_keep
  have q0 := FrX.refl [1412, 4160, 4480] [66, 67, 68, 69, 71, 72, 73, 74] h
  refine fp_jn0 (fun _ qz1 => ?_) (fun _ kz2 => ?_)
  · exact fp_some qz1
  · refine fp_ite ?_ ?_
    · exact kz2 _ q0
    · refine fp_ite ?_ ?_
      · refine fp_bd (fp_call (fr_X2_store _ _ _ ) (by decide) (by decide) q0) (fun _ _ qz3 => ?_)
        exact fp_some qz3
      · exact kz2 _ q0
theorem fr_X11_back (a1 : Int32) (h : Hp) : FpX (FrX [320, 1408, 4800, 5248, 5504, 5829, 5830, 5831] [6, 7, 8, 9] h) (F_X11_back a1 h) := by
  unfold F_X11_back
  have q0 := FrX.refl [320, 1408, 4800, 5248, 5504, 5829, 5830, 5831] [6, 7, 8, 9] h
  refine fp_jn0 (fun _ qz1 => ?_) (fun _ kz2 => ?_)
  · exact fp_some qz1
  · refine fp_ite ?_ ?_
    · exact kz2 _ q0
    · refine fp_ite ?_ ?_
      · refine fp_bd (fp_call (fr_X2_restoreKept _ _ _ ) (by decide) (by decide) q0) (fun _ _ qz3 => ?_)
        refine fp_ite ?_ ?_
        · exact fp_some qz3
        · refine fp_bd (fp_call (fr_X11_forgetFindings _ ) (by decide) (fun _ z => absurd z (by simp)) qz3) (fun _ _ qz4 => ?_)
          exact fp_some qz4
      · exact kz2 _ q0
theorem fr_X11_areTwoPictures (a1 : Int32) (a2 : Int32) (h : Hp) : FpX (FrX [] [] h) (F_X11_areTwoPictures a1 a2 h) := by
  unfold F_X11_areTwoPictures
  have q0 := FrX.refl [] [] h
  refine fp_bd (fp_call (fr_X0_hasPicture _ _ _ ) (fun _ z => absurd z (by simp)) (fun _ z => absurd z (by simp)) q0) (fun _ _ qz1 => ?_)
  refine fp_jn1 (fun _ _ qz2 => ?_) (fun _ kz3 => ?_)
  · refine fp_gd ?_
    exact fp_some qz2
  · refine fp_jn0 (fun _ qz4 => ?_) (fun _ kz5 => ?_)
    · exact kz3 _ _ qz4
    · refine fp_ite ?_ ?_
      · exact kz5 _ qz1
      · refine fp_bd (fp_call (fr_X0_hasPicture _ _ _ ) (fun _ z => absurd z (by simp)) (fun _ z => absurd z (by simp)) qz1) (fun _ _ qz6 => ?_)
        refine fp_ite ?_ ?_
        · exact kz5 _ qz6
        · refine fp_ite ?_ ?_
          · exact kz5 _ qz6
          · exact kz3 _ _ qz6
theorem fr_X11_before (a1 : Int32) (a2 : Int32) (h : Hp) : FpX (FrX [4800, 4801] [76, 77, 78, 79, 80, 81] h) (F_X11_before a1 a2 h) := by
  unfold F_X11_before
  have q0 := FrX.refl [4800, 4801] [76, 77, 78, 79, 80, 81] h
  refine fp_bd (fp_call (fr_X11_areTwoPictures _ _ _ ) (fun _ z => absurd z (by simp)) (fun _ z => absurd z (by simp)) q0) (fun _ _ qz1 => ?_)
  refine fp_ite ?_ ?_
  · exact fp_some qz1
  · refine fp_bd (fp_call (fr_X11_rulesNow _ ) (by decide) (by decide) qz1) (fun _ _ qz2 => ?_)
    refine fp_bd (fp_call (fr_X7_earlierThan _ _ _ ) (fun _ z => absurd z (by simp)) (fun _ z => absurd z (by simp)) qz2) (fun _ _ qz3 => ?_)
    refine fp_bd (fp_call (fr_X11_hasBit _ _ _ ) (fun _ z => absurd z (by simp)) (fun _ z => absurd z (by simp)) qz3) (fun _ _ qz4 => ?_)
    refine fp_jn1 (fun _ _ qz5 => ?_) (fun _ kz6 => ?_)
    · exact fp_some qz5
    · refine fp_ite ?_ ?_
      · exact kz6 _ _ qz4
      · exact kz6 _ _ qz4
theorem fr_X11_ordersNow (h : Hp) : FpX (FrX [4800, 4801, 5248, 5249, 5250] [76, 77, 78, 79, 80, 81, 83, 84, 85] h) (F_X11_ordersNow h) := by
  unfold F_X11_ordersNow
  have q0 := FrX.refl [4800, 4801, 5248, 5249, 5250] [76, 77, 78, 79, 80, 81, 83, 84, 85] h
  refine fp_jn0 (fun _ qz1 => ?_) (fun _ kz2 => ?_)
  · exact fp_some qz1
  · refine fp_ite ?_ ?_
    · refine fp_bd (fp_call (fr_X11_rulesNow _ ) (by decide) (by decide) q0) (fun _ _ qz3 => ?_)
      refine fp_bd (fp_call (fr_X4_seek _ _ _ ) (by decide) (by decide) qz3) (fun _ _ qz4 => ?_)
      exact kz2 _ qz4
    · exact kz2 _ q0
theorem fr_X11_orders (h : Hp) : FpX (FrX [4800, 4801, 5248, 5249, 5250] [76, 77, 78, 79, 80, 81, 83, 84, 85] h) (F_X11_orders h) := by
  unfold F_X11_orders
  have q0 := FrX.refl [4800, 4801, 5248, 5249, 5250] [76, 77, 78, 79, 80, 81, 83, 84, 85] h
  refine fp_bd (fp_call (fr_X11_ordersNow _ ) (by decide) (by decide) q0) (fun _ _ qz1 => ?_)
  exact fp_some qz1
theorem fr_X11_order (a1 : Int32) (a2 : Int32) (h : Hp) : FpX (FrX [4800, 4801, 5248, 5249, 5250] [76, 77, 78, 79, 80, 81, 83, 84, 85] h) (F_X11_order a1 a2 h) := by
  unfold F_X11_order
  have q0 := FrX.refl [4800, 4801, 5248, 5249, 5250] [76, 77, 78, 79, 80, 81, 83, 84, 85] h
  refine fp_jn0 (fun _ qz1 => ?_) (fun _ kz2 => ?_)
  · exact fp_some qz1
  · refine fp_ite ?_ ?_
    · exact kz2 _ q0
    · refine fp_ite ?_ ?_
      · exact kz2 _ q0
      · refine fp_bd (fp_call (fr_X11_ordersNow _ ) (by decide) (by decide) q0) (fun _ _ qz3 => ?_)
        refine fp_bd (fp_call (fr_X4_pictureAt _ _ _ _ ) (fun _ z => absurd z (by simp)) (fun _ z => absurd z (by simp)) qz3) (fun _ _ qz4 => ?_)
        exact fp_some qz4
theorem fr_X11_hoursNow (h : Hp) : FpX (FrX [4800, 4801, 5504] [76, 77, 78, 79, 80, 81, 87, 88, 89, 90] h) (F_X11_hoursNow h) := by
  unfold F_X11_hoursNow
  have q0 := FrX.refl [4800, 4801, 5504] [76, 77, 78, 79, 80, 81, 87, 88, 89, 90] h
  refine fp_jn0 (fun _ qz1 => ?_) (fun _ kz2 => ?_)
  · exact fp_some qz1
  · refine fp_ite ?_ ?_
    · refine fp_bd (fp_call (fr_X11_rulesNow _ ) (by decide) (by decide) q0) (fun _ _ qz3 => ?_)
      refine fp_bd (fp_call (fr_X3_seek _ _ _ ) (by decide) (by decide) qz3) (fun _ _ qz4 => ?_)
      exact kz2 _ qz4
    · exact kz2 _ q0
theorem fr_X11_place (a1 : Int32) (a2 : Int32) (h : Hp) : FpX (FrX [4800, 4801, 5504] [76, 77, 78, 79, 80, 81, 87, 88, 89, 90] h) (F_X11_place a1 a2 h) := by
  unfold F_X11_place
  have q0 := FrX.refl [4800, 4801, 5504] [76, 77, 78, 79, 80, 81, 87, 88, 89, 90] h
  refine fp_bd (fp_call (fr_X0_hasPicture _ _ _ ) (fun _ z => absurd z (by simp)) (fun _ z => absurd z (by simp)) q0) (fun _ _ qz1 => ?_)
  refine fp_ite ?_ ?_
  · exact fp_some qz1
  · refine fp_jn0 (fun _ qz2 => ?_) (fun _ kz3 => ?_)
    · exact fp_some qz2
    · refine fp_ite ?_ ?_
      · exact kz3 _ qz1
      · refine fp_ite ?_ ?_
        · exact kz3 _ qz1
        · refine fp_bd (fp_call (fr_X11_hoursNow _ ) (by decide) (by decide) qz1) (fun _ _ qz4 => ?_)
          refine fp_bd (fp_call (fr_X3_placesOf _ _ _ ) (fun _ z => absurd z (by simp)) (fun _ z => absurd z (by simp)) qz4) (fun _ _ qz5 => ?_)
          refine fp_ite ?_ ?_
          · exact fp_some qz5
          · refine fp_jn1 (fun _ _ qz6 => ?_) (fun _ kz7 => ?_)
            · exact fp_some qz6
            · refine fp_ite ?_ ?_
              · refine fp_bd (fp_call (fr_X11_firstSlot _ _ ) (fun _ z => absurd z (by simp)) (fun _ z => absurd z (by simp)) qz5) (fun _ _ qz8 => ?_)
                exact kz7 _ _ qz8
              · refine fp_bd (fp_call (fr_X11_lastSlot _ _ ) (fun _ z => absurd z (by simp)) (fun _ z => absurd z (by simp)) qz5) (fun _ _ qz9 => ?_)
                exact kz7 _ _ qz9
theorem fr_X11_often (a1 : Int32) (a2 : Int32) (h : Hp) : FpX (FrX [4800, 4801, 6273, 6720, 6721, 6722] [76, 77, 78, 79, 80, 81, 99, 100, 102, 103, 106, 107, 108] h) (F_X11_often a1 a2 h) := by
  unfold F_X11_often
  have q0 := FrX.refl [4800, 4801, 6273, 6720, 6721, 6722] [76, 77, 78, 79, 80, 81, 99, 100, 102, 103, 106, 107, 108] h
  refine fp_bd (fp_call (fr_X11_areTwoPictures _ _ _ ) (fun _ z => absurd z (by simp)) (fun _ z => absurd z (by simp)) q0) (fun _ _ qz1 => ?_)
  refine fp_ite ?_ ?_
  · exact fp_some qz1
  · refine fp_bd (fp_call (fr_X11_rulesNow _ ) (by decide) (by decide) qz1) (fun _ _ qz2 => ?_)
    refine fp_bd (fp_call (fr_X1_ordersWithAhead _ _ _ _ ) (by decide) (by decide) qz2) (fun _ _ qz3 => ?_)
    exact fp_some qz3
theorem fr_X11_left (a1 : Int32) (a2 : Int32) (h : Hp) : FpX (FrX [4800, 4801, 5504] [76, 77, 78, 79, 80, 81, 87, 88, 89, 90] h) (F_X11_left a1 a2 h) := by
  unfold F_X11_left
  have q0 := FrX.refl [4800, 4801, 5504] [76, 77, 78, 79, 80, 81, 87, 88, 89, 90] h
  refine fp_bd (fp_call (fr_X0_hasPicture _ _ _ ) (fun _ z => absurd z (by simp)) (fun _ z => absurd z (by simp)) q0) (fun _ _ qz1 => ?_)
  refine fp_ite ?_ ?_
  · exact fp_some qz1
  · refine fp_ite ?_ ?_
    · refine fp_bd (fp_call (fr_X11_hoursNow _ ) (by decide) (by decide) qz1) (fun _ _ qz2 => ?_)
      refine fp_bd (fp_call (fr_X3_leftTo _ _ _ ) (fun _ z => absurd z (by simp)) (fun _ z => absurd z (by simp)) qz2) (fun _ _ qz3 => ?_)
      refine fp_bd (fp_call (fr_J13_bitCount_95d88 _ _ ) (fun _ z => absurd z (by simp)) (fun _ z => absurd z (by simp)) qz3) (fun _ _ qz4 => ?_)
      exact fp_some qz4
    · refine fp_ite ?_ ?_
      · refine fp_bd (fp_call (fr_X11_hoursNow _ ) (by decide) (by decide) qz1) (fun _ _ qz5 => ?_)
        refine fp_bd (fp_call (fr_X3_leftTo _ _ _ ) (fun _ z => absurd z (by simp)) (fun _ z => absurd z (by simp)) qz5) (fun _ _ qz6 => ?_)
        refine fp_bd (fp_call (fr_X11_firstSlot _ _ ) (fun _ z => absurd z (by simp)) (fun _ z => absurd z (by simp)) qz6) (fun _ _ qz7 => ?_)
        exact fp_some qz7
      · refine fp_ite ?_ ?_
        · refine fp_bd (fp_call (fr_X11_hoursNow _ ) (by decide) (by decide) qz1) (fun _ _ qz8 => ?_)
          refine fp_bd (fp_call (fr_X3_leftTo _ _ _ ) (fun _ z => absurd z (by simp)) (fun _ z => absurd z (by simp)) qz8) (fun _ _ qz9 => ?_)
          refine fp_bd (fp_call (fr_X11_lastSlot _ _ ) (fun _ z => absurd z (by simp)) (fun _ z => absurd z (by simp)) qz9) (fun _ _ qz10 => ?_)
          exact fp_some qz10
        · exact fp_some qz1
theorem fr_X11_knot (a1 : Int32) (h : Hp) : FpX (FrX [4800, 4801, 5828, 5829] [76, 77, 78, 79, 80, 81, 110] h) (F_X11_knot a1 h) := by
  unfold F_X11_knot
  have q0 := FrX.refl [4800, 4801, 5828, 5829] [76, 77, 78, 79, 80, 81, 110] h
  refine fp_jn0 (fun _ qz1 => ?_) (fun _ kz2 => ?_)
  · exact fp_some qz1
  · refine fp_ite ?_ ?_
    · exact kz2 _ q0
    · refine fp_ite ?_ ?_
      · exact kz2 _ q0
      · refine fp_bd (fp_call (fr_X11_rulesNow _ ) (by decide) (by decide) q0) (fun _ _ qz3 => ?_)
        refine fp_bd (fp_call (fr_X1_knotOf _ _ ) (by decide) (by decide) qz3) (fun _ _ qz4 => ?_)
        refine fp_ite ?_ ?_
        · exact fp_some qz4
        · refine fp_jn1 (fun _ _ qz5 => ?_) (fun _ kz6 => ?_)
          · exact fp_some qz5
          · refine fp_ite ?_ ?_
            · exact kz6 _ _ qz4
            · refine fp_bd (fp_call (fr_J6_bitCount_0f7a4 _ _ ) (fun _ z => absurd z (by simp)) (fun _ z => absurd z (by simp)) qz4) (fun _ _ qz7 => ?_)
              exact kz6 _ _ qz7
theorem fr_X11_loose (a1 : Int32) (h : Hp) : FpX (FrX [4800, 4801, 5824, 5830, 5952, 6273] [76, 77, 78, 79, 80, 81, 92, 94, 95, 96, 97, 99, 100, 102, 103, 104, 110] h) (F_X11_loose a1 h) := by
  unfold F_X11_loose
  have q0 := FrX.refl [4800, 4801, 5824, 5830, 5952, 6273] [76, 77, 78, 79, 80, 81, 92, 94, 95, 96, 97, 99, 100, 102, 103, 104, 110] h
  refine fp_ite ?_ ?_
  · exact fp_some q0
  · refine fp_bd (fp_call (fr_X11_rulesNow _ ) (by decide) (by decide) q0) (fun _ _ qz1 => ?_)
    refine fp_bd (fp_call (fr_X1_seekLoose _ _ _ ) (by decide) (by decide) qz1) (fun _ _ qz2 => ?_)
    refine fp_jn1 (fun _ _ qz3 => ?_) (fun _ kz4 => ?_)
    · exact fp_some qz3
    · refine fp_ite ?_ ?_
      · exact kz4 _ _ qz2
      · refine fp_bd (fp_call (fr_X1_looseNumber _ _ ) (fun _ z => absurd z (by simp)) (fun _ z => absurd z (by simp)) qz2) (fun _ _ qz5 => ?_)
        exact kz4 _ _ qz5
theorem fr_X11_would (a1 : Int32) (a2 : Int32) (a3 : Int32) (h : Hp) : FpX (FrX [4800, 4801, 5952, 6273, 6720, 6721, 6722] [76, 77, 78, 79, 80, 81, 94, 95, 96, 97, 99, 100, 102, 103, 104, 106, 107, 108] h) (F_X11_would a1 a2 a3 h) := by
  unfold F_X11_would
  have q0 := FrX.refl [4800, 4801, 5952, 6273, 6720, 6721, 6722] [76, 77, 78, 79, 80, 81, 94, 95, 96, 97, 99, 100, 102, 103, 104, 106, 107, 108] h
  refine fp_bd (fp_call (fr_X0_hasPicture _ _ _ ) (fun _ z => absurd z (by simp)) (fun _ z => absurd z (by simp)) q0) (fun _ _ qz1 => ?_)
  refine fp_ite ?_ ?_
  · exact fp_some qz1
  · refine fp_bd (fp_call (fr_X0_takesValue _ _ _ _ ) (fun _ z => absurd z (by simp)) (fun _ z => absurd z (by simp)) qz1) (fun _ _ qz2 => ?_)
    refine fp_ite ?_ ?_
    · exact fp_some qz2
    · refine fp_bd (fp_call (fr_X11_rulesNow _ ) (by decide) (by decide) qz2) (fun _ _ qz3 => ?_)
      refine fp_bd (fp_call (fr_X1_ordersWithPiece _ _ _ _ _ _ ) (by decide) (by decide) qz3) (fun _ _ qz4 => ?_)
      exact fp_some qz4
theorem fr_X11_ask (a1 : Int32) (h : Hp) : FpX (FrX [4800, 4801, 5248, 5249, 5250, 5825, 5826, 5831, 5952, 6273, 6720, 6721, 6722] [76, 77, 78, 79, 80, 81, 83, 84, 85, 94, 95, 96, 97, 99, 100, 102, 103, 104, 106, 107, 108] h) (F_X11_ask a1 h) := by
  unfold F_X11_ask
  have q0 := FrX.refl [4800, 4801, 5248, 5249, 5250, 5825, 5826, 5831, 5952, 6273, 6720, 6721, 6722] [76, 77, 78, 79, 80, 81, 83, 84, 85, 94, 95, 96, 97, 99, 100, 102, 103, 104, 106, 107, 108] h
  refine fp_jn0 (fun _ qz1 => ?_) (fun _ kz2 => ?_)
  · exact fp_some qz1
  · refine fp_ite ?_ ?_
    · exact kz2 _ q0
    · refine fp_ite ?_ ?_
      · exact kz2 _ q0
      · refine fp_bd (fp_call (fr_X11_rulesNow _ ) (by decide) (by decide) q0) (fun _ _ qz3 => ?_)
        refine fp_bd (fp_call (fr_X11_ordersNow _ ) (by decide) (by decide) qz3) (fun _ _ qz4 => ?_)
        refine fp_bd (fp_call (fr_X1_seekAsk _ _ _ _ ) (by decide) (by decide) qz4) (fun _ _ qz5 => ?_)
        refine fp_jn1 (fun _ _ qz6 => ?_) (fun _ kz7 => ?_)
        · exact fp_some qz6
        · refine fp_ite ?_ ?_
          · exact kz7 _ _ qz5
          · exact kz7 _ _ qz5
theorem fr_X11_strip (a1 : Int32) (a2 : Int32) (h : Hp) : FpX (FrX [] [115, 116] h) (F_X11_strip a1 a2 h) := by
  unfold F_X11_strip
  have q0 := FrX.refl [] [115, 116] h
  refine fp_bd (fp_call (fr_X8_has _ _ ) (fun _ z => absurd z (by simp)) (fun _ z => absurd z (by simp)) q0) (fun _ _ qz1 => ?_)
  refine fp_ite ?_ ?_
  · exact fp_some qz1
  · refine fp_ite ?_ ?_
    · exact fp_some qz1
    · refine fp_ite ?_ ?_
      · exact fp_some qz1
      · refine fp_bd (fp_call (fr_X8_renew _ _ _ ) (fun _ z => absurd z (by simp)) (by decide) qz1) (fun _ _ qz2 => ?_)
        exact fp_some qz2
theorem fr_X11_set (a1 : Int32) (a2 : Int32) (a3 : Int32) (h : Hp) : FpX (FrX [] [116] h) (F_X11_set a1 a2 a3 h) := by
  unfold F_X11_set
  have q0 := FrX.refl [] [116] h
  refine fp_bd (fp_call (fr_X8_has _ _ ) (fun _ z => absurd z (by simp)) (fun _ z => absurd z (by simp)) q0) (fun _ _ qz1 => ?_)
  refine fp_ite ?_ ?_
  · exact fp_some qz1
  · refine fp_bd (fp_call (fr_X8_isMissing _ _ ) (fun _ z => absurd z (by simp)) (fun _ z => absurd z (by simp)) qz1) (fun _ _ qz2 => ?_)
    refine fp_ite ?_ ?_
    · refine fp_bd (fp_call (fr_X8_hasPlace _ _ _ ) (fun _ z => absurd z (by simp)) (fun _ z => absurd z (by simp)) qz2) (fun _ _ qz3 => ?_)
      refine fp_ite ?_ ?_
      · exact fp_some qz3
      · refine fp_bd (fp_call (fr_X8_put _ _ _ _ ) (fun _ z => absurd z (by simp)) (by decide) qz3) (fun _ _ qz4 => ?_)
        exact fp_some qz4
    · exact fp_some qz2
theorem fr_X11_load (a1 : Int32) (a2 : Int32) (a3 : Int32) (a4 : Int32) (h : Hp) : FpX (FrX [4800, 4801, 5504] [76, 77, 78, 79, 80, 81, 87, 88, 89, 90, 116] h) (F_X11_load a1 a2 a3 a4 h) := by
  unfold F_X11_load
  have q0 := FrX.refl [4800, 4801, 5504] [76, 77, 78, 79, 80, 81, 87, 88, 89, 90, 116] h
  refine fp_bd (fp_call (fr_X8_has _ _ ) (fun _ z => absurd z (by simp)) (fun _ z => absurd z (by simp)) q0) (fun _ _ qz1 => ?_)
  refine fp_jn0 (fun _ qz2 => ?_) (fun _ kz3 => ?_)
  · exact fp_some qz2
  · refine fp_ite ?_ ?_
    · exact kz3 _ qz1
    · refine fp_bd (fp_call (fr_X0_hasPicture _ _ _ ) (fun _ z => absurd z (by simp)) (fun _ z => absurd z (by simp)) qz1) (fun _ _ qz4 => ?_)
      refine fp_ite ?_ ?_
      · exact kz3 _ qz4
      · refine fp_jn0 (fun _ qz5 => ?_) (fun _ kz6 => ?_)
        · exact fp_some qz5
        · refine fp_ite ?_ ?_
          · exact kz6 _ qz4
          · refine fp_ite ?_ ?_
            · exact kz6 _ qz4
            · refine fp_bd (fp_call (fr_X8_isMissing _ _ ) (fun _ z => absurd z (by simp)) (fun _ z => absurd z (by simp)) qz4) (fun _ _ qz7 => ?_)
              refine fp_ite ?_ ?_
              · refine fp_bd (fp_call (fr_X8_hasPlace _ _ _ ) (fun _ z => absurd z (by simp)) (fun _ z => absurd z (by simp)) qz7) (fun _ _ qz8 => ?_)
                refine fp_ite ?_ ?_
                · exact fp_some qz8
                · refine fp_jn1 (fun _ _ qz9 => ?_) (fun _ kz10 => ?_)
                  · refine fp_bd (fp_call (fr_X8_put _ _ _ _ ) (fun _ z => absurd z (by simp)) (by decide) qz9) (fun _ _ qz11 => ?_)
                    refine fp_bd (fp_call (fr_J13_bitCount_95d88 _ _ ) (fun _ z => absurd z (by simp)) (fun _ z => absurd z (by simp)) qz11) (fun _ _ qz12 => ?_)
                    exact fp_some qz12
                  · refine fp_ite ?_ ?_
                    · refine fp_bd (fp_call (fr_X11_rulesNow _ ) (by decide) (by decide) qz8) (fun _ _ qz13 => ?_)
                      refine fp_bd (fp_call (fr_X7_windowOf _ _ _ ) (fun _ z => absurd z (by simp)) (fun _ z => absurd z (by simp)) qz13) (fun _ _ qz14 => ?_)
                      exact kz10 _ _ qz14
                    · refine fp_bd (fp_call (fr_X11_hoursNow _ ) (by decide) (by decide) qz8) (fun _ _ qz15 => ?_)
                      refine fp_bd (fp_call (fr_X3_leftTo _ _ _ ) (fun _ z => absurd z (by simp)) (fun _ z => absurd z (by simp)) qz15) (fun _ _ qz16 => ?_)
                      exact kz10 _ _ qz16
              · exact fp_some qz7
theorem fr_X11_work (a1 : Int32) (a2 : Int32) (a3 : Int32) (a4 : Int32) (h : Hp) : FpX (FrX [7296] [116] h) (F_X11_work a1 a2 a3 a4 h) := by
  unfold F_X11_work
  have q0 := FrX.refl [7296] [116] h
  refine fp_bd (fp_call (fr_X8_has _ _ ) (fun _ z => absurd z (by simp)) (fun _ z => absurd z (by simp)) q0) (fun _ _ qz1 => ?_)
  refine fp_ite ?_ ?_
  · exact fp_some qz1
  · refine fp_jn0 (fun _ qz2 => ?_) (fun _ kz3 => ?_)
    · exact fp_some qz2
    · refine fp_ite ?_ ?_
      · exact kz3 _ qz1
      · refine fp_ite ?_ ?_
        · exact kz3 _ qz1
        · refine fp_jn1 (fun _ _ qz4 => ?_) (fun _ kz5 => ?_)
          · refine fp_jn0 (fun _ qz6 => ?_) (fun _ kz7 => ?_)
            · refine fp_bd (fp_call (fr_X8_isMissing _ _ ) (fun _ z => absurd z (by simp)) (fun _ z => absurd z (by simp)) qz6) (fun _ _ qz8 => ?_)
              refine fp_ite ?_ ?_
              · refine fp_bd (fp_call (fr_X8_hasPlace _ _ _ ) (fun _ z => absurd z (by simp)) (fun _ z => absurd z (by simp)) qz8) (fun _ _ qz9 => ?_)
                refine fp_ite ?_ ?_
                · exact fp_some qz9
                · refine fp_jn0 (fun _ qz10 => ?_) (fun _ kz11 => ?_)
                  · refine fp_bd (fp_call (fr_X8_change _ _ _ _ _ ) (by decide) (by decide) qz10) (fun _ _ qz12 => ?_)
                    exact fp_some qz12
                  · refine fp_ite ?_ ?_
                    · refine fp_bd (fp_call (fr_X8_hasPlace _ _ _ ) (fun _ z => absurd z (by simp)) (fun _ z => absurd z (by simp)) qz9) (fun _ _ qz13 => ?_)
                      refine fp_ite ?_ ?_
                      · exact fp_some qz13
                      · exact kz11 _ qz13
                    · exact kz11 _ qz9
              · exact fp_some qz8
            · refine fp_ite ?_ ?_
              · exact kz7 _ qz4
              · refine fp_jn0 (fun _ qz14 => ?_) (fun _ kz15 => ?_)
                · exact fp_some qz14
                · refine fp_ite ?_ ?_
                  · exact kz15 _ qz4
                  · refine fp_ite ?_ ?_
                    · exact kz15 _ qz4
                    · exact kz7 _ qz4
          · refine fp_ite ?_ ?_
            · exact kz5 _ _ qz1
            · exact kz5 _ _ qz1
theorem fr_X11_bits (a1 : Int32) (a2 : Int32) (h : Hp) : FpX (FrX [] [] h) (F_X11_bits a1 a2 h) := by
  unfold F_X11_bits
  have q0 := FrX.refl [] [] h
  refine fp_bd (fp_call (fr_X8_has _ _ ) (fun _ z => absurd z (by simp)) (fun _ z => absurd z (by simp)) q0) (fun _ _ qz1 => ?_)
  refine fp_ite ?_ ?_
  · exact fp_some qz1
  · refine fp_bd (fp_call (fr_X8_isMissing _ _ ) (fun _ z => absurd z (by simp)) (fun _ z => absurd z (by simp)) qz1) (fun _ _ qz2 => ?_)
    refine fp_ite ?_ ?_
    · refine fp_bd (fp_call (fr_X8_hasPlace _ _ _ ) (fun _ z => absurd z (by simp)) (fun _ z => absurd z (by simp)) qz2) (fun _ _ qz3 => ?_)
      refine fp_ite ?_ ?_
      · exact fp_some qz3
      · refine fp_bd (fp_call (fr_X8_at _ _ _ ) (fun _ z => absurd z (by simp)) (fun _ z => absurd z (by simp)) qz3) (fun _ _ qz4 => ?_)
        refine fp_bd (fp_call (fr_J13_bitCount_95d88 _ _ ) (fun _ z => absurd z (by simp)) (fun _ z => absurd z (by simp)) qz4) (fun _ _ qz5 => ?_)
        exact fp_some qz5
    · exact fp_some qz2
theorem fr_X11_sum (a1 : Int32) (h : Hp) : FpX (FrX [7296] [] h) (F_X11_sum a1 h) := by
  unfold F_X11_sum
  have q0 := FrX.refl [7296] [] h
  refine fp_bd (fp_call (fr_X8_has _ _ ) (fun _ z => absurd z (by simp)) (fun _ z => absurd z (by simp)) q0) (fun _ _ qz1 => ?_)
  refine fp_ite ?_ ?_
  · exact fp_some qz1
  · refine fp_bd (fp_call (fr_X8_isMissing _ _ ) (fun _ z => absurd z (by simp)) (fun _ z => absurd z (by simp)) qz1) (fun _ _ qz2 => ?_)
    refine fp_ite ?_ ?_
    · refine fp_bd (fp_call (fr_X8_addUp _ _ ) (by decide) (fun _ z => absurd z (by simp)) qz2) (fun _ _ qz3 => ?_)
      exact fp_some qz3
    · exact fp_some qz2
theorem fr_X11_drop (a1 : Int32) (h : Hp) : FpX (FrX [] [115] h) (F_X11_drop a1 h) := by
  unfold F_X11_drop
  have q0 := FrX.refl [] [115] h
  refine fp_bd (fp_call (fr_X8_has _ _ ) (fun _ z => absurd z (by simp)) (fun _ z => absurd z (by simp)) q0) (fun _ _ qz1 => ?_)
  refine fp_ite ?_ ?_
  · exact fp_some qz1
  · refine fp_bd (fp_call (fr_X8_isMissing _ _ ) (fun _ z => absurd z (by simp)) (fun _ z => absurd z (by simp)) qz1) (fun _ _ qz2 => ?_)
    refine fp_ite ?_ ?_
    · refine fp_bd (fp_call (fr_X8_remove _ _ ) (fun _ z => absurd z (by simp)) (by decide) qz2) (fun _ _ qz3 => ?_)
      exact fp_some qz3
    · exact fp_some qz2
theorem fr_X11_latest (h : Hp) : FpX (FrX [] [] h) (F_X11_latest h) := by
  unfold F_X11_latest
  have q0 := FrX.refl [] [] h
  exact fp_some q0
theorem fr_X11_count (a1 : Int32) (h : Hp) : FpX (FrX [4800, 4801] [76, 77, 78, 79, 80, 81] h) (F_X11_count a1 h) := by
  unfold F_X11_count
  have q0 := FrX.refl [4800, 4801] [76, 77, 78, 79, 80, 81] h
  refine fp_ite ?_ ?_
  · exact fp_some q0
  · refine fp_ite ?_ ?_
    · exact fp_some q0
    · refine fp_ite ?_ ?_
      · exact fp_some q0
      · refine fp_ite ?_ ?_
        · refine fp_bd (fp_call (fr_X11_rulesNow _ ) (by decide) (by decide) q0) (fun _ _ qz1 => ?_)
          refine fp_bd (fp_call (fr_X7_pairsBefore _ _ ) (fun _ z => absurd z (by simp)) (fun _ z => absurd z (by simp)) qz1) (fun _ _ qz2 => ?_)
          exact fp_some qz2
        · refine fp_ite ?_ ?_
          · exact fp_some q0
          · refine fp_ite ?_ ?_
            · exact fp_some q0
            · refine fp_ite ?_ ?_
              · exact fp_some q0
              · refine fp_ite ?_ ?_
                · refine fp_bd (fp_call (fr_X8_allPlaces _ ) (fun _ z => absurd z (by simp)) (fun _ z => absurd z (by simp)) q0) (fun _ _ qz3 => ?_)
                  exact fp_some qz3
                · refine fp_ite ?_ ?_
                  · exact fp_some q0
                  · refine fp_ite ?_ ?_
                    · exact fp_some q0
                    · exact fp_some q0
theorem fr_X12_within (a1 : Int32) (a2 : Int32) (a3 : Int32) (h : Hp) : FpX (FrX [] [] h) (F_X12_within a1 a2 a3 h) := by
  unfold F_X12_within
  have q0 := FrX.refl [] [] h
  refine fp_jn1 (fun _ _ qz1 => ?_) (fun _ kz2 => ?_)
  · refine fp_gd ?_
    exact fp_some qz1
  · refine fp_jn0 (fun _ qz3 => ?_) (fun _ kz4 => ?_)
    · exact kz2 _ _ qz3
    · refine fp_ite ?_ ?_
      · exact kz4 _ q0
      · refine fp_ite ?_ ?_
        · exact kz4 _ q0
        · exact kz2 _ _ q0
theorem fr_X12_bring (a1 : Nat) (n1 : Nat) (a2 : Int32) (a3 : Nat) (n3 : Nat) (a4 : Int32) (a5 : Int32) (h : Hp) : FpX (FrX [] [a3] h) (F_X12_bring a1 n1 a2 a3 n3 a4 a5 h) := by
  unfold F_X12_bring
  have q0 := FrX.refl [] [a3] h
  refine fp_lp1 (fun _ kz2 _ _ qz1 => ?_) (fun _ _ => fp_none) q0
  refine fp_ite ?_ ?_
  · refine fp_gd ?_
    refine fp_gd ?_
    refine fp_jlH (FrX.aS qz1 (by simp only [List.mem_cons, List.not_mem_nil, or_false, true_or, or_true]; try omega) _ _) (fun hz3 qz4 => ?_)
    exact kz2 _ _ qz4
  · exact fp_some qz1
theorem fr_X12_write (a1 : Int32) (h : Hp) : FpX (FrX [7489] [118] h) (F_X12_write a1 h) := by
  unfold F_X12_write
  have q0 := FrX.refl [7489] [118] h
  refine fp_bd (fp_call (fr_X12_within _ _ _ _ ) (fun _ z => absurd z (by simp)) (fun _ z => absurd z (by simp)) q0) (fun _ _ qz1 => ?_)
  refine fp_ite ?_ ?_
  · exact fp_some qz1
  · refine fp_ite ?_ ?_
    · exact fp_some qz1
    · refine fp_gd ?_
      refine fp_jlH (FrX.aS qz1 (by decide) _ _) (fun hz2 qz3 => ?_)
      refine fp_jlH (FrX.sS qz3 (by decide) _) (fun hz4 qz5 => ?_)
      exact fp_some qz5
theorem fr_X12_erase (h : Hp) : FpX (FrX [7489] [] h) (F_X12_erase h) := by
  unfold F_X12_erase
  have q0 := FrX.refl [7489] [] h
  refine fp_jlV (fun _ => ?_)
  refine fp_jlH (FrX.sS q0 (by decide) _) (fun hz1 qz2 => ?_)
  exact fp_some qz2
theorem fr_X12_kindOf (a1 : Int32) (h : Hp) : FpX (FrX [] [] h) (F_X12_kindOf a1 h) := by
  unfold F_X12_kindOf
  have q0 := FrX.refl [] [] h
  refine fp_bd (fp_call (fr_X12_within _ _ _ _ ) (fun _ z => absurd z (by simp)) (fun _ z => absurd z (by simp)) q0) (fun _ _ qz1 => ?_)
  refine fp_jn1 (fun _ _ qz2 => ?_) (fun _ kz3 => ?_)
  · exact fp_some qz2
  · refine fp_ite ?_ ?_
    · refine fp_bd (fp_call (fr_X12_within _ _ _ _ ) (fun _ z => absurd z (by simp)) (fun _ z => absurd z (by simp)) qz1) (fun _ _ qz4 => ?_)
      refine fp_ite ?_ ?_
      · exact kz3 _ _ qz4
      · exact kz3 _ _ qz4
    · exact kz3 _ _ qz1
theorem fr_X12_take (h : Hp) : FpX (FrX [7490, 7491, 7492, 7493] [] h) (F_X12_take h) := by
  unfold F_X12_take
  have q0 := FrX.refl [7490, 7491, 7492, 7493] [] h
  refine fp_lp0 (fun _ kz2 _ qz1 => ?_) (fun _ => fp_none) q0
  refine fp_jn0 (fun _ qz3 => ?_) (fun _ kz4 => ?_)
  · refine fp_jlH (FrX.sS qz3 (by decide) _) (fun hz5 qz6 => ?_)
    refine fp_jlH (FrX.sS qz6 (by decide) _) (fun hz7 qz8 => ?_)
    refine fp_jn1 (fun _ _ qz9 => ?_) (fun _ kz10 => ?_)
    · refine fp_jlH (FrX.sS qz9 (by decide) _) (fun hz11 qz12 => ?_)
      refine fp_lp0 (fun _ kz14 _ qz13 => ?_) (fun _ => fp_none) qz12
      refine fp_jn0 (fun _ qz15 => ?_) (fun _ kz16 => ?_)
      · exact fp_some qz15
      · refine fp_ite ?_ ?_
        · refine fp_jn0 (fun _ qz17 => ?_) (fun _ kz18 => ?_)
          · refine fp_jlH (FrX.sS qz17 (by decide) _) (fun hz19 qz20 => ?_)
            refine fp_jlH (FrX.sS qz20 (by decide) _) (fun hz21 qz22 => ?_)
            exact kz14 _ qz22
          · refine fp_ite ?_ ?_
            · exact kz18 _ qz13
            · refine fp_ite ?_ ?_
              · refine fp_gd ?_
                refine fp_bd (fp_call (fr_X12_kindOf _ _ ) (fun _ z => absurd z (by simp)) (fun _ z => absurd z (by simp)) qz13) (fun _ _ qz23 => ?_)
                refine fp_ite ?_ ?_
                · exact kz18 _ qz23
                · exact kz16 _ qz23
              · exact kz16 _ qz13
        · exact kz16 _ qz13
    · refine fp_ite ?_ ?_
      · refine fp_gd ?_
        refine fp_bd (fp_call (fr_X12_kindOf _ _ ) (fun _ z => absurd z (by simp)) (fun _ z => absurd z (by simp)) qz8) (fun _ _ qz24 => ?_)
        exact kz10 _ _ qz24
      · exact kz10 _ _ qz8
  · refine fp_ite ?_ ?_
    · refine fp_gd ?_
      refine fp_ite ?_ ?_
      · refine fp_jlH (FrX.sS qz1 (by decide) _) (fun hz25 qz26 => ?_)
        exact kz2 _ qz26
      · exact kz4 _ qz1
    · exact kz4 _ qz1
theorem fr_X12_want (a1 : Int32) (h : Hp) : FpX (FrX [7494] [] h) (F_X12_want a1 h) := by
  unfold F_X12_want
  have q0 := FrX.refl [7494] [] h
  refine fp_jn0 (fun _ qz1 => ?_) (fun _ kz2 => ?_)
  · refine fp_gd ?_
    exact fp_some qz1
  · refine fp_ite ?_ ?_
    · refine fp_ite ?_ ?_
      · refine fp_jlH (FrX.sS q0 (by decide) _) (fun hz3 qz4 => ?_)
        exact kz2 _ qz4
      · exact kz2 _ q0
    · exact kz2 _ q0
theorem fr_X12_wordOf (h : Hp) : FpX (FrX [] [] h) (F_X12_wordOf h) := by
  unfold F_X12_wordOf
  have q0 := FrX.refl [] [] h
  refine fp_jlV (fun _ => ?_)
  refine fp_lp2 (fun _ kz2 _ _ _ qz1 => ?_) (fun _ _ _ => fp_none) q0
  refine fp_jn0 (fun _ qz3 => ?_) (fun _ kz4 => ?_)
  · exact fp_some qz3
  · refine fp_ite ?_ ?_
    · refine fp_ite ?_ ?_
      · refine fp_jn1 (fun _ _ qz5 => ?_) (fun _ kz6 => ?_)
        · exact kz2 _ _ _ qz5
        · refine fp_ite ?_ ?_
          · refine fp_gd ?_
            exact kz6 _ _ qz1
          · exact kz6 _ _ qz1
      · exact kz4 _ qz1
    · exact kz4 _ qz1
theorem fr_X12_at (a1 : Int32) (a2 : Int32) (h : Hp) : FpX (FrX [] [] h) (F_X12_at a1 a2 h) := by
  unfold F_X12_at
  have q0 := FrX.refl [] [] h
  refine fp_jn1 (fun _ _ qz1 => ?_) (fun _ kz2 => ?_)
  · refine fp_gd ?_
    exact fp_some qz1
  · refine fp_jn0 (fun _ qz3 => ?_) (fun _ kz4 => ?_)
    · exact kz2 _ _ qz3
    · refine fp_ite ?_ ?_
      · exact kz4 _ q0
      · refine fp_gd ?_
        refine fp_ite ?_ ?_
        · exact kz4 _ q0
        · exact kz2 _ _ q0
theorem fr_X12_isWord (a1 : Int32) (a2 : Int32) (a3 : Int32) (a4 : Int32) (a5 : Int32) (a6 : Int32) (a7 : Int32) (h : Hp) : FpX (FrX [] [] h) (F_X12_isWord a1 a2 a3 a4 a5 a6 a7 h) := by
  unfold F_X12_isWord
  have q0 := FrX.refl [] [] h
  refine fp_jn1 (fun _ _ qz1 => ?_) (fun _ kz2 => ?_)
  · refine fp_jn1 (fun _ _ qz3 => ?_) (fun _ kz4 => ?_)
    · refine fp_jn1 (fun _ _ qz5 => ?_) (fun _ kz6 => ?_)
      · refine fp_jn1 (fun _ _ qz7 => ?_) (fun _ kz8 => ?_)
        · refine fp_jn1 (fun _ _ qz9 => ?_) (fun _ kz10 => ?_)
          · refine fp_jn1 (fun _ _ qz11 => ?_) (fun _ kz12 => ?_)
            · refine fp_jn1 (fun _ _ qz13 => ?_) (fun _ kz14 => ?_)
              · refine fp_jlV (fun _ => ?_)
                refine fp_jn1 (fun _ _ qz15 => ?_) (fun _ kz16 => ?_)
                · refine fp_gd ?_
                  exact fp_some qz15
                · refine fp_jn0 (fun _ qz17 => ?_) (fun _ kz18 => ?_)
                  · exact kz16 _ _ qz17
                  · refine fp_ite ?_ ?_
                    · refine fp_ite ?_ ?_
                      · refine fp_bd (fp_call (fr_X12_at _ _ _ ) (fun _ z => absurd z (by simp)) (fun _ z => absurd z (by simp)) qz13) (fun _ _ qz19 => ?_)
                        refine fp_ite ?_ ?_
                        · exact kz18 _ qz19
                        · refine fp_bd (fp_call (fr_X12_at _ _ _ ) (fun _ z => absurd z (by simp)) (fun _ z => absurd z (by simp)) qz19) (fun _ _ qz20 => ?_)
                          refine fp_ite ?_ ?_
                          · exact kz18 _ qz20
                          · refine fp_bd (fp_call (fr_X12_at _ _ _ ) (fun _ z => absurd z (by simp)) (fun _ z => absurd z (by simp)) qz20) (fun _ _ qz21 => ?_)
                            refine fp_ite ?_ ?_
                            · exact kz18 _ qz21
                            · refine fp_bd (fp_call (fr_X12_at _ _ _ ) (fun _ z => absurd z (by simp)) (fun _ z => absurd z (by simp)) qz21) (fun _ _ qz22 => ?_)
                              refine fp_ite ?_ ?_
                              · exact kz18 _ qz22
                              · refine fp_bd (fp_call (fr_X12_at _ _ _ ) (fun _ z => absurd z (by simp)) (fun _ z => absurd z (by simp)) qz22) (fun _ _ qz23 => ?_)
                                refine fp_ite ?_ ?_
                                · exact kz18 _ qz23
                                · refine fp_bd (fp_call (fr_X12_at _ _ _ ) (fun _ z => absurd z (by simp)) (fun _ z => absurd z (by simp)) qz23) (fun _ _ qz24 => ?_)
                                  refine fp_ite ?_ ?_
                                  · exact kz18 _ qz24
                                  · refine fp_bd (fp_call (fr_X12_at _ _ _ ) (fun _ z => absurd z (by simp)) (fun _ z => absurd z (by simp)) qz24) (fun _ _ qz25 => ?_)
                                    refine fp_ite ?_ ?_
                                    · exact kz18 _ qz25
                                    · exact kz16 _ _ qz25
                      · exact kz18 _ qz13
                    · exact kz18 _ qz13
              · refine fp_ite ?_ ?_
                · exact kz14 _ _ qz11
                · exact kz14 _ _ qz11
            · refine fp_ite ?_ ?_
              · exact kz12 _ _ qz9
              · exact kz12 _ _ qz9
          · refine fp_ite ?_ ?_
            · exact kz10 _ _ qz7
            · exact kz10 _ _ qz7
        · refine fp_ite ?_ ?_
          · exact kz8 _ _ qz5
          · exact kz8 _ _ qz5
      · refine fp_ite ?_ ?_
        · exact kz6 _ _ qz3
        · exact kz6 _ _ qz3
    · refine fp_ite ?_ ?_
      · exact kz4 _ _ qz1
      · exact kz4 _ _ qz1
  · refine fp_ite ?_ ?_
    · exact kz2 _ _ q0
    · exact kz2 _ _ q0
theorem fr_X12_number (a1 : Int32) (a2 : Int32) (h : Hp) : FpX (FrX [7490, 7491, 7492, 7493, 7494] [] h) (F_X12_number a1 a2 h) := by
  unfold F_X12_number
  have q0 := FrX.refl [7490, 7491, 7492, 7493, 7494] [] h
  refine fp_bd (fp_call (fr_X12_take _ ) (by decide) (fun _ z => absurd z (by simp)) q0) (fun _ _ qz1 => ?_)
  refine fp_jlV (fun _ => ?_)
  refine fp_lp2 (fun _ kz3 _ _ _ qz2 => ?_) (fun _ _ _ => fp_none) qz1
  refine fp_jn0 (fun _ qz4 => ?_) (fun _ kz5 => ?_)
  · refine fp_jn1 (fun _ _ qz6 => ?_) (fun _ kz7 => ?_)
    · refine fp_bd (fp_call (fr_X12_want _ _ ) (by decide) (fun _ z => absurd z (by simp)) qz6) (fun _ _ qz8 => ?_)
      refine fp_jn1 (fun _ _ qz9 => ?_) (fun _ kz10 => ?_)
      · exact fp_some qz9
      · refine fp_ite ?_ ?_
        · exact kz10 _ _ qz8
        · exact kz10 _ _ qz8
    · refine fp_jn0 (fun _ qz11 => ?_) (fun _ kz12 => ?_)
      · exact kz7 _ _ qz11
      · refine fp_ite ?_ ?_
        · refine fp_ite ?_ ?_
          · refine fp_ite ?_ ?_
            · exact kz12 _ qz4
            · refine fp_bd (fp_call (fr_X12_within _ _ _ _ ) (fun _ z => absurd z (by simp)) (fun _ z => absurd z (by simp)) qz4) (fun _ _ qz13 => ?_)
              refine fp_ite ?_ ?_
              · exact kz12 _ qz13
              · exact kz7 _ _ qz13
          · exact kz12 _ qz4
        · exact kz12 _ qz4
  · refine fp_ite ?_ ?_
    · refine fp_ite ?_ ?_
      · refine fp_gd ?_
        refine fp_jlV (fun _ => ?_)
        exact kz3 _ _ _ qz2
      · exact kz5 _ qz2
    · exact kz5 _ qz2
theorem fr_X12_lay (a1 : Int32) (a2 : Int32) (a3 : Int32) (a4 : Int32) (a5 : Int32) (h : Hp) : FpX (FrX [] [119] h) (F_X12_lay a1 a2 a3 a4 a5 h) := by
  unfold F_X12_lay
  have q0 := FrX.refl [] [119] h
  refine fp_jn0 (fun _ qz1 => ?_) (fun _ kz2 => ?_)
  · exact fp_some qz1
  · refine fp_ite ?_ ?_
    · refine fp_jlV (fun _ => ?_)
      refine fp_gd ?_
      refine fp_jlH (FrX.aS q0 (by decide) _ _) (fun hz3 qz4 => ?_)
      refine fp_gd ?_
      refine fp_jlH (FrX.aS qz4 (by decide) _ _) (fun hz5 qz6 => ?_)
      refine fp_gd ?_
      refine fp_jlH (FrX.aS qz6 (by decide) _ _) (fun hz7 qz8 => ?_)
      refine fp_gd ?_
      refine fp_jlH (FrX.aS qz8 (by decide) _ _) (fun hz9 qz10 => ?_)
      refine fp_gd ?_
      refine fp_jlH (FrX.aS qz10 (by decide) _ _) (fun hz11 qz12 => ?_)
      exact kz2 _ qz12
    · exact kz2 _ q0
theorem fr_X12_readSun (h : Hp) : FpX (FrX [7490, 7491, 7492, 7493, 7494] [119] h) (F_X12_readSun h) := by
  unfold F_X12_readSun
  have q0 := FrX.refl [7490, 7491, 7492, 7493, 7494] [119] h
  refine fp_bd (fp_call (fr_X12_number _ _ _ ) (by decide) (fun _ z => absurd z (by simp)) q0) (fun _ _ qz1 => ?_)
  refine fp_bd (fp_call (fr_X12_number _ _ _ ) (by decide) (fun _ z => absurd z (by simp)) qz1) (fun _ _ qz2 => ?_)
  refine fp_bd (fp_call (fr_X12_number _ _ _ ) (by decide) (fun _ z => absurd z (by simp)) qz2) (fun _ _ qz3 => ?_)
  refine fp_bd (fp_call (fr_X12_lay _ _ _ _ _ _ ) (fun _ z => absurd z (by simp)) (by decide) qz3) (fun _ _ qz4 => ?_)
  exact fp_some qz4
theorem fr_X12_readPicture (h : Hp) : FpX (FrX [7490, 7491, 7492, 7493, 7494, 7497] [119, 120] h) (F_X12_readPicture h) := by
  unfold F_X12_readPicture
  have q0 := FrX.refl [7490, 7491, 7492, 7493, 7494, 7497] [119, 120] h
  refine fp_jn1 (fun _ _ qz1 => ?_) (fun _ kz2 => ?_)
  · refine fp_bd (fp_call (fr_X12_want _ _ ) (by decide) (fun _ z => absurd z (by simp)) qz1) (fun _ _ qz3 => ?_)
    refine fp_ite ?_ ?_
    · exact fp_some qz3
    · refine fp_bd (fp_call (fr_X12_take _ ) (by decide) (fun _ z => absurd z (by simp)) qz3) (fun _ _ qz4 => ?_)
      refine fp_jn1 (fun _ _ qz5 => ?_) (fun _ kz6 => ?_)
      · refine fp_jn1 (fun _ _ qz7 => ?_) (fun _ kz8 => ?_)
        · refine fp_lp2 (fun _ kz10 _ _ _ qz9 => ?_) (fun _ _ _ => fp_none) qz7
          refine fp_ite ?_ ?_
          · refine fp_jn1 (fun _ _ qz11 => ?_) (fun _ kz12 => ?_)
            · exact kz10 _ _ _ qz11
            · refine fp_jn0 (fun _ qz13 => ?_) (fun _ kz14 => ?_)
              · exact kz12 _ _ qz13
              · refine fp_ite ?_ ?_
                · exact kz14 _ qz9
                · refine fp_gd ?_
                  refine fp_ite ?_ ?_
                  · exact kz14 _ qz9
                  · exact kz12 _ _ qz9
          · refine fp_bd (fp_call (fr_X12_want _ _ ) (by decide) (fun _ z => absurd z (by simp)) qz9) (fun _ _ qz15 => ?_)
            refine fp_jn0 (fun _ qz16 => ?_) (fun _ kz17 => ?_)
            · exact fp_some qz16
            · refine fp_ite ?_ ?_
              · exact kz17 _ qz15
              · refine fp_gd ?_
                refine fp_jlH (FrX.aS qz15 (by decide) _ _) (fun hz18 qz19 => ?_)
                refine fp_jlH (FrX.sS qz19 (by decide) _) (fun hz20 qz21 => ?_)
                refine fp_bd (fp_call (fr_X12_lay _ _ _ _ _ _ ) (fun _ z => absurd z (by simp)) (by decide) qz21) (fun _ _ qz22 => ?_)
                exact kz17 _ qz22
        · refine fp_ite ?_ ?_
          · exact kz8 _ _ qz5
          · refine fp_bd (fp_call (fr_X12_wordOf _ ) (fun _ z => absurd z (by simp)) (fun _ z => absurd z (by simp)) qz5) (fun _ _ qz23 => ?_)
            exact kz8 _ _ qz23
      · refine fp_jn0 (fun _ qz24 => ?_) (fun _ kz25 => ?_)
        · exact kz6 _ _ qz24
        · refine fp_ite ?_ ?_
          · refine fp_ite ?_ ?_
            · exact kz25 _ qz4
            · exact kz6 _ _ qz4
          · exact kz25 _ qz4
  · refine fp_ite ?_ ?_
    · exact kz2 _ _ q0
    · exact kz2 _ _ q0
theorem fr_X12_readThing (h : Hp) : FpX (FrX [7490, 7491, 7492, 7493, 7494, 7498] [119, 121] h) (F_X12_readThing h) := by
  unfold F_X12_readThing
  have q0 := FrX.refl [7490, 7491, 7492, 7493, 7494, 7498] [119, 121] h
  refine fp_jn1 (fun _ _ qz1 => ?_) (fun _ kz2 => ?_)
  · refine fp_bd (fp_call (fr_X12_want _ _ ) (by decide) (fun _ z => absurd z (by simp)) qz1) (fun _ _ qz3 => ?_)
    refine fp_ite ?_ ?_
    · exact fp_some qz3
    · refine fp_bd (fp_call (fr_X12_take _ ) (by decide) (fun _ z => absurd z (by simp)) qz3) (fun _ _ qz4 => ?_)
      refine fp_bd (fp_call (fr_X12_isWord _ _ _ _ _ _ _ _ ) (fun _ z => absurd z (by simp)) (fun _ z => absurd z (by simp)) qz4) (fun _ _ qz5 => ?_)
      refine fp_jn1 (fun _ _ qz6 => ?_) (fun _ kz7 => ?_)
      · refine fp_jn1 (fun _ _ qz8 => ?_) (fun _ kz9 => ?_)
        · refine fp_bd (fp_call (fr_X12_want _ _ ) (by decide) (fun _ z => absurd z (by simp)) qz8) (fun _ _ qz10 => ?_)
          refine fp_jn0 (fun _ qz11 => ?_) (fun _ kz12 => ?_)
          · exact fp_some qz11
          · refine fp_ite ?_ ?_
            · exact kz12 _ qz10
            · refine fp_gd ?_
              refine fp_jlH (FrX.aS qz10 (by decide) _ _) (fun hz13 qz14 => ?_)
              refine fp_jlH (FrX.sS qz14 (by decide) _) (fun hz15 qz16 => ?_)
              refine fp_bd (fp_call (fr_X12_lay _ _ _ _ _ _ ) (fun _ z => absurd z (by simp)) (by decide) qz16) (fun _ _ qz17 => ?_)
              exact kz12 _ qz17
        · refine fp_ite ?_ ?_
          · exact kz9 _ _ qz6
          · exact kz9 _ _ qz6
      · refine fp_ite ?_ ?_
        · refine fp_bd (fp_call (fr_X12_isWord _ _ _ _ _ _ _ _ ) (fun _ z => absurd z (by simp)) (fun _ z => absurd z (by simp)) qz5) (fun _ _ qz18 => ?_)
          refine fp_ite ?_ ?_
          · refine fp_bd (fp_call (fr_X12_isWord _ _ _ _ _ _ _ _ ) (fun _ z => absurd z (by simp)) (fun _ z => absurd z (by simp)) qz18) (fun _ _ qz19 => ?_)
            refine fp_ite ?_ ?_
            · refine fp_bd (fp_call (fr_X12_isWord _ _ _ _ _ _ _ _ ) (fun _ z => absurd z (by simp)) (fun _ z => absurd z (by simp)) qz19) (fun _ _ qz20 => ?_)
              refine fp_ite ?_ ?_
              · exact kz7 _ _ qz20
              · exact kz7 _ _ qz20
            · exact kz7 _ _ qz19
          · exact kz7 _ _ qz18
        · exact kz7 _ _ qz5
  · refine fp_ite ?_ ?_
    · exact kz2 _ _ q0
    · exact kz2 _ _ q0
theorem fr_X12_readPiece (a1 : Int32) (h : Hp) : FpX (FrX [7490, 7491, 7492, 7493, 7494] [119] h) (F_X12_readPiece a1 h) := by
  unfold F_X12_readPiece
  have q0 := FrX.refl [7490, 7491, 7492, 7493, 7494] [119] h
  refine fp_bd (fp_call (fr_X12_number _ _ _ ) (by decide) (fun _ z => absurd z (by simp)) q0) (fun _ _ qz1 => ?_)
  refine fp_jn1 (fun _ _ qz2 => ?_) (fun _ kz3 => ?_)
  · refine fp_bd (fp_call (fr_X12_number _ _ _ ) (by decide) (fun _ z => absurd z (by simp)) qz2) (fun _ _ qz4 => ?_)
    refine fp_jn1 (fun _ _ qz5 => ?_) (fun _ kz6 => ?_)
    · refine fp_bd (fp_call (fr_X12_number _ _ _ ) (by decide) (fun _ z => absurd z (by simp)) qz5) (fun _ _ qz7 => ?_)
      refine fp_bd (fp_call (fr_X12_lay _ _ _ _ _ _ ) (fun _ z => absurd z (by simp)) (by decide) qz7) (fun _ _ qz8 => ?_)
      exact fp_some qz8
    · refine fp_ite ?_ ?_
      · exact kz6 _ _ qz4
      · exact kz6 _ _ qz4
  · refine fp_ite ?_ ?_
    · exact kz3 _ _ qz1
    · exact kz3 _ _ qz1
theorem fr_X12_readSee (h : Hp) : FpX (FrX [7490, 7491, 7492, 7493, 7494] [119] h) (F_X12_readSee h) := by
  unfold F_X12_readSee
  have q0 := FrX.refl [7490, 7491, 7492, 7493, 7494] [119] h
  refine fp_bd (fp_call (fr_X12_number _ _ _ ) (by decide) (fun _ z => absurd z (by simp)) q0) (fun _ _ qz1 => ?_)
  refine fp_bd (fp_call (fr_X12_number _ _ _ ) (by decide) (fun _ z => absurd z (by simp)) qz1) (fun _ _ qz2 => ?_)
  refine fp_jn1 (fun _ _ qz3 => ?_) (fun _ kz4 => ?_)
  · refine fp_bd (fp_call (fr_X12_number _ _ _ ) (by decide) (fun _ z => absurd z (by simp)) qz3) (fun _ _ qz5 => ?_)
    refine fp_bd (fp_call (fr_X12_lay _ _ _ _ _ _ ) (fun _ z => absurd z (by simp)) (by decide) qz5) (fun _ _ qz6 => ?_)
    exact fp_some qz6
  · refine fp_jn0 (fun _ qz7 => ?_) (fun _ kz8 => ?_)
    · exact kz4 _ _ qz7
    · refine fp_ite ?_ ?_
      · refine fp_gd ?_
        refine fp_ite ?_ ?_
        · exact kz4 _ _ qz2
        · exact kz8 _ qz2
      · exact kz8 _ qz2
theorem fr_X12_readClause (h : Hp) : FpX (FrX [7490, 7491, 7492, 7493, 7494, 7497, 7498] [119, 120, 121] h) (F_X12_readClause h) := by
  unfold F_X12_readClause
  have q0 := FrX.refl [7490, 7491, 7492, 7493, 7494, 7497, 7498] [119, 120, 121] h
  refine fp_bd (fp_call (fr_X12_take _ ) (by decide) (fun _ z => absurd z (by simp)) q0) (fun _ _ qz1 => ?_)
  refine fp_bd (fp_call (fr_X12_isWord _ _ _ _ _ _ _ _ ) (fun _ z => absurd z (by simp)) (fun _ z => absurd z (by simp)) qz1) (fun _ _ qz2 => ?_)
  refine fp_jn0 (fun _ qz3 => ?_) (fun _ kz4 => ?_)
  · exact fp_some qz3
  · refine fp_ite ?_ ?_
    · refine fp_bd (fp_call (fr_X12_isWord _ _ _ _ _ _ _ _ ) (fun _ z => absurd z (by simp)) (fun _ z => absurd z (by simp)) qz2) (fun _ _ qz5 => ?_)
      refine fp_ite ?_ ?_
      · refine fp_bd (fp_call (fr_X12_isWord _ _ _ _ _ _ _ _ ) (fun _ z => absurd z (by simp)) (fun _ z => absurd z (by simp)) qz5) (fun _ _ qz6 => ?_)
        refine fp_ite ?_ ?_
        · refine fp_bd (fp_call (fr_X12_isWord _ _ _ _ _ _ _ _ ) (fun _ z => absurd z (by simp)) (fun _ z => absurd z (by simp)) qz6) (fun _ _ qz7 => ?_)
          refine fp_ite ?_ ?_
          · refine fp_bd (fp_call (fr_X12_isWord _ _ _ _ _ _ _ _ ) (fun _ z => absurd z (by simp)) (fun _ z => absurd z (by simp)) qz7) (fun _ _ qz8 => ?_)
            refine fp_ite ?_ ?_
            · refine fp_bd (fp_call (fr_X12_isWord _ _ _ _ _ _ _ _ ) (fun _ z => absurd z (by simp)) (fun _ z => absurd z (by simp)) qz8) (fun _ _ qz9 => ?_)
              refine fp_ite ?_ ?_
              · refine fp_bd (fp_call (fr_X12_isWord _ _ _ _ _ _ _ _ ) (fun _ z => absurd z (by simp)) (fun _ z => absurd z (by simp)) qz9) (fun _ _ qz10 => ?_)
                refine fp_ite ?_ ?_
                · refine fp_bd (fp_call (fr_X12_want _ _ ) (by decide) (fun _ z => absurd z (by simp)) qz10) (fun _ _ qz11 => ?_)
                  exact kz4 _ qz11
                · refine fp_bd (fp_call (fr_X12_readSee _ ) (by decide) (by decide) qz10) (fun _ _ qz12 => ?_)
                  exact kz4 _ qz12
              · refine fp_bd (fp_call (fr_X12_readPiece _ _ ) (by decide) (by decide) qz9) (fun _ _ qz13 => ?_)
                exact kz4 _ qz13
            · refine fp_bd (fp_call (fr_X12_readPiece _ _ ) (by decide) (by decide) qz8) (fun _ _ qz14 => ?_)
              exact kz4 _ qz14
          · refine fp_bd (fp_call (fr_X12_readThing _ ) (by decide) (by decide) qz7) (fun _ _ qz15 => ?_)
            exact kz4 _ qz15
        · refine fp_bd (fp_call (fr_X12_readPicture _ ) (by decide) (by decide) qz6) (fun _ _ qz16 => ?_)
          exact kz4 _ qz16
      · refine fp_bd (fp_call (fr_X12_readSun _ ) (by decide) (by decide) qz5) (fun _ _ qz17 => ?_)
        exact kz4 _ qz17
    · refine fp_jlH (FrX.sS qz2 (by decide) _) (fun hz18 qz19 => ?_)
      refine fp_jlH (FrX.sS qz19 (by decide) _) (fun hz20 qz21 => ?_)
      refine fp_bd (fp_call (fr_X12_lay _ _ _ _ _ _ ) (fun _ z => absurd z (by simp)) (by decide) qz21) (fun _ _ qz22 => ?_)
      exact kz4 _ qz22
theorem fr_X12_read (h : Hp) : FpX (FrX [7490, 7491, 7492, 7493, 7494, 7495, 7497, 7498] [119, 120, 121] h) (F_X12_read h) := by
  unfold F_X12_read
  have q0 := FrX.refl [7490, 7491, 7492, 7493, 7494, 7495, 7497, 7498] [119, 120, 121] h
  refine fp_jlH (FrX.sS q0 (by decide) _) (fun hz1 qz2 => ?_)
  refine fp_jlH (FrX.sS qz2 (by decide) _) (fun hz3 qz4 => ?_)
  refine fp_jlH (FrX.sS qz4 (by decide) _) (fun hz5 qz6 => ?_)
  refine fp_jlH (FrX.sS qz6 (by decide) _) (fun hz7 qz8 => ?_)
  refine fp_jlH (FrX.sS qz8 (by decide) _) (fun hz9 qz10 => ?_)
  refine fp_bd (fp_call (fr_X12_bring _ _ _ _ _ _ _ _ ) (fun _ z => absurd z (by simp)) (by decide) qz10) (fun _ _ qz11 => ?_)
  refine fp_bd (fp_call (fr_X12_bring _ _ _ _ _ _ _ _ ) (fun _ z => absurd z (by simp)) (by decide) qz11) (fun _ _ qz12 => ?_)
  refine fp_lp1 (fun _ kz14 _ _ qz13 => ?_) (fun _ _ => fp_none) qz12
  refine fp_jn0 (fun _ qz15 => ?_) (fun _ kz16 => ?_)
  · exact fp_some qz15
  · refine fp_ite ?_ ?_
    · exact kz16 _ qz13
    · refine fp_ite ?_ ?_
      · refine fp_bd (fp_call (fr_X12_readClause _ ) (by decide) (by decide) qz13) (fun _ _ qz17 => ?_)
        refine fp_ite ?_ ?_
        · refine fp_jlH (FrX.sS qz17 (by decide) _) (fun hz18 qz19 => ?_)
          refine fp_bd (fp_call (fr_X12_take _ ) (by decide) (fun _ z => absurd z (by simp)) qz19) (fun _ _ qz20 => ?_)
          refine fp_jn1 (fun _ _ qz21 => ?_) (fun _ kz22 => ?_)
          · refine fp_jn1 (fun _ _ qz23 => ?_) (fun _ kz24 => ?_)
            · refine fp_bd (fp_call (fr_X12_want _ _ ) (by decide) (fun _ z => absurd z (by simp)) qz23) (fun _ _ qz25 => ?_)
              exact kz14 _ _ qz25
            · refine fp_jn0 (fun _ qz26 => ?_) (fun _ kz27 => ?_)
              · exact kz24 _ _ qz26
              · refine fp_ite ?_ ?_
                · refine fp_ite ?_ ?_
                  · exact kz27 _ qz21
                  · exact kz24 _ _ qz21
                · exact kz27 _ qz21
          · refine fp_jn0 (fun _ qz28 => ?_) (fun _ kz29 => ?_)
            · exact kz22 _ _ qz28
            · refine fp_ite ?_ ?_
              · refine fp_gd ?_
                refine fp_ite ?_ ?_
                · refine fp_ite ?_ ?_
                  · exact kz22 _ _ qz20
                  · exact kz29 _ qz20
                · exact kz29 _ qz20
              · exact kz29 _ qz20
        · exact kz14 _ _ qz17
      · exact kz16 _ qz13
theorem fr_X12_fault (h : Hp) : FpX (FrX [7490, 7491, 7492, 7493, 7494, 7495, 7497, 7498] [119, 120, 121] h) (F_X12_fault h) := by
  unfold F_X12_fault
  have q0 := FrX.refl [7490, 7491, 7492, 7493, 7494, 7495, 7497, 7498] [119, 120, 121] h
  refine fp_bd (fp_call (fr_X12_read _ ) (by decide) (by decide) q0) (fun _ _ qz1 => ?_)
  exact fp_some qz1
theorem fr_X12_pieceAt (a1 : Int32) (a2 : Int32) (h : Hp) : FpX (FrX [] [] h) (F_X12_pieceAt a1 a2 h) := by
  unfold F_X12_pieceAt
  have q0 := FrX.refl [] [] h
  refine fp_lp2 (fun _ kz2 _ _ _ qz1 => ?_) (fun _ _ _ => fp_none) q0
  refine fp_gd ?_
  refine fp_ite ?_ ?_
  · refine fp_jlV (fun _ => ?_)
    refine fp_gd ?_
    refine fp_jn1 (fun _ _ qz3 => ?_) (fun _ kz4 => ?_)
    · exact kz2 _ _ _ qz3
    · refine fp_jn0 (fun _ qz5 => ?_) (fun _ kz6 => ?_)
      · exact kz4 _ _ qz5
      · refine fp_ite ?_ ?_
        · refine fp_jlV (fun _ => ?_)
          refine fp_gd ?_
          refine fp_ite ?_ ?_
          · exact kz4 _ _ qz1
          · exact kz6 _ qz1
        · exact kz6 _ qz1
  · exact fp_some qz1
theorem fr_X12_become (a1 : Int32) (a2 : Int32) (a3 : Int32) (a4 : Int32) (h : Hp) : FpX (FrX [] [124] h) (F_X12_become a1 a2 a3 a4 h) := by
  unfold F_X12_become
  have q0 := FrX.refl [] [124] h
  refine fp_bd (fp_call (fr_X12_pieceAt _ _ _ ) (fun _ z => absurd z (by simp)) (fun _ z => absurd z (by simp)) q0) (fun _ _ qz1 => ?_)
  refine fp_jn1 (fun _ _ qz2 => ?_) (fun _ kz3 => ?_)
  · refine fp_gd ?_
    refine fp_jlH (FrX.aS qz2 (by decide) _ _) (fun hz4 qz5 => ?_)
    refine fp_gd ?_
    refine fp_jlH (FrX.aS qz5 (by decide) _ _) (fun hz6 qz7 => ?_)
    refine fp_gd ?_
    refine fp_jlH (FrX.aS qz7 (by decide) _ _) (fun hz8 qz9 => ?_)
    refine fp_gd ?_
    refine fp_jlH (FrX.aS qz9 (by decide) _ _) (fun hz10 qz11 => ?_)
    exact fp_some qz11
  · refine fp_ite ?_ ?_
    · refine fp_gd ?_
      refine fp_jlV (fun _ => ?_)
      refine fp_gd ?_
      refine fp_gd ?_
      refine fp_jlH (FrX.aS qz1 (by decide) _ _) (fun hz12 qz13 => ?_)
      exact kz3 _ _ qz13
    · exact kz3 _ _ qz1
theorem fr_X12_tell (a1 : Int32) (h : Hp) : FpX (FrX [7501, 7502, 7503, 7504, 7506] [122, 123, 124] h) (F_X12_tell a1 h) := by
  unfold F_X12_tell
  have q0 := FrX.refl [7501, 7502, 7503, 7504, 7506] [122, 123, 124] h
  refine fp_gd ?_
  refine fp_jlV (fun _ => ?_)
  refine fp_gd ?_
  refine fp_jlV (fun _ => ?_)
  refine fp_gd ?_
  refine fp_jlV (fun _ => ?_)
  refine fp_gd ?_
  refine fp_jlV (fun _ => ?_)
  refine fp_jn0 (fun _ qz1 => ?_) (fun _ kz2 => ?_)
  · exact fp_some qz1
  · refine fp_ite ?_ ?_
    · refine fp_jlH (FrX.sS q0 (by decide) _) (fun hz3 qz4 => ?_)
      refine fp_jlH (FrX.sS qz4 (by decide) _) (fun hz5 qz6 => ?_)
      refine fp_jlH (FrX.sS qz6 (by decide) _) (fun hz7 qz8 => ?_)
      refine fp_jlH (FrX.sS qz8 (by decide) _) (fun hz9 qz10 => ?_)
      refine fp_jlH (FrX.sS qz10 (by decide) _) (fun hz11 qz12 => ?_)
      refine fp_gd ?_
      refine fp_jlH (FrX.aS qz12 (by decide) _ _) (fun hz13 qz14 => ?_)
      exact kz2 _ qz14
    · refine fp_ite ?_ ?_
      · refine fp_jlH (FrX.sS q0 (by decide) _) (fun hz15 qz16 => ?_)
        refine fp_jlH (FrX.sS qz16 (by decide) _) (fun hz17 qz18 => ?_)
        refine fp_jlH (FrX.sS qz18 (by decide) _) (fun hz19 qz20 => ?_)
        exact kz2 _ qz20
      · refine fp_ite ?_ ?_
        · refine fp_gd ?_
          refine fp_jlH (FrX.aS q0 (by decide) _ _) (fun hz21 qz22 => ?_)
          refine fp_jlH (FrX.sS qz22 (by decide) _) (fun hz23 qz24 => ?_)
          exact kz2 _ qz24
        · refine fp_ite ?_ ?_
          · refine fp_gd ?_
            refine fp_jlH (FrX.aS q0 (by decide) _ _) (fun hz25 qz26 => ?_)
            refine fp_jlH (FrX.sS qz26 (by decide) _) (fun hz27 qz28 => ?_)
            exact kz2 _ qz28
          · refine fp_gd ?_
            refine fp_bd (fp_call (fr_X12_become _ _ _ _ _ ) (fun _ z => absurd z (by simp)) (by decide) q0) (fun _ _ qz29 => ?_)
            exact kz2 _ qz29
theorem fr_X12_album (h : Hp) : FpX (FrX [7489, 7490, 7491, 7492, 7493, 7494, 7495, 7497, 7498, 7501, 7502, 7503, 7504, 7506, 7510] [119, 120, 121, 122, 123, 124, 128, 138] h) (F_X12_album h) := by
  unfold F_X12_album
  have q0 := FrX.refl [7489, 7490, 7491, 7492, 7493, 7494, 7495, 7497, 7498, 7501, 7502, 7503, 7504, 7506, 7510] [119, 120, 121, 122, 123, 124, 128, 138] h
  refine fp_bd (fp_call (fr_X12_read _ ) (by decide) (by decide) q0) (fun _ _ qz1 => ?_)
  refine fp_ite ?_ ?_
  · refine fp_lp1 (fun _ kz3 _ _ qz2 => ?_) (fun _ _ => fp_none) qz1
    refine fp_ite ?_ ?_
    · refine fp_bd (fp_call (fr_X12_tell _ _ ) (by decide) (by decide) qz2) (fun _ _ qz4 => ?_)
      exact kz3 _ _ qz4
    · refine fp_jlH (FrX.sS qz2 (by decide) _) (fun hz5 qz6 => ?_)
      refine fp_jlH (FrX.sS qz6 (by decide) _) (fun hz7 qz8 => ?_)
      refine fp_gd ?_
      refine fp_jlH (FrX.aS qz8 (by decide) _ _) (fun hz9 qz10 => ?_)
      refine fp_gd ?_
      refine fp_jlH (FrX.aS qz10 (by decide) _ _) (fun hz11 qz12 => ?_)
      refine fp_lp1 (fun _ kz14 _ _ qz13 => ?_) (fun _ _ => fp_none) qz12
      refine fp_ite ?_ ?_
      · refine fp_gd ?_
        refine fp_jlH (FrX.aS qz13 (by decide) _ _) (fun hz15 qz16 => ?_)
        exact kz14 _ _ qz16
      · exact fp_some qz13
  · exact fp_some qz1
theorem fr_X12_find (h : Hp) : FpX (FrX [] [] h) (F_X12_find h) := by
  unfold F_X12_find
  have q0 := FrX.refl [] [] h
  refine fp_lp4 (fun _ kz2 _ _ _ _ _ qz1 => ?_) (fun _ _ _ _ _ => fp_none) q0
  refine fp_ite ?_ ?_
  · refine fp_gd ?_
    refine fp_jn3 (fun _ _ _ _ qz3 => ?_) (fun _ kz4 => ?_)
    · exact kz2 _ _ _ _ _ qz3
    · refine fp_ite ?_ ?_
      · exact kz4 _ _ _ _ qz1
      · refine fp_jn1 (fun _ _ qz5 => ?_) (fun _ kz6 => ?_)
        · refine fp_jn1 (fun _ _ qz7 => ?_) (fun _ kz8 => ?_)
          · exact kz4 _ _ _ _ qz7
          · refine fp_ite ?_ ?_
            · refine fp_gd ?_
              exact kz8 _ _ qz5
            · exact kz8 _ _ qz5
        · refine fp_jn0 (fun _ qz9 => ?_) (fun _ kz10 => ?_)
          · exact kz6 _ _ qz9
          · refine fp_ite ?_ ?_
            · exact kz10 _ qz1
            · refine fp_gd ?_
              refine fp_bd (fp_call (fr_X12_kindOf _ _ ) (fun _ z => absurd z (by simp)) (fun _ z => absurd z (by simp)) qz1) (fun _ _ qz11 => ?_)
              refine fp_ite ?_ ?_
              · exact kz6 _ _ qz11
              · exact kz10 _ qz11
  · refine fp_lp1 (fun _ kz13 _ _ qz12 => ?_) (fun _ _ => fp_none) qz1
    refine fp_jn0 (fun _ qz14 => ?_) (fun _ kz15 => ?_)
    · exact fp_some qz14
    · refine fp_ite ?_ ?_
      · refine fp_ite ?_ ?_
        · exact kz15 _ qz12
        · refine fp_bd (fp_call (fr_X12_within _ _ _ _ ) (fun _ z => absurd z (by simp)) (fun _ z => absurd z (by simp)) qz12) (fun _ _ qz16 => ?_)
          refine fp_ite ?_ ?_
          · exact kz15 _ qz16
          · refine fp_gd ?_
            refine fp_ite ?_ ?_
            · exact fp_some qz16
            · exact kz13 _ _ qz16
      · exact kz15 _ qz12
theorem fr_X12_isPicture (a1 : Int32) (h : Hp) : FpX (FrX [] [] h) (F_X12_isPicture a1 h) := by
  unfold F_X12_isPicture
  have q0 := FrX.refl [] [] h
  refine fp_bd (fp_call (fr_X12_within _ _ _ _ ) (fun _ z => absurd z (by simp)) (fun _ z => absurd z (by simp)) q0) (fun _ _ qz1 => ?_)
  refine fp_gd ?_
  exact fp_some qz1
theorem fr_X12_isMatter (a1 : Int32) (h : Hp) : FpX (FrX [] [] h) (F_X12_isMatter a1 h) := by
  unfold F_X12_isMatter
  have q0 := FrX.refl [] [] h
  refine fp_bd (fp_call (fr_X12_within _ _ _ _ ) (fun _ z => absurd z (by simp)) (fun _ z => absurd z (by simp)) q0) (fun _ _ qz1 => ?_)
  refine fp_gd ?_
  exact fp_some qz1
theorem fr_X12_value (a1 : Int32) (a2 : Int32) (h : Hp) : FpX (FrX [] [] h) (F_X12_value a1 a2 h) := by
  unfold F_X12_value
  have q0 := FrX.refl [] [] h
  refine fp_bd (fp_call (fr_X12_pieceAt _ _ _ ) (fun _ z => absurd z (by simp)) (fun _ z => absurd z (by simp)) q0) (fun _ _ qz1 => ?_)
  refine fp_jn1 (fun _ _ qz2 => ?_) (fun _ kz3 => ?_)
  · exact fp_some qz2
  · refine fp_ite ?_ ?_
    · exact kz3 _ _ qz1
    · refine fp_jlV (fun _ => ?_)
      refine fp_gd ?_
      exact kz3 _ _ qz1
theorem fr_X12_remove (a1 : Int32) (h : Hp) : FpX (FrX [] [124] h) (F_X12_remove a1 h) := by
  unfold F_X12_remove
  have q0 := FrX.refl [] [124] h
  refine fp_gd ?_
  refine fp_bd (fp_call (fr_X12_bring _ _ _ _ _ _ _ _ ) (fun _ z => absurd z (by simp)) (by decide) q0) (fun _ _ qz1 => ?_)
  refine fp_gd ?_
  refine fp_gd ?_
  refine fp_jlH (FrX.aS qz1 (by decide) _ _) (fun hz2 qz3 => ?_)
  exact fp_some qz3
theorem fr_X12_mostOf (a1 : Int32) (h : Hp) : FpX (FrX [] [] h) (F_X12_mostOf a1 h) := by
  unfold F_X12_mostOf
  have q0 := FrX.refl [] [] h
  refine fp_jn1 (fun _ _ qz1 => ?_) (fun _ kz2 => ?_)
  · exact fp_some qz1
  · refine fp_ite ?_ ?_
    · exact kz2 _ _ q0
    · refine fp_ite ?_ ?_
      · exact kz2 _ _ q0
      · refine fp_gd ?_
        refine fp_ite ?_ ?_
        · exact kz2 _ _ q0
        · exact kz2 _ _ q0
theorem fr_X12_pointAt (a1 : Int32) (h : Hp) : FpX (FrX [] [] h) (F_X12_pointAt a1 h) := by
  unfold F_X12_pointAt
  have q0 := FrX.refl [] [] h
  exact fp_some q0
theorem fr_X12_lengthAt (a1 : Int32) (h : Hp) : FpX (FrX [] [] h) (F_X12_lengthAt a1 h) := by
  unfold F_X12_lengthAt
  have q0 := FrX.refl [] [] h
  refine fp_jlV (fun _ => ?_)
  exact fp_some q0
theorem fr_X12_isUp (a1 : Int32) (h : Hp) : FpX (FrX [] [] h) (F_X12_isUp a1 h) := by
  unfold F_X12_isUp
  have q0 := FrX.refl [] [] h
  refine fp_bd (fp_call (fr_X12_pointAt _ _ ) (fun _ z => absurd z (by simp)) (fun _ z => absurd z (by simp)) q0) (fun _ _ qz1 => ?_)
  refine fp_bd (fp_call (fr_X12_within _ _ _ _ ) (fun _ z => absurd z (by simp)) (fun _ z => absurd z (by simp)) qz1) (fun _ _ qz2 => ?_)
  refine fp_gd ?_
  exact fp_some qz2
theorem fr_X12_off (a1 : Int32) (a2 : Int32) (h : Hp) : FpX (FrX [] [] h) (F_X12_off a1 a2 h) := by
  unfold F_X12_off
  have q0 := FrX.refl [] [] h
  refine fp_jn1 (fun _ _ qz1 => ?_) (fun _ kz2 => ?_)
  · exact fp_some qz1
  · refine fp_ite ?_ ?_
    · exact kz2 _ _ q0
    · exact kz2 _ _ q0
theorem fr_X12_isIn (a1 : Int32) (a2 : Int32) (h : Hp) : FpX (FrX [] [] h) (F_X12_isIn a1 a2 h) := by
  unfold F_X12_isIn
  have q0 := FrX.refl [] [] h
  refine fp_bd (fp_call (fr_X12_pieceAt _ _ _ ) (fun _ z => absurd z (by simp)) (fun _ z => absurd z (by simp)) q0) (fun _ _ qz1 => ?_)
  refine fp_bd (fp_call (fr_X12_pieceAt _ _ _ ) (fun _ z => absurd z (by simp)) (fun _ z => absurd z (by simp)) qz1) (fun _ _ qz2 => ?_)
  refine fp_jn1 (fun _ _ qz3 => ?_) (fun _ kz4 => ?_)
  · refine fp_jn1 (fun _ _ qz5 => ?_) (fun _ kz6 => ?_)
    · refine fp_jn1 (fun _ _ qz7 => ?_) (fun _ kz8 => ?_)
      · refine fp_gd ?_
        exact fp_some qz7
      · refine fp_jn0 (fun _ qz9 => ?_) (fun _ kz10 => ?_)
        · exact kz8 _ _ qz9
        · refine fp_ite ?_ ?_
          · exact kz10 _ qz5
          · refine fp_jn0 (fun _ qz11 => ?_) (fun _ kz12 => ?_)
            · exact kz8 _ _ qz11
            · refine fp_ite ?_ ?_
              · exact kz12 _ qz5
              · refine fp_bd (fp_call (fr_X12_lengthAt _ _ ) (fun _ z => absurd z (by simp)) (fun _ z => absurd z (by simp)) qz5) (fun _ _ qz13 => ?_)
                refine fp_jlV (fun _ => ?_)
                refine fp_gd ?_
                refine fp_bd (fp_call (fr_X12_off _ _ _ ) (fun _ z => absurd z (by simp)) (fun _ z => absurd z (by simp)) qz13) (fun _ _ qz14 => ?_)
                refine fp_jlV (fun _ => ?_)
                refine fp_gd ?_
                refine fp_ite ?_ ?_
                · exact kz10 _ qz14
                · exact kz12 _ qz14
    · refine fp_jn0 (fun _ qz15 => ?_) (fun _ kz16 => ?_)
      · exact kz6 _ _ qz15
      · refine fp_ite ?_ ?_
        · exact kz16 _ qz3
        · refine fp_jn0 (fun _ qz17 => ?_) (fun _ kz18 => ?_)
          · exact kz6 _ _ qz17
          · refine fp_ite ?_ ?_
            · exact kz18 _ qz3
            · refine fp_bd (fp_call (fr_X12_pointAt _ _ ) (fun _ z => absurd z (by simp)) (fun _ z => absurd z (by simp)) qz3) (fun _ _ qz19 => ?_)
              refine fp_jlV (fun _ => ?_)
              refine fp_gd ?_
              refine fp_bd (fp_call (fr_X12_off _ _ _ ) (fun _ z => absurd z (by simp)) (fun _ z => absurd z (by simp)) qz19) (fun _ _ qz20 => ?_)
              refine fp_jlV (fun _ => ?_)
              refine fp_gd ?_
              refine fp_ite ?_ ?_
              · exact kz16 _ qz20
              · exact kz18 _ qz20
  · refine fp_jn0 (fun _ qz21 => ?_) (fun _ kz22 => ?_)
    · exact kz4 _ _ qz21
    · refine fp_jn0 (fun _ qz23 => ?_) (fun _ kz24 => ?_)
      · refine fp_bd (fp_call (fr_X12_isUp _ _ ) (fun _ z => absurd z (by simp)) (fun _ z => absurd z (by simp)) qz23) (fun _ _ qz25 => ?_)
        refine fp_ite ?_ ?_
        · exact kz4 _ _ qz25
        · exact kz22 _ qz25
      · refine fp_ite ?_ ?_
        · refine fp_ite ?_ ?_
          · exact kz22 _ qz2
          · exact kz24 _ qz2
        · exact kz24 _ qz2
theorem fr_X12_has (a1 : Int64) (a2 : Int32) (h : Hp) : FpX (FrX [] [] h) (F_X12_has a1 a2 h) := by
  unfold F_X12_has
  have q0 := FrX.refl [] [] h
  refine fp_jn1 (fun _ _ qz1 => ?_) (fun _ kz2 => ?_)
  · refine fp_gd ?_
    exact fp_some qz1
  · refine fp_ite ?_ ?_
    · exact kz2 _ _ q0
    · exact kz2 _ _ q0
theorem fr_X12_layWindow (a1 : Int32) (h : Hp) : FpX (FrX [] [129] h) (F_X12_layWindow a1 h) := by
  unfold F_X12_layWindow
  have q0 := FrX.refl [] [129] h
  refine fp_gd ?_
  refine fp_jlH (FrX.lS q0 (by decide) _ _) (fun hz1 qz2 => ?_)
  refine fp_lp1 (fun _ kz4 _ _ qz3 => ?_) (fun _ _ => fp_none) qz2
  refine fp_ite ?_ ?_
  · refine fp_gd ?_
    refine fp_bd (fp_call (fr_X12_isIn _ _ _ ) (fun _ z => absurd z (by simp)) (fun _ z => absurd z (by simp)) qz3) (fun _ _ qz5 => ?_)
    refine fp_jn1 (fun _ _ qz6 => ?_) (fun _ kz7 => ?_)
    · refine fp_gd ?_
      refine fp_jlH (FrX.lS qz6 (by decide) _ _) (fun hz8 qz9 => ?_)
      exact kz4 _ _ qz9
    · refine fp_ite ?_ ?_
      · exact kz7 _ _ qz5
      · exact kz7 _ _ qz5
  · exact fp_some qz3
theorem fr_X12_isAhead (a1 : Int32) (a2 : Int32) (h : Hp) : FpX (FrX [] [] h) (F_X12_isAhead a1 a2 h) := by
  unfold F_X12_isAhead
  have q0 := FrX.refl [] [] h
  refine fp_lp2 (fun _ kz2 _ _ _ qz1 => ?_) (fun _ _ _ => fp_none) q0
  refine fp_ite ?_ ?_
  · refine fp_bd (fp_call (fr_X12_value _ _ _ ) (fun _ z => absurd z (by simp)) (fun _ z => absurd z (by simp)) qz1) (fun _ _ qz3 => ?_)
    refine fp_bd (fp_call (fr_X12_value _ _ _ ) (fun _ z => absurd z (by simp)) (fun _ z => absurd z (by simp)) qz3) (fun _ _ qz4 => ?_)
    refine fp_jn1 (fun _ _ qz5 => ?_) (fun _ kz6 => ?_)
    · refine fp_jn1 (fun _ _ qz7 => ?_) (fun _ kz8 => ?_)
      · exact kz2 _ _ _ qz7
      · refine fp_jn0 (fun _ qz9 => ?_) (fun _ kz10 => ?_)
        · exact kz8 _ _ qz9
        · refine fp_ite ?_ ?_
          · refine fp_jn0 (fun _ qz11 => ?_) (fun _ kz12 => ?_)
            · exact kz8 _ _ qz11
            · refine fp_ite ?_ ?_
              · exact kz12 _ qz5
              · refine fp_gd ?_
                refine fp_ite ?_ ?_
                · refine fp_ite ?_ ?_
                  · exact kz10 _ qz5
                  · exact kz12 _ qz5
                · refine fp_gd ?_
                  refine fp_ite ?_ ?_
                  · exact kz12 _ qz5
                  · refine fp_ite ?_ ?_
                    · exact kz10 _ qz5
                    · exact kz12 _ qz5
          · exact kz10 _ qz5
    · refine fp_jn0 (fun _ qz13 => ?_) (fun _ kz14 => ?_)
      · exact kz6 _ _ qz13
      · refine fp_ite ?_ ?_
        · exact kz14 _ qz4
        · refine fp_ite ?_ ?_
          · exact kz14 _ qz4
          · exact kz6 _ _ qz4
  · refine fp_gd ?_
    exact fp_some qz1
theorem fr_X12_layAll (h : Hp) : FpX (FrX [] [129, 130] h) (F_X12_layAll h) := by
  unfold F_X12_layAll
  have q0 := FrX.refl [] [129, 130] h
  refine fp_lp1 (fun _ kz2 _ _ qz1 => ?_) (fun _ _ => fp_none) q0
  refine fp_ite ?_ ?_
  · refine fp_bd (fp_call (fr_X12_layWindow _ _ ) (fun _ z => absurd z (by simp)) (by decide) qz1) (fun _ _ qz3 => ?_)
    refine fp_lp1 (fun _ kz5 _ _ qz4 => ?_) (fun _ _ => fp_none) qz3
    refine fp_ite ?_ ?_
    · refine fp_bd (fp_call (fr_X12_isAhead _ _ _ ) (fun _ z => absurd z (by simp)) (fun _ z => absurd z (by simp)) qz4) (fun _ _ qz6 => ?_)
      refine fp_gd ?_
      refine fp_jlH (FrX.aS qz6 (by decide) _ _) (fun hz7 qz8 => ?_)
      exact kz5 _ _ qz8
    · exact kz2 _ _ qz4
  · exact fp_some qz1
theorem fr_X12_isWhole (a1 : Int32) (a2 : Int32) (h : Hp) : FpX (FrX [] [] h) (F_X12_isWhole a1 a2 h) := by
  unfold F_X12_isWhole
  have q0 := FrX.refl [] [] h
  refine fp_lp3 (fun _ kz2 _ _ _ _ qz1 => ?_) (fun _ _ _ _ => fp_none) q0
  refine fp_ite ?_ ?_
  · refine fp_gd ?_
    refine fp_bd (fp_call (fr_X12_value _ _ _ ) (fun _ z => absurd z (by simp)) (fun _ z => absurd z (by simp)) qz1) (fun _ _ qz3 => ?_)
    refine fp_jn1 (fun _ _ qz4 => ?_) (fun _ kz5 => ?_)
    · refine fp_jn1 (fun _ _ qz6 => ?_) (fun _ kz7 => ?_)
      · exact kz2 _ _ _ _ qz6
      · refine fp_jn0 (fun _ qz8 => ?_) (fun _ kz9 => ?_)
        · exact kz7 _ _ qz8
        · refine fp_ite ?_ ?_
          · refine fp_jn0 (fun _ qz10 => ?_) (fun _ kz11 => ?_)
            · exact kz7 _ _ qz10
            · refine fp_ite ?_ ?_
              · exact kz11 _ qz4
              · refine fp_ite ?_ ?_
                · exact kz9 _ qz4
                · exact kz11 _ qz4
          · exact kz9 _ qz4
    · refine fp_jn0 (fun _ qz12 => ?_) (fun _ kz13 => ?_)
      · exact kz5 _ _ qz12
      · refine fp_ite ?_ ?_
        · refine fp_ite ?_ ?_
          · exact kz13 _ qz3
          · exact kz5 _ _ qz3
        · exact kz13 _ qz3
  · refine fp_jn1 (fun _ _ qz14 => ?_) (fun _ kz15 => ?_)
    · refine fp_gd ?_
      exact fp_some qz14
    · refine fp_ite ?_ ?_
      · exact kz15 _ _ qz1
      · exact kz15 _ _ qz1
theorem fr_X12_isLast (a1 : Int32) (h : Hp) : FpX (FrX [] [] h) (F_X12_isLast a1 h) := by
  unfold F_X12_isLast
  have q0 := FrX.refl [] [] h
  refine fp_gd ?_
  refine fp_jlV (fun _ => ?_)
  refine fp_lp2 (fun _ kz2 _ _ _ qz1 => ?_) (fun _ _ _ => fp_none) q0
  refine fp_ite ?_ ?_
  · refine fp_jn1 (fun _ _ qz3 => ?_) (fun _ kz4 => ?_)
    · exact kz2 _ _ _ qz3
    · refine fp_jn0 (fun _ qz5 => ?_) (fun _ kz6 => ?_)
      · exact kz4 _ _ qz5
      · refine fp_ite ?_ ?_
        · exact kz6 _ qz1
        · refine fp_gd ?_
          refine fp_jlV (fun _ => ?_)
          refine fp_gd ?_
          refine fp_ite ?_ ?_
          · exact kz4 _ _ qz1
          · exact kz6 _ qz1
  · refine fp_lp2 (fun _ kz8 _ _ _ qz7 => ?_) (fun _ _ _ => fp_none) qz1
    refine fp_jn0 (fun _ qz9 => ?_) (fun _ kz10 => ?_)
    · refine fp_gd ?_
      exact fp_some qz9
    · refine fp_ite ?_ ?_
      · refine fp_ite ?_ ?_
        · exact kz10 _ qz7
        · refine fp_gd ?_
          refine fp_jn1 (fun _ _ qz11 => ?_) (fun _ kz12 => ?_)
          · exact kz8 _ _ _ qz11
          · refine fp_jn0 (fun _ qz13 => ?_) (fun _ kz14 => ?_)
            · exact kz12 _ _ qz13
            · refine fp_ite ?_ ?_
              · refine fp_bd (fp_call (fr_X12_value _ _ _ ) (fun _ z => absurd z (by simp)) (fun _ z => absurd z (by simp)) qz7) (fun _ _ qz15 => ?_)
                refine fp_ite ?_ ?_
                · refine fp_bd (fp_call (fr_X12_isWhole _ _ _ ) (fun _ z => absurd z (by simp)) (fun _ z => absurd z (by simp)) qz15) (fun _ _ qz16 => ?_)
                  refine fp_ite ?_ ?_
                  · exact kz12 _ _ qz16
                  · exact kz14 _ qz16
                · exact kz14 _ qz15
              · exact kz14 _ qz7
      · exact kz10 _ qz7
theorem fr_X12_firstOf (a1 : Int64) (a2 : Int32) (h : Hp) : FpX (FrX [] [] h) (F_X12_firstOf a1 a2 h) := by
  unfold F_X12_firstOf
  have q0 := FrX.refl [] [] h
  refine fp_jlV (fun _ => ?_)
  refine fp_lp1 (fun _ kz2 _ _ qz1 => ?_) (fun _ _ => fp_none) q0
  refine fp_jn0 (fun _ qz3 => ?_) (fun _ kz4 => ?_)
  · exact fp_some qz3
  · refine fp_ite ?_ ?_
    · refine fp_bd (fp_call (fr_X12_has _ _ _ ) (fun _ z => absurd z (by simp)) (fun _ z => absurd z (by simp)) qz1) (fun _ _ qz5 => ?_)
      refine fp_ite ?_ ?_
      · exact kz2 _ _ qz5
      · exact kz4 _ qz5
    · exact kz4 _ qz1
theorem fr_X12_lastOf (a1 : Int64) (a2 : Int32) (h : Hp) : FpX (FrX [] [] h) (F_X12_lastOf a1 a2 h) := by
  unfold F_X12_lastOf
  have q0 := FrX.refl [] [] h
  refine fp_jlV (fun _ => ?_)
  refine fp_lp1 (fun _ kz2 _ _ qz1 => ?_) (fun _ _ => fp_none) q0
  refine fp_jn0 (fun _ qz3 => ?_) (fun _ kz4 => ?_)
  · exact fp_some qz3
  · refine fp_ite ?_ ?_
    · exact kz4 _ qz1
    · refine fp_bd (fp_call (fr_X12_has _ _ _ ) (fun _ z => absurd z (by simp)) (fun _ z => absurd z (by simp)) qz1) (fun _ _ qz5 => ?_)
      refine fp_ite ?_ ?_
      · exact kz2 _ _ qz5
      · exact kz4 _ qz5
theorem fr_X12_isGiven (a1 : Int32) (h : Hp) : FpX (FrX [] [132] h) (F_X12_isGiven a1 h) := by
  unfold F_X12_isGiven
  have q0 := FrX.refl [] [132] h
  refine fp_gd ?_
  refine fp_jlV (fun _ => ?_)
  refine fp_gd ?_
  refine fp_jn1 (fun _ _ qz1 => ?_) (fun _ kz2 => ?_)
  · refine fp_bd (fp_call (fr_X12_firstOf _ _ _ ) (fun _ z => absurd z (by simp)) (fun _ z => absurd z (by simp)) qz1) (fun _ _ qz3 => ?_)
    refine fp_gd ?_
    refine fp_jlH (FrX.aS qz3 (by decide) _ _) (fun hz4 qz5 => ?_)
    refine fp_gd ?_
    refine fp_jn1 (fun _ _ qz6 => ?_) (fun _ kz7 => ?_)
    · refine fp_gd ?_
      exact fp_some qz6
    · refine fp_ite ?_ ?_
      · exact kz7 _ _ qz5
      · exact kz7 _ _ qz5
  · refine fp_ite ?_ ?_
    · exact kz2 _ _ q0
    · refine fp_gd ?_
      exact kz2 _ _ q0
theorem fr_X12_note (a1 : Int32) (h : Hp) : FpX (FrX [] [133, 134, 135, 136] h) (F_X12_note a1 h) := by
  unfold F_X12_note
  have q0 := FrX.refl [] [133, 134, 135, 136] h
  refine fp_jlV (fun _ => ?_)
  refine fp_lp1 (fun _ kz2 _ _ qz1 => ?_) (fun _ _ => fp_none) q0
  refine fp_ite ?_ ?_
  · refine fp_lp1 (fun _ kz4 _ _ qz3 => ?_) (fun _ _ => fp_none) qz1
    refine fp_ite ?_ ?_
    · refine fp_gd ?_
      refine fp_jlV (fun _ => ?_)
      refine fp_jn1 (fun _ _ qz5 => ?_) (fun _ kz6 => ?_)
      · refine fp_jn1 (fun _ _ qz7 => ?_) (fun _ kz8 => ?_)
        · refine fp_lp1 (fun _ kz10 _ _ qz9 => ?_) (fun _ _ => fp_none) qz7
          refine fp_ite ?_ ?_
          · refine fp_jn1 (fun _ _ qz11 => ?_) (fun _ kz12 => ?_)
            · refine fp_gd ?_
              refine fp_jlH (FrX.aS qz11 (by decide) _ _) (fun hz13 qz14 => ?_)
              refine fp_jn1 (fun _ _ qz15 => ?_) (fun _ kz16 => ?_)
              · refine fp_gd ?_
                refine fp_jlH (FrX.aS qz15 (by decide) _ _) (fun hz17 qz18 => ?_)
                exact kz4 _ _ qz18
              · refine fp_jn0 (fun _ qz19 => ?_) (fun _ kz20 => ?_)
                · exact kz16 _ _ qz19
                · refine fp_ite ?_ ?_
                  · exact kz20 _ qz14
                  · refine fp_gd ?_
                    refine fp_ite ?_ ?_
                    · exact kz20 _ qz14
                    · refine fp_gd ?_
                      exact kz16 _ _ qz14
            · refine fp_jn0 (fun _ qz21 => ?_) (fun _ kz22 => ?_)
              · exact kz12 _ _ qz21
              · refine fp_ite ?_ ?_
                · exact kz22 _ qz9
                · refine fp_gd ?_
                  refine fp_ite ?_ ?_
                  · exact kz22 _ qz9
                  · refine fp_gd ?_
                    exact kz12 _ _ qz9
          · refine fp_gd ?_
            refine fp_gd ?_
            refine fp_gd ?_
            refine fp_jlH (FrX.lS qz9 (by decide) _ _) (fun hz23 qz24 => ?_)
            exact kz10 _ _ qz24
        · refine fp_ite ?_ ?_
          · exact kz8 _ _ qz5
          · refine fp_gd ?_
            exact kz8 _ _ qz5
      · refine fp_ite ?_ ?_
        · exact kz6 _ _ qz3
        · refine fp_gd ?_
          exact kz6 _ _ qz3
    · exact fp_some qz3
  · refine fp_gd ?_
    refine fp_gd ?_
    refine fp_jn1 (fun _ _ qz25 => ?_) (fun _ kz26 => ?_)
    · refine fp_bd (fp_call (fr_X12_lastOf _ _ _ ) (fun _ z => absurd z (by simp)) (fun _ z => absurd z (by simp)) qz25) (fun _ _ qz27 => ?_)
      refine fp_gd ?_
      refine fp_jlH (FrX.aS qz27 (by decide) _ _) (fun hz28 qz29 => ?_)
      exact kz2 _ _ qz29
    · refine fp_ite ?_ ?_
      · exact kz26 _ _ qz1
      · refine fp_gd ?_
        exact kz26 _ _ qz1
theorem fr_X12_weigh (a1 : Int32) (a2 : Int32) (a3 : Int32) (a4 : Int32) (h : Hp) : FpX (FrX [7522, 7527] [133, 134, 135, 136, 137] h) (F_X12_weigh a1 a2 a3 a4 h) := by
  unfold F_X12_weigh
  have q0 := FrX.refl [7522, 7527] [133, 134, 135, 136, 137] h
  refine fp_bd (fp_call (fr_X12_note _ _ ) (fun _ z => absurd z (by simp)) (by decide) q0) (fun _ _ qz1 => ?_)
  refine fp_lp3 (fun _ kz3 _ _ _ _ qz2 => ?_) (fun _ _ _ _ => fp_none) qz1
  refine fp_ite ?_ ?_
  · refine fp_jn1 (fun _ _ qz4 => ?_) (fun _ kz5 => ?_)
    · refine fp_gd ?_
      refine fp_jlH (FrX.aS qz4 (by decide) _ _) (fun hz6 qz7 => ?_)
      refine fp_gd ?_
      refine fp_jn1 (fun _ _ qz8 => ?_) (fun _ kz9 => ?_)
      · refine fp_gd ?_
        refine fp_jn1 (fun _ _ qz10 => ?_) (fun _ kz11 => ?_)
        · exact kz3 _ _ _ _ qz10
        · refine fp_ite ?_ ?_
          · exact kz11 _ _ qz8
          · exact kz11 _ _ qz8
      · refine fp_ite ?_ ?_
        · exact kz9 _ _ qz7
        · exact kz9 _ _ qz7
    · refine fp_ite ?_ ?_
      · refine fp_gd ?_
        exact kz5 _ _ qz2
      · refine fp_gd ?_
        exact kz5 _ _ qz2
  · refine fp_jn1 (fun _ _ qz12 => ?_) (fun _ kz13 => ?_)
    · refine fp_jlH (FrX.sS qz12 (by decide) _) (fun hz14 qz15 => ?_)
      refine fp_jlH (FrX.sS qz15 (by decide) _) (fun hz16 qz17 => ?_)
      exact fp_some qz17
    · refine fp_ite ?_ ?_
      · exact kz13 _ _ qz2
      · exact kz13 _ _ qz2
theorem fr_X12_layOrders (a1 : Int32) (a2 : Int32) (a3 : Int32) (a4 : Int32) (a5 : Int32) (h : Hp) : FpX (FrX [7522, 7527] [129, 130, 131, 132, 133, 134, 135, 136, 137] h) (F_X12_layOrders a1 a2 a3 a4 a5 h) := by
  unfold F_X12_layOrders
  have q0 := FrX.refl [7522, 7527] [129, 130, 131, 132, 133, 134, 135, 136, 137] h
  refine fp_bd (fp_call (fr_X12_layAll _ ) (fun _ z => absurd z (by simp)) (by decide) q0) (fun _ _ qz1 => ?_)
  refine fp_jlH (FrX.sS qz1 (by decide) _) (fun hz2 qz3 => ?_)
  refine fp_jlH (FrX.sS qz3 (by decide) _) (fun hz4 qz5 => ?_)
  refine fp_lp1 (fun _ kz7 _ _ qz6 => ?_) (fun _ _ => fp_none) qz5
  refine fp_ite ?_ ?_
  · refine fp_gd ?_
    refine fp_jlH (FrX.lS qz6 (by decide) _ _) (fun hz8 qz9 => ?_)
    exact kz7 _ _ qz9
  · refine fp_lp2 (fun _ kz11 _ _ _ qz10 => ?_) (fun _ _ _ => fp_none) qz6
    refine fp_ite ?_ ?_
    · refine fp_jlV (fun _ => ?_)
      exact kz11 _ _ _ qz10
    · refine fp_ite ?_ ?_
      · refine fp_jlH (FrX.sS qz10 (by decide) _) (fun hz12 qz13 => ?_)
        exact fp_some qz13
      · refine fp_gd ?_
        refine fp_jlH (FrX.aS qz10 (by decide) _ _) (fun hz14 qz15 => ?_)
        refine fp_lp2 (fun _ kz17 _ _ _ qz16 => ?_) (fun _ _ _ => fp_none) qz15
        refine fp_jn0 (fun _ qz18 => ?_) (fun _ kz19 => ?_)
        · exact fp_some qz18
        · refine fp_ite ?_ ?_
          · exact kz19 _ qz16
          · refine fp_ite ?_ ?_
            · refine fp_gd ?_
              refine fp_jn1 (fun _ _ qz20 => ?_) (fun _ kz21 => ?_)
              · refine fp_gd ?_
                refine fp_gd ?_
                refine fp_jlH (FrX.aS qz20 (by decide) _ _) (fun hz22 qz23 => ?_)
                refine fp_lp0 (fun _ kz25 _ qz24 => ?_) (fun _ => fp_none) qz23
                refine fp_gd ?_
                refine fp_jn0 (fun _ qz26 => ?_) (fun _ kz27 => ?_)
                · refine fp_gd ?_
                  refine fp_ite ?_ ?_
                  · exact kz17 _ _ _ qz26
                  · refine fp_bd (fp_call (fr_X12_isLast _ _ ) (fun _ z => absurd z (by simp)) (fun _ z => absurd z (by simp)) qz26) (fun _ _ qz28 => ?_)
                    refine fp_ite ?_ ?_
                    · exact kz17 _ _ _ qz28
                    · refine fp_bd (fp_call (fr_X12_isGiven _ _ ) (fun _ z => absurd z (by simp)) (by decide) qz28) (fun _ _ qz29 => ?_)
                      refine fp_ite ?_ ?_
                      · exact kz17 _ _ _ qz29
                      · refine fp_gd ?_
                        refine fp_jlV (fun _ => ?_)
                        refine fp_ite ?_ ?_
                        · refine fp_bd (fp_call (fr_X12_weigh _ _ _ _ _ ) (by decide) (by decide) qz29) (fun _ _ qz30 => ?_)
                          exact kz17 _ _ _ qz30
                        · refine fp_gd ?_
                          refine fp_jlH (FrX.aS qz29 (by decide) _ _) (fun hz31 qz32 => ?_)
                          exact kz17 _ _ _ qz32
                · refine fp_ite ?_ ?_
                  · refine fp_gd ?_
                    refine fp_gd ?_
                    refine fp_ite ?_ ?_
                    · refine fp_gd ?_
                      refine fp_gd ?_
                      refine fp_jlH (FrX.aS qz24 (by decide) _ _) (fun hz33 qz34 => ?_)
                      exact kz25 _ qz34
                    · exact kz27 _ qz24
                  · exact kz27 _ qz24
              · refine fp_ite ?_ ?_
                · exact kz21 _ _ qz16
                · refine fp_gd ?_
                  exact kz21 _ _ qz16
            · exact kz19 _ qz16
theorem fr_X12_whole (h : Hp) : FpX (FrX [] [] h) (F_X12_whole h) := by
  unfold F_X12_whole
  have q0 := FrX.refl [] [] h
  exact fp_some q0
theorem fr_X12_many (h : Hp) : FpX (FrX [7522, 7527] [129, 130, 131, 132, 133, 134, 135, 136, 137] h) (F_X12_many h) := by
  unfold F_X12_many
  have q0 := FrX.refl [7522, 7527] [129, 130, 131, 132, 133, 134, 135, 136, 137] h
  refine fp_bd (fp_call (fr_X12_whole _ ) (fun _ z => absurd z (by simp)) (fun _ z => absurd z (by simp)) q0) (fun _ _ qz1 => ?_)
  refine fp_bd (fp_call (fr_X12_layOrders _ _ _ _ _ _ ) (by decide) (by decide) qz1) (fun _ _ qz2 => ?_)
  exact fp_some qz2
theorem fr_X12_isAny (a1 : Int32) (h : Hp) : FpX (FrX [7522, 7527] [129, 130, 131, 132, 133, 134, 135, 136, 137] h) (F_X12_isAny a1 h) := by
  unfold F_X12_isAny
  have q0 := FrX.refl [7522, 7527] [129, 130, 131, 132, 133, 134, 135, 136, 137] h
  refine fp_bd (fp_call (fr_X12_layOrders _ _ _ _ _ _ ) (by decide) (by decide) q0) (fun _ _ qz1 => ?_)
  refine fp_jn1 (fun _ _ qz2 => ?_) (fun _ kz3 => ?_)
  · refine fp_gd ?_
    exact fp_some qz2
  · refine fp_ite ?_ ?_
    · exact kz3 _ _ qz1
    · exact kz3 _ _ qz1
theorem fr_X12_ones (a1 : Int64) (h : Hp) : FpX (FrX [] [] h) (F_X12_ones a1 h) := by
  unfold F_X12_ones
  have q0 := FrX.refl [] [] h
  refine fp_lp2 (fun _ kz2 _ _ _ qz1 => ?_) (fun _ _ _ => fp_none) q0
  refine fp_ite ?_ ?_
  · refine fp_bd (fp_call (fr_X12_has _ _ _ ) (fun _ z => absurd z (by simp)) (fun _ z => absurd z (by simp)) qz1) (fun _ _ qz3 => ?_)
    refine fp_jn1 (fun _ _ qz4 => ?_) (fun _ kz5 => ?_)
    · refine fp_jlV (fun _ => ?_)
      exact kz2 _ _ _ qz4
    · refine fp_ite ?_ ?_
      · exact kz5 _ _ qz3
      · exact kz5 _ _ qz3
  · exact fp_some qz1
theorem fr_X12_shown (a1 : Int64) (a2 : Int32) (h : Hp) : FpX (FrX [] [] h) (F_X12_shown a1 a2 h) := by
  unfold F_X12_shown
  have q0 := FrX.refl [] [] h
  refine fp_ite ?_ ?_
  · refine fp_bd (fp_call (fr_X12_ones _ _ ) (fun _ z => absurd z (by simp)) (fun _ z => absurd z (by simp)) q0) (fun _ _ qz1 => ?_)
    exact fp_some qz1
  · refine fp_jn1 (fun _ _ qz2 => ?_) (fun _ kz3 => ?_)
    · refine fp_bd (fp_call (fr_X12_within _ _ _ _ ) (fun _ z => absurd z (by simp)) (fun _ z => absurd z (by simp)) qz2) (fun _ _ qz4 => ?_)
      refine fp_jn1 (fun _ _ qz5 => ?_) (fun _ kz6 => ?_)
      · exact fp_some qz5
      · refine fp_ite ?_ ?_
        · exact kz6 _ _ qz4
        · exact kz6 _ _ qz4
    · refine fp_ite ?_ ?_
      · refine fp_bd (fp_call (fr_X12_firstOf _ _ _ ) (fun _ z => absurd z (by simp)) (fun _ z => absurd z (by simp)) q0) (fun _ _ qz7 => ?_)
        exact kz3 _ _ qz7
      · refine fp_bd (fp_call (fr_X12_lastOf _ _ _ ) (fun _ z => absurd z (by simp)) (fun _ z => absurd z (by simp)) q0) (fun _ _ qz8 => ?_)
        exact kz3 _ _ qz8
theorem fr_X12_isBefore (a1 : Int32) (a2 : Int32) (h : Hp) : FpX (FrX [] [] h) (F_X12_isBefore a1 a2 h) := by
  unfold F_X12_isBefore
  have q0 := FrX.refl [] [] h
  refine fp_lp2 (fun _ kz2 _ _ _ qz1 => ?_) (fun _ _ _ => fp_none) q0
  refine fp_ite ?_ ?_
  · refine fp_bd (fp_call (fr_X12_isAhead _ _ _ ) (fun _ z => absurd z (by simp)) (fun _ z => absurd z (by simp)) qz1) (fun _ _ qz3 => ?_)
    refine fp_jn1 (fun _ _ qz4 => ?_) (fun _ kz5 => ?_)
    · refine fp_jlV (fun _ => ?_)
      exact kz2 _ _ _ qz4
    · refine fp_ite ?_ ?_
      · exact kz5 _ _ qz3
      · exact kz5 _ _ qz3
  · refine fp_lp2 (fun _ kz7 _ _ _ qz6 => ?_) (fun _ _ _ => fp_none) qz1
    refine fp_ite ?_ ?_
    · refine fp_jn1 (fun _ _ qz8 => ?_) (fun _ kz9 => ?_)
      · refine fp_gd ?_
        exact fp_some qz8
      · refine fp_ite ?_ ?_
        · exact kz9 _ _ qz6
        · exact kz9 _ _ qz6
    · refine fp_lp2 (fun _ kz11 _ _ _ qz10 => ?_) (fun _ _ _ => fp_none) qz6
      refine fp_ite ?_ ?_
      · refine fp_lp2 (fun _ kz13 _ _ _ qz12 => ?_) (fun _ _ _ => fp_none) qz10
        refine fp_jn0 (fun _ qz14 => ?_) (fun _ kz15 => ?_)
        · exact kz11 _ _ _ qz14
        · refine fp_ite ?_ ?_
          · refine fp_ite ?_ ?_
            · refine fp_bd (fp_call (fr_X12_isAhead _ _ _ ) (fun _ z => absurd z (by simp)) (fun _ z => absurd z (by simp)) qz12) (fun _ _ qz16 => ?_)
              refine fp_jn1 (fun _ _ qz17 => ?_) (fun _ kz18 => ?_)
              · refine fp_jlV (fun _ => ?_)
                exact kz13 _ _ _ qz17
              · refine fp_ite ?_ ?_
                · exact kz18 _ _ qz16
                · exact kz18 _ _ qz16
            · exact kz15 _ qz12
          · exact kz15 _ qz12
      · exact kz7 _ _ _ qz10
theorem fr_X12_lettersOf (a1 : Int32) (h : Hp) : FpX (FrX [] [] h) (F_X12_lettersOf a1 h) := by
  unfold F_X12_lettersOf
  have q0 := FrX.refl [] [] h
  refine fp_gd ?_
  refine fp_jlV (fun _ => ?_)
  refine fp_lp2 (fun _ kz2 _ _ _ qz1 => ?_) (fun _ _ _ => fp_none) q0
  refine fp_ite ?_ ?_
  · refine fp_jlV (fun _ => ?_)
    exact kz2 _ _ _ qz1
  · exact fp_some qz1
theorem fr_X12_countOf (a1 : Int32) (a2 : Int32) (h : Hp) : FpX (FrX [] [] h) (F_X12_countOf a1 a2 h) := by
  unfold F_X12_countOf
  have q0 := FrX.refl [] [] h
  refine fp_lp2 (fun _ kz2 _ _ _ qz1 => ?_) (fun _ _ _ => fp_none) q0
  refine fp_jn1 (fun _ _ qz3 => ?_) (fun _ kz4 => ?_)
  · refine fp_ite ?_ ?_
    · refine fp_jn1 (fun _ _ qz5 => ?_) (fun _ kz6 => ?_)
      · refine fp_jlV (fun _ => ?_)
        exact kz2 _ _ _ qz5
      · refine fp_ite ?_ ?_
        · refine fp_bd (fp_call (fr_X12_isBefore _ _ _ ) (fun _ z => absurd z (by simp)) (fun _ z => absurd z (by simp)) qz3) (fun _ _ qz7 => ?_)
          refine fp_ite ?_ ?_
          · exact kz6 _ _ qz7
          · exact kz6 _ _ qz7
        · refine fp_jlV (fun _ => ?_)
          refine fp_gd ?_
          refine fp_ite ?_ ?_
          · exact kz6 _ _ qz3
          · exact kz6 _ _ qz3
    · exact fp_some qz3
  · refine fp_ite ?_ ?_
    · exact kz4 _ _ qz1
    · refine fp_gd ?_
      exact kz4 _ _ qz1
theorem fr_X12_picture (a1 : Int32) (a2 : Int32) (h : Hp) : FpX (FrX [] [129] h) (F_X12_picture a1 a2 h) := by
  unfold F_X12_picture
  have q0 := FrX.refl [] [129] h
  refine fp_bd (fp_call (fr_X12_isPicture _ _ ) (fun _ z => absurd z (by simp)) (fun _ z => absurd z (by simp)) q0) (fun _ _ qz1 => ?_)
  refine fp_ite ?_ ?_
  · exact fp_some qz1
  · refine fp_bd (fp_call (fr_X12_layWindow _ _ ) (fun _ z => absurd z (by simp)) (by decide) qz1) (fun _ _ qz2 => ?_)
    refine fp_jn0 (fun _ qz3 => ?_) (fun _ kz4 => ?_)
    · refine fp_gd ?_
      refine fp_bd (fp_call (fr_X12_shown _ _ _ ) (fun _ z => absurd z (by simp)) (fun _ z => absurd z (by simp)) qz3) (fun _ _ qz5 => ?_)
      exact fp_some qz5
    · refine fp_jn0 (fun _ qz6 => ?_) (fun _ kz7 => ?_)
      · refine fp_jn1 (fun _ _ qz8 => ?_) (fun _ kz9 => ?_)
        · refine fp_bd (fp_call (fr_X12_countOf _ _ _ ) (fun _ z => absurd z (by simp)) (fun _ z => absurd z (by simp)) qz8) (fun _ _ qz10 => ?_)
          exact fp_some qz10
        · refine fp_ite ?_ ?_
          · exact kz9 _ _ qz6
          · exact kz9 _ _ qz6
      · refine fp_ite ?_ ?_
        · refine fp_bd (fp_call (fr_X12_lettersOf _ _ ) (fun _ z => absurd z (by simp)) (fun _ z => absurd z (by simp)) qz2) (fun _ _ qz11 => ?_)
          exact fp_some qz11
        · refine fp_ite ?_ ?_
          · exact kz7 _ qz2
          · refine fp_ite ?_ ?_
            · exact kz4 _ qz2
            · refine fp_ite ?_ ?_
              · exact kz4 _ qz2
              · refine fp_ite ?_ ?_
                · exact kz4 _ qz2
                · refine fp_ite ?_ ?_
                  · exact kz7 _ qz2
                  · exact fp_some qz2
theorem fr_X12_thing (a1 : Int32) (a2 : Int32) (h : Hp) : FpX (FrX [] [] h) (F_X12_thing a1 a2 h) := by
  unfold F_X12_thing
  have q0 := FrX.refl [] [] h
  refine fp_bd (fp_call (fr_X12_within _ _ _ _ ) (fun _ z => absurd z (by simp)) (fun _ z => absurd z (by simp)) q0) (fun _ _ qz1 => ?_)
  refine fp_ite ?_ ?_
  · exact fp_some qz1
  · refine fp_bd (fp_call (fr_X12_within _ _ _ _ ) (fun _ z => absurd z (by simp)) (fun _ z => absurd z (by simp)) qz1) (fun _ _ qz2 => ?_)
    refine fp_ite ?_ ?_
    · exact fp_some qz2
    · refine fp_lp2 (fun _ kz4 _ _ _ qz3 => ?_) (fun _ _ _ => fp_none) qz2
      refine fp_ite ?_ ?_
      · refine fp_bd (fp_call (fr_X12_value _ _ _ ) (fun _ z => absurd z (by simp)) (fun _ z => absurd z (by simp)) qz3) (fun _ _ qz5 => ?_)
        refine fp_jn1 (fun _ _ qz6 => ?_) (fun _ kz7 => ?_)
        · refine fp_jlV (fun _ => ?_)
          exact kz4 _ _ _ qz6
        · refine fp_jn0 (fun _ qz8 => ?_) (fun _ kz9 => ?_)
          · exact kz7 _ _ qz8
          · refine fp_ite ?_ ?_
            · exact kz9 _ qz5
            · refine fp_bd (fp_call (fr_X12_value _ _ _ ) (fun _ z => absurd z (by simp)) (fun _ z => absurd z (by simp)) qz5) (fun _ _ qz10 => ?_)
              refine fp_ite ?_ ?_
              · exact kz9 _ qz10
              · exact kz7 _ _ qz10
      · refine fp_jn1 (fun _ _ qz11 => ?_) (fun _ kz12 => ?_)
        · exact fp_some qz11
        · refine fp_ite ?_ ?_
          · refine fp_gd ?_
            exact kz12 _ _ qz3
          · exact kz12 _ _ qz3
theorem fr_X12_piece (a1 : Int32) (a2 : Int32) (a3 : Int32) (h : Hp) : FpX (FrX [] [] h) (F_X12_piece a1 a2 a3 h) := by
  unfold F_X12_piece
  have q0 := FrX.refl [] [] h
  refine fp_bd (fp_call (fr_X12_isPicture _ _ ) (fun _ z => absurd z (by simp)) (fun _ z => absurd z (by simp)) q0) (fun _ _ qz1 => ?_)
  refine fp_ite ?_ ?_
  · exact fp_some qz1
  · refine fp_bd (fp_call (fr_X12_isMatter _ _ ) (fun _ z => absurd z (by simp)) (fun _ z => absurd z (by simp)) qz1) (fun _ _ qz2 => ?_)
    refine fp_jn0 (fun _ qz3 => ?_) (fun _ kz4 => ?_)
    · exact fp_some qz3
    · refine fp_ite ?_ ?_
      · exact kz4 _ qz2
      · refine fp_bd (fp_call (fr_X12_within _ _ _ _ ) (fun _ z => absurd z (by simp)) (fun _ z => absurd z (by simp)) qz2) (fun _ _ qz5 => ?_)
        refine fp_ite ?_ ?_
        · exact kz4 _ qz5
        · refine fp_bd (fp_call (fr_X12_pieceAt _ _ _ ) (fun _ z => absurd z (by simp)) (fun _ z => absurd z (by simp)) qz5) (fun _ _ qz6 => ?_)
          refine fp_jn1 (fun _ _ qz7 => ?_) (fun _ kz8 => ?_)
          · exact fp_some qz7
          · refine fp_ite ?_ ?_
            · exact kz8 _ _ qz6
            · refine fp_ite ?_ ?_
              · exact kz8 _ _ qz6
              · refine fp_jlV (fun _ => ?_)
                refine fp_gd ?_
                exact kz8 _ _ qz6
theorem fr_X12_told (a1 : Int32) (a2 : Int32) (h : Hp) : FpX (FrX [] [] h) (F_X12_told a1 a2 h) := by
  unfold F_X12_told
  have q0 := FrX.refl [] [] h
  refine fp_jn0 (fun _ qz1 => ?_) (fun _ kz2 => ?_)
  · exact fp_some qz1
  · refine fp_ite ?_ ?_
    · exact kz2 _ q0
    · refine fp_bd (fp_call (fr_X12_within _ _ _ _ ) (fun _ z => absurd z (by simp)) (fun _ z => absurd z (by simp)) q0) (fun _ _ qz3 => ?_)
      refine fp_ite ?_ ?_
      · exact kz2 _ qz3
      · refine fp_gd ?_
        refine fp_jn1 (fun _ _ qz4 => ?_) (fun _ kz5 => ?_)
        · exact fp_some qz4
        · refine fp_ite ?_ ?_
          · refine fp_jlV (fun _ => ?_)
            refine fp_gd ?_
            exact kz5 _ _ qz3
          · exact kz5 _ _ qz3
theorem fr_X12_sun (a1 : Int32) (a2 : Int32) (h : Hp) : FpX (FrX [] [] h) (F_X12_sun a1 a2 h) := by
  unfold F_X12_sun
  have q0 := FrX.refl [] [] h
  refine fp_bd (fp_call (fr_X12_within _ _ _ _ ) (fun _ z => absurd z (by simp)) (fun _ z => absurd z (by simp)) q0) (fun _ _ qz1 => ?_)
  refine fp_jn0 (fun _ qz2 => ?_) (fun _ kz3 => ?_)
  · exact fp_some qz2
  · refine fp_ite ?_ ?_
    · exact kz3 _ qz1
    · refine fp_bd (fp_call (fr_X12_within _ _ _ _ ) (fun _ z => absurd z (by simp)) (fun _ z => absurd z (by simp)) qz1) (fun _ _ qz4 => ?_)
      refine fp_ite ?_ ?_
      · exact kz3 _ qz4
      · refine fp_bd (fp_call (fr_X12_isUp _ _ ) (fun _ z => absurd z (by simp)) (fun _ z => absurd z (by simp)) qz4) (fun _ _ qz5 => ?_)
        refine fp_jn1 (fun _ _ qz6 => ?_) (fun _ kz7 => ?_)
        · exact fp_some qz6
        · refine fp_ite ?_ ?_
          · exact kz7 _ _ qz5
          · refine fp_ite ?_ ?_
            · refine fp_bd (fp_call (fr_X12_pointAt _ _ ) (fun _ z => absurd z (by simp)) (fun _ z => absurd z (by simp)) qz5) (fun _ _ qz8 => ?_)
              exact kz7 _ _ qz8
            · refine fp_bd (fp_call (fr_X12_lengthAt _ _ ) (fun _ z => absurd z (by simp)) (fun _ z => absurd z (by simp)) qz5) (fun _ _ qz9 => ?_)
              exact kz7 _ _ qz9
theorem fr_X12_put (h : Hp) : FpX (FrX [7510] [126] h) (F_X12_put h) := by
  unfold F_X12_put
  have q0 := FrX.refl [7510] [126] h
  refine fp_jn0 (fun _ qz1 => ?_) (fun _ kz2 => ?_)
  · refine fp_bd (fp_call (fr_X12_bring _ _ _ _ _ _ _ _ ) (fun _ z => absurd z (by simp)) (by decide) qz1) (fun _ _ qz3 => ?_)
    refine fp_jlH (FrX.sS qz3 (by decide) _) (fun hz4 qz5 => ?_)
    exact fp_some qz5
  · refine fp_ite ?_ ?_
    · refine fp_bd (fp_call (fr_X12_bring _ _ _ _ _ _ _ _ ) (fun _ z => absurd z (by simp)) (by decide) q0) (fun _ _ qz6 => ?_)
      refine fp_jlH (FrX.sS qz6 (by decide) _) (fun hz7 qz8 => ?_)
      exact kz2 _ qz8
    · exact kz2 _ q0
theorem fr_X12_newPiece (a1 : Int32) (a2 : Int32) (a3 : Int32) (a4 : Int32) (h : Hp) : FpX (FrX [7510] [124, 126] h) (F_X12_newPiece a1 a2 a3 a4 h) := by
  unfold F_X12_newPiece
  have q0 := FrX.refl [7510] [124, 126] h
  refine fp_bd (fp_call (fr_X12_put _ ) (by decide) (by decide) q0) (fun _ _ qz1 => ?_)
  refine fp_bd (fp_call (fr_X12_become _ _ _ _ _ ) (fun _ z => absurd z (by simp)) (by decide) qz1) (fun _ _ qz2 => ?_)
  refine fp_gd ?_
  exact fp_some qz2
theorem fr_X12_point (a1 : Int32) (a2 : Int32) (a3 : Int32) (h : Hp) : FpX (FrX [7510] [124, 126] h) (F_X12_point a1 a2 a3 h) := by
  unfold F_X12_point
  have q0 := FrX.refl [7510] [124, 126] h
  refine fp_bd (fp_call (fr_X12_isPicture _ _ ) (fun _ z => absurd z (by simp)) (fun _ z => absurd z (by simp)) q0) (fun _ _ qz1 => ?_)
  refine fp_ite ?_ ?_
  · exact fp_some qz1
  · refine fp_bd (fp_call (fr_X12_within _ _ _ _ ) (fun _ z => absurd z (by simp)) (fun _ z => absurd z (by simp)) qz1) (fun _ _ qz2 => ?_)
    refine fp_jn1 (fun _ _ qz3 => ?_) (fun _ kz4 => ?_)
    · exact fp_some qz3
    · refine fp_jn0 (fun _ qz5 => ?_) (fun _ kz6 => ?_)
      · exact kz4 _ _ qz5
      · refine fp_ite ?_ ?_
        · exact kz6 _ qz2
        · refine fp_bd (fp_call (fr_X12_within _ _ _ _ ) (fun _ z => absurd z (by simp)) (fun _ z => absurd z (by simp)) qz2) (fun _ _ qz7 => ?_)
          refine fp_ite ?_ ?_
          · exact kz6 _ qz7
          · refine fp_bd (fp_call (fr_X12_newPiece _ _ _ _ _ ) (by decide) (by decide) qz7) (fun _ _ qz8 => ?_)
            exact kz4 _ _ qz8
theorem fr_X12_length (a1 : Int32) (a2 : Int32) (a3 : Int32) (h : Hp) : FpX (FrX [7510] [124, 126] h) (F_X12_length a1 a2 a3 h) := by
  unfold F_X12_length
  have q0 := FrX.refl [7510] [124, 126] h
  refine fp_bd (fp_call (fr_X12_isPicture _ _ ) (fun _ z => absurd z (by simp)) (fun _ z => absurd z (by simp)) q0) (fun _ _ qz1 => ?_)
  refine fp_ite ?_ ?_
  · exact fp_some qz1
  · refine fp_bd (fp_call (fr_X12_within _ _ _ _ ) (fun _ z => absurd z (by simp)) (fun _ z => absurd z (by simp)) qz1) (fun _ _ qz2 => ?_)
    refine fp_jn1 (fun _ _ qz3 => ?_) (fun _ kz4 => ?_)
    · exact fp_some qz3
    · refine fp_jn0 (fun _ qz5 => ?_) (fun _ kz6 => ?_)
      · exact kz4 _ _ qz5
      · refine fp_ite ?_ ?_
        · exact kz6 _ qz2
        · refine fp_bd (fp_call (fr_X12_within _ _ _ _ ) (fun _ z => absurd z (by simp)) (fun _ z => absurd z (by simp)) qz2) (fun _ _ qz7 => ?_)
          refine fp_ite ?_ ?_
          · exact kz6 _ qz7
          · refine fp_bd (fp_call (fr_X12_newPiece _ _ _ _ _ ) (by decide) (by decide) qz7) (fun _ _ qz8 => ?_)
            exact kz4 _ _ qz8
theorem fr_X12_see (a1 : Int32) (a2 : Int32) (a3 : Int32) (h : Hp) : FpX (FrX [7510] [124, 126] h) (F_X12_see a1 a2 a3 h) := by
  unfold F_X12_see
  have q0 := FrX.refl [7510] [124, 126] h
  refine fp_bd (fp_call (fr_X12_isPicture _ _ ) (fun _ z => absurd z (by simp)) (fun _ z => absurd z (by simp)) q0) (fun _ _ qz1 => ?_)
  refine fp_jn0 (fun _ qz2 => ?_) (fun _ kz3 => ?_)
  · exact fp_some qz2
  · refine fp_ite ?_ ?_
    · exact kz3 _ qz1
    · refine fp_bd (fp_call (fr_X12_within _ _ _ _ ) (fun _ z => absurd z (by simp)) (fun _ z => absurd z (by simp)) qz1) (fun _ _ qz4 => ?_)
      refine fp_ite ?_ ?_
      · exact kz3 _ qz4
      · refine fp_bd (fp_call (fr_X12_mostOf _ _ ) (fun _ z => absurd z (by simp)) (fun _ z => absurd z (by simp)) qz4) (fun _ _ qz5 => ?_)
        refine fp_bd (fp_call (fr_X12_within _ _ _ _ ) (fun _ z => absurd z (by simp)) (fun _ z => absurd z (by simp)) qz5) (fun _ _ qz6 => ?_)
        refine fp_jn1 (fun _ _ qz7 => ?_) (fun _ kz8 => ?_)
        · exact fp_some qz7
        · refine fp_ite ?_ ?_
          · exact kz8 _ _ qz6
          · refine fp_bd (fp_call (fr_X12_newPiece _ _ _ _ _ ) (by decide) (by decide) qz6) (fun _ _ qz9 => ?_)
            exact kz8 _ _ qz9
theorem fr_X12_strike (a1 : Int32) (a2 : Int32) (h : Hp) : FpX (FrX [7510] [124, 126] h) (F_X12_strike a1 a2 h) := by
  unfold F_X12_strike
  have q0 := FrX.refl [7510] [124, 126] h
  refine fp_bd (fp_call (fr_X12_isPicture _ _ ) (fun _ z => absurd z (by simp)) (fun _ z => absurd z (by simp)) q0) (fun _ _ qz1 => ?_)
  refine fp_ite ?_ ?_
  · exact fp_some qz1
  · refine fp_bd (fp_call (fr_X12_isMatter _ _ ) (fun _ z => absurd z (by simp)) (fun _ z => absurd z (by simp)) qz1) (fun _ _ qz2 => ?_)
    refine fp_ite ?_ ?_
    · exact fp_some qz2
    · refine fp_bd (fp_call (fr_X12_pieceAt _ _ _ ) (fun _ z => absurd z (by simp)) (fun _ z => absurd z (by simp)) qz2) (fun _ _ qz3 => ?_)
      refine fp_ite ?_ ?_
      · exact fp_some qz3
      · refine fp_bd (fp_call (fr_X12_put _ ) (by decide) (by decide) qz3) (fun _ _ qz4 => ?_)
        refine fp_bd (fp_call (fr_X12_remove _ _ ) (fun _ z => absurd z (by simp)) (by decide) qz4) (fun _ _ qz5 => ?_)
        refine fp_gd ?_
        exact fp_some qz5
theorem fr_X12_undo (h : Hp) : FpX (FrX [7510] [124] h) (F_X12_undo h) := by
  unfold F_X12_undo
  have q0 := FrX.refl [7510] [124] h
  refine fp_ite ?_ ?_
  · exact fp_some q0
  · refine fp_jlH (FrX.sS q0 (by decide) _) (fun hz1 qz2 => ?_)
    refine fp_bd (fp_call (fr_X12_bring _ _ _ _ _ _ _ _ ) (fun _ z => absurd z (by simp)) (by decide) qz2) (fun _ _ qz3 => ?_)
    exact fp_some qz3
theorem fr_X12_keep (a1 : Int32) (h : Hp) : FpX (FrX [] [127, 128] h) (F_X12_keep a1 h) := by
  unfold F_X12_keep
  have q0 := FrX.refl [] [127, 128] h
  refine fp_bd (fp_call (fr_X12_within _ _ _ _ ) (fun _ z => absurd z (by simp)) (fun _ z => absurd z (by simp)) q0) (fun _ _ qz1 => ?_)
  refine fp_ite ?_ ?_
  · exact fp_some qz1
  · refine fp_bd (fp_call (fr_X12_bring _ _ _ _ _ _ _ _ ) (fun _ z => absurd z (by simp)) (by decide) qz1) (fun _ _ qz2 => ?_)
    refine fp_gd ?_
    refine fp_jlH (FrX.aS qz2 (by decide) _ _) (fun hz3 qz4 => ?_)
    refine fp_gd ?_
    exact fp_some qz4
theorem fr_X12_back (a1 : Int32) (h : Hp) : FpX (FrX [7510] [124] h) (F_X12_back a1 h) := by
  unfold F_X12_back
  have q0 := FrX.refl [7510] [124] h
  refine fp_bd (fp_call (fr_X12_within _ _ _ _ ) (fun _ z => absurd z (by simp)) (fun _ z => absurd z (by simp)) q0) (fun _ _ qz1 => ?_)
  refine fp_ite ?_ ?_
  · exact fp_some qz1
  · refine fp_gd ?_
    refine fp_ite ?_ ?_
    · exact fp_some qz1
    · refine fp_bd (fp_call (fr_X12_bring _ _ _ _ _ _ _ _ ) (fun _ z => absurd z (by simp)) (by decide) qz1) (fun _ _ qz2 => ?_)
      refine fp_jlH (FrX.sS qz2 (by decide) _) (fun hz3 qz4 => ?_)
      refine fp_gd ?_
      exact fp_some qz4
theorem fr_X12_areTwo (a1 : Int32) (a2 : Int32) (h : Hp) : FpX (FrX [] [] h) (F_X12_areTwo a1 a2 h) := by
  unfold F_X12_areTwo
  have q0 := FrX.refl [] [] h
  refine fp_bd (fp_call (fr_X12_isPicture _ _ ) (fun _ z => absurd z (by simp)) (fun _ z => absurd z (by simp)) q0) (fun _ _ qz1 => ?_)
  refine fp_jn1 (fun _ _ qz2 => ?_) (fun _ kz3 => ?_)
  · refine fp_gd ?_
    exact fp_some qz2
  · refine fp_jn0 (fun _ qz4 => ?_) (fun _ kz5 => ?_)
    · exact kz3 _ _ qz4
    · refine fp_ite ?_ ?_
      · exact kz5 _ qz1
      · refine fp_bd (fp_call (fr_X12_isPicture _ _ ) (fun _ z => absurd z (by simp)) (fun _ z => absurd z (by simp)) qz1) (fun _ _ qz6 => ?_)
        refine fp_ite ?_ ?_
        · exact kz5 _ qz6
        · refine fp_ite ?_ ?_
          · exact kz5 _ qz6
          · exact kz3 _ _ qz6
theorem fr_X12_before (a1 : Int32) (a2 : Int32) (h : Hp) : FpX (FrX [] [] h) (F_X12_before a1 a2 h) := by
  unfold F_X12_before
  have q0 := FrX.refl [] [] h
  refine fp_bd (fp_call (fr_X12_areTwo _ _ _ ) (fun _ z => absurd z (by simp)) (fun _ z => absurd z (by simp)) q0) (fun _ _ qz1 => ?_)
  refine fp_jn1 (fun _ _ qz2 => ?_) (fun _ kz3 => ?_)
  · exact fp_some qz2
  · refine fp_ite ?_ ?_
    · exact kz3 _ _ qz1
    · refine fp_bd (fp_call (fr_X12_isBefore _ _ _ ) (fun _ z => absurd z (by simp)) (fun _ z => absurd z (by simp)) qz1) (fun _ _ qz4 => ?_)
      refine fp_ite ?_ ?_
      · exact kz3 _ _ qz4
      · exact kz3 _ _ qz4
theorem fr_X12_orders (h : Hp) : FpX (FrX [7522, 7527] [129, 130, 131, 132, 133, 134, 135, 136, 137] h) (F_X12_orders h) := by
  unfold F_X12_orders
  have q0 := FrX.refl [7522, 7527] [129, 130, 131, 132, 133, 134, 135, 136, 137] h
  refine fp_bd (fp_call (fr_X12_many _ ) (by decide) (by decide) q0) (fun _ _ qz1 => ?_)
  exact fp_some qz1
theorem fr_X12_order (a1 : Int32) (a2 : Int32) (h : Hp) : FpX (FrX [7522, 7527] [129, 130, 131, 132, 133, 134, 135, 136, 137] h) (F_X12_order a1 a2 h) := by
  unfold F_X12_order
  have q0 := FrX.refl [7522, 7527] [129, 130, 131, 132, 133, 134, 135, 136, 137] h
  refine fp_jn0 (fun _ qz1 => ?_) (fun _ kz2 => ?_)
  · exact fp_some qz1
  · refine fp_ite ?_ ?_
    · exact kz2 _ q0
    · refine fp_ite ?_ ?_
      · exact kz2 _ q0
      · refine fp_jn0 (fun _ qz3 => ?_) (fun _ kz4 => ?_)
        · exact fp_some qz3
        · refine fp_ite ?_ ?_
          · refine fp_bd (fp_call (fr_X12_whole _ ) (fun _ z => absurd z (by simp)) (fun _ z => absurd z (by simp)) q0) (fun _ _ qz5 => ?_)
            refine fp_bd (fp_call (fr_X12_layOrders _ _ _ _ _ _ ) (by decide) (by decide) qz5) (fun _ _ qz6 => ?_)
            refine fp_ite ?_ ?_
            · refine fp_gd ?_
              exact fp_some qz6
            · exact kz4 _ qz6
          · exact kz4 _ q0
theorem fr_X12_place (a1 : Int32) (a2 : Int32) (h : Hp) : FpX (FrX [7522, 7527] [129, 130, 131, 132, 133, 134, 135, 136, 137] h) (F_X12_place a1 a2 h) := by
  unfold F_X12_place
  have q0 := FrX.refl [7522, 7527] [129, 130, 131, 132, 133, 134, 135, 136, 137] h
  refine fp_bd (fp_call (fr_X12_isPicture _ _ ) (fun _ z => absurd z (by simp)) (fun _ z => absurd z (by simp)) q0) (fun _ _ qz1 => ?_)
  refine fp_ite ?_ ?_
  · exact fp_some qz1
  · refine fp_bd (fp_call (fr_X12_within _ _ _ _ ) (fun _ z => absurd z (by simp)) (fun _ z => absurd z (by simp)) qz1) (fun _ _ qz2 => ?_)
    refine fp_ite ?_ ?_
    · exact fp_some qz2
    · refine fp_bd (fp_call (fr_X12_many _ ) (by decide) (by decide) qz2) (fun _ _ qz3 => ?_)
      refine fp_ite ?_ ?_
      · exact fp_some qz3
      · refine fp_jn1 (fun _ _ qz4 => ?_) (fun _ kz5 => ?_)
        · exact fp_some qz4
        · refine fp_ite ?_ ?_
          · refine fp_gd ?_
            exact kz5 _ _ qz3
          · refine fp_gd ?_
            exact kz5 _ _ qz3
theorem fr_X12_often (a1 : Int32) (a2 : Int32) (h : Hp) : FpX (FrX [7522, 7527] [129, 130, 131, 132, 133, 134, 135, 136, 137] h) (F_X12_often a1 a2 h) := by
  unfold F_X12_often
  have q0 := FrX.refl [7522, 7527] [129, 130, 131, 132, 133, 134, 135, 136, 137] h
  refine fp_bd (fp_call (fr_X12_areTwo _ _ _ ) (fun _ z => absurd z (by simp)) (fun _ z => absurd z (by simp)) q0) (fun _ _ qz1 => ?_)
  refine fp_ite ?_ ?_
  · exact fp_some qz1
  · refine fp_bd (fp_call (fr_X12_whole _ ) (fun _ z => absurd z (by simp)) (fun _ z => absurd z (by simp)) qz1) (fun _ _ qz2 => ?_)
    refine fp_bd (fp_call (fr_X12_layOrders _ _ _ _ _ _ ) (by decide) (by decide) qz2) (fun _ _ qz3 => ?_)
    exact fp_some qz3
theorem fr_X12_left (a1 : Int32) (a2 : Int32) (h : Hp) : FpX (FrX [7522, 7527] [129, 130, 131, 132, 133, 134, 135, 136, 137] h) (F_X12_left a1 a2 h) := by
  unfold F_X12_left
  have q0 := FrX.refl [7522, 7527] [129, 130, 131, 132, 133, 134, 135, 136, 137] h
  refine fp_bd (fp_call (fr_X12_isPicture _ _ ) (fun _ z => absurd z (by simp)) (fun _ z => absurd z (by simp)) q0) (fun _ _ qz1 => ?_)
  refine fp_ite ?_ ?_
  · exact fp_some qz1
  · refine fp_bd (fp_call (fr_X12_within _ _ _ _ ) (fun _ z => absurd z (by simp)) (fun _ z => absurd z (by simp)) qz1) (fun _ _ qz2 => ?_)
    refine fp_ite ?_ ?_
    · exact fp_some qz2
    · refine fp_bd (fp_call (fr_X12_many _ ) (by decide) (by decide) qz2) (fun _ _ qz3 => ?_)
      refine fp_gd ?_
      refine fp_bd (fp_call (fr_X12_shown _ _ _ ) (fun _ z => absurd z (by simp)) (fun _ z => absurd z (by simp)) qz3) (fun _ _ qz4 => ?_)
      exact fp_some qz4
theorem fr_X12_knotOf (h : Hp) : FpX (FrX [7522, 7527] [129, 130, 131, 132, 133, 134, 135, 136, 137] h) (F_X12_knotOf h) := by
  unfold F_X12_knotOf
  have q0 := FrX.refl [7522, 7527] [129, 130, 131, 132, 133, 134, 135, 136, 137] h
  refine fp_bd (fp_call (fr_X12_whole _ ) (fun _ z => absurd z (by simp)) (fun _ z => absurd z (by simp)) q0) (fun _ _ qz1 => ?_)
  refine fp_bd (fp_call (fr_X12_isAny _ _ ) (by decide) (by decide) qz1) (fun _ _ qz2 => ?_)
  refine fp_ite ?_ ?_
  · refine fp_bd (fp_call (fr_X12_whole _ ) (fun _ z => absurd z (by simp)) (fun _ z => absurd z (by simp)) qz2) (fun _ _ qz3 => ?_)
    refine fp_lp2 (fun _ kz5 _ _ _ qz4 => ?_) (fun _ _ _ => fp_none) qz3
    refine fp_bd (fp_call (fr_X12_whole _ ) (fun _ z => absurd z (by simp)) (fun _ z => absurd z (by simp)) qz4) (fun _ _ qz6 => ?_)
    refine fp_ite ?_ ?_
    · refine fp_bd (fp_call (fr_X12_ones _ _ ) (fun _ z => absurd z (by simp)) (fun _ z => absurd z (by simp)) qz6) (fun _ _ qz7 => ?_)
      refine fp_bd (fp_call (fr_X12_ones _ _ ) (fun _ z => absurd z (by simp)) (fun _ z => absurd z (by simp)) qz7) (fun _ _ qz8 => ?_)
      refine fp_jn1 (fun _ _ qz9 => ?_) (fun _ kz10 => ?_)
      · refine fp_jn1 (fun _ _ qz11 => ?_) (fun _ kz12 => ?_)
        · exact kz5 _ _ _ qz11
        · refine fp_jn0 (fun _ qz13 => ?_) (fun _ kz14 => ?_)
          · exact kz12 _ _ qz13
          · refine fp_ite ?_ ?_
            · exact kz14 _ qz9
            · refine fp_bd (fp_call (fr_X12_isAny _ _ ) (by decide) (by decide) qz9) (fun _ _ qz15 => ?_)
              refine fp_ite ?_ ?_
              · exact kz12 _ _ qz15
              · exact kz14 _ qz15
      · refine fp_ite ?_ ?_
        · exact kz10 _ _ qz8
        · exact kz10 _ _ qz8
    · exact fp_some qz6
  · exact fp_some qz2
theorem fr_X12_knot (a1 : Int32) (h : Hp) : FpX (FrX [7522, 7527] [129, 130, 131, 132, 133, 134, 135, 136, 137] h) (F_X12_knot a1 h) := by
  unfold F_X12_knot
  have q0 := FrX.refl [7522, 7527] [129, 130, 131, 132, 133, 134, 135, 136, 137] h
  refine fp_bd (fp_call (fr_X12_within _ _ _ _ ) (fun _ z => absurd z (by simp)) (fun _ z => absurd z (by simp)) q0) (fun _ _ qz1 => ?_)
  refine fp_ite ?_ ?_
  · exact fp_some qz1
  · refine fp_bd (fp_call (fr_X12_knotOf _ ) (by decide) (by decide) qz1) (fun _ _ qz2 => ?_)
    refine fp_jn1 (fun _ _ qz3 => ?_) (fun _ kz4 => ?_)
    · exact fp_some qz3
    · refine fp_jn0 (fun _ qz5 => ?_) (fun _ kz6 => ?_)
      · exact kz4 _ _ qz5
      · refine fp_ite ?_ ?_
        · exact kz6 _ qz2
        · refine fp_ite ?_ ?_
          · exact kz6 _ qz2
          · refine fp_bd (fp_call (fr_X12_ones _ _ ) (fun _ z => absurd z (by simp)) (fun _ z => absurd z (by simp)) qz2) (fun _ _ qz7 => ?_)
            exact kz4 _ _ qz7
theorem fr_X12_loose (a1 : Int32) (h : Hp) : FpX (FrX [7522, 7527] [124, 125, 129, 130, 131, 132, 133, 134, 135, 136, 137] h) (F_X12_loose a1 h) := by
  unfold F_X12_loose
  have q0 := FrX.refl [7522, 7527] [124, 125, 129, 130, 131, 132, 133, 134, 135, 136, 137] h
  refine fp_ite ?_ ?_
  · exact fp_some q0
  · refine fp_bd (fp_call (fr_X12_whole _ ) (fun _ z => absurd z (by simp)) (fun _ z => absurd z (by simp)) q0) (fun _ _ qz1 => ?_)
    refine fp_bd (fp_call (fr_X12_isAny _ _ ) (by decide) (by decide) qz1) (fun _ _ qz2 => ?_)
    refine fp_bd (fp_call (fr_X12_bring _ _ _ _ _ _ _ _ ) (fun _ z => absurd z (by simp)) (by decide) qz2) (fun _ _ qz3 => ?_)
    refine fp_lp3 (fun _ kz5 _ _ _ _ qz4 => ?_) (fun _ _ _ _ => fp_none) qz3
    refine fp_gd ?_
    refine fp_jn0 (fun _ qz6 => ?_) (fun _ kz7 => ?_)
    · refine fp_jn1 (fun _ _ qz8 => ?_) (fun _ kz9 => ?_)
      · exact fp_some qz8
      · refine fp_ite ?_ ?_
        · exact kz9 _ _ qz6
        · exact kz9 _ _ qz6
    · refine fp_ite ?_ ?_
      · refine fp_ite ?_ ?_
        · refine fp_bd (fp_call (fr_X12_remove _ _ ) (fun _ z => absurd z (by simp)) (by decide) qz4) (fun _ _ qz10 => ?_)
          refine fp_bd (fp_call (fr_X12_whole _ ) (fun _ z => absurd z (by simp)) (fun _ z => absurd z (by simp)) qz10) (fun _ _ qz11 => ?_)
          refine fp_bd (fp_call (fr_X12_isAny _ _ ) (by decide) (by decide) qz11) (fun _ _ qz12 => ?_)
          refine fp_jn2 (fun _ _ _ qz13 => ?_) (fun _ kz14 => ?_)
          · refine fp_bd (fp_call (fr_X12_bring _ _ _ _ _ _ _ _ ) (fun _ z => absurd z (by simp)) (by decide) qz13) (fun _ _ qz15 => ?_)
            exact kz5 _ _ _ _ qz15
          · refine fp_ite ?_ ?_
            · exact kz14 _ _ _ qz12
            · refine fp_jn1 (fun _ _ qz16 => ?_) (fun _ kz17 => ?_)
              · exact kz14 _ _ _ qz16
              · refine fp_ite ?_ ?_
                · exact kz17 _ _ qz12
                · exact kz17 _ _ qz12
        · exact kz7 _ qz4
      · exact kz7 _ qz4
theorem fr_X12_wouldBe (a1 : Int32) (a2 : Int32) (a3 : Int32) (h : Hp) : FpX (FrX [7522, 7527] [124, 125, 129, 130, 131, 132, 133, 134, 135, 136, 137] h) (F_X12_wouldBe a1 a2 a3 h) := by
  unfold F_X12_wouldBe
  have q0 := FrX.refl [7522, 7527] [124, 125, 129, 130, 131, 132, 133, 134, 135, 136, 137] h
  refine fp_bd (fp_call (fr_X12_bring _ _ _ _ _ _ _ _ ) (fun _ z => absurd z (by simp)) (by decide) q0) (fun _ _ qz1 => ?_)
  refine fp_bd (fp_call (fr_X12_become _ _ _ _ _ ) (fun _ z => absurd z (by simp)) (by decide) qz1) (fun _ _ qz2 => ?_)
  refine fp_bd (fp_call (fr_X12_many _ ) (by decide) (by decide) qz2) (fun _ _ qz3 => ?_)
  refine fp_bd (fp_call (fr_X12_bring _ _ _ _ _ _ _ _ ) (fun _ z => absurd z (by simp)) (by decide) qz3) (fun _ _ qz4 => ?_)
  exact fp_some qz4
theorem fr_X12_would (a1 : Int32) (a2 : Int32) (a3 : Int32) (h : Hp) : FpX (FrX [7522, 7527] [124, 125, 129, 130, 131, 132, 133, 134, 135, 136, 137] h) (F_X12_would a1 a2 a3 h) := by
  unfold F_X12_would
  have q0 := FrX.refl [7522, 7527] [124, 125, 129, 130, 131, 132, 133, 134, 135, 136, 137] h
  refine fp_bd (fp_call (fr_X12_isPicture _ _ ) (fun _ z => absurd z (by simp)) (fun _ z => absurd z (by simp)) q0) (fun _ _ qz1 => ?_)
  refine fp_ite ?_ ?_
  · exact fp_some qz1
  · refine fp_bd (fp_call (fr_X12_isMatter _ _ ) (fun _ z => absurd z (by simp)) (fun _ z => absurd z (by simp)) qz1) (fun _ _ qz2 => ?_)
    refine fp_jn0 (fun _ qz3 => ?_) (fun _ kz4 => ?_)
    · exact fp_some qz3
    · refine fp_ite ?_ ?_
      · exact kz4 _ qz2
      · refine fp_bd (fp_call (fr_X12_mostOf _ _ ) (fun _ z => absurd z (by simp)) (fun _ z => absurd z (by simp)) qz2) (fun _ _ qz5 => ?_)
        refine fp_bd (fp_call (fr_X12_within _ _ _ _ ) (fun _ z => absurd z (by simp)) (fun _ z => absurd z (by simp)) qz5) (fun _ _ qz6 => ?_)
        refine fp_ite ?_ ?_
        · exact kz4 _ qz6
        · refine fp_bd (fp_call (fr_X12_wouldBe _ _ _ _ ) (by decide) (by decide) qz6) (fun _ _ qz7 => ?_)
          exact fp_some qz7
theorem fr_X12_ask (a1 : Int32) (h : Hp) : FpX (FrX [7522, 7527] [124, 125, 129, 130, 131, 132, 133, 134, 135, 136, 137] h) (F_X12_ask a1 h) := by
  unfold F_X12_ask
  have q0 := FrX.refl [7522, 7527] [124, 125, 129, 130, 131, 132, 133, 134, 135, 136, 137] h
  refine fp_bd (fp_call (fr_X12_within _ _ _ _ ) (fun _ z => absurd z (by simp)) (fun _ z => absurd z (by simp)) q0) (fun _ _ qz1 => ?_)
  refine fp_ite ?_ ?_
  · exact fp_some qz1
  · refine fp_bd (fp_call (fr_X12_many _ ) (by decide) (by decide) qz1) (fun _ _ qz2 => ?_)
    refine fp_lp3 (fun _ kz4 _ _ _ _ qz3 => ?_) (fun _ _ _ _ => fp_none) qz2
    refine fp_ite ?_ ?_
    · refine fp_lp3 (fun _ kz6 _ _ _ _ qz5 => ?_) (fun _ _ _ _ => fp_none) qz3
      refine fp_ite ?_ ?_
      · refine fp_gd ?_
        refine fp_jn2 (fun _ _ _ qz7 => ?_) (fun _ kz8 => ?_)
        · exact kz6 _ _ _ _ qz7
        · refine fp_ite ?_ ?_
          · exact kz8 _ _ _ qz5
          · refine fp_bd (fp_call (fr_X12_pieceAt _ _ _ ) (fun _ z => absurd z (by simp)) (fun _ z => absurd z (by simp)) qz5) (fun _ _ qz9 => ?_)
            refine fp_ite ?_ ?_
            · refine fp_bd (fp_call (fr_X12_wouldBe _ _ _ _ ) (by decide) (by decide) qz9) (fun _ _ qz10 => ?_)
              refine fp_bd (fp_call (fr_X12_wouldBe _ _ _ _ ) (by decide) (by decide) qz10) (fun _ _ qz11 => ?_)
              refine fp_jn1 (fun _ _ qz12 => ?_) (fun _ kz13 => ?_)
              · refine fp_jn1 (fun _ _ qz14 => ?_) (fun _ kz15 => ?_)
                · refine fp_jn1 (fun _ _ qz16 => ?_) (fun _ kz17 => ?_)
                  · exact kz8 _ _ _ qz16
                  · refine fp_ite ?_ ?_
                    · exact kz17 _ _ qz14
                    · exact kz17 _ _ qz14
                · refine fp_ite ?_ ?_
                  · exact kz15 _ _ qz12
                  · exact kz15 _ _ qz12
              · refine fp_ite ?_ ?_
                · exact kz13 _ _ qz11
                · exact kz13 _ _ qz11
            · exact kz8 _ _ _ qz9
      · exact kz4 _ _ _ _ qz5
    · refine fp_jn1 (fun _ _ qz18 => ?_) (fun _ kz19 => ?_)
      · exact fp_some qz18
      · refine fp_jn0 (fun _ qz20 => ?_) (fun _ kz21 => ?_)
        · exact kz19 _ _ qz20
        · refine fp_ite ?_ ?_
          · exact kz21 _ qz3
          · refine fp_ite ?_ ?_
            · exact kz21 _ qz3
            · exact kz19 _ _ qz3
theorem fr_X12_isStrip (a1 : Int32) (h : Hp) : FpX (FrX [] [] h) (F_X12_isStrip a1 h) := by
  unfold F_X12_isStrip
  have q0 := FrX.refl [] [] h
  refine fp_bd (fp_call (fr_X12_within _ _ _ _ ) (fun _ z => absurd z (by simp)) (fun _ z => absurd z (by simp)) q0) (fun _ _ qz1 => ?_)
  refine fp_gd ?_
  exact fp_some qz1
theorem fr_X12_lack (a1 : Int32) (a2 : Int32) (h : Hp) : FpX (FrX [] [] h) (F_X12_lack a1 a2 h) := by
  unfold F_X12_lack
  have q0 := FrX.refl [] [] h
  refine fp_gd ?_
  refine fp_jn1 (fun _ _ qz1 => ?_) (fun _ kz2 => ?_)
  · exact fp_some qz1
  · refine fp_ite ?_ ?_
    · exact kz2 _ _ q0
    · refine fp_gd ?_
      refine fp_bd (fp_call (fr_X12_within _ _ _ _ ) (fun _ z => absurd z (by simp)) (fun _ z => absurd z (by simp)) q0) (fun _ _ qz3 => ?_)
      refine fp_ite ?_ ?_
      · exact kz2 _ _ qz3
      · exact kz2 _ _ qz3
theorem fr_X12_strip (a1 : Int32) (a2 : Int32) (h : Hp) : FpX (FrX [] [138, 139] h) (F_X12_strip a1 a2 h) := by
  unfold F_X12_strip
  have q0 := FrX.refl [] [138, 139] h
  refine fp_bd (fp_call (fr_X12_isStrip _ _ ) (fun _ z => absurd z (by simp)) (fun _ z => absurd z (by simp)) q0) (fun _ _ qz1 => ?_)
  refine fp_ite ?_ ?_
  · exact fp_some qz1
  · refine fp_ite ?_ ?_
    · exact fp_some qz1
    · refine fp_ite ?_ ?_
      · exact fp_some qz1
      · refine fp_gd ?_
        refine fp_jlH (FrX.aS qz1 (by decide) _ _) (fun hz2 qz3 => ?_)
        refine fp_lp1 (fun _ kz5 _ _ qz4 => ?_) (fun _ _ => fp_none) qz3
        refine fp_ite ?_ ?_
        · refine fp_gd ?_
          refine fp_jlH (FrX.lS qz4 (by decide) _ _) (fun hz6 qz7 => ?_)
          exact kz5 _ _ qz7
        · exact fp_some qz4
theorem fr_X12_set (a1 : Int32) (a2 : Int32) (a3 : Int32) (h : Hp) : FpX (FrX [] [139] h) (F_X12_set a1 a2 a3 h) := by
  unfold F_X12_set
  have q0 := FrX.refl [] [139] h
  refine fp_bd (fp_call (fr_X12_isStrip _ _ ) (fun _ z => absurd z (by simp)) (fun _ z => absurd z (by simp)) q0) (fun _ _ qz1 => ?_)
  refine fp_ite ?_ ?_
  · exact fp_some qz1
  · refine fp_bd (fp_call (fr_X12_lack _ _ _ ) (fun _ z => absurd z (by simp)) (fun _ z => absurd z (by simp)) qz1) (fun _ _ qz2 => ?_)
    refine fp_ite ?_ ?_
    · refine fp_gd ?_
      refine fp_jlH (FrX.lS qz2 (by decide) _ _) (fun hz3 qz4 => ?_)
      exact fp_some qz4
    · exact fp_some qz2
theorem fr_X12_load (a1 : Int32) (a2 : Int32) (a3 : Int32) (a4 : Int32) (h : Hp) : FpX (FrX [7522, 7527] [129, 130, 131, 132, 133, 134, 135, 136, 137, 139] h) (F_X12_load a1 a2 a3 a4 h) := by
  unfold F_X12_load
  have q0 := FrX.refl [7522, 7527] [129, 130, 131, 132, 133, 134, 135, 136, 137, 139] h
  refine fp_bd (fp_call (fr_X12_isStrip _ _ ) (fun _ z => absurd z (by simp)) (fun _ z => absurd z (by simp)) q0) (fun _ _ qz1 => ?_)
  refine fp_jn0 (fun _ qz2 => ?_) (fun _ kz3 => ?_)
  · exact fp_some qz2
  · refine fp_ite ?_ ?_
    · exact kz3 _ qz1
    · refine fp_bd (fp_call (fr_X12_isPicture _ _ ) (fun _ z => absurd z (by simp)) (fun _ z => absurd z (by simp)) qz1) (fun _ _ qz4 => ?_)
      refine fp_ite ?_ ?_
      · exact kz3 _ qz4
      · refine fp_bd (fp_call (fr_X12_within _ _ _ _ ) (fun _ z => absurd z (by simp)) (fun _ z => absurd z (by simp)) qz4) (fun _ _ qz5 => ?_)
        refine fp_ite ?_ ?_
        · exact fp_some qz5
        · refine fp_bd (fp_call (fr_X12_lack _ _ _ ) (fun _ z => absurd z (by simp)) (fun _ z => absurd z (by simp)) qz5) (fun _ _ qz6 => ?_)
          refine fp_ite ?_ ?_
          · refine fp_bd (fp_call (fr_X12_many _ ) (by decide) (by decide) qz6) (fun _ _ qz7 => ?_)
            refine fp_jn1 (fun _ _ qz8 => ?_) (fun _ kz9 => ?_)
            · refine fp_gd ?_
              refine fp_jlH (FrX.lS qz8 (by decide) _ _) (fun hz10 qz11 => ?_)
              refine fp_gd ?_
              refine fp_bd (fp_call (fr_X12_ones _ _ ) (fun _ z => absurd z (by simp)) (fun _ z => absurd z (by simp)) qz11) (fun _ _ qz12 => ?_)
              exact fp_some qz12
            · refine fp_ite ?_ ?_
              · refine fp_gd ?_
                exact kz9 _ _ qz7
              · refine fp_gd ?_
                exact kz9 _ _ qz7
          · exact fp_some qz6
theorem fr_X12_work (a1 : Int32) (a2 : Int32) (a3 : Int32) (a4 : Int32) (h : Hp) : FpX (FrX [7526] [139] h) (F_X12_work a1 a2 a3 a4 h) := by
  unfold F_X12_work
  have q0 := FrX.refl [7526] [139] h
  refine fp_bd (fp_call (fr_X12_isStrip _ _ ) (fun _ z => absurd z (by simp)) (fun _ z => absurd z (by simp)) q0) (fun _ _ qz1 => ?_)
  refine fp_ite ?_ ?_
  · exact fp_some qz1
  · refine fp_bd (fp_call (fr_X12_within _ _ _ _ ) (fun _ z => absurd z (by simp)) (fun _ z => absurd z (by simp)) qz1) (fun _ _ qz2 => ?_)
    refine fp_jn0 (fun _ qz3 => ?_) (fun _ kz4 => ?_)
    · exact fp_some qz3
    · refine fp_ite ?_ ?_
      · exact kz4 _ qz2
      · refine fp_jn0 (fun _ qz5 => ?_) (fun _ kz6 => ?_)
        · refine fp_bd (fp_call (fr_X12_lack _ _ _ ) (fun _ z => absurd z (by simp)) (fun _ z => absurd z (by simp)) qz5) (fun _ _ qz7 => ?_)
          refine fp_jn1 (fun _ _ qz8 => ?_) (fun _ kz9 => ?_)
          · refine fp_ite ?_ ?_
            · refine fp_gd ?_
              refine fp_jlV (fun _ => ?_)
              refine fp_jn1 (fun _ _ qz10 => ?_) (fun _ kz11 => ?_)
              · refine fp_jn1 (fun _ _ qz12 => ?_) (fun _ kz13 => ?_)
                · refine fp_jlH (FrX.tS qz12 (by decide) _) (fun hz14 qz15 => ?_)
                  refine fp_gd ?_
                  refine fp_jlH (FrX.lS qz15 (by decide) _ _) (fun hz16 qz17 => ?_)
                  exact fp_some qz17
                · refine fp_ite ?_ ?_
                  · exact kz13 _ _ qz10
                  · refine fp_ite ?_ ?_
                    · exact kz13 _ _ qz10
                    · refine fp_ite ?_ ?_
                      · exact kz13 _ _ qz10
                      · exact kz13 _ _ qz10
              · refine fp_ite ?_ ?_
                · refine fp_gd ?_
                  exact kz11 _ _ qz8
                · exact kz11 _ _ qz8
            · exact fp_some qz8
          · refine fp_jn0 (fun _ qz18 => ?_) (fun _ kz19 => ?_)
            · exact kz9 _ _ qz18
            · refine fp_ite ?_ ?_
              · refine fp_ite ?_ ?_
                · refine fp_bd (fp_call (fr_X12_lack _ _ _ ) (fun _ z => absurd z (by simp)) (fun _ z => absurd z (by simp)) qz7) (fun _ _ qz20 => ?_)
                  exact kz9 _ _ qz20
                · exact kz19 _ qz7
              · exact kz19 _ qz7
        · refine fp_ite ?_ ?_
          · refine fp_bd (fp_call (fr_X12_within _ _ _ _ ) (fun _ z => absurd z (by simp)) (fun _ z => absurd z (by simp)) qz2) (fun _ _ qz21 => ?_)
            refine fp_ite ?_ ?_
            · exact kz4 _ qz21
            · exact kz6 _ qz21
          · exact kz6 _ qz2
theorem fr_X12_bits (a1 : Int32) (a2 : Int32) (h : Hp) : FpX (FrX [] [] h) (F_X12_bits a1 a2 h) := by
  unfold F_X12_bits
  have q0 := FrX.refl [] [] h
  refine fp_bd (fp_call (fr_X12_isStrip _ _ ) (fun _ z => absurd z (by simp)) (fun _ z => absurd z (by simp)) q0) (fun _ _ qz1 => ?_)
  refine fp_ite ?_ ?_
  · exact fp_some qz1
  · refine fp_bd (fp_call (fr_X12_lack _ _ _ ) (fun _ z => absurd z (by simp)) (fun _ z => absurd z (by simp)) qz1) (fun _ _ qz2 => ?_)
    refine fp_jn1 (fun _ _ qz3 => ?_) (fun _ kz4 => ?_)
    · exact fp_some qz3
    · refine fp_ite ?_ ?_
      · refine fp_gd ?_
        refine fp_bd (fp_call (fr_X12_ones _ _ ) (fun _ z => absurd z (by simp)) (fun _ z => absurd z (by simp)) qz2) (fun _ _ qz5 => ?_)
        exact kz4 _ _ qz5
      · exact kz4 _ _ qz2
theorem fr_X12_sum (a1 : Int32) (h : Hp) : FpX (FrX [7526] [] h) (F_X12_sum a1 h) := by
  unfold F_X12_sum
  have q0 := FrX.refl [7526] [] h
  refine fp_bd (fp_call (fr_X12_isStrip _ _ ) (fun _ z => absurd z (by simp)) (fun _ z => absurd z (by simp)) q0) (fun _ _ qz1 => ?_)
  refine fp_ite ?_ ?_
  · exact fp_some qz1
  · refine fp_gd ?_
    refine fp_ite ?_ ?_
    · exact fp_some qz1
    · refine fp_jlH (FrX.tS qz1 (by decide) _) (fun hz2 qz3 => ?_)
      refine fp_lp1 (fun _ kz5 _ _ qz4 => ?_) (fun _ _ => fp_none) qz3
      refine fp_gd ?_
      refine fp_ite ?_ ?_
      · refine fp_gd ?_
        refine fp_jlH (FrX.tS qz4 (by decide) _) (fun hz6 qz7 => ?_)
        exact kz5 _ _ qz7
      · refine fp_gd ?_
        exact fp_some qz4
theorem fr_X12_drop (a1 : Int32) (h : Hp) : FpX (FrX [] [138] h) (F_X12_drop a1 h) := by
  unfold F_X12_drop
  have q0 := FrX.refl [] [138] h
  refine fp_bd (fp_call (fr_X12_isStrip _ _ ) (fun _ z => absurd z (by simp)) (fun _ z => absurd z (by simp)) q0) (fun _ _ qz1 => ?_)
  refine fp_ite ?_ ?_
  · exact fp_some qz1
  · refine fp_gd ?_
    refine fp_jlV (fun _ => ?_)
    refine fp_gd ?_
    refine fp_jlH (FrX.aS qz1 (by decide) _ _) (fun hz2 qz3 => ?_)
    refine fp_jn1 (fun _ _ qz4 => ?_) (fun _ kz5 => ?_)
    · exact fp_some qz4
    · refine fp_ite ?_ ?_
      · exact kz5 _ _ qz3
      · exact kz5 _ _ qz3
theorem fr_X12_latest (h : Hp) : FpX (FrX [] [] h) (F_X12_latest h) := by
  unfold F_X12_latest
  have q0 := FrX.refl [] [] h
  exact fp_some q0
theorem fr_X12_pairs (h : Hp) : FpX (FrX [] [] h) (F_X12_pairs h) := by
  unfold F_X12_pairs
  have q0 := FrX.refl [] [] h
  refine fp_lp2 (fun _ kz2 _ _ _ qz1 => ?_) (fun _ _ _ => fp_none) q0
  refine fp_ite ?_ ?_
  · refine fp_lp2 (fun _ kz4 _ _ _ qz3 => ?_) (fun _ _ _ => fp_none) qz1
    refine fp_ite ?_ ?_
    · refine fp_jn1 (fun _ _ qz5 => ?_) (fun _ kz6 => ?_)
      · refine fp_jlV (fun _ => ?_)
        exact kz4 _ _ _ qz5
      · refine fp_jn0 (fun _ qz7 => ?_) (fun _ kz8 => ?_)
        · exact kz6 _ _ qz7
        · refine fp_ite ?_ ?_
          · exact kz8 _ qz3
          · refine fp_bd (fp_call (fr_X12_isBefore _ _ _ ) (fun _ z => absurd z (by simp)) (fun _ z => absurd z (by simp)) qz3) (fun _ _ qz9 => ?_)
            refine fp_ite ?_ ?_
            · exact kz8 _ qz9
            · exact kz6 _ _ qz9
    · exact kz2 _ _ _ qz3
  · exact fp_some qz1
theorem fr_X12_placesOfAll (h : Hp) : FpX (FrX [] [] h) (F_X12_placesOfAll h) := by
  unfold F_X12_placesOfAll
  have q0 := FrX.refl [] [] h
  refine fp_lp2 (fun _ kz2 _ _ _ qz1 => ?_) (fun _ _ _ => fp_none) q0
  refine fp_ite ?_ ?_
  · refine fp_gd ?_
    refine fp_jn1 (fun _ _ qz3 => ?_) (fun _ kz4 => ?_)
    · refine fp_jlV (fun _ => ?_)
      exact kz2 _ _ _ qz3
    · refine fp_ite ?_ ?_
      · exact kz4 _ _ qz1
      · refine fp_gd ?_
        exact kz4 _ _ qz1
  · exact fp_some qz1
theorem fr_X12_count (a1 : Int32) (h : Hp) : FpX (FrX [] [] h) (F_X12_count a1 h) := by
  unfold F_X12_count
  have q0 := FrX.refl [] [] h
  refine fp_ite ?_ ?_
  · exact fp_some q0
  · refine fp_ite ?_ ?_
    · exact fp_some q0
    · refine fp_ite ?_ ?_
      · refine fp_gd ?_
        exact fp_some q0
      · refine fp_ite ?_ ?_
        · refine fp_bd (fp_call (fr_X12_pairs _ ) (fun _ z => absurd z (by simp)) (fun _ z => absurd z (by simp)) q0) (fun _ _ qz1 => ?_)
          exact fp_some qz1
        · refine fp_ite ?_ ?_
          · exact fp_some q0
          · refine fp_ite ?_ ?_
            · exact fp_some q0
            · refine fp_ite ?_ ?_
              · exact fp_some q0
              · refine fp_ite ?_ ?_
                · refine fp_bd (fp_call (fr_X12_placesOfAll _ ) (fun _ z => absurd z (by simp)) (fun _ z => absurd z (by simp)) q0) (fun _ _ qz2 => ?_)
                  exact fp_some qz2
                · refine fp_ite ?_ ?_
                  · exact fp_some q0
                  · refine fp_ite ?_ ?_
                    · exact fp_some q0
                    · exact fp_some q0
