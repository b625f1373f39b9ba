/-! THE PURE SIDE'S OWN WORDS: a check, a branch, a call, a loop with fuel -/
theorem oz_t {c : Prop} [Decidable c] {α : Type} {a b : Option α} {r : Option α} (h : (if c then a else b) = r) (hc : c) : a = r := by rw [if_pos hc] at h; exact h
theorem oz_f {c : Prop} [Decidable c] {α : Type} {a b : Option α} {r : Option α} (h : (if c then a else b) = r) (hc : ¬ c) : b = r := by rw [if_neg hc] at h; exact h
theorem oz_chk {c : Prop} [Decidable c] {α : Type} {b : Option α} {r : α} (h : (if c then none else b) = some r) : ¬ c ∧ b = some r := by
  rcases Decidable.em c with hc | hc
  · rw [if_pos hc] at h; cases h
  · rw [if_neg hc] at h; exact ⟨hc, h⟩
theorem oz_bind {α β : Type} {x : Option α} {f : α → Option β} {r : β} (h : Option.bind x f = some r) : ∃ y, x = some y ∧ f y = some r := by
  cases x with
  | none => cases h
  | some y => exact ⟨y, rfl, h⟩
/-- a loop: its body says 'on, with this' or 'out, with that' -/
def oz_loop {V O : Type} (f : V → Option (V ⊕ O)) : Nat → V → Option O
  | 0, _ => none
  | n + 1, v => match f v with
    | none => none
    | some (.inl v') => oz_loop f n v'
    | some (.inr o) => some o
def oz_nx {V O : Type} (f : V → Option (V ⊕ O)) (n : Nat) (o : O) : V ⊕ O → Prop
  | .inl v' => oz_loop f n v' = some o
  | .inr o' => o' = o
theorem oz_zero {V O : Type} {f : V → Option (V ⊕ O)} {v : V} {o : O} (h : oz_loop f 0 v = some o) : False := by cases h
theorem oz_step {V O : Type} {f : V → Option (V ⊕ O)} {n : Nat} {v : V} {o : O} (h : oz_loop f (n + 1) v = some o) : ∃ r, f v = some r ∧ oz_nx f n o r := by
  unfold oz_loop at h
  cases hf : f v with
  | none => rw [hf] at h; cases h
  | some r =>
    rw [hf] at h
    cases r with
    | inl v' => exact ⟨_, rfl, h⟩
    | inr o' => exact ⟨_, rfl, Option.some.inj h⟩
def oz_fuel : Nat := 100000
theorem oz_genQ {p : Program} {l : Launch} {e : Env} {R : Room} {s : State} {m : MethodId} {args : Array Value} {below : List Frame} {meth : Method} {c : Code} {H : Heap} {locs : List Loc} {cells slots : Nat} {Q : State → Prop} {g : JFrame} (h : ∀ Q' : State → Prop, Q' = Q → W p l e R s m args below meth c H locs cells slots Q' g) : W p l e R s m args below meth c H locs cells slots Q g := h Q rfl
theorem oz_tab (x : Int32) (n : Nat) (h : ∀ k, k < n → ¬ x = Int32.ofNat k) (hn : n < 2 ^ 31) : x.toInt < 0 ∨ (n : Int) - 1 < x.toInt := by
  rcases Int.lt_or_le x.toInt 0 with h0 | h0
  · exact Or.inl h0
  · refine Or.inr ?_
    rcases Int.lt_or_le ((n : Int) - 1) x.toInt with h1 | h1
    · exact h1
    · exfalso
      have hk : x.toInt.toNat < n := by omega
      refine h x.toInt.toNat hk (Int32.toInt_inj.mp ?_)
      have := nI_toInt (n := x.toInt.toNat) (by omega)
      unfold nI at this
      rw [this]
      omega
