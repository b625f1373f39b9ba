/-! ARITHMETIC: Int32 by its value -/
theorem pz_lt {a b : Int32} : a < b ↔ a.toInt < b.toInt := Int32.lt_iff_toInt_lt
theorem pz_le {a b : Int32} : a ≤ b ↔ a.toInt ≤ b.toInt := Int32.le_iff_toInt_le
theorem pz_eq {a b : Int32} : a = b ↔ a.toInt = b.toInt := Int32.toInt_inj.symm
theorem pz_add {a b : Int32} (h1 : -2147483648 ≤ a.toInt + b.toInt) (h2 : a.toInt + b.toInt < 2147483648) : (a + b).toInt = a.toInt + b.toInt := by
  rw [Int32.toInt_add]; exact Int.bmod_eq_of_le (by omega) (by omega)
theorem pz_sub {a b : Int32} (h1 : -2147483648 ≤ a.toInt - b.toInt) (h2 : a.toInt - b.toInt < 2147483648) : (a - b).toInt = a.toInt - b.toInt := by
  rw [Int32.toInt_sub]; exact Int.bmod_eq_of_le (by omega) (by omega)
theorem pz_mul {a b : Int32} (h1 : -2147483648 ≤ a.toInt * b.toInt) (h2 : a.toInt * b.toInt < 2147483648) : (a * b).toInt = a.toInt * b.toInt := by
  rw [Int32.toInt_mul]; exact Int.bmod_eq_of_le (by omega) (by omega)
theorem pz_neg {a : Int32} (h1 : a.toInt ≠ -2147483648) : (-a).toInt = -a.toInt := by
  have h2 := Int32.toInt_lt a
  have h3 := Int32.le_toInt a
  rw [Int32.toInt_neg]; exact Int.bmod_eq_of_le (by omega) (by omega)
theorem pz_cl (a : Int32) : a.toNatClampNeg = a.toInt.toNat := rfl
theorem pz_nI {n : Nat} (h : n < 2147483648) : (nI n).toInt = (n : Int) := nI_toInt (by omega)
theorem pz_ncl {n : Nat} (h : n < 2147483648) : (nI n).toNatClampNeg = n := nI_clamp (by omega)
/-- an index that is inside -/
theorem pz_ix {i n : Nat} (h : i < n) (hn : n < 2147483648) : ¬ (nI i < 0 ∨ n ≤ Int32.toNatClampNeg (nI i)) := nI_in h (by omega)
/-! LOOPS: a loop whose states are known, one by an invariant, two side by side -/
theorem oz_l1 {V O : Type} {f : V → Option (V ⊕ O)} {n : Nat} {v v' : V} (h : f v = some (.inl v')) : oz_loop f (n + 1) v = oz_loop f n v' := by
  rw [oz_loop, h]
theorem oz_l2 {V O : Type} {f : V → Option (V ⊕ O)} {n : Nat} {v : V} {o : O} (h : f v = some (.inr o)) : oz_loop f (n + 1) v = some o := by
  rw [oz_loop, h]
theorem oz_run {V O : Type} {f : V → Option (V ⊕ O)} (st : Nat → V) (n : Nat) {o : O} (hs : ∀ i, i < n → f (st i) = some (.inl (st (i + 1)))) (he : f (st n) = some (.inr o)) :
    ∀ k i m, i + k = n → k < m → oz_loop f m (st i) = some o := by
  intro k
  induction k with
  | zero =>
    intro i m hi hm
    obtain ⟨m', rfl⟩ : ∃ m', m = m' + 1 := ⟨m - 1, by omega⟩
    have : i = n := by omega
    subst this
    exact oz_l2 he
  | succ k ih =>
    intro i m hi hm
    obtain ⟨m', rfl⟩ : ∃ m', m = m' + 1 := ⟨m - 1, by omega⟩
    rw [oz_l1 (hs i (by omega))]
    exact ih (i + 1) m' (by omega) (by omega)
theorem oz_fuel_lt {n : Nat} (h : n < 100000) : n < oz_fuel := h
theorem oz_det {V O : Type} {f : V → Option (V ⊕ O)} (st : Nat → V) (n : Nat) {o : O} (hn : n < 100000) (hs : ∀ i, i < n → f (st i) = some (.inl (st (i + 1)))) (he : f (st n) = some (.inr o)) : oz_loop f oz_fuel (st 0) = some o :=
  oz_run st n hs he n 0 oz_fuel (by omega) hn
theorem oz_inv0 {V O : Type} {f : V → Option (V ⊕ O)} (I : Nat → V → Prop) (P : O → Prop) (n : Nat)
    (hs : ∀ i v, i < n → I i v → (∃ v', f v = some (.inl v') ∧ I (i + 1) v') ∨ (∃ o, f v = some (.inr o) ∧ P o)) (he : ∀ v, I n v → ∃ o, f v = some (.inr o) ∧ P o) :
    ∀ k i m v, i + k = n → k < m → I i v → ∃ o, oz_loop f m v = some o ∧ P o := by
  intro k
  induction k with
  | zero =>
    intro i m v hi hm h
    obtain ⟨m', rfl⟩ : ∃ m', m = m' + 1 := ⟨m - 1, by omega⟩
    have : i = n := by omega
    subst this
    obtain ⟨o, h1, h2⟩ := he v h
    exact ⟨o, oz_l2 h1, h2⟩
  | succ k ih =>
    intro i m v hi hm h
    obtain ⟨m', rfl⟩ : ∃ m', m = m' + 1 := ⟨m - 1, by omega⟩
    rcases hs i v (by omega) h with ⟨v', h1, h2⟩ | ⟨o, h1, h2⟩
    · rw [oz_l1 h1]
      exact ih (i + 1) m' v' (by omega) (by omega) h2
    · exact ⟨o, oz_l2 h1, h2⟩
theorem oz_inv {V O : Type} {f : V → Option (V ⊕ O)} (I : Nat → V → Prop) (P : O → Prop) (n : Nat) (hn : n < 100000)
    (hs : ∀ i v, i < n → I i v → (∃ v', f v = some (.inl v') ∧ I (i + 1) v') ∨ (∃ o, f v = some (.inr o) ∧ P o)) (he : ∀ v, I n v → ∃ o, f v = some (.inr o) ∧ P o) {v : V} (h : I 0 v) : ∃ o, oz_loop f oz_fuel v = some o ∧ P o :=
  oz_inv0 I P n hs he n 0 oz_fuel v (by omega) hn h
theorem oz_rel0 {V O V' O' : Type} {f : V → Option (V ⊕ O)} {g : V' → Option (V' ⊕ O')} (I : Nat → V → V' → Prop) (P : O → O' → Prop) (n : Nat)
    (hs : ∀ i v w, i < n → I i v w → (∃ v' w', f v = some (.inl v') ∧ g w = some (.inl w') ∧ I (i + 1) v' w') ∨ (∃ o o', f v = some (.inr o) ∧ g w = some (.inr o') ∧ P o o'))
    (he : ∀ v w, I n v w → ∃ o o', f v = some (.inr o) ∧ g w = some (.inr o') ∧ P o o') :
    ∀ k i m v w, i + k = n → k < m → I i v w → ∃ o o', oz_loop f m v = some o ∧ oz_loop g m w = some o' ∧ P o o' := by
  intro k
  induction k with
  | zero =>
    intro i m v w hi hm h
    obtain ⟨m', rfl⟩ : ∃ m', m = m' + 1 := ⟨m - 1, by omega⟩
    have : i = n := by omega
    subst this
    obtain ⟨o, o', h1, h2, h3⟩ := he v w h
    exact ⟨o, o', oz_l2 h1, oz_l2 h2, h3⟩
  | succ k ih =>
    intro i m v w hi hm h
    obtain ⟨m', rfl⟩ : ∃ m', m = m' + 1 := ⟨m - 1, by omega⟩
    rcases hs i v w (by omega) h with ⟨v', w', h1, h2, h3⟩ | ⟨o, o', h1, h2, h3⟩
    · rw [oz_l1 h1, oz_l1 h2]
      exact ih (i + 1) m' v' w' (by omega) (by omega) h3
    · exact ⟨o, o', oz_l2 h1, oz_l2 h2, h3⟩
theorem oz_rel {V O V' O' : Type} {f : V → Option (V ⊕ O)} {g : V' → Option (V' ⊕ O')} (I : Nat → V → V' → Prop) (P : O → O' → Prop) (n : Nat) (hn : n < 100000)
    (hs : ∀ i v w, i < n → I i v w → (∃ v' w', f v = some (.inl v') ∧ g w = some (.inl w') ∧ I (i + 1) v' w') ∨ (∃ o o', f v = some (.inr o) ∧ g w = some (.inr o') ∧ P o o'))
    (he : ∀ v w, I n v w → ∃ o o', f v = some (.inr o) ∧ g w = some (.inr o') ∧ P o o') {v : V} {w : V'} (h : I 0 v w) : ∃ o o', oz_loop f oz_fuel v = some o ∧ oz_loop g oz_fuel w = some o' ∧ P o o' :=
  oz_rel0 I P n hs he n 0 oz_fuel v w (by omega) hn h
theorem oz_b {α β : Type} {x : Option α} {y : α} {f : α → Option β} (h : x = some y) : Option.bind x f = f y := by rw [h]; rfl
theorem oz_if_t {c : Prop} [Decidable c] {α : Type} {a b : α} (h : c) : (if c then a else b) = a := if_pos h
theorem oz_if_f {c : Prop} [Decidable c] {α : Type} {a b : α} (h : ¬ c) : (if c then a else b) = b := if_neg h
