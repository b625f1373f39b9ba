/-! WHAT NEIGHBOURS HOLD -/
theorem sl_settle {over : Nat → Int32} {g t : Nat} (hg : g < 8) (ht : t < 8) (hgt : g ≠ t) (bg : -10000 ≤ (over g).toInt ∧ (over g).toInt ≤ 10000) (bt : -10000 ≤ (over t).toInt ∧ (over t).toInt ≤ 10000) :
    ∃ am over', fX4_settle over (nI g) (nI t) = some (am, over') ∧ ((0 < (over g).toInt ∧ (over t).toInt < 0 ∧ (am.toInt = (over g).toInt ∨ am.toInt = -(over t).toInt) ∧ am.toInt ≤ (over g).toInt ∧ am.toInt ≤ -(over t).toInt) ∨ (¬ (0 < (over g).toInt ∧ (over t).toInt < 0) ∧ am.toInt = 0)) ∧ (over' g).toInt = (over g).toInt - am.toInt ∧ (over' t).toInt = (over t).toInt + am.toInt ∧ ∀ k, k ≠ g → k ≠ t → over' k = over k := by
  have cg : Int32.toNatClampNeg (nI g) = g := pz_ncl (by omega)
  have ct : Int32.toNatClampNeg (nI t) = t := pz_ncl (by omega)
  have en : (-(over t)).toInt = -(over t).toInt := pz_neg (by omega)
  unfold fX4_settle
  rw [if_neg (pz_ix hg (by omega)), if_neg (pz_ix ht (by omega))]
  simp only [cg, ct]
  generalize hm : (if -(over t) < over g then -(over t) else over g) = m
  have hm1 : (m.toInt = (over g).toInt ∨ m.toInt = -(over t).toInt) ∧ m.toInt ≤ (over g).toInt ∧ m.toInt ≤ -(over t).toInt := by
    rcases Decidable.em (-(over t) < over g) with z | z
    · rw [if_pos z] at hm; subst hm
      rw [pz_lt, en] at z
      rw [en]; omega
    · rw [if_neg z] at hm; subst hm
      rw [pz_lt, en] at z
      omega
  rcases Decidable.em (0 < m) with z | z
  · rw [if_pos z]
    rw [pz_lt, pz_i0] at z
    refine ⟨m, _, rfl, Or.inl (by omega), ?_, ?_, ?_⟩
    · rw [pk_un hgt, pk_us, pz_sub (by omega) (by omega)]
    · rw [pk_us, pk_un hgt.symm, pz_add (by omega) (by omega)]
    · intro k h1 h2
      rw [pk_un h2, pk_un h1]
  · rw [if_neg z]
    rw [pz_lt, pz_i0] at z
    refine ⟨0, over, rfl, Or.inr ⟨by omega, pz_i0⟩, by rw [pz_i0]; omega, by rw [pz_i0]; omega, fun _ _ _ => rfl⟩
theorem sl_less {a b : Int32} : ∃ m, fX12_lesser a b = some m ∧ (m.toInt = a.toInt ∨ m.toInt = b.toInt) ∧ m.toInt ≤ a.toInt ∧ m.toInt ≤ b.toInt := by
  unfold fX12_lesser
  rcases Decidable.em (b ≤ a) with z | z
  · rw [if_pos z]; rw [pz_le] at z
    exact ⟨b, rfl, by omega⟩
  · rw [if_neg z]; rw [pz_le] at z
    exact ⟨a, rfl, by omega⟩
theorem sl_model {n h j : Nat} (hn : n ≤ 8) (hh : h < n) (hj : j < h) {town free : Nat → Int32} (hd : town (19 + h) = nI j) (s : Int32) (bf : -10000 ≤ (free h).toInt ∧ (free h).toInt ≤ 10000) (bj : -10000 ≤ (free j).toInt ∧ (free j).toInt ≤ 10000) :
    ∃ am free', fX12_held_b67 town (nI h, s, free) = some (.inl (nI h + (-1), s + am, free')) ∧ (∀ k, k ≠ h → k ≠ j → free' k = free k) ∧
      (((free h).toInt < 0 ∧ 0 < (free j).toInt ∧ (am.toInt = -(free h).toInt ∨ am.toInt = (free j).toInt) ∧ am.toInt ≤ -(free h).toInt ∧ am.toInt ≤ (free j).toInt ∧ (free' h).toInt = (free h).toInt + am.toInt ∧ (free' j).toInt = (free j).toInt - am.toInt) ∨ (0 < (free h).toInt ∧ (free j).toInt < 0 ∧ (am.toInt = (free h).toInt ∨ am.toInt = -(free j).toInt) ∧ am.toInt ≤ (free h).toInt ∧ am.toInt ≤ -(free j).toInt ∧ (free' h).toInt = (free h).toInt - am.toInt ∧ (free' j).toInt = (free j).toInt + am.toInt) ∨
        (¬ ((free h).toInt < 0 ∧ 0 < (free j).toInt) ∧ ¬ (0 < (free h).toInt ∧ (free j).toInt < 0) ∧ am.toInt = 0 ∧ (free' h).toInt = (free h).toInt ∧ (free' j).toInt = (free j).toInt)) := by
  have ch : Int32.toNatClampNeg (nI h) = h := pz_ncl (by omega)
  have cj : Int32.toNatClampNeg (nI j) = j := pz_ncl (by omega)
  have c19 : Int32.toNatClampNeg (nI (19 + h)) = 19 + h := pz_ncl (by omega)
  have p0 : ¬ nI h < 0 := nI_pos (by omega)
  have n1 : ¬ nI j = -1 := by
    intro z
    have z2 := congrArg Int32.toInt z
    rw [pz_nI (by omega), show (-1 : Int32).toInt = -1 by decide] at z2
    omega
  have z00 : (0 : Int32) - 0 = 0 := by decide
  have s0 : ∀ x : Int32, x - 0 = x := fun x => Int32.sub_zero x
  have eh : (-(free h)).toInt = -(free h).toInt := pz_neg (by omega)
  have ej : (-(free j)).toInt = -(free j).toInt := pz_neg (by omega)
  have jh : j ≠ h := by omega
  have key : fX12_held_b67 town (nI h, s, free) = (if 0 ≤ free h then (if free h ≤ 0 then some (.inl (nI h + (-1), s + (0 + 0), upd (upd free j (free j + (0 - 0))) h (upd free j (free j + (0 - 0)) h + (0 - 0)))) else (if 0 ≤ free j then some (.inl (nI h + (-1), s + (0 + 0), upd (upd free j (free j + (0 - 0))) h (upd free j (free j + (0 - 0)) h + (0 - 0)))) else Option.bind (fX12_lesser (free h) (-(free j))) (fun y157 => some (.inl (nI h + (-1), s + (0 + y157), upd (upd free j (free j + (y157 - 0))) h (upd free j (free j + (y157 - 0)) h + (0 - y157))))))) else (if free j ≤ 0 then (if free h ≤ 0 then some (.inl (nI h + (-1), s + (0 + 0), upd (upd free j (free j + (0 - 0))) h (upd free j (free j + (0 - 0)) h + (0 - 0)))) else (if 0 ≤ free j then some (.inl (nI h + (-1), s + (0 + 0), upd (upd free j (free j + (0 - 0))) h (upd free j (free j + (0 - 0)) h + (0 - 0)))) else Option.bind (fX12_lesser (free h) (-(free j))) (fun y157 => some (.inl (nI h + (-1), s + (0 + y157), upd (upd free j (free j + (y157 - 0))) h (upd free j (free j + (y157 - 0)) h + (0 - y157))))))) else Option.bind (fX12_lesser (-(free h)) (free j)) (fun y117 => if free h ≤ 0 then some (.inl (nI h + (-1), s + (y117 + 0), upd (upd free j (free j + (0 - y117))) h (upd free j (free j + (0 - y117)) h + (y117 - 0)))) else (if 0 ≤ free j then some (.inl (nI h + (-1), s + (y117 + 0), upd (upd free j (free j + (0 - y117))) h (upd free j (free j + (0 - y117)) h + (y117 - 0)))) else Option.bind (fX12_lesser (free h) (-(free j))) (fun y157 => some (.inl (nI h + (-1), s + (y117 + y157), upd (upd free j (free j + (y157 - y117))) h (upd free j (free j + (y157 - y117)) h + (y117 - y157)))))))))  := by
    unfold fX12_held_b67
    dsimp only
    simp only [pz_a19]
    simp only [if_neg p0, if_neg (pz_ix (show 19 + h < 27 by omega) (by omega)), if_neg (pz_ix (show h < 8 by omega) (by omega))]
    simp only [c19, hd]
    simp only [if_neg n1, if_neg (pz_ix (show j < 8 by omega) (by omega))]
    simp only [ch, cj]
  rw [key]
  have other : ∀ (x y : Int32) (k : Nat), k ≠ h → k ≠ j → upd (upd free j x) h y k = free k := fun x y k h1 h2 => by rw [pk_un h1, pk_un h2]
  have same : ∃ am free', some (Sum.inl (nI h + (-1), s + (0 + 0), upd (upd free j (free j + (0 - 0))) h (upd free j (free j + (0 - 0)) h + (0 - 0)))) = (some (.inl (nI h + (-1), s + am, free')) : Option ((Int32 × Int32 × (Nat → Int32)) ⊕ (Int32 × Int32 × (Nat → Int32)))) ∧ (∀ k, k ≠ h → k ≠ j → free' k = free k) ∧ am.toInt = 0 ∧ (free' h).toInt = (free h).toInt ∧ (free' j).toInt = (free j).toInt := by
    refine ⟨0, _, by rw [pz_a0 0], other _ _, pz_i0, ?_, ?_⟩
    · rw [pk_us, pk_un jh.symm, z00, pz_a0]
    · rw [pk_un jh, pk_us, z00, pz_a0]
  rcases Int.lt_or_le (free h).toInt 0 with f1 | f1
  · rw [if_neg (fun z => by rw [pz_le, pz_i0] at z; omega)]
    rcases Int.lt_or_le 0 (free j).toInt with g1 | g1
    · rw [if_neg (fun z => by rw [pz_le, pz_i0] at z; omega)]
      obtain ⟨m, m1, m2⟩ := sl_less (a := -(free h)) (b := free j)
      rw [eh] at m2
      rw [oz_b m1, if_pos (by rw [pz_le, pz_i0]; omega)]
      have t0 : (0 - m).toInt = -m.toInt := by rw [pz_sub (by rw [pz_i0]; omega) (by rw [pz_i0]; omega), pz_i0]; omega
      refine ⟨m, _, by rw [pz_a0 m], other _ _, Or.inl ⟨f1, g1, by omega, by omega, by omega, ?_, ?_⟩⟩
      · rw [pk_us, pk_un jh.symm, s0, pz_add (by omega) (by omega)]
      · rw [pk_un jh, pk_us, pz_add (by omega) (by omega), t0]; omega
    · rw [if_pos (by rw [pz_le, pz_i0]; omega), if_pos (by rw [pz_le, pz_i0]; omega)]
      obtain ⟨am, free', a1, a2, a3, a4, a5⟩ := same
      exact ⟨am, free', a1, a2, Or.inr (Or.inr ⟨by omega, by omega, a3, a4, a5⟩)⟩
  · rw [if_pos (by rw [pz_le, pz_i0]; omega)]
    rcases Int.lt_or_le 0 (free h).toInt with f2 | f2
    · rw [if_neg (fun z => by rw [pz_le, pz_i0] at z; omega)]
      rcases Int.lt_or_le (free j).toInt 0 with g1 | g1
      · rw [if_neg (fun z => by rw [pz_le, pz_i0] at z; omega)]
        obtain ⟨m, m1, m2⟩ := sl_less (a := free h) (b := -(free j))
        rw [ej] at m2
        rw [oz_b m1]
        have t0 : (0 - m).toInt = -m.toInt := by rw [pz_sub (by rw [pz_i0]; omega) (by rw [pz_i0]; omega), pz_i0]; omega
        refine ⟨m, _, by rw [pz_0a m], other _ _, Or.inr (Or.inl ⟨f2, g1, by omega, by omega, by omega, ?_, ?_⟩)⟩
        · rw [pk_us, pk_un jh.symm, pz_add (by omega) (by omega), t0]; omega
        · rw [pk_un jh, pk_us, s0, pz_add (by omega) (by omega)]
      · rw [if_pos (by rw [pz_le, pz_i0]; omega)]
        obtain ⟨am, free', a1, a2, a3, a4, a5⟩ := same
        exact ⟨am, free', a1, a2, Or.inr (Or.inr ⟨by omega, by omega, a3, a4, a5⟩)⟩
    · rw [if_pos (by rw [pz_le, pz_i0]; omega)]
      obtain ⟨am, free', a1, a2, a3, a4, a5⟩ := same
      exact ⟨am, free', a1, a2, Or.inr (Or.inr ⟨by omega, by omega, a3, a4, a5⟩)⟩
