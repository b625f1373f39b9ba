theorem hx_rem {n : Nat} (hn : n ≤ 8) {room : Nat → Int32} {last count places undos : Int32} {cells past : Nat → Int32} (hH : iv_H n room last count places cells undos past)
    {kept away t : Nat → Int32} {days spilled river : Int32} (hS : pr_S kept away days spilled river t) (hB : pr_B n room 9030 kept away days spilled river) :
    ∃ y y', fX2_remember last count places cells days spilled river kept away = some y ∧ fX12_remember undos t past = some y' ∧ iv_H n room y.1 y.2.1 places y.2.2 y'.1 y'.2 := by
  obtain ⟨e, c, H1, H2, H3, H4, H5, H6, H7, H8⟩ := hH
  obtain ⟨q, q1, q2, q3⟩ := hx_put (N := 570) (P := 30) (e := e) H1 (by omega) (by omega) (by omega) hS cells
  have hS' := hS
  obtain ⟨s1, s2, s3, s4, s5⟩ := hS
  have hX : fX2_remember last count places cells days spilled river kept away = some (nI ((e + 1) % 30), nI (if c < 30 then c + 1 else 30), q) := by
    unfold fX2_remember
    rw [H3, H4, H6, oz_b q1, nI_1, nI_1, show (30 : Int32) = nI 30 from rfl, pk_rem (by omega) (by omega) (by omega)]
    rcases Nat.lt_or_ge c 30 with z | z
    · rw [if_pos z]
      rcases Nat.lt_or_ge (c + 1) 30 with y | y
      · rw [if_pos (nI_lt y (by omega))]
      · rw [if_neg (nI_nlt y (by omega)), show c + 1 = 30 by omega]
    · rw [if_neg (nI_nlt (show 30 ≤ c + 1 by omega) (by omega)), if_neg (show ¬ c < 30 by omega)]
  have bt : ∀ (p : Nat → Int32) (j : Nat), (∀ k, k < 19 → p (19 * j + k) = t k) → pr_B n room 9030 (fun h => p (19 * j + h)) (fun h => p (19 * j + (8 + h))) (p (19 * j + 16)) (p (19 * j + 17)) (p (19 * j + 18)) := by
    intro p j hp
    exact pr_B_congr hn (fun h hh => (hp h (by omega)).trans (s1 h hh)) (fun h hh => (hp (8 + h) (by omega)).trans (s2 h hh)) ((hp 16 (by omega)).trans s3) ((hp 17 (by omega)).trans s4) ((hp 18 (by omega)).trans s5) hB
  have bo : ∀ (p : Nat → Int32) (j j' : Nat), j' < c → (∀ k, k < 19 → p (19 * j + k) = past (19 * j' + k)) → pr_B n room 9030 (fun h => p (19 * j + h)) (fun h => p (19 * j + (8 + h))) (p (19 * j + 16)) (p (19 * j + 17)) (p (19 * j + 18)) := by
    intro p j j' hj hp
    exact pr_B_congr hn (fun h hh => hp h (by omega)) (fun h hh => hp (8 + h) (by omega)) (hp 16 (by omega)) (hp 17 (by omega)) (hp 18 (by omega)) (H8 j' hj)
  rcases Nat.lt_or_ge c 30 with hc | hc
  · obtain ⟨r, r1, r2⟩ := cz_copies (n0 := 19) (n2 := 570) (i := 0) (j := 19 * c) (m := 19) (p0 := t) (p2 := past) (by omega) (by omega) (by omega) (by omega)
    have r3 : ∀ k, k < 19 → r (19 * c + k) = t k := fun k hk => by rw [r2, if_pos (by omega)]; exact congrArg t (by omega)
    have r4 : ∀ j, j < c → ∀ k, k < 19 → r (19 * j + k) = past (19 * j + k) := fun j hj k hk => by rw [r2, if_neg (by omega)]
    refine ⟨_, (nI (c + 1), r), hX, ?_, (e + 1) % 30, c + 1, by omega, by omega, rfl, by rw [if_pos hc], rfl, H6, ?_, ?_⟩
    · unfold fX12_remember
      rw [H5, if_neg (fun z => by have := (nI_eq (a := c) (b := 30) (by omega) (by omega)).mp z; omega), show (19 : Int32) * nI c = nI (19 * c) from pk_mul 19 c, nI_1]
      exact oz_b r1
    · intro j hj k hk
      dsimp only
      rcases Nat.lt_or_ge j c with z | z
      · rw [r4 j z k hk, ← H7 j z k hk, show ((e + 1) % 30 + 30 - (c + 1) + j) % 30 = (e + 30 - c + j) % 30 by omega]
        exact q3 _ (by omega)
      · have : j = c := by omega
        subst this
        rw [r3 k hk, show ((e + 1) % 30 + 30 - (j + 1) + j) % 30 = e by omega]
        exact q2 k hk
    · intro j hj
      dsimp only
      rcases Nat.lt_or_ge j c with z | z
      · exact bo r j j z (fun k hk => r4 j z k hk)
      · have : j = c := by omega
        subst this
        exact bt r j r3
  · have hc3 : c = 30 := by omega
    subst hc3
    obtain ⟨o, o1, o2⟩ := hx_rem30 past
    obtain ⟨r, r1, r2⟩ := cz_copies (n0 := 19) (n2 := 570) (i := 0) (j := 551) (m := 19) (p0 := t) (p2 := o.2) (by omega) (by omega) (by omega) (by omega)
    have r3 : ∀ k, k < 19 → r (19 * 29 + k) = t k := fun k hk => by rw [r2, if_pos (by omega)]; exact congrArg t (by omega)
    have r4 : ∀ j, j < 29 → ∀ k, k < 19 → r (19 * j + k) = past (19 * (j + 1) + k) := fun j hj k hk => by rw [r2, if_neg (by omega), o2 _ (by omega)]; exact congrArg past (by omega)
    refine ⟨_, (nI 30, r), hX, ?_, (e + 1) % 30, 30, by omega, by omega, rfl, by rw [if_neg (by omega)], rfl, H6, ?_, ?_⟩
    · unfold fX12_remember
      rw [H5, if_pos (show nI 30 = 30 from rfl), oz_b o1]
      have e1 : (19 : Int32) * (nI 30 - 1) = nI 551 := by decide
      have e2 : nI 30 - 1 + 1 = nI 30 := by decide
      rw [e1, e2]
      exact oz_b r1
    · intro j hj k hk
      dsimp only
      rcases Nat.lt_or_ge j 29 with z | z
      · rw [r4 j z k hk, ← H7 (j + 1) (by omega) k hk, show ((e + 1) % 30 + 30 - 30 + j) % 30 = (e + 30 - 30 + (j + 1)) % 30 by omega]
        exact q3 _ (by omega)
      · have : j = 29 := by omega
        subst this
        rw [r3 k hk, show ((e + 1) % 30 + 30 - 30 + 29) % 30 = e by omega]
        exact q2 k hk
    · intro j hj
      dsimp only
      rcases Nat.lt_or_ge j 29 with z | z
      · exact bo r j (j + 1) (by omega) (fun k hk => r4 j z k hk)
      · have : j = 29 := by omega
        subst this
        exact bt r 29 r3
