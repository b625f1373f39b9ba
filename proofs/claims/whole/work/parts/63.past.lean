/-! THE PAST: a ring of thirty against a row that is pushed on -/
theorem cz_copies {n0 n2 i j m : Nat} {p0 p2 : Nat → Int32} (h0 : i + m ≤ n0) (h2 : j + m ≤ n2) (hn0 : n0 < 1000) (hn2 : n2 < 1000) :
    ∃ q, fX12_copies n0 n2 p0 p2 (nI i) (nI j) (nI m) = some q ∧ ∀ k, q k = if j ≤ k ∧ k < j + m then p0 (i + (k - j)) else p2 k := by
  have H : ∃ o, oz_loop (fX12_copies_b3 n0 p0 n2 (nI i) (nI j) (nI m)) oz_fuel (0, p2) = some o ∧ ∀ k, o.2 k = if j ≤ k ∧ k < j + m then p0 (i + (k - j)) else p2 k := by
    refine oz_inv (fun r v => v.1 = nI r ∧ ∀ k, v.2 k = if j ≤ k ∧ k < j + r then p0 (i + (k - j)) else p2 k) _ m (by omega) ?_ ?_ ⟨rfl, fun k => (if_neg (by omega)).symm⟩
    · intro r v hr hv
      obtain ⟨v1, v2⟩ := v
      obtain ⟨e1, e2⟩ := hv
      dsimp only at e1 e2
      subst e1
      left
      refine ⟨(nI r + 1, upd v2 (j + r) (p0 (i + r))), ?_, nI_1 r, ?_⟩
      · unfold fX12_copies_b3
        dsimp only
        rw [if_neg (nI_ge hr (by omega)), nI_add, nI_add, if_neg (pz_ix (show i + r < n0 by omega) (by omega)), if_neg (pz_ix (show j + r < n2 by omega) (by omega)), pz_ncl (by omega), pz_ncl (by omega)]
      · intro k
        dsimp only
        rcases Decidable.em (k = j + r) with q | q
        · subst q
          rw [pk_us, if_pos (by omega)]
          congr 1; omega
        · rw [pk_un q, e2 k]
          rcases Decidable.em (j ≤ k ∧ k < j + r) with z | z
          · rw [if_pos z, if_pos (by omega)]
          · rw [if_neg z, if_neg (by omega)]
    · intro v hv
      obtain ⟨v1, v2⟩ := v
      obtain ⟨e1, e2⟩ := hv
      dsimp only at e1 e2
      subst e1
      refine ⟨(nI m, v2), ?_, e2⟩
      unfold fX12_copies_b3
      dsimp only
      rw [if_pos (nI_le (Nat.le_refl m) (by omega))]
  obtain ⟨o, h1, h3⟩ := H
  refine ⟨o.2, ?_, h3⟩
  unfold fX12_copies
  exact oz_b h1
theorem pr_B_congr {n : Nat} (hn : n ≤ 8) {room : Nat → Int32} {D : Int} {kept away kept' away' : Nat → Int32} {days spilled river days' spilled' river' : Int32} (h1 : ∀ h, h < 8 → kept' h = kept h) (h2 : ∀ h, h < 8 → away' h = away h) (h3 : days' = days) (h4 : spilled' = spilled) (h5 : river' = river) (hB : pr_B n room D kept away days spilled river) : pr_B n room D kept' away' days' spilled' river' := by
  subst h3 h4 h5
  obtain ⟨b1, b2, b3, b4⟩ := hB
  refine ⟨fun h hh => ?_, fun h q1 q2 => ?_, fun h hh => ?_, b4⟩
  · rw [h1 h (by omega)]; exact b1 h hh
  · rw [h1 h q2, h2 h q2]; exact b2 h q1 q2
  · rw [h2 h hh]; exact b3 h hh
theorem pz_m19 (e : Nat) : nI e * 19 = nI (e * 19) := pk_mul e 19
theorem pz_p8 (e : Nat) : nI e + 8 = nI (e + 8) := nI_add e 8
theorem pz_p16 (e : Nat) : nI e + 16 = nI (e + 16) := nI_add e 16
theorem pz_p1 (e : Nat) : nI e + 1 = nI (e + 1) := nI_add e 1
theorem pz_p2 (e : Nat) : nI e + 2 = nI (e + 2) := nI_add e 2
theorem pz_c8 : Int32.toNatClampNeg (8 : Int32) = 8 := by decide
theorem hx_put {N P e : Nat} (he : e < P) (hN : 19 * P ≤ N) (hP : P ≤ 30) (hN2 : N < 1000) {kept away t : Nat → Int32} {days spilled river : Int32} (hS : pr_S kept away days spilled river t) (cells : Nat → Int32) :
    ∃ q, fX9_put N (nI P) cells days spilled river kept away (nI e) = some q ∧ (∀ k, k < 19 → q (19 * e + k) = t k) ∧ (∀ k, (k < 19 * e ∨ 19 * e + 19 ≤ k) → q k = cells k) := by
  obtain ⟨s1, s2, s3, s4, s5⟩ := hS
  unfold fX9_put
  have c1 : Int32.toNatClampNeg (nI (e * 19)) = e * 19 := pz_ncl (by omega)
  have c2 : Int32.toNatClampNeg (nI (e * 19 + 8)) = e * 19 + 8 := pz_ncl (by omega)
  have c3 : Int32.toNatClampNeg (nI (e * 19 + 16)) = e * 19 + 16 := pz_ncl (by omega)
  have c4 : Int32.toNatClampNeg (nI (e * 19 + 16 + 1)) = e * 19 + 16 + 1 := pz_ncl (by omega)
  have c5 : Int32.toNatClampNeg (nI (e * 19 + 16 + 2)) = e * 19 + 16 + 2 := pz_ncl (by omega)
  have p0 : ¬ nI e < 0 := nI_pos (by omega)
  have p1 : ¬ nI (e * 19) < 0 := nI_pos (by omega)
  have p2 : ¬ nI (e * 19 + 8) < 0 := nI_pos (by omega)
  rw [if_neg p0, if_pos (nI_lt he (by omega))]
  simp only [pz_m19, pz_p8, pz_p16, pz_p1, pz_p2]
  rw [if_neg (pz_ix (show e * 19 + 16 < N by omega) (by omega)), if_neg (pz_ix (show e * 19 + 16 + 1 < N by omega) (by omega)), if_neg (pz_ix (show e * 19 + 16 + 2 < N by omega) (by omega))]
  simp only [c1, c2, c3, c4, c5, pz_c0, pz_c8]
  have d1 : ¬ (nI (e * 19) < 0 ∨ N < e * 19 + 8) := fun z => by
    rcases z with z | z
    · exact p1 z
    · omega
  have d2 : ¬ (nI (e * 19 + 8) < 0 ∨ N < e * 19 + 8 + 8) := fun z => by
    rcases z with z | z
    · exact p2 z
    · omega
  rw [if_neg d1, if_neg d2]
  refine ⟨_, rfl, ?_, ?_⟩
  · intro k hk
    rcases Nat.lt_or_ge k 8 with z | z
    · rw [pk_un (show 19 * e + k ≠ e * 19 + 16 + 2 by omega), pk_un (show 19 * e + k ≠ e * 19 + 16 + 1 by omega), pk_un (show 19 * e + k ≠ e * 19 + 16 by omega), pk_cpy_out (by omega), pk_cpy_in (by omega) (by omega), s1 k z]
      congr 1; omega
    · rcases Nat.lt_or_ge k 16 with y | y
      · obtain ⟨h, rfl⟩ : ∃ h, k = 8 + h := ⟨k - 8, by omega⟩
        rw [pk_un (show 19 * e + (8 + h) ≠ e * 19 + 16 + 2 by omega), pk_un (show 19 * e + (8 + h) ≠ e * 19 + 16 + 1 by omega), pk_un (show 19 * e + (8 + h) ≠ e * 19 + 16 by omega), pk_cpy_in (by omega) (by omega), s2 h (by omega)]
        congr 1; omega
      · rcases (show k = 16 ∨ k = 17 ∨ k = 18 by omega) with rfl | rfl | rfl
        · rw [pk_un (show 19 * e + 16 ≠ e * 19 + 16 + 2 by omega), pk_un (show 19 * e + 16 ≠ e * 19 + 16 + 1 by omega), show 19 * e + 16 = e * 19 + 16 by omega, pk_us, s3]
        · rw [pk_un (show 19 * e + 17 ≠ e * 19 + 16 + 2 by omega), show 19 * e + 17 = e * 19 + 16 + 1 by omega, pk_us, s4]
        · rw [show 19 * e + 18 = e * 19 + 16 + 2 by omega, pk_us, s5]
  · intro k hk
    rw [pk_un (by omega), pk_un (by omega), pk_un (by omega), pk_cpy_out (by omega), pk_cpy_out (by omega)]
theorem hx_rem30 (p : Nat → Int32) : ∃ o, oz_loop fX12_remember_b11 oz_fuel (0, p) = some o ∧ ∀ k, k < 551 → o.2 k = p (k + 19) := by
  have H : ∃ o, oz_loop fX12_remember_b11 oz_fuel (0, p) = some o ∧ (∀ k, k < 551 → o.2 k = p (k + 19)) ∧ True := by
    refine oz_inv (fun r v => v.1 = nI r ∧ (∀ k, k < r → v.2 k = p (k + 19)) ∧ ∀ k, r ≤ k → v.2 k = p k) _ 551 (by omega) ?_ ?_ ⟨rfl, fun k h => by omega, fun _ _ => rfl⟩
    · intro r v hr hv
      obtain ⟨v1, v2⟩ := v
      obtain ⟨e1, e2, e3⟩ := hv
      dsimp only at e1 e2 e3
      subst e1
      left
      refine ⟨(nI r + 1, upd v2 r (p (r + 19))), ?_, nI_1 r, ?_, ?_⟩
      · unfold fX12_remember_b11
        dsimp only
        rw [if_neg (show ¬ (551 : Int32) ≤ nI r from (nI_ge (b := 551) hr (by omega) : ¬ nI 551 ≤ nI r)), show nI r + 19 = nI (r + 19) from nI_add r 19, if_neg (pz_ix (show r + 19 < 570 by omega) (by omega)), if_neg (pz_ix (show r < 570 by omega) (by omega)), pz_ncl (by omega), pz_ncl (by omega), e3 (r + 19) (by omega)]
      · intro k hk
        dsimp only
        rcases Decidable.em (k = r) with q | q
        · subst q; rw [pk_us]
        · rw [pk_un q]; exact e2 k (by omega)
      · intro k hk
        dsimp only
        rw [pk_un (show k ≠ r by omega)]; exact e3 k (by omega)
    · intro v hv
      obtain ⟨v1, v2⟩ := v
      obtain ⟨e1, e2, e3⟩ := hv
      dsimp only at e1 e2 e3
      subst e1
      refine ⟨(nI 551, v2), ?_, e2, trivial⟩
      unfold fX12_remember_b11
      dsimp only
      rw [if_pos (show (551 : Int32) ≤ nI 551 by decide)]
  obtain ⟨o, h1, h2, _⟩ := H
  exact ⟨o, h1, h2⟩
