/-! THE READER: letters, blanks, figures on both sides -/
theorem tk_here1 {k j : Nat} (hk : k ≤ 200) (hj : j < k) (T : Nat → Int32) : fX12_here (nI k) (nI j) T = some (T j) := by
  unfold fX12_here
  rw [if_neg (nI_ge hj (by omega)), if_neg (pz_ix (show j < 200 by omega) (by omega)), pz_ncl (show j < 2147483648 by omega)]
theorem tk_here0 {k : Nat} (hk : k ≤ 200) (T : Nat → Int32) : fX12_here (nI k) (nI k) T = some (-1) := by
  unfold fX12_here
  rw [if_pos (nI_le (Nat.le_refl k) (by omega))]
theorem tk_skip {k p : Nat} (hk : k ≤ 200) (hp : p ≤ k) {L T : Nat → Int32} (hT : ∀ j, j < k → L j = T j) :
    ∃ q, p ≤ q ∧ q ≤ k ∧ fX8_skipBlanks (nI k) (nI p) L = some (nI q) ∧ oz_loop (fX12_step_b0 (nI k) T) oz_fuel (nI p) = some (nI q) ∧ (q = k ∨ (q < k ∧ ¬ L q = 32)) := by
  have R : ∃ o o', oz_loop (fX8_skipBlanks_b0 (nI k) L) oz_fuel (nI p) = some o ∧ oz_loop (fX12_step_b0 (nI k) T) oz_fuel (nI p) = some o' ∧ ∃ q, o = nI q ∧ o' = nI q ∧ p ≤ q ∧ q ≤ k ∧ (q = k ∨ (q < k ∧ ¬ L q = 32)) := by
    refine oz_rel (fun (i : Nat) (v w : Int32) => v = nI (p + i) ∧ w = nI (p + i)) (fun (o o' : Int32) => ∃ q, o = nI q ∧ o' = nI q ∧ p ≤ q ∧ q ≤ k ∧ (q = k ∨ (q < k ∧ ¬ L q = 32))) (k - p) (by omega) ?_ ?_ ⟨rfl, rfl⟩
    · intro i v w hi hv
      obtain ⟨rfl, rfl⟩ := hv
      have hX : fX8_skipBlanks_b0 (nI k) L (nI (p + i)) = if L (p + i) = 32 then some (.inl (nI (p + i) + 1)) else some (.inr (nI (p + i))) := by
        unfold fX8_skipBlanks_b0
        rw [if_neg (nI_ge (show p + i < k by omega) (by omega)), if_neg (pz_ix (show p + i < 200 by omega) (by omega)), pz_ncl (show p + i < 2147483648 by omega)]
      have hM : fX12_step_b0 (nI k) T (nI (p + i)) = if L (p + i) = 32 then some (.inl (nI (p + i) + 1)) else some (.inr (nI (p + i))) := by
        unfold fX12_step_b0
        rw [oz_b (tk_here1 hk (show p + i < k by omega) T), hT (p + i) (by omega)]
      rcases Decidable.em (L (p + i) = 32) with z | z
      · rw [if_pos z] at hX hM
        exact Or.inl ⟨_, _, hX, hM, nI_1 (p + i), nI_1 (p + i)⟩
      · rw [if_neg z] at hX hM
        exact Or.inr ⟨_, _, hX, hM, p + i, rfl, rfl, by omega, by omega, Or.inr ⟨by omega, z⟩⟩
    · intro v w hv
      obtain ⟨rfl, rfl⟩ := hv
      rw [show p + (k - p) = k by omega]
      refine ⟨nI k, nI k, ?_, ?_, k, rfl, rfl, hp, Nat.le_refl k, Or.inl rfl⟩
      · unfold fX8_skipBlanks_b0
        rw [if_pos (nI_le (Nat.le_refl k) (by omega))]
      · unfold fX12_step_b0
        rw [oz_b (tk_here0 hk T), if_neg (by decide)]
  obtain ⟨o, o', r1, r2, q, rfl, rfl, q3, q4, q5⟩ := R
  refine ⟨q, q3, q4, ?_, r2, q5⟩
  unfold fX8_skipBlanks
  exact oz_b r1
theorem tk_skip0 {k q : Nat} (hk : k ≤ 200) {L : Nat → Int32} (h : q = k ∨ (q < k ∧ ¬ L q = 32)) : fX8_skipBlanks (nI k) (nI q) L = some (nI q) := by
  have e : oz_loop (fX8_skipBlanks_b0 (nI k) L) oz_fuel (nI q) = some (nI q) := by
    refine oz_l2 (n := 99999) ?_
    unfold fX8_skipBlanks_b0
    rcases h with h | ⟨h1, h2⟩
    · rw [if_pos (nI_le (by omega) (by omega))]
    · rw [if_neg (nI_ge h1 (by omega)), if_neg (pz_ix (show q < 200 by omega) (by omega)), pz_ncl (show q < 2147483648 by omega), if_neg h2]
  unfold fX8_skipBlanks
  exact oz_b e
def tk_fig (x : Int32) : Prop := 48 ≤ x.toInt ∧ x.toInt ≤ 57
theorem tk_fd (x : Int32) : tk_fig x ∨ ¬ tk_fig x := Decidable.em (48 ≤ x.toInt ∧ x.toInt ≤ 57)
theorem tk_i48 : (48 : Int32).toInt = 48 := by decide
theorem tk_i57 : (57 : Int32).toInt = 57 := by decide
theorem tk_l48 : (48 : Int64).toInt = 48 := by decide
theorem tk_l57 : (57 : Int64).toInt = 57 := by decide
theorem tk_f1 {x : Int32} (h : tk_fig x) : fX8_isFigure x = some 1 := by
  unfold fX8_isFigure
  rw [if_neg (by rw [pz_lt, tk_i48]; have := h.1; omega), if_neg (by rw [pz_lt, tk_i57]; have := h.2; omega)]
theorem tk_f0 {x : Int32} (h : ¬ tk_fig x) : fX8_isFigure x = some 0 := by
  unfold fX8_isFigure
  rcases Decidable.em (x < 48) with q | q
  · rw [if_pos q]
  · rw [if_neg q, if_pos]
    rw [pz_lt, tk_i57]
    rw [pz_lt, tk_i48] at q
    unfold tk_fig at h
    omega
theorem tk_m1 {x : Int32} (h : tk_fig x) : fX12_in (Int32.toInt64 x) (48 : Int64) (57 : Int64) = some 1 := mz_in1 (by rw [mz_64, tk_l48, tk_l57]; exact h)
theorem tk_m0 {x : Int32} (h : ¬ tk_fig x) : fX12_in (Int32.toInt64 x) (48 : Int64) (57 : Int64) = some 0 := mz_in0 (by rw [mz_64, tk_l48, tk_l57]; exact h)
theorem tk_nm1 : ¬ tk_fig (-1) := by unfold tk_fig; decide
theorem tk_nf {x : Int32} {c : Int32} (h : ¬ tk_fig x) (hc : tk_fig c) : ¬ x = c := fun e => h (by rw [e]; exact hc)
theorem tk_48 : tk_fig 48 := by unfold tk_fig; decide
/-- the figures of a number, letter by letter -/
theorem tk_scan {k q : Nat} (hk : k ≤ 200) (hq : q ≤ k) {L T : Nat → Int32} (hT : ∀ j, j < k → L j = T j) :
    ∃ e v, q ≤ e ∧ e ≤ k ∧ oz_loop (fX8_readNumber_b12 (nI k) L (nI q)) oz_fuel (0, nI q) = some (v, nI e) ∧ oz_loop (fX12_step_b93 (nI k) T) oz_fuel (nI q, 0, 0) = some (nI e, nI (e - q), v) ∧ (q < e → q < k ∧ tk_fig (T q)) ∧ (e = q → ¬ (q < k ∧ tk_fig (T q))) := by
  have R : ∃ o o', oz_loop (fX8_readNumber_b12 (nI k) L (nI q)) oz_fuel (0, nI q) = some o ∧ oz_loop (fX12_step_b93 (nI k) T) oz_fuel (nI q, 0, 0) = some o' ∧ ∃ i v, q + i ≤ k ∧ o = (v, nI (q + i)) ∧ o' = (nI (q + i), nI i, v) ∧ (0 < i → q < k ∧ tk_fig (T q)) ∧ (i = 0 → ¬ (q < k ∧ tk_fig (T q))) := by
    refine oz_rel (fun (i : Nat) (v : Int32 × Int32) (w : Int32 × Int32 × Int32) => ∃ x, v = (x, nI (q + i)) ∧ w = (nI (q + i), nI i, x) ∧ (0 < i → q < k ∧ tk_fig (T q))) (fun (o : Int32 × Int32) (o' : Int32 × Int32 × Int32) => ∃ i v, q + i ≤ k ∧ o = (v, nI (q + i)) ∧ o' = (nI (q + i), nI i, v) ∧ (0 < i → q < k ∧ tk_fig (T q)) ∧ (i = 0 → ¬ (q < k ∧ tk_fig (T q)))) (k - q) (by omega) ?_ ?_ ⟨0, rfl, rfl, fun h => absurd h (by omega)⟩
    · intro i v w hi hv
      obtain ⟨x, rfl, rfl, h0⟩ := hv
      have es : nI (q + i) - nI q = nI i := by rw [pk_sub (by omega), show q + i - q = i by omega]
      rcases tk_fd (T (q + i)) with z | z
      · rcases Decidable.em ((3 : Int32) ≤ nI i) with y | y
        · refine Or.inl ⟨(x, nI (q + i) + 1), (nI (q + i) + 1, nI i + 1, x), ?_, ?_, x, by rw [nI_1]; rfl, by rw [nI_1, nI_1]; rfl, fun _ => ?_⟩
          · unfold fX8_readNumber_b12
            dsimp only
            rw [if_neg (nI_ge (show q + i < k by omega) (by omega)), if_neg (pz_ix (show q + i < 200 by omega) (by omega)), pz_ncl (show q + i < 2147483648 by omega), hT (q + i) (by omega), oz_b (tk_f1 z), if_neg fw_n10, es, if_pos y]
          · unfold fX12_step_b93
            dsimp only
            rw [oz_b (tk_here1 hk (show q + i < k by omega) T), oz_b (tk_m1 z), if_neg fw_n10, if_pos y]
          · rcases Nat.eq_zero_or_pos i with u | u
            · subst u; exact ⟨by omega, z⟩
            · exact h0 u
        · refine Or.inl ⟨(x * 10 + T (q + i) - 48, nI (q + i) + 1), (nI (q + i) + 1, nI i + 1, x * 10 + T (q + i) - 48), ?_, ?_, _, by rw [nI_1]; rfl, by rw [nI_1, nI_1]; rfl, fun _ => ?_⟩
          · unfold fX8_readNumber_b12
            dsimp only
            rw [if_neg (nI_ge (show q + i < k by omega) (by omega)), if_neg (pz_ix (show q + i < 200 by omega) (by omega)), pz_ncl (show q + i < 2147483648 by omega), hT (q + i) (by omega), oz_b (tk_f1 z), if_neg fw_n10, es, if_neg y]
          · unfold fX12_step_b93
            dsimp only
            rw [oz_b (tk_here1 hk (show q + i < k by omega) T), oz_b (tk_m1 z), if_neg fw_n10, if_neg y, oz_b (tk_here1 hk (show q + i < k by omega) T), Int32.mul_comm 10 x]
          · rcases Nat.eq_zero_or_pos i with u | u
            · subst u; exact ⟨by omega, z⟩
            · exact h0 u
      · refine Or.inr ⟨(x, nI (q + i)), (nI (q + i), nI i, x), ?_, ?_, i, x, by omega, rfl, rfl, h0, fun u => ?_⟩
        · unfold fX8_readNumber_b12
          dsimp only
          rw [if_neg (nI_ge (show q + i < k by omega) (by omega)), if_neg (pz_ix (show q + i < 200 by omega) (by omega)), pz_ncl (show q + i < 2147483648 by omega), hT (q + i) (by omega), oz_b (tk_f0 z), if_pos rfl]
        · unfold fX12_step_b93
          dsimp only
          rw [oz_b (tk_here1 hk (show q + i < k by omega) T), oz_b (tk_m0 z), if_pos rfl]
        · subst u; exact fun w => z w.2
    · intro v w hv
      obtain ⟨x, rfl, rfl, h0⟩ := hv
      refine ⟨(x, nI k), (nI k, nI (k - q), x), ?_, ?_, k - q, x, by omega, by rw [show q + (k - q) = k by omega], by rw [show q + (k - q) = k by omega], h0, fun u w => absurd w.1 (by omega)⟩
      · unfold fX8_readNumber_b12
        dsimp only
        rw [show q + (k - q) = k by omega, if_pos (nI_le (Nat.le_refl k) (by omega))]
      · unfold fX12_step_b93
        dsimp only
        rw [show q + (k - q) = k by omega, oz_b (tk_here0 hk T), oz_b (tk_m0 tk_nm1), if_pos rfl]
  obtain ⟨o, o', r1, r2, i, v, i1, rfl, rfl, i4, i5⟩ := R
  refine ⟨q + i, v, by omega, i1, r1, ?_, fun h => i4 (by omega), fun h => i5 (by omega)⟩
  rw [show q + i - q = i by omega]
  exact r2
def tk_S (k : Nat) (L T : Nat → Int32) (q e : Nat) (v : Int32) (r : Int32 × Int32 × Int32 × Int32 × Int32) : Prop := q ≤ k ∧ q ≤ e ∧ e ≤ k ∧ (q = k ∨ (q < k ∧ ¬ L q = 32)) ∧ oz_loop (fX8_readNumber_b12 (nI k) L (nI q)) oz_fuel (0, nI q) = some (v, nI e) ∧ ((q = k ∧ e = q ∧ r = (nI k, nI k, -1, 0, 0)) ∨ (q < k ∧ e = q ∧ ¬ tk_fig (T q) ∧ r = (nI (q + 1), nI q, T q, 0, 0)) ∨ (q < k ∧ q < e ∧ tk_fig (T q) ∧ r = (nI e, nI q, 48, nI (e - q), v)))
/-- the reference's next word, and where the class stands then -/
theorem tk_all {k p : Nat} (hk : k ≤ 200) (hp : p ≤ k) {L T : Nat → Int32} (hT : ∀ j, j < k → L j = T j) (hB : ∀ j, j < k → 0 ≤ (T j).toInt) :
    ∃ q e v r, p ≤ q ∧ tk_S k L T q e v r ∧ fX8_skipBlanks (nI k) (nI p) L = some (nI q) ∧ ∀ b s f vl, fX12_step (nI k) (nI p) b s f vl T = some r := by
  obtain ⟨q, q1, q2, q3, q4, q5⟩ := tk_skip hk hp hT
  obtain ⟨e, v, e1, e2, e3, e4, e5, e6⟩ := tk_scan hk q2 hT
  rcases Decidable.em (q = k) with z | z
  · refine ⟨q, e, v, (nI k, nI k, -1, 0, 0), q1, ⟨q2, e1, e2, q5, e3, Or.inl ⟨z, by omega, rfl⟩⟩, q3, fun b s f vl => ?_⟩
    unfold fX12_step
    rw [oz_b q4, z, oz_b (tk_here0 hk T), oz_b (tk_m0 tk_nm1), if_pos rfl, if_neg (by decide), pz_a0]
  · have hq : q < k := by omega
    rcases tk_fd (T q) with y | y
    · have he : q < e := by
        rcases (show q < e ∨ e = q by omega) with w | w
        · exact w
        · exact absurd ⟨hq, y⟩ (e6 w)
      refine ⟨q, e, v, (nI e, nI q, 48, nI (e - q), v), q1, ⟨q2, e1, e2, q5, e3, Or.inr (Or.inr ⟨hq, he, y, rfl⟩)⟩, q3, fun b s f vl => ?_⟩
      unfold fX12_step
      rw [oz_b q4, oz_b (tk_here1 hk hq T), oz_b (tk_m1 y), if_neg fw_n10, oz_b e4]
    · have he : e = q := by
        rcases (show q < e ∨ e = q by omega) with w | w
        · exact absurd (e5 w).2 y
        · exact w
      refine ⟨q, e, v, (nI (q + 1), nI q, T q, 0, 0), q1, ⟨q2, e1, e2, q5, e3, Or.inr (Or.inl ⟨hq, he, y, rfl⟩)⟩, q3, fun b s f vl => ?_⟩
      unfold fX12_step
      rw [oz_b q4, oz_b (tk_here1 hk hq T), oz_b (tk_m0 y), if_pos rfl, if_pos (by rw [pz_le, pz_i0]; exact hB q hq), nI_1]
theorem tk_bl0 (fa a b : Int32) : fX8_blame 0 fa a b = some (a, b) := if_pos rfl
theorem tk_bl1 {fk : Int32} (h : ¬ fk = 0) (fa a b : Int32) : fX8_blame fk fa a b = some (fk, fa) := if_neg h
/-- a number on both sides -/
theorem tk_num {k q e p p1 : Nat} (hk : k ≤ 200) {L T : Nat → Int32} {v : Int32} {r : Int32 × Int32 × Int32 × Int32 × Int32} (hS : tk_S k L T q e v r) (hs : fX8_skipBlanks (nI k) (nI p1) L = some (nI q)) (hm : ∀ b s f vl, fX12_step (nI k) (nI p) b s f vl T = some r) (lo hi fa wr : Int32) (read : Nat → Int32) {pl : Nat} (hpl : pl < 27) (b s f vl : Int32) :
    (lo.toInt ≤ v.toInt ∧ v.toInt ≤ hi.toInt ∧ q < e ∧ fX8_readNumber (nI k) 0 fa (nI p1) L lo hi = some (v, 0, fa, nI e) ∧ ∃ s' f', fX12_number (nI k) (nI p) b s f vl wr read T (nI pl) lo hi = some (1, nI e, nI q, s', f', v, wr, upd read pl v)) ∨
    (∃ kd : Int32, ¬ kd = 0 ∧ fX8_readNumber (nI k) 0 fa (nI p1) L lo hi = some (v, kd, nI q, nI e) ∧ ∃ a' s' f' v', fX12_number (nI k) (nI p) b s f vl wr read T (nI pl) lo hi = some (0, a', nI q, s', f', v', kd, read)) := by
  obtain ⟨q1, q2, q3, q4, q5, q6⟩ := hS
  have n1 : ¬ (1 : Int32) = 0 := fw_n10
  have n2 : ¬ (2 : Int32) = 0 := by decide
  have hX : fX8_readNumber (nI k) 0 fa (nI p1) L lo hi = if nI e = nI q then some (v, 1, nI q, nI e) else if 3 < nI (e - q) then some (v, 2, nI q, nI e) else if v < lo then some (v, 2, nI q, nI e) else if v ≤ hi then some (v, 0, fa, nI e) else some (v, 2, nI q, nI e) := by
    unfold fX8_readNumber
    rw [oz_b hs, oz_b q5]
    dsimp only
    rw [tk_bl0, tk_bl0, pk_sub q2]
    rfl
  rcases q6 with ⟨c1, c2, rfl⟩ | ⟨c1, c2, c3, rfl⟩ | ⟨c1, c2, c3, rfl⟩
  · right
    refine ⟨1, n1, ?_, nI k, -1, 0, 0, ?_⟩
    · rw [hX, if_pos (by rw [c2])]
    · unfold fX12_number
      rw [oz_b (hm b s f vl)]
      dsimp only
      rw [if_neg (by decide), oz_b (show fX12_fails wr 1 = some (0, 1) from rfl), if_neg mz_b0, c1]
  · right
    refine ⟨1, n1, ?_, nI (q + 1), T q, 0, 0, ?_⟩
    · rw [hX, if_pos (by rw [c2])]
    · unfold fX12_number
      rw [oz_b (hm b s f vl)]
      dsimp only
      rw [if_neg (tk_nf c3 tk_48), oz_b (show fX12_fails wr 1 = some (0, 1) from rfl), if_neg mz_b0]
  · rw [if_neg (fun h => by have := (nI_eq (by omega) (by omega)).1 h; omega)] at hX
    have hM : fX12_number (nI k) (nI p) b s f vl wr read T (nI pl) lo hi = if 3 < nI (e - q) then some (0, nI e, nI q, 48, nI (e - q), v, 2, read) else Option.bind (fX12_in (Int32.toInt64 v) (Int32.toInt64 lo) (Int32.toInt64 hi)) (fun y36 => if y36 = 0 then some (0, nI e, nI q, 48, nI (e - q), v, 2, read) else some (1, nI e, nI q, 48, nI (e - q), v, wr, upd read pl v)) := by
      unfold fX12_number
      rw [oz_b (hm b s f vl)]
      dsimp only
      rw [if_pos rfl, if_neg (pz_ix hpl (by omega)), pz_ncl (show pl < 2147483648 by omega), oz_b (show fX12_fails wr 2 = some (0, 2) from rfl), if_neg mz_b0]
    rcases Decidable.em ((3 : Int32) < nI (e - q)) with y | y
    · rw [if_pos y] at hX hM
      exact Or.inr ⟨2, n2, hX, _, _, _, _, hM⟩
    · rw [if_neg y] at hX hM
      rcases Decidable.em (lo.toInt ≤ v.toInt ∧ v.toInt ≤ hi.toInt) with w | w
      · rw [if_neg (by rw [pz_lt]; omega), if_pos (by rw [pz_le]; omega)] at hX
        rw [oz_b (mz_in1 (by rw [mz_64, mz_64, mz_64]; exact w)), if_neg fw_n10] at hM
        exact Or.inl ⟨w.1, w.2, c2, hX, _, _, hM⟩
      · rw [oz_b (mz_in0 (by rw [mz_64, mz_64, mz_64]; exact w)), if_pos rfl] at hM
        refine Or.inr ⟨2, n2, ?_, _, _, _, _, hM⟩
        rcases Decidable.em (v < lo) with u | u
        · rw [hX, if_pos u]
        · rw [hX, if_neg u, if_neg (by rw [pz_le]; rw [pz_lt] at u; omega)]
/-- behind a fault the class reads on, and blames nobody -/
theorem tk_numF {k p : Nat} (hk : k ≤ 200) (hp : p ≤ k) {L T : Nat → Int32} (hT : ∀ j, j < k → L j = T j) {fk : Int32} (hf : ¬ fk = 0) (fa lo hi : Int32) :
    ∃ v e, e ≤ k ∧ fX8_readNumber (nI k) fk fa (nI p) L lo hi = some (v, fk, fa, nI e) := by
  obtain ⟨q, q1, q2, q3, q4, q5⟩ := tk_skip hk hp hT
  obtain ⟨e, v, e1, e2, e3, e4, e5, e6⟩ := tk_scan hk q2 hT
  refine ⟨v, e, e2, ?_⟩
  unfold fX8_readNumber
  rw [oz_b q3, oz_b e3]
  dsimp only
  rw [tk_bl1 hf, tk_bl1 hf]
  rcases Decidable.em (nI e = nI q) with z | z
  · rw [if_pos z]; rfl
  · rw [if_neg z]
    rcases Decidable.em ((3 : Int32) < nI e - nI q) with y | y
    · rw [if_pos y]; rfl
    · rw [if_neg y]
      rcases Decidable.em (v < lo) with u | u
      · rw [if_pos u]; rfl
      · rw [if_neg u]
        rcases Decidable.em (v ≤ hi) with x | x
        · rw [if_pos x]
        · rw [if_neg x]; rfl
theorem tk_lh1 {k q : Nat} (hk : k ≤ 200) (hq : q < k) (L : Nat → Int32) (c : Int32) : fX8_letterHere (nI k) (nI q) L c = some (if L q = c then 1 else 0) := by
  unfold fX8_letterHere
  rw [if_neg (nI_ge hq (by omega)), if_neg (pz_ix (show q < 200 by omega) (by omega)), pz_ncl (show q < 2147483648 by omega)]
  rcases Decidable.em (L q = c) with z | z
  · rw [if_pos z, if_pos z]
  · rw [if_neg z, if_neg z]
theorem tk_lh0 {k : Nat} (hk : k ≤ 200) (L : Nat → Int32) (c : Int32) : fX8_letterHere (nI k) (nI k) L c = some 0 := by
  unfold fX8_letterHere
  rw [if_pos (nI_le (Nat.le_refl k) (by omega))]
theorem tk_end {k q e p : Nat} (hk : k ≤ 200) {L T : Nat → Int32} (hT : ∀ j, j < k → L j = T j) {v : Int32} {r : Int32 × Int32 × Int32 × Int32 × Int32} (hS : tk_S k L T q e v r) (hs : fX8_skipBlanks (nI k) (nI p) L = some (nI q)) (hm : ∀ b s f vl, fX12_step (nI k) (nI p) b s f vl T = some r) (fa wr b s f vl : Int32) :
    (q < k ∧ fX8_readEnd (nI k) 0 fa (nI p) L = some (0, fa, nI (q + 1)) ∧ ∃ s' f' v', fX12_ends (nI k) (nI p) b s f vl wr T = some (1, nI (q + 1), nI q, s', f', v', wr)) ∨
    (fX8_readEnd (nI k) 0 fa (nI p) L = some (1, nI q, nI (q + 1)) ∧ ∃ a' s' f' v', fX12_ends (nI k) (nI p) b s f vl wr T = some (0, a', nI q, s', f', v', 1)) := by
  obtain ⟨q1, q2, q3, q4, q5, q6⟩ := hS
  have n59 : ¬ tk_fig 59 := by unfold tk_fig; decide
  have hX : ∀ y, fX8_letterHere (nI k) (nI q) L 59 = some y → fX8_readEnd (nI k) 0 fa (nI p) L = if y = 0 then some (1, nI q, nI (q + 1)) else some (0, fa, nI (q + 1)) := by
    intro y hy
    unfold fX8_readEnd
    rw [oz_b hs, oz_b hy, tk_bl0, nI_1]
    rfl
  have hM : fX12_ends (nI k) (nI p) b s f vl wr T = if r.2.2.1 = 59 then some (1, r.1, r.2.1, r.2.2.1, r.2.2.2.1, r.2.2.2.2, wr) else some (0, r.1, r.2.1, r.2.2.1, r.2.2.2.1, r.2.2.2.2, 1) := by
    unfold fX12_ends
    rw [oz_b (hm b s f vl), oz_b (show fX12_fails wr 1 = some (0, 1) from rfl)]
    dsimp only
    rw [if_pos (show (0 : Int32) = 0 from rfl)]
  rcases q6 with ⟨c1, c2, rfl⟩ | ⟨c1, c2, c3, rfl⟩ | ⟨c1, c2, c3, rfl⟩
  · right
    have h1 := hX 0 (by rw [c1]; exact tk_lh0 hk L 59)
    rw [if_pos rfl] at h1
    rw [if_neg (by dsimp only; decide)] at hM
    exact ⟨h1, _, _, _, _, by rw [hM, c1]⟩
  · rcases Decidable.em (L q = 59) with z | z
    · left
      have h1 := hX 1 (by rw [tk_lh1 hk c1, if_pos z])
      rw [if_neg fw_n10] at h1
      rw [if_pos (by dsimp only; rw [← hT q c1]; exact z)] at hM
      exact ⟨c1, h1, _, _, _, hM⟩
    · right
      have h1 := hX 0 (by rw [tk_lh1 hk c1, if_neg z])
      rw [if_pos rfl] at h1
      rw [if_neg (by dsimp only; rw [← hT q c1]; exact z)] at hM
      exact ⟨h1, _, _, _, _, hM⟩
  · right
    have z : ¬ L q = 59 := fun h => n59 (by rw [← h, hT q c1]; exact c3)
    have h1 := hX 0 (by rw [tk_lh1 hk c1, if_neg z])
    rw [if_pos rfl] at h1
    rw [if_neg (by dsimp only; decide)] at hM
    exact ⟨h1, _, _, _, _, hM⟩
theorem tk_endF {k p : Nat} (hk : k ≤ 200) (hp : p ≤ k) {L T : Nat → Int32} (hT : ∀ j, j < k → L j = T j) {fk : Int32} (hf : ¬ fk = 0) (fa : Int32) :
    ∃ x, fX8_readEnd (nI k) fk fa (nI p) L = some (fk, fa, x) := by
  obtain ⟨q, q1, q2, q3, q4, q5⟩ := tk_skip hk hp hT
  have hl : ∃ y, fX8_letterHere (nI k) (nI q) L 59 = some y := by
    rcases Decidable.em (q = k) with z | z
    · exact ⟨_, by rw [z]; exact tk_lh0 hk L 59⟩
    · exact ⟨_, tk_lh1 hk (by omega) L 59⟩
  obtain ⟨y, hy⟩ := hl
  refine ⟨nI q + 1, ?_⟩
  unfold fX8_readEnd
  rw [oz_b q3, oz_b hy, tk_bl1 hf]
  rcases Decidable.em (y = 0) with z | z
  · rw [if_pos z]; rfl
  · rw [if_neg z]
