/-! PLUGS PULLED: both sides walk alike -/
def po_mx (kept : Nat → Int32) : Nat → Int32
  | 0 => 0
  | i + 1 => if po_mx kept i < kept i then kept i else po_mx kept i
theorem po_mx_s (kept : Nat → Int32) (i : Nat) : po_mx kept (i + 1) = if po_mx kept i < kept i then kept i else po_mx kept i := rfl
theorem po_mx_0 (kept : Nat → Int32) : ∀ i, 0 ≤ (po_mx kept i).toInt := by
  intro i
  induction i with
  | zero => exact (by decide : 0 ≤ (0 : Int32).toInt)
  | succ i ih =>
    rw [po_mx_s]
    rcases Decidable.em (po_mx kept i < kept i) with q | q
    · rw [if_pos q]; rw [pz_lt] at q; omega
    · rw [if_neg q]; exact ih
theorem po_flip (x g : Int32) : (if x ≤ g then g else x) = if g < x then x else g := by
  rcases Decidable.em (g < x) with q | q
  · rw [if_pos q, if_neg (by rw [pz_le]; rw [pz_lt] at q; omega)]
  · rw [if_neg q, if_pos (by rw [pz_le]; rw [pz_lt] at q; omega)]
theorem po_G5 {n : Nat} (hn : n ≤ 8) (kept st : Nat → Int32) : ∃ o, oz_loop (fX7_greatest_b5 (nI n) kept) oz_fuel (0, 0, st) = some o ∧ o.2.1 = po_mx kept n ∧ ∀ h, h < n → o.2.2 h = kept h := by
  refine oz_inv (fun (i : Nat) (v : Int32 × Int32 × (Nat → Int32)) => v.1 = nI i ∧ v.2.1 = po_mx kept i ∧ ∀ h, h < i → v.2.2 h = kept h) _ n (by omega) ?_ ?_ ⟨rfl, rfl, fun h hh => absurd hh (by omega)⟩
  · intro i v hi hv
    obtain ⟨v1, v2, v3⟩ := v
    obtain ⟨e1, e2, e3⟩ := hv
    dsimp only at e1 e2 e3
    subst e1 e2
    have key : fX7_greatest_b5 (nI n) kept (nI i, po_mx kept i, v3) = some (.inl (nI i + 1, po_mx kept (i + 1), upd v3 i (kept i))) := by
      unfold fX7_greatest_b5
      dsimp only
      rw [if_neg (nI_ge hi (by omega)), if_neg (pz_ix (show i < 8 by omega) (by omega)), pz_ncl (show i < 2147483648 by omega), pk_us]
      rfl
    refine Or.inl ⟨_, key, nI_1 i, rfl, fun h hh => ?_⟩
    dsimp only
    rcases (show h < i ∨ h = i by omega) with y | y
    · rw [pk_un (by omega)]; exact e3 h y
    · subst y; exact pk_us
  · intro v hv
    obtain ⟨v1, v2, v3⟩ := v
    obtain ⟨e1, e2, e3⟩ := hv
    dsimp only at e1 e2 e3
    subst e1
    refine ⟨(nI n, v2, v3), ?_, e2, e3⟩
    unfold fX7_greatest_b5
    dsimp only
    rw [if_pos (nI_le (Nat.le_refl n) (by omega))]
theorem po_P4 {n : Nat} (hn : n ≤ 8) {town now kept : Nat → Int32} (h2 : town 2 = nI n) (hk : ∀ h, h < 8 → now h = kept h) (st : Nat → Int32) : ∃ o, oz_loop (fX12_pulledBy_b4 town now) oz_fuel (0, 0, st) = some o ∧ o.2.1 = po_mx kept n ∧ ∀ h, h < n → o.2.2 h = kept h := by
  refine oz_inv (fun (i : Nat) (v : Int32 × Int32 × (Nat → Int32)) => v.1 = nI i ∧ v.2.1 = po_mx kept i ∧ ∀ h, h < i → v.2.2 h = kept h) _ n (by omega) ?_ ?_ ⟨rfl, rfl, fun h hh => absurd hh (by omega)⟩
  · intro i v hi hv
    obtain ⟨v1, v2, v3⟩ := v
    obtain ⟨e1, e2, e3⟩ := hv
    dsimp only at e1 e2 e3
    subst e1 e2
    have key : fX12_pulledBy_b4 town now (nI i, po_mx kept i, v3) = some (.inl (nI i + 1, po_mx kept (i + 1), upd v3 i (kept i))) := by
      unfold fX12_pulledBy_b4
      dsimp only
      rw [pz_c2, h2, if_neg (nI_ge hi (by omega)), pz_0a, if_neg (pz_ix (show i < 19 by omega) (by omega)), if_neg (pz_ix (show i < 8 by omega) (by omega)), pz_ncl (show i < 2147483648 by omega), pk_us, hk i (by omega), po_mx_s, ← po_flip]
      rcases Decidable.em (kept i ≤ po_mx kept i) with q | q
      · rw [if_pos q, if_pos q]
      · rw [if_neg q, if_neg q]
    refine Or.inl ⟨_, key, nI_1 i, rfl, fun h hh => ?_⟩
    dsimp only
    rcases (show h < i ∨ h = i by omega) with y | y
    · rw [pk_un (by omega)]; exact e3 h y
    · subst y; exact pk_us
  · intro v hv
    obtain ⟨v1, v2, v3⟩ := v
    obtain ⟨e1, e2, e3⟩ := hv
    dsimp only at e1 e2 e3
    subst e1
    refine ⟨(nI n, v2, v3), ?_, e2, e3⟩
    unfold fX12_pulledBy_b4
    dsimp only
    rw [pz_c2, h2, if_pos (nI_le (Nat.le_refl n) (by omega))]
theorem po_unit {n : Nat} (h1 : 1 ≤ n) (hn : n ≤ 8) {town : Nat → Int32} (h2 : town 2 = nI n) : oz_loop (fX12_pulledBy_b60 town) oz_fuel (1, 1) = some (nI n, nI (10 ^ (n - 1))) := by
  have h : oz_loop (fX12_pulledBy_b60 town) oz_fuel (nI (1 + 0), nI (10 ^ 0)) = some (nI n, nI (10 ^ (n - 1))) := by
    refine oz_det (fun i => (nI (1 + i), nI (10 ^ i))) (n - 1) (by omega) (fun i hi => ?_) ?_
    · unfold fX12_pulledBy_b60
      dsimp only
      rw [pz_c2, h2, if_neg (nI_ge (by omega) (by omega)), nI_1, show nI (10 ^ i) * 10 = nI (10 ^ i * 10) from pk_mul _ 10]
      rfl
    · unfold fX12_pulledBy_b60
      dsimp only
      rw [pz_c2, h2, if_pos (nI_le (by omega) (by omega)), show 1 + (n - 1) = n by omega]
  exact h
theorem po_walk {n : Nat} (hn : n ≤ 8) {drain town : Nat → Int32} (hd : ∀ h, h < n → town (19 + h) = drain h) (hD : pr_D n drain) {m : Nat} (hm : m < 256) :
    ∀ h, h < n → ∀ k f f', k + h < 8 → h + 1 < f → h + 1 < f' → ∃ s t, oz_loop (fX7_pull_b42 (nI n) drain (nI m)) f (nI k, nI h) = some (s, t) ∧ oz_loop (fX12_pulledBy_b112 town (nI m)) f' (nI h) = some t ∧ (t = -1 ∨ ∃ j, j ≤ h ∧ t = nI j ∧ ¬ m / 2 ^ j % 2 = 1) := by
  intro h
  induction h using Nat.strongRecOn with
  | _ h ih =>
    intro hh k f f' hk hf hf'
    obtain ⟨f, rfl⟩ : ∃ g, f = g + 1 := ⟨f - 1, by omega⟩
    obtain ⟨f', rfl⟩ : ∃ g, f' = g + 1 := ⟨f' - 1, by omega⟩
    have hb := (po_or m hm h (by omega)).2.2.1
    rcases Decidable.em (m / 2 ^ h % 2 = 1) with z | z
    · have s1 : fX7_pull_b42 (nI n) drain (nI m) (nI k, nI h) = some (.inl (nI (k + 1), drain h)) := by
        unfold fX7_pull_b42
        dsimp only
        rw [if_neg (show ¬ (8 : Int32) ≤ nI k from (nI_ge (b := 8) (by omega) (by omega) : ¬ nI 8 ≤ nI k)), oz_b (hz_has1 hh hn), if_neg fw_n10, if_pos (hb.2 z), if_neg (pz_ix (show h < 8 by omega) (by omega)), pz_ncl (show h < 2147483648 by omega), nI_1]
      have s2 : fX12_pulledBy_b112 town (nI m) (nI h) = some (.inl (drain h)) := by
        unfold fX12_pulledBy_b112
        rw [if_neg (fw_nm (by omega)), oz_b (fw_h1 (hb.2 z)), if_neg fw_n10, pz_a19, if_neg (pz_ix (show 19 + h < 27 by omega) (by omega)), pz_ncl (show 19 + h < 2147483648 by omega), hd h hh]
      rw [oz_l1 s1, oz_l1 s2]
      rcases hD h hh with q | ⟨j, hj, q⟩
      · rw [q]
        obtain ⟨f, rfl⟩ : ∃ g, f = g + 1 := ⟨f - 1, by omega⟩
        obtain ⟨f', rfl⟩ : ∃ g, f' = g + 1 := ⟨f' - 1, by omega⟩
        refine ⟨nI (k + 1), -1, oz_l2 ?_, oz_l2 ?_, Or.inl rfl⟩
        · unfold fX7_pull_b42
          dsimp only
          rw [oz_b hz_has0, if_pos rfl]
          rcases Decidable.em ((8 : Int32) ≤ nI (k + 1)) with y | y
          · rw [if_pos y]
          · rw [if_neg y]
        · unfold fX12_pulledBy_b112
          rw [if_pos rfl]
      · rw [q]
        obtain ⟨s, t, a1, a2, a3⟩ := ih j hj (by omega) (k + 1) f f' (by omega) (by omega) (by omega)
        refine ⟨s, t, a1, a2, ?_⟩
        rcases a3 with a3 | ⟨i, b1, b2⟩
        · exact Or.inl a3
        · exact Or.inr ⟨i, by omega, b2⟩
    · refine ⟨nI k, nI h, oz_l2 ?_, oz_l2 ?_, Or.inr ⟨h, Nat.le_refl h, rfl, z⟩⟩
      · unfold fX7_pull_b42
        dsimp only
        rw [if_neg (show ¬ (8 : Int32) ≤ nI k from (nI_ge (b := 8) (by omega) (by omega) : ¬ nI 8 ≤ nI k)), oz_b (hz_has1 hh hn), if_neg fw_n10, if_neg (fun x => z (hb.1 x))]
      · unfold fX12_pulledBy_b112
        rw [if_neg (fw_nm (by omega)), oz_b (fw_h0 (fun x => z (hb.1 x))), if_pos rfl]
/-- one plug, on both sides -/
theorem po_pull {n : Nat} (hn : n ≤ 8) {drain town : Nat → Int32} (hd : ∀ h, h < n → town (19 + h) = drain h) (hD : pr_D n drain) {m : Nat} (hm : m < 256) {h : Nat} (hh : h < n) (st : Nat → Int32) :
    (fX7_pull (nI m) st (nI n) drain (nI h) = some (0, nI (m ||| 2 ^ h), upd st h 0) ∧ oz_loop (fX12_pulledBy_b112 town (nI (m ||| 2 ^ h))) oz_fuel (nI h) = some (-1)) ∨
    (∃ j, j < h ∧ ¬ (m ||| 2 ^ h) / 2 ^ j % 2 = 1 ∧ fX7_pull (nI m) st (nI n) drain (nI h) = some (st j + st h, nI (m ||| 2 ^ h), upd (upd st h 0) j (st j + st h)) ∧ oz_loop (fX12_pulledBy_b112 town (nI (m ||| 2 ^ h))) oz_fuel (nI h) = some (nI j)) := by
  have hb := po_or m hm h (by omega)
  obtain ⟨s, t, a1, a2, a3⟩ := po_walk hn hd hD hb.2.1 h hh 0 oz_fuel oz_fuel (by omega) (oz_fuel_lt (by omega)) (oz_fuel_lt (by omega))
  have c0 : Int32.toNatClampNeg (nI h) = h := pz_ncl (by omega)
  have a1' : oz_loop (fX7_pull_b42 (nI n) drain (nI m ||| (1 <<< (nI h &&& 31)))) oz_fuel (0, nI h) = some (s, t) := by rw [hb.1]; exact a1
  rcases a3 with rfl | ⟨j, b1, rfl, b3⟩
  · left
    refine ⟨?_, a2⟩
    unfold fX7_pull
    rw [oz_b (hz_has1 hh hn), if_neg fw_n10, if_neg (pz_ix (show h < 8 by omega) (by omega)), oz_b a1']
    dsimp only
    rw [oz_b hz_has0, if_pos rfl, c0, hb.1]
  · right
    have hj : j < h := by
      rcases (show j < h ∨ j = h by omega) with y | y
      · exact y
      · subst y; exact absurd hb.2.2.2.2.2 b3
    refine ⟨j, hj, b3, ?_, a2⟩
    unfold fX7_pull
    rw [oz_b (hz_has1 hh hn), if_neg fw_n10, if_neg (pz_ix (show h < 8 by omega) (by omega)), oz_b a1']
    dsimp only
    rw [oz_b (hz_has1 (show j < n by omega) hn), if_neg fw_n10, if_neg (pz_ix (show j < 8 by omega) (by omega)), c0, pz_ncl (show j < 2147483648 by omega), pk_us, pk_un (show j ≠ h by omega), hb.1]
theorem po_mA {town st : Nat → Int32} {a u gr S S' : Int32} {g : Nat} (hu0 : ¬ u ≤ 0) (hu1 : ¬ u = 0) (hf : ((a / u) - (a / u) / 10 * 10) - 1 = nI g) (hg : g < 8) (hS : S ||| (1 <<< (nI g &&& 31)) = S') (hw : oz_loop (fX12_pulledBy_b112 town S') oz_fuel (nI g) = some (-1)) :
    fX12_pulledBy_b85 town a (S, u, gr, st) = some (.inl (S', u / 10, gr, upd st g 0)) := by
  unfold fX12_pulledBy_b85
  dsimp only
  rw [if_neg hu0, if_neg hu1, hf, hS, oz_b hw, if_pos rfl, if_neg (pz_ix hg (by omega)), pz_ncl (show g < 2147483648 by omega)]
theorem po_mB {town st : Nat → Int32} {a u gr S S' : Int32} {g j : Nat} (hu0 : ¬ u ≤ 0) (hu1 : ¬ u = 0) (hf : ((a / u) - (a / u) / 10 * 10) - 1 = nI g) (hg : g < 8) (hj : j < 8) (hS : S ||| (1 <<< (nI g &&& 31)) = S') (hw : oz_loop (fX12_pulledBy_b112 town S') oz_fuel (nI g) = some (nI j)) :
    fX12_pulledBy_b85 town a (S, u, gr, st) = some (.inl (S', u / 10, (if gr < st j + st g then st j + st g else gr), upd (upd st j (st j + st g)) g 0)) := by
  unfold fX12_pulledBy_b85
  dsimp only
  rw [if_neg hu0, if_neg hu1, hf, hS, oz_b hw, if_neg (fw_nm (by omega)), if_neg (pz_ix hj (by omega)), if_neg (pz_ix hg (by omega)), pz_ncl (show g < 2147483648 by omega), pz_ncl (show j < 2147483648 by omega), pk_us, ← po_flip]
  rcases Decidable.em (st j + st g ≤ gr) with q | q
  · rw [if_pos q, if_pos q]
  · rw [if_neg q, if_neg q]
theorem po_b1 : ∀ i, i < 8 → (2 ^ i - 1) ||| 2 ^ i = 2 ^ (i + 1) - 1 ∧ ∀ j, j < i + 1 → (2 ^ (i + 1) - 1) / 2 ^ j % 2 = 1 := by decide +kernel
theorem po_10 : ∀ i, i < 8 → 1 ≤ 10 ^ i ∧ 10 ^ i < 2147483648 := by decide
theorem po_run {n : Nat} (h1 : 1 ≤ n) (hn : n ≤ 6) {drain town now kept : Nat → Int32} (h2 : town 2 = nI n) (hd : ∀ h, h < n → town (19 + h) = drain h) (hD : pr_D n drain) (hk : ∀ h, h < 8 → now h = kept h) {a : Nat} (ha : a < 2147483648) (ok : po_ok n a)
    {ord : Nat → Int32} (ho : ∀ k, k < n → ord (n - 1 - k) = nI (po_f a k - 1)) (ps : Int32) (stX stM : Nat → Int32) :
    ∃ r x1 x2 x3, fX7_greatest (nI n) ps ord stX (nI n) drain kept = some (r, x1, x2) ∧ fX12_pulledBy town now stM (nI a) = some (r, x3) ∧ (po_mx kept n).toInt ≤ r.toInt ∧ ((∀ k, k < n → po_f a k = n - k) → r = po_mx kept n) := by
  have hn8 : n ≤ 8 := by omega
  obtain ⟨⟨g1, g2, g3⟩, G1, G2, G3⟩ := po_G5 hn8 kept stX
  obtain ⟨⟨q1, q2, q3⟩, Q1, Q2, Q3⟩ := po_P4 hn8 h2 hk stM
  dsimp only at G2 G3 Q2 Q3
  subst G2 Q2
  have L : ∃ o o', oz_loop (fX7_greatest_b54 (nI n) ord (nI n) drain) oz_fuel (0, po_mx kept n, 0, g3) = some o ∧ oz_loop (fX12_pulledBy_b85 town (nI a)) oz_fuel (0, nI (10 ^ (n - 1)), po_mx kept n, q3) = some o' ∧ o.2.1 = o'.2.2.1 ∧ (po_mx kept n).toInt ≤ o.2.1.toInt ∧ ((∀ k, k < n → po_f a k = n - k) → o.2.1 = po_mx kept n) := by
    refine oz_rel (fun (i : Nat) (v w : Int32 × Int32 × Int32 × (Nat → Int32)) => ∃ m, m < 256 ∧ v.1 = nI i ∧ v.2.2.1 = nI m ∧ w.1 = nI m ∧ w.2.1 = nI (if i < n then 10 ^ (n - 1 - i) else 0) ∧ v.2.1 = w.2.2.1 ∧ (∀ h, h < n → v.2.2.2 h = w.2.2.2 h) ∧ (po_mx kept n).toInt ≤ v.2.1.toInt ∧ ((∀ k, k < n → po_f a k = n - k) → v.2.1 = po_mx kept n ∧ m = 2 ^ i - 1)) (fun (o o' : Int32 × Int32 × Int32 × (Nat → Int32)) => o.2.1 = o'.2.2.1 ∧ (po_mx kept n).toInt ≤ o.2.1.toInt ∧ ((∀ k, k < n → po_f a k = n - k) → o.2.1 = po_mx kept n)) n (by omega) ?_ ?_ ⟨0, by decide, rfl, rfl, rfl, ?_, rfl, ?_, Int.le_refl _, fun _ => ⟨rfl, rfl⟩⟩
    · intro i v w hi hv
      obtain ⟨v1, v2, v3, v4⟩ := v
      obtain ⟨w1, w2, w3, w4⟩ := w
      obtain ⟨m, hm, e1, e2, e3, e4, e5, e6, e7, e8⟩ := hv
      dsimp only at e1 e2 e3 e4 e5 e6 e7 e8
      subst e1 e2 e3 e5
      rw [if_pos hi] at e4
      subst e4
      have hu := po_10 (n - 1 - i) (by omega)
      have hval := po_valid hn8 ok (show n - 1 - i < n by omega)
      have hg : po_f a (n - 1 - i) - 1 < n := by omega
      have eo : ord i = nI (po_f a (n - 1 - i) - 1) := by
        have := ho (n - 1 - i) (by omega)
        rw [show n - 1 - (n - 1 - i) = i by omega] at this
        exact this
      have hf : ((nI a / nI (10 ^ (n - 1 - i))) - (nI a / nI (10 ^ (n - 1 - i))) / 10 * 10) - 1 = nI (po_f a (n - 1 - i) - 1) := by
        rw [pk_div (by omega) (by omega) (by omega), po_fig (po_lt ha _)]
        exact po_s1 hval.1
      have hu0 : ¬ nI (10 ^ (n - 1 - i)) ≤ 0 := nI_nle (by omega) (by omega)
      have hu1 : ¬ nI (10 ^ (n - 1 - i)) = 0 := nI_ne0 (by omega) (by omega)
      have hu2 : nI (10 ^ (n - 1 - i)) / 10 = nI (if i + 1 < n then 10 ^ (n - 1 - (i + 1)) else 0) := by
        rw [po_div (by omega)]
        rcases Decidable.em (i + 1 < n) with y | y
        · rw [if_pos y, show n - 1 - i = (n - 1 - (i + 1)) + 1 by omega, Nat.pow_succ, Nat.mul_div_cancel _ (by decide)]
        · rw [if_neg y, show n - 1 - i = 0 by omega]
      have hb := po_or m hm (po_f a (n - 1 - i) - 1) (by omega)
      have hfirst : (∀ k, k < n → po_f a k = n - k) → po_f a (n - 1 - i) - 1 = i := fun H => by
        rw [H (n - 1 - i) (by omega)]; omega
      have keyX : ∀ y, fX7_pull (nI m) v4 (nI n) drain (nI (po_f a (n - 1 - i) - 1)) = some y → fX7_greatest_b54 (nI n) ord (nI n) drain (nI i, v2, nI m, v4) = some (.inl (nI i + 1, (if v2 < y.1 then y.1 else v2), y.2.1, y.2.2)) := by
        intro y hy
        unfold fX7_greatest_b54
        dsimp only
        rw [if_neg (nI_ge hi (by omega)), if_neg (pz_ix (show i < 6 by omega) (by omega)), pz_ncl (show i < 2147483648 by omega), eo, oz_b hy]
      left
      rcases po_pull hn8 hd hD hm hg v4 with ⟨p1, p2⟩ | ⟨j, hj, p0, p1, p2⟩
      · have kX := keyX _ p1
        have kM := po_mA (gr := v2) (st := w4) hu0 hu1 hf (by omega) hb.1 p2
        have hz : (if v2 < (0 : Int32) then (0 : Int32) else v2) = v2 := by
          rw [if_neg (by rw [pz_lt, pz_i0]; have := po_mx_0 kept n; omega)]
        dsimp only at kX
        rw [hz] at kX
        refine ⟨_, _, kX, kM, _, hb.2.1, nI_1 i, rfl, rfl, hu2, rfl, fun h hh => ?_, e7, fun H => ⟨(e8 H).1, ?_⟩⟩
        · dsimp only
          rcases Decidable.em (h = po_f a (n - 1 - i) - 1) with y | y
          · rw [← y, pk_us, pk_us]
          · rw [pk_un y, pk_un y]; exact e6 h hh
        · rw [hfirst H, (e8 H).2]
          exact (po_b1 i (by omega)).1
      · have kX := keyX _ p1
        have kM := po_mB (gr := v2) (st := w4) hu0 hu1 hf (by omega) (by omega) hb.1 p2
        rw [← e6 j (by omega), ← e6 _ hg] at kM
        dsimp only at kX
        refine ⟨_, _, kX, kM, _, hb.2.1, nI_1 i, rfl, rfl, hu2, rfl, fun h hh => ?_, ?_, fun H => ?_⟩
        · dsimp only
          rcases Decidable.em (h = po_f a (n - 1 - i) - 1) with y | y
          · rw [← y] at hj ⊢
            rw [pk_un (show h ≠ j by omega), pk_us, pk_us]
          · rw [pk_un y]
            rcases Decidable.em (h = j) with x | x
            · subst x; rw [pk_us, pk_us]
            · rw [pk_un x, pk_un x, pk_un y]; exact e6 h hh
        · dsimp only
          rcases Decidable.em (v2 < v4 j + v4 (po_f a (n - 1 - i) - 1)) with y | y
          · rw [if_pos y]; rw [pz_lt] at y; omega
          · rw [if_neg y]; exact e7
        · exfalso
          rw [(e8 H).2, hfirst H, (po_b1 i (by omega)).1] at p0
          rw [hfirst H] at hj
          exact p0 ((po_b1 i (by omega)).2 j (by omega))
    · intro v w hv
      obtain ⟨v1, v2, v3, v4⟩ := v
      obtain ⟨w1, w2, w3, w4⟩ := w
      obtain ⟨m, hm, e1, e2, e3, e4, e5, e6, e7, e8⟩ := hv
      dsimp only at e1 e2 e3 e4 e5 e6 e7 e8
      rw [if_neg (by omega)] at e4
      subst e1 e4 e5
      refine ⟨(nI n, v2, v3, v4), (w1, nI 0, v2, w4), ?_, ?_, rfl, e7, fun H => (e8 H).1⟩
      · unfold fX7_greatest_b54
        dsimp only
        rw [if_pos (nI_le (Nat.le_refl n) (by omega))]
      · unfold fX12_pulledBy_b85
        dsimp only
        rw [if_pos (show nI 0 ≤ 0 by decide)]
    · dsimp only
      rw [if_pos (by omega), Nat.sub_zero]
    · intro h hh
      dsimp only
      rw [G3 h hh, Q3 h hh]
  obtain ⟨o, o', l1, l2, l3, l4, l5⟩ := L
  refine ⟨o.2.1, o.2.2.1, o.2.2.2, o'.2.2.2, ?_, ?_, l4, l5⟩
  · unfold fX7_greatest
    rw [oz_b G1]
    exact oz_b l1
  · unfold fX12_pulledBy
    rw [oz_b Q1, oz_b (po_unit h1 hn8 h2), l3]
    exact oz_b l2
theorem sp_pulled (v_x_reader_length : Int32) (v_x_reader_faultAt : Int32) (v_x_reader_letters : Nat → Int32) (v_x_plan_stands : Int32) (v_x_plan_lent : Int32) (v_x_plan_pipe : Int32) (v_x_plan_houses : Int32) (v_x_plan_room : Nat → Int32) (v_x_plan_daily : Nat → Int32) (v_x_plan_drain : Nat → Int32) (v_x_plan_above : Nat → Int32) (v_x_now_days : Int32) (v_x_now_spilled : Int32) (v_x_now_river : Int32) (v_x_now_kept : Nat → Int32) (v_x_now_away : Nat → Int32) (v_x_history_end : Int32) (v_x_history_count : Int32) (v_x_history_shelf_places : Int32) (v_x_history_shelf_cells : Nat → Int32) (v_x_images_storedSet : Int32) (v_x_images_shelf_places : Int32) (v_x_images_shelf_cells : Nat → Int32) (v_x_images_seeds : Nat → Int32) (v_x_draws_value : Int32) (v_x_notes_seen : Int32) (v_x_notes_entries : Int32) (v_x_notes_seenBy : Nat → Int32) (v_x_notes_seenCame : Nat → Int32) (v_x_notes_entryHouse : Nat → Int32) (v_x_notes_entryAmount : Nat → Int32) (v_x_plugs_count : Int32) (v_x_plugs_pulledSet : Int32) (v_x_plugs_order : Nat → Int32) (v_x_plugs_standing : Nat → Int32) (v_m_undos : Int32) (v_m_seed : Int64) (v_m_size : Int32) (v_m_fault : Int32) (v_m_sightMany : Int32) (v_m_bookMany : Int32) (v_m_town : Nat → Int32) (v_m_now : Nat → Int32) (v_m_past : Nat → Int32) (v_m_images : Nat → Int32) (v_m_kept : Nat → Int32) (v_m_text : Nat → Int32) (v_m_sights : Nat → Int32) (v_m_book : Nat → Int32) (v_m_stands : Nat → Int32) (hI : IV v_x_reader_length v_x_reader_faultAt v_x_reader_letters v_x_plan_stands v_x_plan_lent v_x_plan_pipe v_x_plan_houses v_x_plan_room v_x_plan_daily v_x_plan_drain v_x_plan_above v_x_now_days v_x_now_spilled v_x_now_river v_x_now_kept v_x_now_away v_x_history_end v_x_history_count v_x_history_shelf_places v_x_history_shelf_cells v_x_images_storedSet v_x_images_shelf_places v_x_images_shelf_cells v_x_images_seeds v_x_draws_value v_x_notes_seen v_x_notes_entries v_x_notes_seenBy v_x_notes_seenCame v_x_notes_entryHouse v_x_notes_entryAmount v_m_undos v_m_seed v_m_size v_m_fault v_m_sightMany v_m_bookMany v_m_town v_m_now v_m_past v_m_images v_m_kept v_m_text v_m_sights v_m_book) (a1 : Int32) : ∃ (yx : Int32 × Int32 × Int32 × (Nat → Int32) × (Nat → Int32)) (ym : Int32 × (Nat → Int32)), (fX11_pulled v_x_plan_houses v_x_plan_drain v_x_now_kept v_x_plugs_count v_x_plugs_pulledSet v_x_plugs_order v_x_plugs_standing a1) = some yx ∧ (fX12_pulled v_m_town v_m_now v_m_stands a1) = some ym ∧ yx.1 = ym.1 ∧ IV v_x_reader_length v_x_reader_faultAt v_x_reader_letters v_x_plan_stands v_x_plan_lent v_x_plan_pipe v_x_plan_houses v_x_plan_room v_x_plan_daily v_x_plan_drain v_x_plan_above v_x_now_days v_x_now_spilled v_x_now_river v_x_now_kept v_x_now_away v_x_history_end v_x_history_count v_x_history_shelf_places v_x_history_shelf_cells v_x_images_storedSet v_x_images_shelf_places v_x_images_shelf_cells v_x_images_seeds v_x_draws_value v_x_notes_seen v_x_notes_entries v_x_notes_seenBy v_x_notes_seenCame v_x_notes_entryHouse v_x_notes_entryAmount v_m_undos v_m_seed v_m_size v_m_fault v_m_sightMany v_m_bookMany v_m_town v_m_now v_m_past v_m_images v_m_kept v_m_text v_m_sights v_m_book := by
  obtain ⟨i1, i2, i3, n, hP, hS, hB, hH, hM, hO⟩ := hI
  have hP' := hP
  obtain ⟨P1, P2, P3, P4, P5, P6, P7, P8, P9, P10, P11, P12, P13, P14⟩ := hP
  have S1 := hS.1
  subst P2
  have noX : ∀ y, fX7_readOrder v_x_plugs_count v_x_plugs_order a1 (nI n) = some y → y.1 = 0 → fX11_pulled (nI n) v_x_plan_drain v_x_now_kept v_x_plugs_count v_x_plugs_pulledSet v_x_plugs_order v_x_plugs_standing a1 = some ((-1000000002), y.2.1, v_x_plugs_pulledSet, y.2.2, v_x_plugs_standing) := by
    intro y hy h0
    unfold fX11_pulled
    rw [oz_b hy, if_pos h0]
  have noM : fX12_isOrder v_m_town a1 = some 0 → fX12_pulled v_m_town v_m_now v_m_stands a1 = some ((-1000000002), v_m_stands) := by
    intro hy
    unfold fX12_pulled
    rw [oz_b hy, if_pos rfl]
  rcases Decidable.em (a1 ≤ 0) with q | q
  · have hr : fX7_readOrder v_x_plugs_count v_x_plugs_order a1 (nI n) = some (0, v_x_plugs_count, v_x_plugs_order) := by
      unfold fX7_readOrder
      rw [if_neg (show ¬ (1 : Int32) ≤ a1 by rw [pz_le] at q ⊢; rw [pz_i0] at q; rw [pz_i1]; omega)]
      rcases Decidable.em (nI n < 1) with z | z
      · rw [if_pos z]
      · rw [if_neg z]
        rcases Decidable.em ((6 : Int32) < nI n) with y | y
        · rw [if_pos y]
        · rw [if_neg y]
    exact ⟨_, _, noX _ hr rfl, noM (po_isN P1 P3 q), rfl, i1, i2, i3, n, hP', hS, hB, hH, hM, hO⟩
  · obtain ⟨a, ha, rfl⟩ := nI_of (x := a1) (by rw [pz_lt]; rw [pz_le] at q; omega)
    have ha2 : a < 2147483648 := ha
    have ha1 : 1 ≤ a := by
      rcases Nat.eq_zero_or_pos a with w | w
      · subst w; exact absurd (by decide) q
      · exact w
    rcases Decidable.em (1 ≤ n ∧ n ≤ 6) with z | z
    · obtain ⟨y, hy, hy2⟩ := po_read z.1 z.2 ha1 ha2 v_x_plugs_count v_x_plugs_order
      rcases hy2 with ⟨y1, y2, y3, y4⟩ | ⟨y1, y2⟩
      · obtain ⟨r, x1, x2, x3, r1, r2, _⟩ := po_run z.1 z.2 P3 P8 P10 S1 ha2 y2 y4 v_x_plugs_pulledSet v_x_plugs_standing v_m_stands
        refine ⟨(r, y.2.1, x1, y.2.2, x2), (r, x3), ?_, ?_, rfl, i1, i2, i3, n, hP', hS, hB, hH, hM, hO⟩
        · unfold fX11_pulled
          rw [oz_b hy, if_neg (by rw [y1]; exact fw_n10), y3, oz_b r1]
        · unfold fX12_pulled
          rw [oz_b (po_is1 z.2 P3 ha1 ha2 y2), if_neg fw_n10, oz_b r2]
      · exact ⟨_, _, noX _ hy y1, noM (po_is0 P1 P3 ha2 (fun h => y2 h.2.2)), rfl, i1, i2, i3, n, hP', hS, hB, hH, hM, hO⟩
    · have hr : fX7_readOrder v_x_plugs_count v_x_plugs_order (nI a) (nI n) = some (0, v_x_plugs_count, v_x_plugs_order) := by
        unfold fX7_readOrder
        rcases Nat.lt_or_ge n 1 with w | w
        · rw [if_pos (show nI n < 1 from (nI_lt (b := 1) w (by omega) : nI n < nI 1))]
        · rw [if_neg (show ¬ nI n < 1 from (nI_nlt (b := 1) w (by omega) : ¬ nI n < nI 1)), if_pos (show (6 : Int32) < nI n from (nI_lt (a := 6) (by omega) (by omega) : nI 6 < nI n))]
      have hno : ¬ (1 ≤ a ∧ n ≤ 6 ∧ po_ok n a) := by
        intro h
        have h0 : n = 0 := by omega
        subst h0
        have := h.2.2.1
        rw [Nat.pow_zero, Nat.div_one] at this
        omega
      exact ⟨_, _, noX _ hr rfl, noM (po_is0 P1 P3 ha2 hno), rfl, i1, i2, i3, n, hP', hS, hB, hH, hM, hO⟩
