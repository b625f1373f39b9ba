/-! ORDERS: figures from the last on, and the set of those met -/
def po_f (a k : Nat) : Nat := a / 10 ^ k % 10
theorem po_f_lt (a k : Nat) : po_f a k < 10 := Nat.mod_lt _ (by decide)
theorem po_fig {x : Nat} (h : x < 2147483648) : nI x - nI x / 10 * 10 = nI (x % 10) := pk_rem (d := 10) (by omega) (by decide) (by decide)
theorem po_div {x : Nat} (h : x < 2147483648) : nI x / 10 = nI (x / 10) := pk_div (d := 10) (by omega) (by decide) (by decide)
theorem po_nx (a k : Nat) : a / 10 ^ k / 10 = a / 10 ^ (k + 1) := by rw [Nat.div_div_eq_div_mul, Nat.pow_succ]
theorem po_lt {a : Nat} (h : a < 2147483648) (k : Nat) : a / 10 ^ k < 2147483648 := Nat.lt_of_le_of_lt (Nat.div_le_self _ _) h
theorem po_s1 {d : Nat} (h : 1 ≤ d) : nI d - 1 = nI (d - 1) := pk_sub (b := 1) h
theorem po_or : ∀ m, m < 256 → ∀ j, j < 8 → nI m ||| ((1 : Int32) <<< (nI j &&& 31)) = nI (m ||| 2 ^ j) ∧ m ||| 2 ^ j < 256 ∧ (((nI m >>> (nI j &&& 31)) &&& 1) = 1 ↔ m / 2 ^ j % 2 = 1) ∧ (m / 2 ^ j % 2 = 1 → m ||| 2 ^ j = m) ∧ (¬ m / 2 ^ j % 2 = 1 → bt_pc (m ||| 2 ^ j) = bt_pc m + 1) ∧ (m ||| 2 ^ j) / 2 ^ j % 2 = 1 := by decide +kernel
def po_m (n a : Nat) : Nat → Nat
  | 0 => 0
  | k + 1 => if 1 ≤ po_f a k ∧ po_f a k ≤ n then po_m n a k ||| 2 ^ (po_f a k - 1) else po_m n a k
theorem po_m_s (n a k : Nat) : po_m n a (k + 1) = if 1 ≤ po_f a k ∧ po_f a k ≤ n then po_m n a k ||| 2 ^ (po_f a k - 1) else po_m n a k := rfl
theorem po_m_lt {n : Nat} (hn : n ≤ 8) (a : Nat) : ∀ k, po_m n a k < 256 := by
  intro k
  induction k with
  | zero => exact (by decide : 0 < 256)
  | succ k ih =>
    rw [po_m_s]
    rcases Decidable.em (1 ≤ po_f a k ∧ po_f a k ≤ n) with q | q
    · rw [if_pos q]; exact (po_or _ ih _ (by omega)).2.1
    · rw [if_neg q]; exact ih
theorem po_m_1 {n : Nat} (hn : n ≤ 8) (a k : Nat) : bt_pc (po_m n a (k + 1)) ≤ bt_pc (po_m n a k) + 1 := by
  rw [po_m_s]
  rcases Decidable.em (1 ≤ po_f a k ∧ po_f a k ≤ n) with q | q
  · rw [if_pos q]
    have h := po_or _ (po_m_lt hn a k) (po_f a k - 1) (by omega)
    rcases Decidable.em (po_m n a k / 2 ^ (po_f a k - 1) % 2 = 1) with z | z
    · rw [h.2.2.2.1 z]; omega
    · rw [h.2.2.2.2.1 z]; exact Nat.le_refl _
  · rw [if_neg q]; omega
theorem po_m_up {n : Nat} (hn : n ≤ 8) (a k : Nat) : ∀ i, bt_pc (po_m n a (k + i)) ≤ bt_pc (po_m n a k) + i := by
  intro i
  induction i with
  | zero => exact Nat.le_refl _
  | succ i ih =>
    have := po_m_1 hn a (k + i)
    rw [show k + (i + 1) = k + i + 1 by omega]
    omega
def po_ok (n a : Nat) : Prop := a / 10 ^ n = 0 ∧ bt_pc (po_m n a n) = n
theorem po_bad {n : Nat} (hn : n ≤ 8) {a k : Nat} (hk : k < n) (h : po_m n a (k + 1) = po_m n a k) : ¬ po_ok n a := by
  intro h2
  have h3 := po_m_up hn a (k + 1) (n - (k + 1))
  rw [show k + 1 + (n - (k + 1)) = n by omega, h2.2, h] at h3
  have h4 := po_m_up hn a 0 k
  rw [Nat.zero_add] at h4
  have h5 : bt_pc (po_m n a 0) = 0 := (by decide : bt_pc 0 = 0)
  omega
theorem po_valid {n : Nat} (hn : n ≤ 8) {a : Nat} (h : po_ok n a) {k : Nat} (hk : k < n) : 1 ≤ po_f a k ∧ po_f a k ≤ n := by
  rcases Decidable.em (1 ≤ po_f a k ∧ po_f a k ≤ n) with q | q
  · exact q
  · exact absurd h (po_bad hn hk (by rw [po_m_s, if_neg q]))
/-- the reference's reading of an order -/
theorem po_isL {n : Nat} (hn : n ≤ 8) {town : Nat → Int32} (h2 : town 2 = nI n) {a : Nat} (ha : a < 2147483648) :
    oz_loop (fX12_isOrder_b7 town) oz_fuel (0, nI a, 0) = some (nI n, nI (a / 10 ^ n), nI (po_m n a n)) := by
  have e0 : nI a = nI (a / 10 ^ 0) := by rw [Nat.pow_zero, Nat.div_one]
  rw [show ((0, nI a, 0) : Int32 × Int32 × Int32) = (nI 0, nI (a / 10 ^ 0), nI (po_m n a 0)) by rw [← e0]; rfl]
  refine oz_det (fun k => (nI k, nI (a / 10 ^ k), nI (po_m n a k))) n (by omega) (fun k hk => ?_) ?_
  · unfold fX12_isOrder_b7
    dsimp only
    have hf := po_f_lt a k
    rw [pz_c2, h2, if_neg (nI_ge hk (by omega)), nI_1, po_fig (po_lt ha k), po_div (po_lt ha k), po_nx, show a / 10 ^ k % 10 = po_f a k from rfl, po_m_s]
    rcases Decidable.em (1 ≤ po_f a k ∧ po_f a k ≤ n) with q | q
    · rw [if_pos q, po_s1 q.1, oz_b (mz_isHouse1 hn h2 (by rw [pz_nI (by omega)]; omega)), if_neg fw_n10, (po_or _ (po_m_lt hn a k) (po_f a k - 1) (by omega)).1]
    · have e : (nI (po_f a k) - 1).toInt = (po_f a k : Int) - 1 := by
        rw [pz_sub (by rw [pz_nI (by omega), pz_i1]; omega) (by rw [pz_nI (by omega), pz_i1]; omega), pz_nI (by omega), pz_i1]
      rw [if_neg q, oz_b (mz_isHouse0 hn h2 (by rw [e]; omega)), if_pos rfl, pz_or0]
  · unfold fX12_isOrder_b7
    dsimp only
    rw [pz_c2, h2, if_pos (nI_le (Nat.le_refl n) (by omega))]
theorem po_is1 {n : Nat} (hn : n ≤ 6) {town : Nat → Int32} (h2 : town 2 = nI n) {a : Nat} (ha : 1 ≤ a) (ha2 : a < 2147483648) (h : po_ok n a) : fX12_isOrder town (nI a) = some 1 := by
  unfold fX12_isOrder
  rw [oz_b (po_isL (by omega) h2 ha2)]
  dsimp only
  rw [if_neg (nI_nle (by omega) (by omega)), pz_c2, h2, if_neg (show ¬ (7 : Int32) ≤ nI n from (nI_ge (b := 7) (by omega) (by omega) : ¬ nI 7 ≤ nI n)), h.1, if_pos (show nI 0 = 0 from rfl), oz_b (bt_M _ (po_m_lt (by omega) a n)), h.2, if_pos rfl]
theorem po_is0 {n : Nat} (hn : n ≤ 8) {town : Nat → Int32} (h2 : town 2 = nI n) {a : Nat} (ha2 : a < 2147483648) (h : ¬ (1 ≤ a ∧ n ≤ 6 ∧ po_ok n a)) : fX12_isOrder town (nI a) = some 0 := by
  unfold fX12_isOrder
  rw [oz_b (po_isL hn h2 ha2)]
  dsimp only
  rcases Decidable.em (nI a ≤ 0) with q | q
  · rw [if_pos q]
  · rw [if_neg q, pz_c2, h2]
    rcases Decidable.em ((7 : Int32) ≤ nI n) with z | z
    · rw [if_pos z]
    · rw [if_neg z]
      rcases Decidable.em (nI (a / 10 ^ n) = 0) with y | y
      · rw [if_pos y, oz_b (bt_M _ (po_m_lt hn a n))]
        have hb := bt_le (po_m n a n)
        rcases Decidable.em (nI (bt_pc (po_m n a n)) = nI n) with x | x
        · refine absurd ⟨?_, ?_, ?_, ?_⟩ h
          · rcases Nat.eq_zero_or_pos a with w | w
            · subst w; exact absurd (by decide) q
            · exact w
          · rcases Nat.lt_or_ge n 7 with w | w
            · omega
            · exact absurd (nI_le (a := 7) w (by omega)) z
          · exact (nI_eq (b := 0) (by have := po_lt ha2 n; omega) (by decide)).1 y
          · exact (nI_eq (by omega) (by omega)).1 x
        · rw [if_neg x]
      · rw [if_neg y]
/-- one that isn't above 0: the reference reads it all the same -/
theorem po_isN {n : Nat} (hn : n ≤ 8) {town : Nat → Int32} (h2 : town 2 = nI n) {a : Int32} (ha : a ≤ 0) : fX12_isOrder town a = some 0 := by
  have L : ∃ o, oz_loop (fX12_isOrder_b7 town) oz_fuel (0, a, 0) = some o ∧ True := by
    refine oz_inv (fun (k : Nat) (v : Int32 × Int32 × Int32) => v.1 = nI k) (fun _ => True) n (by omega) ?_ ?_ rfl
    · intro k v hk hv
      obtain ⟨v1, v2, v3⟩ := v
      dsimp only at hv
      subst hv
      left
      rcases Decidable.em (0 ≤ ((v2 - v2 / 10 * 10) - 1).toInt ∧ ((v2 - v2 / 10 * 10) - 1).toInt < n) with q | q
      · refine ⟨(nI k + 1, v2 / 10, v3 ||| (1 <<< (((v2 - v2 / 10 * 10) - 1) &&& 31))), ?_, nI_1 k⟩
        unfold fX12_isOrder_b7
        dsimp only
        rw [pz_c2, h2, if_neg (nI_ge hk (by omega)), oz_b (mz_isHouse1 hn h2 q), if_neg fw_n10]
      · refine ⟨(nI k + 1, v2 / 10, v3 ||| 0), ?_, nI_1 k⟩
        unfold fX12_isOrder_b7
        dsimp only
        rw [pz_c2, h2, if_neg (nI_ge hk (by omega)), oz_b (mz_isHouse0 hn h2 q), if_pos rfl]
    · intro v hv
      obtain ⟨v1, v2, v3⟩ := v
      dsimp only at hv
      subst hv
      refine ⟨(nI n, v2, v3), ?_, trivial⟩
      unfold fX12_isOrder_b7
      dsimp only
      rw [pz_c2, h2, if_pos (nI_le (Nat.le_refl n) (by omega))]
  obtain ⟨o, h1, _⟩ := L
  unfold fX12_isOrder
  rw [oz_b h1, if_pos ha]
/-- the class's reading of an order -/
theorem po_read {n a : Nat} (h1 : 1 ≤ n) (hn : n ≤ 6) (ha : 1 ≤ a) (ha2 : a < 2147483648) (cnt : Int32) (ord : Nat → Int32) :
    ∃ y, fX7_readOrder cnt ord (nI a) (nI n) = some y ∧ ((y.1 = 1 ∧ po_ok n a ∧ y.2.1 = nI n ∧ ∀ k, k < n → y.2.2 (n - 1 - k) = nI (po_f a k - 1)) ∨ (y.1 = 0 ∧ ¬ po_ok n a)) := by
  unfold fX7_readOrder
  rw [if_neg (show ¬ nI n < 1 from (nI_nlt (b := 1) h1 (by omega) : ¬ nI n < nI 1)), if_neg (show ¬ (6 : Int32) < nI n from (nI_nlt (a := 6) hn (by omega) : ¬ nI 6 < nI n)), if_pos (show (1 : Int32) ≤ nI a from (nI_le (a := 1) ha (by omega) : nI 1 ≤ nI a))]
  refine oz_inv (fun (k : Nat) (v : Int32 × Int32 × Int32 × (Nat → Int32)) => v.1 = nI (n - k) - 1 ∧ v.2.1 = nI (po_m n a k) ∧ v.2.2.1 = nI (a / 10 ^ k) ∧ bt_pc (po_m n a k) = k ∧ ∀ j, j < k → v.2.2.2 (n - 1 - j) = nI (po_f a j - 1)) _ n (by omega) ?_ ?_ ⟨rfl, rfl, ?_, (by decide : bt_pc 0 = 0), fun j hj => absurd hj (by omega)⟩
  · intro k v hk hv
    obtain ⟨v1, v2, v3, v4⟩ := v
    obtain ⟨e1, e2, e3, e4, e5⟩ := hv
    dsimp only at e1 e2 e3 e5
    have e1' : v1 = nI (n - 1 - k) := by rw [e1, show n - k = (n - 1 - k) + 1 by omega, nI_pred]
    subst e1' e2 e3
    clear e1
    have hf := po_f_lt a k
    have hm := po_m_lt (show n ≤ 8 by omega) a k
    have key : fX7_readOrder_b33 (nI n) (nI (n - 1 - k), nI (po_m n a k), nI (a / 10 ^ k), v4) = (if (nI (po_f a k) - 1) < 0 then (some (.inr (0, nI n, v4))) else (if nI n ≤ (nI (po_f a k) - 1) then (some (.inr (0, nI n, v4))) else (if ((nI (po_m n a k) >>> ((nI (po_f a k) - 1) &&& 31)) &&& 1) = 1 then (some (.inr (0, nI n, v4))) else some (.inl (nI (n - 1 - k) + (-1), nI (po_m n a k) ||| (1 <<< ((nI (po_f a k) - 1) &&& 31)), nI (a / 10 ^ (k + 1)), upd v4 (n - 1 - k) (nI (po_f a k) - 1)))))) := by
      unfold fX7_readOrder_b33
      dsimp only
      rw [if_neg (nI_pos (by omega)), po_fig (po_lt ha2 k), po_div (po_lt ha2 k), po_nx, show a / 10 ^ k % 10 = po_f a k from rfl, if_neg (pz_ix (show n - 1 - k < 6 by omega) (by omega)), pz_ncl (show n - 1 - k < 2147483648 by omega)]
    rcases Decidable.em (1 ≤ po_f a k ∧ po_f a k ≤ n) with q | q
    · rw [po_s1 q.1, if_neg (nI_pos (by omega)), if_neg (nI_ge (show po_f a k - 1 < n by omega) (by omega))] at key
      have hb := po_or _ hm (po_f a k - 1) (by omega)
      rcases Decidable.em (po_m n a k / 2 ^ (po_f a k - 1) % 2 = 1) with z | z
      · rw [if_pos (hb.2.2.1.2 z)] at key
        exact Or.inr ⟨_, key, Or.inr ⟨rfl, po_bad (by omega) hk (by rw [po_m_s, if_pos q, hb.2.2.2.1 z])⟩⟩
      · rw [if_neg (fun h => z (hb.2.2.1.1 h)), hb.1] at key
        have e6 : po_m n a (k + 1) = po_m n a k ||| 2 ^ (po_f a k - 1) := by rw [po_m_s, if_pos q]
        refine Or.inl ⟨_, key, ?_, ?_, rfl, ?_, ?_⟩
        · dsimp only
          rw [show n - (k + 1) = n - 1 - k by omega, Int32.sub_eq_add_neg]
        · dsimp only
          rw [e6]
        · rw [e6, hb.2.2.2.2.1 z, e4]
        · intro j hj
          dsimp only
          rcases (show j < k ∨ j = k by omega) with y | y
          · rw [pk_un (by omega)]; exact e5 j y
          · subst y; exact pk_us
    · have bad := po_bad (n := n) (a := a) (by omega) hk (by rw [po_m_s, if_neg q])
      have e : (nI (po_f a k) - 1).toInt = (po_f a k : Int) - 1 := by
        rw [pz_sub (by rw [pz_nI (by omega), pz_i1]; omega) (by rw [pz_nI (by omega), pz_i1]; omega), pz_nI (by omega), pz_i1]
      rcases Nat.eq_zero_or_pos (po_f a k) with w | w
      · rw [if_pos (by rw [pz_lt, e, pz_i0]; omega)] at key
        exact Or.inr ⟨_, key, Or.inr ⟨rfl, bad⟩⟩
      · rw [if_neg (by rw [pz_lt, e, pz_i0]; omega), if_pos (by rw [pz_le, e, pz_nI (by omega)]; omega)] at key
        exact Or.inr ⟨_, key, Or.inr ⟨rfl, bad⟩⟩
  · intro v hv
    obtain ⟨v1, v2, v3, v4⟩ := v
    obtain ⟨e1, e2, e3, e4, e5⟩ := hv
    dsimp only at e1 e2 e3 e5
    have key : fX7_readOrder_b33 (nI n) (v1, v2, v3, v4) = if v3 = 0 then some (.inr (1, nI n, v4)) else some (.inr (0, nI n, v4)) := by
      unfold fX7_readOrder_b33
      dsimp only
      rw [if_pos (by rw [e1, Nat.sub_self]; decide)]
    rcases Decidable.em (v3 = 0) with z | z
    · rw [if_pos z] at key
      refine ⟨_, key, Or.inl ⟨rfl, ⟨?_, e4⟩, rfl, e5⟩⟩
      rw [e3] at z
      exact (nI_eq (b := 0) (by have := po_lt ha2 n; omega) (by decide)).1 z
    · rw [if_neg z] at key
      refine ⟨_, key, Or.inr ⟨rfl, fun h => z ?_⟩⟩
      rw [e3, h.1]; rfl
  · dsimp only
    rw [Nat.pow_zero, Nat.div_one]
