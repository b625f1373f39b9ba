/-! SUMS AND SETS OVER THE HOUSES -/
theorem pz_e0 : (0 : Int32) = nI 0 := rfl
theorem pz_e8 : (8 : Int32) = nI 8 := rfl
theorem pz_0a (x : Int32) : 0 + x = x := Int32.zero_add x
theorem pz_a0 (x : Int32) : x + 0 = x := Int32.add_zero x
def ps_sum (f : Nat → Int32) : Nat → Int32
  | 0 => 0
  | n + 1 => ps_sum f n + f n
theorem ps_inAll (kept : Nat → Int32) {n : Nat} (hn : n ≤ 8) : fX10_inAll kept (nI n) = some (ps_sum kept n) := by
  have h : oz_loop (fX10_inAll_b4 kept (nI n)) oz_fuel (nI 0, ps_sum kept 0) = some (nI n, ps_sum kept n) := by
    refine oz_det (fun i => (nI i, ps_sum kept i)) n (by omega) (fun i hi => ?_) ?_
    · unfold fX10_inAll_b4
      dsimp only
      rw [if_neg (nI_ge hi (by omega)), if_neg (pz_ix (by omega) (by omega)), pz_ncl (by omega), nI_1]
      rfl
    · unfold fX10_inAll_b4
      dsimp only
      rw [if_pos (nI_le (Nat.le_refl n) (by omega))]
  unfold fX10_inAll
  exact oz_b h
theorem ps_keptOf (t : Nat → Int32) : fX12_keptOf t = some (ps_sum t 8) := by
  have h : oz_loop (fX12_keptOf_b4 t) oz_fuel (nI 0, ps_sum t 0) = some (nI 8, ps_sum t 8) := by
    refine oz_det (fun i => (nI i, ps_sum t i)) 8 (by omega) (fun i hi => ?_) ?_
    · unfold fX12_keptOf_b4
      dsimp only
      rw [pz_e8, if_neg (nI_ge hi (by omega)), pz_0a, if_neg (pz_ix (by omega) (by omega)), pz_ncl (by omega), nI_1]
      rfl
    · unfold fX12_keptOf_b4
      dsimp only
      rw [if_pos (show (8 : Int32) ≤ nI 8 by decide)]
  unfold fX12_keptOf
  exact oz_b h
theorem ps_sum_eq {t kept : Nat → Int32} {n : Nat} (h1 : ∀ h, h < 8 → t h = kept h) (h2 : ∀ h, n ≤ h → h < 8 → kept h = 0) :
    ∀ m, m ≤ 8 → ps_sum t m = ps_sum kept (if m ≤ n then m else n) := by
  intro m
  induction m with
  | zero => intro _; rw [if_pos (Nat.zero_le n)]; rfl
  | succ m ih =>
    intro hm
    have := ih (by omega)
    show ps_sum t m + t m = _
    rw [this, h1 m (by omega)]
    rcases Nat.lt_or_ge m n with q | q
    · rw [if_pos (by omega), if_pos (by omega)]; rfl
    · rw [h2 m q (by omega), pz_a0]
      rcases Nat.lt_or_ge n m with z | z
      · rw [if_neg (by omega), if_neg (by omega)]
      · have : m = n := by omega
        subst this
        rw [if_pos (by omega), if_neg (by omega)]
theorem ps_sum_8 {t kept : Nat → Int32} {n : Nat} (hn : n ≤ 8) (h1 : ∀ h, h < 8 → t h = kept h) (h2 : ∀ h, n ≤ h → h < 8 → kept h = 0) : ps_sum t 8 = ps_sum kept n := by
  rw [ps_sum_eq h1 h2 8 (by omega)]
  rcases Nat.lt_or_ge n 8 with q | q
  · rw [if_neg (by omega)]
  · rw [if_pos q]; congr 1; omega
def ps_set (f : Nat → Int32) : Nat → Int32
  | 0 => 0
  | n + 1 => if f n ≤ 0 then ps_set f n else ps_set f n ||| (1 <<< (nI n &&& 31))
theorem ps_awaySet (away : Nat → Int32) {n : Nat} (hn : n ≤ 8) : fX10_awaySet away (nI n) = some (ps_set away n) := by
  have h : oz_loop (fX10_awaySet_b4 away (nI n)) oz_fuel (nI 0, ps_set away 0) = some (nI n, ps_set away n) := by
    refine oz_det (fun i => (nI i, ps_set away i)) n (by omega) (fun i hi => ?_) ?_
    · unfold fX10_awaySet_b4
      dsimp only
      rw [if_neg (nI_ge hi (by omega)), if_neg (pz_ix (by omega) (by omega)), pz_ncl (by omega), nI_1]
      rw [show ps_set away (i + 1) = if away i ≤ 0 then ps_set away i else ps_set away i ||| (1 <<< (nI i &&& 31)) from rfl]
      rcases Decidable.em (away i ≤ 0) with q | q
      · rw [if_pos q, if_pos q]
      · rw [if_neg q, if_neg q]
    · unfold fX10_awaySet_b4
      dsimp only
      rw [if_pos (nI_le (Nat.le_refl n) (by omega))]
  unfold fX10_awaySet
  exact oz_b h
theorem pz_or0 (x : Int32) : x ||| 0 = x := Int32.or_zero
theorem ps_awayOnes (t : Nat → Int32) : fX12_awayOnes t = some (ps_set (fun h => t (8 + h)) 8) := by
  have h : oz_loop (fX12_awayOnes_b4 t) oz_fuel (nI 0, ps_set (fun h => t (8 + h)) 0) = some (nI 8, ps_set (fun h => t (8 + h)) 8) := by
    refine oz_det (fun i => (nI i, ps_set (fun h => t (8 + h)) i)) 8 (by omega) (fun i hi => ?_) ?_
    · unfold fX12_awayOnes_b4
      dsimp only
      rw [if_neg (show ¬ (8 : Int32) ≤ nI i from (nI_ge (b := 8) hi (by omega) : ¬ nI 8 ≤ nI i)), show (8 : Int32) + nI i = nI (8 + i) from nI_add 8 i, if_neg (pz_ix (by omega) (by omega)), pz_ncl (by omega), nI_1, pz_or0]
      rw [show ps_set (fun h => t (8 + h)) (i + 1) = if t (8 + i) ≤ 0 then ps_set (fun h => t (8 + h)) i else ps_set (fun h => t (8 + h)) i ||| (1 <<< (nI i &&& 31)) from rfl]
      rcases Decidable.em (t (8 + i) ≤ 0) with q | q
      · rw [if_pos q, if_pos q]
      · rw [if_neg q, if_neg q]
    · unfold fX12_awayOnes_b4
      dsimp only
      rw [if_pos (show (8 : Int32) ≤ nI 8 by decide)]
  unfold fX12_awayOnes
  exact oz_b h
theorem ps_set_eq {f g : Nat → Int32} {n : Nat} (h1 : ∀ h, h < 8 → f h = g h) (h2 : ∀ h, n ≤ h → h < 8 → g h = 0) :
    ∀ m, m ≤ 8 → ps_set f m = ps_set g (if m ≤ n then m else n) := by
  intro m
  induction m with
  | zero => intro _; rw [if_pos (Nat.zero_le n)]; rfl
  | succ m ih =>
    intro hm
    have e := ih (by omega)
    show (if f m ≤ 0 then ps_set f m else ps_set f m ||| (1 <<< (nI m &&& 31))) = _
    rw [e, h1 m (by omega)]
    rcases Nat.lt_or_ge m n with q | q
    · rw [if_pos (show m ≤ n by omega), if_pos (show m + 1 ≤ n by omega)]; rfl
    · rw [h2 m q (by omega), if_pos (show (0 : Int32) ≤ 0 by decide), if_neg (show ¬ m + 1 ≤ n by omega)]
      rcases Nat.lt_or_ge n m with z | z
      · rw [if_neg (by omega)]
      · have : m = n := by omega
        subst this
        rw [if_pos (by omega)]
theorem ps_set_8 {f g : Nat → Int32} {n : Nat} (hn : n ≤ 8) (h1 : ∀ h, h < 8 → f h = g h) (h2 : ∀ h, n ≤ h → h < 8 → g h = 0) : ps_set f 8 = ps_set g n := by
  rw [ps_set_eq h1 h2 8 (by omega)]
  rcases Nat.lt_or_ge n 8 with q | q
  · rw [if_neg (by omega)]
  · rw [if_pos q]; congr 1; omega
