/-! FEWEST: does a set of those away bear all streams -/
theorem fw_b1 (x : Int32) : x &&& 1 = 0 ∨ x &&& 1 = 1 := by
  have h : (x &&& 1).toBitVec.toNat = x.toBitVec.toNat % 2 := by
    rw [Int32.toBitVec_and, BitVec.toNat_and]
    exact Nat.and_one_is_mod _
  rcases Nat.mod_two_eq_zero_or_one x.toBitVec.toNat with q | q
  · left
    apply Int32.toBitVec_inj.1
    apply BitVec.eq_of_toNat_eq
    rw [h, q]; rfl
  · right
    apply Int32.toBitVec_inj.1
    apply BitVec.eq_of_toNat_eq
    rw [h, q]; rfl
theorem fw_n10 : ¬ (1 : Int32) = 0 := by decide
theorem fw_n01 : ¬ (0 : Int32) = 1 := by decide
/-- the sum over a stream, house by house: the class's terms -/
def fw_sum (room daily kept : Nat → Int32) (str away Lf : Int32) : Nat → Int32
  | 0 => 0
  | i + 1 => if ((str >>> (nI i &&& 31)) &&& 1) = 1 then (if ((away >>> (nI i &&& 31)) &&& 1) = 0 then (fw_sum room daily kept str away Lf i + (room i - kept i)) - daily i * Lf else fw_sum room daily kept str away Lf i + (room i - kept i)) else fw_sum room daily kept str away Lf i
theorem fw_s (room daily kept : Nat → Int32) (str away Lf : Int32) (i : Nat) : fw_sum room daily kept str away Lf (i + 1) = if ((str >>> (nI i &&& 31)) &&& 1) = 1 then (if ((away >>> (nI i &&& 31)) &&& 1) = 0 then (fw_sum room daily kept str away Lf i + (room i - kept i)) - daily i * Lf else fw_sum room daily kept str away Lf i + (room i - kept i)) else fw_sum room daily kept str away Lf i := rfl
theorem fw_X {n : Nat} (hn : n ≤ 8) (room daily kept : Nat → Int32) (str away Lf : Int32) : fX11_streamBears (nI n) room daily kept str away Lf = some (if fw_sum room daily kept str away Lf n < 0 then 0 else 1) := by
  have h : oz_loop (fX11_streamBears_b6 (nI n) room daily kept str away Lf) oz_fuel (nI 0, fw_sum room daily kept str away Lf 0) = some (nI n, fw_sum room daily kept str away Lf n) := by
    refine oz_det (fun i => (nI i, fw_sum room daily kept str away Lf i)) n (by omega) (fun i hi => ?_) ?_
    · unfold fX11_streamBears_b6
      dsimp only
      rw [if_neg (nI_ge hi (by omega)), nI_1, fw_s]
      rcases Decidable.em (((str >>> (nI i &&& 31)) &&& 1) = 1) with q | q
      · rw [if_pos q, if_pos q, if_neg (pz_ix (show i < 8 by omega) (by omega)), pz_ncl (by omega)]
        rcases Decidable.em (((away >>> (nI i &&& 31)) &&& 1) = 0) with z | z
        · rw [if_pos z, if_pos z]
        · rw [if_neg z, if_neg z]
      · rw [if_neg q, if_neg q]
    · unfold fX11_streamBears_b6
      dsimp only
      rw [if_pos (nI_le (Nat.le_refl n) (by omega))]
  unfold fX11_streamBears
  rw [oz_b (show oz_loop (fX11_streamBears_b6 (nI n) room daily kept str away Lf) oz_fuel (0, 0) = some (nI n, fw_sum room daily kept str away Lf n) from h)]
  dsimp only
  rcases Decidable.em (fw_sum room daily kept str away Lf n < 0) with q | q
  · rw [if_pos q, if_pos q]
  · rw [if_neg q, if_neg q]
theorem fw_h1 {x y : Int32} (h : ((x >>> (y &&& 31)) &&& 1) = 1) : fX12_has x y = some 1 := by unfold fX12_has; rw [if_pos h]
theorem fw_h0 {x y : Int32} (h : ¬ ((x >>> (y &&& 31)) &&& 1) = 1) : fX12_has x y = some 0 := by unfold fX12_has; rw [if_neg h]
theorem fw_M {n : Nat} (hn : n ≤ 8) {town now room daily kept : Nat → Int32} (h2 : town 2 = nI n) (hr : ∀ h, h < n → town (3 + h) = room h) (hd : ∀ h, h < n → town (11 + h) = daily h) (hk : ∀ h, h < 8 → now h = kept h) (str away Lf : Int32) :
    oz_loop (fX12_bears_b53_1 town now away Lf str) oz_fuel (0, 0) = some (nI n, fw_sum room daily kept str away Lf n) := by
  refine (oz_det (fun i => (nI i, fw_sum room daily kept str away Lf i)) n (by omega) (fun i hi => ?_) ?_ : oz_loop (fX12_bears_b53_1 town now away Lf str) oz_fuel (nI 0, fw_sum room daily kept str away Lf 0) = _)
  · unfold fX12_bears_b53_1
    dsimp only
    rw [pz_c2, h2, if_neg (nI_ge hi (by omega)), nI_1, fw_s]
    rcases Decidable.em (((str >>> (nI i &&& 31)) &&& 1) = 1) with q | q
    · rw [if_pos q, oz_b (fw_h1 q), if_neg fw_n10, pz_a3, if_neg (pz_ix (show 3 + i < 27 by omega) (by omega)), pz_0a, if_neg (pz_ix (show i < 19 by omega) (by omega)), pz_ncl (show 3 + i < 2147483648 by omega), pz_ncl (show i < 2147483648 by omega), hr i hi, hk i (by omega)]
      rcases fw_b1 (away >>> (nI i &&& 31)) with z | z
      · rw [if_pos z, oz_b (fw_h0 (by rw [z]; exact fw_n01)), if_pos rfl, pz_a11, if_neg (pz_ix (show 11 + i < 27 by omega) (by omega)), pz_ncl (show 11 + i < 2147483648 by omega), hd i hi, pz_as, Int32.mul_comm]
      · rw [oz_b (fw_h1 z), if_neg fw_n10, Int32.sub_zero, if_neg (show ¬ ((away >>> (nI i &&& 31)) &&& 1) = 0 by rw [z]; exact fw_n10)]
    · rw [if_neg q, oz_b (fw_h0 q), if_pos rfl]
  · unfold fX12_bears_b53_1
    dsimp only
    rw [pz_c2, h2, if_pos (nI_le (Nat.le_refl n) (by omega))]
theorem fw_z8 : ∀ i, i < 8 → ¬ (((0 : Int32) >>> (nI i &&& 31)) &&& 1) = 1 := by decide +kernel
theorem fw_0 (room daily kept : Nat → Int32) (away Lf : Int32) : ∀ n, n ≤ 8 → fw_sum room daily kept 0 away Lf n = 0 := by
  intro n
  induction n with
  | zero => intro _; rfl
  | succ n ih => intro hn; rw [fw_s, if_neg (fw_z8 n (by omega))]; exact ih (by omega)
def fw_B (n : Nat) (room daily kept drain above : Nat → Int32) (away Lf : Int32) : Prop := ∀ j, j < n → drain j = -1 → ¬ fw_sum room daily kept (above j) away Lf n < 0
def fw_R (n : Nat) (room daily kept drain above : Nat → Int32) (away Lf r : Int32) : Prop := (r = 1 ∧ fw_B n room daily kept drain above away Lf) ∨ (r = 0 ∧ ¬ fw_B n room daily kept drain above away Lf)
theorem fw_XA {n : Nat} (hn : n ≤ 8) (room daily kept drain above : Nat → Int32) (away Lf : Int32) : ∃ r, fX11_allStreamsBear (nI n) room daily drain above kept away Lf = some r ∧ fw_R n room daily kept drain above away Lf r := by
  unfold fX11_allStreamsBear
  refine oz_inv (fun (i : Nat) (v : Int32) => v = nI i ∧ ∀ j, j < i → drain j = -1 → ¬ fw_sum room daily kept (above j) away Lf n < 0) (fun r => fw_R n room daily kept drain above away Lf r) n (by omega) ?_ ?_ ⟨rfl, fun j hj => absurd hj (by omega)⟩
  · intro i v hi hv
    obtain ⟨rfl, hv⟩ := hv
    have c0 : Int32.toNatClampNeg (nI i) = i := pz_ncl (by omega)
    rcases Decidable.em (drain i = -1) with q | q
    · rcases Decidable.em (fw_sum room daily kept (above i) away Lf n < 0) with z | z
      · refine Or.inr ⟨0, ?_, Or.inr ⟨rfl, fun h => h i hi q z⟩⟩
        unfold fX11_allStreamsBear_b2
        rw [if_neg (nI_ge hi (by omega)), if_neg (pz_ix (show i < 8 by omega) (by omega)), c0, if_pos q, oz_b (fw_X hn room daily kept (above i) away Lf)]
        rw [if_pos z, if_pos rfl]
      · refine Or.inl ⟨nI i + 1, ?_, nI_1 i, fun j hj => ?_⟩
        · unfold fX11_allStreamsBear_b2
          rw [if_neg (nI_ge hi (by omega)), if_neg (pz_ix (show i < 8 by omega) (by omega)), c0, if_pos q, oz_b (fw_X hn room daily kept (above i) away Lf)]
          rw [if_neg z, if_neg fw_n10]
        · rcases (show j < i ∨ j = i by omega) with y | y
          · exact hv j y
          · subst y; exact fun _ => z
    · refine Or.inl ⟨nI i + 1, ?_, nI_1 i, fun j hj => ?_⟩
      · unfold fX11_allStreamsBear_b2
        rw [if_neg (nI_ge hi (by omega)), if_neg (pz_ix (show i < 8 by omega) (by omega)), c0, if_neg q]
      · rcases (show j < i ∨ j = i by omega) with y | y
        · exact hv j y
        · subst y; exact fun z => absurd z q
  · intro v hv
    obtain ⟨rfl, hv⟩ := hv
    refine ⟨1, ?_, Or.inl ⟨rfl, hv⟩⟩
    unfold fX11_allStreamsBear_b2
    rw [if_pos (nI_le (Nat.le_refl n) (by omega))]
theorem fw_MA {n : Nat} {stands lent pipe houses : Int32} {room daily drain above town now kept : Nat → Int32} (hP : iv_P n stands lent pipe houses room daily drain above town) (hk : ∀ h, h < 8 → now h = kept h) {Lf : Int32} (hL : fX12_daysOfLent town now = some Lf) (away : Int32) : ∃ r, fX12_bears town now away = some r ∧ fw_R n room daily kept drain above away Lf r := by
  obtain ⟨P1, P2, P3, P4, P5, P6, P7, P8, P9, P10, P11, P12, P13, P14⟩ := hP
  have L : ∃ o, oz_loop (fX12_bears_b10 town now away Lf) oz_fuel (0, 1) = some o ∧ fw_R n room daily kept drain above away Lf o.2 := by
    refine oz_inv (fun (i : Nat) (v : Int32 × Int32) => v.1 = nI i ∧ ((v.2 = 1 ∧ ∀ j, j < i → drain j = -1 → ¬ fw_sum room daily kept (above j) away Lf n < 0) ∨ (v.2 = 0 ∧ ¬ fw_B n room daily kept drain above away Lf))) (fun (o : Int32 × Int32) => fw_R n room daily kept drain above away Lf o.2) n (by omega) ?_ ?_ ⟨rfl, Or.inl ⟨rfl, fun j hj => absurd hj (by omega)⟩⟩
    · intro i v hi hv
      obtain ⟨v1, v2⟩ := v
      obtain ⟨e1, hv⟩ := hv
      dsimp only at e1 hv
      subst e1
      left
      have c0 : Int32.toNatClampNeg (nI i) = i := pz_ncl (by omega)
      rcases Decidable.em (drain i = -1) with q | q
      · have hX : fX12_bears_b10 town now away Lf (nI i, v2) = (if v2 = 0 then (some (.inl (nI i + 1, 0))) else (if fw_sum room daily kept (above i) away Lf n < 0 then (some (.inl (nI i + 1, 0))) else (some (.inl (nI i + 1, 1))))) := by
          unfold fX12_bears_b10
          dsimp only
          rw [pz_c2, P3, if_neg (nI_ge hi (by omega)), pz_a19, if_neg (pz_ix (show 19 + i < 27 by omega) (by omega)), pz_ncl (show 19 + i < 2147483648 by omega), P8 i hi, if_pos q, oz_b (P11 i hi), oz_b (fw_M P1 P3 P6 P7 hk (above i) away Lf)]
        rcases hv with ⟨y, hv⟩ | ⟨y, hv⟩
        · rw [if_neg (by rw [y]; exact fw_n10)] at hX
          rcases Decidable.em (fw_sum room daily kept (above i) away Lf n < 0) with z | z
          · rw [if_pos z] at hX
            exact ⟨_, hX, nI_1 i, Or.inr ⟨rfl, fun h => h i hi q z⟩⟩
          · rw [if_neg z] at hX
            refine ⟨_, hX, nI_1 i, Or.inl ⟨rfl, fun j hj => ?_⟩⟩
            rcases (show j < i ∨ j = i by omega) with x | x
            · exact hv j x
            · subst x; exact fun _ => z
        · rw [if_pos y] at hX
          exact ⟨_, hX, nI_1 i, Or.inr ⟨rfl, hv⟩⟩
      · have hX : fX12_bears_b10 town now away Lf (nI i, v2) = (if v2 = 0 then (some (.inl (nI i + 1, 0))) else (some (.inl (nI i + 1, 1)))) := by
          unfold fX12_bears_b10
          dsimp only
          rw [pz_c2, P3, if_neg (nI_ge hi (by omega)), pz_a19, if_neg (pz_ix (show 19 + i < 27 by omega) (by omega)), pz_ncl (show 19 + i < 2147483648 by omega), P8 i hi, if_neg q, oz_b (show oz_loop (fX12_bears_b53 town now away Lf) oz_fuel (0, 0) = some (nI n, fw_sum room daily kept 0 away Lf n) from fw_M P1 P3 P6 P7 hk 0 away Lf)]
          dsimp only
          rw [fw_0 room daily kept away Lf n P1, if_neg (show ¬ (0 : Int32) < 0 by decide)]
        rcases hv with ⟨y, hv⟩ | ⟨y, hv⟩
        · rw [if_neg (by rw [y]; exact fw_n10)] at hX
          refine ⟨_, hX, nI_1 i, Or.inl ⟨rfl, fun j hj => ?_⟩⟩
          rcases (show j < i ∨ j = i by omega) with x | x
          · exact hv j x
          · subst x; exact fun z => absurd z q
        · rw [if_pos y] at hX
          exact ⟨_, hX, nI_1 i, Or.inr ⟨rfl, hv⟩⟩
    · intro v hv
      obtain ⟨v1, v2⟩ := v
      obtain ⟨e1, hv⟩ := hv
      dsimp only at e1 hv
      subst e1
      refine ⟨(nI n, v2), ?_, hv⟩
      unfold fX12_bears_b10
      dsimp only
      rw [pz_c2, P3, if_pos (nI_le (Nat.le_refl n) (by omega))]
  obtain ⟨⟨o1, o2⟩, h1, h2⟩ := L
  refine ⟨o2, ?_, h2⟩
  unfold fX12_bears
  rw [oz_b hL, oz_b h1]
  dsimp only
  rcases h2 with ⟨y, _⟩ | ⟨y, _⟩
  · dsimp only at y; subst y; rw [if_neg mz_b1]
  · dsimp only at y; subst y; rw [if_neg mz_b0]
theorem fw_one {n : Nat} {room daily kept drain above : Nat → Int32} {away Lf r s : Int32} (h1 : fw_R n room daily kept drain above away Lf r) (h2 : fw_R n room daily kept drain above away Lf s) : r = s := by
  rcases h1 with ⟨a, b⟩ | ⟨a, b⟩ <;> rcases h2 with ⟨c, d⟩ | ⟨c, d⟩
  · rw [a, c]
  · exact absurd b d
  · exact absurd d b
  · rw [a, c]
theorem fw_bit : ∀ n, n < 9 → ∀ i, i < n → ¬ ((nI (2 ^ n - 1) >>> (nI i &&& 31)) &&& 1) = 0 := by decide +kernel
theorem fw_full {n : Nat} (hn : n ≤ 8) {room daily kept drain above : Nat → Int32} (hb : ∀ h, h < n → 0 ≤ (kept h).toInt ∧ (kept h).toInt ≤ (room h).toInt) (hr : ∀ h, h < n → 0 ≤ (room h).toInt ∧ (room h).toInt ≤ 999) (Lf : Int32) : fw_B n room daily kept drain above (nI (2 ^ n - 1)) Lf := by
  intro j _ _
  have h : ∀ i, i ≤ n → 0 ≤ (fw_sum room daily kept (above j) (nI (2 ^ n - 1)) Lf i).toInt ∧ (fw_sum room daily kept (above j) (nI (2 ^ n - 1)) Lf i).toInt ≤ 999 * (i : Int) := by
    intro i
    induction i with
    | zero => intro _; rw [show fw_sum room daily kept (above j) (nI (2 ^ n - 1)) Lf 0 = 0 from rfl, pz_i0]; exact ⟨by omega, by omega⟩
    | succ i ih =>
      intro hi
      have hi1 := ih (by omega)
      have b1 := hb i (by omega)
      have b2 := hr i (by omega)
      rw [fw_s]
      rcases Decidable.em (((above j >>> (nI i &&& 31)) &&& 1) = 1) with q | q
      · rw [if_pos q, if_neg (fw_bit n (by omega) i (by omega))]
        have e1 : (room i - kept i).toInt = (room i).toInt - (kept i).toInt := pz_sub (by omega) (by omega)
        rw [pz_add (by rw [e1]; omega) (by rw [e1]; omega), e1]
        omega
      · rw [if_neg q]
        omega
  have := h n (Nat.le_refl n)
  rw [pz_lt, pz_i0]
  omega
/-- the least of those that bear, as far as they were tried -/
def fw_st (r : Nat → Int32) : Nat → Option Nat
  | 0 => none
  | i + 1 => match fw_st r i with
    | none => if r i = 0 then none else some i
    | some s => if bt_pc s ≤ bt_pc i then some s else if r i = 0 then some s else some i
theorem fw_st_lt (r : Nat → Int32) : ∀ i s, fw_st r i = some s → s < i := by
  intro i
  induction i with
  | zero => intro s h; cases h
  | succ i ih =>
    intro s h
    rw [fw_st] at h
    cases e : fw_st r i with
    | none =>
      rw [e] at h
      dsimp only at h
      rcases Decidable.em (r i = 0) with q | q
      · rw [if_pos q] at h; cases h
      · rw [if_neg q] at h; cases h; omega
    | some t =>
      rw [e] at h
      dsimp only at h
      have := ih t e
      rcases Decidable.em (bt_pc t ≤ bt_pc i) with q | q
      · rw [if_pos q] at h; cases h; omega
      · rw [if_neg q] at h
        rcases Decidable.em (r i = 0) with z | z
        · rw [if_pos z] at h; cases h; omega
        · rw [if_neg z] at h; cases h; omega
theorem fw_pc : ∀ n, n < 9 → ∀ i, i < 2 ^ n - 1 → ¬ bt_pc (2 ^ n - 1) ≤ bt_pc i := by decide +kernel
theorem fw_2n {n : Nat} (hn : n ≤ 8) : (1 : Int32) <<< (nI n &&& 31) = nI (2 ^ n) := by
  rcases (show n = 0 ∨ n = 1 ∨ n = 2 ∨ n = 3 ∨ n = 4 ∨ n = 5 ∨ n = 6 ∨ n = 7 ∨ n = 8 by omega) with rfl | rfl | rfl | rfl | rfl | rfl | rfl | rfl | rfl <;> decide
theorem fw_pow {n : Nat} (hn : n ≤ 8) : 1 ≤ 2 ^ n ∧ 2 ^ n ≤ 256 := by
  rcases (show n = 0 ∨ n = 1 ∨ n = 2 ∨ n = 3 ∨ n = 4 ∨ n = 5 ∨ n = 6 ∨ n = 7 ∨ n = 8 by omega) with rfl | rfl | rfl | rfl | rfl | rfl | rfl | rfl | rfl <;> decide
theorem fw_nm {s : Nat} (h : s < 256) : ¬ nI s = -1 := by
  intro e
  rw [pz_eq, pz_nI (by omega), show (-1 : Int32).toInt = -1 by decide] at e
  omega
theorem fw_le {a b : Nat} (ha : a < 256) (hb : b < 256) : nI (bt_pc a) ≤ nI (bt_pc b) ↔ bt_pc a ≤ bt_pc b := nI_leI (by have := bt_le a; omega) (by have := bt_le b; omega)
theorem fw_loopX {n : Nat} (hn : n ≤ 8) {room daily kept drain above : Nat → Int32} {Lf : Int32} {r : Nat → Int32} (hr : ∀ i, i < 2 ^ n → fX11_allStreamsBear (nI n) room daily drain above kept (nI i) Lf = some (r i)) :
    oz_loop (fX11_fewest_b22 (nI n) room daily drain above kept (nI (2 ^ n - 1)) Lf) oz_fuel (0, nI (2 ^ n - 1)) = some (nI (2 ^ n - 1), nI ((fw_st r (2 ^ n - 1)).getD (2 ^ n - 1))) := by
  have p2 := fw_pow hn
  refine (oz_det (fun i => (nI i, nI ((fw_st r i).getD (2 ^ n - 1)))) (2 ^ n - 1) (by omega) (fun i hi => ?_) ?_ : oz_loop (fX11_fewest_b22 (nI n) room daily drain above kept (nI (2 ^ n - 1)) Lf) oz_fuel (nI 0, nI ((fw_st r 0).getD (2 ^ n - 1))) = _)
  · unfold fX11_fewest_b22
    dsimp only
    rw [if_neg (nI_ge hi (by omega)), nI_1, oz_b (bt_X i (by omega)), fw_st]
    cases e : fw_st r i with
    | none =>
      dsimp only [Option.getD_none]
      rw [oz_b (bt_X (2 ^ n - 1) (by omega)), if_neg (fun h => fw_pc n (by omega) i hi ((fw_le (by omega) (by omega)).1 h)), oz_b (hr i (by omega))]
      rcases Decidable.em (r i = 0) with q | q
      · rw [if_pos q, if_pos q]; rfl
      · rw [if_neg q, if_neg q]; rfl
    | some s =>
      have hs := fw_st_lt r i s e
      dsimp only [Option.getD_some]
      rw [oz_b (bt_X s (by omega))]
      rcases Decidable.em (bt_pc s ≤ bt_pc i) with q | q
      · rw [if_pos ((fw_le (by omega) (by omega)).2 q), if_pos q]; rfl
      · rw [if_neg (fun h => q ((fw_le (by omega) (by omega)).1 h)), if_neg q, oz_b (hr i (by omega))]
        rcases Decidable.em (r i = 0) with z | z
        · rw [if_pos z, if_pos z]; rfl
        · rw [if_neg z, if_neg z]; rfl
  · unfold fX11_fewest_b22
    dsimp only
    rw [if_pos (nI_le (Nat.le_refl _) (by omega))]
theorem fw_loopM {n : Nat} (hn : n ≤ 8) {town now : Nat → Int32} (h2 : town 2 = nI n) {r : Nat → Int32} (hr : ∀ i, i < 2 ^ n → fX12_bears town now (nI i) = some (r i)) :
    oz_loop (fX12_fewest_b4 town now) oz_fuel (0, (-1)) = some (nI (2 ^ n), (fw_st r (2 ^ n)).elim (-1) nI) := by
  have p2 := fw_pow hn
  refine (oz_det (fun i => (nI i, (fw_st r i).elim (-1) nI)) (2 ^ n) (by omega) (fun i hi => ?_) ?_ : oz_loop (fX12_fewest_b4 town now) oz_fuel (nI 0, (fw_st r 0).elim (-1) nI) = _)
  · show fX12_fewest_b4 town now (nI i, (fw_st r i).elim (-1) nI) = some (.inl (nI (i + 1), (fw_st r (i + 1)).elim (-1) nI))
    rw [fw_st]
    cases e : fw_st r i with
    | none =>
      have key : fX12_fewest_b4 town now (nI i, -1) = if r i = 0 then some (.inl (nI (i + 1), -1)) else some (.inl (nI (i + 1), nI i)) := by
        unfold fX12_fewest_b4
        dsimp only
        rw [pz_c2, h2, fw_2n hn, if_neg (nI_ge hi (by omega)), nI_1, if_pos rfl, oz_b (hr i hi)]
      refine (show fX12_fewest_b4 town now (nI i, Option.elim none (-1) nI) = _ from key).trans ?_
      dsimp only
      rcases Decidable.em (r i = 0) with q | q
      · rw [if_pos q, if_pos q]; rfl
      · rw [if_neg q, if_neg q]; rfl
    | some s =>
      have hs := fw_st_lt r i s e
      have key : fX12_fewest_b4 town now (nI i, nI s) = if nI (bt_pc s) ≤ nI (bt_pc i) then some (.inl (nI (i + 1), nI s)) else if r i = 0 then some (.inl (nI (i + 1), nI s)) else some (.inl (nI (i + 1), nI i)) := by
        unfold fX12_fewest_b4
        dsimp only
        rw [pz_c2, h2, fw_2n hn, if_neg (nI_ge hi (by omega)), nI_1, if_neg (fw_nm (show s < 256 by omega)), oz_b (bt_M i (by omega)), oz_b (bt_M s (by omega)), oz_b (hr i hi)]
      refine (show fX12_fewest_b4 town now (nI i, Option.elim (some s) (-1) nI) = _ from key).trans ?_
      dsimp only
      rcases Decidable.em (bt_pc s ≤ bt_pc i) with q | q
      · rw [if_pos ((fw_le (by omega) (by omega)).2 q), if_pos q]; rfl
      · rw [if_neg (fun h => q ((fw_le (by omega) (by omega)).1 h)), if_neg q]
        rcases Decidable.em (r i = 0) with z | z
        · rw [if_pos z, if_pos z]; rfl
        · rw [if_neg z, if_neg z]; rfl
  · unfold fX12_fewest_b4
    dsimp only
    rw [pz_c2, h2, fw_2n hn, if_pos (nI_le (Nat.le_refl _) (by omega))]
theorem fw_last {n : Nat} (hn : n ≤ 8) {r : Nat → Int32} (hr : r (2 ^ n - 1) = 1) : (fw_st r (2 ^ n)).elim (-1) nI = nI ((fw_st r (2 ^ n - 1)).getD (2 ^ n - 1)) := by
  have p2 := fw_pow hn
  rw [show 2 ^ n = (2 ^ n - 1) + 1 by omega, fw_st, show (2 ^ n - 1) + 1 - 1 = 2 ^ n - 1 by omega]
  cases e : fw_st r (2 ^ n - 1) with
  | none =>
    dsimp only
    rw [if_neg (by rw [hr]; exact fw_n10)]; rfl
  | some s =>
    have hs := fw_st_lt r _ s e
    dsimp only
    rw [if_pos (by have := fw_pc n (by omega) s hs; omega)]; rfl
theorem sp_fewest (v_x_reader_length : Int32) (v_x_reader_faultAt : Int32) (v_x_reader_letters : Nat → Int32) (v_x_plan_stands : Int32) (v_x_plan_lent : Int32) (v_x_plan_pipe : Int32) (v_x_plan_houses : Int32) (v_x_plan_room : Nat → Int32) (v_x_plan_daily : Nat → Int32) (v_x_plan_drain : Nat → Int32) (v_x_plan_above : Nat → Int32) (v_x_now_days : Int32) (v_x_now_spilled : Int32) (v_x_now_river : Int32) (v_x_now_kept : Nat → Int32) (v_x_now_away : Nat → Int32) (v_x_history_end : Int32) (v_x_history_count : Int32) (v_x_history_shelf_places : Int32) (v_x_history_shelf_cells : Nat → Int32) (v_x_images_storedSet : Int32) (v_x_images_shelf_places : Int32) (v_x_images_shelf_cells : Nat → Int32) (v_x_images_seeds : Nat → Int32) (v_x_draws_value : Int32) (v_x_notes_seen : Int32) (v_x_notes_entries : Int32) (v_x_notes_seenBy : Nat → Int32) (v_x_notes_seenCame : Nat → Int32) (v_x_notes_entryHouse : Nat → Int32) (v_x_notes_entryAmount : Nat → Int32) (v_m_undos : Int32) (v_m_seed : Int64) (v_m_size : Int32) (v_m_fault : Int32) (v_m_sightMany : Int32) (v_m_bookMany : Int32) (v_m_town : Nat → Int32) (v_m_now : Nat → Int32) (v_m_past : Nat → Int32) (v_m_images : Nat → Int32) (v_m_kept : Nat → Int32) (v_m_text : Nat → Int32) (v_m_sights : Nat → Int32) (v_m_book : Nat → Int32) (hI : IV v_x_reader_length v_x_reader_faultAt v_x_reader_letters v_x_plan_stands v_x_plan_lent v_x_plan_pipe v_x_plan_houses v_x_plan_room v_x_plan_daily v_x_plan_drain v_x_plan_above v_x_now_days v_x_now_spilled v_x_now_river v_x_now_kept v_x_now_away v_x_history_end v_x_history_count v_x_history_shelf_places v_x_history_shelf_cells v_x_images_storedSet v_x_images_shelf_places v_x_images_shelf_cells v_x_images_seeds v_x_draws_value v_x_notes_seen v_x_notes_entries v_x_notes_seenBy v_x_notes_seenCame v_x_notes_entryHouse v_x_notes_entryAmount v_m_undos v_m_seed v_m_size v_m_fault v_m_sightMany v_m_bookMany v_m_town v_m_now v_m_past v_m_images v_m_kept v_m_text v_m_sights v_m_book) : ∃ (yx : Int32) (ym : Int32), (fX11_fewest v_x_plan_lent v_x_plan_houses v_x_plan_room v_x_plan_daily v_x_plan_drain v_x_plan_above v_x_now_days v_x_now_kept) = some yx ∧ (fX12_fewest v_m_town v_m_now) = some ym ∧ yx = ym ∧ IV v_x_reader_length v_x_reader_faultAt v_x_reader_letters v_x_plan_stands v_x_plan_lent v_x_plan_pipe v_x_plan_houses v_x_plan_room v_x_plan_daily v_x_plan_drain v_x_plan_above v_x_now_days v_x_now_spilled v_x_now_river v_x_now_kept v_x_now_away v_x_history_end v_x_history_count v_x_history_shelf_places v_x_history_shelf_cells v_x_images_storedSet v_x_images_shelf_places v_x_images_shelf_cells v_x_images_seeds v_x_draws_value v_x_notes_seen v_x_notes_entries v_x_notes_seenBy v_x_notes_seenCame v_x_notes_entryHouse v_x_notes_entryAmount v_m_undos v_m_seed v_m_size v_m_fault v_m_sightMany v_m_bookMany v_m_town v_m_now v_m_past v_m_images v_m_kept v_m_text v_m_sights v_m_book := by
  obtain ⟨i1, i2, i3, n, hP, hS, hB, hH, hM, hO⟩ := hI
  have hP' := hP
  obtain ⟨P1, P2, P3, P4, P5, P6, P7, P8, P9, P10, P11, P12, P13, P14⟩ := hP
  have hS' := hS
  have hB' := hB
  obtain ⟨S1, S2, S3, S4, S5⟩ := hS
  obtain ⟨B1, B2, B3, B4, B5⟩ := hB
  obtain ⟨Lf, l1, l2, l3⟩ := sl_left hP' S3 B4
  have p2 := fw_pow P1
  have H : ∀ i : Nat, ∃ r, fX11_allStreamsBear (nI n) v_x_plan_room v_x_plan_daily v_x_plan_drain v_x_plan_above v_x_now_kept (nI i) Lf = some r ∧ fX12_bears v_m_town v_m_now (nI i) = some r ∧ fw_R n v_x_plan_room v_x_plan_daily v_x_now_kept v_x_plan_drain v_x_plan_above (nI i) Lf r := by
    intro i
    obtain ⟨r, x1, x2⟩ := fw_XA P1 v_x_plan_room v_x_plan_daily v_x_now_kept v_x_plan_drain v_x_plan_above (nI i) Lf
    obtain ⟨s, y1, y2⟩ := fw_MA hP' S1 l2 (nI i)
    have e := fw_one x2 y2
    subst e
    exact ⟨r, x1, y1, x2⟩
  obtain ⟨r, hr⟩ := Classical.skolem.mp H
  have hr1 : r (2 ^ n - 1) = 1 := by
    rcases (hr (2 ^ n - 1)).2.2 with a | a
    · exact a.1
    · exact absurd (fw_full P1 B1 (fun h hh => (P9 h hh).1) Lf) a.2
  have LX := fw_loopX P1 (fun i _ => (hr i).1)
  have LM := fw_loopM P1 P3 (fun i _ => (hr i).2.1)
  refine ⟨_, _, ?_, ?_, (fw_last P1 hr1).symm, i1, i2, i3, n, hP', hS', hB', hH, hM, hO⟩
  · unfold fX11_fewest
    rw [oz_b l1, P2, az_all P1]
    exact oz_b LX
  · unfold fX12_fewest
    exact oz_b LM
