/-! WHO LIES ABOVE WHOM: walks down, and the sets that both sides make of them -/
def ht_f (drain : Nat → Int32) : Nat → Nat → Nat → Bool
  | 0, _, _ => false
  | f + 1, j, a => decide (j = a) || (if drain j = -1 then false else ht_f drain f (drain j).toNatClampNeg a)
theorem ht_s (drain : Nat → Int32) (f j a : Nat) : ht_f drain (f + 1) j a = (decide (j = a) || (if drain j = -1 then false else ht_f drain f (drain j).toNatClampNeg a)) := rfl
theorem ht_irr {n : Nat} (hn : n ≤ 8) {drain : Nat → Int32} (hD : pr_D n drain) (a : Nat) : ∀ j, j < n → ∀ f g, j < f → j < g → ht_f drain f j a = ht_f drain g j a := by
  intro j
  induction j using Nat.strongRecOn with
  | _ j ih =>
    intro hj f g hf hg
    obtain ⟨f, rfl⟩ : ∃ x, f = x + 1 := ⟨f - 1, by omega⟩
    obtain ⟨g, rfl⟩ : ∃ x, g = x + 1 := ⟨g - 1, by omega⟩
    rw [ht_s, ht_s]
    rcases hD j hj with q | ⟨i, hi, q⟩
    · rw [if_pos q, if_pos q]
    · have hne : ¬ drain j = -1 := by rw [q]; exact fw_nm (by omega)
      rw [if_neg hne, if_neg hne, q, pz_ncl (by omega), ih i hi (by omega) f g (by omega) (by omega)]
theorem ht_r {n : Nat} (hn : n ≤ 8) {drain : Nat → Int32} {j : Nat} (q : drain j = -1) (a : Nat) : ht_f drain 8 j a = decide (j = a) := by
  rw [ht_s, if_pos q, Bool.or_false]
theorem ht_d {n : Nat} (hn : n ≤ 8) {drain : Nat → Int32} (hD : pr_D n drain) {j i : Nat} (hj : j < n) (hi : i < j) (q : drain j = nI i) (a : Nat) : ht_f drain 8 j a = (decide (j = a) || ht_f drain 8 i a) := by
  rw [ht_s, if_neg (by rw [q]; exact fw_nm (by omega)), q, pz_ncl (by omega), ht_irr hn hD a i (by omega) 7 8 (by omega) (by omega)]
theorem ht_up {n : Nat} (hn : n ≤ 8) {drain : Nat → Int32} (hD : pr_D n drain) {a : Nat} : ∀ j, j < n → j < a → ht_f drain 8 j a = false := by
  intro j
  induction j using Nat.strongRecOn with
  | _ j ih =>
    intro hj ha
    rcases hD j hj with q | ⟨i, hi, q⟩
    · rw [ht_r hn q]; exact decide_eq_false (by omega)
    · rw [ht_d hn hD hj hi q, ih i hi (by omega) (by omega), Bool.or_false]; exact decide_eq_false (by omega)
theorem ht_cong {n : Nat} (hn : n ≤ 8) {drain drain' : Nat → Int32} (hD : pr_D n drain) (he : ∀ h, h < n → drain' h = drain h) (a : Nat) : ∀ f j, j < n → ht_f drain' f j a = ht_f drain f j a := by
  intro f
  induction f with
  | zero => intro j _; rfl
  | succ f ih =>
    intro j hj
    rw [ht_s, ht_s, he j hj]
    rcases hD j hj with q | ⟨i, hi, q⟩
    · rw [if_pos q, if_pos q]
    · have hne : ¬ drain j = -1 := by rw [q]; exact fw_nm (by omega)
      rw [if_neg hne, if_neg hne, q, pz_ncl (by omega), ih i (by omega)]
def ab_b (i : Nat) : Int32 := 1 <<< (nI i &&& 31)
def ab_s (drain : Nat → Int32) (a : Nat) : Nat → Int32
  | 0 => 0
  | i + 1 => if ht_f drain 8 i a = true then ab_s drain a i ||| ab_b i else ab_s drain a i
theorem ab_ss (drain : Nat → Int32) (a i : Nat) : ab_s drain a (i + 1) = if ht_f drain 8 i a = true then ab_s drain a i ||| ab_b i else ab_s drain a i := rfl
theorem ab_cong {n : Nat} (hn : n ≤ 8) {drain drain' : Nat → Int32} (hD : pr_D n drain) (he : ∀ h, h < n → drain' h = drain h) (a : Nat) : ∀ i, i ≤ n → ab_s drain' a i = ab_s drain a i := by
  intro i
  induction i with
  | zero => intro _; rfl
  | succ i ih =>
    intro hi
    rw [ab_ss, ab_ss, ih (by omega), ht_cong hn hD he a 8 i (by omega)]
theorem ab_up {n : Nat} (hn : n ≤ 8) {drain : Nat → Int32} (hD : pr_D n drain) {a : Nat} : ∀ i, i ≤ n → i ≤ a → ab_s drain a i = 0 := by
  intro i
  induction i with
  | zero => intro _ _; rfl
  | succ i ih =>
    intro hi ha
    rw [ab_ss, ht_up hn hD i (by omega) (by omega), if_neg (by decide)]
    exact ih (by omega) (by omega)
/-- the reference's walk from one house -/
theorem ab_walk {n : Nat} (hn : n ≤ 8) {drain town : Nat → Int32} (hd : ∀ h, h < n → town (19 + h) = drain h) (hD : pr_D n drain) {a i : Nat} (ha : a < n) (x : Int32) :
    ∀ j, j < n → ∀ f S, j + 1 < f → oz_loop (fX12_above_b17 town (nI a) (nI i, x)) f (nI j, S) = some (-1, if ht_f drain 8 j a = true then S ||| ab_b i else S) := by
  intro j
  induction j using Nat.strongRecOn with
  | _ j ih =>
    intro hj f S hf
    obtain ⟨f, rfl⟩ : ∃ x, f = x + 1 := ⟨f - 1, by omega⟩
    have st : fX12_above_b17 town (nI a) (nI i, x) (nI j, S) = some (.inl (drain j, if j = a then S ||| ab_b i else S)) := by
      unfold fX12_above_b17
      dsimp only
      rw [if_neg (fw_nm (by omega)), pz_a19]
      rcases Decidable.em (j = a) with q | q
      · rw [if_pos (by rw [q]), if_neg (pz_ix (show 19 + j < 27 by omega) (by omega)), pz_ncl (show 19 + j < 2147483648 by omega), hd j hj, if_pos q]; rfl
      · rw [if_neg (fun e => q ((nI_eq (by omega) (by omega)).1 e)), if_neg (pz_ix (show 19 + j < 27 by omega) (by omega)), pz_ncl (show 19 + j < 2147483648 by omega), hd j hj, if_neg q, pz_or0]
    rw [oz_l1 st]
    rcases hD j hj with q | ⟨h, hh, q⟩
    · obtain ⟨f, rfl⟩ : ∃ x, f = x + 1 := ⟨f - 1, by omega⟩
      rw [q, ht_r hn q]
      have e : (if j = a then S ||| ab_b i else S) = if decide (j = a) = true then S ||| ab_b i else S := by
        rcases Decidable.em (j = a) with z | z
        · rw [if_pos z, if_pos (decide_eq_true z)]
        · rw [if_neg z, if_neg (by rw [decide_eq_false z]; decide)]
      rw [← e]
      refine oz_l2 ?_
      unfold fX12_above_b17
      dsimp only
      rw [if_pos rfl]
    · rw [q, ih h hh (by omega) f _ (by omega), ht_d hn hD hj hh q]
      rcases Decidable.em (j = a) with z | z
      · have z2 : ht_f drain 8 h a = false := ht_up hn hD h (by omega) (by omega)
        rw [z2, if_pos z, decide_eq_true z, if_neg (by decide), if_pos (by decide)]
      · rw [if_neg z, decide_eq_false z, Bool.false_or]
theorem ab_M {n : Nat} (hn : n ≤ 8) {drain town : Nat → Int32} (h2 : town 2 = nI n) (hd : ∀ h, h < n → town (19 + h) = drain h) (hD : pr_D n drain) {a : Nat} (ha : a < n) : fX12_above town (nI a) = some (ab_s drain a n) := by
  have h : oz_loop (fX12_above_b4 town (nI a)) oz_fuel (nI 0, ab_s drain a 0) = some (nI n, ab_s drain a n) := by
    refine oz_det (fun i => (nI i, ab_s drain a i)) n (by omega) (fun i hi => ?_) ?_
    · unfold fX12_above_b4
      dsimp only
      rw [pz_c2, h2, if_neg (nI_ge hi (by omega)), oz_b (ab_walk hn hd hD ha _ i hi oz_fuel _ (oz_fuel_lt (by omega))), nI_1]
      rfl
    · unfold fX12_above_b4
      dsimp only
      rw [pz_c2, h2, if_pos (nI_le (Nat.le_refl n) (by omega))]
  unfold fX12_above
  exact oz_b h
/-- the class marks all below one house -/
theorem ab_X {n : Nat} (hn : n ≤ 8) {drain : Nat → Int32} (hD : pr_D n drain) (i : Nat) :
    ∀ j, j < n → ∀ s f A, s + j < 8 → j + 1 < f → ∃ o, oz_loop (fX6_markBelow_b4 (nI n) drain (nI i)) f (nI s, nI j, A) = some o ∧ ∀ h, h < n → o.2.2 h = if ht_f drain 8 j h = true then A h ||| ab_b i else A h := by
  intro j
  induction j using Nat.strongRecOn with
  | _ j ih =>
    intro hj s f A hs hf
    obtain ⟨f, rfl⟩ : ∃ x, f = x + 1 := ⟨f - 1, by omega⟩
    have st : fX6_markBelow_b4 (nI n) drain (nI i) (nI s, nI j, A) = some (.inl (nI (s + 1), drain j, upd A j (A j ||| ab_b i))) := by
      unfold fX6_markBelow_b4
      dsimp only
      rw [if_neg (show ¬ (8 : Int32) ≤ nI s from (nI_ge (b := 8) (by omega) (by omega) : ¬ nI 8 ≤ nI s)), oz_b (hz_has1 hj hn), if_neg fw_n10, if_neg (pz_ix (show j < 8 by omega) (by omega)), pz_ncl (show j < 2147483648 by omega), nI_1]
      rfl
    rw [oz_l1 st]
    rcases hD j hj with q | ⟨g, hg, q⟩
    · obtain ⟨f, rfl⟩ : ∃ x, f = x + 1 := ⟨f - 1, by omega⟩
      rw [q]
      refine ⟨(nI (s + 1), -1, upd A j (A j ||| ab_b i)), oz_l2 ?_, ?_⟩
      · unfold fX6_markBelow_b4
        dsimp only
        rw [oz_b hz_has0, if_pos rfl]
        rcases Decidable.em ((8 : Int32) ≤ nI (s + 1)) with y | y
        · rw [if_pos y]
        · rw [if_neg y]
      · intro h hh
        dsimp only
        rw [ht_r hn q]
        rcases Decidable.em (j = h) with z | z
        · subst z; rw [pk_us, if_pos (decide_eq_true rfl)]
        · rw [pk_un (by omega), if_neg (by rw [decide_eq_false z]; decide)]
    · rw [q]
      obtain ⟨o, o1, o2⟩ := ih g hg (by omega) (s + 1) f (upd A j (A j ||| ab_b i)) (by omega) (by omega)
      refine ⟨o, o1, fun h hh => ?_⟩
      rw [o2 h hh, ht_d hn hD hj hg q]
      rcases Decidable.em (j = h) with z | z
      · subst z
        rw [pk_us, ht_up hn hD g (by omega) hg, if_neg (by decide), decide_eq_true rfl, if_pos (by decide)]
      · rw [pk_un (by omega), decide_eq_false z, Bool.false_or]
theorem ab_mark {n : Nat} (hn : n < 8) {drain above : Nat → Int32} (hD : pr_D (n + 1) drain) (hA : ∀ h, h < n → above h = ab_s drain h n) : ∃ o, fX6_markBelow (nI (n + 1)) drain (upd above n 0) (nI n) = some o ∧ ∀ h, h < n + 1 → o h = ab_s drain h (n + 1) := by
  obtain ⟨o, o1, o2⟩ := ab_X (show n + 1 ≤ 8 by omega) hD n n (by omega) 0 oz_fuel (upd above n 0) (by omega) (oz_fuel_lt (by omega))
  refine ⟨o.2.2, ?_, fun h hh => ?_⟩
  · unfold fX6_markBelow
    exact oz_b o1
  · rw [o2 h hh, ab_ss]
    rcases Decidable.em (h = n) with z | z
    · subst z
      rw [pk_us, ab_up (show h + 1 ≤ 8 by omega) hD h (by omega) (by omega)]
    · rw [pk_un z, hA h (by omega)]
/-- one house more -/
theorem ab_add {n : Nat} (hn : n < 8) {room daily drain above : Nat → Int32} (hD : pr_D n drain) (hA : ∀ h, h < n → above h = ab_s drain h n) {a3 d : Int32} (v1 v2 : Int32) (h3 : (d = -1 ∧ ¬ (0 ≤ a3.toInt ∧ a3.toInt < n)) ∨ (d = a3 ∧ 0 ≤ a3.toInt ∧ a3.toInt < n)) :
    ∃ above', fX6_addHouse (nI n) room daily drain above v1 v2 a3 = some (nI (n + 1), upd room n v1, upd daily n v2, upd drain n d, above') ∧ pr_D (n + 1) (upd drain n d) ∧ ∀ h, h < n + 1 → above' h = ab_s (upd drain n d) h (n + 1) := by
  have hD' : pr_D (n + 1) (upd drain n d) := by
    intro h hh
    rcases Decidable.em (h = n) with z | z
    · subst z
      rw [pk_us]
      rcases h3 with ⟨e, _⟩ | ⟨e, e1⟩
      · exact Or.inl e
      · obtain ⟨j, j1, j2⟩ := mz_of e1
        exact Or.inr ⟨j, j1, by rw [e, j2]⟩
    · rw [pk_un z]; exact hD h (by omega)
  have he : ∀ h, h < n → upd drain n d h = drain h := fun h hh => pk_un (by omega)
  obtain ⟨o, o1, o2⟩ := ab_mark hn hD' (fun h hh => (hA h hh).trans (ab_cong (by omega) hD he h n (Nat.le_refl n)).symm)
  refine ⟨o, ?_, hD', o2⟩
  unfold fX6_addHouse
  rw [if_pos (show nI n < 8 from (nI_lt (b := 8) hn (by omega) : nI n < nI 8)), if_neg (pz_ix hn (by omega)), pz_ncl (show n < 2147483648 by omega), nI_1, nI_pred]
  rcases h3 with ⟨e, e1⟩ | ⟨e, e1⟩
  · subst e
    rw [oz_b (mz_has0 (by omega) e1), if_pos rfl, oz_b o1]
  · subst e
    rw [oz_b (mz_has1 (by omega) e1), if_neg fw_n10, oz_b o1]
