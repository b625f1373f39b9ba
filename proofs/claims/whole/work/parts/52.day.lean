/-! A DAY: what both sides do to a state -/
def dz_cap (x : Int32) : Int32 := if x < 9999999 then x else 9999999
theorem dz_lesser (v : Int32) : fX12_lesser v 9999999 = some (dz_cap v) := by
  unfold fX12_lesser dz_cap
  rcases Decidable.em (v < 9999999) with h | h
  · rw [if_pos h, if_neg (by rw [pz_le]; rw [pz_lt] at h; omega)]
  · rw [if_neg h, if_pos (by rw [pz_le]; rw [pz_lt] at h; omega)]
theorem dz_river (r g : Int32) : fX10_addToRiver r g = some (dz_cap (r + g)) := rfl
def dz_g (daily : Nat → Int32) (a2 a3 : Int32) (h : Nat) : Int32 := if nI h = a2 then daily h + a3 else daily h + 0
def dz_aw (away : Nat → Int32) (i h : Nat) : Int32 := if h < i then (if away h ≤ 0 then away h else away h - 1) else away h
theorem dz_aw_ge (away : Nat → Int32) {i h : Nat} (q : i ≤ h) : dz_aw away i h = away h := if_neg (by omega)
theorem dz_aw_step (away : Nat → Int32) {i h : Nat} (q : h ≠ i) : dz_aw away (i + 1) h = dz_aw away i h := by
  unfold dz_aw
  rcases Nat.lt_or_ge h i with z | z
  · rw [if_pos (show h < i + 1 by omega), if_pos z]
  · rw [if_neg (show ¬ h < i + 1 by omega), if_neg (show ¬ h < i by omega)]
theorem dz_aw_at (away : Nat → Int32) (i : Nat) : dz_aw away (i + 1) i = if away i ≤ 0 then away i else away i - 1 := by
  unfold dz_aw; rw [if_pos (show i < i + 1 by omega)]
def dz_rv (daily away : Nat → Int32) (a2 a3 river : Int32) : Nat → Int32
  | 0 => river
  | i + 1 => if away i ≤ 0 then dz_cap (dz_rv daily away a2 a3 river i + dz_g daily a2 a3 i) else dz_rv daily away a2 a3 river i
/-- the class's houses on a day that is no Lent -/
theorem dz_X0 {n : Nat} (hn : n ≤ 8) (daily kept away : Nat → Int32) (a2 a3 river : Int32) :
    ∃ o, oz_loop (fX10_passDay_b21 (nI n) daily a2 a3) oz_fuel (0, river, kept, away) = some o ∧ o.2.1 = dz_rv daily away a2 a3 river n ∧ o.2.2.1 = kept ∧ ∀ h, h < 8 → o.2.2.2 h = dz_aw away n h := by
  refine oz_inv (fun i v => v.1 = nI i ∧ v.2.1 = dz_rv daily away a2 a3 river i ∧ v.2.2.1 = kept ∧ ∀ h, h < 8 → v.2.2.2 h = dz_aw away i h) _ n (by omega) ?_ ?_ ⟨rfl, rfl, rfl, fun h _ => (dz_aw_ge away (Nat.zero_le h)).symm⟩
  · intro i v hi hv
    obtain ⟨v1, v2, v3, v4⟩ := v
    obtain ⟨e1, e2, e3, e4⟩ := hv
    dsimp only at e1 e2 e3 e4
    subst e1 e2 e3
    have e5 : v4 i = away i := (e4 i (by omega)).trans (dz_aw_ge away (Nat.le_refl i))
    left
    refine ⟨(nI i + 1, dz_rv daily away a2 a3 river (i + 1), v3, if away i ≤ 0 then v4 else upd v4 i (v4 i - 1)), ?_, nI_1 i, rfl, rfl, ?_⟩
    · unfold fX10_passDay_b21
      dsimp only
      rw [if_neg (nI_ge hi (by omega)), if_neg (pz_ix (by omega) (by omega)), pz_ncl (by omega)]
      simp only [e5]
      rw [show dz_rv daily away a2 a3 river (i + 1) = if away i ≤ 0 then dz_cap (dz_rv daily away a2 a3 river i + dz_g daily a2 a3 i) else dz_rv daily away a2 a3 river i from rfl]
      unfold dz_g
      rcases Decidable.em (nI i = a2) with q | q <;> rcases Decidable.em (away i ≤ 0) with z | z
      · rw [if_pos q, if_pos z, if_pos z, if_pos z, if_pos q, dz_river]; rfl
      · rw [if_pos q, if_neg z, if_neg z, if_neg z]
      · rw [if_neg q, if_pos z, if_pos z, if_pos z, if_neg q, dz_river]; rfl
      · rw [if_neg q, if_neg z, if_neg z, if_neg z]
    · intro h hh
      dsimp only
      rcases Decidable.em (h = i) with q | q
      · subst q
        rw [dz_aw_at]
        rcases Decidable.em (away h ≤ 0) with z | z
        · rw [if_pos z, if_pos z]; exact e5
        · rw [if_neg z, if_neg z, pk_us, e5]
      · rw [dz_aw_step away q]
        rcases Decidable.em (away i ≤ 0) with z | z
        · rw [if_pos z]; exact e4 h hh
        · rw [if_neg z, pk_un q]; exact e4 h hh
  · intro v hv
    obtain ⟨v1, v2, v3, v4⟩ := v
    obtain ⟨e1, e2, e3, e4⟩ := hv
    dsimp only at e1 e2 e3 e4
    subst e1
    refine ⟨(nI n, v2, v3, v4), ?_, e2, e3, e4⟩
    unfold fX10_passDay_b21
    dsimp only
    rw [if_pos (nI_le (Nat.le_refl n) (by omega))]
/-- what a house keeps behind a day of Lent, ahead of the spilling -/
def dz_K1 (daily kept away : Nat → Int32) (a2 a3 : Int32) (h : Nat) : Int32 := if away h ≤ 0 then kept h + dz_g daily a2 a3 h else kept h
theorem dz_X1 {n : Nat} (hn : n ≤ 8) (daily kept away : Nat → Int32) (a2 a3 river : Int32) :
    ∃ o, oz_loop (fX10_passDay_b21_1 (nI n) daily a2 a3) oz_fuel (0, river, kept, away) = some o ∧ o.2.1 = river ∧ (∀ h, h < 8 → o.2.2.1 h = if h < n then dz_K1 daily kept away a2 a3 h else kept h) ∧ ∀ h, h < 8 → o.2.2.2 h = dz_aw away n h := by
  refine oz_inv (fun i v => v.1 = nI i ∧ v.2.1 = river ∧ (∀ h, h < 8 → v.2.2.1 h = if h < i then dz_K1 daily kept away a2 a3 h else kept h) ∧ ∀ h, h < 8 → v.2.2.2 h = dz_aw away i h) _ n (by omega) ?_ ?_ ⟨rfl, rfl, fun h _ => (if_neg (by omega)).symm, fun h _ => (dz_aw_ge away (Nat.zero_le h)).symm⟩
  · intro i v hi hv
    obtain ⟨v1, v2, v3, v4⟩ := v
    obtain ⟨e1, e2, e3, e4⟩ := hv
    dsimp only at e1 e2 e3 e4
    subst e1 e2
    have e5 : v4 i = away i := (e4 i (by omega)).trans (dz_aw_ge away (Nat.le_refl i))
    have e6 : v3 i = kept i := (e3 i (by omega)).trans (if_neg (by omega))
    left
    refine ⟨(nI i + 1, v2, if away i ≤ 0 then upd v3 i (dz_K1 daily kept away a2 a3 i) else v3, if away i ≤ 0 then v4 else upd v4 i (v4 i - 1)), ?_, nI_1 i, rfl, ?_, ?_⟩
    · unfold fX10_passDay_b21_1
      dsimp only
      rw [if_neg (nI_ge hi (by omega)), if_neg (pz_ix (by omega) (by omega)), pz_ncl (by omega)]
      simp only [e5, e6]
      unfold dz_K1 dz_g
      rcases Decidable.em (nI i = a2) with q | q <;> rcases Decidable.em (away i ≤ 0) with z | z
      · rw [if_pos q, if_pos z, if_pos z, if_pos z, if_pos z, if_pos q]
      · rw [if_pos q, if_neg z, if_neg z, if_neg z]
      · rw [if_neg q, if_pos z, if_pos z, if_pos z, if_pos z, if_neg q]
      · rw [if_neg q, if_neg z, if_neg z, if_neg z]
    · intro h hh
      dsimp only
      rcases Decidable.em (h = i) with q | q
      · subst q
        rw [if_pos (show h < h + 1 by omega)]
        rcases Decidable.em (away h ≤ 0) with z | z
        · rw [if_pos z, pk_us]
        · rw [if_neg z, e6]; unfold dz_K1; rw [if_neg z]
      · have e7 : (if h < i + 1 then dz_K1 daily kept away a2 a3 h else kept h) = if h < i then dz_K1 daily kept away a2 a3 h else kept h := by
          rcases Nat.lt_or_ge h i with y | y
          · rw [if_pos (show h < i + 1 by omega), if_pos y]
          · rw [if_neg (show ¬ h < i + 1 by omega), if_neg (show ¬ h < i by omega)]
        rw [e7]
        rcases Decidable.em (away i ≤ 0) with z | z
        · rw [if_pos z, pk_un q]; exact e3 h hh
        · rw [if_neg z]; exact e3 h hh
    · intro h hh
      dsimp only
      rcases Decidable.em (h = i) with q | q
      · subst q
        rw [dz_aw_at]
        rcases Decidable.em (away h ≤ 0) with z | z
        · rw [if_pos z, if_pos z]; exact e5
        · rw [if_neg z, if_neg z, pk_us, e5]
      · rw [dz_aw_step away q]
        rcases Decidable.em (away i ≤ 0) with z | z
        · rw [if_pos z]; exact e4 h hh
        · rw [if_neg z, pk_un q]; exact e4 h hh
  · intro v hv
    obtain ⟨v1, v2, v3, v4⟩ := v
    obtain ⟨e1, e2, e3, e4⟩ := hv
    dsimp only at e1 e2 e3 e4
    subst e1
    refine ⟨(nI n, v2, v3, v4), ?_, e2, e3, e4⟩
    unfold fX10_passDay_b21_1
    dsimp only
    rw [if_pos (nI_le (Nat.le_refl n) (by omega))]
/-- what spills, house by house -/
def dz_sp (room k : Nat → Int32) (spilled : Int32) : Nat → Int32
  | 0 => spilled
  | i + 1 => if k i ≤ room i then dz_sp room k spilled i else dz_cap (dz_sp room k spilled i + k i - room i)
def dz_lo (room k : Nat → Int32) (h : Nat) : Int32 := if k h ≤ room h then k h else room h
theorem dz_spill {n : Nat} (hn : n ≤ 8) (room kept : Nat → Int32) (spilled : Int32) :
    ∃ o, fX10_spillOver spilled kept (nI n) room = some o ∧ o.1 = dz_sp room kept spilled n ∧ ∀ h, h < 8 → o.2 h = if h < n then dz_lo room kept h else kept h := by
  have H : ∃ o, oz_loop (fX10_spillOver_b2 (nI n) room) oz_fuel (0, spilled, kept) = some o ∧ (o.2.1 = dz_sp room kept spilled n ∧ ∀ h, h < 8 → o.2.2 h = if h < n then dz_lo room kept h else kept h) := by
    refine oz_inv (fun i v => v.1 = nI i ∧ v.2.1 = dz_sp room kept spilled i ∧ ∀ h, h < 8 → v.2.2 h = if h < i then dz_lo room kept h else kept h) _ n (by omega) ?_ ?_ ⟨rfl, rfl, fun h _ => (if_neg (by omega)).symm⟩
    · intro i v hi hv
      obtain ⟨v1, v2, v3⟩ := v
      obtain ⟨e1, e2, e3⟩ := hv
      dsimp only at e1 e2 e3
      subst e1 e2
      have e6 : v3 i = kept i := (e3 i (by omega)).trans (if_neg (by omega))
      left
      refine ⟨(nI i + 1, dz_sp room kept spilled (i + 1), if kept i ≤ room i then v3 else upd v3 i (room i)), ?_, nI_1 i, rfl, ?_⟩
      · unfold fX10_spillOver_b2
        dsimp only
        rw [if_neg (nI_ge hi (by omega)), if_neg (pz_ix (by omega) (by omega)), pz_ncl (by omega)]
        simp only [e6]
        rw [show dz_sp room kept spilled (i + 1) = if kept i ≤ room i then dz_sp room kept spilled i else dz_cap (dz_sp room kept spilled i + kept i - room i) from rfl]
        rcases Decidable.em (kept i ≤ room i) with z | z
        · rw [if_pos z, if_pos z, if_pos z]
        · rw [if_neg z, if_neg z, if_neg z]; rfl
      · intro h hh
        dsimp only
        rcases Decidable.em (h = i) with q | q
        · subst q
          rw [if_pos (show h < h + 1 by omega)]
          unfold dz_lo
          rcases Decidable.em (kept h ≤ room h) with z | z
          · rw [if_pos z, if_pos z]; exact e6
          · rw [if_neg z, if_neg z, pk_us]
        · have e7 : (if h < i + 1 then dz_lo room kept h else kept h) = if h < i then dz_lo room kept h else kept h := by
            rcases Nat.lt_or_ge h i with y | y
            · rw [if_pos (show h < i + 1 by omega), if_pos y]
            · rw [if_neg (show ¬ h < i + 1 by omega), if_neg (show ¬ h < i by omega)]
          rw [e7]
          rcases Decidable.em (kept i ≤ room i) with z | z
          · rw [if_pos z]; exact e3 h hh
          · rw [if_neg z, pk_un q]; exact e3 h hh
    · intro v hv
      obtain ⟨v1, v2, v3⟩ := v
      obtain ⟨e1, e2, e3⟩ := hv
      dsimp only at e1 e2 e3
      subst e1
      refine ⟨(nI n, v2, v3), ?_, e2, e3⟩
      unfold fX10_spillOver_b2
      dsimp only
      rw [if_pos (nI_le (Nat.le_refl n) (by omega))]
  obtain ⟨o, h1, h2, h3⟩ := H
  refine ⟨(o.2.1, o.2.2), ?_, h2, h3⟩
  unfold fX10_spillOver
  exact oz_b h1
/-! the reference's day -/
theorem pz_ss (a b : Int32) : a - (a - b) = b := by
  have h : b + (a - b) = a := by rw [Int32.add_comm]; exact Int32.sub_add_cancel a b
  have h2 := Int32.add_sub_cancel b (a - b)
  rw [h] at h2
  exact h2
theorem pz_as (a b c : Int32) : a + (b - c) = a + b - c := by
  rw [Int32.sub_eq_add_neg, Int32.sub_eq_add_neg, Int32.add_assoc]
theorem pz_a3 (i : Nat) : (3 : Int32) + nI i = nI (3 + i) := nI_add 3 i
theorem pz_a8 (i : Nat) : (8 : Int32) + nI i = nI (8 + i) := nI_add 8 i
theorem pz_a11 (i : Nat) : (11 : Int32) + nI i = nI (11 + i) := nI_add 11 i
theorem pz_a19 (i : Nat) : (19 : Int32) + nI i = nI (19 + i) := nI_add 19 i
theorem pz_c0 : Int32.toNatClampNeg 0 = 0 := by decide
theorem pz_c1 : Int32.toNatClampNeg 1 = 1 := by decide
theorem pz_c2 : Int32.toNatClampNeg 2 = 2 := by decide
theorem pz_c16 : Int32.toNatClampNeg 16 = 16 := by decide
theorem pz_c17 : Int32.toNatClampNeg 17 = 17 := by decide
theorem pz_c18 : Int32.toNatClampNeg 18 = 18 := by decide
/-- spilling at one house of the reference: the state t, its house h -/
theorem dz_spillsAt {town t : Nat → Int32} {h : Nat} (hh : h < 8) (hb : -2147483648 ≤ (t h).toInt - (town (3 + h)).toInt) (hb2 : (t h).toInt - (town (3 + h)).toInt < 2147483648) :
    ∃ t', fX12_spillsAt town t (nI h) = some t' ∧ (∀ k, k ≠ h → k ≠ 17 → t' k = t k) ∧ t' h = (if t h ≤ town (3 + h) then t h else town (3 + h)) ∧ t' 17 = (if t h ≤ town (3 + h) then t 17 else dz_cap (t 17 + (t h - town (3 + h)))) := by
  have ec : (t h - town (3 + h) ≤ 0) ↔ t h ≤ town (3 + h) := by
    rw [pz_le, pz_le, pz_sub hb hb2]
    have : (0 : Int32).toInt = 0 := by decide
    omega
  unfold fX12_spillsAt
  have c0 : Int32.toNatClampNeg (nI h) = h := pz_ncl (by omega)
  have c3 : Int32.toNatClampNeg (nI (3 + h)) = 3 + h := pz_ncl (by omega)
  simp only [pz_0a, pz_a3, pz_c17]
  rw [if_neg (pz_ix (by omega) (by omega)), if_neg (pz_ix (by omega) (by omega))]
  simp only [c0, c3]
  rcases Decidable.em (t h ≤ town (3 + h)) with z | z
  · rw [if_pos (ec.mpr z)]
    exact ⟨t, rfl, fun _ _ _ => rfl, (if_pos z).symm, (if_pos z).symm⟩
  · rw [if_neg (fun q => z (ec.mp q)), pk_un (show 17 ≠ h by omega), dz_lesser]
    refine ⟨_, rfl, ?_, ?_, ?_⟩
    · intro k h1 h2
      rw [pk_un h2, pk_un h1]
    · rw [pk_un (show h ≠ 17 by omega), pk_us, if_neg z]
      exact pz_ss (t h) (town (3 + h))
    · rw [pk_us, if_neg z]
/-- the reference's houses on a day that is no Lent -/
theorem dz_M0 {n : Nat} (hn : n ≤ 8) {town t : Nat → Int32} (h2 : town 2 = nI n) (hl : town 0 ≤ t 16) (daily kept away : Nat → Int32) (hd : ∀ h, h < n → town (11 + h) = daily h)
    (ht : ∀ h, h < 8 → t h = kept h) (hw : ∀ h, h < 8 → t (8 + h) = away h) (a2 a3 : Int32) :
    ∃ o, oz_loop (fX12_dayGoes_b3 town a2 a3) oz_fuel (0, t) = some o ∧ (∀ h, h < 8 → o.2 h = kept h) ∧ (∀ h, h < 8 → o.2 (8 + h) = dz_aw away n h) ∧ o.2 16 = t 16 ∧ o.2 17 = t 17 ∧ o.2 18 = dz_rv daily away a2 a3 (t 18) n := by
  refine oz_inv (fun i v => v.1 = nI i ∧ (∀ h, h < 8 → v.2 h = kept h) ∧ (∀ h, h < 8 → v.2 (8 + h) = dz_aw away i h) ∧ v.2 16 = t 16 ∧ v.2 17 = t 17 ∧ v.2 18 = dz_rv daily away a2 a3 (t 18) i) _ n (by omega) ?_ ?_ ⟨rfl, ht, fun h hh => (hw h hh).trans (dz_aw_ge away (Nat.zero_le h)).symm, rfl, rfl, rfl⟩
  · intro i v hi hv
    obtain ⟨v1, v2⟩ := v
    obtain ⟨e1, e2, e3, e4, e5, e6⟩ := hv
    dsimp only at e1 e2 e3 e4 e5 e6
    subst e1
    have e7 : v2 (8 + i) = away i := (e3 i (by omega)).trans (dz_aw_ge away (Nat.le_refl i))
    left
    refine ⟨(nI i + 1, if away i ≤ 0 then upd v2 18 (dz_rv daily away a2 a3 (t 18) (i + 1)) else upd v2 (8 + i) (v2 (8 + i) - 1)), ?_, nI_1 i, ?_, ?_, ?_, ?_, ?_⟩
    · unfold fX12_dayGoes_b3
      dsimp only
      have c11 : Int32.toNatClampNeg (nI (11 + i)) = 11 + i := pz_ncl (by omega)
      have c8 : Int32.toNatClampNeg (nI (8 + i)) = 8 + i := pz_ncl (by omega)
      simp only [pz_c2, h2, pz_a11, pz_a8, pz_c18]
      simp only [if_neg (nI_ge hi (show n < 2 ^ 31 by omega)), if_neg (pz_ix (show 11 + i < 27 by omega) (by omega)), if_neg (pz_ix (show 8 + i < 19 by omega) (by omega))]
      simp only [c11, c8, hd i hi, e7]
      have eL : fX12_isLent town v2 = some 0 := by
        unfold fX12_isLent
        rw [pz_c0, pz_c16, e4, if_pos hl]
      rw [show dz_rv daily away a2 a3 (t 18) (i + 1) = if away i ≤ 0 then dz_cap (dz_rv daily away a2 a3 (t 18) i + dz_g daily a2 a3 i) else dz_rv daily away a2 a3 (t 18) i from rfl]
      unfold dz_g
      rcases Decidable.em (nI i = a2) with q | q <;> rcases Decidable.em (away i ≤ 0) with z | z
      · rw [if_pos q, if_pos z, if_pos z, if_pos z, if_pos q, oz_b eL, if_pos rfl, e6, dz_lesser]; rfl
      · rw [if_pos q, if_neg z, if_neg z]
      · rw [if_neg q, if_pos z, if_pos z, if_pos z, if_neg q, oz_b eL, if_pos rfl, e6, dz_lesser]; rfl
      · rw [if_neg q, if_neg z, if_neg z]
    · intro h hh
      dsimp only
      rcases Decidable.em (away i ≤ 0) with z | z
      · rw [if_pos z, pk_un (show h ≠ 18 by omega)]; exact e2 h hh
      · rw [if_neg z, pk_un (show h ≠ 8 + i by omega)]; exact e2 h hh
    · intro h hh
      dsimp only
      rcases Decidable.em (h = i) with q | q
      · subst q
        rw [dz_aw_at]
        rcases Decidable.em (away h ≤ 0) with z | z
        · rw [if_pos z, if_pos z, pk_un (show 8 + h ≠ 18 by omega)]; exact e7
        · rw [if_neg z, if_neg z, pk_us, e7]
      · rw [dz_aw_step away q]
        rcases Decidable.em (away i ≤ 0) with z | z
        · rw [if_pos z, pk_un (show 8 + h ≠ 18 by omega)]; exact e3 h hh
        · rw [if_neg z, pk_un (show 8 + h ≠ 8 + i by omega)]; exact e3 h hh
    · dsimp only
      rcases Decidable.em (away i ≤ 0) with z | z
      · rw [if_pos z, pk_un (show 16 ≠ 18 by omega)]; exact e4
      · rw [if_neg z, pk_un (show 16 ≠ 8 + i by omega)]; exact e4
    · dsimp only
      rcases Decidable.em (away i ≤ 0) with z | z
      · rw [if_pos z, pk_un (show 17 ≠ 18 by omega)]; exact e5
      · rw [if_neg z, pk_un (show 17 ≠ 8 + i by omega)]; exact e5
    · dsimp only
      rcases Decidable.em (away i ≤ 0) with z | z
      · rw [if_pos z, pk_us]
      · rw [if_neg z, pk_un (show 18 ≠ 8 + i by omega), e6]
        show _ = if away i ≤ 0 then _ else _
        rw [if_neg z]
  · intro v hv
    obtain ⟨v1, v2⟩ := v
    obtain ⟨e1, e2, e3, e4, e5, e6⟩ := hv
    dsimp only at e1 e2 e3 e4 e5 e6
    subst e1
    refine ⟨(nI n, v2), ?_, e2, e3, e4, e5, e6⟩
    unfold fX12_dayGoes_b3
    dsimp only
    rw [pz_c2, h2, if_pos (nI_le (Nat.le_refl n) (by omega))]
/-- the reference's houses on a day of Lent -/
theorem dz_M1 {n : Nat} (hn : n ≤ 8) {town t : Nat → Int32} (h2 : town 2 = nI n) (hl : ¬ town 0 ≤ t 16) (room daily kept away : Nat → Int32) (hr : ∀ h, h < n → town (3 + h) = room h) (hd : ∀ h, h < n → town (11 + h) = daily h)
    (ht : ∀ h, h < 8 → t h = kept h) (hw : ∀ h, h < 8 → t (8 + h) = away h) (a2 a3 : Int32)
    (hk : ∀ h, h < n → kept h ≤ room h) (hb : ∀ h, h < n → -2147483648 ≤ (dz_K1 daily kept away a2 a3 h).toInt - (room h).toInt ∧ (dz_K1 daily kept away a2 a3 h).toInt - (room h).toInt < 2147483648) :
    ∃ o, oz_loop (fX12_dayGoes_b3 town a2 a3) oz_fuel (0, t) = some o ∧ (∀ h, h < 8 → o.2 h = if h < n then dz_lo room (dz_K1 daily kept away a2 a3) h else kept h) ∧ (∀ h, h < 8 → o.2 (8 + h) = dz_aw away n h) ∧ o.2 16 = t 16 ∧ o.2 17 = dz_sp room (dz_K1 daily kept away a2 a3) (t 17) n ∧ o.2 18 = t 18 := by
  refine oz_inv (fun i v => v.1 = nI i ∧ (∀ h, h < 8 → v.2 h = if h < i then dz_lo room (dz_K1 daily kept away a2 a3) h else kept h) ∧ (∀ h, h < 8 → v.2 (8 + h) = dz_aw away i h) ∧ v.2 16 = t 16 ∧ v.2 17 = dz_sp room (dz_K1 daily kept away a2 a3) (t 17) i ∧ v.2 18 = t 18) _ n (by omega) ?_ ?_ ⟨rfl, fun h hh => (ht h hh).trans (if_neg (by omega)).symm, fun h hh => (hw h hh).trans (dz_aw_ge away (Nat.zero_le h)).symm, rfl, rfl, rfl⟩
  · intro i v hi hv
    obtain ⟨v1, v2⟩ := v
    obtain ⟨e1, e2, e3, e4, e5, e6⟩ := hv
    dsimp only at e1 e2 e3 e4 e5 e6
    subst e1
    have e7 : v2 (8 + i) = away i := (e3 i (by omega)).trans (dz_aw_ge away (Nat.le_refl i))
    have e8 : v2 i = kept i := (e2 i (by omega)).trans (if_neg (by omega))
    have eK : ∀ h, h ≠ i → (if h < i + 1 then dz_lo room (dz_K1 daily kept away a2 a3) h else kept h) = if h < i then dz_lo room (dz_K1 daily kept away a2 a3) h else kept h := by
      intro h q
      rcases Nat.lt_or_ge h i with y | y
      · rw [if_pos (show h < i + 1 by omega), if_pos y]
      · rw [if_neg (show ¬ h < i + 1 by omega), if_neg (show ¬ h < i by omega)]
    have eS : dz_sp room (dz_K1 daily kept away a2 a3) (t 17) (i + 1) = if dz_K1 daily kept away a2 a3 i ≤ room i then dz_sp room (dz_K1 daily kept away a2 a3) (t 17) i else dz_cap (dz_sp room (dz_K1 daily kept away a2 a3) (t 17) i + dz_K1 daily kept away a2 a3 i - room i) := rfl
    have eL : fX12_isLent town v2 = some 1 := by
      unfold fX12_isLent
      rw [pz_c0, pz_c16, e4, if_neg hl]
    left
    rcases Decidable.em (away i ≤ 0) with z | z
    · -- the house lets go
      have eq1 : dz_K1 daily kept away a2 a3 i = kept i + dz_g daily a2 a3 i := if_pos z
      obtain ⟨t', f1, f2, f3, f4⟩ := dz_spillsAt (town := town) (t := upd v2 i (v2 i + dz_g daily a2 a3 i)) (h := i) (by omega) (by rw [pk_us, e8, hr i hi, ← eq1]; exact (hb i hi).1) (by rw [pk_us, e8, hr i hi, ← eq1]; exact (hb i hi).2)
      rw [pk_us, e8, hr i hi, ← eq1] at f3 f4
      rw [pk_un (show 17 ≠ i by omega)] at f4
      refine ⟨(nI i + 1, t'), ?_, nI_1 i, ?_, ?_, ?_, ?_, ?_⟩
      · unfold fX12_dayGoes_b3
        dsimp only
        have c11 : Int32.toNatClampNeg (nI (11 + i)) = 11 + i := pz_ncl (by omega)
        have c8 : Int32.toNatClampNeg (nI (8 + i)) = 8 + i := pz_ncl (by omega)
        have c0 : Int32.toNatClampNeg (nI i) = i := pz_ncl (by omega)
        simp only [pz_c2, h2, pz_a11, pz_a8, pz_0a]
        simp only [if_neg (nI_ge hi (show n < 2 ^ 31 by omega)), if_neg (pz_ix (show 11 + i < 27 by omega) (by omega)), if_neg (pz_ix (show 8 + i < 19 by omega) (by omega)), if_neg (pz_ix (show i < 19 by omega) (by omega))]
        simp only [c11, c8, c0, hd i hi, e7]
        have f5 := f1
        unfold dz_g at f5
        rcases Decidable.em (nI i = a2) with q | q
        · rw [if_pos q] at f5
          rw [if_pos q, if_pos z, oz_b eL, if_neg (show ¬ (1 : Int32) = 0 by decide), f5]; rfl
        · rw [if_neg q] at f5
          rw [if_neg q, if_pos z, oz_b eL, if_neg (show ¬ (1 : Int32) = 0 by decide), f5]; rfl
      · intro h hh
        dsimp only
        rcases Decidable.em (h = i) with q | q
        · subst q
          rw [f3, if_pos (show h < h + 1 by omega)]; rfl
        · rw [f2 h q (by omega), pk_un q, eK h q]; exact e2 h hh
      · intro h hh
        dsimp only
        rw [f2 (8 + h) (by omega) (by omega), pk_un (show 8 + h ≠ i by omega)]
        rcases Decidable.em (h = i) with q | q
        · subst q
          rw [dz_aw_at, if_pos z]; exact e7
        · rw [dz_aw_step away q]; exact e3 h hh
      · dsimp only
        rw [f2 16 (by omega) (by omega), pk_un (show 16 ≠ i by omega)]; exact e4
      · dsimp only
        rw [f4, eS, e5, pz_as]
      · dsimp only
        rw [f2 18 (by omega) (by omega), pk_un (show 18 ≠ i by omega)]; exact e6
    · -- it is away
      have eq1 : dz_K1 daily kept away a2 a3 i = kept i := if_neg z
      refine ⟨(nI i + 1, upd v2 (8 + i) (v2 (8 + i) - 1)), ?_, nI_1 i, ?_, ?_, ?_, ?_, ?_⟩
      · unfold fX12_dayGoes_b3
        dsimp only
        have c8 : Int32.toNatClampNeg (nI (8 + i)) = 8 + i := pz_ncl (by omega)
        simp only [pz_c2, h2, pz_a11, pz_a8]
        simp only [if_neg (nI_ge hi (show n < 2 ^ 31 by omega)), if_neg (pz_ix (show 11 + i < 27 by omega) (by omega)), if_neg (pz_ix (show 8 + i < 19 by omega) (by omega))]
        simp only [c8, e7]
        rcases Decidable.em (nI i = a2) with q | q
        · rw [if_pos q, if_neg z]
        · rw [if_neg q, if_neg z]
      · intro h hh
        dsimp only
        rw [pk_un (show h ≠ 8 + i by omega)]
        rcases Decidable.em (h = i) with q | q
        · subst q
          rw [if_pos (show h < h + 1 by omega), e8]
          unfold dz_lo
          rw [eq1, if_pos (hk h hi)]
        · rw [eK h q]; exact e2 h hh
      · intro h hh
        dsimp only
        rcases Decidable.em (h = i) with q | q
        · subst q
          rw [pk_us, dz_aw_at, if_neg z, e7]
        · rw [pk_un (show 8 + h ≠ 8 + i by omega), dz_aw_step away q]; exact e3 h hh
      · dsimp only
        rw [pk_un (show 16 ≠ 8 + i by omega)]; exact e4
      · dsimp only
        rw [pk_un (show 17 ≠ 8 + i by omega), eS, eq1, if_pos (hk i hi)]; exact e5
      · dsimp only
        rw [pk_un (show 18 ≠ 8 + i by omega)]; exact e6
  · intro v hv
    obtain ⟨v1, v2⟩ := v
    obtain ⟨e1, e2, e3, e4, e5, e6⟩ := hv
    dsimp only at e1 e2 e3 e4 e5 e6
    subst e1
    refine ⟨(nI n, v2), ?_, e2, e3, e4, e5, e6⟩
    unfold fX12_dayGoes_b3
    dsimp only
    rw [pz_c2, h2, if_pos (nI_le (Nat.le_refl n) (by omega))]
