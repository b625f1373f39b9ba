/-! A DAY, BOTH SIDES -/
def pr_S (kept away : Nat → Int32) (days spilled river : Int32) (t : Nat → Int32) : Prop := (∀ h, h < 8 → t h = kept h) ∧ (∀ h, h < 8 → t (8 + h) = away h) ∧ t 16 = days ∧ t 17 = spilled ∧ t 18 = river
def pr_B (n : Nat) (room : Nat → Int32) (D : Int) (kept away : Nat → Int32) (days spilled river : Int32) : Prop := (∀ h, h < n → 0 ≤ (kept h).toInt ∧ (kept h).toInt ≤ (room h).toInt) ∧ (∀ h, n ≤ h → h < 8 → kept h = 0 ∧ away h = 0) ∧ (∀ h, h < 8 → 0 ≤ (away h).toInt ∧ (away h).toInt ≤ 60) ∧ (0 ≤ days.toInt ∧ days.toInt ≤ D) ∧ (0 ≤ spilled.toInt ∧ spilled.toInt ≤ 9999999) ∧ (0 ≤ river.toInt ∧ river.toInt ≤ 9999999)
def pr_R (n : Nat) (room daily : Nat → Int32) : Prop := ∀ h, h < n → (0 ≤ (room h).toInt ∧ (room h).toInt ≤ 999) ∧ (0 ≤ (daily h).toInt ∧ (daily h).toInt ≤ 99)
theorem pz_i0 : (0 : Int32).toInt = 0 := by decide
theorem pz_i1 : (1 : Int32).toInt = 1 := by decide
theorem pz_iM : (9999999 : Int32).toInt = 9999999 := by decide
theorem dz_cap_b {x : Int32} (h : 0 ≤ x.toInt) : 0 ≤ (dz_cap x).toInt ∧ (dz_cap x).toInt ≤ 9999999 := by
  unfold dz_cap
  rcases Decidable.em (x < 9999999) with q | q
  · rw [if_pos q]; rw [pz_lt, pz_iM] at q; omega
  · rw [if_neg q, pz_iM]; omega
theorem dz_g_b {n : Nat} {room daily : Nat → Int32} (hR : pr_R n room daily) {a2 a3 : Int32} (h3 : 0 ≤ a3.toInt ∧ a3.toInt ≤ 9) {h : Nat} (hh : h < n) : 0 ≤ (dz_g daily a2 a3 h).toInt ∧ (dz_g daily a2 a3 h).toInt ≤ 108 := by
  have := (hR h hh).2
  unfold dz_g
  rcases Decidable.em (nI h = a2) with q | q
  · rw [if_pos q, pz_add (by omega) (by omega)]; omega
  · rw [if_neg q, pz_a0]; omega
theorem dz_rv_b {n : Nat} {room daily : Nat → Int32} (hR : pr_R n room daily) {a2 a3 : Int32} (h3 : 0 ≤ a3.toInt ∧ a3.toInt ≤ 9) (away : Nat → Int32) {river : Int32} (hr : 0 ≤ river.toInt ∧ river.toInt ≤ 9999999) :
    ∀ i, i ≤ n → 0 ≤ (dz_rv daily away a2 a3 river i).toInt ∧ (dz_rv daily away a2 a3 river i).toInt ≤ 9999999 := by
  intro i
  induction i with
  | zero => intro _; exact hr
  | succ i ih =>
    intro hi
    have h1 := ih (by omega)
    have h2 := dz_g_b (a2 := a2) hR h3 (show i < n by omega)
    show 0 ≤ (if away i ≤ 0 then dz_cap (dz_rv daily away a2 a3 river i + dz_g daily a2 a3 i) else dz_rv daily away a2 a3 river i).toInt ∧ (if away i ≤ 0 then dz_cap (dz_rv daily away a2 a3 river i + dz_g daily a2 a3 i) else dz_rv daily away a2 a3 river i).toInt ≤ 9999999
    rcases Decidable.em (away i ≤ 0) with q | q
    · rw [if_pos q]; exact dz_cap_b (by rw [pz_add (by omega) (by omega)]; omega)
    · rw [if_neg q]; exact h1
theorem dz_sp_id {room k : Nat → Int32} {s : Int32} : ∀ n, (∀ h, h < n → k h ≤ room h) → dz_sp room k s n = s := by
  intro n
  induction n with
  | zero => intro _; rfl
  | succ n ih =>
    intro h
    show (if k n ≤ room n then dz_sp room k s n else _) = s
    rw [if_pos (h n (by omega))]
    exact ih (fun j hj => h j (by omega))
theorem dz_sp_b {room k : Nat → Int32} {s : Int32} (hs : 0 ≤ s.toInt ∧ s.toInt ≤ 9999999) : ∀ n, (∀ h, h < n → 0 ≤ (room h).toInt ∧ (room h).toInt ≤ 999 ∧ 0 ≤ (k h).toInt ∧ (k h).toInt ≤ 99999) → 0 ≤ (dz_sp room k s n).toInt ∧ (dz_sp room k s n).toInt ≤ 9999999 := by
  intro n
  induction n with
  | zero => intro _; exact hs
  | succ n ih =>
    intro h
    have h1 := ih (fun j hj => h j (by omega))
    have h2 := h n (by omega)
    show 0 ≤ (if k n ≤ room n then dz_sp room k s n else dz_cap (dz_sp room k s n + k n - room n)).toInt ∧ (if k n ≤ room n then dz_sp room k s n else dz_cap (dz_sp room k s n + k n - room n)).toInt ≤ 9999999
    rcases Decidable.em (k n ≤ room n) with q | q
    · rw [if_pos q]; exact h1
    · rw [if_neg q]
      rw [pz_le] at q
      have e : (dz_sp room k s n + k n).toInt = (dz_sp room k s n).toInt + (k n).toInt := pz_add (by omega) (by omega)
      exact dz_cap_b (by rw [pz_sub (by omega) (by omega)]; omega)
theorem dz_aw_b {away : Nat → Int32} (ha : ∀ h, h < 8 → 0 ≤ (away h).toInt ∧ (away h).toInt ≤ 60) (n : Nat) : ∀ h, h < 8 → 0 ≤ (dz_aw away n h).toInt ∧ (dz_aw away n h).toInt ≤ 60 := by
  intro h hh
  have h1 := ha h hh
  unfold dz_aw
  rcases Nat.lt_or_ge h n with q | q
  · rw [if_pos q]
    rcases Decidable.em (away h ≤ 0) with z | z
    · rw [if_pos z]; exact h1
    · rw [if_neg z]
      rw [pz_le, pz_i0] at z
      rw [pz_sub (by rw [pz_i1]; omega) (by rw [pz_i1]; omega), pz_i1]
      omega
  · rw [if_neg (by omega)]; exact h1
theorem dz_day {n : Nat} (hn : n ≤ 8) {lent : Int32} {room daily town : Nat → Int32} (h0 : town 0 = lent) (h2 : town 2 = nI n) (hr : ∀ h, h < n → town (3 + h) = room h) (hd : ∀ h, h < n → town (11 + h) = daily h) (hR : pr_R n room daily)
    {D : Int} (hD : D < 20000) {kept away t : Nat → Int32} {days spilled river : Int32} (hS : pr_S kept away days spilled river t) (hB : pr_B n room D kept away days spilled river) (a2 a3 : Int32) (h3 : 0 ≤ a3.toInt ∧ a3.toInt ≤ 9) :
    ∃ o t', fX10_passDay days spilled river kept away lent (nI n) room daily a2 a3 = some o ∧ fX12_dayGoes town t a2 a3 = some t' ∧ pr_S o.2.2.2.1 o.2.2.2.2 o.1 o.2.1 o.2.2.1 t' ∧ pr_B n room (D + 1) o.2.2.2.1 o.2.2.2.2 o.1 o.2.1 o.2.2.1 := by
  obtain ⟨s1, s2, s3, s4, s5⟩ := hS
  obtain ⟨b1, b2, b3, b4, b5, b6⟩ := hB
  have hk : ∀ h, h < n → kept h ≤ room h := fun h hh => pz_le.mpr (b1 h hh).2
  have hd1 : (days + 1).toInt = days.toInt + 1 := by rw [pz_add (by rw [pz_i1]; omega) (by rw [pz_i1]; omega), pz_i1]
  rcases Decidable.em (lent ≤ days) with hl | hl
  · obtain ⟨o, o1, o2, o3, o4⟩ := dz_X0 hn daily kept away a2 a3 river
    obtain ⟨y, y1, y2, y3⟩ := dz_spill hn room kept spilled
    obtain ⟨q, q1, q2, q3, q4, q5, q6⟩ := dz_M0 hn h2 (by rw [h0, s3]; exact hl) daily kept away hd s1 s2 a2 a3
    rw [dz_sp_id n hk] at y2
    have y4 : ∀ h, h < 8 → y.2 h = kept h := by
      intro h hh
      rw [y3 h hh]
      rcases Nat.lt_or_ge h n with z | z
      · rw [if_pos z]; exact if_pos (hk h z)
      · rw [if_neg (by omega)]
    refine ⟨(days + 1, y.1, o.2.1, y.2, o.2.2.2), upd q.2 16 (q.2 16 + 1), ?_, ?_, ?_, ?_⟩
    · unfold fX10_passDay
      rw [if_pos hl, oz_b o1, o3, oz_b y1]
    · unfold fX12_dayGoes
      rw [pz_c16]
      exact oz_b q1
    · refine ⟨?_, ?_, ?_, ?_, ?_⟩
      · intro h hh
        rw [pk_un (show h ≠ 16 by omega), q2 h hh]; exact (y4 h hh).symm
      · intro h hh
        rw [pk_un (show 8 + h ≠ 16 by omega), q3 h hh]; exact (o4 h hh).symm
      · rw [pk_us, q4, s3]
      · rw [pk_un (show 17 ≠ 16 by omega), q5, s4]; exact y2.symm
      · rw [pk_un (show 18 ≠ 16 by omega), q6, s5]; exact o2.symm
    · refine ⟨?_, ?_, ?_, ?_, ?_, ?_⟩
      · intro h hh
        dsimp only
        rw [y4 h (by omega)]; exact b1 h hh
      · intro h h1 h2
        dsimp only
        rw [y4 h h2, o4 h h2, dz_aw_ge away h1]; exact b2 h h1 h2
      · intro h hh
        dsimp only
        rw [o4 h hh]; exact dz_aw_b b3 n h hh
      · dsimp only
        rw [hd1]; omega
      · dsimp only
        rw [y2]; exact b5
      · dsimp only
        rw [o2]; exact dz_rv_b hR h3 away b6 n (Nat.le_refl n)
  · obtain ⟨o, o1, o2, o3, o4⟩ := dz_X1 hn daily kept away a2 a3 river
    obtain ⟨y, y1, y2, y3⟩ := dz_spill hn room o.2.2.1 spilled
    have kb : ∀ h, h < n → 0 ≤ (dz_K1 daily kept away a2 a3 h).toInt ∧ (dz_K1 daily kept away a2 a3 h).toInt ≤ 1107 := by
      intro h hh
      have r1 := (hR h hh).1
      have r2 := dz_g_b (a2 := a2) hR h3 hh
      have r3 := b1 h hh
      unfold dz_K1
      rcases Decidable.em (away h ≤ 0) with z | z
      · rw [if_pos z, pz_add (by omega) (by omega)]; omega
      · rw [if_neg z]; omega
    obtain ⟨q, q1, q2, q3, q4, q5, q6⟩ := dz_M1 hn h2 (by rw [h0, s3]; exact hl) room daily kept away hr hd s1 s2 a2 a3 hk (fun h hh => by have r1 := (hR h hh).1; have r2 := kb h hh; omega)
    have o5 : ∀ h, h < n → o.2.2.1 h = dz_K1 daily kept away a2 a3 h := fun h hh => (o3 h (by omega)).trans (if_pos hh)
    have sc : ∀ m, m ≤ n → dz_sp room o.2.2.1 spilled m = dz_sp room (dz_K1 daily kept away a2 a3) spilled m := by
      intro m
      induction m with
      | zero => intro _; rfl
      | succ m ih =>
        intro hm
        show (if o.2.2.1 m ≤ room m then dz_sp room o.2.2.1 spilled m else dz_cap (dz_sp room o.2.2.1 spilled m + o.2.2.1 m - room m)) = (if dz_K1 daily kept away a2 a3 m ≤ room m then dz_sp room (dz_K1 daily kept away a2 a3) spilled m else dz_cap (dz_sp room (dz_K1 daily kept away a2 a3) spilled m + dz_K1 daily kept away a2 a3 m - room m))
        rw [o5 m (by omega), ih (by omega)]
    have y4 : ∀ h, h < 8 → y.2 h = if h < n then dz_lo room (dz_K1 daily kept away a2 a3) h else kept h := by
      intro h hh
      rw [y3 h hh]
      rcases Nat.lt_or_ge h n with z | z
      · rw [if_pos z, if_pos z]; unfold dz_lo; rw [o5 h z]
      · rw [if_neg (by omega), if_neg (by omega), o3 h hh, if_neg (by omega)]
    have lb : ∀ h, h < n → 0 ≤ (dz_lo room (dz_K1 daily kept away a2 a3) h).toInt ∧ (dz_lo room (dz_K1 daily kept away a2 a3) h).toInt ≤ (room h).toInt := by
      intro h hh
      have r1 := (hR h hh).1
      have r2 := kb h hh
      unfold dz_lo
      rcases Decidable.em (dz_K1 daily kept away a2 a3 h ≤ room h) with z | z
      · rw [if_pos z]; rw [pz_le] at z; omega
      · rw [if_neg z]; omega
    refine ⟨(days + 1, y.1, o.2.1, y.2, o.2.2.2), upd q.2 16 (q.2 16 + 1), ?_, ?_, ?_, ?_⟩
    · unfold fX10_passDay
      rw [if_neg hl, oz_b o1, oz_b y1]
    · unfold fX12_dayGoes
      rw [pz_c16]
      exact oz_b q1
    · refine ⟨?_, ?_, ?_, ?_, ?_⟩
      · intro h hh
        rw [pk_un (show h ≠ 16 by omega), q2 h hh]; exact (y4 h hh).symm
      · intro h hh
        rw [pk_un (show 8 + h ≠ 16 by omega), q3 h hh]; exact (o4 h hh).symm
      · rw [pk_us, q4, s3]
      · rw [pk_un (show 17 ≠ 16 by omega), q5, s4]; exact (sc n (Nat.le_refl n)).symm.trans y2.symm
      · rw [pk_un (show 18 ≠ 16 by omega), q6, s5]; exact o2.symm
    · refine ⟨?_, ?_, ?_, ?_, ?_, ?_⟩
      · intro h hh
        dsimp only
        rw [y4 h (by omega), if_pos hh]; exact lb h hh
      · intro h h1 h2
        dsimp only
        rw [y4 h h2, if_neg (by omega), o4 h h2, dz_aw_ge away h1]; exact b2 h h1 h2
      · intro h hh
        dsimp only
        rw [o4 h hh]; exact dz_aw_b b3 n h hh
      · dsimp only
        rw [hd1]; omega
      · dsimp only
        rw [y2, sc n (Nat.le_refl n)]
        exact dz_sp_b b5 n (fun h hh => by have r1 := (hR h hh).1; have r2 := kb h hh; omega)
      · dsimp only
        rw [o2]; exact b6
