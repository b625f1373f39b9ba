/-! THE BEST ORDER: by number the first, and nothing stands by it -/
def pb_F (n : Nat) : Nat := if n = 1 then 1 else if n = 2 then 12 else if n = 3 then 123 else if n = 4 then 1234 else if n = 5 then 12345 else if n = 6 then 123456 else 0
def pb_c (n : Nat) : Nat := if n = 1 then 0 else if n = 2 then 1 else if n = 3 then 5 else if n = 4 then 27 else if n = 5 then 194 else if n = 6 then 1865 else 0
def pb_o (n c : Nat) : Nat → Nat
  | 0 => 0
  | k + 1 => pb_o n c k + 10 ^ k * (c / n ^ k % n + 1)
theorem pb_o_s (n c k : Nat) : pb_o n c (k + 1) = pb_o n c k + 10 ^ k * (c / n ^ k % n + 1) := rfl
def pb_ok (n a : Nat) : Bool := a / 10 ^ n == 0 && bt_pc (po_m n a n) == n
theorem pb_first : ∀ n, n < 9 → fX7_firstOrder (nI n) = some (nI (pb_F n)) := by decide +kernel
theorem pb_codes : ∀ n, n < 7 → oz_loop (fX12_best_b46 (nI n)) oz_fuel (0, 1) = some (nI n, nI (n ^ n)) := by decide +kernel
theorem pb_codes0 : ∀ n, n < 9 → oz_loop (fX12_best_b46 (nI n)) oz_fuel (0, 0) = some (nI n, 0) := by decide +kernel
theorem pb_none : ∀ n, n < 7 → ∀ c, c < pb_c n → pb_ok n (pb_o n c n) = false := by decide +kernel
theorem pb_at : ∀ n, n < 7 → 1 ≤ n → pb_o n (pb_c n) n = pb_F n ∧ pb_ok n (pb_F n) = true ∧ pb_c n < n ^ n ∧ 1 ≤ pb_F n ∧ pb_F n < 2147483648 ∧ n ^ n < 90000 ∧ ∀ k, k < n → po_f (pb_F n) k = n - k := by decide +kernel
theorem pb_not {n a : Nat} (h : pb_ok n a = false) : ¬ po_ok n a := by
  intro h2
  unfold pb_ok at h
  rw [h2.1, h2.2] at h
  simp at h
theorem pb_is {n a : Nat} (h : pb_ok n a = true) : po_ok n a := by
  unfold pb_ok at h
  rw [Bool.and_eq_true] at h
  exact ⟨eq_of_beq h.1, eq_of_beq h.2⟩
theorem pb_o_lt {n : Nat} (h1 : 1 ≤ n) (hn : n ≤ 6) (c : Nat) : ∀ k, pb_o n c k < 10 ^ k := by
  intro k
  induction k with
  | zero => exact (by decide : 0 < 10 ^ 0)
  | succ k ih =>
    rw [pb_o_s, Nat.pow_succ]
    have h : c / n ^ k % n < n := Nat.mod_lt _ h1
    have h2 : 10 ^ k * (c / n ^ k % n + 1) ≤ 10 ^ k * 6 := Nat.mul_le_mul_left _ (by omega)
    omega
theorem pb_o_1 {n : Nat} (c : Nat) : ∀ k, 1 ≤ k → 1 ≤ pb_o n c k := by
  intro k
  induction k with
  | zero => intro h; omega
  | succ k ih =>
    intro _
    rw [pb_o_s]
    have h : 1 * 1 ≤ 10 ^ k * (c / n ^ k % n + 1) := Nat.mul_le_mul (Nat.pow_pos (by decide)) (by omega)
    omega
theorem pb_code {n : Nat} (h1 : 1 ≤ n) (hn : n ≤ 6) {c : Nat} (hc : c < 2147483648) : oz_loop (fX12_best_b87 (nI n)) oz_fuel (0, 1, nI c, 0) = some (nI n, nI (10 ^ n), nI (c / n ^ n), nI (pb_o n c n)) := by
  rw [show ((0, 1, nI c, 0) : Int32 × Int32 × Int32 × Int32) = (nI 0, nI (10 ^ 0), nI (c / n ^ 0), nI (pb_o n c 0)) by rw [Nat.pow_zero n, Nat.div_one]; rfl]
  refine oz_det (fun k => (nI k, nI (10 ^ k), nI (c / n ^ k), nI (pb_o n c k))) n (by omega) (fun k hk => ?_) ?_
  · have hl : c / n ^ k < 2147483648 := Nat.lt_of_le_of_lt (Nat.div_le_self _ _) hc
    unfold fX12_best_b87
    dsimp only
    rw [if_neg (nI_ge hk (by omega)), if_neg (nI_ne0 (by omega) (by omega)), if_neg (nI_ne0 (by omega) (by omega)), pk_rem (by omega) (by omega) (by omega), pk_div (by omega) (by omega) (by omega), nI_1, nI_1, pk_mul, nI_add, show nI (10 ^ k) * 10 = nI (10 ^ k * 10) from pk_mul _ 10, Nat.div_div_eq_div_mul, ← Nat.pow_succ, ← Nat.pow_succ]
    rfl
  · unfold fX12_best_b87
    dsimp only
    rw [if_pos (nI_le (Nat.le_refl n) (by omega))]
theorem pb_loop {n : Nat} (h1 : 1 ≤ n) (hn : n ≤ 6) {drain town now kept : Nat → Int32} (h2 : town 2 = nI n) (hd : ∀ h, h < n → town (19 + h) = drain h) (hD : pr_D n drain) (hk : ∀ h, h < 8 → now h = kept h) (hmx : (po_mx kept n).toInt < 100000000) (st : Nat → Int32) :
    ∃ o, oz_loop (fX12_best_b67 town now (nI n) (nI n, nI (n ^ n))) oz_fuel (0, 100000000, (-1), st) = some o ∧ o.2.1 = po_mx kept n ∧ o.2.2.1 = nI (pb_F n) := by
  obtain ⟨A1, A2, A3, A4, A5, A6, A7⟩ := pb_at n (by omega) h1
  refine oz_inv (fun (c : Nat) (v : Int32 × Int32 × Int32 × (Nat → Int32)) => v.1 = nI c ∧ ((c ≤ pb_c n ∧ v.2.1 = 100000000 ∧ v.2.2.1 = -1) ∨ (pb_c n < c ∧ v.2.1 = po_mx kept n ∧ v.2.2.1 = nI (pb_F n)))) _ (n ^ n) (by omega) ?_ ?_ ⟨rfl, Or.inl ⟨by omega, rfl, rfl⟩⟩
  · intro c v hc hv
    obtain ⟨v1, v2, v3, v4⟩ := v
    obtain ⟨e1, hv⟩ := hv
    dsimp only at e1 hv
    subst e1
    left
    have ol : pb_o n c n < 2147483648 := Nat.lt_trans (pb_o_lt h1 hn c n) (po_10 n (by omega)).2
    have o1 : 1 ≤ pb_o n c n := pb_o_1 c n h1
    have key : ∀ z, fX12_isOrder town (nI (pb_o n c n)) = some z → fX12_best_b67 town now (nI n) (nI n, nI (n ^ n)) (nI c, v2, v3, v4) = (if z = 0 then (some (.inl (nI c + 1, v2, v3, v4))) else (Option.bind (fX12_pulledBy town now v4 (nI (pb_o n c n))) (fun y138 => if v2 ≤ y138.1 then (if v2 ≤ y138.1 then (some (.inl (nI c + 1, v2, v3, y138.2))) else (some (.inl (nI c + 1, y138.1, v3, y138.2)))) else (if v2 ≤ y138.1 then (some (.inl (nI c + 1, v2, nI (pb_o n c n), y138.2))) else (some (.inl (nI c + 1, y138.1, nI (pb_o n c n), y138.2))))))) := by
      intro z hz
      unfold fX12_best_b67
      dsimp only
      rw [if_neg (nI_ge hc (by omega)), oz_b (pb_code h1 hn (show c < 2147483648 by omega))]
      dsimp only
      rw [oz_b hz]
    rcases Nat.lt_or_ge c (pb_c n) with q | q
    · have k0 := key 0 (po_is0 (by omega) h2 ol (fun h => pb_not (pb_none n (by omega) c q) h.2.2))
      rw [if_pos rfl] at k0
      rcases hv with ⟨b1, b2, b3⟩ | ⟨b1, b2, b3⟩
      · exact ⟨_, k0, nI_1 c, Or.inl ⟨by omega, b2, b3⟩⟩
      · omega
    · rcases Classical.em (po_ok n (pb_o n c n)) with w | w
      · have k1 := key 1 (po_is1 hn h2 o1 ol w)
        obtain ⟨r, x1, x2, x3, r1, r2, r3, r4⟩ := po_run h1 hn h2 hd hD hk ol w (ord := fun i => nI (po_f (pb_o n c n) (n - 1 - i) - 1)) (fun k hk' => by rw [show n - 1 - (n - 1 - k) = k by omega]) 0 (fun _ => 0) v4
        rw [if_neg fw_n10, oz_b r2] at k1
        dsimp only at k1
        rcases hv with ⟨b1, b2, b3⟩ | ⟨b1, b2, b3⟩
        · have hcc : c = pb_c n := by omega
          subst b2 b3
          have hr : r = po_mx kept n := r4 (by rw [hcc, A1]; exact A7)
          have hlt : ¬ (100000000 : Int32) ≤ r := by
            rw [pz_le, hr, show (100000000 : Int32).toInt = 100000000 by decide]; omega
          rw [if_neg hlt, if_neg hlt] at k1
          refine ⟨_, k1, nI_1 c, Or.inr ⟨by omega, hr, ?_⟩⟩
          dsimp only
          rw [hcc, A1]
        · have hle : v2 ≤ r := by rw [pz_le, b2]; exact r3
          rw [if_pos hle, if_pos hle] at k1
          exact ⟨_, k1, nI_1 c, Or.inr ⟨by omega, b2, b3⟩⟩
      · have k0 := key 0 (po_is0 (by omega) h2 ol (fun h => w h.2.2))
        rw [if_pos rfl] at k0
        rcases hv with ⟨b1, b2, b3⟩ | ⟨b1, b2, b3⟩
        · have hcc : c = pb_c n := by omega
          rw [hcc, A1] at w
          exact absurd (pb_is A2) w
        · exact ⟨_, k0, nI_1 c, Or.inr ⟨by omega, b2, b3⟩⟩
  · intro v hv
    obtain ⟨v1, v2, v3, v4⟩ := v
    obtain ⟨e1, hv⟩ := hv
    dsimp only at e1 hv
    subst e1
    rcases hv with ⟨b1, b2, b3⟩ | ⟨b1, b2, b3⟩
    · omega
    · refine ⟨(nI (n ^ n), v2, v3, v4), ?_, b2, b3⟩
      unfold fX12_best_b67
      dsimp only
      rw [if_pos (nI_le (Nat.le_refl _) (by omega))]
theorem pb_mxb {n : Nat} {kept : Nat → Int32} : ∀ i, i ≤ n → (∀ h, h < n → (kept h).toInt ≤ 999) → (po_mx kept i).toInt ≤ 999 := by
  intro i
  induction i with
  | zero => intro _ _; exact (by decide : (0 : Int32).toInt ≤ 999)
  | succ i ih =>
    intro hi hk
    have h1 := ih (by omega) hk
    have h2 := hk i (by omega)
    rw [po_mx_s]
    rcases Decidable.em (po_mx kept i < kept i) with q | q
    · rw [if_pos q]; exact h2
    · rw [if_neg q]; exact h1
theorem pb_l1 : (1 : Int64).toInt = 1 := by decide
theorem sp_best (v_x_reader_length : Int32) (v_x_reader_faultAt : Int32) (v_x_reader_letters : Nat → Int32) (v_x_plan_stands : Int32) (v_x_plan_lent : Int32) (v_x_plan_pipe : Int32) (v_x_plan_houses : Int32) (v_x_plan_room : Nat → Int32) (v_x_plan_daily : Nat → Int32) (v_x_plan_drain : Nat → Int32) (v_x_plan_above : Nat → Int32) (v_x_now_days : Int32) (v_x_now_spilled : Int32) (v_x_now_river : Int32) (v_x_now_kept : Nat → Int32) (v_x_now_away : Nat → Int32) (v_x_history_end : Int32) (v_x_history_count : Int32) (v_x_history_shelf_places : Int32) (v_x_history_shelf_cells : Nat → Int32) (v_x_images_storedSet : Int32) (v_x_images_shelf_places : Int32) (v_x_images_shelf_cells : Nat → Int32) (v_x_images_seeds : Nat → Int32) (v_x_draws_value : Int32) (v_x_notes_seen : Int32) (v_x_notes_entries : Int32) (v_x_notes_seenBy : Nat → Int32) (v_x_notes_seenCame : Nat → Int32) (v_x_notes_entryHouse : Nat → Int32) (v_x_notes_entryAmount : Nat → Int32) (v_x_plugs_count : Int32) (v_x_plugs_pulledSet : Int32) (v_x_plugs_order : Nat → Int32) (v_x_plugs_standing : Nat → Int32) (v_m_undos : Int32) (v_m_seed : Int64) (v_m_size : Int32) (v_m_fault : Int32) (v_m_sightMany : Int32) (v_m_bookMany : Int32) (v_m_town : Nat → Int32) (v_m_now : Nat → Int32) (v_m_past : Nat → Int32) (v_m_images : Nat → Int32) (v_m_kept : Nat → Int32) (v_m_text : Nat → Int32) (v_m_sights : Nat → Int32) (v_m_book : Nat → Int32) (v_m_stands : Nat → Int32) (hI : IV v_x_reader_length v_x_reader_faultAt v_x_reader_letters v_x_plan_stands v_x_plan_lent v_x_plan_pipe v_x_plan_houses v_x_plan_room v_x_plan_daily v_x_plan_drain v_x_plan_above v_x_now_days v_x_now_spilled v_x_now_river v_x_now_kept v_x_now_away v_x_history_end v_x_history_count v_x_history_shelf_places v_x_history_shelf_cells v_x_images_storedSet v_x_images_shelf_places v_x_images_shelf_cells v_x_images_seeds v_x_draws_value v_x_notes_seen v_x_notes_entries v_x_notes_seenBy v_x_notes_seenCame v_x_notes_entryHouse v_x_notes_entryAmount v_m_undos v_m_seed v_m_size v_m_fault v_m_sightMany v_m_bookMany v_m_town v_m_now v_m_past v_m_images v_m_kept v_m_text v_m_sights v_m_book) (a1 : Int32) : ∃ (yx : Int32 × Int32 × Int32 × (Nat → Int32) × (Nat → Int32)) (ym : Int32 × (Nat → Int32)), (fX11_best v_x_plan_houses v_x_plan_drain v_x_now_kept v_x_plugs_count v_x_plugs_pulledSet v_x_plugs_order v_x_plugs_standing a1) = some yx ∧ (fX12_best v_m_town v_m_now v_m_stands a1) = some ym ∧ yx.1 = ym.1 ∧ IV v_x_reader_length v_x_reader_faultAt v_x_reader_letters v_x_plan_stands v_x_plan_lent v_x_plan_pipe v_x_plan_houses v_x_plan_room v_x_plan_daily v_x_plan_drain v_x_plan_above v_x_now_days v_x_now_spilled v_x_now_river v_x_now_kept v_x_now_away v_x_history_end v_x_history_count v_x_history_shelf_places v_x_history_shelf_cells v_x_images_storedSet v_x_images_shelf_places v_x_images_shelf_cells v_x_images_seeds v_x_draws_value v_x_notes_seen v_x_notes_entries v_x_notes_seenBy v_x_notes_seenCame v_x_notes_entryHouse v_x_notes_entryAmount v_m_undos v_m_seed v_m_size v_m_fault v_m_sightMany v_m_bookMany v_m_town v_m_now v_m_past v_m_images v_m_kept v_m_text v_m_sights v_m_book := by
  obtain ⟨i1, i2, i3, n, hP, hS, hB, hH, hM, hO⟩ := hI
  have hP' := hP
  obtain ⟨P1, P2, P3, P4, P5, P6, P7, P8, P9, P10, P11, P12, P13, P14⟩ := hP
  have S1 := hS.1
  have B1 := hB.1
  subst P2
  rcases Decidable.em (0 ≤ a1.toInt ∧ a1.toInt ≤ 1) with q | q
  · have q0 : ¬ a1 < 0 := by rw [pz_lt, pz_i0]; omega
    have q1 : a1 ≤ 1 := by rw [pz_le, pz_i1]; omega
    have hin : fX12_in (Int32.toInt64 a1) (0 : Int64) (1 : Int64) = some 1 := mz_in1 (by rw [mz_64, mz_l0, pb_l1]; exact q)
    rcases Decidable.em (1 ≤ n ∧ n ≤ 6) with z | z
    · obtain ⟨A1, A2, A3, A4, A5, A6, A7⟩ := pb_at n (by omega) z.1
      have hmx : (po_mx v_x_now_kept n).toInt < 100000000 := by
        have := pb_mxb (kept := v_x_now_kept) n (Nat.le_refl n) (fun h hh => by have := B1 h hh; have := P9 h hh; omega)
        omega
      obtain ⟨y, hy, hy2⟩ := po_read z.1 z.2 A4 A5 v_x_plugs_count v_x_plugs_order
      rcases hy2 with ⟨y1, y2, y3, y4⟩ | ⟨y1, y2⟩
      · obtain ⟨r, x1, x2, x3, r1, r2, r3, r4⟩ := po_run z.1 z.2 P3 P8 P10 S1 A5 y2 y4 v_x_plugs_pulledSet v_x_plugs_standing v_m_stands
        have hr := r4 A7
        obtain ⟨o, o1, o2, o3⟩ := pb_loop z.1 z.2 P3 P8 P10 S1 hmx v_m_stands
        have hM0 : fX12_best v_m_town v_m_now v_m_stands a1 = if a1 = 0 then some (o.2.2.1, o.2.2.2) else some (o.2.1, o.2.2.2) := by
          unfold fX12_best
          rw [oz_b hin, if_neg fw_n10, pz_c2, P3, if_neg (nI_ne0 (by omega) (by omega)), if_pos (show nI n ≤ 6 from (nI_le (b := 6) z.2 (by omega) : nI n ≤ nI 6)), oz_b (pb_codes n (by omega)), oz_b o1, if_neg]
          rw [o3, pz_eq, pz_nI A5, show (-1 : Int32).toInt = -1 by decide]
          omega
        have hX0 : fX11_best (nI n) v_x_plan_drain v_x_now_kept v_x_plugs_count v_x_plugs_pulledSet v_x_plugs_order v_x_plugs_standing a1 = if a1 = 0 then some (nI (pb_F n), y.2.1, v_x_plugs_pulledSet, y.2.2, v_x_plugs_standing) else some (r, y.2.1, x1, y.2.2, x2) := by
          unfold fX11_best
          rw [if_neg q0, if_pos q1, oz_b (pb_first n (by omega)), oz_b hy, if_neg (by rw [y1]; exact fw_n10), y3, oz_b r1]
        rcases Decidable.em (a1 = 0) with w | w
        · rw [if_pos w] at hM0 hX0
          exact ⟨_, _, hX0, hM0, o3.symm, i1, i2, i3, n, hP', hS, hB, hH, hM, hO⟩
        · rw [if_neg w] at hM0 hX0
          exact ⟨_, _, hX0, hM0, hr.trans o2.symm, i1, i2, i3, n, hP', hS, hB, hH, hM, hO⟩
      · exact absurd (pb_is A2) y2
    · have hr : ∀ f, fX7_readOrder v_x_plugs_count v_x_plugs_order f (nI n) = some (0, v_x_plugs_count, v_x_plugs_order) := by
        intro f
        unfold fX7_readOrder
        rcases Nat.lt_or_ge n 1 with w | w
        · rw [if_pos (show nI n < 1 from (nI_lt (b := 1) w (by omega) : nI n < nI 1))]
        · rw [if_neg (show ¬ nI n < 1 from (nI_nlt (b := 1) w (by omega) : ¬ nI n < nI 1)), if_pos (show (6 : Int32) < nI n from (nI_lt (a := 6) (by omega) (by omega) : nI 6 < nI n))]
      have hX0 : fX11_best (nI n) v_x_plan_drain v_x_now_kept v_x_plugs_count v_x_plugs_pulledSet v_x_plugs_order v_x_plugs_standing a1 = some ((-1), v_x_plugs_count, v_x_plugs_pulledSet, v_x_plugs_order, v_x_plugs_standing) := by
        unfold fX11_best
        rw [if_neg q0, if_pos q1, oz_b (pb_first n (by omega)), oz_b (hr _), if_pos rfl]
      have lM : oz_loop (fX12_best_b67 v_m_town v_m_now (nI n) (nI n, 0)) oz_fuel (0, 100000000, (-1), v_m_stands) = some (0, 100000000, (-1), v_m_stands) := by
        refine oz_l2 (n := 99999) ?_
        unfold fX12_best_b67
        dsimp only
        rw [if_pos (show (0 : Int32) ≤ 0 by decide)]
      have hM0 : fX12_best v_m_town v_m_now v_m_stands a1 = some ((-1), v_m_stands) := by
        unfold fX12_best
        rw [oz_b hin, if_neg fw_n10, pz_c2, P3]
        rcases Nat.lt_or_ge n 1 with w | w
        · have h0 : n = 0 := by omega
          subst h0
          rw [if_pos (show nI 0 = 0 from rfl), oz_b (pb_codes0 0 (by omega)), oz_b lM, if_pos rfl]
        · rw [if_neg (nI_ne0 (by omega) (by omega)), if_neg (show ¬ nI n ≤ 6 from (nI_ge (a := 6) (by omega) (by omega) : ¬ nI n ≤ nI 6)), oz_b (pb_codes0 n (by omega)), oz_b lM, if_pos rfl]
      exact ⟨_, _, hX0, hM0, rfl, i1, i2, i3, n, hP', hS, hB, hH, hM, hO⟩
  · have hin : fX12_in (Int32.toInt64 a1) (0 : Int64) (1 : Int64) = some 0 := mz_in0 (by rw [mz_64, mz_l0, pb_l1]; exact q)
    have hM0 : fX12_best v_m_town v_m_now v_m_stands a1 = some ((-1000000002), v_m_stands) := by
      unfold fX12_best
      rw [oz_b hin, if_pos rfl]
    have hX0 : fX11_best (nI n) v_x_plan_drain v_x_now_kept v_x_plugs_count v_x_plugs_pulledSet v_x_plugs_order v_x_plugs_standing a1 = some ((-1000000002), v_x_plugs_count, v_x_plugs_pulledSet, v_x_plugs_order, v_x_plugs_standing) := by
      unfold fX11_best
      rcases Decidable.em (a1 < 0) with w | w
      · rw [if_pos w]
      · rw [if_neg w, if_neg (by rw [pz_le, pz_i1]; rw [pz_lt, pz_i0] at w; omega)]
    exact ⟨_, _, hX0, hM0, rfl, i1, i2, i3, n, hP', hS, hB, hH, hM, hO⟩
