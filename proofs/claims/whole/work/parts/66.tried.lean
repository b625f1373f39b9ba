/-! STATES FETCHED: from the ring, from an image; tried days -/
theorem hx_get {N P e : Nat} (he : e < P) (hN : 19 * P ≤ N) (hP : P ≤ 30) (hN2 : N < 1000) (cells : Nat → Int32) (d s r : Int32) (k a : Nat → Int32) :
    ∃ q, fX9_get N (nI P) cells d s r k a (nI e) = some q ∧ pr_S q.2.2.2.1 q.2.2.2.2 q.1 q.2.1 q.2.2.1 (fun j => cells (19 * e + j)) := by
  unfold fX9_get
  have c1 : Int32.toNatClampNeg (nI (e * 19)) = e * 19 := pz_ncl (by omega)
  have c2 : Int32.toNatClampNeg (nI (e * 19 + 8)) = e * 19 + 8 := pz_ncl (by omega)
  have c3 : Int32.toNatClampNeg (nI (e * 19 + 16)) = e * 19 + 16 := pz_ncl (by omega)
  have c4 : Int32.toNatClampNeg (nI (e * 19 + 16 + 1)) = e * 19 + 16 + 1 := pz_ncl (by omega)
  have c5 : Int32.toNatClampNeg (nI (e * 19 + 16 + 2)) = e * 19 + 16 + 2 := pz_ncl (by omega)
  have p0 : ¬ nI e < 0 := nI_pos (by omega)
  have p1 : ¬ nI (e * 19) < 0 := nI_pos (by omega)
  have p2 : ¬ nI (e * 19 + 8) < 0 := nI_pos (by omega)
  rw [if_neg p0, if_pos (nI_lt he (by omega))]
  simp only [pz_m19, pz_p8, pz_p16, pz_p1, pz_p2]
  rw [if_neg (pz_ix (show e * 19 + 16 < N by omega) (by omega)), if_neg (pz_ix (show e * 19 + 16 + 1 < N by omega) (by omega)), if_neg (pz_ix (show e * 19 + 16 + 2 < N by omega) (by omega))]
  simp only [c1, c2, c3, c4, c5, pz_c0, pz_c8]
  have d1 : ¬ (nI (e * 19) < 0 ∨ N < e * 19 + 8) := fun z => by
    rcases z with z | z
    · exact p1 z
    · omega
  have d2 : ¬ (nI (e * 19 + 8) < 0 ∨ N < e * 19 + 8 + 8) := fun z => by
    rcases z with z | z
    · exact p2 z
    · omega
  rw [if_neg d1, if_neg d2]
  refine ⟨_, rfl, ?_, ?_, ?_, ?_, ?_⟩
  · intro h hh
    dsimp only
    rw [pk_cpy_in (by omega) (by omega)]; exact congrArg cells (by omega)
  · intro h hh
    dsimp only
    rw [pk_cpy_in (by omega) (by omega)]; exact congrArg cells (by omega)
  · exact congrArg cells (by omega)
  · exact congrArg cells (by omega)
  · exact congrArg cells (by omega)
theorem tz_lay (now aside : Nat → Int32) : ∃ q, fX12_layAside now aside = some q ∧ ∀ k, k < 19 → q k = now k := by
  obtain ⟨q, q1, q2⟩ := cz_copies (n0 := 19) (n2 := 19) (i := 0) (j := 0) (m := 19) (p0 := now) (p2 := aside) (by omega) (by omega) (by omega) (by omega)
  refine ⟨q, ?_, fun k hk => ?_⟩
  · unfold fX12_layAside
    exact oz_b q1
  · rw [q2, if_pos (by omega)]; exact congrArg now (by omega)
theorem tz_days {n : Nat} {stands lent pipe houses : Int32} {room daily drain above town : Nat → Int32} (hP : iv_P n stands lent pipe houses room daily drain above town)
    {kept away t : Nat → Int32} {days spilled river : Int32} (hS : pr_S kept away days spilled river t) (hB : pr_B n room 9030 kept away days spilled river) (td ts tr : Int32) (tk ta aside : Nat → Int32) {m : Nat} (hm : m ≤ 60) :
    ∃ o t', fX11_tryDays lent houses room daily days spilled river kept away td ts tr tk ta (nI m) = some o ∧ fX12_goDays town t aside (nI m) = some t' ∧ pr_S o.2.2.2.1 o.2.2.2.2 o.1 o.2.1 o.2.2.1 t' := by
  obtain ⟨P1, P2, P3, P4, P5, P6, P7, P8, P9, P10, P11, P12, P13, P14⟩ := hP
  obtain ⟨q, q1, q2⟩ := tz_lay t aside
  obtain ⟨s1, s2, s3, s4, s5⟩ := hS
  have cc : ∀ (f g : Nat → Int32) (h : Nat), h < 8 → va_cpy f g (Int32.toNatClampNeg (0 : Int32)) (Int32.toNatClampNeg (0 : Int32)) (Int32.toNatClampNeg (8 : Int32)) h = f h := by
    intro f g h hh
    rw [pz_c0, pz_c8, pk_cpy_in (by omega) (by omega)]; exact congrArg f (by omega)
  have hS1 : pr_S (va_cpy kept tk (Int32.toNatClampNeg (0 : Int32)) (Int32.toNatClampNeg (0 : Int32)) (Int32.toNatClampNeg (8 : Int32))) (va_cpy away ta (Int32.toNatClampNeg (0 : Int32)) (Int32.toNatClampNeg (0 : Int32)) (Int32.toNatClampNeg (8 : Int32))) days 0 river (upd q 17 0) := by
    refine ⟨?_, ?_, ?_, ?_, ?_⟩
    · intro h hh
      rw [pk_un (show h ≠ 17 by omega), q2 h (by omega), s1 h hh, cc kept tk h hh]
    · intro h hh
      rw [pk_un (show 8 + h ≠ 17 by omega), q2 (8 + h) (by omega), s2 h hh, cc away ta h hh]
    · rw [pk_un (show 16 ≠ 17 by omega), q2 16 (by omega), s3]
    · rw [pk_us]
    · rw [pk_un (show 18 ≠ 17 by omega), q2 18 (by omega), s5]
  have hB1 : pr_B n room 9030 (va_cpy kept tk (Int32.toNatClampNeg (0 : Int32)) (Int32.toNatClampNeg (0 : Int32)) (Int32.toNatClampNeg (8 : Int32))) (va_cpy away ta (Int32.toNatClampNeg (0 : Int32)) (Int32.toNatClampNeg (0 : Int32)) (Int32.toNatClampNeg (8 : Int32))) days 0 river := by
    obtain ⟨b1, b2, b3, b4, b5, b6⟩ := hB
    refine pr_B_congr P1 (fun h hh => cc kept tk h hh) (fun h hh => cc away ta h hh) rfl rfl rfl ⟨b1, b2, b3, b4, by decide, b6⟩
  have L : ∃ o o', oz_loop (fX11_tryDays_b21 lent houses room daily (nI m)) oz_fuel (0, days, 0, river, va_cpy kept tk (Int32.toNatClampNeg (0 : Int32)) (Int32.toNatClampNeg (0 : Int32)) (Int32.toNatClampNeg (8 : Int32)), va_cpy away ta (Int32.toNatClampNeg (0 : Int32)) (Int32.toNatClampNeg (0 : Int32)) (Int32.toNatClampNeg (8 : Int32))) = some o ∧ oz_loop (fX12_goDays_b14 town (nI m)) oz_fuel (0, upd q 17 0) = some o' ∧ pr_S o.2.2.2.2.1 o.2.2.2.2.2 o.2.1 o.2.2.1 o.2.2.2.1 o'.2 := by
    refine oz_rel (fun (i : Nat) (v : Int32 × Int32 × Int32 × Int32 × (Nat → Int32) × (Nat → Int32)) (w : Int32 × (Nat → Int32)) => v.1 = nI i ∧ w.1 = nI i ∧ pr_S v.2.2.2.2.1 v.2.2.2.2.2 v.2.1 v.2.2.1 v.2.2.2.1 w.2 ∧ pr_B n room (9030 + (i : Int)) v.2.2.2.2.1 v.2.2.2.2.2 v.2.1 v.2.2.1 v.2.2.2.1)
      (fun (o : Int32 × Int32 × Int32 × Int32 × (Nat → Int32) × (Nat → Int32)) (o' : Int32 × (Nat → Int32)) => pr_S o.2.2.2.2.1 o.2.2.2.2.2 o.2.1 o.2.2.1 o.2.2.2.1 o'.2) m (by omega) ?_ ?_ ⟨rfl, rfl, hS1, pr_B_mono (by omega) hB1⟩
    · intro i v w hi hv
      obtain ⟨e1, e2, e3, e4⟩ := hv
      obtain ⟨g, g', g1, g2, g3, g4⟩ := dz_day P1 P4 P3 P6 P7 P9 (by omega) e3 e4 (-1) 0 (by decide)
      left
      refine ⟨(v.1 + 1, g.1, g.2.1, g.2.2.1, g.2.2.2.1, g.2.2.2.2), (w.1 + 1, g'), ?_, ?_, by rw [e1]; exact nI_1 i, by rw [e2]; exact nI_1 i, g3, ?_⟩
      · unfold fX11_tryDays_b21
        rw [if_neg (by rw [e1]; exact nI_ge hi (by omega)), P2, oz_b g1]
      · unfold fX12_goDays_b14
        rw [if_neg (by rw [e2]; exact nI_ge hi (by omega)), oz_b g2]
      · exact pr_B_mono (by omega) g4
    · intro v w hv
      obtain ⟨e1, e2, e3, e4⟩ := hv
      refine ⟨v, w, ?_, ?_, e3⟩
      · unfold fX11_tryDays_b21
        rw [if_pos (by rw [e1]; exact nI_le (Nat.le_refl m) (by omega))]
      · unfold fX12_goDays_b14
        rw [if_pos (by rw [e2]; exact nI_le (Nat.le_refl m) (by omega))]
  obtain ⟨o, o', o1, o2, o3⟩ := L
  refine ⟨(o.2.1, o.2.2.1, o.2.2.2.1, o.2.2.2.2.1, o.2.2.2.2.2), o'.2, ?_, ?_, o3⟩
  · unfold fX11_tryDays
    rw [oz_b (show fX10_copyFrom td ts tr tk ta days spilled river kept away = some _ from rfl)]
    exact oz_b o1
  · unfold fX12_goDays
    rw [oz_b q1, pz_c17]
    exact oz_b o2
theorem sp_level (v_x_reader_length : Int32) (v_x_reader_faultAt : Int32) (v_x_reader_letters : Nat → Int32) (v_x_plan_stands : Int32) (v_x_plan_lent : Int32) (v_x_plan_pipe : Int32) (v_x_plan_houses : Int32) (v_x_plan_room : Nat → Int32) (v_x_plan_daily : Nat → Int32) (v_x_plan_drain : Nat → Int32) (v_x_plan_above : Nat → Int32) (v_x_now_days : Int32) (v_x_now_spilled : Int32) (v_x_now_river : Int32) (v_x_now_kept : Nat → Int32) (v_x_now_away : Nat → Int32) (v_x_trial_days : Int32) (v_x_trial_spilled : Int32) (v_x_trial_river : Int32) (v_x_trial_kept : Nat → Int32) (v_x_trial_away : Nat → Int32) (v_x_history_end : Int32) (v_x_history_count : Int32) (v_x_history_shelf_places : Int32) (v_x_history_shelf_cells : Nat → Int32) (v_x_images_storedSet : Int32) (v_x_images_shelf_places : Int32) (v_x_images_shelf_cells : Nat → Int32) (v_x_images_seeds : Nat → Int32) (v_x_draws_value : Int32) (v_x_notes_seen : Int32) (v_x_notes_entries : Int32) (v_x_notes_seenBy : Nat → Int32) (v_x_notes_seenCame : Nat → Int32) (v_x_notes_entryHouse : Nat → Int32) (v_x_notes_entryAmount : Nat → Int32) (v_m_undos : Int32) (v_m_seed : Int64) (v_m_size : Int32) (v_m_fault : Int32) (v_m_sightMany : Int32) (v_m_bookMany : Int32) (v_m_town : Nat → Int32) (v_m_now : Nat → Int32) (v_m_aside : Nat → Int32) (v_m_past : Nat → Int32) (v_m_images : Nat → Int32) (v_m_kept : Nat → Int32) (v_m_text : Nat → Int32) (v_m_sights : Nat → Int32) (v_m_book : Nat → Int32) (hI : IV v_x_reader_length v_x_reader_faultAt v_x_reader_letters v_x_plan_stands v_x_plan_lent v_x_plan_pipe v_x_plan_houses v_x_plan_room v_x_plan_daily v_x_plan_drain v_x_plan_above v_x_now_days v_x_now_spilled v_x_now_river v_x_now_kept v_x_now_away v_x_history_end v_x_history_count v_x_history_shelf_places v_x_history_shelf_cells v_x_images_storedSet v_x_images_shelf_places v_x_images_shelf_cells v_x_images_seeds v_x_draws_value v_x_notes_seen v_x_notes_entries v_x_notes_seenBy v_x_notes_seenCame v_x_notes_entryHouse v_x_notes_entryAmount v_m_undos v_m_seed v_m_size v_m_fault v_m_sightMany v_m_bookMany v_m_town v_m_now v_m_past v_m_images v_m_kept v_m_text v_m_sights v_m_book) (a1 : Int32) (a2 : Int32) : ∃ (yx : Int32 × Int32 × Int32 × Int32 × (Nat → Int32) × (Nat → Int32)) (ym : Int32 × (Nat → Int32)), (fX11_level v_x_plan_lent v_x_plan_houses v_x_plan_room v_x_plan_daily v_x_now_days v_x_now_spilled v_x_now_river v_x_now_kept v_x_now_away v_x_trial_days v_x_trial_spilled v_x_trial_river v_x_trial_kept v_x_trial_away a1 a2) = some yx ∧ (fX12_level v_m_town v_m_now v_m_aside a1 a2) = some ym ∧ yx.1 = ym.1 ∧ IV v_x_reader_length v_x_reader_faultAt v_x_reader_letters v_x_plan_stands v_x_plan_lent v_x_plan_pipe v_x_plan_houses v_x_plan_room v_x_plan_daily v_x_plan_drain v_x_plan_above v_x_now_days v_x_now_spilled v_x_now_river v_x_now_kept v_x_now_away v_x_history_end v_x_history_count v_x_history_shelf_places v_x_history_shelf_cells v_x_images_storedSet v_x_images_shelf_places v_x_images_shelf_cells v_x_images_seeds v_x_draws_value v_x_notes_seen v_x_notes_entries v_x_notes_seenBy v_x_notes_seenCame v_x_notes_entryHouse v_x_notes_entryAmount v_m_undos v_m_seed v_m_size v_m_fault v_m_sightMany v_m_bookMany v_m_town v_m_now v_m_past v_m_images v_m_kept v_m_text v_m_sights v_m_book := by
  obtain ⟨i1, i2, i3, n, hP, hS, hB, hH, hM, hO⟩ := hI
  have hP' := hP
  obtain ⟨P1, P2, P3, P4⟩ := hP
  have e60 : (60 : Int32).toInt = 60 := by decide
  have l60 : (60 : Int64).toInt = 60 := by decide
  have hU : fX6_has v_x_plan_houses a1 = fX6_has (nI n) a1 := by rw [P2]
  unfold fX11_level fX12_level
  rw [hU]
  rcases Decidable.em (0 ≤ a1.toInt ∧ a1.toInt < n) with q | q
  · rw [oz_b (mz_has1 P1 q), oz_b (mz_isHouse1 P1 P3 q), if_neg (show ¬ (1 : Int32) = 0 by decide), if_neg (show ¬ (1 : Int32) = 0 by decide)]
    obtain ⟨h, hh, rfl⟩ := mz_of q
    rcases Decidable.em (0 ≤ a2.toInt ∧ a2.toInt ≤ 60) with z | z
    · rw [if_neg (fun x => by rw [pz_lt, pz_i0] at x; omega), if_pos (by rw [pz_le, e60]; omega), oz_b (mz_in1 (by rw [mz_64, mz_l0, l60]; exact z)), if_neg (show ¬ (1 : Int32) = 0 by decide)]
      obtain ⟨m, hm, rfl⟩ := mz_of (n := 61) (a := a2) ⟨z.1, by omega⟩
      obtain ⟨o, t', o1, o2, o3⟩ := tz_days hP' hS hB v_x_trial_days v_x_trial_spilled v_x_trial_river v_x_trial_kept v_x_trial_away v_m_aside (m := m) (by omega)
      rw [oz_b o1, oz_b o2, pz_0a, if_neg (pz_ix (show h < 8 by omega) (by omega)), if_neg (pz_ix (show h < 19 by omega) (by omega)), pz_ncl (by omega)]
      exact ⟨_, _, rfl, rfl, (o3.1 h (by omega)).symm, i1, i2, i3, n, hP', hS, hB, hH, hM, hO⟩
    · rw [oz_b (mz_in0 (by rw [mz_64, mz_l0, l60]; exact z)), if_pos rfl]
      refine ⟨(-1000000002, v_x_trial_days, v_x_trial_spilled, v_x_trial_river, v_x_trial_kept, v_x_trial_away), _, ?_, rfl, rfl, i1, i2, i3, n, hP', hS, hB, hH, hM, hO⟩
      rcases Decidable.em (a2 < 0) with x | x
      · rw [if_pos x]
      · rw [if_neg x]
        rw [pz_lt, pz_i0] at x
        rw [if_neg (by rw [pz_le, e60]; omega)]
  · rw [oz_b (mz_has0 P1 q), oz_b (mz_isHouse0 P1 P3 q), if_pos rfl, if_pos rfl]
    exact ⟨_, _, rfl, rfl, rfl, i1, i2, i3, n, hP', hS, hB, hH, hM, hO⟩
theorem sp_spills (v_x_reader_length : Int32) (v_x_reader_faultAt : Int32) (v_x_reader_letters : Nat → Int32) (v_x_plan_stands : Int32) (v_x_plan_lent : Int32) (v_x_plan_pipe : Int32) (v_x_plan_houses : Int32) (v_x_plan_room : Nat → Int32) (v_x_plan_daily : Nat → Int32) (v_x_plan_drain : Nat → Int32) (v_x_plan_above : Nat → Int32) (v_x_now_days : Int32) (v_x_now_spilled : Int32) (v_x_now_river : Int32) (v_x_now_kept : Nat → Int32) (v_x_now_away : Nat → Int32) (v_x_trial_days : Int32) (v_x_trial_spilled : Int32) (v_x_trial_river : Int32) (v_x_trial_kept : Nat → Int32) (v_x_trial_away : Nat → Int32) (v_x_history_end : Int32) (v_x_history_count : Int32) (v_x_history_shelf_places : Int32) (v_x_history_shelf_cells : Nat → Int32) (v_x_images_storedSet : Int32) (v_x_images_shelf_places : Int32) (v_x_images_shelf_cells : Nat → Int32) (v_x_images_seeds : Nat → Int32) (v_x_draws_value : Int32) (v_x_notes_seen : Int32) (v_x_notes_entries : Int32) (v_x_notes_seenBy : Nat → Int32) (v_x_notes_seenCame : Nat → Int32) (v_x_notes_entryHouse : Nat → Int32) (v_x_notes_entryAmount : Nat → Int32) (v_m_undos : Int32) (v_m_seed : Int64) (v_m_size : Int32) (v_m_fault : Int32) (v_m_sightMany : Int32) (v_m_bookMany : Int32) (v_m_town : Nat → Int32) (v_m_now : Nat → Int32) (v_m_aside : Nat → Int32) (v_m_past : Nat → Int32) (v_m_images : Nat → Int32) (v_m_kept : Nat → Int32) (v_m_text : Nat → Int32) (v_m_sights : Nat → Int32) (v_m_book : Nat → Int32) (hI : IV v_x_reader_length v_x_reader_faultAt v_x_reader_letters v_x_plan_stands v_x_plan_lent v_x_plan_pipe v_x_plan_houses v_x_plan_room v_x_plan_daily v_x_plan_drain v_x_plan_above v_x_now_days v_x_now_spilled v_x_now_river v_x_now_kept v_x_now_away v_x_history_end v_x_history_count v_x_history_shelf_places v_x_history_shelf_cells v_x_images_storedSet v_x_images_shelf_places v_x_images_shelf_cells v_x_images_seeds v_x_draws_value v_x_notes_seen v_x_notes_entries v_x_notes_seenBy v_x_notes_seenCame v_x_notes_entryHouse v_x_notes_entryAmount v_m_undos v_m_seed v_m_size v_m_fault v_m_sightMany v_m_bookMany v_m_town v_m_now v_m_past v_m_images v_m_kept v_m_text v_m_sights v_m_book) (a1 : Int32) : ∃ (yx : Int32 × Int32 × Int32 × Int32 × (Nat → Int32) × (Nat → Int32)) (ym : Int32 × (Nat → Int32)), (fX11_spills v_x_plan_lent v_x_plan_houses v_x_plan_room v_x_plan_daily v_x_now_days v_x_now_spilled v_x_now_river v_x_now_kept v_x_now_away v_x_trial_days v_x_trial_spilled v_x_trial_river v_x_trial_kept v_x_trial_away a1) = some yx ∧ (fX12_spills v_m_town v_m_now v_m_aside a1) = some ym ∧ yx.1 = ym.1 ∧ IV v_x_reader_length v_x_reader_faultAt v_x_reader_letters v_x_plan_stands v_x_plan_lent v_x_plan_pipe v_x_plan_houses v_x_plan_room v_x_plan_daily v_x_plan_drain v_x_plan_above v_x_now_days v_x_now_spilled v_x_now_river v_x_now_kept v_x_now_away v_x_history_end v_x_history_count v_x_history_shelf_places v_x_history_shelf_cells v_x_images_storedSet v_x_images_shelf_places v_x_images_shelf_cells v_x_images_seeds v_x_draws_value v_x_notes_seen v_x_notes_entries v_x_notes_seenBy v_x_notes_seenCame v_x_notes_entryHouse v_x_notes_entryAmount v_m_undos v_m_seed v_m_size v_m_fault v_m_sightMany v_m_bookMany v_m_town v_m_now v_m_past v_m_images v_m_kept v_m_text v_m_sights v_m_book := by
  obtain ⟨i1, i2, i3, n, hP, hS, hB, hH, hM, hO⟩ := hI
  have e60 : (60 : Int32).toInt = 60 := by decide
  have l60 : (60 : Int64).toInt = 60 := by decide
  unfold fX11_spills fX12_spills
  rcases Decidable.em (0 ≤ a1.toInt ∧ a1.toInt ≤ 60) with z | z
  · rw [if_neg (fun x => by rw [pz_lt, pz_i0] at x; omega), if_pos (by rw [pz_le, e60]; omega), oz_b (mz_in1 (by rw [mz_64, mz_l0, l60]; exact z)), if_neg (show ¬ (1 : Int32) = 0 by decide)]
    obtain ⟨m, hm, rfl⟩ := mz_of (n := 61) (a := a1) ⟨z.1, by omega⟩
    obtain ⟨o, t', o1, o2, o3⟩ := tz_days hP hS hB v_x_trial_days v_x_trial_spilled v_x_trial_river v_x_trial_kept v_x_trial_away v_m_aside (m := m) (by omega)
    rw [oz_b o1, oz_b o2, pz_c17]
    exact ⟨_, _, rfl, rfl, o3.2.2.2.1.symm, i1, i2, i3, n, hP, hS, hB, hH, hM, hO⟩
  · rw [oz_b (mz_in0 (by rw [mz_64, mz_l0, l60]; exact z)), if_pos rfl]
    refine ⟨(-1000000002, v_x_trial_days, v_x_trial_spilled, v_x_trial_river, v_x_trial_kept, v_x_trial_away), _, ?_, rfl, rfl, i1, i2, i3, n, hP, hS, hB, hH, hM, hO⟩
    rcases Decidable.em (a1 < 0) with x | x
    · rw [if_pos x]
    · rw [if_neg x]
      rw [pz_lt, pz_i0] at x
      rw [if_neg (by rw [pz_le, e60]; omega)]
theorem sp_undo (v_x_reader_length : Int32) (v_x_reader_faultAt : Int32) (v_x_reader_letters : Nat → Int32) (v_x_plan_stands : Int32) (v_x_plan_lent : Int32) (v_x_plan_pipe : Int32) (v_x_plan_houses : Int32) (v_x_plan_room : Nat → Int32) (v_x_plan_daily : Nat → Int32) (v_x_plan_drain : Nat → Int32) (v_x_plan_above : Nat → Int32) (v_x_now_days : Int32) (v_x_now_spilled : Int32) (v_x_now_river : Int32) (v_x_now_kept : Nat → Int32) (v_x_now_away : Nat → Int32) (v_x_history_end : Int32) (v_x_history_count : Int32) (v_x_history_shelf_places : Int32) (v_x_history_shelf_cells : Nat → Int32) (v_x_images_storedSet : Int32) (v_x_images_shelf_places : Int32) (v_x_images_shelf_cells : Nat → Int32) (v_x_images_seeds : Nat → Int32) (v_x_draws_value : Int32) (v_x_notes_seen : Int32) (v_x_notes_entries : Int32) (v_x_notes_seenBy : Nat → Int32) (v_x_notes_seenCame : Nat → Int32) (v_x_notes_entryHouse : Nat → Int32) (v_x_notes_entryAmount : Nat → Int32) (v_m_undos : Int32) (v_m_seed : Int64) (v_m_size : Int32) (v_m_fault : Int32) (v_m_sightMany : Int32) (v_m_bookMany : Int32) (v_m_town : Nat → Int32) (v_m_now : Nat → Int32) (v_m_past : Nat → Int32) (v_m_images : Nat → Int32) (v_m_kept : Nat → Int32) (v_m_text : Nat → Int32) (v_m_sights : Nat → Int32) (v_m_book : Nat → Int32) (hI : IV v_x_reader_length v_x_reader_faultAt v_x_reader_letters v_x_plan_stands v_x_plan_lent v_x_plan_pipe v_x_plan_houses v_x_plan_room v_x_plan_daily v_x_plan_drain v_x_plan_above v_x_now_days v_x_now_spilled v_x_now_river v_x_now_kept v_x_now_away v_x_history_end v_x_history_count v_x_history_shelf_places v_x_history_shelf_cells v_x_images_storedSet v_x_images_shelf_places v_x_images_shelf_cells v_x_images_seeds v_x_draws_value v_x_notes_seen v_x_notes_entries v_x_notes_seenBy v_x_notes_seenCame v_x_notes_entryHouse v_x_notes_entryAmount v_m_undos v_m_seed v_m_size v_m_fault v_m_sightMany v_m_bookMany v_m_town v_m_now v_m_past v_m_images v_m_kept v_m_text v_m_sights v_m_book) (a1 : Int32) : ∃ (yx : Int32 × Int32 × Int32 × Int32 × (Nat → Int32) × (Nat → Int32) × Int32 × Int32) (ym : Int32 × Int32 × (Nat → Int32)), (fX11_undo v_x_now_days v_x_now_spilled v_x_now_river v_x_now_kept v_x_now_away v_x_history_end v_x_history_count v_x_history_shelf_places v_x_history_shelf_cells a1) = some yx ∧ (fX12_undo v_m_undos v_m_now v_m_past a1) = some ym ∧ yx.1 = ym.1 ∧ IV v_x_reader_length v_x_reader_faultAt v_x_reader_letters v_x_plan_stands v_x_plan_lent v_x_plan_pipe v_x_plan_houses v_x_plan_room v_x_plan_daily v_x_plan_drain v_x_plan_above yx.2.1 yx.2.2.1 yx.2.2.2.1 yx.2.2.2.2.1 yx.2.2.2.2.2.1 yx.2.2.2.2.2.2.1 yx.2.2.2.2.2.2.2 v_x_history_shelf_places v_x_history_shelf_cells v_x_images_storedSet v_x_images_shelf_places v_x_images_shelf_cells v_x_images_seeds v_x_draws_value v_x_notes_seen v_x_notes_entries v_x_notes_seenBy v_x_notes_seenCame v_x_notes_entryHouse v_x_notes_entryAmount ym.2.1 v_m_seed v_m_size v_m_fault v_m_sightMany v_m_bookMany v_m_town ym.2.2 v_m_past v_m_images v_m_kept v_m_text v_m_sights v_m_book := by
  obtain ⟨i1, i2, i3, n, hP, hS, hB, hH, hM, hO⟩ := hI
  have hP' := hP
  obtain ⟨P1, P2, P3, P4⟩ := hP
  have e30 : (30 : Int32).toInt = 30 := by decide
  have l30 : (30 : Int64).toInt = 30 := by decide
  have l1 : (1 : Int64).toInt = 1 := by decide
  unfold fX11_undo fX12_undo
  rcases Decidable.em (1 ≤ a1.toInt ∧ a1.toInt ≤ 30) with q | q
  · rw [if_neg (fun z => by rw [pz_lt, pz_i1] at z; omega), if_pos (by rw [pz_le, e30]; omega), oz_b (mz_in1 (by rw [mz_64, l1, l30]; exact q)), if_neg (show ¬ (1 : Int32) = 0 by decide)]
    obtain ⟨m, hm, rfl⟩ := mz_of (n := 31) (a := a1) ⟨by omega, by omega⟩
    have hm1 : 1 ≤ m := by have := pz_nI (n := m) (by omega); omega
    obtain ⟨e, c, H1, H2, H3, H4, H5, H6, H7, H8⟩ := hH
    rcases Nat.lt_or_ge c m with z | z
    · have eX : fX2_restore v_x_history_end v_x_history_count v_x_history_shelf_places v_x_history_shelf_cells v_x_now_days v_x_now_spilled v_x_now_river v_x_now_kept v_x_now_away (nI m) = some (0, v_x_history_end, v_x_history_count, v_x_now_days, v_x_now_spilled, v_x_now_river, v_x_now_kept, v_x_now_away) := by
        unfold fX2_restore
        rw [if_neg (fun y => by rw [pz_lt, pz_i1] at y; omega), H4, if_neg (nI_ge z (by omega))]
      rw [oz_b eX, if_pos rfl, H5, if_neg (nI_ge z (by omega))]
      exact ⟨_, _, rfl, rfl, rfl, i1, i2, i3, n, hP', hS, hB, ⟨e, c, H1, H2, H3, H4, rfl, H6, H7, H8⟩, hM, hO⟩
    · have he : (e + 30 - m) % 30 < 30 := Nat.mod_lt _ (by omega)
      obtain ⟨g, g1, g2⟩ := hx_get (N := 570) (P := 30) (e := (e + 30 - m) % 30) he (by omega) (by omega) (by omega) v_x_history_shelf_cells v_x_now_days v_x_now_spilled v_x_now_river v_x_now_kept v_x_now_away
      have ee : (nI e - nI m) + 30 - ((nI e - nI m) + 30) / 30 * 30 = nI ((e + 30 - m) % 30) := by
        have e1 : nI e - nI m + 30 = nI (e + 30 - m) := by
          have a1 : (nI e).toInt = e := pz_nI (by omega)
          have a2 : (nI m).toInt = m := pz_nI (by omega)
          have a3 : (nI e - nI m).toInt = (e : Int) - m := by rw [pz_sub (by omega) (by omega), a1, a2]
          refine pz_eq.mpr ?_
          rw [pz_add (by rw [a3, e30]; omega) (by rw [a3, e30]; omega), a3, e30, pz_nI (by omega)]
          omega
        rw [e1, show (30 : Int32) = nI 30 from rfl, pk_rem (by omega) (by omega) (by omega)]
      have eX : fX2_restore v_x_history_end v_x_history_count v_x_history_shelf_places v_x_history_shelf_cells v_x_now_days v_x_now_spilled v_x_now_river v_x_now_kept v_x_now_away (nI m) = some (1, nI ((e + 30 - m) % 30), nI (c - m), g.1, g.2.1, g.2.2.1, g.2.2.2.1, g.2.2.2.2) := by
        unfold fX2_restore
        rw [if_neg (fun y => by rw [pz_lt, pz_i1] at y; omega), H4, if_pos (nI_le z (by omega)), H3, ee, H6, oz_b g1, pk_sub z]
      obtain ⟨r, r1, r2⟩ := cz_copies (n0 := 570) (n2 := 19) (i := 19 * (c - m)) (j := 0) (m := 19) (p0 := v_m_past) (p2 := v_m_now) (by omega) (by omega) (by omega) (by omega)
      have r3 : ∀ k, k < 19 → r k = v_m_past (19 * (c - m) + k) := fun k hk => by rw [r2, if_pos (by omega)]; exact congrArg v_m_past (by omega)
      have hsl : (e + 30 - c + (c - m)) % 30 = (e + 30 - m) % 30 := by omega
      have hS2 : pr_S g.2.2.2.1 g.2.2.2.2 g.1 g.2.1 g.2.2.1 r ∨ c = m := by
        rcases Nat.lt_or_ge (c - m) c with y | y
        · left
          obtain ⟨s1, s2, s3, s4, s5⟩ := g2
          have cp : ∀ k, k < 19 → r k = v_x_history_shelf_cells (19 * ((e + 30 - m) % 30) + k) := fun k hk => by rw [r3 k hk, ← H7 (c - m) y k hk, hsl]
          exact ⟨fun h hh => (cp h (by omega)).trans (s1 h hh), fun h hh => (cp (8 + h) (by omega)).trans (s2 h hh), (cp 16 (by omega)).trans s3, (cp 17 (by omega)).trans s4, (cp 18 (by omega)).trans s5⟩
        · omega
      have hS3 : pr_S g.2.2.2.1 g.2.2.2.2 g.1 g.2.1 g.2.2.1 r := by
        rcases hS2 with y | y
        · exact y
        · obtain ⟨s1, s2, s3, s4, s5⟩ := g2
          have cp : ∀ k, k < 19 → r k = v_x_history_shelf_cells (19 * ((e + 30 - m) % 30) + k) := fun k hk => by rw [r3 k hk, ← H7 (c - m) (by omega) k hk, hsl]
          exact ⟨fun h hh => (cp h (by omega)).trans (s1 h hh), fun h hh => (cp (8 + h) (by omega)).trans (s2 h hh), (cp 16 (by omega)).trans s3, (cp 17 (by omega)).trans s4, (cp 18 (by omega)).trans s5⟩
      have hB3 : pr_B n v_x_plan_room 9030 g.2.2.2.1 g.2.2.2.2 g.1 g.2.1 g.2.2.1 := by
        obtain ⟨s1, s2, s3, s4, s5⟩ := hS3
        exact pr_B_congr P1 (fun h hh => (s1 h hh).symm.trans (r3 h (by omega))) (fun h hh => (s2 h hh).symm.trans (r3 (8 + h) (by omega))) (s3.symm.trans (r3 16 (by omega))) (s4.symm.trans (r3 17 (by omega))) (s5.symm.trans (r3 18 (by omega))) (H8 (c - m) (by omega))
      rw [oz_b eX, if_neg (show ¬ (1 : Int32) = 0 by decide), H5, if_pos (nI_le z (by omega)), pk_sub z, show (19 : Int32) * nI (c - m) = nI (19 * (c - m)) from pk_mul 19 (c - m), oz_b (show fX12_copies 570 19 v_m_past v_m_now (nI (19 * (c - m))) 0 19 = some r from r1), pz_c16]
      refine ⟨_, _, rfl, rfl, hS3.2.2.1.symm, i1, i2, i3, n, hP', hS3, hB3, ⟨(e + 30 - m) % 30, c - m, he, by omega, rfl, rfl, rfl, H6, ?_, ?_⟩, hM, hO⟩
      · intro j hj k hk
        rw [← H7 j (by omega) k hk]
        exact congrArg v_x_history_shelf_cells (by omega)
      · intro j hj
        exact H8 j (by omega)
  · rw [oz_b (mz_in0 (by rw [mz_64, l1, l30]; exact q)), if_pos rfl]
    refine ⟨(-1000000002, v_x_now_days, v_x_now_spilled, v_x_now_river, v_x_now_kept, v_x_now_away, v_x_history_end, v_x_history_count), _, ?_, rfl, rfl, i1, i2, i3, n, hP', hS, hB, hH, hM, hO⟩
    rcases Decidable.em (a1 < 1) with y | y
    · rw [if_pos y]
    · rw [if_neg y]
      rw [pz_lt, pz_i1] at y
      rw [if_neg (by rw [pz_le, e30]; omega)]
