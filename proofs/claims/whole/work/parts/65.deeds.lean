/-! DEEDS: days, hours, pails, aunts -/
theorem pr_B_mono {n : Nat} {room : Nat → Int32} {D D' : Int} (h : D ≤ D') {kept away : Nat → Int32} {days spilled river : Int32} (hB : pr_B n room D kept away days spilled river) : pr_B n room D' kept away days spilled river := by
  obtain ⟨b1, b2, b3, b4, b5⟩ := hB
  exact ⟨b1, b2, b3, by omega, b5⟩
theorem rz_ref {n : Nat} {stands lent pipe houses : Int32} {room daily drain above town now : Nat → Int32} (hP : iv_P n stands lent pipe houses room daily drain above town) {days : Int32} (h16 : now 16 = days) (a1 : Int32) :
    ∃ r, fX11_refuseDays stands days a1 = some r ∧ fX12_refuses town now a1 = some r ∧ (r = 0 → (1 ≤ a1.toInt ∧ a1.toInt ≤ 30) ∧ days.toInt ≤ 9000) := by
  obtain ⟨P1, P2, P3, P4, P5, P6, P7, P8, P9, P10, P11, P12, P13, P14⟩ := hP
  have e30 : (30 : Int32).toInt = 30 := by decide
  have l30 : (30 : Int64).toInt = 30 := by decide
  have l1 : (1 : Int64).toInt = 1 := by decide
  have e9 : (9000 : Int32).toInt = 9000 := by decide
  unfold fX11_refuseDays fX12_refuses
  rw [pz_c0, pz_c16, P4, h16]
  rcases Decidable.em (1 ≤ a1.toInt ∧ a1.toInt ≤ 30) with q | q
  · rw [if_neg (fun z => by rw [pz_lt, pz_i1] at z; omega), if_pos (by rw [pz_le, e30]; omega), oz_b (mz_in1 (by rw [mz_64, l1, l30]; exact q)), if_neg (show ¬ (1 : Int32) = 0 by decide)]
    rcases P14 with ⟨z1, z2⟩ | ⟨z1, z2, z3⟩
    · rw [if_neg (show ¬ stands = 0 by rw [z1]; decide), if_neg (show ¬ lent = 0 from fun z => by rw [z, pz_i0] at z2; omega)]
      rcases Decidable.em (days ≤ 9000) with y | y
      · rw [if_pos y]
        refine ⟨0, rfl, rfl, fun _ => ⟨q, ?_⟩⟩
        rw [pz_le, e9] at y; exact y
      · rw [if_neg y]
        exact ⟨_, rfl, rfl, fun z => absurd z (by decide)⟩
    · rw [if_pos z1, if_pos z2]
      exact ⟨_, rfl, rfl, fun z => absurd z (by decide)⟩
  · rw [oz_b (mz_in0 (by rw [mz_64, l1, l30]; exact q)), if_pos rfl]
    refine ⟨_, ?_, rfl, fun z => absurd z (by decide)⟩
    rcases Decidable.em (a1 < 1) with y | y
    · rw [if_pos y]
    · rw [if_neg y]
      rw [pz_lt, pz_i1] at y
      rw [if_neg (by rw [pz_le, e30]; omega)]
theorem rz_sum {n : Nat} {stands lent pipe houses : Int32} {room daily drain above town : Nat → Int32} (hP : iv_P n stands lent pipe houses room daily drain above town) {D : Int} {kept away t : Nat → Int32} {days spilled river : Int32} (hS : pr_S kept away days spilled river t) (hB : pr_B n room D kept away days spilled river) :
    fX10_inAll kept houses = some (ps_sum kept n) ∧ fX12_keptOf t = some (ps_sum kept n) := by
  obtain ⟨P1, P2, _⟩ := hP
  refine ⟨by rw [P2]; exact ps_inAll kept P1, ?_⟩
  rw [ps_keptOf, ps_sum_8 P1 hS.1 (fun h h1 h2 => (hB.2.1 h h1 h2).1)]
theorem sp_day (v_x_reader_length : Int32) (v_x_reader_faultAt : Int32) (v_x_reader_letters : Nat → Int32) (v_x_plan_stands : Int32) (v_x_plan_lent : Int32) (v_x_plan_pipe : Int32) (v_x_plan_houses : Int32) (v_x_plan_room : Nat → Int32) (v_x_plan_daily : Nat → Int32) (v_x_plan_drain : Nat → Int32) (v_x_plan_above : Nat → Int32) (v_x_now_days : Int32) (v_x_now_spilled : Int32) (v_x_now_river : Int32) (v_x_now_kept : Nat → Int32) (v_x_now_away : Nat → Int32) (v_x_history_end : Int32) (v_x_history_count : Int32) (v_x_history_shelf_places : Int32) (v_x_history_shelf_cells : Nat → Int32) (v_x_images_storedSet : Int32) (v_x_images_shelf_places : Int32) (v_x_images_shelf_cells : Nat → Int32) (v_x_images_seeds : Nat → Int32) (v_x_draws_value : Int32) (v_x_notes_seen : Int32) (v_x_notes_entries : Int32) (v_x_notes_seenBy : Nat → Int32) (v_x_notes_seenCame : Nat → Int32) (v_x_notes_entryHouse : Nat → Int32) (v_x_notes_entryAmount : Nat → Int32) (v_m_undos : Int32) (v_m_seed : Int64) (v_m_size : Int32) (v_m_fault : Int32) (v_m_sightMany : Int32) (v_m_bookMany : Int32) (v_m_town : Nat → Int32) (v_m_now : Nat → Int32) (v_m_past : Nat → Int32) (v_m_images : Nat → Int32) (v_m_kept : Nat → Int32) (v_m_text : Nat → Int32) (v_m_sights : Nat → Int32) (v_m_book : Nat → Int32) (hI : IV v_x_reader_length v_x_reader_faultAt v_x_reader_letters v_x_plan_stands v_x_plan_lent v_x_plan_pipe v_x_plan_houses v_x_plan_room v_x_plan_daily v_x_plan_drain v_x_plan_above v_x_now_days v_x_now_spilled v_x_now_river v_x_now_kept v_x_now_away v_x_history_end v_x_history_count v_x_history_shelf_places v_x_history_shelf_cells v_x_images_storedSet v_x_images_shelf_places v_x_images_shelf_cells v_x_images_seeds v_x_draws_value v_x_notes_seen v_x_notes_entries v_x_notes_seenBy v_x_notes_seenCame v_x_notes_entryHouse v_x_notes_entryAmount v_m_undos v_m_seed v_m_size v_m_fault v_m_sightMany v_m_bookMany v_m_town v_m_now v_m_past v_m_images v_m_kept v_m_text v_m_sights v_m_book) (a1 : Int32) : ∃ (yx : Int32 × Int32 × Int32 × Int32 × (Nat → Int32) × (Nat → Int32) × Int32 × Int32 × (Nat → Int32)) (ym : Int32 × Int32 × (Nat → Int32) × (Nat → Int32)), (fX11_day v_x_plan_stands v_x_plan_lent v_x_plan_houses v_x_plan_room v_x_plan_daily v_x_now_days v_x_now_spilled v_x_now_river v_x_now_kept v_x_now_away v_x_history_end v_x_history_count v_x_history_shelf_places v_x_history_shelf_cells a1) = some yx ∧ (fX12_day v_m_undos v_m_town v_m_now v_m_past a1) = some ym ∧ yx.1 = ym.1 ∧ IV v_x_reader_length v_x_reader_faultAt v_x_reader_letters v_x_plan_stands v_x_plan_lent v_x_plan_pipe v_x_plan_houses v_x_plan_room v_x_plan_daily v_x_plan_drain v_x_plan_above yx.2.1 yx.2.2.1 yx.2.2.2.1 yx.2.2.2.2.1 yx.2.2.2.2.2.1 yx.2.2.2.2.2.2.1 yx.2.2.2.2.2.2.2.1 v_x_history_shelf_places yx.2.2.2.2.2.2.2.2 v_x_images_storedSet v_x_images_shelf_places v_x_images_shelf_cells v_x_images_seeds v_x_draws_value v_x_notes_seen v_x_notes_entries v_x_notes_seenBy v_x_notes_seenCame v_x_notes_entryHouse v_x_notes_entryAmount ym.2.1 v_m_seed v_m_size v_m_fault v_m_sightMany v_m_bookMany v_m_town ym.2.2.1 ym.2.2.2 v_m_images v_m_kept v_m_text v_m_sights v_m_book := by
  obtain ⟨i1, i2, i3, n, hP, hS, hB, hH, hM, hO⟩ := hI
  obtain ⟨r, r1, r2, r3⟩ := rz_ref hP hS.2.2.1 a1
  unfold fX11_day fX12_day
  rw [oz_b r1, oz_b r2]
  rcases Decidable.em (r = 0) with z | z
  · rw [if_pos z, if_pos z]
    obtain ⟨q, hd⟩ := r3 z
    have hP' := hP
    obtain ⟨P1, P2, P3, P4, P5, P6, P7, P8, P9, P10, P11, P12, P13, P14⟩ := hP
    obtain ⟨k, hk, rfl⟩ := mz_of (n := 31) (a := a1) ⟨by omega, by omega⟩
    have L : ∃ o o', oz_loop (fX11_day_b14 v_x_plan_lent v_x_plan_houses v_x_plan_room v_x_plan_daily v_x_history_shelf_places (nI k)) oz_fuel (0, v_x_now_days, v_x_now_spilled, v_x_now_river, v_x_now_kept, v_x_now_away, v_x_history_end, v_x_history_count, v_x_history_shelf_cells) = some o ∧ oz_loop (fX12_day_b14 v_m_town (nI k)) oz_fuel (0, v_m_undos, v_m_now, v_m_past) = some o' ∧ (pr_S o.2.2.2.2.1 o.2.2.2.2.2.1 o.2.1 o.2.2.1 o.2.2.2.1 o'.2.2.1 ∧ pr_B n v_x_plan_room 9030 o.2.2.2.2.1 o.2.2.2.2.2.1 o.2.1 o.2.2.1 o.2.2.2.1 ∧ iv_H n v_x_plan_room o.2.2.2.2.2.2.1 o.2.2.2.2.2.2.2.1 v_x_history_shelf_places o.2.2.2.2.2.2.2.2 o'.2.1 o'.2.2.2) := by
      refine oz_rel (fun (i : Nat) (v : Int32 × Int32 × Int32 × Int32 × (Nat → Int32) × (Nat → Int32) × Int32 × Int32 × (Nat → Int32)) (w : Int32 × Int32 × (Nat → Int32) × (Nat → Int32)) => v.1 = nI i ∧ w.1 = nI i ∧ pr_S v.2.2.2.2.1 v.2.2.2.2.2.1 v.2.1 v.2.2.1 v.2.2.2.1 w.2.2.1 ∧ pr_B n v_x_plan_room (9000 + (i : Int)) v.2.2.2.2.1 v.2.2.2.2.2.1 v.2.1 v.2.2.1 v.2.2.2.1 ∧ iv_H n v_x_plan_room v.2.2.2.2.2.2.1 v.2.2.2.2.2.2.2.1 v_x_history_shelf_places v.2.2.2.2.2.2.2.2 w.2.1 w.2.2.2)
        (fun (o : Int32 × Int32 × Int32 × Int32 × (Nat → Int32) × (Nat → Int32) × Int32 × Int32 × (Nat → Int32)) (o' : Int32 × Int32 × (Nat → Int32) × (Nat → Int32)) => pr_S o.2.2.2.2.1 o.2.2.2.2.2.1 o.2.1 o.2.2.1 o.2.2.2.1 o'.2.2.1 ∧ pr_B n v_x_plan_room 9030 o.2.2.2.2.1 o.2.2.2.2.2.1 o.2.1 o.2.2.1 o.2.2.2.1 ∧ iv_H n v_x_plan_room o.2.2.2.2.2.2.1 o.2.2.2.2.2.2.2.1 v_x_history_shelf_places o.2.2.2.2.2.2.2.2 o'.2.1 o'.2.2.2) k (by omega) ?_ ?_ ⟨rfl, rfl, hS, ?_, hH⟩
      · intro i v w hi hv
        obtain ⟨e1, e2, e3, e4, e5⟩ := hv
        obtain ⟨y, y', y1, y2, y3⟩ := hx_rem P1 e5 e3 (pr_B_mono (by omega) e4)
        obtain ⟨g, g', g1, g2, g3, g4⟩ := dz_day P1 P4 P3 P6 P7 P9 (by omega) e3 e4 (-1) 0 (by decide)
        left
        refine ⟨(v.1 + 1, g.1, g.2.1, g.2.2.1, g.2.2.2.1, g.2.2.2.2, y.1, y.2.1, y.2.2), (w.1 + 1, y'.1, g', y'.2), ?_, ?_, by rw [e1]; exact nI_1 i, by rw [e2]; exact nI_1 i, g3, ?_, y3⟩
        · unfold fX11_day_b14
          rw [if_neg (by rw [e1]; exact nI_ge hi (by omega)), oz_b y1, P2, oz_b g1]
        · unfold fX12_day_b14
          rw [if_neg (by rw [e2]; exact nI_ge hi (by omega)), oz_b y2, oz_b g2]
        · exact pr_B_mono (by omega) g4
      · intro v w hv
        obtain ⟨e1, e2, e3, e4, e5⟩ := hv
        refine ⟨v, w, ?_, ?_, e3, pr_B_mono (by omega) e4, e5⟩
        · unfold fX11_day_b14
          rw [if_pos (by rw [e1]; exact nI_le (Nat.le_refl k) (by omega))]
        · unfold fX12_day_b14
          rw [if_pos (by rw [e2]; exact nI_le (Nat.le_refl k) (by omega))]
      · obtain ⟨b1, b2, b3, b4, b5⟩ := hB
        exact ⟨b1, b2, b3, ⟨b4.1, by dsimp only; omega⟩, b5⟩
    obtain ⟨o, o', o1, o2, o3, o4, o5⟩ := L
    obtain ⟨u1, u2⟩ := rz_sum hP' o3 o4
    rw [oz_b o1, oz_b o2, oz_b u1, oz_b u2]
    exact ⟨_, _, rfl, rfl, rfl, i1, i2, i3, n, hP', o3, o4, o5, hM, hO⟩
  · rw [if_neg z, if_neg z]
    exact ⟨_, _, rfl, rfl, rfl, i1, i2, i3, n, hP, hS, hB, hH, hM, hO⟩
theorem sp_hour (v_x_reader_length : Int32) (v_x_reader_faultAt : Int32) (v_x_reader_letters : Nat → Int32) (v_x_plan_stands : Int32) (v_x_plan_lent : Int32) (v_x_plan_pipe : Int32) (v_x_plan_houses : Int32) (v_x_plan_room : Nat → Int32) (v_x_plan_daily : Nat → Int32) (v_x_plan_drain : Nat → Int32) (v_x_plan_above : Nat → Int32) (v_x_now_days : Int32) (v_x_now_spilled : Int32) (v_x_now_river : Int32) (v_x_now_kept : Nat → Int32) (v_x_now_away : Nat → Int32) (v_x_history_end : Int32) (v_x_history_count : Int32) (v_x_history_shelf_places : Int32) (v_x_history_shelf_cells : Nat → Int32) (v_x_images_storedSet : Int32) (v_x_images_shelf_places : Int32) (v_x_images_shelf_cells : Nat → Int32) (v_x_images_seeds : Nat → Int32) (v_x_draws_value : Int32) (v_x_notes_seen : Int32) (v_x_notes_entries : Int32) (v_x_notes_seenBy : Nat → Int32) (v_x_notes_seenCame : Nat → Int32) (v_x_notes_entryHouse : Nat → Int32) (v_x_notes_entryAmount : Nat → Int32) (v_m_undos : Int32) (v_m_seed : Int64) (v_m_size : Int32) (v_m_fault : Int32) (v_m_sightMany : Int32) (v_m_bookMany : Int32) (v_m_town : Nat → Int32) (v_m_now : Nat → Int32) (v_m_past : Nat → Int32) (v_m_images : Nat → Int32) (v_m_kept : Nat → Int32) (v_m_text : Nat → Int32) (v_m_sights : Nat → Int32) (v_m_book : Nat → Int32) (v_m_went : Nat → Int32) (hI : IV v_x_reader_length v_x_reader_faultAt v_x_reader_letters v_x_plan_stands v_x_plan_lent v_x_plan_pipe v_x_plan_houses v_x_plan_room v_x_plan_daily v_x_plan_drain v_x_plan_above v_x_now_days v_x_now_spilled v_x_now_river v_x_now_kept v_x_now_away v_x_history_end v_x_history_count v_x_history_shelf_places v_x_history_shelf_cells v_x_images_storedSet v_x_images_shelf_places v_x_images_shelf_cells v_x_images_seeds v_x_draws_value v_x_notes_seen v_x_notes_entries v_x_notes_seenBy v_x_notes_seenCame v_x_notes_entryHouse v_x_notes_entryAmount v_m_undos v_m_seed v_m_size v_m_fault v_m_sightMany v_m_bookMany v_m_town v_m_now v_m_past v_m_images v_m_kept v_m_text v_m_sights v_m_book) (a1 : Int32) : ∃ (yx : Int32 × Int32 × Int32 × (Nat → Int32) × Int32 × Int32 × (Nat → Int32)) (ym : Int32 × Int32 × (Nat → Int32) × (Nat → Int32) × (Nat → Int32)), (fX11_hour v_x_plan_stands v_x_plan_lent v_x_plan_pipe v_x_plan_houses v_x_plan_room v_x_plan_drain v_x_now_days v_x_now_spilled v_x_now_river v_x_now_kept v_x_now_away v_x_history_end v_x_history_count v_x_history_shelf_places v_x_history_shelf_cells a1) = some yx ∧ (fX12_hour v_m_undos v_m_town v_m_now v_m_past v_m_went a1) = some ym ∧ yx.1 = ym.1 ∧ IV v_x_reader_length v_x_reader_faultAt v_x_reader_letters v_x_plan_stands v_x_plan_lent v_x_plan_pipe v_x_plan_houses v_x_plan_room v_x_plan_daily v_x_plan_drain v_x_plan_above v_x_now_days yx.2.1 yx.2.2.1 yx.2.2.2.1 v_x_now_away yx.2.2.2.2.1 yx.2.2.2.2.2.1 v_x_history_shelf_places yx.2.2.2.2.2.2 v_x_images_storedSet v_x_images_shelf_places v_x_images_shelf_cells v_x_images_seeds v_x_draws_value v_x_notes_seen v_x_notes_entries v_x_notes_seenBy v_x_notes_seenCame v_x_notes_entryHouse v_x_notes_entryAmount ym.2.1 v_m_seed v_m_size v_m_fault v_m_sightMany v_m_bookMany v_m_town ym.2.2.1 ym.2.2.2.1 v_m_images v_m_kept v_m_text v_m_sights v_m_book := by
  obtain ⟨i1, i2, i3, n, hP, hS, hB, hH, hM, hO⟩ := hI
  have hP' := hP
  obtain ⟨P1, P2, P3, P4, P5, P6, P7, P8, P9, P10, P11, P12, P13, P14⟩ := hP
  have e30 : (30 : Int32).toInt = 30 := by decide
  have l30 : (30 : Int64).toInt = 30 := by decide
  have l1 : (1 : Int64).toInt = 1 := by decide
  have lf : fX12_isLent v_m_town v_m_now = fX11_isLent v_x_plan_lent v_x_now_days := by
    unfold fX12_isLent fX11_isLent
    rw [pz_c0, pz_c16, P4, hS.2.2.1]
  unfold fX11_hour fX12_hour
  rw [lf, pz_c0, P4]
  rcases Decidable.em (1 ≤ a1.toInt ∧ a1.toInt ≤ 30) with q | q
  · rw [if_neg (fun z => by rw [pz_lt, pz_i1] at z; omega), if_pos (by rw [pz_le, e30]; omega), oz_b (mz_in1 (by rw [mz_64, l1, l30]; exact q)), if_neg (show ¬ (1 : Int32) = 0 by decide)]
    rcases P14 with ⟨z1, z2⟩ | ⟨z1, z2, z3⟩
    · rw [if_neg (show ¬ v_x_plan_stands = 0 by rw [z1]; decide), if_neg (show ¬ v_x_plan_lent = 0 from fun z => by rw [z, pz_i0] at z2; omega)]
      rcases Decidable.em (v_x_plan_lent ≤ v_x_now_days) with y | y
      · have eL : fX11_isLent v_x_plan_lent v_x_now_days = some 0 := if_pos y
        rw [oz_b eL, oz_b eL, if_pos rfl, if_pos rfl]
        obtain ⟨k, hk, rfl⟩ := mz_of (n := 31) (a := a1) ⟨by omega, by omega⟩
        have L : ∃ o o', oz_loop (fX11_hour_b36 v_x_plan_pipe v_x_plan_houses v_x_plan_room v_x_plan_drain v_x_now_days v_x_now_away v_x_history_shelf_places (nI k)) oz_fuel (0, v_x_now_spilled, v_x_now_river, v_x_now_kept, v_x_history_end, v_x_history_count, v_x_history_shelf_cells) = some o ∧ oz_loop (fX12_hour_b40 v_m_town (nI k)) oz_fuel (0, v_m_undos, v_m_now, v_m_past, v_m_went) = some o' ∧ (pr_S o.2.2.2.1 v_x_now_away v_x_now_days o.2.1 o.2.2.1 o'.2.2.1 ∧ pr_B n v_x_plan_room 9030 o.2.2.2.1 v_x_now_away v_x_now_days o.2.1 o.2.2.1 ∧ iv_H n v_x_plan_room o.2.2.2.2.1 o.2.2.2.2.2.1 v_x_history_shelf_places o.2.2.2.2.2.2 o'.2.1 o'.2.2.2.1) := by
          refine oz_rel (fun (i : Nat) (v : Int32 × Int32 × Int32 × (Nat → Int32) × Int32 × Int32 × (Nat → Int32)) (w : Int32 × Int32 × (Nat → Int32) × (Nat → Int32) × (Nat → Int32)) => v.1 = nI i ∧ w.1 = nI i ∧ pr_S v.2.2.2.1 v_x_now_away v_x_now_days v.2.1 v.2.2.1 w.2.2.1 ∧ pr_B n v_x_plan_room 9030 v.2.2.2.1 v_x_now_away v_x_now_days v.2.1 v.2.2.1 ∧ iv_H n v_x_plan_room v.2.2.2.2.1 v.2.2.2.2.2.1 v_x_history_shelf_places v.2.2.2.2.2.2 w.2.1 w.2.2.2.1)
            (fun (o : Int32 × Int32 × Int32 × (Nat → Int32) × Int32 × Int32 × (Nat → Int32)) (o' : Int32 × Int32 × (Nat → Int32) × (Nat → Int32) × (Nat → Int32)) => pr_S o.2.2.2.1 v_x_now_away v_x_now_days o.2.1 o.2.2.1 o'.2.2.1 ∧ pr_B n v_x_plan_room 9030 o.2.2.2.1 v_x_now_away v_x_now_days o.2.1 o.2.2.1 ∧ iv_H n v_x_plan_room o.2.2.2.2.1 o.2.2.2.2.2.1 v_x_history_shelf_places o.2.2.2.2.2.2 o'.2.1 o'.2.2.2.1) k (by omega) ?_ ?_ ⟨rfl, rfl, hS, hB, hH⟩
          · intro i v w hi hv
            obtain ⟨e1, e2, e3, e4, e5⟩ := hv
            obtain ⟨y, y', y1, y2, y3⟩ := hx_rem P1 e5 e3 e4
            obtain ⟨g, g', g1, g2, g3, g4⟩ := hz_hour P1 P5 P3 P6 P8 P9 P10 P12 e3 e4 w.2.2.2.2
            left
            refine ⟨(v.1 + 1, g.1, g.2.1, g.2.2, y.1, y.2.1, y.2.2), (w.1 + 1, y'.1, g'.2, y'.2, g'.1), ?_, ?_, by rw [e1]; exact nI_1 i, by rw [e2]; exact nI_1 i, g3, g4, y3⟩
            · unfold fX11_hour_b36
              rw [if_neg (by rw [e1]; exact nI_ge hi (by omega)), oz_b y1, P2, oz_b g1]
            · unfold fX12_hour_b40
              rw [if_neg (by rw [e2]; exact nI_ge hi (by omega)), oz_b y2, oz_b g2]
          · intro v w hv
            obtain ⟨e1, e2, e3, e4, e5⟩ := hv
            refine ⟨v, w, ?_, ?_, e3, e4, e5⟩
            · unfold fX11_hour_b36
              rw [if_pos (by rw [e1]; exact nI_le (Nat.le_refl k) (by omega))]
            · unfold fX12_hour_b40
              rw [if_pos (by rw [e2]; exact nI_le (Nat.le_refl k) (by omega))]
        obtain ⟨o, o', o1, o2, o3, o4, o5⟩ := L
        obtain ⟨u1, u2⟩ := rz_sum hP' o3 o4
        rw [oz_b o1, oz_b o2, oz_b u1, oz_b u2]
        exact ⟨_, _, rfl, rfl, rfl, i1, i2, i3, n, hP', o3, o4, o5, hM, hO⟩
      · have eL : fX11_isLent v_x_plan_lent v_x_now_days = some 1 := if_neg y
        rw [oz_b eL, oz_b eL, if_neg (show ¬ (1 : Int32) = 0 by decide), if_neg (show ¬ (1 : Int32) = 0 by decide)]
        exact ⟨_, _, rfl, rfl, rfl, i1, i2, i3, n, hP', hS, hB, hH, hM, hO⟩
    · rw [if_pos z1, if_pos z2]
      exact ⟨_, _, rfl, rfl, rfl, i1, i2, i3, n, hP', hS, hB, hH, hM, hO⟩
  · rw [oz_b (mz_in0 (by rw [mz_64, l1, l30]; exact q)), if_pos rfl]
    refine ⟨(-1000000002, v_x_now_spilled, v_x_now_river, v_x_now_kept, v_x_history_end, v_x_history_count, v_x_history_shelf_cells), _, ?_, rfl, rfl, i1, i2, i3, n, hP', hS, hB, hH, hM, hO⟩
    rcases Decidable.em (a1 < 1) with y | y
    · rw [if_pos y]
    · rw [if_neg y]
      rw [pz_lt, pz_i1] at y
      rw [if_neg (by rw [pz_le, e30]; omega)]
theorem sp_aunt (v_x_reader_length : Int32) (v_x_reader_faultAt : Int32) (v_x_reader_letters : Nat → Int32) (v_x_plan_stands : Int32) (v_x_plan_lent : Int32) (v_x_plan_pipe : Int32) (v_x_plan_houses : Int32) (v_x_plan_room : Nat → Int32) (v_x_plan_daily : Nat → Int32) (v_x_plan_drain : Nat → Int32) (v_x_plan_above : Nat → Int32) (v_x_now_days : Int32) (v_x_now_spilled : Int32) (v_x_now_river : Int32) (v_x_now_kept : Nat → Int32) (v_x_now_away : Nat → Int32) (v_x_history_end : Int32) (v_x_history_count : Int32) (v_x_history_shelf_places : Int32) (v_x_history_shelf_cells : Nat → Int32) (v_x_images_storedSet : Int32) (v_x_images_shelf_places : Int32) (v_x_images_shelf_cells : Nat → Int32) (v_x_images_seeds : Nat → Int32) (v_x_draws_value : Int32) (v_x_notes_seen : Int32) (v_x_notes_entries : Int32) (v_x_notes_seenBy : Nat → Int32) (v_x_notes_seenCame : Nat → Int32) (v_x_notes_entryHouse : Nat → Int32) (v_x_notes_entryAmount : Nat → Int32) (v_m_undos : Int32) (v_m_seed : Int64) (v_m_size : Int32) (v_m_fault : Int32) (v_m_sightMany : Int32) (v_m_bookMany : Int32) (v_m_town : Nat → Int32) (v_m_now : Nat → Int32) (v_m_past : Nat → Int32) (v_m_images : Nat → Int32) (v_m_kept : Nat → Int32) (v_m_text : Nat → Int32) (v_m_sights : Nat → Int32) (v_m_book : Nat → Int32) (hI : IV v_x_reader_length v_x_reader_faultAt v_x_reader_letters v_x_plan_stands v_x_plan_lent v_x_plan_pipe v_x_plan_houses v_x_plan_room v_x_plan_daily v_x_plan_drain v_x_plan_above v_x_now_days v_x_now_spilled v_x_now_river v_x_now_kept v_x_now_away v_x_history_end v_x_history_count v_x_history_shelf_places v_x_history_shelf_cells v_x_images_storedSet v_x_images_shelf_places v_x_images_shelf_cells v_x_images_seeds v_x_draws_value v_x_notes_seen v_x_notes_entries v_x_notes_seenBy v_x_notes_seenCame v_x_notes_entryHouse v_x_notes_entryAmount v_m_undos v_m_seed v_m_size v_m_fault v_m_sightMany v_m_bookMany v_m_town v_m_now v_m_past v_m_images v_m_kept v_m_text v_m_sights v_m_book) (a1 : Int32) (a2 : Int32) : ∃ (yx : Int32 × (Nat → Int32) × Int32 × Int32 × (Nat → Int32)) (ym : Int32 × Int32 × (Nat → Int32) × (Nat → Int32)), (fX11_aunt v_x_plan_houses v_x_now_days v_x_now_spilled v_x_now_river v_x_now_kept v_x_now_away v_x_history_end v_x_history_count v_x_history_shelf_places v_x_history_shelf_cells a1 a2) = some yx ∧ (fX12_aunt v_m_undos v_m_town v_m_now v_m_past a1 a2) = some ym ∧ yx.1 = ym.1 ∧ IV v_x_reader_length v_x_reader_faultAt v_x_reader_letters v_x_plan_stands v_x_plan_lent v_x_plan_pipe v_x_plan_houses v_x_plan_room v_x_plan_daily v_x_plan_drain v_x_plan_above v_x_now_days v_x_now_spilled v_x_now_river v_x_now_kept yx.2.1 yx.2.2.1 yx.2.2.2.1 v_x_history_shelf_places yx.2.2.2.2 v_x_images_storedSet v_x_images_shelf_places v_x_images_shelf_cells v_x_images_seeds v_x_draws_value v_x_notes_seen v_x_notes_entries v_x_notes_seenBy v_x_notes_seenCame v_x_notes_entryHouse v_x_notes_entryAmount ym.2.1 v_m_seed v_m_size v_m_fault v_m_sightMany v_m_bookMany v_m_town ym.2.2.1 ym.2.2.2 v_m_images v_m_kept v_m_text v_m_sights v_m_book := by
  obtain ⟨i1, i2, i3, n, hP, hS, hB, hH, hM, hO⟩ := hI
  have hP' := hP
  obtain ⟨P1, P2, P3, P4⟩ := hP
  have e60 : (60 : Int32).toInt = 60 := by decide
  have l60 : (60 : Int64).toInt = 60 := by decide
  obtain ⟨y, y', y1, y2, y3⟩ := hx_rem P1 hH hS hB
  have hU : fX6_has v_x_plan_houses a1 = fX6_has (nI n) a1 := by rw [P2]
  unfold fX11_aunt fX12_aunt
  rw [hU]
  rcases Decidable.em (0 ≤ a1.toInt ∧ a1.toInt < n) with q | q
  · rw [oz_b (mz_has1 P1 q), oz_b (mz_isHouse1 P1 P3 q), if_neg (show ¬ (1 : Int32) = 0 by decide), if_neg (show ¬ (1 : Int32) = 0 by decide)]
    obtain ⟨h, hh, rfl⟩ := mz_of q
    rcases Decidable.em (0 ≤ a2.toInt ∧ a2.toInt ≤ 60) with z | z
    · rw [if_neg (fun x => by rw [pz_lt, pz_i0] at x; omega), if_pos (by rw [pz_le, e60]; omega), oz_b (mz_in1 (by rw [mz_64, mz_l0, l60]; exact z)), if_neg (show ¬ (1 : Int32) = 0 by decide), oz_b y1, oz_b y2, pz_a8, if_neg (pz_ix (show h < 8 by omega) (by omega)), if_neg (pz_ix (show 8 + h < 19 by omega) (by omega)), pz_ncl (by omega), pz_ncl (by omega)]
      obtain ⟨s1, s2, s3, s4, s5⟩ := hS
      obtain ⟨b1, b2, b3, b4⟩ := hB
      refine ⟨_, _, rfl, rfl, (s2 h (by omega)).symm, i1, i2, i3, n, hP', ⟨?_, ?_, ?_, ?_, ?_⟩, ⟨b1, ?_, ?_, b4⟩, y3, hM, hO⟩
      · intro g hg
        dsimp only
        rw [pk_un (show g ≠ 8 + h by omega)]; exact s1 g hg
      · intro g hg
        dsimp only
        rcases Decidable.em (g = h) with x | x
        · subst x; rw [pk_us, pk_us]
        · rw [pk_un (show 8 + g ≠ 8 + h by omega), pk_un x]; exact s2 g hg
      · dsimp only
        rw [pk_un (show 16 ≠ 8 + h by omega)]; exact s3
      · dsimp only
        rw [pk_un (show 17 ≠ 8 + h by omega)]; exact s4
      · dsimp only
        rw [pk_un (show 18 ≠ 8 + h by omega)]; exact s5
      · intro g g1 g2
        dsimp only
        rw [pk_un (show g ≠ h by omega)]; exact b2 g g1 g2
      · intro g hg
        dsimp only
        rcases Decidable.em (g = h) with x | x
        · subst x; rw [pk_us]; exact z
        · rw [pk_un x]; exact b3 g hg
    · rw [oz_b (mz_in0 (by rw [mz_64, mz_l0, l60]; exact z)), if_pos rfl]
      refine ⟨(-1000000002, v_x_now_away, v_x_history_end, v_x_history_count, v_x_history_shelf_cells), _, ?_, rfl, rfl, i1, i2, i3, n, hP', hS, hB, hH, hM, hO⟩
      rcases Decidable.em (a2 < 0) with x | x
      · rw [if_pos x]
      · rw [if_neg x]
        rw [pz_lt, pz_i0] at x
        rw [if_neg (by rw [pz_le, e60]; omega)]
  · rw [oz_b (mz_has0 P1 q), oz_b (mz_isHouse0 P1 P3 q), if_pos rfl, if_pos rfl]
    exact ⟨_, _, rfl, rfl, rfl, i1, i2, i3, n, hP', hS, hB, hH, hM, hO⟩
