theorem sp_house (v_x_reader_length : Int32) (v_x_reader_faultAt : Int32) (v_x_reader_letters : Nat → Int32) (v_x_plan_stands : Int32) (v_x_plan_lent : Int32) (v_x_plan_pipe : Int32) (v_x_plan_houses : Int32) (v_x_plan_room : Nat → Int32) (v_x_plan_daily : Nat → Int32) (v_x_plan_drain : Nat → Int32) (v_x_plan_above : Nat → Int32) (v_x_now_days : Int32) (v_x_now_spilled : Int32) (v_x_now_river : Int32) (v_x_now_kept : Nat → Int32) (v_x_now_away : Nat → Int32) (v_x_history_end : Int32) (v_x_history_count : Int32) (v_x_history_shelf_places : Int32) (v_x_history_shelf_cells : Nat → Int32) (v_x_images_storedSet : Int32) (v_x_images_shelf_places : Int32) (v_x_images_shelf_cells : Nat → Int32) (v_x_images_seeds : Nat → Int32) (v_x_draws_value : Int32) (v_x_notes_seen : Int32) (v_x_notes_entries : Int32) (v_x_notes_seenBy : Nat → Int32) (v_x_notes_seenCame : Nat → Int32) (v_x_notes_entryHouse : Nat → Int32) (v_x_notes_entryAmount : Nat → Int32) (v_m_undos : Int32) (v_m_seed : Int64) (v_m_size : Int32) (v_m_fault : Int32) (v_m_sightMany : Int32) (v_m_bookMany : Int32) (v_m_town : Nat → Int32) (v_m_now : Nat → Int32) (v_m_past : Nat → Int32) (v_m_images : Nat → Int32) (v_m_kept : Nat → Int32) (v_m_text : Nat → Int32) (v_m_sights : Nat → Int32) (v_m_book : Nat → Int32) (hI : IV v_x_reader_length v_x_reader_faultAt v_x_reader_letters v_x_plan_stands v_x_plan_lent v_x_plan_pipe v_x_plan_houses v_x_plan_room v_x_plan_daily v_x_plan_drain v_x_plan_above v_x_now_days v_x_now_spilled v_x_now_river v_x_now_kept v_x_now_away v_x_history_end v_x_history_count v_x_history_shelf_places v_x_history_shelf_cells v_x_images_storedSet v_x_images_shelf_places v_x_images_shelf_cells v_x_images_seeds v_x_draws_value v_x_notes_seen v_x_notes_entries v_x_notes_seenBy v_x_notes_seenCame v_x_notes_entryHouse v_x_notes_entryAmount v_m_undos v_m_seed v_m_size v_m_fault v_m_sightMany v_m_bookMany v_m_town v_m_now v_m_past v_m_images v_m_kept v_m_text v_m_sights v_m_book) (a1 : Int32) (a2 : Int32) : ∃ (yx : Int32) (ym : Int32), (fX11_house v_x_plan_houses v_x_plan_room v_x_plan_daily v_x_plan_drain v_x_plan_above v_x_now_kept v_x_now_away a1 a2) = some yx ∧ (fX12_house v_m_town v_m_now a1 a2) = some ym ∧ yx = ym ∧ IV v_x_reader_length v_x_reader_faultAt v_x_reader_letters v_x_plan_stands v_x_plan_lent v_x_plan_pipe v_x_plan_houses v_x_plan_room v_x_plan_daily v_x_plan_drain v_x_plan_above v_x_now_days v_x_now_spilled v_x_now_river v_x_now_kept v_x_now_away v_x_history_end v_x_history_count v_x_history_shelf_places v_x_history_shelf_cells v_x_images_storedSet v_x_images_shelf_places v_x_images_shelf_cells v_x_images_seeds v_x_draws_value v_x_notes_seen v_x_notes_entries v_x_notes_seenBy v_x_notes_seenCame v_x_notes_entryHouse v_x_notes_entryAmount v_m_undos v_m_seed v_m_size v_m_fault v_m_sightMany v_m_bookMany v_m_town v_m_now v_m_past v_m_images v_m_kept v_m_text v_m_sights v_m_book := by
  have hI' := hI
  obtain ⟨_, _, _, n, ⟨P1, P2, P3, P4, P5, P6, P7, P8, P9, P10, P11, P12⟩, ⟨s1, s2, s3, s4, s5⟩, _⟩ := hI
  have E : ∃ y, fX11_house v_x_plan_houses v_x_plan_room v_x_plan_daily v_x_plan_drain v_x_plan_above v_x_now_kept v_x_now_away a1 a2 = some y ∧ fX12_house v_m_town v_m_now a1 a2 = some y := by
    unfold fX11_house fX12_house
    rw [P2]
    rcases Decidable.em (0 ≤ a1.toInt ∧ a1.toInt < n) with q | q
    · rw [oz_b (mz_has1 P1 q), oz_b (mz_isHouse1 P1 P3 q), if_neg (show ¬ (1 : Int32) = 0 by decide), if_neg (show ¬ (1 : Int32) = 0 by decide)]
      obtain ⟨h, hh, rfl⟩ := mz_of q
      have c0 : Int32.toNatClampNeg (nI h) = h := pz_ncl (by omega)
      have c3 : Int32.toNatClampNeg (nI (3 + h)) = 3 + h := pz_ncl (by omega)
      have c8 : Int32.toNatClampNeg (nI (8 + h)) = 8 + h := pz_ncl (by omega)
      have c11 : Int32.toNatClampNeg (nI (11 + h)) = 11 + h := pz_ncl (by omega)
      have c19 : Int32.toNatClampNeg (nI (19 + h)) = 19 + h := pz_ncl (by omega)
      simp only [pz_a3, pz_a8, pz_a11, pz_a19, pz_0a]
      simp only [if_neg (pz_ix (show h < 8 by omega) (by omega)), if_neg (pz_ix (show 3 + h < 27 by omega) (by omega)), if_neg (pz_ix (show 11 + h < 27 by omega) (by omega)), if_neg (pz_ix (show 19 + h < 27 by omega) (by omega)), if_neg (pz_ix (show h < 19 by omega) (by omega)), if_neg (pz_ix (show 8 + h < 19 by omega) (by omega))]
      simp only [c0, c3, c8, c11, c19, P6 h hh, P7 h hh, P8 h hh, s1 h (by omega), s2 h (by omega), P11 h hh]
      rcases Decidable.em (a2 = 0) with z | z
      · simp only [if_pos z]; exact ⟨_, rfl, rfl⟩
      simp only [if_neg z]; clear z
      rcases Decidable.em (a2 = 1) with z | z
      · simp only [if_pos z]; exact ⟨_, rfl, rfl⟩
      simp only [if_neg z]; clear z
      rcases Decidable.em (a2 = 2) with z | z
      · simp only [if_pos z]; exact ⟨_, rfl, rfl⟩
      simp only [if_neg z]; clear z
      rcases Decidable.em (a2 = 3) with z | z
      · simp only [if_pos z]; exact ⟨_, rfl, rfl⟩
      simp only [if_neg z]; clear z
      rcases Decidable.em (a2 = 4) with z | z
      · simp only [if_pos z]; exact ⟨_, rfl, rfl⟩
      simp only [if_neg z]; clear z
      rcases Decidable.em (a2 = 5) with z | z
      · simp only [if_pos z]; exact ⟨_, rfl, rfl⟩
      simp only [if_neg z]
      exact ⟨_, rfl, rfl⟩
    · rw [oz_b (mz_has0 P1 q), oz_b (mz_isHouse0 P1 P3 q), if_pos rfl, if_pos rfl]
      exact ⟨_, rfl, rfl⟩
  obtain ⟨y, y1, y2⟩ := E
  exact ⟨y, y, y1, y2, rfl, hI'⟩
theorem sp_dry (v_x_reader_length : Int32) (v_x_reader_faultAt : Int32) (v_x_reader_letters : Nat → Int32) (v_x_plan_stands : Int32) (v_x_plan_lent : Int32) (v_x_plan_pipe : Int32) (v_x_plan_houses : Int32) (v_x_plan_room : Nat → Int32) (v_x_plan_daily : Nat → Int32) (v_x_plan_drain : Nat → Int32) (v_x_plan_above : Nat → Int32) (v_x_now_days : Int32) (v_x_now_spilled : Int32) (v_x_now_river : Int32) (v_x_now_kept : Nat → Int32) (v_x_now_away : Nat → Int32) (v_x_history_end : Int32) (v_x_history_count : Int32) (v_x_history_shelf_places : Int32) (v_x_history_shelf_cells : Nat → Int32) (v_x_images_storedSet : Int32) (v_x_images_shelf_places : Int32) (v_x_images_shelf_cells : Nat → Int32) (v_x_images_seeds : Nat → Int32) (v_x_draws_value : Int32) (v_x_notes_seen : Int32) (v_x_notes_entries : Int32) (v_x_notes_seenBy : Nat → Int32) (v_x_notes_seenCame : Nat → Int32) (v_x_notes_entryHouse : Nat → Int32) (v_x_notes_entryAmount : Nat → Int32) (v_m_undos : Int32) (v_m_seed : Int64) (v_m_size : Int32) (v_m_fault : Int32) (v_m_sightMany : Int32) (v_m_bookMany : Int32) (v_m_town : Nat → Int32) (v_m_now : Nat → Int32) (v_m_past : Nat → Int32) (v_m_images : Nat → Int32) (v_m_kept : Nat → Int32) (v_m_text : Nat → Int32) (v_m_sights : Nat → Int32) (v_m_book : Nat → Int32) (hI : IV v_x_reader_length v_x_reader_faultAt v_x_reader_letters v_x_plan_stands v_x_plan_lent v_x_plan_pipe v_x_plan_houses v_x_plan_room v_x_plan_daily v_x_plan_drain v_x_plan_above v_x_now_days v_x_now_spilled v_x_now_river v_x_now_kept v_x_now_away v_x_history_end v_x_history_count v_x_history_shelf_places v_x_history_shelf_cells v_x_images_storedSet v_x_images_shelf_places v_x_images_shelf_cells v_x_images_seeds v_x_draws_value v_x_notes_seen v_x_notes_entries v_x_notes_seenBy v_x_notes_seenCame v_x_notes_entryHouse v_x_notes_entryAmount v_m_undos v_m_seed v_m_size v_m_fault v_m_sightMany v_m_bookMany v_m_town v_m_now v_m_past v_m_images v_m_kept v_m_text v_m_sights v_m_book) (a1 : Int32) (a2 : Int32) : ∃ (yx : Int32) (ym : Int32), (fX11_dry a1 a2) = some yx ∧ (fX12_dry a1 a2) = some ym ∧ yx = ym ∧ IV v_x_reader_length v_x_reader_faultAt v_x_reader_letters v_x_plan_stands v_x_plan_lent v_x_plan_pipe v_x_plan_houses v_x_plan_room v_x_plan_daily v_x_plan_drain v_x_plan_above v_x_now_days v_x_now_spilled v_x_now_river v_x_now_kept v_x_now_away v_x_history_end v_x_history_count v_x_history_shelf_places v_x_history_shelf_cells v_x_images_storedSet v_x_images_shelf_places v_x_images_shelf_cells v_x_images_seeds v_x_draws_value v_x_notes_seen v_x_notes_entries v_x_notes_seenBy v_x_notes_seenCame v_x_notes_entryHouse v_x_notes_entryAmount v_m_undos v_m_seed v_m_size v_m_fault v_m_sightMany v_m_bookMany v_m_town v_m_now v_m_past v_m_images v_m_kept v_m_text v_m_sights v_m_book := by
  have E : ∃ y, fX11_dry a1 a2 = some y ∧ fX12_dry a1 a2 = some y := by
    have e60 : (60 : Int32).toInt = 60 := by decide
    have l60 : (60 : Int64).toInt = 60 := by decide
    have e100 : (100 : Int32).toInt = 100 := by decide
    have l100 : (100 : Int64).toInt = 100 := by decide
    unfold fX11_dry fX12_dry
    rcases Decidable.em (0 ≤ a1.toInt ∧ a1.toInt ≤ 60) with q | q
    · rw [if_neg (fun z => by rw [pz_lt, pz_i0] at z; omega), if_neg (fun z => by rw [pz_lt, e60] at z; omega), oz_b (mz_in1 (by rw [mz_64, mz_l0, l60]; exact q)), if_neg (show ¬ (1 : Int32) = 0 by decide)]
      rcases Decidable.em (0 ≤ a2.toInt ∧ a2.toInt ≤ 100) with z | z
      · rw [if_neg (fun y => by rw [pz_lt, pz_i0] at y; omega), if_pos (by rw [pz_le, e100]; omega), oz_b (mz_in1 (by rw [mz_64, mz_l0, l100]; exact z)), if_neg (show ¬ (1 : Int32) = 0 by decide)]
        obtain ⟨k, hk, rfl⟩ := mz_of (n := 61) (a := a1) ⟨q.1, by omega⟩
        obtain ⟨o, h1, h2⟩ : ∃ o, oz_loop (fX11_dry_b30 (nI k) a2) oz_fuel (0, (1000000000 : Int64)) = some o ∧ True := by
          refine oz_inv (fun i v => v.1 = nI i) _ k (by omega) ?_ ?_ rfl
          · intro i v hi hv
            left
            refine ⟨(v.1 + 1, v.2 * Int32.toInt64 a2 / 100), ?_, ?_⟩
            · unfold fX11_dry_b30
              rw [hv, if_neg (nI_ge hi (by omega))]
            · dsimp only
              rw [hv]; exact nI_1 i
          · intro v hv
            refine ⟨(v.1, v.2), ?_, trivial⟩
            unfold fX11_dry_b30
            rw [hv, if_pos (nI_le (Nat.le_refl k) (by omega))]
        have e : fX12_dry_b34 (nI k) a2 = fX11_dry_b30 (nI k) a2 := rfl
        rw [e, oz_b h1]
        exact ⟨_, rfl, rfl⟩
      · rw [oz_b (mz_in0 (by rw [mz_64, mz_l0, l100]; exact z)), if_pos rfl]
        refine ⟨_, ?_, rfl⟩
        rcases Decidable.em (a2 < 0) with y | y
        · rw [if_pos y]
        · rw [if_neg y]
          rw [pz_lt, pz_i0] at y
          rw [if_neg (by rw [pz_le, e100]; omega)]
    · rw [oz_b (mz_in0 (by rw [mz_64, mz_l0, l60]; exact q)), if_pos rfl]
      refine ⟨_, ?_, rfl⟩
      rcases Decidable.em (a1 < 0) with y | y
      · rw [if_pos y]
      · rw [if_neg y]
        rw [pz_lt, pz_i0] at y
        rw [if_pos (by rw [pz_lt, e60]; omega)]
  obtain ⟨y, y1, y2⟩ := E
  exact ⟨y, y, y1, y2, rfl, hI⟩
theorem sp_see (v_x_reader_length : Int32) (v_x_reader_faultAt : Int32) (v_x_reader_letters : Nat → Int32) (v_x_plan_stands : Int32) (v_x_plan_lent : Int32) (v_x_plan_pipe : Int32) (v_x_plan_houses : Int32) (v_x_plan_room : Nat → Int32) (v_x_plan_daily : Nat → Int32) (v_x_plan_drain : Nat → Int32) (v_x_plan_above : Nat → Int32) (v_x_now_days : Int32) (v_x_now_spilled : Int32) (v_x_now_river : Int32) (v_x_now_kept : Nat → Int32) (v_x_now_away : Nat → Int32) (v_x_history_end : Int32) (v_x_history_count : Int32) (v_x_history_shelf_places : Int32) (v_x_history_shelf_cells : Nat → Int32) (v_x_images_storedSet : Int32) (v_x_images_shelf_places : Int32) (v_x_images_shelf_cells : Nat → Int32) (v_x_images_seeds : Nat → Int32) (v_x_draws_value : Int32) (v_x_notes_seen : Int32) (v_x_notes_entries : Int32) (v_x_notes_seenBy : Nat → Int32) (v_x_notes_seenCame : Nat → Int32) (v_x_notes_entryHouse : Nat → Int32) (v_x_notes_entryAmount : Nat → Int32) (v_m_undos : Int32) (v_m_seed : Int64) (v_m_size : Int32) (v_m_fault : Int32) (v_m_sightMany : Int32) (v_m_bookMany : Int32) (v_m_town : Nat → Int32) (v_m_now : Nat → Int32) (v_m_past : Nat → Int32) (v_m_images : Nat → Int32) (v_m_kept : Nat → Int32) (v_m_text : Nat → Int32) (v_m_sights : Nat → Int32) (v_m_book : Nat → Int32) (hI : IV v_x_reader_length v_x_reader_faultAt v_x_reader_letters v_x_plan_stands v_x_plan_lent v_x_plan_pipe v_x_plan_houses v_x_plan_room v_x_plan_daily v_x_plan_drain v_x_plan_above v_x_now_days v_x_now_spilled v_x_now_river v_x_now_kept v_x_now_away v_x_history_end v_x_history_count v_x_history_shelf_places v_x_history_shelf_cells v_x_images_storedSet v_x_images_shelf_places v_x_images_shelf_cells v_x_images_seeds v_x_draws_value v_x_notes_seen v_x_notes_entries v_x_notes_seenBy v_x_notes_seenCame v_x_notes_entryHouse v_x_notes_entryAmount v_m_undos v_m_seed v_m_size v_m_fault v_m_sightMany v_m_bookMany v_m_town v_m_now v_m_past v_m_images v_m_kept v_m_text v_m_sights v_m_book) (a1 : Int32) (a2 : Int32)  (h2 : a2 = 0 ∨ a2 = 1) : ∃ (yx : Int32 × Int32 × (Nat → Int32) × (Nat → Int32)) (ym : Int32 × Int32 × (Nat → Int32)), (fX11_see v_x_plan_houses v_x_notes_seen v_x_notes_seenBy v_x_notes_seenCame a1 a2) = some yx ∧ (fX12_see v_m_sightMany v_m_town v_m_sights a1 a2) = some ym ∧ yx.1 = ym.1 ∧ IV v_x_reader_length v_x_reader_faultAt v_x_reader_letters v_x_plan_stands v_x_plan_lent v_x_plan_pipe v_x_plan_houses v_x_plan_room v_x_plan_daily v_x_plan_drain v_x_plan_above v_x_now_days v_x_now_spilled v_x_now_river v_x_now_kept v_x_now_away v_x_history_end v_x_history_count v_x_history_shelf_places v_x_history_shelf_cells v_x_images_storedSet v_x_images_shelf_places v_x_images_shelf_cells v_x_images_seeds v_x_draws_value yx.2.1 v_x_notes_entries yx.2.2.1 yx.2.2.2 v_x_notes_entryHouse v_x_notes_entryAmount v_m_undos v_m_seed v_m_size v_m_fault ym.2.1 v_m_bookMany v_m_town v_m_now v_m_past v_m_images v_m_kept v_m_text ym.2.2 v_m_book := by
  obtain ⟨i1, i2, i3, n, ⟨P1, P2, P3, P4⟩, p2, p3, p4, p5, a, c, o1, o2, o3, o4, o5, o6, o7, o8⟩ := hI
  unfold fX11_see fX12_see
  rw [P2]
  rcases Decidable.em (0 ≤ a1.toInt ∧ a1.toInt < n) with q | q
  · rw [oz_b (mz_has1 P1 q), oz_b (mz_isHouse1 P1 P3 q), if_neg (show ¬ (1 : Int32) = 0 by decide), if_neg (show ¬ (1 : Int32) = 0 by decide)]
    obtain ⟨h, hh, rfl⟩ := mz_of q
    rcases Nat.lt_or_ge a 6 with ha | ha
    · have vn : vp_nar .boolean a2 = a2 := by rcases h2 with rfl | rfl <;> rfl
      have e1 : fX5_addSeen v_x_notes_seen v_x_notes_seenBy v_x_notes_seenCame (nI h) a2 = some (1, nI (a + 1), upd v_x_notes_seenBy a (nI h), upd v_x_notes_seenCame a a2) := by
        unfold fX5_addSeen
        rw [o3, if_pos (show nI a < 6 from (nI_lt (b := 6) ha (by omega) : nI a < nI 6)), if_neg (pz_ix ha (by omega)), pz_ncl (by omega), nI_1, vn]
      have e2 : ¬ nI a = 6 := fun z => by have := (nI_eq (a := a) (b := 6) (by omega) (by omega)).mp z; omega
      have m2 : (2 : Int32) * nI a = nI (2 * a) := pk_mul 2 a
      have m3 : nI (2 * a) + 1 = nI (2 * a + 1) := nI_1 (2 * a)
      refine ⟨(nI (a + 1), nI (a + 1), upd v_x_notes_seenBy a (nI h), upd v_x_notes_seenCame a a2), (nI (a + 1), nI (a + 1), upd (upd v_m_sights (2 * a) (nI h)) (2 * a + 1) a2), ?_, ?_, rfl, i1, i2, i3, n, ⟨P1, rfl, P3, P4⟩, p2, p3, p4, p5, a + 1, c, by omega, o2, rfl, rfl, o5, o6, ?_, o8⟩
      · rw [oz_b e1]
        exact if_neg (show ¬ (1 : Int32) = 0 by decide)
      · rw [o4, if_neg e2]
        simp only [m2, m3, nI_1]
        have c2 : Int32.toNatClampNeg (nI (2 * a)) = 2 * a := pz_ncl (by omega)
        have c3 : Int32.toNatClampNeg (nI (2 * a + 1)) = 2 * a + 1 := pz_ncl (by omega)
        simp only [if_neg (pz_ix (show 2 * a < 12 by omega) (by omega)), if_neg (pz_ix (show 2 * a + 1 < 12 by omega) (by omega))]
        simp only [c2, c3]
        rcases h2 with rfl | rfl
        · rw [if_pos rfl]
        · rw [if_neg (show ¬ (1 : Int32) = 0 by decide)]
      · intro j hj
        dsimp only
        rcases Decidable.em (j = a) with z | z
        · subst z
          rw [pk_us, pk_us, pk_un (show 2 * j ≠ 2 * j + 1 by omega), pk_us, pk_us]
          exact ⟨⟨h, hh, rfl⟩, rfl, rfl, h2⟩
        · rw [pk_un z, pk_un z, pk_un (show 2 * j ≠ 2 * a + 1 by omega), pk_un (show 2 * j ≠ 2 * a by omega), pk_un (show 2 * j + 1 ≠ 2 * a + 1 by omega), pk_un (show 2 * j + 1 ≠ 2 * a by omega)]
          exact o7 j (by omega)
    · have ha6 : a = 6 := by omega
      subst ha6
      have e1 : fX5_addSeen v_x_notes_seen v_x_notes_seenBy v_x_notes_seenCame (nI h) a2 = some (0, v_x_notes_seen, v_x_notes_seenBy, v_x_notes_seenCame) := by
        unfold fX5_addSeen
        rw [o3, if_neg (show ¬ nI 6 < 6 by decide)]
      refine ⟨(-1000000004, v_x_notes_seen, v_x_notes_seenBy, v_x_notes_seenCame), (-1000000004, v_m_sightMany, v_m_sights), ?_, ?_, rfl, i1, i2, i3, n, ⟨P1, rfl, P3, P4⟩, p2, p3, p4, p5, 6, c, o1, o2, o3, o4, o5, o6, o7, o8⟩
      · rw [oz_b e1]
        exact if_pos rfl
      · rw [if_pos (show v_m_sightMany = 6 from o4)]
  · rw [oz_b (mz_has0 P1 q), oz_b (mz_isHouse0 P1 P3 q), if_pos rfl, if_pos rfl]
    exact ⟨(_, _, _, _), (_, _, _), rfl, rfl, rfl, i1, i2, i3, n, ⟨P1, rfl, P3, P4⟩, p2, p3, p4, p5, a, c, o1, o2, o3, o4, o5, o6, o7, o8⟩
theorem sp_write (v_x_reader_length : Int32) (v_x_reader_faultAt : Int32) (v_x_reader_letters : Nat → Int32) (v_x_plan_stands : Int32) (v_x_plan_lent : Int32) (v_x_plan_pipe : Int32) (v_x_plan_houses : Int32) (v_x_plan_room : Nat → Int32) (v_x_plan_daily : Nat → Int32) (v_x_plan_drain : Nat → Int32) (v_x_plan_above : Nat → Int32) (v_x_now_days : Int32) (v_x_now_spilled : Int32) (v_x_now_river : Int32) (v_x_now_kept : Nat → Int32) (v_x_now_away : Nat → Int32) (v_x_history_end : Int32) (v_x_history_count : Int32) (v_x_history_shelf_places : Int32) (v_x_history_shelf_cells : Nat → Int32) (v_x_images_storedSet : Int32) (v_x_images_shelf_places : Int32) (v_x_images_shelf_cells : Nat → Int32) (v_x_images_seeds : Nat → Int32) (v_x_draws_value : Int32) (v_x_notes_seen : Int32) (v_x_notes_entries : Int32) (v_x_notes_seenBy : Nat → Int32) (v_x_notes_seenCame : Nat → Int32) (v_x_notes_entryHouse : Nat → Int32) (v_x_notes_entryAmount : Nat → Int32) (v_m_undos : Int32) (v_m_seed : Int64) (v_m_size : Int32) (v_m_fault : Int32) (v_m_sightMany : Int32) (v_m_bookMany : Int32) (v_m_town : Nat → Int32) (v_m_now : Nat → Int32) (v_m_past : Nat → Int32) (v_m_images : Nat → Int32) (v_m_kept : Nat → Int32) (v_m_text : Nat → Int32) (v_m_sights : Nat → Int32) (v_m_book : Nat → Int32) (hI : IV v_x_reader_length v_x_reader_faultAt v_x_reader_letters v_x_plan_stands v_x_plan_lent v_x_plan_pipe v_x_plan_houses v_x_plan_room v_x_plan_daily v_x_plan_drain v_x_plan_above v_x_now_days v_x_now_spilled v_x_now_river v_x_now_kept v_x_now_away v_x_history_end v_x_history_count v_x_history_shelf_places v_x_history_shelf_cells v_x_images_storedSet v_x_images_shelf_places v_x_images_shelf_cells v_x_images_seeds v_x_draws_value v_x_notes_seen v_x_notes_entries v_x_notes_seenBy v_x_notes_seenCame v_x_notes_entryHouse v_x_notes_entryAmount v_m_undos v_m_seed v_m_size v_m_fault v_m_sightMany v_m_bookMany v_m_town v_m_now v_m_past v_m_images v_m_kept v_m_text v_m_sights v_m_book) (a1 : Int32) (a2 : Int32) : ∃ (yx : Int32 × Int32 × (Nat → Int32) × (Nat → Int32)) (ym : Int32 × Int32 × (Nat → Int32)), (fX11_write v_x_plan_houses v_x_notes_entries v_x_notes_entryHouse v_x_notes_entryAmount a1 a2) = some yx ∧ (fX12_write v_m_bookMany v_m_town v_m_book a1 a2) = some ym ∧ yx.1 = ym.1 ∧ IV v_x_reader_length v_x_reader_faultAt v_x_reader_letters v_x_plan_stands v_x_plan_lent v_x_plan_pipe v_x_plan_houses v_x_plan_room v_x_plan_daily v_x_plan_drain v_x_plan_above v_x_now_days v_x_now_spilled v_x_now_river v_x_now_kept v_x_now_away v_x_history_end v_x_history_count v_x_history_shelf_places v_x_history_shelf_cells v_x_images_storedSet v_x_images_shelf_places v_x_images_shelf_cells v_x_images_seeds v_x_draws_value v_x_notes_seen yx.2.1 v_x_notes_seenBy v_x_notes_seenCame yx.2.2.1 yx.2.2.2 v_m_undos v_m_seed v_m_size v_m_fault v_m_sightMany ym.2.1 v_m_town v_m_now v_m_past v_m_images v_m_kept v_m_text v_m_sights ym.2.2 := by
  obtain ⟨i1, i2, i3, n, ⟨P1, P2, P3, P4⟩, p2, p3, p4, p5, a, c, o1, o2, o3, o4, o5, o6, o7, o8⟩ := hI
  have e999 : (999 : Int32).toInt = 999 := by decide
  have l999 : (999 : Int64).toInt = 999 := by decide
  unfold fX11_write fX12_write
  rw [P2]
  rcases Decidable.em (0 ≤ a1.toInt ∧ a1.toInt < n) with q | q
  · rw [oz_b (mz_has1 P1 q), oz_b (mz_isHouse1 P1 P3 q), if_neg (show ¬ (1 : Int32) = 0 by decide), if_neg (show ¬ (1 : Int32) = 0 by decide)]
    obtain ⟨h, hh, rfl⟩ := mz_of q
    rcases Decidable.em (0 ≤ a2.toInt ∧ a2.toInt ≤ 999) with z | z
    · rw [if_neg (fun y => by rw [pz_lt, pz_i0] at y; omega), if_pos (by rw [pz_le, e999]; omega), oz_b (mz_in1 (by rw [mz_64, mz_l0, l999]; exact z)), if_neg (show ¬ (1 : Int32) = 0 by decide)]
      rcases Nat.lt_or_ge c 20 with ha | ha
      · have e1 : fX5_addEntry v_x_notes_entries v_x_notes_entryHouse v_x_notes_entryAmount (nI h) a2 = some (1, nI (c + 1), upd v_x_notes_entryHouse c (nI h), upd v_x_notes_entryAmount c a2) := by
          unfold fX5_addEntry
          rw [o5, if_pos (show nI c < 20 from (nI_lt (b := 20) ha (by omega) : nI c < nI 20)), if_neg (pz_ix ha (by omega)), pz_ncl (by omega), nI_1]
        have e2 : ¬ nI c = 20 := fun z => by have := (nI_eq (a := c) (b := 20) (by omega) (by omega)).mp z; omega
        have m2 : (2 : Int32) * nI c = nI (2 * c) := pk_mul 2 c
        have m3 : nI (2 * c) + 1 = nI (2 * c + 1) := nI_1 (2 * c)
        refine ⟨(nI (c + 1), nI (c + 1), upd v_x_notes_entryHouse c (nI h), upd v_x_notes_entryAmount c a2), (nI (c + 1), nI (c + 1), upd (upd v_m_book (2 * c) (nI h)) (2 * c + 1) a2), ?_, ?_, rfl, i1, i2, i3, n, ⟨P1, rfl, P3, P4⟩, p2, p3, p4, p5, a, c + 1, o1, by omega, o3, o4, rfl, rfl, o7, ?_⟩
        · rw [oz_b e1]
          exact if_neg (show ¬ (1 : Int32) = 0 by decide)
        · rw [o6, if_neg e2]
          simp only [m2, m3, nI_1]
          have c2 : Int32.toNatClampNeg (nI (2 * c)) = 2 * c := pz_ncl (by omega)
          have c3 : Int32.toNatClampNeg (nI (2 * c + 1)) = 2 * c + 1 := pz_ncl (by omega)
          simp only [if_neg (pz_ix (show 2 * c < 40 by omega) (by omega)), if_neg (pz_ix (show 2 * c + 1 < 40 by omega) (by omega))]
          simp only [c2, c3]
        · intro j hj
          dsimp only
          rcases Decidable.em (j = c) with z | z
          · subst z
            rw [pk_us, pk_us, pk_un (show 2 * j ≠ 2 * j + 1 by omega), pk_us, pk_us]
            exact ⟨⟨h, hh, rfl⟩, rfl, rfl⟩
          · rw [pk_un z, pk_un z, pk_un (show 2 * j ≠ 2 * c + 1 by omega), pk_un (show 2 * j ≠ 2 * c by omega), pk_un (show 2 * j + 1 ≠ 2 * c + 1 by omega), pk_un (show 2 * j + 1 ≠ 2 * c by omega)]
            exact o8 j (by omega)
      · have hc6 : c = 20 := by omega
        subst hc6
        have e1 : fX5_addEntry v_x_notes_entries v_x_notes_entryHouse v_x_notes_entryAmount (nI h) a2 = some (0, v_x_notes_entries, v_x_notes_entryHouse, v_x_notes_entryAmount) := by
          unfold fX5_addEntry
          rw [o5, if_neg (show ¬ nI 20 < 20 by decide)]
        refine ⟨(-1000000004, v_x_notes_entries, v_x_notes_entryHouse, v_x_notes_entryAmount), (-1000000004, v_m_bookMany, v_m_book), ?_, ?_, rfl, i1, i2, i3, n, ⟨P1, rfl, P3, P4⟩, p2, p3, p4, p5, a, 20, o1, o2, o3, o4, o5, o6, o7, o8⟩
        · rw [oz_b e1]
          exact if_pos rfl
        · rw [if_pos (show v_m_bookMany = 20 from o6)]
    · rw [oz_b (mz_in0 (by rw [mz_64, mz_l0, l999]; exact z)), if_pos rfl]
      refine ⟨(-1000000002, v_x_notes_entries, v_x_notes_entryHouse, v_x_notes_entryAmount), (_, _, _), ?_, rfl, rfl, i1, i2, i3, n, ⟨P1, rfl, P3, P4⟩, p2, p3, p4, p5, a, c, o1, o2, o3, o4, o5, o6, o7, o8⟩
      rcases Decidable.em (a2 < 0) with y | y
      · rw [if_pos y]
      · rw [if_neg y]
        rw [pz_lt, pz_i0] at y
        rw [if_neg (by rw [pz_le, e999]; omega)]
  · rw [oz_b (mz_has0 P1 q), oz_b (mz_isHouse0 P1 P3 q), if_pos rfl, if_pos rfl]
    exact ⟨(_, _, _, _), (_, _, _), rfl, rfl, rfl, i1, i2, i3, n, ⟨P1, rfl, P3, P4⟩, p2, p3, p4, p5, a, c, o1, o2, o3, o4, o5, o6, o7, o8⟩
theorem sp_judge (v_x_reader_length : Int32) (v_x_reader_faultAt : Int32) (v_x_reader_letters : Nat → Int32) (v_x_plan_stands : Int32) (v_x_plan_lent : Int32) (v_x_plan_pipe : Int32) (v_x_plan_houses : Int32) (v_x_plan_room : Nat → Int32) (v_x_plan_daily : Nat → Int32) (v_x_plan_drain : Nat → Int32) (v_x_plan_above : Nat → Int32) (v_x_now_days : Int32) (v_x_now_spilled : Int32) (v_x_now_river : Int32) (v_x_now_kept : Nat → Int32) (v_x_now_away : Nat → Int32) (v_x_history_end : Int32) (v_x_history_count : Int32) (v_x_history_shelf_places : Int32) (v_x_history_shelf_cells : Nat → Int32) (v_x_images_storedSet : Int32) (v_x_images_shelf_places : Int32) (v_x_images_shelf_cells : Nat → Int32) (v_x_images_seeds : Nat → Int32) (v_x_draws_value : Int32) (v_x_notes_seen : Int32) (v_x_notes_entries : Int32) (v_x_notes_seenBy : Nat → Int32) (v_x_notes_seenCame : Nat → Int32) (v_x_notes_entryHouse : Nat → Int32) (v_x_notes_entryAmount : Nat → Int32) (v_m_undos : Int32) (v_m_seed : Int64) (v_m_size : Int32) (v_m_fault : Int32) (v_m_sightMany : Int32) (v_m_bookMany : Int32) (v_m_town : Nat → Int32) (v_m_now : Nat → Int32) (v_m_past : Nat → Int32) (v_m_images : Nat → Int32) (v_m_kept : Nat → Int32) (v_m_text : Nat → Int32) (v_m_sights : Nat → Int32) (v_m_book : Nat → Int32) (hI : IV v_x_reader_length v_x_reader_faultAt v_x_reader_letters v_x_plan_stands v_x_plan_lent v_x_plan_pipe v_x_plan_houses v_x_plan_room v_x_plan_daily v_x_plan_drain v_x_plan_above v_x_now_days v_x_now_spilled v_x_now_river v_x_now_kept v_x_now_away v_x_history_end v_x_history_count v_x_history_shelf_places v_x_history_shelf_cells v_x_images_storedSet v_x_images_shelf_places v_x_images_shelf_cells v_x_images_seeds v_x_draws_value v_x_notes_seen v_x_notes_entries v_x_notes_seenBy v_x_notes_seenCame v_x_notes_entryHouse v_x_notes_entryAmount v_m_undos v_m_seed v_m_size v_m_fault v_m_sightMany v_m_bookMany v_m_town v_m_now v_m_past v_m_images v_m_kept v_m_text v_m_sights v_m_book) : ∃ (yx : Int32) (ym : Int32), (fX11_judge v_x_plan_houses v_x_now_kept v_x_notes_entries v_x_notes_entryHouse v_x_notes_entryAmount) = some yx ∧ (fX12_judge v_m_bookMany v_m_now v_m_book) = some ym ∧ yx = ym ∧ IV v_x_reader_length v_x_reader_faultAt v_x_reader_letters v_x_plan_stands v_x_plan_lent v_x_plan_pipe v_x_plan_houses v_x_plan_room v_x_plan_daily v_x_plan_drain v_x_plan_above v_x_now_days v_x_now_spilled v_x_now_river v_x_now_kept v_x_now_away v_x_history_end v_x_history_count v_x_history_shelf_places v_x_history_shelf_cells v_x_images_storedSet v_x_images_shelf_places v_x_images_shelf_cells v_x_images_seeds v_x_draws_value v_x_notes_seen v_x_notes_entries v_x_notes_seenBy v_x_notes_seenCame v_x_notes_entryHouse v_x_notes_entryAmount v_m_undos v_m_seed v_m_size v_m_fault v_m_sightMany v_m_bookMany v_m_town v_m_now v_m_past v_m_images v_m_kept v_m_text v_m_sights v_m_book := by
  have hI' := hI
  obtain ⟨i1, i2, i3, n, ⟨P1, P2, P3, P4⟩, ⟨s1, s2⟩, p3, p4, p5, a, c, o1, o2, o3, o4, o5, o6, o7, o8⟩ := hI
  have E : ∃ o o', fX5_firstWrong v_x_notes_entries v_x_notes_entryHouse v_x_notes_entryAmount v_x_plan_houses v_x_now_kept = some o ∧ fX12_judge v_m_bookMany v_m_now v_m_book = some o' ∧ o = o' := by
    unfold fX5_firstWrong fX12_judge
    refine oz_rel (fun (i : Nat) (v w : Int32) => v = nI i ∧ w = nI i) (fun (o o' : Int32) => o = o') c (by omega) ?_ ?_ ⟨rfl, rfl⟩
    · intro i v w hi hv
      obtain ⟨e1, e2⟩ := hv
      subst e1 e2
      obtain ⟨⟨g, hg, f1⟩, f2, f3⟩ := o8 i hi
      have m2 : (2 : Int32) * nI i = nI (2 * i) := pk_mul 2 i
      have m3 : nI (2 * i) + 1 = nI (2 * i + 1) := nI_1 (2 * i)
      have c0 : Int32.toNatClampNeg (nI i) = i := pz_ncl (by omega)
      have c2 : Int32.toNatClampNeg (nI (2 * i)) = 2 * i := pz_ncl (by omega)
      have c3 : Int32.toNatClampNeg (nI (2 * i + 1)) = 2 * i + 1 := pz_ncl (by omega)
      have cg : Int32.toNatClampNeg (nI g) = g := pz_ncl (by omega)
      have hX : fX5_firstWrong_b2 v_x_notes_entries v_x_notes_entryHouse v_x_notes_entryAmount v_x_plan_houses v_x_now_kept (nI i) = if v_x_now_kept g = v_x_notes_entryAmount i then some (.inl (nI i + 1)) else some (.inr (nI i)) := by
        unfold fX5_firstWrong_b2
        rw [o5, P2, if_neg (nI_ge hi (by omega)), if_neg (pz_ix (show i < 20 by omega) (by omega)), c0, f1, oz_b (hz_has1 hg P1), if_neg (show ¬ (1 : Int32) = 0 by decide), if_neg (pz_ix (show g < 8 by omega) (by omega)), cg]
      have hM : fX12_judge_b2 v_m_bookMany v_m_now v_m_book (nI i) = if v_x_now_kept g = v_x_notes_entryAmount i then some (.inl (nI i + 1)) else some (.inr (nI i)) := by
        unfold fX12_judge_b2
        simp only [m2, m3, o6]
        rw [if_neg (nI_ge hi (by omega)), if_neg (pz_ix (show 2 * i < 40 by omega) (by omega)), c2, f2, f1, pz_0a, if_neg (pz_ix (show g < 19 by omega) (by omega)), if_neg (pz_ix (show 2 * i + 1 < 40 by omega) (by omega)), c3, f3, cg, s1 g (by omega)]
      rcases Decidable.em (v_x_now_kept g = v_x_notes_entryAmount i) with z | z
      · rw [if_pos z] at hX hM
        exact Or.inl ⟨_, _, hX, hM, nI_1 i, nI_1 i⟩
      · rw [if_neg z] at hX hM
        exact Or.inr ⟨_, _, hX, hM, rfl⟩
    · intro v w hv
      obtain ⟨e1, e2⟩ := hv
      subst e1 e2
      refine ⟨-1, -1, ?_, ?_, rfl⟩
      · unfold fX5_firstWrong_b2
        rw [o5, if_pos (nI_le (Nat.le_refl c) (by omega))]
      · unfold fX12_judge_b2
        rw [o6, if_pos (nI_le (Nat.le_refl c) (by omega))]
  obtain ⟨o, o', y1, y2, y3⟩ := E
  refine ⟨o, o', ?_, y2, y3, hI'⟩
  unfold fX11_judge
  exact oz_b y1
