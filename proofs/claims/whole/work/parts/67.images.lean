theorem sp_keep (v_x_reader_length : Int32) (v_x_reader_faultAt : Int32) (v_x_reader_letters : Nat → Int32) (v_x_plan_stands : Int32) (v_x_plan_lent : Int32) (v_x_plan_pipe : Int32) (v_x_plan_houses : Int32) (v_x_plan_room : Nat → Int32) (v_x_plan_daily : Nat → Int32) (v_x_plan_drain : Nat → Int32) (v_x_plan_above : Nat → Int32) (v_x_now_days : Int32) (v_x_now_spilled : Int32) (v_x_now_river : Int32) (v_x_now_kept : Nat → Int32) (v_x_now_away : Nat → Int32) (v_x_history_end : Int32) (v_x_history_count : Int32) (v_x_history_shelf_places : Int32) (v_x_history_shelf_cells : Nat → Int32) (v_x_images_storedSet : Int32) (v_x_images_shelf_places : Int32) (v_x_images_shelf_cells : Nat → Int32) (v_x_images_seeds : Nat → Int32) (v_x_draws_value : Int32) (v_x_notes_seen : Int32) (v_x_notes_entries : Int32) (v_x_notes_seenBy : Nat → Int32) (v_x_notes_seenCame : Nat → Int32) (v_x_notes_entryHouse : Nat → Int32) (v_x_notes_entryAmount : Nat → Int32) (v_m_undos : Int32) (v_m_seed : Int64) (v_m_size : Int32) (v_m_fault : Int32) (v_m_sightMany : Int32) (v_m_bookMany : Int32) (v_m_town : Nat → Int32) (v_m_now : Nat → Int32) (v_m_past : Nat → Int32) (v_m_images : Nat → Int32) (v_m_kept : Nat → Int32) (v_m_text : Nat → Int32) (v_m_sights : Nat → Int32) (v_m_book : Nat → Int32) (hI : IV v_x_reader_length v_x_reader_faultAt v_x_reader_letters v_x_plan_stands v_x_plan_lent v_x_plan_pipe v_x_plan_houses v_x_plan_room v_x_plan_daily v_x_plan_drain v_x_plan_above v_x_now_days v_x_now_spilled v_x_now_river v_x_now_kept v_x_now_away v_x_history_end v_x_history_count v_x_history_shelf_places v_x_history_shelf_cells v_x_images_storedSet v_x_images_shelf_places v_x_images_shelf_cells v_x_images_seeds v_x_draws_value v_x_notes_seen v_x_notes_entries v_x_notes_seenBy v_x_notes_seenCame v_x_notes_entryHouse v_x_notes_entryAmount v_m_undos v_m_seed v_m_size v_m_fault v_m_sightMany v_m_bookMany v_m_town v_m_now v_m_past v_m_images v_m_kept v_m_text v_m_sights v_m_book) (a1 : Int32) : ∃ (yx : Int32 × Int32 × Int32 × Int32 × (Nat → Int32) × (Nat → Int32)) (ym : Int32 × Int32 × (Nat → Int32) × (Nat → Int32)), (fX11_keep v_x_now_days v_x_now_spilled v_x_now_river v_x_now_kept v_x_now_away v_x_history_end v_x_history_count v_x_images_storedSet v_x_images_shelf_places v_x_images_shelf_cells v_x_images_seeds v_x_draws_value a1) = some yx ∧ (fX12_keep v_m_undos v_m_seed v_m_now v_m_images v_m_kept a1) = some ym ∧ yx.1 = ym.1 ∧ IV v_x_reader_length v_x_reader_faultAt v_x_reader_letters v_x_plan_stands v_x_plan_lent v_x_plan_pipe v_x_plan_houses v_x_plan_room v_x_plan_daily v_x_plan_drain v_x_plan_above v_x_now_days v_x_now_spilled v_x_now_river v_x_now_kept v_x_now_away yx.2.1 yx.2.2.1 v_x_history_shelf_places v_x_history_shelf_cells yx.2.2.2.1 v_x_images_shelf_places yx.2.2.2.2.1 yx.2.2.2.2.2 v_x_draws_value v_x_notes_seen v_x_notes_entries v_x_notes_seenBy v_x_notes_seenCame v_x_notes_entryHouse v_x_notes_entryAmount ym.2.1 v_m_seed v_m_size v_m_fault v_m_sightMany v_m_bookMany v_m_town v_m_now v_m_past ym.2.2.1 ym.2.2.2 v_m_text v_m_sights v_m_book := by
  obtain ⟨i1, i2, ⟨w1, w2⟩, n, hP, hS, hB, hH, ⟨M1, ⟨b, M2, M3, M4, M5⟩, M6⟩, hO⟩ := hI
  have P1 := hP.1
  have l1 : (1 : Int64).toInt = 1 := by decide
  have e2 : (2 : Int32).toInt = 2 := by decide
  unfold fX11_keep fX12_keep
  rcases Decidable.em (0 ≤ a1.toInt ∧ a1.toInt ≤ 1) with q | q
  · have hh : fX3_has a1 = some 1 := by
      unfold fX3_has
      rw [if_neg (fun z => by rw [pz_lt, pz_i0] at z; omega), if_neg (fun z => by rw [pz_le, e2] at z; omega)]
    rw [oz_b hh, if_neg (show ¬ (1 : Int32) = 0 by decide), oz_b (mz_in1 (by rw [mz_64, mz_l0, l1]; exact q)), if_neg (show ¬ (1 : Int32) = 0 by decide)]
    obtain ⟨a, ha, rfl⟩ := mz_of (n := 2) (a := a1) ⟨q.1, by omega⟩
    obtain ⟨g, g1, g2, g3⟩ := hx_put (N := 38) (P := 2) (e := a) ha (by omega) (by omega) (by omega) hS v_x_images_shelf_cells
    have eX : fX3_store v_x_images_storedSet v_x_images_shelf_places v_x_images_shelf_cells v_x_images_seeds v_x_now_days v_x_now_spilled v_x_now_river v_x_now_kept v_x_now_away v_x_draws_value (nI a) = some (nI b ||| (1 <<< (nI a &&& 31)), g, upd v_x_images_seeds a v_x_draws_value) := by
      unfold fX3_store
      rw [oz_b hh, if_neg (show ¬ (1 : Int32) = 0 by decide), M1, oz_b g1, if_neg (pz_ix ha (by omega)), pz_ncl (by omega), M3]
    obtain ⟨r, r1, r2⟩ := cz_copies (n0 := 19) (n2 := 40) (i := 0) (j := 20 * a) (m := 19) (p0 := v_m_now) (p2 := v_m_images) (by omega) (by omega) (by omega) (by omega)
    have r3 : ∀ k, k < 19 → r (20 * a + k) = v_m_now k := fun k hk => by rw [r2, if_pos (by omega)]; exact congrArg v_m_now (by omega)
    have e20 : (20 : Int32) * nI a = nI (20 * a) := pk_mul 20 a
    have e19 : nI (20 * a) + 19 = nI (20 * a + 19) := nI_add (20 * a) 19
    rw [oz_b eX, oz_b (show fX2_clear v_x_history_end v_x_history_count = some (0, 0) from rfl)]
    simp only [e20, e19]
    rw [oz_b (show fX12_copies 19 40 v_m_now v_m_images 0 (nI (20 * a)) 19 = some r from r1), if_neg (pz_ix (show 20 * a + 19 < 40 by omega) (by omega)), if_neg (pz_ix ha (by omega)), pz_ncl (by omega), pz_ncl (by omega)]
    have sd : Int64.toInt32 v_m_seed = v_x_draws_value := by rw [w1]; exact Int32.toInt32_toInt64 v_x_draws_value
    have vn : vp_nar .boolean 1 = 1 := rfl
    have nb : ∃ b' : Nat, b' < 4 ∧ nI b ||| (1 <<< (nI a &&& 31)) = nI b' ∧ upd v_m_kept a 1 0 = nI (b' % 2) ∧ upd v_m_kept a 1 1 = nI (b' / 2) := by
      rcases (show a = 0 ∨ a = 1 by omega) with rfl | rfl
      · refine ⟨b / 2 * 2 + 1, by omega, ?_, ?_, ?_⟩
        · rcases (show b = 0 ∨ b = 1 ∨ b = 2 ∨ b = 3 by omega) with rfl | rfl | rfl | rfl <;> decide
        · rw [pk_us, show (b / 2 * 2 + 1) % 2 = 1 by omega]; rfl
        · rw [pk_un (by omega), M5, show (b / 2 * 2 + 1) / 2 = b / 2 by omega]
      · refine ⟨b % 2 + 2, by omega, ?_, ?_, ?_⟩
        · rcases (show b = 0 ∨ b = 1 ∨ b = 2 ∨ b = 3 by omega) with rfl | rfl | rfl | rfl <;> decide
        · rw [pk_un (by omega), M4, show (b % 2 + 2) % 2 = b % 2 by omega]
        · rw [pk_us, show (b % 2 + 2) / 2 = 1 by omega]; rfl
    refine ⟨_, _, rfl, rfl, rfl, i1, i2, ⟨w1, w2⟩, n, hP, hS, hB, ⟨0, 0, by omega, by omega, rfl, rfl, rfl, hH.choose_spec.choose_spec.2.2.2.2.2.1, fun j h => by omega, fun j h => by omega⟩, ⟨M1, by dsimp only; rw [vn]; exact nb, ?_⟩, hO⟩
    intro i hi hk
    dsimp only at hk ⊢
    rw [vn] at hk
    rw [sd]
    rcases Decidable.em (i = a) with z | z
    · subst z
      obtain ⟨s1, s2, s3, s4, s5⟩ := hS
      refine ⟨fun k hk => ?_, ?_, ?_, ?_⟩
      · rw [g2 k hk, pk_un (show 20 * i + k ≠ 20 * i + 19 by omega), r3 k hk]
      · rw [pk_us, pk_us]
      · rw [pk_us]; exact w2
      · exact pr_B_congr P1 (fun h hh => by rw [pk_un (show 20 * i + h ≠ 20 * i + 19 by omega), r3 h (by omega)]; exact s1 h hh) (fun h hh => by rw [pk_un (show 20 * i + (8 + h) ≠ 20 * i + 19 by omega), r3 (8 + h) (by omega)]; exact s2 h hh) (by rw [pk_un (by omega), r3 16 (by omega)]; exact s3) (by rw [pk_un (by omega), r3 17 (by omega)]; exact s4) (by rw [pk_un (by omega), r3 18 (by omega)]; exact s5) hB
    · rw [pk_un z] at hk
      obtain ⟨m1, m2, m3, m4⟩ := M6 i hi hk
      have ro : ∀ k, k < 20 → upd r (20 * a + 19) v_x_draws_value (20 * i + k) = v_m_images (20 * i + k) := fun k hk => by
        rw [pk_un (by omega), r2, if_neg (by omega)]
      refine ⟨fun k hk => ?_, ?_, ?_, ?_⟩
      · rw [ro k (by omega), g3 _ (by omega)]; exact m1 k hk
      · rw [pk_un z, ro 19 (by omega)]; exact m2
      · rw [pk_un z]; exact m3
      · exact pr_B_congr P1 (fun h hh => ro h (by omega)) (fun h hh => ro (8 + h) (by omega)) (ro 16 (by omega)) (ro 17 (by omega)) (ro 18 (by omega)) m4
  · have hh : fX3_has a1 = some 0 := by
      unfold fX3_has
      rcases Decidable.em (a1 < 0) with z | z
      · rw [if_pos z]
      · rw [if_neg z]
        rw [pz_lt, pz_i0] at z
        rw [if_pos (by rw [pz_le, e2]; omega)]
    rw [oz_b hh, if_pos rfl, oz_b (mz_in0 (by rw [mz_64, mz_l0, l1]; exact q)), if_pos rfl]
    exact ⟨_, _, rfl, rfl, rfl, i1, i2, ⟨w1, w2⟩, n, hP, hS, hB, hH, ⟨M1, ⟨b, M2, M3, M4, M5⟩, M6⟩, hO⟩
theorem sp_goBack (v_x_reader_length : Int32) (v_x_reader_faultAt : Int32) (v_x_reader_letters : Nat → Int32) (v_x_plan_stands : Int32) (v_x_plan_lent : Int32) (v_x_plan_pipe : Int32) (v_x_plan_houses : Int32) (v_x_plan_room : Nat → Int32) (v_x_plan_daily : Nat → Int32) (v_x_plan_drain : Nat → Int32) (v_x_plan_above : Nat → Int32) (v_x_now_days : Int32) (v_x_now_spilled : Int32) (v_x_now_river : Int32) (v_x_now_kept : Nat → Int32) (v_x_now_away : Nat → Int32) (v_x_history_end : Int32) (v_x_history_count : Int32) (v_x_history_shelf_places : Int32) (v_x_history_shelf_cells : Nat → Int32) (v_x_images_storedSet : Int32) (v_x_images_shelf_places : Int32) (v_x_images_shelf_cells : Nat → Int32) (v_x_images_seeds : Nat → Int32) (v_x_draws_value : Int32) (v_x_notes_seen : Int32) (v_x_notes_entries : Int32) (v_x_notes_seenBy : Nat → Int32) (v_x_notes_seenCame : Nat → Int32) (v_x_notes_entryHouse : Nat → Int32) (v_x_notes_entryAmount : Nat → Int32) (v_m_undos : Int32) (v_m_seed : Int64) (v_m_size : Int32) (v_m_fault : Int32) (v_m_sightMany : Int32) (v_m_bookMany : Int32) (v_m_town : Nat → Int32) (v_m_now : Nat → Int32) (v_m_past : Nat → Int32) (v_m_images : Nat → Int32) (v_m_kept : Nat → Int32) (v_m_text : Nat → Int32) (v_m_sights : Nat → Int32) (v_m_book : Nat → Int32) (hI : IV v_x_reader_length v_x_reader_faultAt v_x_reader_letters v_x_plan_stands v_x_plan_lent v_x_plan_pipe v_x_plan_houses v_x_plan_room v_x_plan_daily v_x_plan_drain v_x_plan_above v_x_now_days v_x_now_spilled v_x_now_river v_x_now_kept v_x_now_away v_x_history_end v_x_history_count v_x_history_shelf_places v_x_history_shelf_cells v_x_images_storedSet v_x_images_shelf_places v_x_images_shelf_cells v_x_images_seeds v_x_draws_value v_x_notes_seen v_x_notes_entries v_x_notes_seenBy v_x_notes_seenCame v_x_notes_entryHouse v_x_notes_entryAmount v_m_undos v_m_seed v_m_size v_m_fault v_m_sightMany v_m_bookMany v_m_town v_m_now v_m_past v_m_images v_m_kept v_m_text v_m_sights v_m_book) (a1 : Int32) : ∃ (yx : Int32 × Int32 × Int32 × Int32 × (Nat → Int32) × (Nat → Int32) × Int32 × Int32 × Int32) (ym : Int32 × Int32 × Int64 × (Nat → Int32)), (fX11_goBack v_x_now_days v_x_now_spilled v_x_now_river v_x_now_kept v_x_now_away v_x_history_end v_x_history_count v_x_images_storedSet v_x_images_shelf_places v_x_images_shelf_cells v_x_images_seeds v_x_draws_value a1) = some yx ∧ (fX12_goBack v_m_undos v_m_seed v_m_now v_m_images v_m_kept a1) = some ym ∧ yx.1 = ym.1 ∧ IV v_x_reader_length v_x_reader_faultAt v_x_reader_letters v_x_plan_stands v_x_plan_lent v_x_plan_pipe v_x_plan_houses v_x_plan_room v_x_plan_daily v_x_plan_drain v_x_plan_above yx.2.1 yx.2.2.1 yx.2.2.2.1 yx.2.2.2.2.1 yx.2.2.2.2.2.1 yx.2.2.2.2.2.2.1 yx.2.2.2.2.2.2.2.1 v_x_history_shelf_places v_x_history_shelf_cells v_x_images_storedSet v_x_images_shelf_places v_x_images_shelf_cells v_x_images_seeds yx.2.2.2.2.2.2.2.2 v_x_notes_seen v_x_notes_entries v_x_notes_seenBy v_x_notes_seenCame v_x_notes_entryHouse v_x_notes_entryAmount ym.2.1 ym.2.2.1 v_m_size v_m_fault v_m_sightMany v_m_bookMany v_m_town ym.2.2.2 v_m_past v_m_images v_m_kept v_m_text v_m_sights v_m_book := by
  obtain ⟨i1, i2, ⟨w1, w2⟩, n, hP, hS, hB, hH, ⟨M1, ⟨b, M2, M3, M4, M5⟩, M6⟩, hO⟩ := hI
  have P1 := hP.1
  have l1 : (1 : Int64).toInt = 1 := by decide
  have e2 : (2 : Int32).toInt = 2 := by decide
  unfold fX11_goBack fX12_goBack
  rcases Decidable.em (0 ≤ a1.toInt ∧ a1.toInt ≤ 1) with q | q
  · have hh : fX3_has a1 = some 1 := by
      unfold fX3_has
      rw [if_neg (fun z => by rw [pz_lt, pz_i0] at z; omega), if_neg (fun z => by rw [pz_le, e2] at z; omega)]
    rw [oz_b hh, if_neg (show ¬ (1 : Int32) = 0 by decide), oz_b (mz_in1 (by rw [mz_64, mz_l0, l1]; exact q)), if_neg (show ¬ (1 : Int32) = 0 by decide)]
    obtain ⟨a, ha, rfl⟩ := mz_of (n := 2) (a := a1) ⟨q.1, by omega⟩
    have bit : (nI b >>> (nI a &&& 31)) &&& 1 = v_m_kept a := by
      rcases (show a = 0 ∨ a = 1 by omega) with rfl | rfl
      · rw [M4]
        rcases (show b = 0 ∨ b = 1 ∨ b = 2 ∨ b = 3 by omega) with rfl | rfl | rfl | rfl <;> decide
      · rw [M5]
        rcases (show b = 0 ∨ b = 1 ∨ b = 2 ∨ b = 3 by omega) with rfl | rfl | rfl | rfl <;> decide
    have k01 : v_m_kept a = 0 ∨ v_m_kept a = 1 := by
      rcases (show a = 0 ∨ a = 1 by omega) with rfl | rfl
      · rw [M4]
        rcases (show b % 2 = 0 ∨ b % 2 = 1 by omega) with z | z
        · rw [z]; exact Or.inl rfl
        · rw [z]; exact Or.inr rfl
      · rw [M5]
        rcases (show b / 2 = 0 ∨ b / 2 = 1 by omega) with z | z
        · rw [z]; exact Or.inl rfl
        · rw [z]; exact Or.inr rfl
    rw [if_neg (pz_ix ha (by omega)), pz_ncl (show a < 2147483648 by omega)]
    rcases k01 with z | z
    · have eX : fX3_fetch v_x_images_storedSet v_x_images_shelf_places v_x_images_shelf_cells v_x_images_seeds v_x_now_days v_x_now_spilled v_x_now_river v_x_now_kept v_x_now_away v_x_draws_value (nI a) = some (0, v_x_now_days, v_x_now_spilled, v_x_now_river, v_x_now_kept, v_x_now_away, v_x_draws_value) := by
        unfold fX3_fetch
        rw [oz_b hh, if_neg (show ¬ (1 : Int32) = 0 by decide), M3, if_pos (bit.trans z)]
      rw [oz_b eX, if_pos rfl, if_pos z]
      exact ⟨_, _, rfl, rfl, rfl, i1, i2, ⟨w1, w2⟩, n, hP, hS, hB, hH, ⟨M1, ⟨b, M2, M3, M4, M5⟩, M6⟩, hO⟩
    · obtain ⟨m1, m2, m3, m4⟩ := M6 a ha z
      obtain ⟨g, g1, g2⟩ := hx_get (N := 38) (P := 2) (e := a) ha (by omega) (by omega) (by omega) v_x_images_shelf_cells v_x_now_days v_x_now_spilled v_x_now_river v_x_now_kept v_x_now_away
      have eX : fX3_fetch v_x_images_storedSet v_x_images_shelf_places v_x_images_shelf_cells v_x_images_seeds v_x_now_days v_x_now_spilled v_x_now_river v_x_now_kept v_x_now_away v_x_draws_value (nI a) = some (1, g.1, g.2.1, g.2.2.1, g.2.2.2.1, g.2.2.2.2, v_x_images_seeds a) := by
        unfold fX3_fetch
        rw [oz_b hh, if_neg (show ¬ (1 : Int32) = 0 by decide), M3, if_neg (fun y => by rw [bit, z] at y; exact absurd y (by decide)), M1, oz_b g1, if_neg (pz_ix ha (by omega)), pz_ncl (by omega)]
      obtain ⟨r, r1, r2⟩ := cz_copies (n0 := 40) (n2 := 19) (i := 20 * a) (j := 0) (m := 19) (p0 := v_m_images) (p2 := v_m_now) (by omega) (by omega) (by omega) (by omega)
      have r3 : ∀ k, k < 19 → r k = v_m_images (20 * a + k) := fun k hk => by rw [r2, if_pos (by omega)]; exact congrArg v_m_images (by omega)
      have e20 : (20 : Int32) * nI a = nI (20 * a) := pk_mul 20 a
      have e19 : nI (20 * a) + 19 = nI (20 * a + 19) := nI_add (20 * a) 19
      rw [oz_b eX, if_neg (show ¬ (1 : Int32) = 0 by decide), if_neg (fun y => by rw [z] at y; exact absurd y (by decide)), oz_b (show fX2_clear v_x_history_end v_x_history_count = some (0, 0) from rfl)]
      simp only [e20, e19]
      rw [oz_b (show fX12_copies 40 19 v_m_images v_m_now (nI (20 * a)) 0 19 = some r from r1), if_neg (pz_ix (show 20 * a + 19 < 40 by omega) (by omega)), pz_ncl (by omega)]
      have hS3 : pr_S g.2.2.2.1 g.2.2.2.2 g.1 g.2.1 g.2.2.1 r := by
        obtain ⟨s1, s2, s3, s4, s5⟩ := g2
        have cp : ∀ k, k < 19 → r k = v_x_images_shelf_cells (19 * a + k) := fun k hk => by rw [r3 k hk, m1 k hk]
        exact ⟨fun h hh => (cp h (by omega)).trans (s1 h hh), fun h hh => (cp (8 + h) (by omega)).trans (s2 h hh), (cp 16 (by omega)).trans s3, (cp 17 (by omega)).trans s4, (cp 18 (by omega)).trans s5⟩
      have hB3 : pr_B n v_x_plan_room 9030 g.2.2.2.1 g.2.2.2.2 g.1 g.2.1 g.2.2.1 := by
        obtain ⟨s1, s2, s3, s4, s5⟩ := hS3
        exact pr_B_congr P1 (fun h hh => (s1 h hh).symm.trans (r3 h (by omega))) (fun h hh => (s2 h hh).symm.trans (r3 (8 + h) (by omega))) (s3.symm.trans (r3 16 (by omega))) (s4.symm.trans (r3 17 (by omega))) (s5.symm.trans (r3 18 (by omega))) m4
      exact ⟨_, _, rfl, rfl, rfl, i1, i2, ⟨by rw [m2], m3⟩, n, hP, hS3, hB3, ⟨0, 0, by omega, by omega, rfl, rfl, rfl, hH.choose_spec.choose_spec.2.2.2.2.2.1, fun j h => by omega, fun j h => by omega⟩, ⟨M1, ⟨b, M2, M3, M4, M5⟩, M6⟩, hO⟩
  · have hh : fX3_has a1 = some 0 := by
      unfold fX3_has
      rcases Decidable.em (a1 < 0) with z | z
      · rw [if_pos z]
      · rw [if_neg z]
        rw [pz_lt, pz_i0] at z
        rw [if_pos (by rw [pz_le, e2]; omega)]
    rw [oz_b hh, if_pos rfl, oz_b (mz_in0 (by rw [mz_64, mz_l0, l1]; exact q)), if_pos rfl]
    exact ⟨_, _, rfl, rfl, rfl, i1, i2, ⟨w1, w2⟩, n, hP, hS, hB, hH, ⟨M1, ⟨b, M2, M3, M4, M5⟩, M6⟩, hO⟩
theorem sp_pail (v_x_reader_length : Int32) (v_x_reader_faultAt : Int32) (v_x_reader_letters : Nat → Int32) (v_x_plan_stands : Int32) (v_x_plan_lent : Int32) (v_x_plan_pipe : Int32) (v_x_plan_houses : Int32) (v_x_plan_room : Nat → Int32) (v_x_plan_daily : Nat → Int32) (v_x_plan_drain : Nat → Int32) (v_x_plan_above : Nat → Int32) (v_x_now_days : Int32) (v_x_now_spilled : Int32) (v_x_now_river : Int32) (v_x_now_kept : Nat → Int32) (v_x_now_away : Nat → Int32) (v_x_history_end : Int32) (v_x_history_count : Int32) (v_x_history_shelf_places : Int32) (v_x_history_shelf_cells : Nat → Int32) (v_x_images_storedSet : Int32) (v_x_images_shelf_places : Int32) (v_x_images_shelf_cells : Nat → Int32) (v_x_images_seeds : Nat → Int32) (v_x_draws_value : Int32) (v_x_notes_seen : Int32) (v_x_notes_entries : Int32) (v_x_notes_seenBy : Nat → Int32) (v_x_notes_seenCame : Nat → Int32) (v_x_notes_entryHouse : Nat → Int32) (v_x_notes_entryAmount : Nat → Int32) (v_m_undos : Int32) (v_m_seed : Int64) (v_m_size : Int32) (v_m_fault : Int32) (v_m_sightMany : Int32) (v_m_bookMany : Int32) (v_m_town : Nat → Int32) (v_m_now : Nat → Int32) (v_m_past : Nat → Int32) (v_m_images : Nat → Int32) (v_m_kept : Nat → Int32) (v_m_text : Nat → Int32) (v_m_sights : Nat → Int32) (v_m_book : Nat → Int32) (hI : IV v_x_reader_length v_x_reader_faultAt v_x_reader_letters v_x_plan_stands v_x_plan_lent v_x_plan_pipe v_x_plan_houses v_x_plan_room v_x_plan_daily v_x_plan_drain v_x_plan_above v_x_now_days v_x_now_spilled v_x_now_river v_x_now_kept v_x_now_away v_x_history_end v_x_history_count v_x_history_shelf_places v_x_history_shelf_cells v_x_images_storedSet v_x_images_shelf_places v_x_images_shelf_cells v_x_images_seeds v_x_draws_value v_x_notes_seen v_x_notes_entries v_x_notes_seenBy v_x_notes_seenCame v_x_notes_entryHouse v_x_notes_entryAmount v_m_undos v_m_seed v_m_size v_m_fault v_m_sightMany v_m_bookMany v_m_town v_m_now v_m_past v_m_images v_m_kept v_m_text v_m_sights v_m_book) (a1 : Int32) (a2 : Int32) (a3 : Int32) : ∃ (yx : Int32 × (Nat → Int32) × Int32 × Int32 × (Nat → Int32)) (ym : Int32 × Int32 × (Nat → Int32) × (Nat → Int32)), (fX11_pail v_x_plan_houses v_x_plan_room v_x_now_days v_x_now_spilled v_x_now_river v_x_now_kept v_x_now_away v_x_history_end v_x_history_count v_x_history_shelf_places v_x_history_shelf_cells a1 a2 a3) = some yx ∧ (fX12_pail v_m_undos v_m_town v_m_now v_m_past a1 a2 a3) = some ym ∧ yx.1 = ym.1 ∧ IV v_x_reader_length v_x_reader_faultAt v_x_reader_letters v_x_plan_stands v_x_plan_lent v_x_plan_pipe v_x_plan_houses v_x_plan_room v_x_plan_daily v_x_plan_drain v_x_plan_above v_x_now_days v_x_now_spilled v_x_now_river yx.2.1 v_x_now_away yx.2.2.1 yx.2.2.2.1 v_x_history_shelf_places yx.2.2.2.2 v_x_images_storedSet v_x_images_shelf_places v_x_images_shelf_cells v_x_images_seeds v_x_draws_value v_x_notes_seen v_x_notes_entries v_x_notes_seenBy v_x_notes_seenCame v_x_notes_entryHouse v_x_notes_entryAmount ym.2.1 v_m_seed v_m_size v_m_fault v_m_sightMany v_m_bookMany v_m_town ym.2.2.1 ym.2.2.2 v_m_images v_m_kept v_m_text v_m_sights v_m_book := by
  obtain ⟨i1, i2, i3, n, hP, hS, hB, hH, hM, hO⟩ := hI
  have hP' := hP
  obtain ⟨P1, P2, P3, P4, P5, P6, P7, P8, P9, P10⟩ := hP
  have e999 : (999 : Int32).toInt = 999 := by decide
  have l999 : (999 : Int64).toInt = 999 := by decide
  have l1 : (1 : Int64).toInt = 1 := by decide
  obtain ⟨y, y', y1, y2, y3⟩ := hx_rem P1 hH hS hB
  have hU : ∀ a, fX6_has v_x_plan_houses a = fX6_has (nI n) a := fun a => by rw [P2]
  have fin : IV v_x_reader_length v_x_reader_faultAt v_x_reader_letters v_x_plan_stands v_x_plan_lent v_x_plan_pipe v_x_plan_houses v_x_plan_room v_x_plan_daily v_x_plan_drain v_x_plan_above v_x_now_days v_x_now_spilled v_x_now_river v_x_now_kept v_x_now_away v_x_history_end v_x_history_count v_x_history_shelf_places v_x_history_shelf_cells v_x_images_storedSet v_x_images_shelf_places v_x_images_shelf_cells v_x_images_seeds v_x_draws_value v_x_notes_seen v_x_notes_entries v_x_notes_seenBy v_x_notes_seenCame v_x_notes_entryHouse v_x_notes_entryAmount v_m_undos v_m_seed v_m_size v_m_fault v_m_sightMany v_m_bookMany v_m_town v_m_now v_m_past v_m_images v_m_kept v_m_text v_m_sights v_m_book := ⟨i1, i2, i3, n, hP', hS, hB, hH, hM, hO⟩
  unfold fX11_pail fX12_pail
  rw [hU, hU]
  rcases Decidable.em (0 ≤ a1.toInt ∧ a1.toInt < n) with q | q
  · rw [oz_b (mz_has1 P1 q), oz_b (mz_isHouse1 P1 P3 q), if_neg (show ¬ (1 : Int32) = 0 by decide), if_neg (show ¬ (1 : Int32) = 0 by decide)]
    rcases Decidable.em (0 ≤ a2.toInt ∧ a2.toInt < n) with p | p
    · rw [oz_b (mz_has1 P1 p), oz_b (mz_isHouse1 P1 P3 p), if_neg (show ¬ (1 : Int32) = 0 by decide), if_neg (show ¬ (1 : Int32) = 0 by decide)]
      obtain ⟨h, hh, rfl⟩ := mz_of q
      obtain ⟨g, hg, rfl⟩ := mz_of p
      rcases Decidable.em (nI h = nI g) with x | x
      · rw [if_pos x, if_pos x]
        exact ⟨_, _, rfl, rfl, rfl, fin⟩
      · rw [if_neg x, if_neg x]
        have hgh : h ≠ g := fun z => x (by rw [z])
        rcases Decidable.em (1 ≤ a3.toInt ∧ a3.toInt ≤ 999) with z | z
        · rw [if_neg (fun x => by rw [pz_lt, pz_i1] at x; omega), if_pos (by rw [pz_le, e999]; omega), oz_b (mz_in1 (by rw [mz_64, l1, l999]; exact z)), if_neg (show ¬ (1 : Int32) = 0 by decide)]
          have ch : Int32.toNatClampNeg (nI h) = h := pz_ncl (by omega)
          have cg : Int32.toNatClampNeg (nI g) = g := pz_ncl (by omega)
          have c3 : Int32.toNatClampNeg (nI (3 + g)) = 3 + g := pz_ncl (by omega)
          simp only [pz_0a, pz_a3]
          simp only [if_neg (pz_ix (show h < 8 by omega) (by omega)), if_neg (pz_ix (show h < 19 by omega) (by omega)), if_neg (pz_ix (show g < 8 by omega) (by omega)), if_neg (pz_ix (show g < 19 by omega) (by omega)), if_neg (pz_ix (show 3 + g < 27 by omega) (by omega))]
          simp only [ch, cg, c3, P6 g hg, hS.1 h (by omega), hS.1 g (by omega)]
          rcases Decidable.em (v_x_now_kept h < a3) with w | w
          · rw [if_pos w, if_pos w]
            exact ⟨_, _, rfl, rfl, rfl, fin⟩
          · rw [if_neg w, if_neg w]
            rcases Decidable.em (v_x_now_kept g + a3 ≤ v_x_plan_room g) with u | u
            · rw [if_pos u, if_pos u, oz_b y1, oz_b y2]
              obtain ⟨s1, s2, s3, s4, s5⟩ := hS
              obtain ⟨b1, b2, b3, b4⟩ := hB
              have kh := b1 h hh
              have kg := b1 g hg
              have rh := (P9 h hh).1
              have rg := (P9 g hg).1
              rw [pz_lt] at w
              have sh : (v_x_now_kept h - a3).toInt = (v_x_now_kept h).toInt - a3.toInt := pz_sub (by omega) (by omega)
              have sg : (v_x_now_kept g + a3).toInt = (v_x_now_kept g).toInt + a3.toInt := pz_add (by omega) (by omega)
              rw [pz_le, sg] at u
              refine ⟨_, _, rfl, rfl, ?_, i1, i2, i3, n, hP', ⟨?_, ?_, ?_, ?_, ?_⟩, ⟨?_, ?_, b3, b4⟩, y3, hM, hO⟩
              · dsimp only
                rw [pk_us, pk_us, pk_un hgh.symm, pk_un hgh.symm, s1 g (by omega)]
              · intro k hk
                dsimp only
                rcases Decidable.em (k = g) with v | v
                · subst v; rw [pk_us, pk_us, pk_un hgh.symm, pk_un hgh.symm, s1 k hk]
                · rw [pk_un v, pk_un v]
                  rcases Decidable.em (k = h) with v2 | v2
                  · subst v2; rw [pk_us, pk_us]
                  · rw [pk_un v2, pk_un v2]; exact s1 k hk
              · intro k hk
                dsimp only
                rw [pk_un (show 8 + k ≠ g by omega), pk_un (show 8 + k ≠ h by omega)]; exact s2 k hk
              · dsimp only
                rw [pk_un (show 16 ≠ g by omega), pk_un (show 16 ≠ h by omega)]; exact s3
              · dsimp only
                rw [pk_un (show 17 ≠ g by omega), pk_un (show 17 ≠ h by omega)]; exact s4
              · dsimp only
                rw [pk_un (show 18 ≠ g by omega), pk_un (show 18 ≠ h by omega)]; exact s5
              · intro k hk
                dsimp only
                rcases Decidable.em (k = g) with v | v
                · subst v; rw [pk_us, pk_un hgh.symm, sg]; omega
                · rw [pk_un v]
                  rcases Decidable.em (k = h) with v2 | v2
                  · subst v2; rw [pk_us, sh]; omega
                  · rw [pk_un v2]; exact b1 k hk
              · intro k k1 k2
                dsimp only
                rw [pk_un (show k ≠ g by omega), pk_un (show k ≠ h by omega)]; exact b2 k k1 k2
            · rw [if_neg u, if_neg u]
              exact ⟨_, _, rfl, rfl, rfl, fin⟩
        · rw [oz_b (mz_in0 (by rw [mz_64, l1, l999]; exact z)), if_pos rfl]
          refine ⟨(-1000000002, v_x_now_kept, v_x_history_end, v_x_history_count, v_x_history_shelf_cells), _, ?_, rfl, rfl, fin⟩
          rcases Decidable.em (a3 < 1) with w | w
          · rw [if_pos w]
          · rw [if_neg w]
            rw [pz_lt, pz_i1] at w
            rw [if_neg (by rw [pz_le, e999]; omega)]
    · rw [oz_b (mz_has0 P1 p), oz_b (mz_isHouse0 P1 P3 p), if_pos rfl, if_pos rfl]
      exact ⟨_, _, rfl, rfl, rfl, fin⟩
  · rw [oz_b (mz_has0 P1 q), oz_b (mz_isHouse0 P1 P3 q), if_pos rfl, if_pos rfl]
    exact ⟨_, _, rfl, rfl, rfl, fin⟩
