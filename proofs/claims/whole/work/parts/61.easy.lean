/-! SMALL PIECES: in, isHouse, has -/
theorem mz_cmp_lt (a b : Int64) : lg_cmp a b < 0 ↔ a.toInt < b.toInt := by
  unfold lg_cmp
  rcases Decidable.em (a > b) with h | h
  · rw [if_pos h]
    have h1 : b.toInt < a.toInt := Int64.lt_iff_toInt_lt.mp h
    exact ⟨fun z => absurd z (by decide), fun z => by omega⟩
  · rw [if_neg h]
    have h1 : ¬ b.toInt < a.toInt := fun z => h (Int64.lt_iff_toInt_lt.mpr z)
    rcases Decidable.em (a = b) with q | q
    · rw [if_pos q]; subst q
      exact ⟨fun z => absurd z (by decide), fun z => by omega⟩
    · rw [if_neg q]
      have h2 : a.toInt ≠ b.toInt := fun z => q (Int64.toInt_inj.mp z)
      exact ⟨fun _ => by omega, fun _ => by decide⟩
theorem mz_cmp_gt (a b : Int64) : 0 < lg_cmp a b ↔ b.toInt < a.toInt := by
  unfold lg_cmp
  rcases Decidable.em (a > b) with h | h
  · rw [if_pos h]
    have h1 : b.toInt < a.toInt := Int64.lt_iff_toInt_lt.mp h
    exact ⟨fun _ => h1, fun _ => by decide⟩
  · rw [if_neg h]
    have h1 : ¬ b.toInt < a.toInt := fun z => h (Int64.lt_iff_toInt_lt.mpr z)
    rcases Decidable.em (a = b) with q | q
    · rw [if_pos q]
      exact ⟨fun z => absurd z (by decide), fun z => absurd z h1⟩
    · rw [if_neg q]
      exact ⟨fun z => absurd z (by decide), fun z => absurd z h1⟩
theorem mz_in1 {v lo hi : Int64} (h : lo.toInt ≤ v.toInt ∧ v.toInt ≤ hi.toInt) : fX12_in v lo hi = some 1 := by
  unfold fX12_in
  rw [if_neg (fun z => by rw [mz_cmp_lt] at z; omega), if_neg (fun z => by rw [mz_cmp_gt] at z; omega)]
theorem mz_in0 {v lo hi : Int64} (h : ¬ (lo.toInt ≤ v.toInt ∧ v.toInt ≤ hi.toInt)) : fX12_in v lo hi = some 0 := by
  unfold fX12_in
  rcases Decidable.em (lg_cmp v lo < 0) with q | q
  · rw [if_pos q]
  · rw [if_neg q]
    rw [mz_cmp_lt] at q
    rw [if_pos ((mz_cmp_gt v hi).mpr (by omega))]
theorem mz_64 (x : Int32) : x.toInt64.toInt = x.toInt := Int32.toInt_toInt64 x
theorem mz_has1 {n : Nat} (hn : n ≤ 8) {a : Int32} (h : 0 ≤ a.toInt ∧ a.toInt < n) : fX6_has (nI n) a = some 1 := by
  unfold fX6_has
  have e : (nI n).toInt = n := pz_nI (by omega)
  rw [if_neg (fun z => by rw [pz_lt, pz_i0] at z; omega), if_neg (fun z => by rw [pz_le, e] at z; omega)]
theorem mz_has0 {n : Nat} (hn : n ≤ 8) {a : Int32} (h : ¬ (0 ≤ a.toInt ∧ a.toInt < n)) : fX6_has (nI n) a = some 0 := by
  unfold fX6_has
  have e : (nI n).toInt = n := pz_nI (by omega)
  rcases Decidable.em (a < 0) with q | q
  · rw [if_pos q]
  · rw [if_neg q]
    rw [pz_lt, pz_i0] at q
    rw [if_pos (by rw [pz_le, e]; omega)]
theorem mz_n1 {n : Nat} (hn : n ≤ 8) : (nI n - 1).toInt = (n : Int) - 1 := by
  have e : (nI n).toInt = n := pz_nI (by omega)
  rw [pz_sub (by rw [e, pz_i1]; omega) (by rw [e, pz_i1]; omega), e, pz_i1]
theorem mz_l0 : (0 : Int64).toInt = 0 := by decide
theorem mz_b1 : ¬ ¬ (narrow .boolean (.int (1 : Int32)) = .int 1) := fun h => h rfl
theorem mz_b0 : ¬ ¬ (narrow .boolean (.int (0 : Int32)) = .int 0) := fun h => h rfl
theorem mz_isHouse1 {n : Nat} (hn : n ≤ 8) {town : Nat → Int32} (h2 : town 2 = nI n) {a : Int32} (h : 0 ≤ a.toInt ∧ a.toInt < n) : fX12_isHouse town a = some 1 := by
  unfold fX12_isHouse
  rw [pz_c2, h2, mz_in1 (by rw [mz_64, mz_64, mz_l0, mz_n1 hn]; omega)]
  show (if ¬ (narrow .boolean (.int (1 : Int32)) = .int 1) then none else some (1 : Int32)) = some 1
  rw [if_neg mz_b1]
theorem mz_isHouse0 {n : Nat} (hn : n ≤ 8) {town : Nat → Int32} (h2 : town 2 = nI n) {a : Int32} (h : ¬ (0 ≤ a.toInt ∧ a.toInt < n)) : fX12_isHouse town a = some 0 := by
  unfold fX12_isHouse
  rw [pz_c2, h2, mz_in0 (by rw [mz_64, mz_64, mz_l0, mz_n1 hn]; omega)]
  show (if ¬ (narrow .boolean (.int (0 : Int32)) = .int 0) then none else some (0 : Int32)) = some 0
  rw [if_neg mz_b0]
theorem mz_of {a : Int32} {n : Nat} (h : 0 ≤ a.toInt ∧ a.toInt < n) : ∃ j : Nat, j < n ∧ a = nI j := by
  have h1 := Int32.toInt_lt a
  refine ⟨a.toInt.toNat, by omega, pz_eq.mpr ?_⟩
  rw [pz_nI (by omega)]
  omega
theorem iv_init : IV 0 (-1) (fun _ => 0) 0 0 0 0 (fun _ => 0) (fun _ => 0) (fun _ => 0) (fun _ => 0) 0 0 0 (fun _ => 0) (fun _ => 0) 0 0 30 (fun _ => 0) 0 2 (fun _ => 0) (fun _ => 0) 0 0 0 (fun _ => 0) (fun _ => 0) (fun _ => 0) (fun _ => 0) 0 0 0 (-1) 0 0 (fun _ => 0) (fun _ => 0) (fun _ => 0) (fun _ => 0) (fun _ => 0) (fun _ => 0) (fun _ => 0) (fun _ => 0) := by
  refine ⟨⟨0, by omega, rfl, rfl, fun j h => by omega⟩, rfl, ⟨rfl, by decide⟩, 0, ⟨by omega, rfl, rfl, rfl, rfl, fun h q => by omega, fun h q => by omega, fun h q => by omega, fun h q => by omega, fun h q => by omega, fun h q => by omega, by decide, by decide, Or.inr ⟨rfl, rfl, rfl⟩⟩, ⟨fun _ _ => rfl, fun _ _ => rfl, rfl, rfl, rfl⟩, ⟨fun h q => by omega, fun _ _ _ => ⟨rfl, rfl⟩, fun _ _ => (by decide : 0 ≤ (0 : Int32).toInt ∧ (0 : Int32).toInt ≤ 60), by decide, by decide, by decide⟩, ⟨0, 0, by omega, by omega, rfl, rfl, rfl, rfl, fun j h => by omega, fun j h => by omega⟩, ⟨rfl, ⟨0, by omega, rfl, rfl, rfl⟩, fun i _ h => absurd (show (0 : Int32) = 1 from h) (by decide)⟩, ⟨0, 0, by omega, by omega, rfl, rfl, rfl, rfl, fun j h => by omega, fun j h => by omega⟩⟩
theorem sp_fault (v_x_reader_length : Int32) (v_x_reader_faultAt : Int32) (v_x_reader_letters : Nat → Int32) (v_x_plan_stands : Int32) (v_x_plan_lent : Int32) (v_x_plan_pipe : Int32) (v_x_plan_houses : Int32) (v_x_plan_room : Nat → Int32) (v_x_plan_daily : Nat → Int32) (v_x_plan_drain : Nat → Int32) (v_x_plan_above : Nat → Int32) (v_x_now_days : Int32) (v_x_now_spilled : Int32) (v_x_now_river : Int32) (v_x_now_kept : Nat → Int32) (v_x_now_away : Nat → Int32) (v_x_history_end : Int32) (v_x_history_count : Int32) (v_x_history_shelf_places : Int32) (v_x_history_shelf_cells : Nat → Int32) (v_x_images_storedSet : Int32) (v_x_images_shelf_places : Int32) (v_x_images_shelf_cells : Nat → Int32) (v_x_images_seeds : Nat → Int32) (v_x_draws_value : Int32) (v_x_notes_seen : Int32) (v_x_notes_entries : Int32) (v_x_notes_seenBy : Nat → Int32) (v_x_notes_seenCame : Nat → Int32) (v_x_notes_entryHouse : Nat → Int32) (v_x_notes_entryAmount : Nat → Int32) (v_m_undos : Int32) (v_m_seed : Int64) (v_m_size : Int32) (v_m_fault : Int32) (v_m_sightMany : Int32) (v_m_bookMany : Int32) (v_m_town : Nat → Int32) (v_m_now : Nat → Int32) (v_m_past : Nat → Int32) (v_m_images : Nat → Int32) (v_m_kept : Nat → Int32) (v_m_text : Nat → Int32) (v_m_sights : Nat → Int32) (v_m_book : Nat → Int32) (hI : IV v_x_reader_length v_x_reader_faultAt v_x_reader_letters v_x_plan_stands v_x_plan_lent v_x_plan_pipe v_x_plan_houses v_x_plan_room v_x_plan_daily v_x_plan_drain v_x_plan_above v_x_now_days v_x_now_spilled v_x_now_river v_x_now_kept v_x_now_away v_x_history_end v_x_history_count v_x_history_shelf_places v_x_history_shelf_cells v_x_images_storedSet v_x_images_shelf_places v_x_images_shelf_cells v_x_images_seeds v_x_draws_value v_x_notes_seen v_x_notes_entries v_x_notes_seenBy v_x_notes_seenCame v_x_notes_entryHouse v_x_notes_entryAmount v_m_undos v_m_seed v_m_size v_m_fault v_m_sightMany v_m_bookMany v_m_town v_m_now v_m_past v_m_images v_m_kept v_m_text v_m_sights v_m_book) : ∃ (yx : Int32) (ym : Int32), (fX11_fault v_x_reader_faultAt) = some yx ∧ (fX12_fault v_m_fault) = some ym ∧ yx = ym ∧ IV v_x_reader_length v_x_reader_faultAt v_x_reader_letters v_x_plan_stands v_x_plan_lent v_x_plan_pipe v_x_plan_houses v_x_plan_room v_x_plan_daily v_x_plan_drain v_x_plan_above v_x_now_days v_x_now_spilled v_x_now_river v_x_now_kept v_x_now_away v_x_history_end v_x_history_count v_x_history_shelf_places v_x_history_shelf_cells v_x_images_storedSet v_x_images_shelf_places v_x_images_shelf_cells v_x_images_seeds v_x_draws_value v_x_notes_seen v_x_notes_entries v_x_notes_seenBy v_x_notes_seenCame v_x_notes_entryHouse v_x_notes_entryAmount v_m_undos v_m_seed v_m_size v_m_fault v_m_sightMany v_m_bookMany v_m_town v_m_now v_m_past v_m_images v_m_kept v_m_text v_m_sights v_m_book := by
  exact ⟨_, _, rfl, rfl, hI.2.1, hI⟩
theorem sp_seed (v_x_reader_length : Int32) (v_x_reader_faultAt : Int32) (v_x_reader_letters : Nat → Int32) (v_x_plan_stands : Int32) (v_x_plan_lent : Int32) (v_x_plan_pipe : Int32) (v_x_plan_houses : Int32) (v_x_plan_room : Nat → Int32) (v_x_plan_daily : Nat → Int32) (v_x_plan_drain : Nat → Int32) (v_x_plan_above : Nat → Int32) (v_x_now_days : Int32) (v_x_now_spilled : Int32) (v_x_now_river : Int32) (v_x_now_kept : Nat → Int32) (v_x_now_away : Nat → Int32) (v_x_history_end : Int32) (v_x_history_count : Int32) (v_x_history_shelf_places : Int32) (v_x_history_shelf_cells : Nat → Int32) (v_x_images_storedSet : Int32) (v_x_images_shelf_places : Int32) (v_x_images_shelf_cells : Nat → Int32) (v_x_images_seeds : Nat → Int32) (v_x_draws_value : Int32) (v_x_notes_seen : Int32) (v_x_notes_entries : Int32) (v_x_notes_seenBy : Nat → Int32) (v_x_notes_seenCame : Nat → Int32) (v_x_notes_entryHouse : Nat → Int32) (v_x_notes_entryAmount : Nat → Int32) (v_m_undos : Int32) (v_m_seed : Int64) (v_m_size : Int32) (v_m_fault : Int32) (v_m_sightMany : Int32) (v_m_bookMany : Int32) (v_m_town : Nat → Int32) (v_m_now : Nat → Int32) (v_m_past : Nat → Int32) (v_m_images : Nat → Int32) (v_m_kept : Nat → Int32) (v_m_text : Nat → Int32) (v_m_sights : Nat → Int32) (v_m_book : Nat → Int32) (hI : IV v_x_reader_length v_x_reader_faultAt v_x_reader_letters v_x_plan_stands v_x_plan_lent v_x_plan_pipe v_x_plan_houses v_x_plan_room v_x_plan_daily v_x_plan_drain v_x_plan_above v_x_now_days v_x_now_spilled v_x_now_river v_x_now_kept v_x_now_away v_x_history_end v_x_history_count v_x_history_shelf_places v_x_history_shelf_cells v_x_images_storedSet v_x_images_shelf_places v_x_images_shelf_cells v_x_images_seeds v_x_draws_value v_x_notes_seen v_x_notes_entries v_x_notes_seenBy v_x_notes_seenCame v_x_notes_entryHouse v_x_notes_entryAmount v_m_undos v_m_seed v_m_size v_m_fault v_m_sightMany v_m_bookMany v_m_town v_m_now v_m_past v_m_images v_m_kept v_m_text v_m_sights v_m_book) (a1 : Int32) : ∃ (yx : Int32 × Int32) (ym : Int32 × Int64), (fX11_seed v_x_draws_value a1) = some yx ∧ (fX12_seed v_m_seed a1) = some ym ∧ yx.1 = ym.1 ∧ IV v_x_reader_length v_x_reader_faultAt v_x_reader_letters v_x_plan_stands v_x_plan_lent v_x_plan_pipe v_x_plan_houses v_x_plan_room v_x_plan_daily v_x_plan_drain v_x_plan_above v_x_now_days v_x_now_spilled v_x_now_river v_x_now_kept v_x_now_away v_x_history_end v_x_history_count v_x_history_shelf_places v_x_history_shelf_cells v_x_images_storedSet v_x_images_shelf_places v_x_images_shelf_cells v_x_images_seeds yx.2 v_x_notes_seen v_x_notes_entries v_x_notes_seenBy v_x_notes_seenCame v_x_notes_entryHouse v_x_notes_entryAmount v_m_undos ym.2 v_m_size v_m_fault v_m_sightMany v_m_bookMany v_m_town v_m_now v_m_past v_m_images v_m_kept v_m_text v_m_sights v_m_book := by
  obtain ⟨i1, i2, ⟨w1, w2⟩, i4⟩ := hI
  rcases Decidable.em (0 ≤ a1) with q | q
  · refine ⟨(v_x_draws_value, a1), (Int64.toInt32 v_m_seed, Int32.toInt64 a1), if_pos q, if_pos q, ?_, i1, i2, ⟨rfl, ?_⟩, i4⟩
    · rw [w1]; exact (Int32.toInt32_toInt64 v_x_draws_value).symm
    · rw [pz_le, pz_i0] at q; exact q
  · exact ⟨(_, _), (_, _), if_neg q, if_neg q, rfl, i1, i2, ⟨w1, w2⟩, i4⟩
theorem sp_tear (v_x_reader_length : Int32) (v_x_reader_faultAt : Int32) (v_x_reader_letters : Nat → Int32) (v_x_plan_stands : Int32) (v_x_plan_lent : Int32) (v_x_plan_pipe : Int32) (v_x_plan_houses : Int32) (v_x_plan_room : Nat → Int32) (v_x_plan_daily : Nat → Int32) (v_x_plan_drain : Nat → Int32) (v_x_plan_above : Nat → Int32) (v_x_now_days : Int32) (v_x_now_spilled : Int32) (v_x_now_river : Int32) (v_x_now_kept : Nat → Int32) (v_x_now_away : Nat → Int32) (v_x_history_end : Int32) (v_x_history_count : Int32) (v_x_history_shelf_places : Int32) (v_x_history_shelf_cells : Nat → Int32) (v_x_images_storedSet : Int32) (v_x_images_shelf_places : Int32) (v_x_images_shelf_cells : Nat → Int32) (v_x_images_seeds : Nat → Int32) (v_x_draws_value : Int32) (v_x_notes_seen : Int32) (v_x_notes_entries : Int32) (v_x_notes_seenBy : Nat → Int32) (v_x_notes_seenCame : Nat → Int32) (v_x_notes_entryHouse : Nat → Int32) (v_x_notes_entryAmount : Nat → Int32) (v_m_undos : Int32) (v_m_seed : Int64) (v_m_size : Int32) (v_m_fault : Int32) (v_m_sightMany : Int32) (v_m_bookMany : Int32) (v_m_town : Nat → Int32) (v_m_now : Nat → Int32) (v_m_past : Nat → Int32) (v_m_images : Nat → Int32) (v_m_kept : Nat → Int32) (v_m_text : Nat → Int32) (v_m_sights : Nat → Int32) (v_m_book : Nat → Int32) (hI : IV v_x_reader_length v_x_reader_faultAt v_x_reader_letters v_x_plan_stands v_x_plan_lent v_x_plan_pipe v_x_plan_houses v_x_plan_room v_x_plan_daily v_x_plan_drain v_x_plan_above v_x_now_days v_x_now_spilled v_x_now_river v_x_now_kept v_x_now_away v_x_history_end v_x_history_count v_x_history_shelf_places v_x_history_shelf_cells v_x_images_storedSet v_x_images_shelf_places v_x_images_shelf_cells v_x_images_seeds v_x_draws_value v_x_notes_seen v_x_notes_entries v_x_notes_seenBy v_x_notes_seenCame v_x_notes_entryHouse v_x_notes_entryAmount v_m_undos v_m_seed v_m_size v_m_fault v_m_sightMany v_m_bookMany v_m_town v_m_now v_m_past v_m_images v_m_kept v_m_text v_m_sights v_m_book) : ∃ (yx : Int32 × Int32 × Int32) (ym : Int32 × Int32 × Int32), (fX11_tear v_x_notes_seen v_x_notes_entries) = some yx ∧ (fX12_tear v_m_sightMany v_m_bookMany) = some ym ∧ yx.1 = ym.1 ∧ IV v_x_reader_length v_x_reader_faultAt v_x_reader_letters v_x_plan_stands v_x_plan_lent v_x_plan_pipe v_x_plan_houses v_x_plan_room v_x_plan_daily v_x_plan_drain v_x_plan_above v_x_now_days v_x_now_spilled v_x_now_river v_x_now_kept v_x_now_away v_x_history_end v_x_history_count v_x_history_shelf_places v_x_history_shelf_cells v_x_images_storedSet v_x_images_shelf_places v_x_images_shelf_cells v_x_images_seeds v_x_draws_value yx.2.1 yx.2.2 v_x_notes_seenBy v_x_notes_seenCame v_x_notes_entryHouse v_x_notes_entryAmount v_m_undos v_m_seed v_m_size v_m_fault ym.2.1 ym.2.2 v_m_town v_m_now v_m_past v_m_images v_m_kept v_m_text v_m_sights v_m_book := by
  obtain ⟨i1, i2, i3, n, p1, p2, p3, p4, p5, a, c, o1, o2, o3, o4, o5, o6, o7, o8⟩ := hI
  refine ⟨(_, _, _), (_, _, _), rfl, rfl, ?_, i1, i2, i3, n, p1, p2, p3, p4, p5, 0, 0, by omega, by omega, rfl, rfl, rfl, rfl, fun j h => by omega, fun j h => by omega⟩
  rw [o3, o4, o5, o6]
theorem sp_feed (v_x_reader_length : Int32) (v_x_reader_faultAt : Int32) (v_x_reader_letters : Nat → Int32) (v_x_plan_stands : Int32) (v_x_plan_lent : Int32) (v_x_plan_pipe : Int32) (v_x_plan_houses : Int32) (v_x_plan_room : Nat → Int32) (v_x_plan_daily : Nat → Int32) (v_x_plan_drain : Nat → Int32) (v_x_plan_above : Nat → Int32) (v_x_now_days : Int32) (v_x_now_spilled : Int32) (v_x_now_river : Int32) (v_x_now_kept : Nat → Int32) (v_x_now_away : Nat → Int32) (v_x_history_end : Int32) (v_x_history_count : Int32) (v_x_history_shelf_places : Int32) (v_x_history_shelf_cells : Nat → Int32) (v_x_images_storedSet : Int32) (v_x_images_shelf_places : Int32) (v_x_images_shelf_cells : Nat → Int32) (v_x_images_seeds : Nat → Int32) (v_x_draws_value : Int32) (v_x_notes_seen : Int32) (v_x_notes_entries : Int32) (v_x_notes_seenBy : Nat → Int32) (v_x_notes_seenCame : Nat → Int32) (v_x_notes_entryHouse : Nat → Int32) (v_x_notes_entryAmount : Nat → Int32) (v_m_undos : Int32) (v_m_seed : Int64) (v_m_size : Int32) (v_m_fault : Int32) (v_m_sightMany : Int32) (v_m_bookMany : Int32) (v_m_town : Nat → Int32) (v_m_now : Nat → Int32) (v_m_past : Nat → Int32) (v_m_images : Nat → Int32) (v_m_kept : Nat → Int32) (v_m_text : Nat → Int32) (v_m_sights : Nat → Int32) (v_m_book : Nat → Int32) (hI : IV v_x_reader_length v_x_reader_faultAt v_x_reader_letters v_x_plan_stands v_x_plan_lent v_x_plan_pipe v_x_plan_houses v_x_plan_room v_x_plan_daily v_x_plan_drain v_x_plan_above v_x_now_days v_x_now_spilled v_x_now_river v_x_now_kept v_x_now_away v_x_history_end v_x_history_count v_x_history_shelf_places v_x_history_shelf_cells v_x_images_storedSet v_x_images_shelf_places v_x_images_shelf_cells v_x_images_seeds v_x_draws_value v_x_notes_seen v_x_notes_entries v_x_notes_seenBy v_x_notes_seenCame v_x_notes_entryHouse v_x_notes_entryAmount v_m_undos v_m_seed v_m_size v_m_fault v_m_sightMany v_m_bookMany v_m_town v_m_now v_m_past v_m_images v_m_kept v_m_text v_m_sights v_m_book) (a1 : Int32) : ∃ (yx : Int32 × Int32 × (Nat → Int32)) (ym : Int32 × Int32 × (Nat → Int32)), (fX11_feed v_x_reader_length v_x_reader_letters a1) = some yx ∧ (fX12_feed v_m_size v_m_text a1) = some ym ∧ yx.1 = ym.1 ∧ IV yx.2.1 v_x_reader_faultAt yx.2.2 v_x_plan_stands v_x_plan_lent v_x_plan_pipe v_x_plan_houses v_x_plan_room v_x_plan_daily v_x_plan_drain v_x_plan_above v_x_now_days v_x_now_spilled v_x_now_river v_x_now_kept v_x_now_away v_x_history_end v_x_history_count v_x_history_shelf_places v_x_history_shelf_cells v_x_images_storedSet v_x_images_shelf_places v_x_images_shelf_cells v_x_images_seeds v_x_draws_value v_x_notes_seen v_x_notes_entries v_x_notes_seenBy v_x_notes_seenCame v_x_notes_entryHouse v_x_notes_entryAmount v_m_undos v_m_seed ym.2.1 v_m_fault v_m_sightMany v_m_bookMany v_m_town v_m_now v_m_past v_m_images v_m_kept ym.2.2 v_m_sights v_m_book := by
  obtain ⟨⟨k, t1, t2, t3, t4⟩, i2, i3, i4⟩ := hI
  have e255 : (255 : Int32).toInt = 255 := by decide
  have l255 : (255 : Int64).toInt = 255 := by decide
  unfold fX11_feed fX12_feed
  rcases Decidable.em (0 ≤ a1.toInt ∧ a1.toInt ≤ 255) with q | q
  · rw [if_neg (fun z => by rw [pz_lt, pz_i0] at z; omega), if_pos (by rw [pz_le, e255]; omega), oz_b (mz_in1 (by rw [mz_64, mz_l0, l255]; exact q)), if_neg (show ¬ (1 : Int32) = 0 by decide)]
    rcases Nat.lt_or_ge k 200 with hk | hk
    · have e1 : fX8_take v_x_reader_length v_x_reader_letters a1 = some (1, nI (k + 1), upd v_x_reader_letters k a1) := by
        unfold fX8_take
        rw [t2, if_pos (show nI k < 200 from (nI_lt (b := 200) hk (by omega) : nI k < nI 200)), if_neg (pz_ix hk (by omega)), pz_ncl (by omega), nI_1]
      have e2 : ¬ nI k = 200 := fun z => by have := (nI_eq (a := k) (b := 200) (by omega) (by omega)).mp z; omega
      refine ⟨(nI (k + 1), nI (k + 1), upd v_x_reader_letters k a1), (nI (k + 1), nI (k + 1), upd v_m_text k a1), ?_, ?_, rfl, ⟨k + 1, by omega, rfl, rfl, ?_⟩, i2, i3, i4⟩
      · rw [oz_b e1]
        exact if_neg (show ¬ (1 : Int32) = 0 by decide)
      · rw [t3, if_neg e2, if_neg (pz_ix hk (by omega)), pz_ncl (by omega), nI_1]
      · intro j hj
        rcases Decidable.em (j = k) with z | z
        · subst z
          dsimp only
          rw [pk_us, pk_us]; exact ⟨rfl, q⟩
        · dsimp only
          rw [pk_un z, pk_un z]; exact t4 j (by omega)
    · have hk2 : k = 200 := by omega
      subst hk2
      have e1 : fX8_take v_x_reader_length v_x_reader_letters a1 = some (0, nI 200, v_x_reader_letters) := by
        unfold fX8_take
        rw [t2, if_neg (show ¬ nI 200 < 200 by decide)]
      refine ⟨(-1000000004, nI 200, v_x_reader_letters), (-1000000004, nI 200, v_m_text), ?_, ?_, rfl, ⟨200, by omega, rfl, rfl, t4⟩, i2, i3, i4⟩
      · rw [oz_b e1]
        exact if_pos rfl
      · rw [t3, if_pos (show nI 200 = 200 from rfl)]
  · rw [oz_b (mz_in0 (by rw [mz_64, mz_l0, l255]; exact q))]
    refine ⟨(-1000000002, v_x_reader_length, v_x_reader_letters), (-1000000002, v_m_size, v_m_text), ?_, ?_, rfl, ⟨k, t1, t2, t3, t4⟩, i2, i3, i4⟩
    · rcases Decidable.em (a1 < 0) with z | z
      · rw [if_pos z]
      · rw [if_neg z]
        rw [pz_lt, pz_i0] at z
        rw [if_neg (by rw [pz_le, e255]; omega)]
    · exact if_pos rfl
theorem sp_told (v_x_reader_length : Int32) (v_x_reader_faultAt : Int32) (v_x_reader_letters : Nat → Int32) (v_x_plan_stands : Int32) (v_x_plan_lent : Int32) (v_x_plan_pipe : Int32) (v_x_plan_houses : Int32) (v_x_plan_room : Nat → Int32) (v_x_plan_daily : Nat → Int32) (v_x_plan_drain : Nat → Int32) (v_x_plan_above : Nat → Int32) (v_x_now_days : Int32) (v_x_now_spilled : Int32) (v_x_now_river : Int32) (v_x_now_kept : Nat → Int32) (v_x_now_away : Nat → Int32) (v_x_history_end : Int32) (v_x_history_count : Int32) (v_x_history_shelf_places : Int32) (v_x_history_shelf_cells : Nat → Int32) (v_x_images_storedSet : Int32) (v_x_images_shelf_places : Int32) (v_x_images_shelf_cells : Nat → Int32) (v_x_images_seeds : Nat → Int32) (v_x_draws_value : Int32) (v_x_notes_seen : Int32) (v_x_notes_entries : Int32) (v_x_notes_seenBy : Nat → Int32) (v_x_notes_seenCame : Nat → Int32) (v_x_notes_entryHouse : Nat → Int32) (v_x_notes_entryAmount : Nat → Int32) (v_m_undos : Int32) (v_m_seed : Int64) (v_m_size : Int32) (v_m_fault : Int32) (v_m_sightMany : Int32) (v_m_bookMany : Int32) (v_m_town : Nat → Int32) (v_m_now : Nat → Int32) (v_m_past : Nat → Int32) (v_m_images : Nat → Int32) (v_m_kept : Nat → Int32) (v_m_text : Nat → Int32) (v_m_sights : Nat → Int32) (v_m_book : Nat → Int32) (hI : IV v_x_reader_length v_x_reader_faultAt v_x_reader_letters v_x_plan_stands v_x_plan_lent v_x_plan_pipe v_x_plan_houses v_x_plan_room v_x_plan_daily v_x_plan_drain v_x_plan_above v_x_now_days v_x_now_spilled v_x_now_river v_x_now_kept v_x_now_away v_x_history_end v_x_history_count v_x_history_shelf_places v_x_history_shelf_cells v_x_images_storedSet v_x_images_shelf_places v_x_images_shelf_cells v_x_images_seeds v_x_draws_value v_x_notes_seen v_x_notes_entries v_x_notes_seenBy v_x_notes_seenCame v_x_notes_entryHouse v_x_notes_entryAmount v_m_undos v_m_seed v_m_size v_m_fault v_m_sightMany v_m_bookMany v_m_town v_m_now v_m_past v_m_images v_m_kept v_m_text v_m_sights v_m_book) (a1 : Int32) : ∃ (yx : Int32) (ym : Int32), (fX11_told v_x_reader_length v_x_plan_lent v_x_plan_pipe v_x_plan_houses v_x_now_days v_x_now_spilled v_x_now_river v_x_now_kept v_x_now_away v_x_history_count v_x_notes_seen v_x_notes_entries a1) = some yx ∧ (fX12_told v_m_undos v_m_size v_m_sightMany v_m_bookMany v_m_town v_m_now a1) = some ym ∧ yx = ym ∧ IV v_x_reader_length v_x_reader_faultAt v_x_reader_letters v_x_plan_stands v_x_plan_lent v_x_plan_pipe v_x_plan_houses v_x_plan_room v_x_plan_daily v_x_plan_drain v_x_plan_above v_x_now_days v_x_now_spilled v_x_now_river v_x_now_kept v_x_now_away v_x_history_end v_x_history_count v_x_history_shelf_places v_x_history_shelf_cells v_x_images_storedSet v_x_images_shelf_places v_x_images_shelf_cells v_x_images_seeds v_x_draws_value v_x_notes_seen v_x_notes_entries v_x_notes_seenBy v_x_notes_seenCame v_x_notes_entryHouse v_x_notes_entryAmount v_m_undos v_m_seed v_m_size v_m_fault v_m_sightMany v_m_bookMany v_m_town v_m_now v_m_past v_m_images v_m_kept v_m_text v_m_sights v_m_book := by
  obtain ⟨⟨k, t1, t2, t3, t4⟩, i2, i3, n, ⟨P1, P2, P3, P4, P5, P6⟩, ⟨s1, s2, s3, s4, s5⟩, B, ⟨e, c, H1, H2, H3, H4, H5, H6⟩, M, ⟨a, d, o1, o2, o3, o4, o5, o6, o7⟩⟩ := hI
  have kf : fX12_keptOf v_m_now = some (ps_sum v_x_now_kept n) := by rw [ps_keptOf, ps_sum_8 P1 s1 (fun h h1 h2 => (B.2.1 h h1 h2).1)]
  have af : fX12_awayOnes v_m_now = some (ps_set v_x_now_away n) := by rw [ps_awayOnes, ps_set_8 (g := v_x_now_away) P1 s2 (fun h h1 h2 => (B.2.1 h h1 h2).2)]
  have lf : fX12_isLent v_m_town v_m_now = fX11_isLent v_x_plan_lent v_x_now_days := by
    unfold fX12_isLent fX11_isLent
    rw [pz_c0, pz_c16, P4, s3]
  have hI : IV v_x_reader_length v_x_reader_faultAt v_x_reader_letters v_x_plan_stands v_x_plan_lent v_x_plan_pipe v_x_plan_houses v_x_plan_room v_x_plan_daily v_x_plan_drain v_x_plan_above v_x_now_days v_x_now_spilled v_x_now_river v_x_now_kept v_x_now_away v_x_history_end v_x_history_count v_x_history_shelf_places v_x_history_shelf_cells v_x_images_storedSet v_x_images_shelf_places v_x_images_shelf_cells v_x_images_seeds v_x_draws_value v_x_notes_seen v_x_notes_entries v_x_notes_seenBy v_x_notes_seenCame v_x_notes_entryHouse v_x_notes_entryAmount v_m_undos v_m_seed v_m_size v_m_fault v_m_sightMany v_m_bookMany v_m_town v_m_now v_m_past v_m_images v_m_kept v_m_text v_m_sights v_m_book := ⟨⟨k, t1, t2, t3, t4⟩, i2, i3, n, ⟨P1, P2, P3, P4, P5, P6⟩, ⟨s1, s2, s3, s4, s5⟩, B, ⟨e, c, H1, H2, H3, H4, H5, H6⟩, M, ⟨a, d, o1, o2, o3, o4, o5, o6, o7⟩⟩
  have E : ∃ y, fX11_told v_x_reader_length v_x_plan_lent v_x_plan_pipe v_x_plan_houses v_x_now_days v_x_now_spilled v_x_now_river v_x_now_kept v_x_now_away v_x_history_count v_x_notes_seen v_x_notes_entries a1 = some y ∧ fX12_told v_m_undos v_m_size v_m_sightMany v_m_bookMany v_m_town v_m_now a1 = some y := by
    unfold fX11_told fX12_told
    rw [lf, kf, af, P2, ps_inAll v_x_now_kept P1, ps_awaySet v_x_now_away P1, pz_c16, pz_c17, pz_c18, s3, s4, s5, t2, t3, o3, o4, o5, o6, H4, H5]
    rcases Decidable.em (a1 = 0) with q | q
    · subst q
      simp only [if_true]
      rw [if_neg (show ¬ ((0 : Int32) < 0 ∨ 27 ≤ (0 : Int32).toNatClampNeg) by decide), pz_c0, P4]
      exact ⟨_, rfl, rfl⟩
    simp only [if_neg q]; clear q
    rcases Decidable.em (a1 = 1) with q | q
    · subst q
      simp only [if_true]
      rw [if_neg (show ¬ ((1 : Int32) < 0 ∨ 27 ≤ (1 : Int32).toNatClampNeg) by decide), pz_c1, P5]
      exact ⟨_, rfl, rfl⟩
    simp only [if_neg q]; clear q
    rcases Decidable.em (a1 = 2) with q | q
    · subst q
      simp only [if_true]
      rw [if_neg (show ¬ ((2 : Int32) < 0 ∨ 27 ≤ (2 : Int32).toNatClampNeg) by decide), pz_c2, P3]
      exact ⟨_, rfl, rfl⟩
    simp only [if_neg q]; clear q
    rcases Decidable.em (a1 = 3) with q | q
    · simp only [if_pos q]; exact ⟨_, rfl, rfl⟩
    simp only [if_neg q]; clear q
    rcases Decidable.em (a1 = 4) with q | q
    · simp only [if_pos q]; exact ⟨_, rfl, rfl⟩
    simp only [if_neg q]; clear q
    rcases Decidable.em (a1 = 5) with q | q
    · simp only [if_pos q]
      unfold fX11_isLent
      rcases Decidable.em (v_x_plan_lent ≤ v_x_now_days) with z | z
      · rw [if_pos z]; exact ⟨_, rfl, rfl⟩
      · rw [if_neg z]; exact ⟨_, rfl, rfl⟩
    simp only [if_neg q]; clear q
    rcases Decidable.em (a1 = 6) with q | q
    · simp only [if_pos q]; exact ⟨_, rfl, rfl⟩
    simp only [if_neg q]; clear q
    rcases Decidable.em (a1 = 7) with q | q
    · simp only [if_pos q]; exact ⟨_, rfl, rfl⟩
    simp only [if_neg q]; clear q
    rcases Decidable.em (a1 = 8) with q | q
    · simp only [if_pos q]; exact ⟨_, rfl, rfl⟩
    simp only [if_neg q]; clear q
    rcases Decidable.em (a1 = 9) with q | q
    · simp only [if_pos q]; exact ⟨_, rfl, rfl⟩
    simp only [if_neg q]; clear q
    rcases Decidable.em (a1 = 10) with q | q
    · simp only [if_pos q]; exact ⟨_, rfl, rfl⟩
    simp only [if_neg q]; clear q
    rcases Decidable.em (a1 = 11) with q | q
    · simp only [if_pos q]; exact ⟨_, rfl, rfl⟩
    simp only [if_neg q]; clear q
    rcases Decidable.em (a1 = 12) with q | q
    · simp only [if_pos q]; exact ⟨_, rfl, rfl⟩
    simp only [if_neg q]
    exact ⟨_, rfl, rfl⟩
  obtain ⟨y, y1, y2⟩ := E
  exact ⟨y, y, y1, y2, rfl, hI⟩
