/-! WHENCE -/
theorem wz_whence {n : Nat} {stands lent pipe houses : Int32} {room daily drain above town : Nat → Int32} (hP : iv_P n stands lent pipe houses room daily drain above town) {seen entries sightMany bookMany : Int32} {seenBy seenCame entryHouse entryAmount sights book : Nat → Int32} (hO : iv_O n seen entries seenBy seenCame entryHouse entryAmount sightMany bookMany sights book) :
    ∃ s, fX5_fitting seen seenBy seenCame houses above = some s ∧ fX12_whence sightMany town sights = some s := by
  obtain ⟨P1, P2, P3, P4, P5, P6, P7, P8, P9, P10, P11, P12, P13, P14⟩ := hP
  obtain ⟨a, c, o1, o2, o3, o4, o5, o6, o7, o8⟩ := hO
  have L : ∃ o o', oz_loop (fX5_fitting_b11 seen seenBy seenCame houses above) oz_fuel (0, ((1 <<< (houses &&& 31)) - 1)) = some o ∧ oz_loop (fX12_whence_b13 sightMany town sights) oz_fuel (0, ((1 <<< (nI n &&& 31)) - 1)) = some o' ∧ o.2 = o'.2 := by
    refine oz_rel (fun (i : Nat) (v w : Int32 × Int32) => v.1 = nI i ∧ w.1 = nI i ∧ v.2 = w.2) (fun (o o' : Int32 × Int32) => o.2 = o'.2) a (by omega) ?_ ?_ ⟨rfl, rfl, by dsimp only; rw [P2]⟩
    · intro i v w hi hv
      obtain ⟨v1, v2⟩ := v
      obtain ⟨w1, w2⟩ := w
      obtain ⟨e1, e2, e3⟩ := hv
      dsimp only at e1 e2 e3
      subst e1 e2 e3
      obtain ⟨⟨g, hg, f1⟩, f2, f3, f4⟩ := o7 i hi
      have c0 : Int32.toNatClampNeg (nI i) = i := pz_ncl (by omega)
      have cg : Int32.toNatClampNeg (nI g) = g := pz_ncl (by omega)
      have m2 : (2 : Int32) * nI i = nI (2 * i) := pk_mul 2 i
      have m3 : nI (2 * i) + 1 = nI (2 * i + 1) := nI_1 (2 * i)
      have c2 : Int32.toNatClampNeg (nI (2 * i)) = 2 * i := pz_ncl (by omega)
      have c3 : Int32.toNatClampNeg (nI (2 * i + 1)) = 2 * i + 1 := pz_ncl (by omega)
      have hX : fX5_fitting_b11 seen seenBy seenCame houses above (nI i, v2) = if seenCame i = 0 then some (.inl (nI i + 1, v2 &&& (above g ^^^ (-1)))) else some (.inl (nI i + 1, v2 &&& above g)) := by
        unfold fX5_fitting_b11
        dsimp only
        rw [o3, P2, if_neg (nI_ge hi (by omega)), if_neg (pz_ix (show i < 6 by omega) (by omega)), c0, f1, oz_b (hz_has1 hg P1), if_neg (show ¬ (1 : Int32) = 0 by decide), if_neg (pz_ix (show g < 8 by omega) (by omega)), cg]
      have hM : fX12_whence_b13 sightMany town sights (nI i, v2) = if seenCame i = 1 then some (.inl (nI i + 1, v2 &&& above g)) else some (.inl (nI i + 1, v2 &&& (above g ^^^ (-1)))) := by
        unfold fX12_whence_b13
        dsimp only
        simp only [m2, m3]
        rw [o4, if_neg (nI_ge hi (by omega)), if_neg (pz_ix (show 2 * i < 12 by omega) (by omega)), c2, f2, f1, oz_b (P11 g hg), if_neg (pz_ix (show 2 * i + 1 < 12 by omega) (by omega)), c3, f3]
      left
      rcases f4 with z | z
      · rw [z, if_pos rfl] at hX
        rw [z, if_neg (by decide)] at hM
        exact ⟨_, _, hX, hM, nI_1 i, nI_1 i, rfl⟩
      · rw [z, if_neg (by decide)] at hX
        rw [z, if_pos rfl] at hM
        exact ⟨_, _, hX, hM, nI_1 i, nI_1 i, rfl⟩
    · intro v w hv
      obtain ⟨v1, v2⟩ := v
      obtain ⟨w1, w2⟩ := w
      obtain ⟨e1, e2, e3⟩ := hv
      dsimp only at e1 e2 e3
      subst e1 e2
      refine ⟨(nI a, v2), (nI a, w2), ?_, ?_, e3⟩
      · unfold fX5_fitting_b11
        dsimp only
        rw [o3, if_pos (nI_le (Nat.le_refl a) (by omega))]
      · unfold fX12_whence_b13
        dsimp only
        rw [o4, if_pos (nI_le (Nat.le_refl a) (by omega))]
  obtain ⟨o, o', h1, h2, h3⟩ := L
  refine ⟨o.2, ?_, ?_⟩
  · unfold fX5_fitting
    exact oz_b h1
  · unfold fX12_whence
    rw [pz_c2, P3, oz_b h2, h3]
/-! THE DRAWS -/
theorem dw_l {x : Int64} {j : Nat} (h : x = lN j) (hj : j < 2147483648) : x = (nI j).toInt64 := by
  rw [h, nI_l (by omega)]
theorem dw_seed {j : Nat} (hj : j < 2147483648) : ((nI j).toInt64 * (1103515245 : Int64)) + (12345 : Int64) - (((nI j).toInt64 * (1103515245 : Int64)) + (12345 : Int64)) / (2147483648 : Int64) * (2147483648 : Int64) = lN ((j * 1103515245 + 12345) % 2147483648) := by
  rw [nI_l (by omega), show (1103515245 : Int64) = lN 1103515245 from rfl, show (12345 : Int64) = lN 12345 from rfl, show (2147483648 : Int64) = lN 2147483648 from rfl, lN_mul, lN_add]
  exact pk_lRem (by omega) (by omega) (by omega)
/-- one draw: the class's and the reference's -/
theorem dw_draw {value : Int32} {seed : Int64} (hW : iv_W value seed) {n : Nat} (h0 : 0 < n) (hn : n ≤ 16) :
    ∃ (r : Nat) (v' : Int32) (s' : Int64), r < n ∧ fX1_next value (nI n) = some (nI r, v') ∧ fX12_draw seed (nI n) = some (nI r, s') ∧ iv_W v' s' := by
  obtain ⟨w1, w2⟩ := hW
  have hv := Int32.toInt_lt value
  obtain ⟨j, hj, rfl⟩ := mz_of (n := 2147483648) (a := value) ⟨w2, by omega⟩
  have sd := dw_seed hj
  have hm : (j * 1103515245 + 12345) % 2147483648 < 2147483648 := Nat.mod_lt _ (by omega)
  generalize hk : (j * 1103515245 + 12345) % 2147483648 = k at sd hm
  refine ⟨k / 65536 % n, nI k, lN k, Nat.mod_lt _ h0, ?_, ?_, ⟨(nI_l (by omega)).symm, ?_⟩⟩
  · unfold fX1_next
    rw [if_pos (show (1 : Int32) ≤ nI n from (nI_le (a := 1) (b := n) h0 (by omega) : nI 1 ≤ nI n)), if_neg (nI_ne0 h0 (by omega)), sd, lN_i, show (65536 : Int32) = nI 65536 from rfl, pk_div (by omega) (by omega) (by omega), pk_rem (by omega) h0 (by omega)]
  · unfold fX12_draw
    rw [w1, sd, nI_l (show n < 2 ^ 31 by omega), if_neg (fun z => by have := (lN_eq (a := n) (b := 0) (by omega) (by omega)).mp z; omega), show (65536 : Int64) = lN 65536 from rfl, pk_lDiv (by omega) (by omega) (by omega), pk_lRem (by omega) h0 (by omega), lN_i]
  · rw [pz_nI hm]; omega
theorem sp_whence (v_x_reader_length : Int32) (v_x_reader_faultAt : Int32) (v_x_reader_letters : Nat → Int32) (v_x_plan_stands : Int32) (v_x_plan_lent : Int32) (v_x_plan_pipe : Int32) (v_x_plan_houses : Int32) (v_x_plan_room : Nat → Int32) (v_x_plan_daily : Nat → Int32) (v_x_plan_drain : Nat → Int32) (v_x_plan_above : Nat → Int32) (v_x_now_days : Int32) (v_x_now_spilled : Int32) (v_x_now_river : Int32) (v_x_now_kept : Nat → Int32) (v_x_now_away : Nat → Int32) (v_x_history_end : Int32) (v_x_history_count : Int32) (v_x_history_shelf_places : Int32) (v_x_history_shelf_cells : Nat → Int32) (v_x_images_storedSet : Int32) (v_x_images_shelf_places : Int32) (v_x_images_shelf_cells : Nat → Int32) (v_x_images_seeds : Nat → Int32) (v_x_draws_value : Int32) (v_x_notes_seen : Int32) (v_x_notes_entries : Int32) (v_x_notes_seenBy : Nat → Int32) (v_x_notes_seenCame : Nat → Int32) (v_x_notes_entryHouse : Nat → Int32) (v_x_notes_entryAmount : Nat → Int32) (v_m_undos : Int32) (v_m_seed : Int64) (v_m_size : Int32) (v_m_fault : Int32) (v_m_sightMany : Int32) (v_m_bookMany : Int32) (v_m_town : Nat → Int32) (v_m_now : Nat → Int32) (v_m_past : Nat → Int32) (v_m_images : Nat → Int32) (v_m_kept : Nat → Int32) (v_m_text : Nat → Int32) (v_m_sights : Nat → Int32) (v_m_book : Nat → Int32) (hI : IV v_x_reader_length v_x_reader_faultAt v_x_reader_letters v_x_plan_stands v_x_plan_lent v_x_plan_pipe v_x_plan_houses v_x_plan_room v_x_plan_daily v_x_plan_drain v_x_plan_above v_x_now_days v_x_now_spilled v_x_now_river v_x_now_kept v_x_now_away v_x_history_end v_x_history_count v_x_history_shelf_places v_x_history_shelf_cells v_x_images_storedSet v_x_images_shelf_places v_x_images_shelf_cells v_x_images_seeds v_x_draws_value v_x_notes_seen v_x_notes_entries v_x_notes_seenBy v_x_notes_seenCame v_x_notes_entryHouse v_x_notes_entryAmount v_m_undos v_m_seed v_m_size v_m_fault v_m_sightMany v_m_bookMany v_m_town v_m_now v_m_past v_m_images v_m_kept v_m_text v_m_sights v_m_book) : ∃ (yx : Int32) (ym : Int32), (fX11_whence v_x_plan_houses v_x_plan_above v_x_notes_seen v_x_notes_seenBy v_x_notes_seenCame) = some yx ∧ (fX12_whence v_m_sightMany v_m_town v_m_sights) = some ym ∧ yx = ym ∧ IV v_x_reader_length v_x_reader_faultAt v_x_reader_letters v_x_plan_stands v_x_plan_lent v_x_plan_pipe v_x_plan_houses v_x_plan_room v_x_plan_daily v_x_plan_drain v_x_plan_above v_x_now_days v_x_now_spilled v_x_now_river v_x_now_kept v_x_now_away v_x_history_end v_x_history_count v_x_history_shelf_places v_x_history_shelf_cells v_x_images_storedSet v_x_images_shelf_places v_x_images_shelf_cells v_x_images_seeds v_x_draws_value v_x_notes_seen v_x_notes_entries v_x_notes_seenBy v_x_notes_seenCame v_x_notes_entryHouse v_x_notes_entryAmount v_m_undos v_m_seed v_m_size v_m_fault v_m_sightMany v_m_bookMany v_m_town v_m_now v_m_past v_m_images v_m_kept v_m_text v_m_sights v_m_book := by
  obtain ⟨i1, i2, i3, n, hP, hS, hB, hH, hM, hO⟩ := hI
  obtain ⟨s, s1, s2⟩ := wz_whence hP hO
  refine ⟨s, s, ?_, s2, rfl, i1, i2, i3, n, hP, hS, hB, hH, hM, hO⟩
  unfold fX11_whence
  exact oz_b s1
