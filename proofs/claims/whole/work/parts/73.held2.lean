theorem sl_left {n : Nat} {stands lent pipe houses : Int32} {room daily drain above town now : Nat → Int32} (hP : iv_P n stands lent pipe houses room daily drain above town) {days : Int32} (h16 : now 16 = days) (hd : 0 ≤ days.toInt ∧ days.toInt ≤ 9030) :
    ∃ Lf, fX11_lentLeft lent days = some Lf ∧ fX12_daysOfLent town now = some Lf ∧ 0 ≤ Lf.toInt ∧ Lf.toInt ≤ 60 := by
  obtain ⟨P1, P2, P3, P4, P5, P6, P7, P8, P9, P10, P11, P12, P13, P14⟩ := hP
  have es : (lent - days).toInt = lent.toInt - days.toInt := pz_sub (by omega) (by omega)
  unfold fX11_lentLeft fX12_daysOfLent fX12_isLent
  rw [pz_c0, pz_c16, P4, h16]
  rcases Decidable.em (lent ≤ days) with z | z
  · rw [if_pos z, if_neg (fun y => by rw [pz_le] at z; rw [pz_lt, es, pz_i0] at y; omega)]
    exact ⟨0, rfl, rfl, by decide⟩
  · rw [if_neg z, if_pos (by rw [pz_le] at z; rw [pz_lt, es, pz_i0]; omega)]
    refine ⟨_, rfl, rfl, ?_⟩
    rw [pz_le] at z
    rw [es]; omega
theorem sl_dl {d Lf : Int32} (hd : 0 ≤ d.toInt ∧ d.toInt ≤ 99) (hL : 0 ≤ Lf.toInt ∧ Lf.toInt ≤ 60) : (d * Lf).toInt = d.toInt * Lf.toInt ∧ (Lf * d).toInt = d.toInt * Lf.toInt ∧ 0 ≤ d.toInt * Lf.toInt ∧ d.toInt * Lf.toInt ≤ 5940 := by
  have h1 : 0 ≤ d.toInt * Lf.toInt := Int.mul_nonneg hd.1 hL.1
  have h2 : d.toInt * Lf.toInt ≤ 99 * 60 := Int.mul_le_mul hd.2 hL.2 hL.1 (by omega)
  refine ⟨pz_mul (by omega) (by omega), ?_, h1, by omega⟩
  have h3 : Lf.toInt * d.toInt = d.toInt * Lf.toInt := Int.mul_comm _ _
  rw [pz_mul (by rw [h3]; omega) (by rw [h3]; omega), h3]
def sl_G (fh fj am f'h f'j : Int) : Prop := (fh < 0 ∧ 0 < fj ∧ (am = -fh ∨ am = fj) ∧ am ≤ -fh ∧ am ≤ fj ∧ f'h = fh + am ∧ f'j = fj - am) ∨ (0 < fh ∧ fj < 0 ∧ (am = fh ∨ am = -fj) ∧ am ≤ fh ∧ am ≤ -fj ∧ f'h = fh - am ∧ f'j = fj + am) ∨ (¬ (fh < 0 ∧ 0 < fj) ∧ ¬ (0 < fh ∧ fj < 0) ∧ am = 0 ∧ f'h = fh ∧ f'j = fj)
def sl_F (vg vt bm : Int) : Prop := (0 < vg ∧ vt < 0 ∧ (bm = vg ∨ bm = -vt) ∧ bm ≤ vg ∧ bm ≤ -vt) ∨ (¬ (0 < vg ∧ vt < 0) ∧ bm = 0)
theorem sl_i1 {fh fj vh vj bm am oh oj f'h f'j : Int} (e1 : vh = -fh) (e2 : vj = -fj) (bh : -10000 ≤ fh ∧ fh ≤ 10000) (bj : -10000 ≤ fj ∧ fj ≤ 10000) (z : vh ≤ 0) (f2 : sl_F vj vh bm) (f3 : oj = vj - bm) (f4 : oh = vh + bm) (g3 : sl_G fh fj am f'h f'j) :
    bm = am ∧ (oh = -f'h ∧ -10000 ≤ f'h ∧ f'h ≤ 10000) ∧ (oj = -f'j ∧ -10000 ≤ f'j ∧ f'j ≤ 10000) := by
  rcases Decidable.em (0 < fh ∧ fj < 0) with s | s
  · have F : (bm = vj ∨ bm = -vh) ∧ bm ≤ vj ∧ bm ≤ -vh := by
      rcases f2 with a | a
      · exact a.2.2
      · exact absurd ⟨by omega, by omega⟩ a.1
    have G : (am = fh ∨ am = -fj) ∧ am ≤ fh ∧ am ≤ -fj ∧ f'h = fh - am ∧ f'j = fj + am := by
      rcases g3 with c | c | c
      · exact absurd c.1 (by omega)
      · exact c.2.2
      · exact absurd s c.2.1
    clear f2 g3
    obtain ⟨F1, F2, F3⟩ := F
    obtain ⟨G1, G2, G3, G4, G5⟩ := G
    have e : bm = am := by
      rcases F1 with F1 | F1 <;> rcases G1 with G1 | G1 <;> omega
    have e0 : 0 ≤ am := by
      rcases G1 with G1 | G1 <;> omega
    clear F1 G1
    exact ⟨e, ⟨by omega, by omega, by omega⟩, ⟨by omega, by omega, by omega⟩⟩
  · have F : bm = 0 := by
      rcases f2 with a | a
      · exact absurd ⟨by omega, by omega⟩ s
      · exact a.2
    have G : am = 0 ∧ f'h = fh ∧ f'j = fj := by
      rcases g3 with c | c | c
      · exact absurd c.1 (by omega)
      · exact absurd ⟨c.1, c.2.1⟩ s
      · exact c.2.2
    clear f2 g3 s
    obtain ⟨G1, G2, G3⟩ := G
    exact ⟨by omega, ⟨by omega, by omega, by omega⟩, ⟨by omega, by omega, by omega⟩⟩
theorem sl_i2 {fh fj vh vj bm am oh oj f'h f'j : Int} (e1 : vh = -fh) (e2 : vj = -fj) (bh : -10000 ≤ fh ∧ fh ≤ 10000) (bj : -10000 ≤ fj ∧ fj ≤ 10000) (z : 0 < vh) (f2 : sl_F vh vj bm) (f3 : oh = vh - bm) (f4 : oj = vj + bm) (g3 : sl_G fh fj am f'h f'j) :
    bm = am ∧ (oh = -f'h ∧ -10000 ≤ f'h ∧ f'h ≤ 10000) ∧ (oj = -f'j ∧ -10000 ≤ f'j ∧ f'j ≤ 10000) := by
  rcases Decidable.em (fh < 0 ∧ 0 < fj) with s | s
  · have F : (bm = vh ∨ bm = -vj) ∧ bm ≤ vh ∧ bm ≤ -vj := by
      rcases f2 with a | a
      · exact a.2.2
      · exact absurd ⟨by omega, by omega⟩ a.1
    have G : (am = -fh ∨ am = fj) ∧ am ≤ -fh ∧ am ≤ fj ∧ f'h = fh + am ∧ f'j = fj - am := by
      rcases g3 with c | c | c
      · exact c.2.2
      · exact absurd c.1 (by omega)
      · exact absurd s c.1
    clear f2 g3
    obtain ⟨F1, F2, F3⟩ := F
    obtain ⟨G1, G2, G3, G4, G5⟩ := G
    have e : bm = am := by
      rcases F1 with F1 | F1 <;> rcases G1 with G1 | G1 <;> omega
    have e0 : 0 ≤ am := by
      rcases G1 with G1 | G1 <;> omega
    clear F1 G1
    exact ⟨e, ⟨by omega, by omega, by omega⟩, ⟨by omega, by omega, by omega⟩⟩
  · have F : bm = 0 := by
      rcases f2 with a | a
      · exact absurd ⟨by omega, by omega⟩ s
      · exact a.2
    have G : am = 0 ∧ f'h = fh ∧ f'j = fj := by
      rcases g3 with c | c | c
      · exact absurd ⟨c.1, c.2.1⟩ s
      · exact absurd c.1 (by omega)
      · exact c.2.2
    clear f2 g3 s
    obtain ⟨G1, G2, G3⟩ := G
    exact ⟨by omega, ⟨by omega, by omega, by omega⟩, ⟨by omega, by omega, by omega⟩⟩
theorem sp_held (v_x_reader_length : Int32) (v_x_reader_faultAt : Int32) (v_x_reader_letters : Nat → Int32) (v_x_plan_stands : Int32) (v_x_plan_lent : Int32) (v_x_plan_pipe : Int32) (v_x_plan_houses : Int32) (v_x_plan_room : Nat → Int32) (v_x_plan_daily : Nat → Int32) (v_x_plan_drain : Nat → Int32) (v_x_plan_above : Nat → Int32) (v_x_now_days : Int32) (v_x_now_spilled : Int32) (v_x_now_river : Int32) (v_x_now_kept : Nat → Int32) (v_x_now_away : Nat → Int32) (v_x_history_end : Int32) (v_x_history_count : Int32) (v_x_history_shelf_places : Int32) (v_x_history_shelf_cells : Nat → Int32) (v_x_images_storedSet : Int32) (v_x_images_shelf_places : Int32) (v_x_images_shelf_cells : Nat → Int32) (v_x_images_seeds : Nat → Int32) (v_x_draws_value : Int32) (v_x_notes_seen : Int32) (v_x_notes_entries : Int32) (v_x_notes_seenBy : Nat → Int32) (v_x_notes_seenCame : Nat → Int32) (v_x_notes_entryHouse : Nat → Int32) (v_x_notes_entryAmount : Nat → Int32) (v_x_neighbours_over : Nat → Int32) (v_m_undos : Int32) (v_m_seed : Int64) (v_m_size : Int32) (v_m_fault : Int32) (v_m_sightMany : Int32) (v_m_bookMany : Int32) (v_m_town : Nat → Int32) (v_m_now : Nat → Int32) (v_m_past : Nat → Int32) (v_m_images : Nat → Int32) (v_m_kept : Nat → Int32) (v_m_text : Nat → Int32) (v_m_sights : Nat → Int32) (v_m_book : Nat → Int32) (v_m_free : Nat → Int32) (hI : IV v_x_reader_length v_x_reader_faultAt v_x_reader_letters v_x_plan_stands v_x_plan_lent v_x_plan_pipe v_x_plan_houses v_x_plan_room v_x_plan_daily v_x_plan_drain v_x_plan_above v_x_now_days v_x_now_spilled v_x_now_river v_x_now_kept v_x_now_away v_x_history_end v_x_history_count v_x_history_shelf_places v_x_history_shelf_cells v_x_images_storedSet v_x_images_shelf_places v_x_images_shelf_cells v_x_images_seeds v_x_draws_value v_x_notes_seen v_x_notes_entries v_x_notes_seenBy v_x_notes_seenCame v_x_notes_entryHouse v_x_notes_entryAmount v_m_undos v_m_seed v_m_size v_m_fault v_m_sightMany v_m_bookMany v_m_town v_m_now v_m_past v_m_images v_m_kept v_m_text v_m_sights v_m_book) : ∃ (yx : Int32 × (Nat → Int32)) (ym : Int32 × (Nat → Int32)), (fX11_held v_x_plan_lent v_x_plan_houses v_x_plan_room v_x_plan_daily v_x_plan_drain v_x_now_days v_x_now_kept v_x_neighbours_over) = some yx ∧ (fX12_held v_m_town v_m_now v_m_free) = some ym ∧ yx.1 = ym.1 ∧ IV v_x_reader_length v_x_reader_faultAt v_x_reader_letters v_x_plan_stands v_x_plan_lent v_x_plan_pipe v_x_plan_houses v_x_plan_room v_x_plan_daily v_x_plan_drain v_x_plan_above v_x_now_days v_x_now_spilled v_x_now_river v_x_now_kept v_x_now_away v_x_history_end v_x_history_count v_x_history_shelf_places v_x_history_shelf_cells v_x_images_storedSet v_x_images_shelf_places v_x_images_shelf_cells v_x_images_seeds v_x_draws_value v_x_notes_seen v_x_notes_entries v_x_notes_seenBy v_x_notes_seenCame v_x_notes_entryHouse v_x_notes_entryAmount v_m_undos v_m_seed v_m_size v_m_fault v_m_sightMany v_m_bookMany v_m_town v_m_now v_m_past v_m_images v_m_kept v_m_text v_m_sights v_m_book := by
  obtain ⟨i1, i2, i3, n, hP, hS, hB, hH, hM, hO⟩ := hI
  obtain ⟨Lf, l1, l2, l3⟩ := sl_left hP hS.2.2.1 hB.2.2.2.1
  have hP' := hP
  obtain ⟨P1, P2, P3, P4, P5, P6, P7, P8, P9, P10, P11, P12, P13, P14⟩ := hP
  have A : ∃ o o', oz_loop (fX4_hold_b3 v_x_plan_houses v_x_plan_room v_x_plan_daily v_x_now_kept Lf) oz_fuel (0, v_x_neighbours_over) = some o ∧ oz_loop (fX12_held_b4 v_m_town v_m_now) oz_fuel (0, v_m_free) = some o' ∧ (∀ h, h < n → (o.2 h).toInt = -(o'.2 h).toInt ∧ -10000 ≤ (o'.2 h).toInt ∧ (o'.2 h).toInt ≤ 10000) := by
    refine oz_rel (fun (i : Nat) (v w : Int32 × (Nat → Int32)) => v.1 = nI i ∧ w.1 = nI i ∧ ∀ h, h < i → (v.2 h).toInt = -(w.2 h).toInt ∧ -10000 ≤ (w.2 h).toInt ∧ (w.2 h).toInt ≤ 10000) (fun (o o' : Int32 × (Nat → Int32)) => ∀ h, h < n → (o.2 h).toInt = -(o'.2 h).toInt ∧ -10000 ≤ (o'.2 h).toInt ∧ (o'.2 h).toInt ≤ 10000) n (by omega) ?_ ?_ ⟨rfl, rfl, fun h hh => by omega⟩
    · intro i v w hi hv
      obtain ⟨v1, v2⟩ := v
      obtain ⟨w1, w2⟩ := w
      obtain ⟨e1, e2, e3⟩ := hv
      dsimp only at e1 e2 e3
      subst e1 e2
      have c0 : Int32.toNatClampNeg (nI i) = i := pz_ncl (by omega)
      have c3 : Int32.toNatClampNeg (nI (3 + i)) = 3 + i := pz_ncl (by omega)
      have c11 : Int32.toNatClampNeg (nI (11 + i)) = 11 + i := pz_ncl (by omega)
      obtain ⟨d1, d2, d3, d4⟩ := sl_dl (P9 i hi).2 l3
      have rr := (P9 i hi).1
      have kk := hB.1 i hi
      left
      refine ⟨(nI i + 1, upd v2 i ((v_x_now_kept i + v_x_plan_daily i * Lf) - v_x_plan_room i)), (nI i + 1, upd w2 i ((v_x_plan_room i - v_x_now_kept i) - Lf * v_x_plan_daily i)), ?_, ?_, nI_1 i, nI_1 i, ?_⟩
      · unfold fX4_hold_b3
        dsimp only
        rw [P2, if_neg (nI_ge hi (by omega)), if_neg (pz_ix (show i < 8 by omega) (by omega)), c0]
      · unfold fX12_held_b4
        dsimp only
        simp only [pz_c2, P3, pz_a3, pz_a11, pz_0a]
        rw [if_neg (nI_ge hi (by omega)), if_neg (pz_ix (show 3 + i < 27 by omega) (by omega)), if_neg (pz_ix (show i < 19 by omega) (by omega)), oz_b l2, if_neg (pz_ix (show 11 + i < 27 by omega) (by omega)), if_neg (pz_ix (show i < 8 by omega) (by omega)), c0, c3, c11, P6 i hi, P7 i hi, hS.1 i (by omega)]
      · intro h hh
        dsimp only
        rcases Decidable.em (h = i) with z | z
        · subst z
          have x1 : (v_x_now_kept h + v_x_plan_daily h * Lf).toInt = (v_x_now_kept h).toInt + (v_x_plan_daily h).toInt * Lf.toInt := by rw [pz_add (by rw [d1]; omega) (by rw [d1]; omega), d1]
          have x2 : (v_x_plan_room h - v_x_now_kept h).toInt = (v_x_plan_room h).toInt - (v_x_now_kept h).toInt := pz_sub (by omega) (by omega)
          rw [pk_us, pk_us, pz_sub (by rw [x1]; omega) (by rw [x1]; omega), pz_sub (by rw [x2, d2]; omega) (by rw [x2, d2]; omega), x1, x2, d2]
          omega
        · rw [pk_un z, pk_un z]; exact e3 h (by omega)
    · intro v w hv
      obtain ⟨v1, v2⟩ := v
      obtain ⟨w1, w2⟩ := w
      obtain ⟨e1, e2, e3⟩ := hv
      dsimp only at e1 e2 e3
      subst e1 e2
      refine ⟨(nI n, v2), (nI n, w2), ?_, ?_, e3⟩
      · unfold fX4_hold_b3
        dsimp only
        rw [P2, if_pos (nI_le (Nat.le_refl n) (by omega))]
      · unfold fX12_held_b4
        dsimp only
        rw [pz_c2, P3, if_pos (nI_le (Nat.le_refl n) (by omega))]
  obtain ⟨o, o', a1, a2, a3⟩ := A
  have m1 : (-1 : Int32).toInt = -1 := by decide
  have B : ∃ q q', oz_loop (fX4_hold_b61 v_x_plan_houses v_x_plan_drain) oz_fuel (nI n - 1, 0, o.2) = some q ∧ oz_loop (fX12_held_b67 v_m_town) oz_fuel (nI n - 1, 0, o'.2) = some q' ∧ q.2.1 = q'.2.1 := by
    refine oz_rel (fun (i : Nat) (v w : Int32 × Int32 × (Nat → Int32)) => v.1.toInt = (n : Int) - 1 - (i : Int) ∧ w.1 = v.1 ∧ v.2.1 = w.2.1 ∧ ∀ h, h < n → (v.2.2 h).toInt = -(w.2.2 h).toInt ∧ -10000 ≤ (w.2.2 h).toInt ∧ (w.2.2 h).toInt ≤ 10000) (fun (q q' : Int32 × Int32 × (Nat → Int32)) => q.2.1 = q'.2.1) n (by omega) ?_ ?_ ⟨by dsimp only; rw [mz_n1 P1]; omega, rfl, rfl, a3⟩
    · intro i v w hi hv
      obtain ⟨v1, v2, v3⟩ := v
      obtain ⟨w1, w2, w3⟩ := w
      obtain ⟨e1, e2, e3, e4⟩ := hv
      dsimp only at e1 e2 e3 e4
      have e2' : v1 = w1 := e2.symm
      subst e2' e3
      obtain ⟨h, hh, rfl⟩ := mz_of (a := v1) (n := n) ⟨by omega, by omega⟩
      have eh : (nI h).toInt = h := pz_nI (by omega)
      have ed : (nI h + (-1)).toInt = (h : Int) - 1 := by rw [pz_add (by rw [eh, m1]; omega) (by rw [eh, m1]; omega), eh, m1]; omega
      have ch : Int32.toNatClampNeg (nI h) = h := pz_ncl (by omega)
      have p0 : ¬ nI h < 0 := nI_pos (by omega)
      have bh := e4 h hh
      left
      rcases P10 h hh with q | ⟨j, hj, q⟩
      · refine ⟨(nI h + (-1), v2, v3), (nI h + (-1), v2, w3), ?_, ?_, by dsimp only; rw [ed]; omega, rfl, rfl, e4⟩
        · unfold fX4_hold_b61
          dsimp only
          rw [if_neg p0, if_neg (pz_ix (show h < 8 by omega) (by omega)), ch, q, P2, oz_b hz_has0, if_pos rfl]
        · unfold fX12_held_b67
          dsimp only
          simp only [pz_a19]
          rw [if_neg p0, if_neg (pz_ix (show 19 + h < 27 by omega) (by omega)), pz_ncl (by omega), P8 h hh, if_pos q]
      · have bj := e4 j (by omega)
        obtain ⟨am, free', g1, g2, g3⟩ := sl_model (free := w3) P1 hh hj ((P8 h hh).trans q) v2 (by omega) (by omega)
        rcases Decidable.em (v3 h ≤ 0) with z | z
        · obtain ⟨bm, over', f1, f2, f3, f4, f5⟩ := sl_settle (over := v3) (g := j) (t := h) (by clear g3; omega) (by clear g3; omega) (by clear g3; omega) (by clear g3; omega) (by clear g3; omega)
          have eX : fX4_hold_b61 v_x_plan_houses v_x_plan_drain (nI h, v2, v3) = some (.inl (nI h + (-1), v2 + bm, over')) := by
            unfold fX4_hold_b61
            dsimp only
            rw [if_neg p0, if_neg (pz_ix (show h < 8 from Nat.lt_of_lt_of_le hh P1) (by decide)), ch, q, P2, oz_b (hz_has1 (Nat.lt_trans hj hh) P1), if_neg (show ¬ (1 : Int32) = 0 by decide), if_pos z, oz_b f1]
          rw [pz_le, pz_i0] at z
          obtain ⟨t1, t2, t3⟩ := sl_i1 bh.1 bj.1 bh.2 bj.2 z f2 f3 f4 g3
          have eab : bm = am := pz_eq.mpr t1
          subst eab
          refine ⟨_, _, eX, g1, by dsimp only; rw [ed]; clear f2 g3 t1 t2 t3; omega, rfl, rfl, ?_⟩
          intro k hk
          dsimp only
          rcases Decidable.em (k = h) with y | y
          · subst y; exact t2
          · rcases Decidable.em (k = j) with x | x
            · subst x; exact t3
            · rw [f5 k x y, g2 k y x]; exact e4 k hk
        · obtain ⟨bm, over', f1, f2, f3, f4, f5⟩ := sl_settle (over := v3) (g := h) (t := j) (by clear g3; omega) (by clear g3; omega) (by clear g3; omega) (by clear g3; omega) (by clear g3; omega)
          have eX : fX4_hold_b61 v_x_plan_houses v_x_plan_drain (nI h, v2, v3) = some (.inl (nI h + (-1), v2 + bm, over')) := by
            unfold fX4_hold_b61
            dsimp only
            rw [if_neg p0, if_neg (pz_ix (show h < 8 from Nat.lt_of_lt_of_le hh P1) (by decide)), ch, q, P2, oz_b (hz_has1 (Nat.lt_trans hj hh) P1), if_neg (show ¬ (1 : Int32) = 0 by decide), if_neg z, oz_b f1]
          rw [pz_le, pz_i0] at z
          obtain ⟨t1, t2, t3⟩ := sl_i2 bh.1 bj.1 bh.2 bj.2 (Int.not_le.mp z) f2 f3 f4 g3
          have eab : bm = am := pz_eq.mpr t1
          subst eab
          refine ⟨_, _, eX, g1, by dsimp only; rw [ed]; clear f2 g3 t1 t2 t3; omega, rfl, rfl, ?_⟩
          intro k hk
          dsimp only
          rcases Decidable.em (k = h) with y | y
          · subst y; exact t2
          · rcases Decidable.em (k = j) with x | x
            · subst x; exact t3
            · rw [f5 k y x, g2 k y x]; exact e4 k hk
    · intro v w hv
      obtain ⟨v1, v2, v3⟩ := v
      obtain ⟨w1, w2, w3⟩ := w
      obtain ⟨e1, e2, e3, e4⟩ := hv
      dsimp only at e1 e2 e3 e4
      have e2' : v1 = w1 := e2.symm
      subst e2'
      refine ⟨(v1, v2, v3), (v1, w2, w3), ?_, ?_, e3⟩
      · unfold fX4_hold_b61
        dsimp only
        rw [if_pos (by rw [pz_lt, pz_i0]; omega)]
      · unfold fX12_held_b67
        dsimp only
        rw [if_pos (by rw [pz_lt, pz_i0]; omega)]
  obtain ⟨q, q', b1, b2, b3⟩ := B
  refine ⟨(q.2.1, q.2.2), (q'.2.1, q'.2.2), ?_, ?_, b3, i1, i2, i3, n, hP', hS, hB, hH, hM, hO⟩
  · unfold fX11_held
    rw [oz_b l1]
    have e : fX4_hold v_x_neighbours_over v_x_plan_houses v_x_plan_room v_x_plan_daily v_x_plan_drain v_x_now_kept Lf = some (q.2.1, q.2.2) := by
      unfold fX4_hold
      rw [oz_b a1]
      have hh : v_x_plan_houses - 1 = nI n - 1 := by rw [P2]
      rw [hh]
      exact oz_b b1
    rw [oz_b e]
  · unfold fX12_held
    rw [oz_b a2, pz_c2, P3]
    exact oz_b b2
