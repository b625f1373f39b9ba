/-! A DAY BY DRAWS -/
theorem dr_up {n : Nat} {room : Nat → Int32} {D : Int} {kept away t : Nat → Int32} {days spilled river : Int32} (hn : n ≤ 8) (hS : pr_S kept away days spilled river t) (hB : pr_B n room D kept away days spilled river) {r x : Nat} (hr : r < n) (hx : x ≤ 60) :
    pr_S kept (upd away r (nI x)) days spilled river (upd t (8 + r) (nI x)) ∧ pr_B n room D kept (upd away r (nI x)) days spilled river := by
  obtain ⟨s1, s2, s3, s4, s5⟩ := hS
  obtain ⟨b1, b2, b3, b4⟩ := hB
  refine ⟨⟨?_, ?_, ?_, ?_, ?_⟩, b1, ?_, ?_, b4⟩
  · intro g hg
    rw [pk_un (show g ≠ 8 + r by omega)]; exact s1 g hg
  · intro g hg
    rcases Decidable.em (g = r) with z | z
    · subst z; rw [pk_us, pk_us]
    · rw [pk_un (show 8 + g ≠ 8 + r by omega), pk_un z]; exact s2 g hg
  · rw [pk_un (show 16 ≠ 8 + r by omega)]; exact s3
  · rw [pk_un (show 17 ≠ 8 + r by omega)]; exact s4
  · rw [pk_un (show 18 ≠ 8 + r by omega)]; exact s5
  · intro g g1 g2
    rw [pk_un (show g ≠ r by omega)]; exact b2 g g1 g2
  · intro g hg
    rcases Decidable.em (g = r) with z | z
    · subst z; rw [pk_us, pz_nI (by omega)]; omega
    · rw [pk_un z]; exact b3 g hg
/-- what the reference does with a state and a seed on such a day -/
def dr_M (town t : Nat → Int32) (s : Int64) : Option (Int64 × (Nat → Int32)) :=
  if town 2 ≤ 0 then Option.bind (fX12_dayGoes town t (-1) 0) (fun y => some (s, y)) else Option.bind (fX12_draw s (town 2)) (fun y45 => Option.bind (fX12_draw y45.2 4) (fun y52 => if y52.1 = 0 then Option.bind (fX12_draw y52.2 5) (fun y69 => if ((8 + y45.1) < 0 ∨ 19 ≤ Int32.toNatClampNeg (8 + y45.1)) then none else Option.bind (fX12_draw y69.2 (town 2)) (fun y80 => Option.bind (fX12_draw y80.2 10) (fun y88 => Option.bind (fX12_dayGoes town (upd t (Int32.toNatClampNeg (8 + y45.1)) y69.1) y80.1 y88.1) (fun y => some (y88.2, y))))) else Option.bind (fX12_draw y52.2 (town 2)) (fun y80 => Option.bind (fX12_draw y80.2 10) (fun y88 => Option.bind (fX12_dayGoes town t y80.1 y88.1) (fun y => some (y88.2, y))))))
theorem dr_day {n : Nat} {stands lent pipe houses : Int32} {room daily drain above town : Nat → Int32} (hP : iv_P n stands lent pipe houses room daily drain above town) {D : Int} (hD : D < 20000) {kept away t : Nat → Int32} {days spilled river value : Int32} {seed : Int64} (hS : pr_S kept away days spilled river t) (hB : pr_B n room D kept away days spilled river) (hW : iv_W value seed) :
    ∃ o q, fX11_driftDay lent houses room daily days spilled river kept away value = some o ∧ dr_M town t seed = some q ∧ pr_S o.2.2.2.1 o.2.2.2.2.1 o.1 o.2.1 o.2.2.1 q.2 ∧ pr_B n room (D + 1) o.2.2.2.1 o.2.2.2.2.1 o.1 o.2.1 o.2.2.1 ∧ iv_W o.2.2.2.2.2 q.1 := by
  obtain ⟨P1, P2, P3, P4, P5, P6, P7, P8, P9, P10, P11, P12, P13, P14⟩ := hP
  unfold fX11_driftDay dr_M
  rw [P2, P3]
  rcases Nat.lt_or_ge 0 n with h0 | h0
  · rw [if_neg (nI_nle h0 (by omega)), if_neg (nI_nle h0 (by omega))]
    obtain ⟨r1, v1, s1, l1, x1, m1, W1⟩ := dw_draw hW h0 (by omega)
    obtain ⟨r2, v2, s2, l2, x2, m2, W2⟩ := dw_draw W1 (n := 4) (by omega) (by omega)
    rw [oz_b x1, oz_b m1, oz_b (show fX1_next v1 4 = some (nI r2, v2) from x2), oz_b (show fX12_draw s1 4 = some (nI r2, s2) from m2)]
    dsimp only
    rcases Decidable.em (nI r2 = 0) with z | z
    · rw [if_pos z, if_pos z]
      obtain ⟨r3, v3, s3, l3, x3, m3, W3⟩ := dw_draw W2 (n := 5) (by omega) (by omega)
      obtain ⟨r4, v4, s4, l4, x4, m4, W4⟩ := dw_draw W3 h0 (by omega)
      obtain ⟨r5, v5, s5, l5, x5, m5, W5⟩ := dw_draw W4 (n := 10) (by omega) (by omega)
      obtain ⟨hS1, hB1⟩ := dr_up P1 hS hB (r := r1) (x := r3) l1 (by omega)
      obtain ⟨g, g', g1, g2, g3, g4⟩ := dz_day P1 P4 P3 P6 P7 P9 hD hS1 hB1 (nI r4) (nI r5) (by rw [pz_nI (by omega)]; omega)
      rw [oz_b (hz_has1 l1 P1), if_neg (show ¬ (1 : Int32) = 0 by decide), oz_b (show fX1_next v2 5 = some (nI r3, v3) from x3), oz_b (show fX12_draw s2 5 = some (nI r3, s3) from m3)]
      dsimp only
      rw [pz_a8, if_neg (pz_ix (show r1 < 8 by omega) (by omega)), if_neg (pz_ix (show 8 + r1 < 19 by omega) (by omega)), oz_b x4, oz_b m4]
      dsimp only
      rw [oz_b (show fX1_next v4 10 = some (nI r5, v5) from x5), oz_b (show fX12_draw s4 10 = some (nI r5, s5) from m5)]
      dsimp only
      rw [pz_ncl (by omega), pz_ncl (by omega), oz_b g1, oz_b g2]
      exact ⟨_, _, rfl, rfl, g3, g4, W5⟩
    · rw [if_neg z, if_neg z]
      obtain ⟨r4, v4, s4, l4, x4, m4, W4⟩ := dw_draw W2 h0 (by omega)
      obtain ⟨r5, v5, s5, l5, x5, m5, W5⟩ := dw_draw W4 (n := 10) (by omega) (by omega)
      obtain ⟨g, g', g1, g2, g3, g4⟩ := dz_day P1 P4 P3 P6 P7 P9 hD hS hB (nI r4) (nI r5) (by rw [pz_nI (by omega)]; omega)
      rw [oz_b x4, oz_b m4]
      dsimp only
      rw [oz_b (show fX1_next v4 10 = some (nI r5, v5) from x5), oz_b (show fX12_draw s4 10 = some (nI r5, s5) from m5)]
      dsimp only
      rw [oz_b g1, oz_b g2]
      exact ⟨_, _, rfl, rfl, g3, g4, W5⟩
  · have hn0 : n = 0 := by omega
    subst hn0
    rw [if_pos (show nI 0 ≤ 0 by decide), if_pos (show nI 0 ≤ 0 by decide)]
    obtain ⟨g, g', g1, g2, g3, g4⟩ := dz_day P1 P4 P3 P6 P7 P9 hD hS hB (-1) 0 (by decide)
    rw [oz_b g1, oz_b g2]
    exact ⟨_, _, rfl, rfl, g3, g4, hW⟩
theorem dr_b {town : Nat → Int32} {a1 : Int32} {w : Int32 × Int32 × Int64 × (Nat → Int32) × (Nat → Int32)} {y : Int32 × (Nat → Int32)} {q : Int64 × (Nat → Int32)} (h : ¬ a1 ≤ w.1) (hy : fX12_remember w.2.1 w.2.2.2.1 w.2.2.2.2 = some y) (hq : dr_M town w.2.2.2.1 w.2.2.1 = some q) :
    fX12_drift_b14 town a1 w = some (.inl (w.1 + 1, y.1, q.1, q.2, y.2)) := by
  unfold fX12_drift_b14
  rw [if_neg h, oz_b hy, pz_c2]
  unfold dr_M at hq
  rcases Decidable.em (town 2 ≤ 0) with z | z
  · rw [if_pos z] at hq ⊢
    obtain ⟨u, u1, u2⟩ := oz_bind hq
    rw [oz_b u1, ← Option.some.inj u2]
  · rw [if_neg z] at hq ⊢
    obtain ⟨u, u1, hq⟩ := oz_bind hq
    obtain ⟨u', u1', hq⟩ := oz_bind hq
    rw [oz_b u1, oz_b u1']
    rcases Decidable.em (u'.1 = 0) with x | x
    · rw [if_pos x] at hq ⊢
      obtain ⟨u3, u31, hq⟩ := oz_bind hq
      obtain ⟨c1, hq⟩ := oz_chk hq
      obtain ⟨u4, u41, hq⟩ := oz_bind hq
      obtain ⟨u5, u51, hq⟩ := oz_bind hq
      obtain ⟨u6, u61, hq⟩ := oz_bind hq
      rw [oz_b u31, if_neg c1, oz_b u41, oz_b u51, oz_b u61, ← Option.some.inj hq]
    · rw [if_neg x] at hq ⊢
      obtain ⟨u4, u41, hq⟩ := oz_bind hq
      obtain ⟨u5, u51, hq⟩ := oz_bind hq
      obtain ⟨u6, u61, hq⟩ := oz_bind hq
      rw [oz_b u41, oz_b u51, oz_b u61, ← Option.some.inj hq]
theorem sp_drift (v_x_reader_length : Int32) (v_x_reader_faultAt : Int32) (v_x_reader_letters : Nat → Int32) (v_x_plan_stands : Int32) (v_x_plan_lent : Int32) (v_x_plan_pipe : Int32) (v_x_plan_houses : Int32) (v_x_plan_room : Nat → Int32) (v_x_plan_daily : Nat → Int32) (v_x_plan_drain : Nat → Int32) (v_x_plan_above : Nat → Int32) (v_x_now_days : Int32) (v_x_now_spilled : Int32) (v_x_now_river : Int32) (v_x_now_kept : Nat → Int32) (v_x_now_away : Nat → Int32) (v_x_history_end : Int32) (v_x_history_count : Int32) (v_x_history_shelf_places : Int32) (v_x_history_shelf_cells : Nat → Int32) (v_x_images_storedSet : Int32) (v_x_images_shelf_places : Int32) (v_x_images_shelf_cells : Nat → Int32) (v_x_images_seeds : Nat → Int32) (v_x_draws_value : Int32) (v_x_notes_seen : Int32) (v_x_notes_entries : Int32) (v_x_notes_seenBy : Nat → Int32) (v_x_notes_seenCame : Nat → Int32) (v_x_notes_entryHouse : Nat → Int32) (v_x_notes_entryAmount : Nat → Int32) (v_m_undos : Int32) (v_m_seed : Int64) (v_m_size : Int32) (v_m_fault : Int32) (v_m_sightMany : Int32) (v_m_bookMany : Int32) (v_m_town : Nat → Int32) (v_m_now : Nat → Int32) (v_m_past : Nat → Int32) (v_m_images : Nat → Int32) (v_m_kept : Nat → Int32) (v_m_text : Nat → Int32) (v_m_sights : Nat → Int32) (v_m_book : Nat → Int32) (hI : IV v_x_reader_length v_x_reader_faultAt v_x_reader_letters v_x_plan_stands v_x_plan_lent v_x_plan_pipe v_x_plan_houses v_x_plan_room v_x_plan_daily v_x_plan_drain v_x_plan_above v_x_now_days v_x_now_spilled v_x_now_river v_x_now_kept v_x_now_away v_x_history_end v_x_history_count v_x_history_shelf_places v_x_history_shelf_cells v_x_images_storedSet v_x_images_shelf_places v_x_images_shelf_cells v_x_images_seeds v_x_draws_value v_x_notes_seen v_x_notes_entries v_x_notes_seenBy v_x_notes_seenCame v_x_notes_entryHouse v_x_notes_entryAmount v_m_undos v_m_seed v_m_size v_m_fault v_m_sightMany v_m_bookMany v_m_town v_m_now v_m_past v_m_images v_m_kept v_m_text v_m_sights v_m_book) (a1 : Int32) : ∃ (yx : Int32 × Int32 × Int32 × Int32 × (Nat → Int32) × (Nat → Int32) × Int32 × Int32 × (Nat → Int32) × Int32) (ym : Int32 × Int32 × Int64 × (Nat → Int32) × (Nat → Int32)), (fX11_drift v_x_plan_stands v_x_plan_lent v_x_plan_houses v_x_plan_room v_x_plan_daily v_x_now_days v_x_now_spilled v_x_now_river v_x_now_kept v_x_now_away v_x_history_end v_x_history_count v_x_history_shelf_places v_x_history_shelf_cells v_x_draws_value a1) = some yx ∧ (fX12_drift v_m_undos v_m_seed v_m_town v_m_now v_m_past a1) = some ym ∧ yx.1 = ym.1 ∧ IV v_x_reader_length v_x_reader_faultAt v_x_reader_letters v_x_plan_stands v_x_plan_lent v_x_plan_pipe v_x_plan_houses v_x_plan_room v_x_plan_daily v_x_plan_drain v_x_plan_above yx.2.1 yx.2.2.1 yx.2.2.2.1 yx.2.2.2.2.1 yx.2.2.2.2.2.1 yx.2.2.2.2.2.2.1 yx.2.2.2.2.2.2.2.1 v_x_history_shelf_places yx.2.2.2.2.2.2.2.2.1 v_x_images_storedSet v_x_images_shelf_places v_x_images_shelf_cells v_x_images_seeds yx.2.2.2.2.2.2.2.2.2 v_x_notes_seen v_x_notes_entries v_x_notes_seenBy v_x_notes_seenCame v_x_notes_entryHouse v_x_notes_entryAmount ym.2.1 ym.2.2.1 v_m_size v_m_fault v_m_sightMany v_m_bookMany v_m_town ym.2.2.2.1 ym.2.2.2.2 v_m_images v_m_kept v_m_text v_m_sights v_m_book := by
  obtain ⟨i1, i2, i3, n, hP, hS, hB, hH, hM, hO⟩ := hI
  obtain ⟨r, r1, r2, r3⟩ := rz_ref hP hS.2.2.1 a1
  unfold fX11_drift fX12_drift
  rw [oz_b r1, oz_b r2]
  rcases Decidable.em (r = 0) with z | z
  · rw [if_pos z, if_pos z]
    obtain ⟨q, hd⟩ := r3 z
    have P1 := hP.1
    obtain ⟨k, hk, rfl⟩ := mz_of (n := 31) (a := a1) ⟨by omega, by omega⟩
    have L : ∃ o o', oz_loop (fX11_drift_b14 v_x_plan_lent v_x_plan_houses v_x_plan_room v_x_plan_daily v_x_history_shelf_places (nI k)) oz_fuel (0, v_x_now_days, v_x_now_spilled, v_x_now_river, v_x_now_kept, v_x_now_away, v_x_history_end, v_x_history_count, v_x_history_shelf_cells, v_x_draws_value) = some o ∧ oz_loop (fX12_drift_b14 v_m_town (nI k)) oz_fuel (0, v_m_undos, v_m_seed, v_m_now, v_m_past) = some o' ∧ (pr_S o.2.2.2.2.1 o.2.2.2.2.2.1 o.2.1 o.2.2.1 o.2.2.2.1 o'.2.2.2.1 ∧ pr_B n v_x_plan_room 9030 o.2.2.2.2.1 o.2.2.2.2.2.1 o.2.1 o.2.2.1 o.2.2.2.1 ∧ iv_H n v_x_plan_room o.2.2.2.2.2.2.1 o.2.2.2.2.2.2.2.1 v_x_history_shelf_places o.2.2.2.2.2.2.2.2.1 o'.2.1 o'.2.2.2.2 ∧ iv_W o.2.2.2.2.2.2.2.2.2 o'.2.2.1) := by
      refine oz_rel (fun (i : Nat) (v : Int32 × Int32 × Int32 × Int32 × (Nat → Int32) × (Nat → Int32) × Int32 × Int32 × (Nat → Int32) × Int32) (w : Int32 × Int32 × Int64 × (Nat → Int32) × (Nat → Int32)) => v.1 = nI i ∧ w.1 = nI i ∧ pr_S v.2.2.2.2.1 v.2.2.2.2.2.1 v.2.1 v.2.2.1 v.2.2.2.1 w.2.2.2.1 ∧ pr_B n v_x_plan_room (9000 + (i : Int)) v.2.2.2.2.1 v.2.2.2.2.2.1 v.2.1 v.2.2.1 v.2.2.2.1 ∧ iv_H n v_x_plan_room v.2.2.2.2.2.2.1 v.2.2.2.2.2.2.2.1 v_x_history_shelf_places v.2.2.2.2.2.2.2.2.1 w.2.1 w.2.2.2.2 ∧ iv_W v.2.2.2.2.2.2.2.2.2 w.2.2.1)
        (fun (o : Int32 × Int32 × Int32 × Int32 × (Nat → Int32) × (Nat → Int32) × Int32 × Int32 × (Nat → Int32) × Int32) (o' : Int32 × Int32 × Int64 × (Nat → Int32) × (Nat → Int32)) => pr_S o.2.2.2.2.1 o.2.2.2.2.2.1 o.2.1 o.2.2.1 o.2.2.2.1 o'.2.2.2.1 ∧ pr_B n v_x_plan_room 9030 o.2.2.2.2.1 o.2.2.2.2.2.1 o.2.1 o.2.2.1 o.2.2.2.1 ∧ iv_H n v_x_plan_room o.2.2.2.2.2.2.1 o.2.2.2.2.2.2.2.1 v_x_history_shelf_places o.2.2.2.2.2.2.2.2.1 o'.2.1 o'.2.2.2.2 ∧ iv_W o.2.2.2.2.2.2.2.2.2 o'.2.2.1) k (by omega) ?_ ?_ ⟨rfl, rfl, hS, ?_, hH, i3⟩
      · intro i v w hi hv
        obtain ⟨e1, e2, e3, e4, e5, e6⟩ := hv
        obtain ⟨y, y', y1, y2, y3⟩ := hx_rem P1 e5 e3 (pr_B_mono (by omega) e4)
        obtain ⟨g, g', g1, g2, g3, g4, g5⟩ := dr_day hP (by omega) e3 e4 e6
        left
        refine ⟨(v.1 + 1, g.1, g.2.1, g.2.2.1, g.2.2.2.1, g.2.2.2.2.1, y.1, y.2.1, y.2.2, g.2.2.2.2.2), (w.1 + 1, y'.1, g'.1, g'.2, y'.2), ?_, dr_b (by rw [e2]; exact nI_ge hi (by omega)) y2 g2, by rw [e1]; exact nI_1 i, by rw [e2]; exact nI_1 i, g3, pr_B_mono (by omega) g4, y3, g5⟩
        unfold fX11_drift_b14
        rw [if_neg (by rw [e1]; exact nI_ge hi (by omega)), oz_b y1, oz_b g1]
      · intro v w hv
        obtain ⟨e1, e2, e3, e4, e5, e6⟩ := hv
        refine ⟨v, w, ?_, ?_, e3, pr_B_mono (by omega) e4, e5, e6⟩
        · unfold fX11_drift_b14
          rw [if_pos (by rw [e1]; exact nI_le (Nat.le_refl k) (by omega))]
        · unfold fX12_drift_b14
          rw [if_pos (by rw [e2]; exact nI_le (Nat.le_refl k) (by omega))]
      · obtain ⟨b1, b2, b3, b4, b5⟩ := hB
        exact ⟨b1, b2, b3, ⟨b4.1, by dsimp only; omega⟩, b5⟩
    obtain ⟨o, o', o1, o2, o3, o4, o5, o6⟩ := L
    obtain ⟨u1, u2⟩ := rz_sum hP o3 o4
    rw [oz_b o1, oz_b o2, oz_b u1, oz_b u2]
    exact ⟨_, _, rfl, rfl, rfl, i1, i2, o6, n, hP, o3, o4, o5, hM, hO⟩
  · rw [if_neg z, if_neg z]
    exact ⟨_, _, rfl, rfl, rfl, i1, i2, i3, n, hP, hS, hB, hH, hM, hO⟩
