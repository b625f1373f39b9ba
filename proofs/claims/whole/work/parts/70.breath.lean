/-! THE BREATH -/
theorem oz_rel2 {V O V' O' : Type} {f : V → Option (V ⊕ O)} {g : V' → Option (V' ⊕ O')} (I : Nat → V → V' → Prop) (P : O → O' → Prop) (n : Nat) (hn : n < 90000)
    (hs : ∀ i v w, i < n → I i v w → (∃ v' w', f v = some (.inl v') ∧ g w = some (.inl w') ∧ I (i + 1) v' w') ∨ (∃ o w' o', f v = some (.inr o) ∧ g w = some (.inl w') ∧ g w' = some (.inr o') ∧ P o o'))
    (he : ∀ v w, I n v w → ∃ o w' o', f v = some (.inr o) ∧ g w = some (.inl w') ∧ g w' = some (.inr o') ∧ P o o') {v : V} {w : V'} (h : I 0 v w) : ∃ o o', oz_loop f oz_fuel v = some o ∧ oz_loop g oz_fuel w = some o' ∧ P o o' := by
  have K : ∀ k i m v w, i + k = n → k + 1 < m → I i v w → ∃ o o', oz_loop f m v = some o ∧ oz_loop g m w = some o' ∧ P o o' := by
    intro k
    induction k with
    | zero =>
      intro i m v w hi hm h
      obtain ⟨m', rfl⟩ : ∃ m', m = m' + 1 + 1 := ⟨m - 2, by omega⟩
      have : i = n := by omega
      subst this
      obtain ⟨o, w', o', h1, h2, h3, h4⟩ := he v w h
      exact ⟨o, o', oz_l2 h1, (oz_l1 h2).trans (oz_l2 h3), h4⟩
    | succ k ih =>
      intro i m v w hi hm h
      obtain ⟨m', rfl⟩ : ∃ m', m = m' + 1 + 1 := ⟨m - 2, by omega⟩
      rcases hs i v w (by omega) h with ⟨v', w', h1, h2, h3⟩ | ⟨o, w', o', h1, h2, h3, h4⟩
      · rw [oz_l1 h1, oz_l1 h2]
        exact ih (i + 1) (m' + 1) v' w' (by omega) (by omega) h3
      · exact ⟨o, o', oz_l2 h1, (oz_l1 h2).trans (oz_l2 h3), h4⟩
  exact K n 0 oz_fuel v w (by omega) (by show n + 1 < 100000; omega) h
theorem bz_look {n : Nat} (hn : n ≤ 8) {town kept : Nat → Int32} (h2 : town 2 = nI n) (w48 : Int32 × Int32 × Int32 × Int32 × (Nat → Int32) × (Nat → Int32)) (hk : ∀ h, h < 8 → w48.2.2.2.2.1 h = kept h) (gr wh : Int32) :
    ∃ y o, fX0_lookRound gr wh (nI n) kept = some y ∧ oz_loop (fX12_breath_b56 town w48) oz_fuel (0, wh, gr) = some o ∧ o.2.2 = y.1 ∧ o.2.1 = y.2 := by
  have L : ∃ o o', oz_loop (fX0_lookRound_b2 (nI n) kept) oz_fuel (0, gr, wh) = some o ∧ oz_loop (fX12_breath_b56 town w48) oz_fuel (0, wh, gr) = some o' ∧ (o'.2.2 = o.2.1 ∧ o'.2.1 = o.2.2) := by
    refine oz_rel (fun (i : Nat) (v w : Int32 × Int32 × Int32) => v.1 = nI i ∧ w.1 = nI i ∧ w.2.2 = v.2.1 ∧ w.2.1 = v.2.2) (fun (o o' : Int32 × Int32 × Int32) => o'.2.2 = o.2.1 ∧ o'.2.1 = o.2.2) n (by omega) ?_ ?_ ⟨rfl, rfl, rfl, rfl⟩
    · intro i v w hi hv
      obtain ⟨v1, v2, v3⟩ := v
      obtain ⟨w1, w2, w3⟩ := w
      obtain ⟨e1, e2, e3, e4⟩ := hv
      dsimp only at e1 e2 e3 e4
      subst e1 e2 e3 e4
      have c0 : Int32.toNatClampNeg (nI i) = i := pz_ncl (by omega)
      left
      rcases Decidable.em (kept i ≤ w3) with z | z
      · refine ⟨(nI i + 1, w3, w2), (nI i + 1, w2, w3), ?_, ?_, nI_1 i, nI_1 i, rfl, rfl⟩
        · unfold fX0_lookRound_b2
          dsimp only
          rw [if_neg (nI_ge hi (by omega)), if_neg (pz_ix (show i < 8 by omega) (by omega)), c0, if_pos z]
        · unfold fX12_breath_b56
          dsimp only
          simp only [pz_c2, h2, pz_0a]
          simp only [if_neg (nI_ge hi (show n < 2 ^ 31 by omega)), if_neg (pz_ix (show i < 19 by omega) (by omega))]
          simp only [c0, hk i (by omega), if_pos z]
      · refine ⟨(nI i + 1, kept i, nI i), (nI i + 1, nI i, kept i), ?_, ?_, nI_1 i, nI_1 i, rfl, rfl⟩
        · unfold fX0_lookRound_b2
          dsimp only
          rw [if_neg (nI_ge hi (by omega)), if_neg (pz_ix (show i < 8 by omega) (by omega)), c0, if_neg z]
        · unfold fX12_breath_b56
          dsimp only
          simp only [pz_c2, h2, pz_0a]
          simp only [if_neg (nI_ge hi (show n < 2 ^ 31 by omega)), if_neg (pz_ix (show i < 19 by omega) (by omega))]
          simp only [c0, hk i (by omega), if_neg z]
    · intro v w hv
      obtain ⟨v1, v2, v3⟩ := v
      obtain ⟨w1, w2, w3⟩ := w
      obtain ⟨e1, e2, e3, e4⟩ := hv
      dsimp only at e1 e2 e3 e4
      subst e1 e2
      refine ⟨(nI n, v2, v3), (nI n, w2, w3), ?_, ?_, e3, e4⟩
      · unfold fX0_lookRound_b2
        dsimp only
        rw [if_pos (nI_le (Nat.le_refl n) (by omega))]
      · unfold fX12_breath_b56
        dsimp only
        rw [pz_c2, h2, if_pos (nI_le (Nat.le_refl n) (by omega))]
  obtain ⟨o, o', h1, h3, h4, h5⟩ := L
  refine ⟨(o.2.1, o.2.2), o', ?_, h3, h4, h5⟩
  unfold fX0_lookRound
  exact oz_b h1
theorem bz_sum {kept : Nat → Int32} : ∀ n, (∀ h, h < n → 0 ≤ (kept h).toInt ∧ (kept h).toInt ≤ 999) → n ≤ 8 → 0 ≤ (ps_sum kept n).toInt ∧ (ps_sum kept n).toInt ≤ 999 * (n : Int) := by
  intro n
  induction n with
  | zero => intro _ _; exact (by decide : 0 ≤ (0 : Int32).toInt ∧ (0 : Int32).toInt ≤ 999 * ((0 : Nat) : Int))
  | succ n ih =>
    intro h hn
    have h1 := ih (fun j hj => h j (by omega)) (by omega)
    have h2 := h n (by omega)
    show 0 ≤ (ps_sum kept n + kept n).toInt ∧ (ps_sum kept n + kept n).toInt ≤ 999 * ((n + 1 : Nat) : Int)
    rw [pz_add (by omega) (by omega)]
    omega
/-- the breath to its end, both sides -/
theorem bz_draw {n : Nat} {stands lent pipe houses : Int32} {room daily drain above town : Nat → Int32} (hP : iv_P n stands lent pipe houses room daily drain above town)
    {kept away t : Nat → Int32} {days river : Int32} (hS : pr_S kept away days 0 river t) (hB : pr_B n room 9030 kept away days 0 river) (h0 g0 w0 s0 : Int32) (went : Nat → Int32) :
    ∃ (o : Int32 × Int32 × Int32 × Int32 × Int32 × (Nat → Int32)) (o' : Int32 × Int32 × Int32 × Int32 × (Nat → Int32) × (Nat → Int32)) (k : Int32), fX0_draw h0 g0 w0 pipe houses room drain s0 river kept = some o ∧ oz_loop (fX12_breath_b48 town) oz_fuel (1, 0, (-1), (-1), t, went) = some o' ∧ fX12_keptOf o'.2.2.2.2.1 = some k ∧ o.1 = (if k ≤ 0 then o'.2.1 else -1) ∧ o.2.1 = o'.2.2.2.1 ∧ o.2.2.1 = o'.2.2.1 ∧ o.2.2.2.1 = o'.2.2.2.2.1 17 := by
  have hP' := hP
  obtain ⟨P1, P2, P3, P4, P5, P6, P7, P8, P9, P10, P11, P12, P13, P14⟩ := hP
  obtain ⟨y, yo, y1, y2, y3, y4⟩ := bz_look P1 P3 (1, 0, (-1), (-1), t, went) hS.1 (-1) (-1)
  have L : ∃ o o', oz_loop (fX0_draw_b23 pipe houses room drain) oz_fuel (0, y.1, y.2, 0, river, kept) = some o ∧ oz_loop (fX12_breath_b48 town) oz_fuel (1, 0, (-1), (-1), t, went) = some o' ∧ (o.1 = o'.2.1 ∧ o.2.1 = o'.2.2.2.1 ∧ o.2.2.1 = o'.2.2.1 ∧ pr_S o.2.2.2.2.2 away days o.2.2.2.1 o.2.2.2.2.1 o'.2.2.2.2.1 ∧ pr_B n room 9030 o.2.2.2.2.2 away days o.2.2.2.1 o.2.2.2.2.1) := by
    refine oz_rel2 (fun (i : Nat) (v : Int32 × Int32 × Int32 × Int32 × Int32 × (Nat → Int32)) (w : Int32 × Int32 × Int32 × Int32 × (Nat → Int32) × (Nat → Int32)) => v.1 = nI i ∧ w.1 = 1 ∧ w.2.1 = nI i ∧ (∃ z, oz_loop (fX12_breath_b56 town w) oz_fuel (0, w.2.2.1, w.2.2.2.1) = some z ∧ z.2.2 = v.2.1 ∧ z.2.1 = v.2.2.1) ∧ pr_S v.2.2.2.2.2 away days v.2.2.2.1 v.2.2.2.2.1 w.2.2.2.2.1 ∧ pr_B n room 9030 v.2.2.2.2.2 away days v.2.2.2.1 v.2.2.2.2.1)
      (fun (o : Int32 × Int32 × Int32 × Int32 × Int32 × (Nat → Int32)) (o' : Int32 × Int32 × Int32 × Int32 × (Nat → Int32) × (Nat → Int32)) => o.1 = o'.2.1 ∧ o.2.1 = o'.2.2.2.1 ∧ o.2.2.1 = o'.2.2.1 ∧ pr_S o.2.2.2.2.2 away days o.2.2.2.1 o.2.2.2.2.1 o'.2.2.2.2.1 ∧ pr_B n room 9030 o.2.2.2.2.2 away days o.2.2.2.1 o.2.2.2.2.1) 999 (by omega) ?_ ?_ ⟨rfl, rfl, rfl, ⟨yo, y2, y3, y4⟩, hS, hB⟩
    · intro i v w hi hv
      obtain ⟨e1, e2, e3, ⟨z, z1, z2, z3⟩, e5, e6⟩ := hv
      obtain ⟨u1, u2⟩ := rz_sum hP' e5 e6
      have n1 : ¬ (999 : Int32) ≤ nI i := (nI_ge (b := 999) hi (by omega) : ¬ nI 999 ≤ nI i)
      rcases Decidable.em (ps_sum v.2.2.2.2.2 n ≤ 0) with q | q
      · right
        refine ⟨v, (0, w.2.1, z.2.1, z.2.2, w.2.2.2.2.1, w.2.2.2.2.2), (0, w.2.1, z.2.1, z.2.2, w.2.2.2.2.1, w.2.2.2.2.2), ?_, ?_, ?_, by dsimp only; rw [e1, e3], z2.symm, z3.symm, e5, e6⟩
        · unfold fX0_draw_b23
          rw [if_neg (by rw [e1]; exact n1), oz_b u1, if_pos q]
        · unfold fX12_breath_b48
          rw [if_neg (by rw [e2]; decide), oz_b z1, oz_b u2, if_pos q]
        · unfold fX12_breath_b48
          dsimp only
          rw [if_pos rfl]
      · left
        obtain ⟨g, g', g1, g2, g3, g4⟩ := hz_hour P1 P5 P3 P6 P8 P9 P10 P12 e5 e6 w.2.2.2.2.2
        obtain ⟨x, xo, x1, x2, x3, x4⟩ := bz_look P1 P3 (1, w.2.1 + 1, z.2.1, z.2.2, g'.2, g'.1) g3.1 v.2.1 v.2.2.1
        refine ⟨(v.1 + 1, x.1, x.2, g.1, g.2.1, g.2.2), (1, w.2.1 + 1, z.2.1, z.2.2, g'.2, g'.1), ?_, ?_, by rw [e1]; exact nI_1 i, rfl, by dsimp only; rw [e3]; exact nI_1 i, ⟨xo, by dsimp only; rw [z2, z3]; exact x2, x3, x4⟩, g3, g4⟩
        · unfold fX0_draw_b23
          rw [if_neg (by rw [e1]; exact n1), oz_b u1, if_neg q, P2, oz_b g1, oz_b x1]
        · unfold fX12_breath_b48
          rw [if_neg (by rw [e2]; decide), oz_b z1, oz_b u2, if_neg q, if_neg (by rw [e3]; exact n1), oz_b g2]
    · intro v w hv
      obtain ⟨e1, e2, e3, ⟨z, z1, z2, z3⟩, e5, e6⟩ := hv
      obtain ⟨u1, u2⟩ := rz_sum hP' e5 e6
      have n1 : (999 : Int32) ≤ nI 999 := by decide
      refine ⟨v, (0, w.2.1, z.2.1, z.2.2, w.2.2.2.2.1, w.2.2.2.2.2), (0, w.2.1, z.2.1, z.2.2, w.2.2.2.2.1, w.2.2.2.2.2), ?_, ?_, ?_, by dsimp only; rw [e1, e3], z2.symm, z3.symm, e5, e6⟩
      · unfold fX0_draw_b23
        rw [if_pos (by rw [e1]; exact n1)]
      · unfold fX12_breath_b48
        rw [if_neg (by rw [e2]; decide), oz_b z1, oz_b u2]
        rcases Decidable.em (ps_sum v.2.2.2.2.2 n ≤ 0) with q | q
        · rw [if_pos q]
        · rw [if_neg q, if_pos (by rw [e3]; exact n1)]
      · unfold fX12_breath_b48
        dsimp only
        rw [if_pos rfl]
  obtain ⟨o, o', o1, o2, o3, o4, o5, o6, o7⟩ := L
  obtain ⟨u1, u2⟩ := rz_sum hP' o6 o7
  have sb := bz_sum (kept := o.2.2.2.2.2) n (fun h hh => by have := o7.1 h hh; have := (P9 h hh).1; omega) P1
  refine ⟨((if ps_sum o.2.2.2.2.2 n = 0 then o.1 else -1), o.2.1, o.2.2.1, o.2.2.2.1, o.2.2.2.2.1, o.2.2.2.2.2), o', ps_sum o.2.2.2.2.2 n, ?_, o2, u2, ?_, o4, o5, o6.2.2.2.1.symm⟩
  · unfold fX0_draw
    rw [P2, oz_b y1]
    rw [P2] at o1 u1
    rw [oz_b o1, oz_b u1]
    rcases Decidable.em (ps_sum o.2.2.2.2.2 n = 0) with q | q
    · rw [if_pos q, if_pos q]
    · rw [if_neg q, if_neg q]
  · dsimp only
    rcases Decidable.em (ps_sum o.2.2.2.2.2 n = 0) with q | q
    · rw [if_pos q, if_pos (by rw [q]; decide)]; exact o3
    · rw [if_neg q, if_neg (fun z => q (by rw [pz_le, pz_i0] at z; rw [pz_eq, pz_i0]; omega))]
theorem sp_breath (v_x_reader_length : Int32) (v_x_reader_faultAt : Int32) (v_x_reader_letters : Nat → Int32) (v_x_plan_stands : Int32) (v_x_plan_lent : Int32) (v_x_plan_pipe : Int32) (v_x_plan_houses : Int32) (v_x_plan_room : Nat → Int32) (v_x_plan_daily : Nat → Int32) (v_x_plan_drain : Nat → Int32) (v_x_plan_above : Nat → Int32) (v_x_now_days : Int32) (v_x_now_spilled : Int32) (v_x_now_river : Int32) (v_x_now_kept : Nat → Int32) (v_x_now_away : Nat → Int32) (v_x_trial_days : Int32) (v_x_trial_spilled : Int32) (v_x_trial_river : Int32) (v_x_trial_kept : Nat → Int32) (v_x_trial_away : Nat → Int32) (v_x_history_end : Int32) (v_x_history_count : Int32) (v_x_history_shelf_places : Int32) (v_x_history_shelf_cells : Nat → Int32) (v_x_images_storedSet : Int32) (v_x_images_shelf_places : Int32) (v_x_images_shelf_cells : Nat → Int32) (v_x_images_seeds : Nat → Int32) (v_x_draws_value : Int32) (v_x_notes_seen : Int32) (v_x_notes_entries : Int32) (v_x_notes_seenBy : Nat → Int32) (v_x_notes_seenCame : Nat → Int32) (v_x_notes_entryHouse : Nat → Int32) (v_x_notes_entryAmount : Nat → Int32) (v_x_breathing_hours : Int32) (v_x_breathing_greatest : Int32) (v_x_breathing_whose : Int32) (v_m_undos : Int32) (v_m_seed : Int64) (v_m_size : Int32) (v_m_fault : Int32) (v_m_sightMany : Int32) (v_m_bookMany : Int32) (v_m_town : Nat → Int32) (v_m_now : Nat → Int32) (v_m_aside : Nat → Int32) (v_m_past : Nat → Int32) (v_m_images : Nat → Int32) (v_m_kept : Nat → Int32) (v_m_text : Nat → Int32) (v_m_sights : Nat → Int32) (v_m_book : Nat → Int32) (v_m_went : Nat → Int32) (hI : IV v_x_reader_length v_x_reader_faultAt v_x_reader_letters v_x_plan_stands v_x_plan_lent v_x_plan_pipe v_x_plan_houses v_x_plan_room v_x_plan_daily v_x_plan_drain v_x_plan_above v_x_now_days v_x_now_spilled v_x_now_river v_x_now_kept v_x_now_away v_x_history_end v_x_history_count v_x_history_shelf_places v_x_history_shelf_cells v_x_images_storedSet v_x_images_shelf_places v_x_images_shelf_cells v_x_images_seeds v_x_draws_value v_x_notes_seen v_x_notes_entries v_x_notes_seenBy v_x_notes_seenCame v_x_notes_entryHouse v_x_notes_entryAmount v_m_undos v_m_seed v_m_size v_m_fault v_m_sightMany v_m_bookMany v_m_town v_m_now v_m_past v_m_images v_m_kept v_m_text v_m_sights v_m_book) (a1 : Int32) : ∃ (yx : Int32 × Int32 × Int32 × Int32 × (Nat → Int32) × (Nat → Int32) × Int32 × Int32 × Int32) (ym : Int32 × (Nat → Int32) × (Nat → Int32)), (fX11_breath v_x_plan_pipe v_x_plan_houses v_x_plan_room v_x_plan_drain v_x_now_days v_x_now_spilled v_x_now_river v_x_now_kept v_x_now_away v_x_trial_days v_x_trial_spilled v_x_trial_river v_x_trial_kept v_x_trial_away v_x_breathing_hours v_x_breathing_greatest v_x_breathing_whose a1) = some yx ∧ (fX12_breath v_m_town v_m_now v_m_aside v_m_went a1) = some ym ∧ yx.1 = ym.1 ∧ IV v_x_reader_length v_x_reader_faultAt v_x_reader_letters v_x_plan_stands v_x_plan_lent v_x_plan_pipe v_x_plan_houses v_x_plan_room v_x_plan_daily v_x_plan_drain v_x_plan_above v_x_now_days v_x_now_spilled v_x_now_river v_x_now_kept v_x_now_away v_x_history_end v_x_history_count v_x_history_shelf_places v_x_history_shelf_cells v_x_images_storedSet v_x_images_shelf_places v_x_images_shelf_cells v_x_images_seeds v_x_draws_value v_x_notes_seen v_x_notes_entries v_x_notes_seenBy v_x_notes_seenCame v_x_notes_entryHouse v_x_notes_entryAmount v_m_undos v_m_seed v_m_size v_m_fault v_m_sightMany v_m_bookMany v_m_town v_m_now v_m_past v_m_images v_m_kept v_m_text v_m_sights v_m_book := by
  obtain ⟨i1, i2, i3, n, hP, hS, hB, hH, hM, hO⟩ := hI
  have fin : IV v_x_reader_length v_x_reader_faultAt v_x_reader_letters v_x_plan_stands v_x_plan_lent v_x_plan_pipe v_x_plan_houses v_x_plan_room v_x_plan_daily v_x_plan_drain v_x_plan_above v_x_now_days v_x_now_spilled v_x_now_river v_x_now_kept v_x_now_away v_x_history_end v_x_history_count v_x_history_shelf_places v_x_history_shelf_cells v_x_images_storedSet v_x_images_shelf_places v_x_images_shelf_cells v_x_images_seeds v_x_draws_value v_x_notes_seen v_x_notes_entries v_x_notes_seenBy v_x_notes_seenCame v_x_notes_entryHouse v_x_notes_entryAmount v_m_undos v_m_seed v_m_size v_m_fault v_m_sightMany v_m_bookMany v_m_town v_m_now v_m_past v_m_images v_m_kept v_m_text v_m_sights v_m_book := ⟨i1, i2, i3, n, hP, hS, hB, hH, hM, hO⟩
  have hP' := hP
  obtain ⟨P1, P2, P3, P4⟩ := hP
  have e3 : (3 : Int32).toInt = 3 := by decide
  have l3 : (3 : Int64).toInt = 3 := by decide
  unfold fX11_breath fX12_breath
  rcases Decidable.em (0 ≤ a1.toInt ∧ a1.toInt ≤ 3) with q | q
  · rw [if_neg (fun z => by rw [pz_lt, pz_i0] at z; omega), if_pos (by rw [pz_le, e3]; omega), oz_b (mz_in1 (by rw [mz_64, mz_l0, l3]; exact q)), if_neg (show ¬ (1 : Int32) = 0 by decide), pz_c2, P3]
    have hU : (v_x_plan_houses = 0) ↔ (nI n = 0) := by rw [P2]
    rcases Decidable.em (nI n = 0) with z | z
    · rw [if_pos (hU.mpr z), if_pos z]
      exact ⟨_, _, rfl, rfl, rfl, fin⟩
    · rw [if_neg (fun x => z (hU.mp x)), if_neg z]
      obtain ⟨g, g1, g2⟩ := tz_lay v_m_now v_m_aside
      obtain ⟨s1, s2, s3, s4, s5⟩ := hS
      have cc : ∀ (f g : Nat → Int32) (h : Nat), h < 8 → va_cpy f g (Int32.toNatClampNeg (0 : Int32)) (Int32.toNatClampNeg (0 : Int32)) (Int32.toNatClampNeg (8 : Int32)) h = f h := by
        intro f g h hh
        rw [pz_c0, pz_c8, pk_cpy_in (by omega) (by omega)]; exact congrArg f (by omega)
      have hS1 : pr_S (va_cpy v_x_now_kept v_x_trial_kept (Int32.toNatClampNeg (0 : Int32)) (Int32.toNatClampNeg (0 : Int32)) (Int32.toNatClampNeg (8 : Int32))) v_x_now_away v_x_now_days 0 v_x_now_river (upd g 17 0) := by
        refine ⟨?_, ?_, ?_, ?_, ?_⟩
        · intro h hh
          rw [pk_un (show h ≠ 17 by omega), g2 h (by omega), s1 h hh, cc _ _ h hh]
        · intro h hh
          rw [pk_un (show 8 + h ≠ 17 by omega), g2 (8 + h) (by omega), s2 h hh]
        · rw [pk_un (show 16 ≠ 17 by omega), g2 16 (by omega), s3]
        · rw [pk_us]
        · rw [pk_un (show 18 ≠ 17 by omega), g2 18 (by omega), s5]
      have hB1 : pr_B n v_x_plan_room 9030 (va_cpy v_x_now_kept v_x_trial_kept (Int32.toNatClampNeg (0 : Int32)) (Int32.toNatClampNeg (0 : Int32)) (Int32.toNatClampNeg (8 : Int32))) v_x_now_away v_x_now_days 0 v_x_now_river := by
        obtain ⟨b1, b2, b3, b4, b5, b6⟩ := hB
        exact pr_B_congr P1 (fun h hh => cc _ _ h hh) (fun _ _ => rfl) rfl rfl rfl ⟨b1, b2, b3, b4, by decide, b6⟩
      obtain ⟨o, o', k, o1, o2, o3, o4, o5, o6, o7⟩ := bz_draw hP' hS1 hB1 v_x_breathing_hours v_x_breathing_greatest v_x_breathing_whose v_x_now_spilled v_m_went
      rw [oz_b (show fX10_copyFrom v_x_trial_days v_x_trial_spilled v_x_trial_river v_x_trial_kept v_x_trial_away v_x_now_days v_x_now_spilled v_x_now_river v_x_now_kept v_x_now_away = some _ from rfl), oz_b g1, pz_c17]
      dsimp only
      rw [oz_b o1, oz_b o2]
      rcases Decidable.em (a1 = 0) with x | x
      · simp only [if_pos x]
        rw [oz_b o3]
        rcases Decidable.em (k ≤ 0) with w | w
        · rw [if_pos w] at o4 ⊢
          exact ⟨_, _, rfl, rfl, o4, fin⟩
        · rw [if_neg w] at o4 ⊢
          exact ⟨_, _, rfl, rfl, o4, fin⟩
      simp only [if_neg x]; clear x
      rcases Decidable.em (a1 = 1) with x | x
      · simp only [if_pos x]
        exact ⟨_, _, rfl, rfl, o7, fin⟩
      simp only [if_neg x]; clear x
      rcases Decidable.em (a1 = 2) with x | x
      · simp only [if_pos x]
        exact ⟨_, _, rfl, rfl, o5, fin⟩
      simp only [if_neg x]
      exact ⟨_, _, rfl, rfl, o6, fin⟩
  · rw [oz_b (mz_in0 (by rw [mz_64, mz_l0, l3]; exact q)), if_pos rfl]
    refine ⟨(-1000000002, v_x_trial_days, v_x_trial_spilled, v_x_trial_river, v_x_trial_kept, v_x_trial_away, v_x_breathing_hours, v_x_breathing_greatest, v_x_breathing_whose), _, ?_, rfl, rfl, fin⟩
    rcases Decidable.em (a1 < 0) with x | x
    · rw [if_pos x]
    · rw [if_neg x]
      rw [pz_lt, pz_i0] at x
      rw [if_neg (by rw [pz_le, e3]; omega)]
