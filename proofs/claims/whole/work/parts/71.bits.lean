/-! BITS -/
def bt_pc (k : Nat) : Nat := k % 2 + k / 2 % 2 + k / 4 % 2 + k / 8 % 2 + k / 16 % 2 + k / 32 % 2 + k / 64 % 2 + k / 128 % 2
theorem bt_M : ∀ k, k < 256 → fX12_bits (nI k) = some (nI (bt_pc k)) := by decide +kernel
theorem bt_X : ∀ k, k < 256 → fJ6_bitCount_0f7a4 (nI k) = some (nI (bt_pc k)) := by decide +kernel
theorem bt_le (k : Nat) : bt_pc k ≤ 8 := by unfold bt_pc; omega
theorem az_and {k : Nat} (hk : k < 256) (y : Int32) : ∃ j, j < 256 ∧ nI k &&& y = nI j := by
  refine ⟨(nI k &&& y).toBitVec.toNat, ?_, ?_⟩
  · rw [Int32.toBitVec_and, BitVec.toNat_and, pk_tn (by omega)]
    exact Nat.lt_of_le_of_lt Nat.and_le_left hk
  · apply Int32.toBitVec_inj.1
    apply BitVec.eq_of_toNat_eq
    rw [pk_tn (BitVec.isLt _)]
theorem az_all {n : Nat} (hn : n ≤ 8) : ((1 : Int32) <<< (nI n &&& 31)) - 1 = nI (2 ^ n - 1) := by
  rcases (show n = 0 ∨ n = 1 ∨ n = 2 ∨ n = 3 ∨ n = 4 ∨ n = 5 ∨ n = 6 ∨ n = 7 ∨ n = 8 by omega) with rfl | rfl | rfl | rfl | rfl | rfl | rfl | rfl | rfl <;> decide
theorem az_lt {n : Nat} (hn : n ≤ 8) : 2 ^ n - 1 < 256 := by
  rcases (show n = 0 ∨ n = 1 ∨ n = 2 ∨ n = 3 ∨ n = 4 ∨ n = 5 ∨ n = 6 ∨ n = 7 ∨ n = 8 by omega) with rfl | rfl | rfl | rfl | rfl | rfl | rfl | rfl | rfl <;> decide
theorem wz_small {n : Nat} {stands lent pipe houses : Int32} {room daily drain above town : Nat → Int32} (hP : iv_P n stands lent pipe houses room daily drain above town) {seen entries sightMany bookMany : Int32} {seenBy seenCame entryHouse entryAmount sights book : Nat → Int32} (hO : iv_O n seen entries seenBy seenCame entryHouse entryAmount sightMany bookMany sights book) {s : Int32} (hs : fX5_fitting seen seenBy seenCame houses above = some s) : ∃ k, k < 256 ∧ s = nI k := by
  obtain ⟨P1, P2, P3, P4, P5, P6, P7, P8, P9, P10, P11, P12, P13, P14⟩ := hP
  obtain ⟨a, c, o1, o2, o3, o4, o5, o6, o7, o8⟩ := hO
  have L : ∃ o, oz_loop (fX5_fitting_b11 seen seenBy seenCame houses above) oz_fuel (0, ((1 <<< (houses &&& 31)) - 1)) = some o ∧ ∃ k, k < 256 ∧ o.2 = nI k := by
    refine oz_inv (fun i v => v.1 = nI i ∧ ∃ k, k < 256 ∧ v.2 = nI k) _ a (by omega) ?_ ?_ ⟨rfl, 2 ^ n - 1, az_lt P1, by dsimp only; rw [P2]; exact az_all P1⟩
    · intro i v hi hv
      obtain ⟨v1, v2⟩ := v
      obtain ⟨e1, k, hk, e2⟩ := hv
      dsimp only at e1 e2
      subst e1 e2
      obtain ⟨⟨g, hg, f1⟩, f2, f3, f4⟩ := o7 i hi
      have c0 : Int32.toNatClampNeg (nI i) = i := pz_ncl (by omega)
      have cg : Int32.toNatClampNeg (nI g) = g := pz_ncl (by omega)
      have hX : fX5_fitting_b11 seen seenBy seenCame houses above (nI i, nI k) = if seenCame i = 0 then some (.inl (nI i + 1, nI k &&& (above g ^^^ (-1)))) else some (.inl (nI i + 1, nI k &&& above g)) := by
        unfold fX5_fitting_b11
        dsimp only
        rw [o3, P2, if_neg (nI_ge hi (by omega)), if_neg (pz_ix (show i < 6 by omega) (by omega)), c0, f1, oz_b (hz_has1 hg P1), if_neg (show ¬ (1 : Int32) = 0 by decide), if_neg (pz_ix (show g < 8 by omega) (by omega)), cg]
      left
      rcases Decidable.em (seenCame i = 0) with z | z
      · rw [if_pos z] at hX
        exact ⟨_, hX, nI_1 i, az_and hk _⟩
      · rw [if_neg z] at hX
        exact ⟨_, hX, nI_1 i, az_and hk _⟩
    · intro v hv
      obtain ⟨v1, v2⟩ := v
      obtain ⟨e1, e2⟩ := hv
      dsimp only at e1 e2
      subst e1
      refine ⟨(nI a, v2), ?_, e2⟩
      unfold fX5_fitting_b11
      dsimp only
      rw [o3, if_pos (nI_le (Nat.le_refl a) (by omega))]
  obtain ⟨o, h1, k, hk, h2⟩ := L
  unfold fX5_fitting at hs
  rw [oz_b h1] at hs
  exact ⟨k, hk, (Option.some.inj hs).symm.trans h2⟩
theorem sp_lookAt (v_x_reader_length : Int32) (v_x_reader_faultAt : Int32) (v_x_reader_letters : Nat → Int32) (v_x_plan_stands : Int32) (v_x_plan_lent : Int32) (v_x_plan_pipe : Int32) (v_x_plan_houses : Int32) (v_x_plan_room : Nat → Int32) (v_x_plan_daily : Nat → Int32) (v_x_plan_drain : Nat → Int32) (v_x_plan_above : Nat → Int32) (v_x_now_days : Int32) (v_x_now_spilled : Int32) (v_x_now_river : Int32) (v_x_now_kept : Nat → Int32) (v_x_now_away : Nat → Int32) (v_x_history_end : Int32) (v_x_history_count : Int32) (v_x_history_shelf_places : Int32) (v_x_history_shelf_cells : Nat → Int32) (v_x_images_storedSet : Int32) (v_x_images_shelf_places : Int32) (v_x_images_shelf_cells : Nat → Int32) (v_x_images_seeds : Nat → Int32) (v_x_draws_value : Int32) (v_x_notes_seen : Int32) (v_x_notes_entries : Int32) (v_x_notes_seenBy : Nat → Int32) (v_x_notes_seenCame : Nat → Int32) (v_x_notes_entryHouse : Nat → Int32) (v_x_notes_entryAmount : Nat → Int32) (v_m_undos : Int32) (v_m_seed : Int64) (v_m_size : Int32) (v_m_fault : Int32) (v_m_sightMany : Int32) (v_m_bookMany : Int32) (v_m_town : Nat → Int32) (v_m_now : Nat → Int32) (v_m_past : Nat → Int32) (v_m_images : Nat → Int32) (v_m_kept : Nat → Int32) (v_m_text : Nat → Int32) (v_m_sights : Nat → Int32) (v_m_book : Nat → Int32) (hI : IV v_x_reader_length v_x_reader_faultAt v_x_reader_letters v_x_plan_stands v_x_plan_lent v_x_plan_pipe v_x_plan_houses v_x_plan_room v_x_plan_daily v_x_plan_drain v_x_plan_above v_x_now_days v_x_now_spilled v_x_now_river v_x_now_kept v_x_now_away v_x_history_end v_x_history_count v_x_history_shelf_places v_x_history_shelf_cells v_x_images_storedSet v_x_images_shelf_places v_x_images_shelf_cells v_x_images_seeds v_x_draws_value v_x_notes_seen v_x_notes_entries v_x_notes_seenBy v_x_notes_seenCame v_x_notes_entryHouse v_x_notes_entryAmount v_m_undos v_m_seed v_m_size v_m_fault v_m_sightMany v_m_bookMany v_m_town v_m_now v_m_past v_m_images v_m_kept v_m_text v_m_sights v_m_book) : ∃ (yx : Int32) (ym : Int32), (fX11_lookAt v_x_plan_houses v_x_plan_above v_x_notes_seen v_x_notes_seenBy v_x_notes_seenCame) = some yx ∧ (fX12_lookAt v_m_sightMany v_m_town v_m_sights) = some ym ∧ yx = ym ∧ IV v_x_reader_length v_x_reader_faultAt v_x_reader_letters v_x_plan_stands v_x_plan_lent v_x_plan_pipe v_x_plan_houses v_x_plan_room v_x_plan_daily v_x_plan_drain v_x_plan_above v_x_now_days v_x_now_spilled v_x_now_river v_x_now_kept v_x_now_away v_x_history_end v_x_history_count v_x_history_shelf_places v_x_history_shelf_cells v_x_images_storedSet v_x_images_shelf_places v_x_images_shelf_cells v_x_images_seeds v_x_draws_value v_x_notes_seen v_x_notes_entries v_x_notes_seenBy v_x_notes_seenCame v_x_notes_entryHouse v_x_notes_entryAmount v_m_undos v_m_seed v_m_size v_m_fault v_m_sightMany v_m_bookMany v_m_town v_m_now v_m_past v_m_images v_m_kept v_m_text v_m_sights v_m_book := by
  obtain ⟨i1, i2, i3, n, hP, hS, hB, hH, hM, hO⟩ := hI
  obtain ⟨s, s1, s2⟩ := wz_whence hP hO
  obtain ⟨k, hk, rfl⟩ := wz_small hP hO s1
  have hP' := hP
  obtain ⟨P1, P2, P3, P4, P5, P6, P7, P8, P9, P10, P11, P12, P13, P14⟩ := hP
  have L : ∃ o o', oz_loop (fX11_lookAt_b25 v_x_plan_houses v_x_plan_above (nI k) (nI (bt_pc k))) oz_fuel (0, nI (bt_pc k), (-1)) = some o ∧ oz_loop (fX12_lookAt_b18 v_m_town (nI k) (nI (bt_pc k))) oz_fuel (0, (-1), nI (bt_pc k)) = some o' ∧ o.2.2 = o'.2.1 := by
    refine oz_rel (fun (i : Nat) (v w : Int32 × Int32 × Int32) => v.1 = nI i ∧ w.1 = nI i ∧ v.2.2 = w.2.1 ∧ v.2.1 = w.2.2) (fun (o o' : Int32 × Int32 × Int32) => o.2.2 = o'.2.1) n (by omega) ?_ ?_ ⟨rfl, rfl, rfl, rfl⟩
    · intro i v w hi hv
      obtain ⟨v1, v2, v3⟩ := v
      obtain ⟨w1, w2, w3⟩ := w
      obtain ⟨e1, e2, e3, e4⟩ := hv
      dsimp only at e1 e2 e3 e4
      subst e1 e2 e3 e4
      have c0 : Int32.toNatClampNeg (nI i) = i := pz_ncl (by omega)
      obtain ⟨j, hj, ej⟩ := az_and hk (v_x_plan_above i)
      have lc : ∀ a : Int32, fX12_lesser a v2 = some (if v2 ≤ a then v2 else a) := fun a => by
        unfold fX12_lesser
        rcases Decidable.em (v2 ≤ a) with z | z
        · rw [if_pos z, if_pos z]
        · rw [if_neg z, if_neg z]
      have hX : ∀ G : Int32, (if nI (bt_pc j) < nI (bt_pc k) - nI (bt_pc j) then nI (bt_pc k) - nI (bt_pc j) else nI (bt_pc j)) = G → fX11_lookAt_b25 v_x_plan_houses v_x_plan_above (nI k) (nI (bt_pc k)) (nI i, v2, v3) = if v2 ≤ G then some (.inl (nI i + 1, v2, v3)) else some (.inl (nI i + 1, G, nI i)) := by
        intro G hG
        unfold fX11_lookAt_b25
        dsimp only
        rw [P2, if_neg (nI_ge hi (by omega)), if_neg (pz_ix (show i < 8 by omega) (by omega)), c0, ej, oz_b (bt_X j hj), hG]
      have hM : ∀ G : Int32, (if nI (bt_pc j) ≤ nI (bt_pc k) - nI (bt_pc j) then nI (bt_pc k) - nI (bt_pc j) else nI (bt_pc j)) = G → fX12_lookAt_b18 v_m_town (nI k) (nI (bt_pc k)) (nI i, v3, v2) = if v2 ≤ G then some (.inl (nI i + 1, v3, v2)) else some (.inl (nI i + 1, nI i, G)) := by
        intro G hG
        unfold fX12_lookAt_b18
        dsimp only
        rw [pz_c2, P3, if_neg (nI_ge hi (by omega)), oz_b (P11 i hi), ej, oz_b (bt_M j hj)]
        rcases Decidable.em (nI (bt_pc j) ≤ nI (bt_pc k) - nI (bt_pc j)) with z | z
        · rw [if_pos z] at hG ⊢
          subst hG
          rcases Decidable.em (v2 ≤ nI (bt_pc k) - nI (bt_pc j)) with y | y
          · rw [if_pos y, if_pos y, oz_b (lc _), if_pos y]
          · rw [if_neg y, if_neg y, oz_b (lc _), if_neg y]
        · rw [if_neg z] at hG ⊢
          subst hG
          rcases Decidable.em (v2 ≤ nI (bt_pc j)) with y | y
          · rw [if_pos y, if_pos y, oz_b (lc _), if_pos y]
          · rw [if_neg y, if_neg y, oz_b (lc _), if_neg y]
      have gg : (if nI (bt_pc j) < nI (bt_pc k) - nI (bt_pc j) then nI (bt_pc k) - nI (bt_pc j) else nI (bt_pc j)) = (if nI (bt_pc j) ≤ nI (bt_pc k) - nI (bt_pc j) then nI (bt_pc k) - nI (bt_pc j) else nI (bt_pc j)) := by
        rcases Decidable.em (nI (bt_pc j) < nI (bt_pc k) - nI (bt_pc j)) with z | z
        · rw [if_pos z, if_pos (by rw [pz_le]; rw [pz_lt] at z; omega)]
        · rw [if_neg z]
          rcases Decidable.em (nI (bt_pc j) ≤ nI (bt_pc k) - nI (bt_pc j)) with y | y
          · rw [if_pos y, pz_eq]
            rw [pz_lt] at z
            rw [pz_le] at y
            omega
          · rw [if_neg y]
      have hX' := hX _ gg
      have hM' := hM _ rfl
      left
      rcases Decidable.em (v2 ≤ (if nI (bt_pc j) ≤ nI (bt_pc k) - nI (bt_pc j) then nI (bt_pc k) - nI (bt_pc j) else nI (bt_pc j))) with z | z
      · rw [if_pos z] at hX' hM'
        exact ⟨_, _, hX', hM', nI_1 i, nI_1 i, rfl, rfl⟩
      · rw [if_neg z] at hX' hM'
        exact ⟨_, _, hX', hM', nI_1 i, nI_1 i, rfl, rfl⟩
    · intro v w hv
      obtain ⟨v1, v2, v3⟩ := v
      obtain ⟨w1, w2, w3⟩ := w
      obtain ⟨e1, e2, e3, e4⟩ := hv
      dsimp only at e1 e2 e3 e4
      subst e1 e2
      refine ⟨(nI n, v2, v3), (nI n, w2, w3), ?_, ?_, e3⟩
      · unfold fX11_lookAt_b25
        dsimp only
        rw [P2, if_pos (nI_le (Nat.le_refl n) (by omega))]
      · unfold fX12_lookAt_b18
        dsimp only
        rw [pz_c2, P3, if_pos (nI_le (Nat.le_refl n) (by omega))]
  obtain ⟨o, o', o1, o2, o3⟩ := L
  refine ⟨o.2.2, o'.2.1, ?_, ?_, o3, i1, i2, i3, n, hP', hS, hB, hH, hM, hO⟩
  · unfold fX11_lookAt
    rw [oz_b s1, oz_b (bt_X k hk)]
    exact oz_b o1
  · unfold fX12_lookAt
    rw [oz_b s2, oz_b (bt_M k hk)]
    exact oz_b o2
