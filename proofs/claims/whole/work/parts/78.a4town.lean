/-! THE WHOLE TEXT -/
def rd_Q (k q : Nat) (fa : Int32) (y : Int32 × Int32 × Int32 × Int32 × Int32 × Int32 × Int32 × (Nat → Int32) × (Nat → Int32) × (Nat → Int32) × (Nat → Int32)) (z : Int32 × Int32 × Int32 × Int32 × Int32 × Int32 × Int32 × (Nat → Int32)) : Prop := (y.1 = 0 ∧ y.2.1 = fa ∧ z.1 = 1 ∧ (∃ p, q < p ∧ p ≤ k ∧ y.2.2.1 = nI p ∧ z.2.1 = nI p) ∧ ∃ n, rd_P n y.2.2.2.1 y.2.2.2.2.1 y.2.2.2.2.2.1 y.2.2.2.2.2.2.1 y.2.2.2.2.2.2.2.1 y.2.2.2.2.2.2.2.2.1 y.2.2.2.2.2.2.2.2.2.1 y.2.2.2.2.2.2.2.2.2.2 z.2.2.2.2.2.2.2) ∨ (¬ y.1 = 0 ∧ z.1 = 0 ∧ y.1 = z.2.2.2.2.2.2.1 ∧ y.2.1 = z.2.2.1)
theorem tk_clause {k q e n : Nat} (hk : k ≤ 200) (hq : q < k) {L T : Nat → Int32} (hT : ∀ j, j < k → L j = T j) (hB : ∀ j, j < k → 0 ≤ (T j).toInt) {v : Int32} {r : Int32 × Int32 × Int32 × Int32 × Int32} (hS : tk_S k L T q e v r) {stands lent pipe houses : Int32} {room daily drain above read : Nat → Int32} (hP : rd_P n stands lent pipe houses room daily drain above read) (fa wr : Int32) :
    ∃ y z, fX8_readClause (nI k) 0 fa (nI q) L stands lent pipe houses room daily drain above = some y ∧ fX12_readsClause (nI k) r.1 r.2.1 r.2.2.1 r.2.2.2.1 r.2.2.2.2 wr read T = some z ∧ rd_Q k q fa y z := by
  have hP' := hP
  obtain ⟨P1, P2, P3, P4, P5, P6, P7, P8, P9, P10, P11, P12, P13, P14⟩ := hP
  have n3 : ¬ (3 : Int32) = 0 := by decide
  have f116 : ¬ tk_fig 116 := by unfold tk_fig; decide
  have f104 : ¬ tk_fig 104 := by unfold tk_fig; decide
  have c00 : (0 : Int32) ≤ 0 := by decide
  have lne : 1 ≤ lent.toInt → ¬ lent ≤ 0 := fun h => by rw [pz_le, pz_i0]; omega
  have nof : ¬ tk_fig (T q) → r = (nI (q + 1), nI q, T q, 0, 0) := fun h => by
    rcases hS.2.2.2.2.2 with ⟨c1, _⟩ | ⟨_, _, _, c⟩ | ⟨_, _, c, _⟩
    · omega
    · exact c
    · exact absurd c h
  subst P2
  rcases Decidable.em (L q = 116) with zt | zt
  · have x1 : fX8_letterHere (nI k) (nI q) L 116 = some 1 := by rw [tk_lh1 hk hq, if_pos zt]
    have x2 : fX8_letterHere (nI k) (nI q) L 104 = some 0 := by rw [tk_lh1 hk hq, if_neg (by rw [zt]; decide)]
    have et : T q = 116 := by rw [← hT q hq]; exact zt
    have er := nof (by rw [et]; exact f116)
    rw [et] at er
    subst er
    dsimp only
    rcases P14 with ⟨g1, g2⟩ | ⟨g1, g2, g3⟩
    · subst g1
      refine ⟨(3, nI q, nI q, 1, lent, pipe, nI n, room, daily, drain, above), (0, nI (q + 1), nI q, 116, 0, 0, 3, read), ?_, ?_, Or.inr ⟨n3, rfl, rfl, rfl⟩⟩
      · unfold fX8_readClause
        rw [oz_b x1, oz_b x2, if_pos rfl, if_neg fw_n10, if_neg fw_n10, if_neg fw_n10, oz_b (tk_bl0 fa 3 (nI q))]
      · unfold fX12_readsClause
        rw [if_pos rfl, pz_c0, P4, if_neg (lne g2), oz_b (show fX12_fails wr 3 = some (0, 3) from rfl), if_neg mz_b0]
    · subst g1 g2 g3
      obtain ⟨y, z, h1, h2, h3⟩ := tk_lent hk hq hT hB P4 fa wr (nI q) 0 0 0 0 pipe
      refine ⟨(y.1, y.2.1, y.2.2.1, y.2.2.2.1, y.2.2.2.2.1, y.2.2.2.2.2, nI 0, room, daily, drain, above), z, ?_, h2, ?_⟩
      · unfold fX8_readClause
        rw [oz_b x1, oz_b x2, if_pos rfl, if_neg fw_n10, if_neg fw_n10, if_pos rfl, if_neg fw_n10, oz_b h1]
      · rcases h3 with ⟨d1, d2, d3, d4, d5, d6, d7, d8⟩ | h3
        · refine Or.inl ⟨d1, d2, d3, d4, 0, ?_⟩
          dsimp only
          refine ⟨by omega, rfl, ?_, ?_, ?_, fun h hh => absurd hh (by omega), fun h hh => absurd hh (by omega), fun h hh => absurd hh (by omega), fun h hh => absurd hh (by omega), fun h hh => absurd hh (by omega), fun h hh => absurd hh (by omega), ⟨by omega, by omega⟩, ⟨by omega, by omega⟩, Or.inl ⟨d5, d6.1⟩⟩
          · rw [d8, pk_un (by omega), pk_un (by omega)]; exact P3
          · rw [d8, pk_un (by omega), pk_us]
          · rw [d8, pk_us]
        · exact Or.inr h3
  · have x1 : fX8_letterHere (nI k) (nI q) L 116 = some 0 := by rw [tk_lh1 hk hq, if_neg zt]
    have et : ¬ T q = 116 := by rw [← hT q hq]; exact zt
    rcases Decidable.em (L q = 104) with zh | zh
    · have x2 : fX8_letterHere (nI k) (nI q) L 104 = some 1 := by rw [tk_lh1 hk hq, if_pos zh]
      have eh : T q = 104 := by rw [← hT q hq]; exact zh
      have er := nof (by rw [eh]; exact f104)
      rw [eh] at er
      subst er
      dsimp only
      rcases P14 with ⟨g1, g2⟩ | ⟨g1, g2, g3⟩
      · subst g1
        have hM0 : fX12_readsClause (nI k) (nI (q + 1)) (nI q) 104 0 0 wr read T = Option.bind (fX12_readsHouse (nI k) (nI (q + 1)) (nI q) 104 0 0 wr read T) (fun y80 => if ¬ (narrow .boolean (.int y80.1) = .int y80.1) then none else some (y80.1, y80.2.1, y80.2.2.1, y80.2.2.2.1, y80.2.2.2.2.1, y80.2.2.2.2.2.1, y80.2.2.2.2.2.2.1, y80.2.2.2.2.2.2.2)) := by
          unfold fX12_readsClause
          rw [if_neg (by decide), if_pos rfl, pz_c0, P4, if_neg (lne g2)]
        rcases Nat.lt_or_ge n 8 with hn | hn
        · obtain ⟨y, z, h1, h2, h3⟩ := tk_house hk hq hT hB hn (room := room) (daily := daily) P3 P10 P11 fa wr (nI q) 104 0 0
          rw [oz_b h2] at hM0
          have hX0 : fX8_readClause (nI k) 0 fa (nI q) L 1 lent pipe (nI n) room daily drain above = some (y.1, y.2.1, y.2.2.1, 1, lent, pipe, y.2.2.2.1, y.2.2.2.2.1, y.2.2.2.2.2.1, y.2.2.2.2.2.2.1, y.2.2.2.2.2.2.2) := by
            unfold fX8_readClause
            rw [oz_b x1, oz_b x2, if_neg fw_n10, if_neg fw_n10, if_pos rfl, if_pos rfl, if_pos (show nI n < 8 from (nI_lt (b := 8) hn (by omega) : nI n < nI 8)), if_pos rfl, oz_b h1]
          rcases h3 with ⟨d1, d2, d3, d4, v1, v2, v3, d, d5, d6, d7, d8, d9, d10, d11, d12, d13⟩ | h3
          · rw [if_neg (by rw [d3]; exact mz_b1)] at hM0
            refine ⟨_, _, hX0, hM0, Or.inl ⟨d1, d2, d3, d4, n + 1, ?_⟩⟩
            dsimp only
            rw [d7, d8, d9, d10, d13]
            refine ⟨by omega, rfl, ?_, ?_, ?_, fun h hh => ?_, fun h hh => ?_, fun h hh => ?_, fun h hh => ?_, d11, d12, P12, P13, Or.inl ⟨rfl, g2⟩⟩
            · rw [pk_un (by omega), pk_un (by omega), pk_un (by omega), pk_un (by omega), pk_us]
            · rw [pk_un (by omega), pk_un (by omega), pk_un (by omega), pk_un (by omega), pk_un (by omega)]; exact P4
            · rw [pk_un (by omega), pk_un (by omega), pk_un (by omega), pk_un (by omega), pk_un (by omega)]; exact P5
            · rw [pk_un (by omega), pk_un (by omega), pk_un (by omega)]
              rcases (show h < n ∨ h = n by omega) with w | w
              · rw [pk_un (by omega), pk_un (by omega), pk_un (show h ≠ n by omega)]; exact P6 h w
              · subst w; rw [pk_us, pk_us]
            · rw [pk_un (by omega), pk_un (by omega)]
              rcases (show h < n ∨ h = n by omega) with w | w
              · rw [pk_un (by omega), pk_un (by omega), pk_un (by omega), pk_un (show h ≠ n by omega)]; exact P7 h w
              · subst w; rw [pk_us, pk_us]
            · rcases (show h < n ∨ h = n by omega) with w | w
              · rw [pk_un (by omega), pk_un (by omega), pk_un (by omega), pk_un (by omega), pk_un (by omega), pk_un (show h ≠ n by omega)]; exact P8 h w
              · subst w; rw [pk_us, pk_us]
            · rcases (show h < n ∨ h = n by omega) with w | w
              · rw [pk_un (show h ≠ n by omega), pk_un (show h ≠ n by omega)]; exact P9 h w
              · subst w; rw [pk_us, pk_us]; exact ⟨d5, d6⟩
          · rw [if_neg (by rw [h3.2.1]; exact mz_b0)] at hM0
            exact ⟨_, _, hX0, hM0, Or.inr h3⟩
        · have h8 : n = 8 := by omega
          subst h8
          have hH : fX12_readsHouse (nI k) (nI (q + 1)) (nI q) 104 0 0 wr read T = some (0, nI (q + 1), nI q, 104, 0, 0, 3, read) := by
            unfold fX12_readsHouse
            rw [pz_c2, P3, if_pos (show nI 8 = 8 from rfl), oz_b (show fX12_fails wr 3 = some (0, 3) from rfl), if_neg mz_b0]
          rw [oz_b hH, if_neg mz_b0] at hM0
          refine ⟨(3, nI q, nI q, 1, lent, pipe, nI 8, room, daily, drain, above), _, ?_, hM0, Or.inr ⟨n3, rfl, rfl, rfl⟩⟩
          unfold fX8_readClause
          rw [oz_b x1, oz_b x2, if_neg fw_n10, if_neg fw_n10, if_pos rfl, if_pos rfl, if_neg (show ¬ nI 8 < 8 by decide), oz_b (tk_bl0 fa 3 (nI q))]
      · subst g1 g2 g3
        refine ⟨(1, nI q, nI q, 0, 0, pipe, nI 0, room, daily, drain, above), (0, nI (q + 1), nI q, 104, 0, 0, 1, read), ?_, ?_, Or.inr ⟨fw_n10, rfl, rfl, rfl⟩⟩
        · unfold fX8_readClause
          rw [oz_b x1, oz_b x2, if_neg fw_n10, if_pos rfl, if_pos rfl, oz_b (tk_bl0 fa 1 (nI q))]
        · unfold fX12_readsClause
          rw [if_neg (by decide), if_pos rfl, pz_c0, P4, if_pos c00, oz_b (show fX12_fails wr 1 = some (0, 1) from rfl), if_neg mz_b0]
    · have x2 : fX8_letterHere (nI k) (nI q) L 104 = some 0 := by rw [tk_lh1 hk hq, if_neg zh]
      have eh : ¬ T q = 104 := by rw [← hT q hq]; exact zh
      have hsg : ¬ r.2.2.1 = 116 ∧ ¬ r.2.2.1 = 104 ∧ r.2.1 = nI q := by
        rcases hS.2.2.2.2.2 with ⟨c1, _⟩ | ⟨_, _, _, c⟩ | ⟨_, _, _, c⟩
        · omega
        · rw [c]; exact ⟨et, eh, rfl⟩
        · rw [c]; exact ⟨(by decide : ¬ (48 : Int32) = 116), (by decide : ¬ (48 : Int32) = 104), rfl⟩
      refine ⟨(1, nI q, nI q, stands, lent, pipe, nI n, room, daily, drain, above), (0, r.1, r.2.1, r.2.2.1, r.2.2.2.1, r.2.2.2.2, 1, read), ?_, ?_, Or.inr ⟨fw_n10, rfl, rfl, hsg.2.2.symm⟩⟩
      · unfold fX8_readClause
        rw [oz_b x1, oz_b x2, if_pos rfl, if_pos rfl, oz_b (tk_bl0 fa 1 (nI q))]
      · unfold fX12_readsClause
        rw [if_neg hsg.1, if_neg hsg.2.1, oz_b (show fX12_fails wr 1 = some (0, 1) from rfl), if_neg mz_b0]
theorem tk_outX {k : Nat} {L : Nat → Int32} {v : Int32 × Int32 × Int32 × Int32 × Int32 × Int32 × Int32 × Int32 × (Nat → Int32) × (Nat → Int32) × (Nat → Int32) × (Nat → Int32)} (h : 200 ≤ v.1 ∨ ¬ v.2.1 = 0) : fX8_readInto_b21 (nI k) L v = some (.inr v) := by
  unfold fX8_readInto_b21
  rcases Decidable.em ((200 : Int32) ≤ v.1) with z | z
  · rw [if_pos z]
  · rw [if_neg z]
    rcases h with h | h
    · exact absurd h z
    · rw [if_neg h]
theorem tk_outM {k : Nat} {T : Nat → Int32} {w : Int32 × Int32 × Int32 × Int32 × Int32 × Int32 × Int32 × (Nat → Int32)} (h : w.2.2.2.1 < 0 ∨ w.1 = 0) : fX12_town_b37 (nI k) T w = some (.inr w) := by
  unfold fX12_town_b37
  rcases Decidable.em (w.2.2.2.1 < 0) with z | z
  · rw [if_pos z]
  · rw [if_neg z]
    rcases h with h | h
    · exact absurd h z
    · rw [if_pos h]
def rd_A (k : Nat) (T : Nat → Int32) (p : Nat) (v : Int32 × Int32 × Int32 × Int32 × Int32 × Int32 × Int32 × Int32 × (Nat → Int32) × (Nat → Int32) × (Nat → Int32) × (Nat → Int32)) (w : Int32 × Int32 × Int32 × Int32 × Int32 × Int32 × Int32 × (Nat → Int32)) : Prop := v.2.1 = 0 ∧ v.2.2.1 = -1 ∧ w.1 = 1 ∧ v.2.2.2.1 = nI p ∧ (∃ n, rd_P n v.2.2.2.2.1 v.2.2.2.2.2.1 v.2.2.2.2.2.2.1 v.2.2.2.2.2.2.2.1 v.2.2.2.2.2.2.2.2.1 v.2.2.2.2.2.2.2.2.2.1 v.2.2.2.2.2.2.2.2.2.2.1 v.2.2.2.2.2.2.2.2.2.2.2 w.2.2.2.2.2.2.2) ∧ ∀ b s f vl, fX12_step (nI k) (nI p) b s f vl T = some (w.2.1, w.2.2.1, w.2.2.2.1, w.2.2.2.2.1, w.2.2.2.2.2.1)
def rd_E (v : Int32 × Int32 × Int32 × Int32 × Int32 × Int32 × Int32 × Int32 × (Nat → Int32) × (Nat → Int32) × (Nat → Int32) × (Nat → Int32)) (w : Int32 × Int32 × Int32 × Int32 × Int32 × Int32 × Int32 × (Nat → Int32)) : Prop := (v.2.1 = 0 ∧ v.2.2.1 = -1 ∧ w.1 = 1 ∧ ∃ n, rd_P n v.2.2.2.2.1 v.2.2.2.2.2.1 v.2.2.2.2.2.2.1 v.2.2.2.2.2.2.2.1 v.2.2.2.2.2.2.2.2.1 v.2.2.2.2.2.2.2.2.2.1 v.2.2.2.2.2.2.2.2.2.2.1 v.2.2.2.2.2.2.2.2.2.2.2 w.2.2.2.2.2.2.2) ∨ (¬ v.2.1 = 0 ∧ w.1 = 0 ∧ v.2.1 = w.2.2.2.2.2.2.1 ∧ v.2.2.1 = w.2.2.1)
theorem tk_loop {k : Nat} (hk : k ≤ 200) {L T : Nat → Int32} (hT : ∀ j, j < k → L j = T j) (hB : ∀ j, j < k → 0 ≤ (T j).toInt) {v : Int32 × Int32 × Int32 × Int32 × Int32 × Int32 × Int32 × Int32 × (Nat → Int32) × (Nat → Int32) × (Nat → Int32) × (Nat → Int32)} {w : Int32 × Int32 × Int32 × Int32 × Int32 × Int32 × Int32 × (Nat → Int32)} (h1 : v.1 = nI 0) (h2 : rd_A k T 0 v w) :
    ∃ o o', oz_loop (fX8_readInto_b21 (nI k) L) oz_fuel v = some o ∧ oz_loop (fX12_town_b37 (nI k) T) oz_fuel w = some o' ∧ rd_E o o' := by
  refine oz_rel (fun (c : Nat) v w => (v.1 = nI c ∧ ∃ p, c ≤ p ∧ p ≤ k ∧ rd_A k T p v w) ∨ (¬ v.2.1 = 0 ∧ w.1 = 0 ∧ v.2.1 = w.2.2.2.2.2.2.1 ∧ v.2.2.1 = w.2.2.1)) (fun o o' => rd_E o o') 200 (by omega) ?_ ?_ (Or.inl ⟨h1, 0, by omega, by omega, h2⟩)
  · intro c v w hc hv
    rcases hv with ⟨hv1, p, p1, p2, A1, A2, A3, A4, ⟨n, A5⟩, A6⟩ | hv
    · obtain ⟨q, e, x, r, q1, S, s1, m1⟩ := tk_all hk p2 hT hB
      have er : r = (w.2.1, w.2.2.1, w.2.2.2.1, w.2.2.2.2.1, w.2.2.2.2.2.1) := Option.some.inj ((m1 0 0 0 0).symm.trans (A6 0 0 0 0))
      have hc200 : ¬ (200 : Int32) ≤ v.1 := by rw [hv1]; exact (nI_ge (b := 200) hc (by omega) : ¬ nI 200 ≤ nI c)
      rcases Decidable.em (q = k) with z | z
      · refine Or.inr ⟨(v.1, v.2.1, v.2.2.1, nI q, v.2.2.2.2.1, v.2.2.2.2.2.1, v.2.2.2.2.2.2.1, v.2.2.2.2.2.2.2.1, v.2.2.2.2.2.2.2.2.1, v.2.2.2.2.2.2.2.2.2.1, v.2.2.2.2.2.2.2.2.2.2.1, v.2.2.2.2.2.2.2.2.2.2.2), w, ?_, tk_outM (Or.inl ?_), Or.inl ⟨A1, A2, A3, n, A5⟩⟩
        · unfold fX8_readInto_b21
          rw [if_neg hc200, if_pos A1, A4, oz_b s1, if_neg (nI_nlt (by omega) (by omega))]
        · have hs : w.2.2.2.1 = -1 := by
            have : w.2.2.2.1 = r.2.2.1 := by rw [er]
            rw [this]
            rcases S.2.2.2.2.2 with ⟨_, _, c⟩ | ⟨c, _⟩ | ⟨c, _⟩
            · rw [c]
            · omega
            · omega
          rw [hs]; decide
      · have hq : q < k := by have := S.1; omega
        obtain ⟨y, zz, y1, z1, Q⟩ := tk_clause hk hq hT hB S A5 v.2.2.1 w.2.2.2.2.2.2.1
        rw [er] at z1
        dsimp only at z1
        have hsg : ¬ w.2.2.2.1 < 0 := by
          have : w.2.2.2.1 = r.2.2.1 := by rw [er]
          rw [this, pz_lt, pz_i0]
          rcases S.2.2.2.2.2 with ⟨c, _⟩ | ⟨_, _, _, c⟩ | ⟨_, _, _, c⟩
          · omega
          · rw [c]; have := hB q hq; dsimp only; omega
          · rw [c]; exact (by decide : ¬ (48 : Int32).toInt < 0)
        have kX : fX8_readInto_b21 (nI k) L v = some (.inl (v.1 + 1, y.1, y.2.1, y.2.2.1, y.2.2.2.1, y.2.2.2.2.1, y.2.2.2.2.2.1, y.2.2.2.2.2.2.1, y.2.2.2.2.2.2.2.1, y.2.2.2.2.2.2.2.2.1, y.2.2.2.2.2.2.2.2.2.1, y.2.2.2.2.2.2.2.2.2.2)) := by
          unfold fX8_readInto_b21
          rw [if_neg hc200, if_pos A1, A4, oz_b s1, if_pos (nI_lt hq (by omega)), A1, oz_b y1]
        left
        rcases Q with ⟨Q1, Q2, Q3, ⟨p', Q4, Q5, Q6, Q7⟩, n', Q8⟩ | ⟨Q1, Q2, Q3, Q4⟩
        · obtain ⟨q', e', x', r', _, _, _, m'⟩ := tk_all hk Q5 hT hB
          have kM : fX12_town_b37 (nI k) T w = some (.inl (zz.1, r'.1, r'.2.1, r'.2.2.1, r'.2.2.2.1, r'.2.2.2.2, zz.2.2.2.2.2.2.1, zz.2.2.2.2.2.2.2)) := by
            unfold fX12_town_b37
            rw [if_neg hsg, if_neg (by rw [A3]; exact fw_n10), oz_b z1, if_neg (by rw [Q3]; exact fw_n10), Q7, oz_b (m' _ _ _ _)]
          refine ⟨_, _, kX, kM, Or.inl ⟨?_, p', by omega, Q5, Q1, Q2.trans A2, Q3, Q6, ⟨n', Q8⟩, m'⟩⟩
          dsimp only
          rw [hv1, nI_1]
        · have kM : fX12_town_b37 (nI k) T w = some (.inl (zz.1, zz.2.1, zz.2.2.1, zz.2.2.2.1, zz.2.2.2.2.1, zz.2.2.2.2.2.1, zz.2.2.2.2.2.2.1, zz.2.2.2.2.2.2.2)) := by
            unfold fX12_town_b37
            rw [if_neg hsg, if_neg (by rw [A3]; exact fw_n10), oz_b z1, if_pos Q2]
          exact ⟨_, _, kX, kM, Or.inr ⟨Q1, Q2, Q3, Q4⟩⟩
    · exact Or.inr ⟨v, w, tk_outX (Or.inr hv.1), tk_outM (Or.inr hv.2.1), Or.inr hv⟩
  · intro v w hv
    rcases hv with ⟨hv1, p, p1, p2, A1, A2, A3, A4, ⟨n, A5⟩, A6⟩ | hv
    · obtain ⟨q, e, x, r, q1, S, s1, m1⟩ := tk_all hk p2 hT hB
      have er : r = (w.2.1, w.2.2.1, w.2.2.2.1, w.2.2.2.2.1, w.2.2.2.2.2.1) := Option.some.inj ((m1 0 0 0 0).symm.trans (A6 0 0 0 0))
      have hs : w.2.2.2.1 = -1 := by
        have : w.2.2.2.1 = r.2.2.1 := by rw [er]
        rw [this]
        rcases S.2.2.2.2.2 with ⟨_, _, c⟩ | ⟨c, _⟩ | ⟨c, _⟩
        · rw [c]
        · omega
        · omega
      exact ⟨v, w, tk_outX (Or.inl (by rw [hv1]; decide)), tk_outM (Or.inl (by rw [hs]; decide)), Or.inl ⟨A1, A2, A3, n, A5⟩⟩
    · exact ⟨v, w, tk_outX (Or.inr hv.1), tk_outM (Or.inr hv.2.1), Or.inr hv⟩
theorem tk_zero {f : Int32 × (Nat → Int32) → Option ((Int32 × (Nat → Int32)) ⊕ (Int32 × (Nat → Int32)))} {N : Nat} (hN : N < 1000) (h1 : ∀ i g, i < N → f (nI i, g) = some (.inl (nI i + 1, upd g i 0))) (h2 : ∀ g, f (nI N, g) = some (.inr (nI N, g))) (g : Nat → Int32) : ∃ o, oz_loop f oz_fuel (0, g) = some o ∧ ∀ j, j < N → o.2 j = 0 := by
  refine oz_inv (fun (i : Nat) (v : Int32 × (Nat → Int32)) => v.1 = nI i ∧ ∀ j, j < i → v.2 j = 0) _ N (by omega) ?_ ?_ ⟨rfl, fun j hj => absurd hj (by omega)⟩
  · intro i v hi hv
    obtain ⟨v1, v2⟩ := v
    obtain ⟨e1, e2⟩ := hv
    dsimp only at e1 e2
    subst e1
    refine Or.inl ⟨_, h1 i v2 hi, nI_1 i, fun j hj => ?_⟩
    dsimp only
    rcases (show j < i ∨ j = i by omega) with z | z
    · rw [pk_un (by omega)]; exact e2 j z
    · subst z; exact pk_us
  · intro v hv
    obtain ⟨v1, v2⟩ := v
    obtain ⟨e1, e2⟩ := hv
    dsimp only at e1 e2
    subst e1
    exact ⟨_, h2 v2, e2⟩
theorem tk_zread (g : Nat → Int32) : ∃ o, oz_loop fX12_town_b2 oz_fuel (0, g) = some o ∧ ∀ j, j < 27 → o.2 j = 0 := by
  refine tk_zero (N := 27) (by omega) (fun i g hi => ?_) (fun g => ?_) g
  · unfold fX12_town_b2
    dsimp only
    rw [if_neg (show ¬ (27 : Int32) ≤ nI i from (nI_ge (b := 27) hi (by omega) : ¬ nI 27 ≤ nI i)), if_neg (pz_ix hi (by omega)), pz_ncl (show i < 2147483648 by omega)]
  · unfold fX12_town_b2
    dsimp only
    rw [if_pos (show (27 : Int32) ≤ nI 27 by decide)]
theorem tk_znow (g : Nat → Int32) : ∃ o, oz_loop fX12_begins_b2 oz_fuel (0, g) = some o ∧ ∀ j, j < 19 → o.2 j = 0 := by
  refine tk_zero (N := 19) (by omega) (fun i g hi => ?_) (fun g => ?_) g
  · unfold fX12_begins_b2
    dsimp only
    rw [if_neg (show ¬ (19 : Int32) ≤ nI i from (nI_ge (b := 19) hi (by omega) : ¬ nI 19 ≤ nI i)), if_neg (pz_ix hi (by omega)), pz_ncl (show i < 2147483648 by omega)]
  · unfold fX12_begins_b2
    dsimp only
    rw [if_pos (show (19 : Int32) ≤ nI 19 by decide)]
theorem tk_zst (kept away : Nat → Int32) : ∃ o, oz_loop fX10_clear_b2 oz_fuel (0, kept, away) = some o ∧ ∀ j, j < 8 → o.2.1 j = 0 ∧ o.2.2 j = 0 := by
  refine oz_inv (fun (i : Nat) (v : Int32 × (Nat → Int32) × (Nat → Int32)) => v.1 = nI i ∧ ∀ j, j < i → v.2.1 j = 0 ∧ v.2.2 j = 0) _ 8 (by omega) ?_ ?_ ⟨rfl, fun j hj => absurd hj (by omega)⟩
  · intro i v hi hv
    obtain ⟨v1, v2, v3⟩ := v
    obtain ⟨e1, e2⟩ := hv
    dsimp only at e1 e2
    subst e1
    refine Or.inl ⟨(nI i + 1, upd v2 i 0, upd v3 i 0), ?_, nI_1 i, fun j hj => ?_⟩
    · unfold fX10_clear_b2
      dsimp only
      rw [if_neg (show ¬ (8 : Int32) ≤ nI i from (nI_ge (b := 8) hi (by omega) : ¬ nI 8 ≤ nI i)), if_neg (pz_ix hi (by omega)), pz_ncl (show i < 2147483648 by omega)]
    · dsimp only
      rcases (show j < i ∨ j = i by omega) with z | z
      · rw [pk_un (by omega), pk_un (by omega)]; exact e2 j z
      · subst z; exact ⟨pk_us, pk_us⟩
  · intro v hv
    obtain ⟨v1, v2, v3⟩ := v
    obtain ⟨e1, e2⟩ := hv
    dsimp only at e1 e2
    subst e1
    refine ⟨(nI 8, v2, v3), ?_, e2⟩
    unfold fX10_clear_b2
    dsimp only
    rw [if_pos (show (8 : Int32) ≤ nI 8 by decide)]
theorem sp_town (v_x_reader_length : Int32) (v_x_reader_faultKind : Int32) (v_x_reader_faultAt : Int32) (v_x_reader_at : Int32) (v_x_reader_letters : Nat → Int32) (v_x_plan_stands : Int32) (v_x_plan_lent : Int32) (v_x_plan_pipe : Int32) (v_x_plan_houses : Int32) (v_x_plan_room : Nat → Int32) (v_x_plan_daily : Nat → Int32) (v_x_plan_drain : Nat → Int32) (v_x_plan_above : Nat → Int32) (v_x_draft_stands : Int32) (v_x_draft_lent : Int32) (v_x_draft_pipe : Int32) (v_x_draft_houses : Int32) (v_x_draft_room : Nat → Int32) (v_x_draft_daily : Nat → Int32) (v_x_draft_drain : Nat → Int32) (v_x_draft_above : Nat → Int32) (v_x_now_days : Int32) (v_x_now_spilled : Int32) (v_x_now_river : Int32) (v_x_now_kept : Nat → Int32) (v_x_now_away : Nat → Int32) (v_x_history_end : Int32) (v_x_history_count : Int32) (v_x_history_shelf_places : Int32) (v_x_history_shelf_cells : Nat → Int32) (v_x_images_storedSet : Int32) (v_x_images_shelf_places : Int32) (v_x_images_shelf_cells : Nat → Int32) (v_x_images_seeds : Nat → Int32) (v_x_draws_value : Int32) (v_x_notes_seen : Int32) (v_x_notes_entries : Int32) (v_x_notes_seenBy : Nat → Int32) (v_x_notes_seenCame : Nat → Int32) (v_x_notes_entryHouse : Nat → Int32) (v_x_notes_entryAmount : Nat → Int32) (v_m_undos : Int32) (v_m_seed : Int64) (v_m_size : Int32) (v_m_fault : Int32) (v_m_sightMany : Int32) (v_m_bookMany : Int32) (v_m_at : Int32) (v_m_begin : Int32) (v_m_sign : Int32) (v_m_figures : Int32) (v_m_value : Int32) (v_m_wrong : Int32) (v_m_town : Nat → Int32) (v_m_read : Nat → Int32) (v_m_now : Nat → Int32) (v_m_past : Nat → Int32) (v_m_images : Nat → Int32) (v_m_kept : Nat → Int32) (v_m_text : Nat → Int32) (v_m_sights : Nat → Int32) (v_m_book : Nat → Int32) (hI : IV v_x_reader_length v_x_reader_faultAt v_x_reader_letters v_x_plan_stands v_x_plan_lent v_x_plan_pipe v_x_plan_houses v_x_plan_room v_x_plan_daily v_x_plan_drain v_x_plan_above v_x_now_days v_x_now_spilled v_x_now_river v_x_now_kept v_x_now_away v_x_history_end v_x_history_count v_x_history_shelf_places v_x_history_shelf_cells v_x_images_storedSet v_x_images_shelf_places v_x_images_shelf_cells v_x_images_seeds v_x_draws_value v_x_notes_seen v_x_notes_entries v_x_notes_seenBy v_x_notes_seenCame v_x_notes_entryHouse v_x_notes_entryAmount v_m_undos v_m_seed v_m_size v_m_fault v_m_sightMany v_m_bookMany v_m_town v_m_now v_m_past v_m_images v_m_kept v_m_text v_m_sights v_m_book) : ∃ (yx : Int32 × Int32 × Int32 × Int32 × Int32 × Int32 × Int32 × Int32 × Int32 × (Nat → Int32) × (Nat → Int32) × (Nat → Int32) × (Nat → Int32) × Int32 × Int32 × Int32 × (Nat → Int32) × (Nat → Int32) × Int32 × Int32 × Int32 × Int32 × Int32) (ym : Int32 × Int32 × Int32 × Int32 × Int32 × Int32 × Int32 × Int32 × Int32 × Int32 × Int32 × Int32 × (Nat → Int32) × (Nat → Int32) × (Nat → Int32) × (Nat → Int32)), (fX11_town v_x_reader_length v_x_reader_faultKind v_x_reader_faultAt v_x_reader_at v_x_reader_letters v_x_draft_stands v_x_draft_lent v_x_draft_pipe v_x_draft_houses v_x_draft_room v_x_draft_daily v_x_draft_drain v_x_draft_above v_x_now_days v_x_now_spilled v_x_now_river v_x_now_kept v_x_now_away v_x_history_end v_x_history_count v_x_images_storedSet v_x_notes_seen v_x_notes_entries) = some yx ∧ (fX12_town v_m_undos v_m_size v_m_fault v_m_sightMany v_m_bookMany v_m_at v_m_begin v_m_sign v_m_figures v_m_value v_m_wrong v_m_town v_m_read v_m_now v_m_kept v_m_text) = some ym ∧ yx.1 = ym.1 ∧ ((yx.2.2.1 = 0 ∧ IV yx.2.1 yx.2.2.2.1 v_x_reader_letters yx.2.2.2.2.2.1 yx.2.2.2.2.2.2.1 yx.2.2.2.2.2.2.2.1 yx.2.2.2.2.2.2.2.2.1 yx.2.2.2.2.2.2.2.2.2.1 yx.2.2.2.2.2.2.2.2.2.2.1 yx.2.2.2.2.2.2.2.2.2.2.2.1 yx.2.2.2.2.2.2.2.2.2.2.2.2.1 yx.2.2.2.2.2.2.2.2.2.2.2.2.2.1 yx.2.2.2.2.2.2.2.2.2.2.2.2.2.2.1 yx.2.2.2.2.2.2.2.2.2.2.2.2.2.2.2.1 yx.2.2.2.2.2.2.2.2.2.2.2.2.2.2.2.2.1 yx.2.2.2.2.2.2.2.2.2.2.2.2.2.2.2.2.2.1 yx.2.2.2.2.2.2.2.2.2.2.2.2.2.2.2.2.2.2.1 yx.2.2.2.2.2.2.2.2.2.2.2.2.2.2.2.2.2.2.2.1 v_x_history_shelf_places v_x_history_shelf_cells yx.2.2.2.2.2.2.2.2.2.2.2.2.2.2.2.2.2.2.2.2.1 v_x_images_shelf_places v_x_images_shelf_cells v_x_images_seeds v_x_draws_value yx.2.2.2.2.2.2.2.2.2.2.2.2.2.2.2.2.2.2.2.2.2.1 yx.2.2.2.2.2.2.2.2.2.2.2.2.2.2.2.2.2.2.2.2.2.2 v_x_notes_seenBy v_x_notes_seenCame v_x_notes_entryHouse v_x_notes_entryAmount ym.2.1 v_m_seed ym.2.2.1 ym.2.2.2.1 ym.2.2.2.2.1 ym.2.2.2.2.2.1 ym.2.2.2.2.2.2.2.2.2.2.2.2.1 ym.2.2.2.2.2.2.2.2.2.2.2.2.2.2.1 v_m_past v_m_images ym.2.2.2.2.2.2.2.2.2.2.2.2.2.2.2 v_m_text v_m_sights v_m_book) ∨ (¬ yx.2.2.1 = 0 ∧ IV yx.2.1 yx.2.2.2.1 v_x_reader_letters v_x_plan_stands v_x_plan_lent v_x_plan_pipe v_x_plan_houses v_x_plan_room v_x_plan_daily v_x_plan_drain v_x_plan_above yx.2.2.2.2.2.2.2.2.2.2.2.2.2.1 yx.2.2.2.2.2.2.2.2.2.2.2.2.2.2.1 yx.2.2.2.2.2.2.2.2.2.2.2.2.2.2.2.1 yx.2.2.2.2.2.2.2.2.2.2.2.2.2.2.2.2.1 yx.2.2.2.2.2.2.2.2.2.2.2.2.2.2.2.2.2.1 yx.2.2.2.2.2.2.2.2.2.2.2.2.2.2.2.2.2.2.1 yx.2.2.2.2.2.2.2.2.2.2.2.2.2.2.2.2.2.2.2.1 v_x_history_shelf_places v_x_history_shelf_cells yx.2.2.2.2.2.2.2.2.2.2.2.2.2.2.2.2.2.2.2.2.1 v_x_images_shelf_places v_x_images_shelf_cells v_x_images_seeds v_x_draws_value yx.2.2.2.2.2.2.2.2.2.2.2.2.2.2.2.2.2.2.2.2.2.1 yx.2.2.2.2.2.2.2.2.2.2.2.2.2.2.2.2.2.2.2.2.2.2 v_x_notes_seenBy v_x_notes_seenCame v_x_notes_entryHouse v_x_notes_entryAmount ym.2.1 v_m_seed ym.2.2.1 ym.2.2.2.1 ym.2.2.2.2.1 ym.2.2.2.2.2.1 ym.2.2.2.2.2.2.2.2.2.2.2.2.1 ym.2.2.2.2.2.2.2.2.2.2.2.2.2.2.1 v_m_past v_m_images ym.2.2.2.2.2.2.2.2.2.2.2.2.2.2.2 v_m_text v_m_sights v_m_book)) := by
  obtain ⟨⟨k, t1, t2, t3, t4⟩, i2, i3, n0, hP0, hS0, hB0, hH0, hM0, hO0⟩ := hI
  have hT : ∀ j, j < k → v_x_reader_letters j = v_m_text j := fun j hj => (t4 j hj).1
  have hB : ∀ j, j < k → 0 ≤ (v_m_text j).toInt := fun j hj => (t4 j hj).2.1
  obtain ⟨z0, Z1, Z2⟩ := tk_zread v_m_read
  obtain ⟨q, e, x, r, q1, S, s1, m1⟩ := tk_all t1 (show 0 ≤ k by omega) hT hB
  have hA : rd_A k v_m_text 0 ((0, 0, -1, 0, 0, 0, 0, 0, v_x_draft_room, v_x_draft_daily, v_x_draft_drain, v_x_draft_above) : Int32 × Int32 × Int32 × Int32 × Int32 × Int32 × Int32 × Int32 × (Nat → Int32) × (Nat → Int32) × (Nat → Int32) × (Nat → Int32)) (1, r.1, r.2.1, r.2.2.1, r.2.2.2.1, r.2.2.2.2, v_m_wrong, z0.2) := by
    refine ⟨rfl, rfl, rfl, rfl, ⟨0, ?_⟩, m1⟩
    dsimp only
    exact ⟨by omega, rfl, Z2 2 (by omega), Z2 0 (by omega), Z2 1 (by omega), fun h hh => absurd hh (by omega), fun h hh => absurd hh (by omega), fun h hh => absurd hh (by omega), fun h hh => absurd hh (by omega), fun h hh => absurd hh (by omega), fun h hh => absurd hh (by omega), by decide, by decide, Or.inr ⟨rfl, rfl, rfl⟩⟩
  obtain ⟨o, o', l1, l2, E⟩ := tk_loop t1 hT hB rfl hA
  have hR : fX8_readInto v_x_reader_length v_x_reader_faultKind v_x_reader_faultAt v_x_reader_at v_x_reader_letters v_x_draft_stands v_x_draft_lent v_x_draft_pipe v_x_draft_houses v_x_draft_room v_x_draft_daily v_x_draft_drain v_x_draft_above = some (o.2.1, o.2.2.1, o.2.2.2.1, o.2.2.2.2.1, o.2.2.2.2.2.1, o.2.2.2.2.2.2.1, o.2.2.2.2.2.2.2.1, o.2.2.2.2.2.2.2.2.1, o.2.2.2.2.2.2.2.2.2.1, o.2.2.2.2.2.2.2.2.2.2.1, o.2.2.2.2.2.2.2.2.2.2.2) := by
    unfold fX8_readInto
    rw [oz_b (show fX6_clear v_x_draft_stands v_x_draft_lent v_x_draft_pipe v_x_draft_houses = some (0, 0, 0, 0) from rfl), t2]
    exact oz_b l1
  have hT0 : iv_T 0 v_x_reader_letters 0 v_m_text := ⟨0, by omega, rfl, rfl, fun j hj => absurd hj (by omega)⟩
  rcases E with ⟨E1, E2, E3, n, E4⟩ | ⟨E1, E2, E3, E4⟩
  · obtain ⟨zs, ZS1, ZS2⟩ := tk_zst v_x_now_kept v_x_now_away
    obtain ⟨zn, ZN1, ZN2⟩ := tk_znow v_m_now
    obtain ⟨tw, W1, W2⟩ := cz_copies (n0 := 27) (n2 := 27) (i := 0) (j := 0) (m := 27) (p0 := o'.2.2.2.2.2.2.2) (p2 := v_m_town) (by omega) (by omega) (by omega) (by omega)
    have W3 : ∀ j, j < 27 → tw j = o'.2.2.2.2.2.2.2 j := fun j hj => by rw [W2, if_pos (by omega)]; exact congrArg _ (by omega)
    have hP := rd_iv E4 W3
    have hX : fX11_town v_x_reader_length v_x_reader_faultKind v_x_reader_faultAt v_x_reader_at v_x_reader_letters v_x_draft_stands v_x_draft_lent v_x_draft_pipe v_x_draft_houses v_x_draft_room v_x_draft_daily v_x_draft_drain v_x_draft_above v_x_now_days v_x_now_spilled v_x_now_river v_x_now_kept v_x_now_away v_x_history_end v_x_history_count v_x_images_storedSet v_x_notes_seen v_x_notes_entries = some (o.2.2.2.2.2.2.2.1, 0, o.2.1, o.2.2.1, o.2.2.2.1, o.2.2.2.2.1, o.2.2.2.2.2.1, o.2.2.2.2.2.2.1, o.2.2.2.2.2.2.2.1, o.2.2.2.2.2.2.2.2.1, o.2.2.2.2.2.2.2.2.2.1, o.2.2.2.2.2.2.2.2.2.2.1, o.2.2.2.2.2.2.2.2.2.2.2, 0, 0, 0, zs.2.1, zs.2.2, 0, 0, 0, 0, 0) := by
      unfold fX11_town
      rw [oz_b hR, oz_b (show fX8_empty v_x_reader_length = some 0 from rfl)]
      dsimp only
      rw [if_pos E1, oz_b (show fX10_clear v_x_now_days v_x_now_spilled v_x_now_river v_x_now_kept v_x_now_away = some (0, 0, 0, zs.2.1, zs.2.2) from oz_b ZS1), oz_b (show fX5_clear v_x_notes_seen v_x_notes_entries = some (0, 0) from rfl), oz_b (show fX3_clear v_x_images_storedSet = some 0 from rfl), oz_b (show fX2_clear v_x_history_end v_x_history_count = some (0, 0) from rfl)]
    have hM : fX12_town v_m_undos v_m_size v_m_fault v_m_sightMany v_m_bookMany v_m_at v_m_begin v_m_sign v_m_figures v_m_value v_m_wrong v_m_town v_m_read v_m_now v_m_kept v_m_text = some (tw 2, 0, 0, -1, 0, 0, o'.2.1, o'.2.2.1, o'.2.2.2.1, o'.2.2.2.2.1, o'.2.2.2.2.2.1, o'.2.2.2.2.2.2.1, tw, o'.2.2.2.2.2.2.2, zn.2, upd (upd v_m_kept 0 0) 1 0) := by
      unfold fX12_town
      rw [oz_b Z1, t3, oz_b (show fX12_step (nI k) 0 v_m_begin v_m_sign v_m_figures v_m_value v_m_text = some r from m1 _ _ _ _), oz_b l2, if_neg (by rw [E3]; exact fw_n10), oz_b (show fX12_copies 27 27 o'.2.2.2.2.2.2.2 v_m_town 0 0 27 = some tw from W1), oz_b (show fX12_begins v_m_undos v_m_sightMany v_m_bookMany v_m_now v_m_kept = some (0, 0, 0, zn.2, upd (upd v_m_kept 0 0) 1 0) from oz_b ZN1), pz_c2]
    have hB1 : pr_B n o.2.2.2.2.2.2.2.2.1 9030 zs.2.1 zs.2.2 0 0 0 := by
      refine ⟨fun h hh => ?_, fun h h1 h2 => ZS2 h h2, fun h hh => ?_, by decide, by decide, by decide⟩
      · rw [(ZS2 h (by have := hP.1; omega)).1]
        have := (E4.2.2.2.2.2.2.2.2.1 h hh).1.1
        exact ⟨by decide, by rw [pz_i0]; exact this⟩
      · rw [(ZS2 h hh).2]; decide
    refine ⟨_, _, hX, hM, ?_, Or.inl ⟨E1, hT0, E2, i3, n, hP, ?_, hB1, ⟨0, 0, by omega, by omega, rfl, rfl, rfl, ?_, fun j hj => absurd hj (by omega), fun j hj => absurd hj (by omega)⟩, ⟨hM0.1, ⟨0, by omega, rfl, ?_, ?_⟩, fun i hi hk => ?_⟩, ⟨0, 0, by omega, by omega, rfl, rfl, rfl, rfl, fun j hj => absurd hj (by omega), fun j hj => absurd hj (by omega)⟩⟩⟩
    · dsimp only
      rw [hP.2.1, hP.2.2.1]
    · dsimp only
      exact ⟨fun h hh => by rw [ZN2 h (by omega), (ZS2 h hh).1], fun h hh => by rw [ZN2 (8 + h) (by omega), (ZS2 h hh).2], ZN2 16 (by omega), ZN2 17 (by omega), ZN2 18 (by omega)⟩
    · exact hH0.choose_spec.choose_spec.2.2.2.2.2.1
    · dsimp only
      rw [pk_un (by omega), pk_us]; rfl
    · dsimp only
      rw [pk_us]; rfl
    · exfalso
      dsimp only at hk
      rcases (show i = 0 ∨ i = 1 by omega) with rfl | rfl
      · rw [pk_un (by omega), pk_us] at hk; exact fw_n01 hk
      · rw [pk_us] at hk; exact fw_n01 hk
  · have hX : fX11_town v_x_reader_length v_x_reader_faultKind v_x_reader_faultAt v_x_reader_at v_x_reader_letters v_x_draft_stands v_x_draft_lent v_x_draft_pipe v_x_draft_houses v_x_draft_room v_x_draft_daily v_x_draft_drain v_x_draft_above v_x_now_days v_x_now_spilled v_x_now_river v_x_now_kept v_x_now_away v_x_history_end v_x_history_count v_x_images_storedSet v_x_notes_seen v_x_notes_entries = some ((-10) - o.2.1, 0, o.2.1, o.2.2.1, o.2.2.2.1, o.2.2.2.2.1, o.2.2.2.2.2.1, o.2.2.2.2.2.2.1, o.2.2.2.2.2.2.2.1, o.2.2.2.2.2.2.2.2.1, o.2.2.2.2.2.2.2.2.2.1, o.2.2.2.2.2.2.2.2.2.2.1, o.2.2.2.2.2.2.2.2.2.2.2, v_x_now_days, v_x_now_spilled, v_x_now_river, v_x_now_kept, v_x_now_away, v_x_history_end, v_x_history_count, v_x_images_storedSet, v_x_notes_seen, v_x_notes_entries) := by
      unfold fX11_town
      rw [oz_b hR, oz_b (show fX8_empty v_x_reader_length = some 0 from rfl)]
      dsimp only
      rw [if_neg E1]
    have hM : fX12_town v_m_undos v_m_size v_m_fault v_m_sightMany v_m_bookMany v_m_at v_m_begin v_m_sign v_m_figures v_m_value v_m_wrong v_m_town v_m_read v_m_now v_m_kept v_m_text = some ((-10) - o'.2.2.2.2.2.2.1, v_m_undos, 0, o'.2.2.1, v_m_sightMany, v_m_bookMany, o'.2.1, o'.2.2.1, o'.2.2.2.1, o'.2.2.2.2.1, o'.2.2.2.2.2.1, o'.2.2.2.2.2.2.1, v_m_town, o'.2.2.2.2.2.2.2, v_m_now, v_m_kept) := by
      unfold fX12_town
      rw [oz_b Z1, t3, oz_b (show fX12_step (nI k) 0 v_m_begin v_m_sign v_m_figures v_m_value v_m_text = some r from m1 _ _ _ _), oz_b l2, if_pos E2]
    refine ⟨_, _, hX, hM, ?_, Or.inr ⟨E1, hT0, E4, i3, n0, hP0, hS0, hB0, hH0, hM0, hO0⟩⟩
    dsimp only
    rw [E3]
