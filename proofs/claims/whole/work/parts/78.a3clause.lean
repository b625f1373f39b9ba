/-! CLAUSES: a plan read by the class, a row read by the reference -/
def rd_P (n : Nat) (stands lent pipe houses : Int32) (room daily drain above read : Nat → Int32) : Prop := n ≤ 8 ∧ houses = nI n ∧ read 2 = nI n ∧ read 0 = lent ∧ read 1 = pipe ∧ (∀ h, h < n → read (3 + h) = room h) ∧ (∀ h, h < n → read (11 + h) = daily h) ∧ (∀ h, h < n → read (19 + h) = drain h) ∧ pr_R n room daily ∧ pr_D n drain ∧ (∀ h, h < n → above h = ab_s drain h n) ∧ (0 ≤ pipe.toInt ∧ pipe.toInt ≤ 99) ∧ (0 ≤ lent.toInt ∧ lent.toInt ≤ 60) ∧ ((stands = 1 ∧ 1 ≤ lent.toInt) ∨ (stands = 0 ∧ lent = 0 ∧ n = 0))
theorem rd_iv {n : Nat} {stands lent pipe houses : Int32} {room daily drain above read town : Nat → Int32} (h : rd_P n stands lent pipe houses room daily drain above read) (ht : ∀ j, j < 27 → town j = read j) : iv_P n stands lent pipe houses room daily drain above town := by
  obtain ⟨p1, p2, p3, p4, p5, p6, p7, p8, p9, p10, p11, p12, p13, p14⟩ := h
  have t2 : town 2 = nI n := (ht 2 (by omega)).trans p3
  have t8 : ∀ h, h < n → town (19 + h) = drain h := fun h hh => (ht _ (by omega)).trans (p8 h hh)
  refine ⟨p1, p2, t2, (ht 0 (by omega)).trans p4, (ht 1 (by omega)).trans p5, fun h hh => (ht _ (by omega)).trans (p6 h hh), fun h hh => (ht _ (by omega)).trans (p7 h hh), t8, p9, p10, fun h hh => ?_, p12, p13, p14⟩
  rw [p11 h hh]
  exact ab_M p1 t2 t8 p10 hh
theorem tk_lent {k q : Nat} (hk : k ≤ 200) (hq : q < k) {L T : Nat → Int32} (hT : ∀ j, j < k → L j = T j) (hB : ∀ j, j < k → 0 ≤ (T j).toInt) {read : Nat → Int32} (h0 : read 0 = 0) (fa wr b f vl stands lent pipe : Int32) :
    ∃ y z, fX8_readLent (nI k) 0 fa (nI q) L stands lent pipe = some y ∧ fX12_readsClause (nI k) (nI (q + 1)) b 116 f vl wr read T = some z ∧
      ((y.1 = 0 ∧ y.2.1 = fa ∧ z.1 = 1 ∧ (∃ p, q < p ∧ p ≤ k ∧ y.2.2.1 = nI p ∧ z.2.1 = nI p) ∧ y.2.2.2.1 = 1 ∧ (1 ≤ y.2.2.2.2.1.toInt ∧ y.2.2.2.2.1.toInt ≤ 60) ∧ (1 ≤ y.2.2.2.2.2.toInt ∧ y.2.2.2.2.2.toInt ≤ 99) ∧ z.2.2.2.2.2.2.2 = upd (upd read 0 y.2.2.2.2.1) 1 y.2.2.2.2.2) ∨ (¬ y.1 = 0 ∧ z.1 = 0 ∧ y.1 = z.2.2.2.2.2.2.1 ∧ y.2.1 = z.2.2.1)) := by
  have i60 : (60 : Int32).toInt = 60 := by decide
  have i99 : (99 : Int32).toInt = 99 := by decide
  have c00 : (0 : Int32) ≤ 0 := by decide
  obtain ⟨q1, e1, v1, r1, a1, S1, s1, m1⟩ := tk_all hk (show q + 1 ≤ k by omega) hT hB
  have E1 : e1 ≤ k := S1.2.2.1
  rcases tk_num hk S1 s1 m1 1 60 fa wr read (pl := 0) (by omega) b 116 f vl with ⟨l1, l2, l3, X1, s', f', M1⟩ | ⟨kd, hkd, X1, a', s', f', v', M1⟩
  · obtain ⟨q2, e2, v2, r2, a2, S2, s2, m2⟩ := tk_all hk E1 hT hB
    have E2 : e2 ≤ k := S2.2.2.1
    rcases tk_num hk S2 s2 m2 1 99 fa wr (upd read 0 v1) (pl := 1) (by omega) (nI q1) s' f' v1 with ⟨l4, l5, l6, X2, s2', f2', M2⟩ | ⟨kd, hkd, X2, a2', s2', f2', v2', M2⟩
    · obtain ⟨q3, e3, v3, r3, a3, S3, s3, m3⟩ := tk_all hk E2 hT hB
      rcases tk_end hk hT S3 s3 m3 fa wr (nI q2) s2' f2' v2 with ⟨l7, X3, s3', f3', v3', M3⟩ | ⟨X3, a3', s3', f3', v3', M3⟩
      · refine ⟨(0, fa, nI (q3 + 1), 1, v1, v2), (1, nI (q3 + 1), nI q3, s3', f3', v3', wr, upd (upd read 0 v1) 1 v2), ?_, ?_, Or.inl ⟨rfl, rfl, rfl, ⟨q3 + 1, by omega, by omega, rfl, rfl⟩, rfl, ⟨?_, ?_⟩, ⟨?_, ?_⟩, rfl⟩⟩
        · unfold fX8_readLent
          rw [nI_1, oz_b X1]
          dsimp only
          rw [oz_b X2]
          dsimp only
          rw [oz_b X3, if_pos rfl, oz_b (show fX6_begin stands lent pipe v1 v2 = some (1, v1, v2) from rfl)]
        · unfold fX12_readsClause
          rw [if_pos rfl, pz_c0, h0, if_pos c00, oz_b (show fX12_number (nI k) (nI (q + 1)) b 116 f vl wr read T 0 1 60 = _ from M1)]
          dsimp only
          rw [if_neg fw_n10, oz_b (show fX12_number (nI k) (nI e1) (nI q1) s' f' v1 wr (upd read 0 v1) T 1 1 99 = _ from M2)]
          dsimp only
          rw [if_neg fw_n10, oz_b M3]
          dsimp only
          rw [if_neg fw_n10]
        · rw [pz_i1] at l1; exact l1
        · rw [i60] at l2; exact l2
        · rw [pz_i1] at l4; exact l4
        · rw [i99] at l5; exact l5
      · refine ⟨(1, nI q3, nI (q3 + 1), stands, lent, pipe), (0, a3', nI q3, s3', f3', v3', 1, upd (upd read 0 v1) 1 v2), ?_, ?_, Or.inr ⟨fw_n10, rfl, rfl, rfl⟩⟩
        · unfold fX8_readLent
          rw [nI_1, oz_b X1]
          dsimp only
          rw [oz_b X2]
          dsimp only
          rw [oz_b X3]
          dsimp only
          rw [if_neg fw_n10]
        · unfold fX12_readsClause
          rw [if_pos rfl, pz_c0, h0, if_pos c00, oz_b (show fX12_number (nI k) (nI (q + 1)) b 116 f vl wr read T 0 1 60 = _ from M1)]
          dsimp only
          rw [if_neg fw_n10, oz_b (show fX12_number (nI k) (nI e1) (nI q1) s' f' v1 wr (upd read 0 v1) T 1 1 99 = _ from M2)]
          dsimp only
          rw [if_neg fw_n10, oz_b M3]
          dsimp only
          rw [if_pos rfl]
    · obtain ⟨x, X3⟩ := tk_endF hk E2 hT hkd (nI q2)
      refine ⟨(kd, nI q2, x, stands, lent, pipe), (0, a2', nI q2, s2', f2', v2', kd, upd read 0 v1), ?_, ?_, Or.inr ⟨hkd, rfl, rfl, rfl⟩⟩
      · unfold fX8_readLent
        rw [nI_1, oz_b X1]
        dsimp only
        rw [oz_b X2]
        dsimp only
        rw [oz_b X3]
        dsimp only
        rw [if_neg hkd]
      · unfold fX12_readsClause
        rw [if_pos rfl, pz_c0, h0, if_pos c00, oz_b (show fX12_number (nI k) (nI (q + 1)) b 116 f vl wr read T 0 1 60 = _ from M1)]
        dsimp only
        rw [if_neg fw_n10, oz_b (show fX12_number (nI k) (nI e1) (nI q1) s' f' v1 wr (upd read 0 v1) T 1 1 99 = _ from M2)]
        dsimp only
        rw [if_pos rfl]
  · obtain ⟨v2, e2, E2, X2⟩ := tk_numF hk E1 hT hkd (nI q1) 1 99
    obtain ⟨x, X3⟩ := tk_endF hk E2 hT hkd (nI q1)
    refine ⟨(kd, nI q1, x, stands, lent, pipe), (0, a', nI q1, s', f', v', kd, read), ?_, ?_, Or.inr ⟨hkd, rfl, rfl, rfl⟩⟩
    · unfold fX8_readLent
      rw [nI_1, oz_b X1]
      dsimp only
      rw [oz_b X2]
      dsimp only
      rw [oz_b X3]
      dsimp only
      rw [if_neg hkd]
    · unfold fX12_readsClause
      rw [if_pos rfl, pz_c0, h0, if_pos c00, oz_b (show fX12_number (nI k) (nI (q + 1)) b 116 f vl wr read T 0 1 60 = _ from M1)]
      dsimp only
      rw [if_pos rfl]
theorem tk_house {k q n : Nat} (hk : k ≤ 200) (hq : q < k) {L T : Nat → Int32} (hT : ∀ j, j < k → L j = T j) (hB : ∀ j, j < k → 0 ≤ (T j).toInt) (hn : n < 8) {room daily drain above read : Nat → Int32} (h2 : read 2 = nI n) (hD : pr_D n drain) (hA : ∀ h, h < n → above h = ab_s drain h n) (fa wr b s f vl : Int32) :
    ∃ y z, fX8_readHouse (nI k) 0 fa (nI q) L (nI n) room daily drain above = some y ∧ fX12_readsHouse (nI k) (nI (q + 1)) b s f vl wr read T = some z ∧
      ((y.1 = 0 ∧ y.2.1 = fa ∧ z.1 = 1 ∧ (∃ p, q < p ∧ p ≤ k ∧ y.2.2.1 = nI p ∧ z.2.1 = nI p) ∧ ∃ v1 v2 v3 d, (0 ≤ v1.toInt ∧ v1.toInt ≤ 999) ∧ (0 ≤ v2.toInt ∧ v2.toInt ≤ 99) ∧ y.2.2.2.1 = nI (n + 1) ∧ y.2.2.2.2.1 = upd room n v1 ∧ y.2.2.2.2.2.1 = upd daily n v2 ∧ y.2.2.2.2.2.2.1 = upd drain n d ∧ pr_D (n + 1) (upd drain n d) ∧ (∀ h, h < n + 1 → y.2.2.2.2.2.2.2 h = ab_s (upd drain n d) h (n + 1)) ∧ z.2.2.2.2.2.2.2 = upd (upd (upd (upd (upd read 2 (nI (n + 1))) (3 + n) v1) (11 + n) v2) (19 + n) v3) (19 + n) d) ∨ (¬ y.1 = 0 ∧ z.1 = 0 ∧ y.1 = z.2.2.2.2.2.2.1 ∧ y.2.1 = z.2.2.1)) := by
  have i999 : (999 : Int32).toInt = 999 := by decide
  have i99 : (99 : Int32).toInt = 99 := by decide
  have i9 : (9 : Int32).toInt = 9 := by decide
  have n2 : ¬ (2 : Int32) = 0 := by decide
  have n8 : ¬ nI n = 8 := fun e => by have := (nI_eq (b := 8) (by omega) (by decide)).1 e; omega
  have ix : ¬ (nI (19 + n) < 0 ∨ 27 ≤ Int32.toNatClampNeg (nI (19 + n))) := pz_ix (show 19 + n < 27 by omega) (by omega)
  have cx : Int32.toNatClampNeg (nI (19 + n)) = 19 + n := pz_ncl (by omega)
  obtain ⟨q1, e1, v1, r1, a1, S1, s1, m1⟩ := tk_all hk (show q + 1 ≤ k by omega) hT hB
  have E1 : e1 ≤ k := S1.2.2.1
  rcases tk_num hk S1 s1 m1 0 999 fa wr (upd read 2 (nI (n + 1))) (pl := 3 + n) (by omega) b s f vl with ⟨l1, l2, l3, X1, s', f', M1⟩ | ⟨kd, hkd, X1, a', s', f', v', M1⟩
  · obtain ⟨q2, e2, v2, r2, a2, S2, s2, m2⟩ := tk_all hk E1 hT hB
    have E2 : e2 ≤ k := S2.2.2.1
    rcases tk_num hk S2 s2 m2 0 99 fa wr (upd (upd read 2 (nI (n + 1))) (3 + n) v1) (pl := 11 + n) (by omega) (nI q1) s' f' v1 with ⟨l4, l5, l6, X2, s2', f2', M2⟩ | ⟨kd, hkd, X2, a2', s2', f2', v2', M2⟩
    · obtain ⟨q3, e3, v3, r3, a3, S3, s3, m3⟩ := tk_all hk E2 hT hB
      have E3 : e3 ≤ k := S3.2.2.1
      have K3 := tk_skip0 hk S3.2.2.2.1
      rcases tk_num hk S3 K3 m3 0 9 fa wr (upd (upd (upd read 2 (nI (n + 1))) (3 + n) v1) (11 + n) v2) (pl := 19 + n) (by omega) (nI q2) s2' f2' v2 with ⟨l7, l8, l9, X3, s3', f3', M3⟩ | ⟨kd, hkd, X3, a3', s3', f3', v3', M3⟩
      · obtain ⟨q4, e4, v4, r4, a4, S4, s4, m4⟩ := tk_all hk E3 hT hB
        rw [pz_i0] at l1 l4 l7
        rw [i999] at l2
        rw [i99] at l5
        rw [i9] at l8
        have hMt : fX12_readsHouse (nI k) (nI (q + 1)) b s f vl wr read T = if v3 = 9 then Option.bind (fX12_ends (nI k) (nI e3) (nI q3) s3' f3' v3 wr T) (fun y123 => if ¬ (narrow .boolean (.int y123.1) = .int y123.1) then none else some (y123.1, y123.2.1, y123.2.2.1, y123.2.2.2.1, y123.2.2.2.2.1, y123.2.2.2.2.2.1, y123.2.2.2.2.2.2, upd (upd (upd (upd (upd read 2 (nI (n + 1))) (3 + n) v1) (11 + n) v2) (19 + n) v3) (19 + n) (-1))) else if v3 < nI n then Option.bind (fX12_ends (nI k) (nI e3) (nI q3) s3' f3' v3 wr T) (fun y123 => if ¬ (narrow .boolean (.int y123.1) = .int y123.1) then none else some (y123.1, y123.2.1, y123.2.2.1, y123.2.2.2.1, y123.2.2.2.2.1, y123.2.2.2.2.2.1, y123.2.2.2.2.2.2, upd (upd (upd (upd (upd read 2 (nI (n + 1))) (3 + n) v1) (11 + n) v2) (19 + n) v3) (19 + n) v3)) else some (0, nI e3, nI q3, s3', f3', v3, 2, upd (upd (upd (upd read 2 (nI (n + 1))) (3 + n) v1) (11 + n) v2) (19 + n) v3) := by
          unfold fX12_readsHouse
          rw [pz_c2, h2, if_neg n8, nI_1, pz_a3, pz_a11, pz_a19, oz_b M1]
          dsimp only
          rw [if_neg fw_n10, oz_b M2]
          dsimp only
          rw [if_neg fw_n10, oz_b M3]
          dsimp only
          rw [if_neg fw_n10]
          rcases Decidable.em (v3 = 9) with z | z
          · rw [if_pos z, if_pos z, if_pos z, if_neg ix, cx]
          · rw [if_neg z, if_neg z]
            rcases Decidable.em (v3 < nI n) with y | y
            · rw [if_pos y, if_pos y, if_neg z, if_neg ix, cx]
            · rw [if_neg y, if_neg y, oz_b (show fX12_fails wr 2 = some (0, 2) from rfl), if_neg mz_b0, if_neg z]
        have hXt : fX8_readHouse (nI k) 0 fa (nI q) L (nI n) room daily drain above = if v3 = 9 then (Option.bind (fX8_readEnd (nI k) 0 fa (nI e3) L) (fun y70 => if y70.1 = 0 then (Option.bind (fX6_addHouse (nI n) room daily drain above v1 v2 v3) (fun y85 => some (y70.1, y70.2.1, y70.2.2, y85.1, y85.2.1, y85.2.2.1, y85.2.2.2.1, y85.2.2.2.2))) else (some (y70.1, y70.2.1, y70.2.2, nI n, room, daily, drain, above)))) else (Option.bind (fX6_has (nI n) v3) (fun y56 => if y56 = 0 then (Option.bind (fX8_readEnd (nI k) 2 (nI q3) (nI e3) L) (fun y70 => if y70.1 = 0 then (Option.bind (fX6_addHouse (nI n) room daily drain above v1 v2 v3) (fun y85 => some (y70.1, y70.2.1, y70.2.2, y85.1, y85.2.1, y85.2.2.1, y85.2.2.2.1, y85.2.2.2.2))) else (some (y70.1, y70.2.1, y70.2.2, nI n, room, daily, drain, above)))) else (Option.bind (fX8_readEnd (nI k) 0 fa (nI e3) L) (fun y70 => if y70.1 = 0 then (Option.bind (fX6_addHouse (nI n) room daily drain above v1 v2 v3) (fun y85 => some (y70.1, y70.2.1, y70.2.2, y85.1, y85.2.1, y85.2.2.1, y85.2.2.2.1, y85.2.2.2.2))) else (some (y70.1, y70.2.1, y70.2.2, nI n, room, daily, drain, above)))))) := by
          unfold fX8_readHouse
          rw [nI_1, oz_b X1]
          dsimp only
          rw [oz_b X2]
          dsimp only
          rw [oz_b s3, oz_b X3]
          dsimp only
          rw [oz_b (tk_bl0 fa 2 (nI q3))]
        have fin : ∀ d, ((d = -1 ∧ ¬ (0 ≤ v3.toInt ∧ v3.toInt < n)) ∨ (d = v3 ∧ 0 ≤ v3.toInt ∧ v3.toInt < n)) → (∀ y70, fX8_readEnd (nI k) 0 fa (nI e3) L = some y70 → fX8_readHouse (nI k) 0 fa (nI q) L (nI n) room daily drain above = if y70.1 = 0 then (Option.bind (fX6_addHouse (nI n) room daily drain above v1 v2 v3) (fun y85 => some (y70.1, y70.2.1, y70.2.2, y85.1, y85.2.1, y85.2.2.1, y85.2.2.2.1, y85.2.2.2.2))) else (some (y70.1, y70.2.1, y70.2.2, nI n, room, daily, drain, above))) → (∀ y123, fX12_ends (nI k) (nI e3) (nI q3) s3' f3' v3 wr T = some y123 → fX12_readsHouse (nI k) (nI (q + 1)) b s f vl wr read T = if ¬ (narrow .boolean (.int y123.1) = .int y123.1) then none else some (y123.1, y123.2.1, y123.2.2.1, y123.2.2.2.1, y123.2.2.2.2.1, y123.2.2.2.2.2.1, y123.2.2.2.2.2.2, upd (upd (upd (upd (upd read 2 (nI (n + 1))) (3 + n) v1) (11 + n) v2) (19 + n) v3) (19 + n) d)) →
            ∃ y z, fX8_readHouse (nI k) 0 fa (nI q) L (nI n) room daily drain above = some y ∧ fX12_readsHouse (nI k) (nI (q + 1)) b s f vl wr read T = some z ∧
              ((y.1 = 0 ∧ y.2.1 = fa ∧ z.1 = 1 ∧ (∃ p, q < p ∧ p ≤ k ∧ y.2.2.1 = nI p ∧ z.2.1 = nI p) ∧ ∃ v1 v2 v3 d, (0 ≤ v1.toInt ∧ v1.toInt ≤ 999) ∧ (0 ≤ v2.toInt ∧ v2.toInt ≤ 99) ∧ y.2.2.2.1 = nI (n + 1) ∧ y.2.2.2.2.1 = upd room n v1 ∧ y.2.2.2.2.2.1 = upd daily n v2 ∧ y.2.2.2.2.2.2.1 = upd drain n d ∧ pr_D (n + 1) (upd drain n d) ∧ (∀ h, h < n + 1 → y.2.2.2.2.2.2.2 h = ab_s (upd drain n d) h (n + 1)) ∧ z.2.2.2.2.2.2.2 = upd (upd (upd (upd (upd read 2 (nI (n + 1))) (3 + n) v1) (11 + n) v2) (19 + n) v3) (19 + n) d) ∨ (¬ y.1 = 0 ∧ z.1 = 0 ∧ y.1 = z.2.2.2.2.2.2.1 ∧ y.2.1 = z.2.2.1)) := by
          intro d hd3 HX HM
          obtain ⟨above', A1, A2, A3⟩ := ab_add hn (room := room) (daily := daily) hD hA v1 v2 hd3
          rcases tk_end hk hT S4 s4 m4 fa wr (nI q3) s3' f3' v3 with ⟨l10, X4, s4', f4', v4', M4⟩ | ⟨X4, a4', s4', f4', v4', M4⟩
          · have hx := HX _ X4
            have hm := HM _ M4
            dsimp only at hx hm
            rw [if_pos rfl, oz_b A1] at hx
            rw [if_neg mz_b1] at hm
            exact ⟨_, _, hx, hm, Or.inl ⟨rfl, rfl, rfl, ⟨q4 + 1, by omega, by omega, rfl, rfl⟩, v1, v2, v3, d, ⟨l1, l2⟩, ⟨l4, l5⟩, rfl, rfl, rfl, rfl, A2, A3, rfl⟩⟩
          · have hx := HX _ X4
            have hm := HM _ M4
            dsimp only at hx hm
            rw [if_neg fw_n10] at hx
            rw [if_neg mz_b0] at hm
            exact ⟨_, _, hx, hm, Or.inr ⟨fw_n10, rfl, rfl, rfl⟩⟩
        rcases Decidable.em (v3 = 9) with z | z
        · rw [if_pos z] at hMt hXt
          refine fin (-1) (Or.inl ⟨rfl, by rw [z, i9]; omega⟩) (fun y70 h70 => ?_) (fun y123 h123 => ?_)
          · rw [hXt, oz_b h70]
          · rw [hMt, oz_b h123]
        · rw [if_neg z] at hMt hXt
          rcases Decidable.em (v3 < nI n) with y | y
          · have y' : 0 ≤ v3.toInt ∧ v3.toInt < n := by rw [pz_lt, pz_nI (by omega)] at y; exact ⟨l7, y⟩
            rw [if_pos y] at hMt
            rw [oz_b (mz_has1 (by omega) y'), if_neg fw_n10] at hXt
            refine fin v3 (Or.inr ⟨rfl, y'⟩) (fun y70 h70 => ?_) (fun y123 h123 => ?_)
            · rw [hXt, oz_b h70]
            · rw [hMt, oz_b h123]
          · have y' : ¬ (0 ≤ v3.toInt ∧ v3.toInt < n) := by rw [pz_lt, pz_nI (by omega)] at y; omega
            rw [if_neg y] at hMt
            obtain ⟨x, X4⟩ := tk_endF hk E3 hT n2 (nI q3)
            rw [oz_b (mz_has0 (by omega) y'), if_pos rfl, oz_b X4] at hXt
            dsimp only at hXt
            rw [if_neg n2] at hXt
            exact ⟨_, _, hXt, hMt, Or.inr ⟨n2, rfl, rfl, rfl⟩⟩
      · obtain ⟨x, X4⟩ := tk_endF hk E3 hT hkd (nI q3)
        have hx : fX8_readHouse (nI k) 0 fa (nI q) L (nI n) room daily drain above = some (kd, nI q3, x, nI n, room, daily, drain, above) := by
          unfold fX8_readHouse
          rw [nI_1, oz_b X1]
          dsimp only
          rw [oz_b X2]
          dsimp only
          rw [oz_b s3, oz_b X3]
          dsimp only
          rw [oz_b (tk_bl1 hkd (nI q3) 2 (nI q3))]
          dsimp only
          rw [oz_b X4]
          dsimp only
          rw [if_neg hkd]
          rcases Decidable.em (v3 = 9) with z | z
          · rw [if_pos z]
          · rw [if_neg z]
            rcases Decidable.em (0 ≤ v3.toInt ∧ v3.toInt < n) with y | y
            · rw [oz_b (mz_has1 (by omega) y), if_neg fw_n10]
            · rw [oz_b (mz_has0 (by omega) y), if_pos rfl]
        have hm : fX12_readsHouse (nI k) (nI (q + 1)) b s f vl wr read T = some (0, a3', nI q3, s3', f3', v3', kd, upd (upd (upd read 2 (nI (n + 1))) (3 + n) v1) (11 + n) v2) := by
          unfold fX12_readsHouse
          rw [pz_c2, h2, if_neg n8, nI_1, pz_a3, pz_a11, pz_a19, oz_b M1]
          dsimp only
          rw [if_neg fw_n10, oz_b M2]
          dsimp only
          rw [if_neg fw_n10, oz_b M3]
          dsimp only
          rw [if_pos rfl]
        exact ⟨_, _, hx, hm, Or.inr ⟨hkd, rfl, rfl, rfl⟩⟩
    · obtain ⟨q3, _, Q3, s3, _, _⟩ := tk_skip hk E2 hT
      obtain ⟨v3, e3, E3, X3⟩ := tk_numF hk Q3 hT hkd (nI q2) 0 9
      obtain ⟨x, X4⟩ := tk_endF hk E3 hT hkd (nI q2)
      have hx : fX8_readHouse (nI k) 0 fa (nI q) L (nI n) room daily drain above = some (kd, nI q2, x, nI n, room, daily, drain, above) := by
        unfold fX8_readHouse
        rw [nI_1, oz_b X1]
        dsimp only
        rw [oz_b X2]
        dsimp only
        rw [oz_b s3, oz_b X3]
        dsimp only
        rw [oz_b (tk_bl1 hkd (nI q2) 2 (nI q3))]
        dsimp only
        rw [oz_b X4]
        dsimp only
        rw [if_neg hkd]
        rcases Decidable.em (v3 = 9) with z | z
        · rw [if_pos z]
        · rw [if_neg z]
          rcases Decidable.em (0 ≤ v3.toInt ∧ v3.toInt < n) with y | y
          · rw [oz_b (mz_has1 (by omega) y), if_neg fw_n10]
          · rw [oz_b (mz_has0 (by omega) y), if_pos rfl]
      have hm : fX12_readsHouse (nI k) (nI (q + 1)) b s f vl wr read T = some (0, a2', nI q2, s2', f2', v2', kd, upd (upd read 2 (nI (n + 1))) (3 + n) v1) := by
        unfold fX12_readsHouse
        rw [pz_c2, h2, if_neg n8, nI_1, pz_a3, pz_a11, pz_a19, oz_b M1]
        dsimp only
        rw [if_neg fw_n10, oz_b M2]
        dsimp only
        rw [if_pos rfl]
      exact ⟨_, _, hx, hm, Or.inr ⟨hkd, rfl, rfl, rfl⟩⟩
  · obtain ⟨v2, e2, E2, X2⟩ := tk_numF hk E1 hT hkd (nI q1) 0 99
    obtain ⟨q3, _, Q3, s3, _, _⟩ := tk_skip hk E2 hT
    obtain ⟨v3, e3, E3, X3⟩ := tk_numF hk Q3 hT hkd (nI q1) 0 9
    obtain ⟨x, X4⟩ := tk_endF hk E3 hT hkd (nI q1)
    have hx : fX8_readHouse (nI k) 0 fa (nI q) L (nI n) room daily drain above = some (kd, nI q1, x, nI n, room, daily, drain, above) := by
      unfold fX8_readHouse
      rw [nI_1, oz_b X1]
      dsimp only
      rw [oz_b X2]
      dsimp only
      rw [oz_b s3, oz_b X3]
      dsimp only
      rw [oz_b (tk_bl1 hkd (nI q1) 2 (nI q3))]
      dsimp only
      rw [oz_b X4]
      dsimp only
      rw [if_neg hkd]
      rcases Decidable.em (v3 = 9) with z | z
      · rw [if_pos z]
      · rw [if_neg z]
        rcases Decidable.em (0 ≤ v3.toInt ∧ v3.toInt < n) with y | y
        · rw [oz_b (mz_has1 (by omega) y), if_neg fw_n10]
        · rw [oz_b (mz_has0 (by omega) y), if_pos rfl]
    have hm : fX12_readsHouse (nI k) (nI (q + 1)) b s f vl wr read T = some (0, a', nI q1, s', f', v', kd, upd read 2 (nI (n + 1))) := by
      unfold fX12_readsHouse
      rw [pz_c2, h2, if_neg n8, nI_1, pz_a3, pz_a11, pz_a19, oz_b M1]
      dsimp only
      rw [if_pos rfl]
    exact ⟨_, _, hx, hm, Or.inr ⟨hkd, rfl, rfl, rfl⟩⟩
