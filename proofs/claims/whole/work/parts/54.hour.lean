/-! AN HOUR OF THE BREATH -/
def hz_go (pipe k : Int32) : Int32 := if k < pipe then k else pipe
theorem hz_less (pipe k : Int32) : fX12_lesser k pipe = some (hz_go pipe k) := by
  unfold fX12_lesser hz_go
  rcases Decidable.em (k < pipe) with h | h
  · rw [if_pos h, if_neg (by rw [pz_le]; rw [pz_lt] at h; omega)]
  · rw [if_neg h, if_pos (by rw [pz_le]; rw [pz_lt] at h; omega)]
theorem hz_go_b {pipe k : Int32} (h1 : 0 ≤ pipe.toInt ∧ pipe.toInt ≤ 99) (h2 : 0 ≤ k.toInt) : 0 ≤ (hz_go pipe k).toInt ∧ (hz_go pipe k).toInt ≤ 99 ∧ (hz_go pipe k).toInt ≤ k.toInt := by
  unfold hz_go
  rcases Decidable.em (k < pipe) with h | h
  · rw [if_pos h]; rw [pz_lt] at h; omega
  · rw [if_neg h]; rw [pz_lt] at h; omega
theorem hz_has1 {n j : Nat} (hj : j < n) (hn : n ≤ 8) : fX6_has (nI n) (nI j) = some 1 := by
  unfold fX6_has
  rw [if_neg (nI_pos (by omega)), if_neg (nI_ge hj (by omega))]
theorem hz_has0 {n : Nat} : fX6_has (nI n) (-1) = some 0 := by
  unfold fX6_has
  rw [if_pos (by decide)]
/-- how much leaves each house -/
theorem hz_went {n : Nat} (hn : n ≤ 8) {town t went kept : Nat → Int32} {pipe : Int32} (h1 : town 1 = pipe) (h2 : town 2 = nI n) (ht : ∀ h, h < 8 → t h = kept h) :
    ∃ o, oz_loop (fX12_hourGoes_b2 town t) oz_fuel (0, went) = some o ∧ ∀ h, h < n → o.2 h = hz_go pipe (kept h) := by
  refine oz_inv (fun i v => v.1 = nI i ∧ ∀ h, h < i → v.2 h = hz_go pipe (kept h)) _ n (by omega) ?_ ?_ ⟨rfl, fun h hh => by omega⟩
  · intro i v hi hv
    obtain ⟨v1, v2⟩ := v
    obtain ⟨e1, e2⟩ := hv
    dsimp only at e1 e2
    subst e1
    left
    refine ⟨(nI i + 1, upd v2 i (hz_go pipe (kept i))), ?_, nI_1 i, ?_⟩
    · unfold fX12_hourGoes_b2
      dsimp only
      have c0 : Int32.toNatClampNeg (nI i) = i := pz_ncl (by omega)
      simp only [pz_c2, pz_c1, h2, h1, pz_0a]
      simp only [if_neg (nI_ge hi (show n < 2 ^ 31 by omega)), if_neg (pz_ix (show i < 19 by omega) (by omega)), if_neg (pz_ix (show i < 8 by omega) (by omega))]
      simp only [c0, ht i (by omega), hz_less]
      rfl
    · intro h hh
      dsimp only
      rcases Decidable.em (h = i) with q | q
      · subst q; rw [pk_us]
      · rw [pk_un q]; exact e2 h (by omega)
  · intro v hv
    obtain ⟨v1, v2⟩ := v
    obtain ⟨e1, e2⟩ := hv
    dsimp only at e1 e2
    subst e1
    refine ⟨(nI n, v2), ?_, e2⟩
    unfold fX12_hourGoes_b2
    dsimp only
    rw [pz_c2, h2, if_pos (nI_le (Nat.le_refl n) (by omega))]
/-- the houses' drains: to the river, or to a house told earlier -/
def pr_D (n : Nat) (drain : Nat → Int32) : Prop := ∀ h, h < n → drain h = -1 ∨ ∃ j, j < h ∧ drain h = nI j
/-- all houses let go: the class house by house in its own row, the reference by what it wrote down -/
theorem hz_L {n : Nat} (hn : n ≤ 8) {town t kept drain : Nat → Int32} {pipe river : Int32} (h2 : town 2 = nI n) (hd : ∀ h, h < n → town (19 + h) = drain h) (hD : pr_D n drain) (hp : 0 ≤ pipe.toInt ∧ pipe.toInt ≤ 99)
    (o2 : Int32 × (Nat → Int32)) (hw : ∀ h, h < n → o2.2 h = hz_go pipe (kept h)) (ht : ∀ h, h < 8 → t h = kept h) (h18 : t 18 = river) (hk : ∀ h, h < n → 0 ≤ (kept h).toInt ∧ (kept h).toInt ≤ 999) (hr : 0 ≤ river.toInt ∧ river.toInt ≤ 9999999) :
    ∃ o o', oz_loop (fX10_passHour_b2 pipe (nI n) drain) oz_fuel (0, river, kept) = some o ∧ oz_loop (fX12_hourGoes_b40 town o2) oz_fuel (0, t) = some o' ∧ ((∀ h, h < 8 → o'.2 h = o.2.2 h) ∧ (∀ h, h < 8 → o'.2 (8 + h) = t (8 + h)) ∧ o'.2 16 = t 16 ∧ o'.2 17 = t 17 ∧ o'.2 18 = o.2.1 ∧ (∀ h, h < n → 0 ≤ (o.2.2 h).toInt ∧ (o.2.2 h).toInt ≤ 2000) ∧ (∀ h, n ≤ h → h < 8 → o.2.2 h = kept h) ∧ 0 ≤ o.2.1.toInt ∧ o.2.1.toInt ≤ 9999999) := by
  refine oz_rel (fun (i : Nat) (v : Int32 × Int32 × (Nat → Int32)) (w : Int32 × (Nat → Int32)) => v.1 = nI i ∧ w.1 = nI i ∧ (∀ h, h < 8 → w.2 h = v.2.2 h) ∧ (∀ h, h < 8 → w.2 (8 + h) = t (8 + h)) ∧ w.2 16 = t 16 ∧ w.2 17 = t 17 ∧ w.2 18 = v.2.1 ∧ (∀ h, h < n → 0 ≤ (v.2.2 h).toInt ∧ (v.2.2 h).toInt ≤ 999 + 99 * (i : Int)) ∧ (∀ h, i ≤ h → h < 8 → v.2.2 h = kept h) ∧ (∀ h, n ≤ h → h < 8 → v.2.2 h = kept h) ∧ 0 ≤ v.2.1.toInt ∧ v.2.1.toInt ≤ 9999999)
    (fun (o : Int32 × Int32 × (Nat → Int32)) (o' : Int32 × (Nat → Int32)) => (∀ h, h < 8 → o'.2 h = o.2.2 h) ∧ (∀ h, h < 8 → o'.2 (8 + h) = t (8 + h)) ∧ o'.2 16 = t 16 ∧ o'.2 17 = t 17 ∧ o'.2 18 = o.2.1 ∧ (∀ h, h < n → 0 ≤ (o.2.2 h).toInt ∧ (o.2.2 h).toInt ≤ 2000) ∧ (∀ h, n ≤ h → h < 8 → o.2.2 h = kept h) ∧ 0 ≤ o.2.1.toInt ∧ o.2.1.toInt ≤ 9999999) n (by omega) ?_ ?_ ⟨rfl, rfl, ht, fun _ _ => rfl, rfl, rfl, h18, fun h hh => by have := hk h hh; dsimp only; omega, fun _ _ _ => rfl, fun _ _ _ => rfl, hr⟩
  · intro i v w hi hv
    obtain ⟨v1, v2, v3⟩ := v
    obtain ⟨w1, w2⟩ := w
    obtain ⟨e1, e2, e3, e4, e5, e6, e7, e8, e9, e10, e11⟩ := hv
    dsimp only at e1 e2 e3 e4 e5 e6 e7 e8 e9 e10 e11
    subst e1 e2
    have k1 : v3 i = kept i := e9 i (Nat.le_refl i) (by omega)
    have k2 : w2 i = v3 i := e3 i (by omega)
    have gb := hz_go_b hp (hk i hi).1
    have kb := e8 i hi
    have sb : (v3 i - hz_go pipe (kept i)).toInt = (v3 i).toInt - (hz_go pipe (kept i)).toInt := pz_sub (by rw [k1]; have := hk i hi; omega) (by rw [k1]; have := hk i hi; omega)
    have fx : ∀ y : Int32, fX6_has (nI n) (drain i) = some y → fX10_passHour_b2 pipe (nI n) drain (nI i, v2, v3) = (if y = 0 then (Option.bind (fX10_addToRiver v2 (hz_go pipe (kept i))) (fun y67 => some (.inl (nI i + 1, y67, upd v3 i (v3 i - hz_go pipe (kept i)))))) else (if (drain i < 0 ∨ 8 ≤ Int32.toNatClampNeg (drain i)) then none else some (.inl (nI i + 1, v2, upd (upd v3 i (v3 i - hz_go pipe (kept i))) (Int32.toNatClampNeg (drain i)) (upd v3 i (v3 i - hz_go pipe (kept i)) (Int32.toNatClampNeg (drain i)) + hz_go pipe (kept i)))))) := by
      intro y hy
      unfold fX10_passHour_b2
      dsimp only
      rw [if_neg (nI_ge hi (by omega)), if_neg (pz_ix (by omega) (by omega)), pz_ncl (by omega), oz_b hy]
      simp only [k1]
      rfl
    left
    rcases hD i hi with q | ⟨j, hj, q⟩
    · -- to the river
      refine ⟨(nI i + 1, dz_cap (v2 + hz_go pipe (kept i)), upd v3 i (v3 i - hz_go pipe (kept i))), (nI i + 1, upd (upd w2 i (w2 i - hz_go pipe (kept i))) 18 (dz_cap (v2 + hz_go pipe (kept i)))), ?_, ?_, nI_1 i, nI_1 i, ?_, ?_, ?_, ?_, ?_, ?_, ?_, ?_, ?_⟩
      · rw [fx 0 (by rw [q]; exact hz_has0), if_pos rfl, dz_river]; rfl
      · unfold fX12_hourGoes_b40
        dsimp only
        have c0 : Int32.toNatClampNeg (nI i) = i := pz_ncl (by omega)
        have c19 : Int32.toNatClampNeg (nI (19 + i)) = 19 + i := pz_ncl (by omega)
        simp only [pz_c2, h2, pz_a19, pz_c18, pz_0a]
        simp only [if_neg (nI_ge hi (show n < 2 ^ 31 by omega)), if_neg (pz_ix (show 19 + i < 27 by omega) (by omega)), if_neg (pz_ix (show i < 19 by omega) (by omega)), if_neg (pz_ix (show i < 8 by omega) (by omega))]
        simp only [c0, c19, hd i hi]
        rw [if_pos q, hw i hi, pk_un (show 18 ≠ i by omega), e7, dz_lesser]
        rfl
      · intro h hh
        dsimp only
        rw [pk_un (show h ≠ 18 by omega)]
        rcases Decidable.em (h = i) with z | z
        · subst z; rw [pk_us, pk_us, k2]
        · rw [pk_un z, pk_un z]; exact e3 h hh
      · intro h hh
        dsimp only
        rw [pk_un (show 8 + h ≠ 18 by omega), pk_un (show 8 + h ≠ i by omega)]; exact e4 h hh
      · dsimp only
        rw [pk_un (show 16 ≠ 18 by omega), pk_un (show 16 ≠ i by omega)]; exact e5
      · dsimp only
        rw [pk_un (show 17 ≠ 18 by omega), pk_un (show 17 ≠ i by omega)]; exact e6
      · dsimp only
        rw [pk_us]
      · intro h hh
        dsimp only
        rcases Decidable.em (h = i) with z | z
        · subst z; rw [pk_us, sb, k1]; have := hk h hh; omega
        · rw [pk_un z]; have := e8 h hh; omega
      · intro h h1 h3
        dsimp only
        rw [pk_un (show h ≠ i by omega)]; exact e9 h (by omega) h3
      · intro h h1 h3
        dsimp only
        rw [pk_un (show h ≠ i by omega)]; exact e10 h h1 h3
      · dsimp only
        exact dz_cap_b (by rw [pz_add (by omega) (by omega)]; omega)
    · -- to a house told earlier
      have jc : Int32.toNatClampNeg (drain i) = j := by rw [q]; exact pz_ncl (by omega)
      have vj : (v3 j + hz_go pipe (kept i)).toInt = (v3 j).toInt + (hz_go pipe (kept i)).toInt := by have := e8 j (by omega); exact pz_add (by omega) (by omega)
      refine ⟨(nI i + 1, v2, upd (upd v3 i (v3 i - hz_go pipe (kept i))) j (v3 j + hz_go pipe (kept i))), (nI i + 1, upd (upd w2 i (w2 i - hz_go pipe (kept i))) j (w2 j + hz_go pipe (kept i))), ?_, ?_, nI_1 i, nI_1 i, ?_, ?_, ?_, ?_, ?_, ?_, ?_, ?_, ?_⟩
      · have n3 : ¬ (drain i < 0 ∨ 8 ≤ j) := by
          rw [q]; intro z
          rcases z with z | z
          · exact nI_pos (by omega) z
          · omega
        rw [fx 1 (by rw [q]; exact hz_has1 (by omega) hn), if_neg (show ¬ (1 : Int32) = 0 by decide)]
        simp only [jc]
        rw [if_neg n3, pk_un (show j ≠ i by omega)]
      · unfold fX12_hourGoes_b40
        dsimp only
        have n1 : ¬ drain i = -1 := by
          rw [q]; intro z
          have z2 := congrArg Int32.toInt z
          rw [pz_nI (by omega), show (-1 : Int32).toInt = -1 by decide] at z2
          omega
        have n2 : ¬ (drain i < 0 ∨ 19 ≤ j) := by
          rw [q]; intro z
          rcases z with z | z
          · exact nI_pos (by omega) z
          · omega
        have c0 : Int32.toNatClampNeg (nI i) = i := pz_ncl (by omega)
        have c19 : Int32.toNatClampNeg (nI (19 + i)) = 19 + i := pz_ncl (by omega)
        simp only [pz_c2, h2, pz_a19, pz_0a]
        simp only [if_neg (nI_ge hi (show n < 2 ^ 31 by omega)), if_neg (pz_ix (show 19 + i < 27 by omega) (by omega)), if_neg (pz_ix (show i < 19 by omega) (by omega)), if_neg (pz_ix (show i < 8 by omega) (by omega))]
        simp only [c0, c19, hd i hi]
        rw [if_neg n1]
        simp only [jc]
        rw [if_neg n2, hw i hi, pk_un (show j ≠ i by omega)]
      · intro h hh
        dsimp only
        rcases Decidable.em (h = j) with y | y
        · subst y; rw [pk_us, pk_us, e3 h hh]
        · rw [pk_un y, pk_un y]
          rcases Decidable.em (h = i) with z | z
          · subst z; rw [pk_us, pk_us, k2]
          · rw [pk_un z, pk_un z]; exact e3 h hh
      · intro h hh
        dsimp only
        rw [pk_un (show 8 + h ≠ j by omega), pk_un (show 8 + h ≠ i by omega)]; exact e4 h hh
      · dsimp only
        rw [pk_un (show 16 ≠ j by omega), pk_un (show 16 ≠ i by omega)]; exact e5
      · dsimp only
        rw [pk_un (show 17 ≠ j by omega), pk_un (show 17 ≠ i by omega)]; exact e6
      · dsimp only
        rw [pk_un (show 18 ≠ j by omega), pk_un (show 18 ≠ i by omega)]; exact e7
      · intro h hh
        dsimp only
        rcases Decidable.em (h = j) with y | y
        · subst y; rw [pk_us, vj]; have := e8 h hh; omega
        · rw [pk_un y]
          rcases Decidable.em (h = i) with z | z
          · subst z; rw [pk_us, sb, k1]; have := hk h hh; omega
          · rw [pk_un z]; have := e8 h hh; omega
      · intro h h1 h3
        dsimp only
        rw [pk_un (show h ≠ j by omega), pk_un (show h ≠ i by omega)]; exact e9 h (by omega) h3
      · intro h h1 h3
        dsimp only
        rw [pk_un (show h ≠ j by omega), pk_un (show h ≠ i by omega)]; exact e10 h h1 h3
      · exact e11
  · intro v w hv
    obtain ⟨v1, v2, v3⟩ := v
    obtain ⟨w1, w2⟩ := w
    obtain ⟨e1, e2, e3, e4, e5, e6, e7, e8, e9, e10, e11⟩ := hv
    dsimp only at e1 e2 e3 e4 e5 e6 e7 e8 e9 e10 e11
    subst e1 e2
    refine ⟨(nI n, v2, v3), (nI n, w2), ?_, ?_, e3, e4, e5, e6, e7, ?_, e10, e11⟩
    · unfold fX10_passHour_b2
      dsimp only
      rw [if_pos (nI_le (Nat.le_refl n) (by omega))]
    · unfold fX12_hourGoes_b40
      dsimp only
      rw [pz_c2, h2, if_pos (nI_le (Nat.le_refl n) (by omega))]
    · intro h hh
      have := e8 h hh
      dsimp only
      omega
/-- the reference's spilling, house by house -/
theorem hz_spillM {n : Nat} (hn : n ≤ 8) {town t room k : Nat → Int32} (h2 : town 2 = nI n) (hr : ∀ h, h < n → town (3 + h) = room h) (hk : ∀ h, h < 8 → t h = k h) (hb : ∀ h, h < n → -2147483648 ≤ (k h).toInt - (room h).toInt ∧ (k h).toInt - (room h).toInt < 2147483648) :
    ∃ o, oz_loop (fX12_hourGoes_b124 town) oz_fuel (0, t) = some o ∧ ((∀ h, h < 8 → o.2 h = if h < n then dz_lo room k h else k h) ∧ (∀ h, h < 8 → o.2 (8 + h) = t (8 + h)) ∧ o.2 16 = t 16 ∧ o.2 17 = dz_sp room k (t 17) n ∧ o.2 18 = t 18) := by
  refine oz_inv (fun i v => v.1 = nI i ∧ (∀ h, h < 8 → v.2 h = if h < i then dz_lo room k h else k h) ∧ (∀ h, h < 8 → v.2 (8 + h) = t (8 + h)) ∧ v.2 16 = t 16 ∧ v.2 17 = dz_sp room k (t 17) i ∧ v.2 18 = t 18) _ n (by omega) ?_ ?_ ⟨rfl, fun h hh => (hk h hh).trans (if_neg (by omega)).symm, fun _ _ => rfl, rfl, rfl, rfl⟩
  · intro i v hi hv
    obtain ⟨v1, v2⟩ := v
    obtain ⟨e1, e2, e3, e4, e5, e6⟩ := hv
    dsimp only at e1 e2 e3 e4 e5 e6
    subst e1
    have e8 : v2 i = k i := (e2 i (by omega)).trans (if_neg (by omega))
    obtain ⟨t', f1, f2, f3, f4⟩ := dz_spillsAt (town := town) (t := v2) (h := i) (by omega) (by rw [e8, hr i hi]; exact (hb i hi).1) (by rw [e8, hr i hi]; exact (hb i hi).2)
    rw [e8, hr i hi] at f3 f4
    left
    refine ⟨(nI i + 1, t'), ?_, nI_1 i, ?_, ?_, ?_, ?_, ?_⟩
    · unfold fX12_hourGoes_b124
      dsimp only
      rw [pz_c2, h2, if_neg (nI_ge hi (by omega)), oz_b f1]
    · intro h hh
      dsimp only
      rcases Decidable.em (h = i) with q | q
      · subst q
        rw [f3, if_pos (show h < h + 1 by omega)]; rfl
      · rw [f2 h q (by omega), e2 h hh]
        rcases Nat.lt_or_ge h i with y | y
        · rw [if_pos (show h < i + 1 by omega), if_pos y]
        · rw [if_neg (show ¬ h < i + 1 by omega), if_neg (show ¬ h < i by omega)]
    · intro h hh
      dsimp only
      rw [f2 (8 + h) (by omega) (by omega)]; exact e3 h hh
    · dsimp only
      rw [f2 16 (by omega) (by omega)]; exact e4
    · dsimp only
      rw [f4, e5, pz_as]; rfl
    · dsimp only
      rw [f2 18 (by omega) (by omega)]; exact e6
  · intro v hv
    obtain ⟨v1, v2⟩ := v
    obtain ⟨e1, e2, e3, e4, e5, e6⟩ := hv
    dsimp only at e1 e2 e3 e4 e5 e6
    subst e1
    refine ⟨(nI n, v2), ?_, e2, e3, e4, e5, e6⟩
    unfold fX12_hourGoes_b124
    dsimp only
    rw [pz_c2, h2, if_pos (nI_le (Nat.le_refl n) (by omega))]
theorem hz_hour {n : Nat} (hn : n ≤ 8) {pipe : Int32} {room daily drain town : Nat → Int32} (h1 : town 1 = pipe) (h2 : town 2 = nI n) (hr : ∀ h, h < n → town (3 + h) = room h) (hd : ∀ h, h < n → town (19 + h) = drain h) (hR : pr_R n room daily) (hDr : pr_D n drain) (hp : 0 ≤ pipe.toInt ∧ pipe.toInt ≤ 99)
    {D : Int} {kept away t : Nat → Int32} {days spilled river : Int32} (hS : pr_S kept away days spilled river t) (hB : pr_B n room D kept away days spilled river) (went : Nat → Int32) :
    ∃ o t', fX10_passHour spilled river kept pipe (nI n) room drain = some o ∧ fX12_hourGoes town went t = some t' ∧ pr_S o.2.2 away days o.1 o.2.1 t'.2 ∧ pr_B n room D o.2.2 away days o.1 o.2.1 := by
  obtain ⟨s1, s2, s3, s4, s5⟩ := hS
  obtain ⟨b1, b2, b3, b4, b5, b6⟩ := hB
  obtain ⟨w, w1, w2⟩ := hz_went (went := went) hn h1 h2 s1
  obtain ⟨o, o', o1, o2, o3, o4, o5, o6, o7, o8, o9, o10⟩ := hz_L hn h2 hd hDr hp w w2 s1 s5 (fun h hh => by have := b1 h hh; have := (hR h hh).1; omega) b6
  obtain ⟨y, y1, y2, y3⟩ := dz_spill hn room o.2.2 spilled
  obtain ⟨q, q1, q2, q3, q4, q5, q6⟩ := hz_spillM (t := o'.2) (k := o.2.2) hn h2 hr o3 (fun h hh => by have := o8 h hh; have := (hR h hh).1; omega)
  refine ⟨(y.1, o.2.1, y.2), (w.2, q.2), ?_, ?_, ?_, ?_⟩
  · unfold fX10_passHour
    rw [oz_b o1, oz_b y1]
  · unfold fX12_hourGoes
    rw [oz_b w1, oz_b o2, oz_b q1]
  · refine ⟨?_, ?_, ?_, ?_, ?_⟩
    · intro h hh
      dsimp only
      rw [q2 h hh, y3 h hh]
    · intro h hh
      dsimp only
      rw [q3 h hh, o4 h hh]; exact s2 h hh
    · dsimp only
      rw [q4, o5]; exact s3
    · dsimp only
      rw [q5, o6, s4, y2]
    · dsimp only
      rw [q6, o7]
  · refine ⟨?_, ?_, b3, b4, ?_, ?_⟩
    · intro h hh
      have r1 := (hR h hh).1
      have r2 := o8 h hh
      dsimp only
      rw [y3 h (by omega), if_pos hh]
      unfold dz_lo
      rcases Decidable.em (o.2.2 h ≤ room h) with z | z
      · rw [if_pos z]; rw [pz_le] at z; omega
      · rw [if_neg z]; omega
    · intro h h3 h4
      dsimp only
      rw [y3 h h4, if_neg (by omega), o9 h h3 h4]; exact b2 h h3 h4
    · dsimp only
      rw [y2]; exact dz_sp_b b5 n (fun h hh => by have := o8 h hh; have := (hR h hh).1; omega)
    · exact o10
