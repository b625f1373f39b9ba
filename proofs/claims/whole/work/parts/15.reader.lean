def fX8_take (v_length : Int32) (v_letters : Nat → Int32) (a1 : Int32) : Option (Int32 × Int32 × (Nat → Int32)) :=
  if v_length < 200 then (if (v_length < 0 ∨ 200 ≤ Int32.toNatClampNeg v_length) then none else some (1, (v_length + 1), (upd v_letters (Int32.toNatClampNeg v_length) a1))) else (some (0, v_length, v_letters))
def rmX8_take : Room := { frames := 0, cells := 0, slots := 0, locals := 0 }
set_option maxHeartbeats 4000000 in
set_option maxRecDepth 100000 in
theorem tX8_take (l : Launch) (dC : Nat → ClassId) (dI : Nat → Nat → Nat) (cI cZ : ClassId) (q_letters q_this : Nat) (sz : Nat) (v_faultKind : Int32) (v_faultAt : Int32) (v_at : Int32) (v_length : Int32) (v_letters : Nat → Int32) (a1 : Int32) (out : Int32 × Int32 × (Nat → Int32)) (hrun : fX8_take v_length v_letters a1 = some out) : Met l yX8_take wsX8_take rmX8_take (va_Pc [.ref q_this, .int a1] (fun U => U.heap.size = sz ∧ va_P (dC, dI) vwCl [(q_this, .inr (8, [.ref q_letters, .int v_length, .int v_faultKind, .int v_faultAt, .int v_at])), (q_letters, .inl (cI, 200, .inl v_letters))] U.heap ∧ va_K (dC, dI) vwCl [(cI, .int), (cZ, .boolean)] U ∧ va_D (fun _ => True) [(q_this, .inr (8, [.ref q_letters, .int v_length, .int v_faultKind, .int v_faultAt, .int v_at])), (q_letters, .inl (cI, 200, .inl v_letters))])) (va_Qi (fun (r : Int32) (_ : Unit) => r = out.1) (fun _ t => va_P (dC, dI) vwCl [(q_this, .inr (8, [.ref q_letters, .int out.2.1, .int v_faultKind, .int v_faultAt, .int v_at])), (q_letters, .inl (cI, 200, .inl out.2.2))] t.heap ∧ va_K (dC, dI) vwCl [(cI, .int), (cZ, .boolean)] t ∧ va_D (va_A [(q_this, .inr (8, [.ref q_letters, .int v_length, .int v_faultKind, .int v_faultAt, .int v_at])), (q_letters, .inl (cI, 200, .inl v_letters))] sz) [(q_this, .inr (8, [.ref q_letters, .int out.2.1, .int v_faultKind, .int v_faultAt, .int v_at])), (q_letters, .inl (cI, 200, .inl out.2.2))]) (va_A [(q_this, .inr (8, [.ref q_letters, .int v_length, .int v_faultKind, .int v_faultAt, .int v_at])), (q_letters, .inl (cI, 200, .inl v_letters))] sz)) 0 0 (va_A [(q_this, .inr (8, [.ref q_letters, .int v_length, .int v_faultKind, .int v_faultAt, .int v_at])), (q_letters, .inl (cI, 200, .inl v_letters))] sz) := by
  refine Met.ofW (cc := cX8_take) (maxL := 2) (ret := (some .boolean)) (by decide) rfl ?_
  intro p e s m args below meth c s₁ B hml hv
  obtain ⟨rfl, hsz, hP, hK, hD0⟩ := hv
  have hx := B.exec
  have hb := B.bytes
  have hr := B.returns
  have hts := atoms_spec (ws := wsX8_take) B.pre
  have hown : s.vm.findClass RX8 = some m.cls := findClass_of_methodNamed B.named
  have hlocks := B.notSynchronized
  subst hsz
  have hD := hD0.self (sz := s.heap.size)
  generalize hAe : va_A [(q_this, .inr (8, [.ref q_letters, .int v_length, .int v_faultKind, .int v_faultAt, .int v_at])), (q_letters, .inl (cI, 200, .inl v_letters))] s.heap.size = A at hD ⊢
  have hA : ∀ q : Nat, s.heap.size ≤ q → A q := fun q h => by rw [← hAe]; exact Or.inr h
  have hS : va_S A s.heap s.heap [] := va_S.rf
  have hl := lv_entry ([.ref q_this, .int a1]) (n := 2) (Nat.le_of_ble_eq_true rfl)
  rw [lg_entry_eq]
  generalize (lg_sl ([.ref q_this, .int a1]) ++ List.replicate (2 - (lg_sl ([.ref q_this, .int a1])).length) Slot.unset).toArray = ls at hl ⊢
  have hl : lv_has ls 2 [(0, .ref q_this), (1, .int a1)] := hl
  unfold fX8_take at hrun
  have hk15 := hts (.fieldLink RX8 15 "LentDrains$Reader" "length" "I") (by decide +kernel)
  have hiX8 : ∀ w ∈ wsX80, w ∈ wsX8_take := by decide +kernel
  have hk11 := hts (.fieldLink RX8 11 "LentDrains$Reader" "letters" "[I") (by decide +kernel)
  refine oz_genQ (fun Q hQ => ?_)
  refine lv_aload_n hx hb dX8_take_0 rfl (lv_at hl 0 rfl) ?_
  refine va_get (D := (dC, dI)) (ci := 8) (v := .int v_length) (C := RX8) (T := TX8) (N := 5) hx hb hts hiX8 hown hK hP 0 rfl rfl 1 (by decide) hk15 (fun _ h9 => h9) rfl dX8_take_1 ?_
  refine lv_sipush (v := 200) hx hb dX8_take_4 (by decide) ?_
  refine lv_icmp_lt (tgt := 12) hx hb dX8_take_7 (by decide) (fun c1 => ?_) (fun c1 => ?_)
  · have hrun := oz_t hrun c1
    refine lv_aload_n hx hb dX8_take_12 rfl (lv_at hl 0 rfl) ?_
    refine va_get (D := (dC, dI)) (ci := 8) (v := .ref q_letters) (C := RX8) (T := TX8) (N := 5) hx hb hts hiX8 hown hK hP 0 rfl rfl 0 (by decide) hk11 (fun _ h9 => h9) rfl dX8_take_13 ?_
    refine lv_aload_n hx hb dX8_take_16 rfl (lv_at hl 0 rfl) ?_
    refine va_get (D := (dC, dI)) (ci := 8) (v := .int v_length) (C := RX8) (T := TX8) (N := 5) hx hb hts hiX8 hown hK hP 0 rfl rfl 1 (by decide) hk15 (fun _ h9 => h9) rfl dX8_take_17 ?_
    refine lv_iload_n hx hb dX8_take_20 rfl (lv_at hl 1 rfl) ?_
    obtain ⟨c2, hrun⟩ := oz_chk hrun
    refine va_iast hx hb hK hP hD hS 1 0 rfl rfl c2 dX8_take_21 (fun H locs hP hD hS => ?_)
    have hP : va_P (dC, dI) vwCl [(q_this, .inr (8, [.ref q_letters, .int v_length, .int v_faultKind, .int v_faultAt, .int v_at])), (q_letters, .inl (cI, 200, .inl (upd v_letters (Int32.toNatClampNeg v_length) a1)))] H := hP
    have hD : va_D A [(q_this, .inr (8, [.ref q_letters, .int v_length, .int v_faultKind, .int v_faultAt, .int v_at])), (q_letters, .inl (cI, 200, .inl (upd v_letters (Int32.toNatClampNeg v_length) a1)))] := hD
    refine lv_aload_n hx hb dX8_take_22 rfl (lv_at hl 0 rfl) ?_
    refine lv_dup hx hb dX8_take_23 rfl ?_
    refine va_get (D := (dC, dI)) (ci := 8) (v := .int v_length) (C := RX8) (T := TX8) (N := 5) hx hb hts hiX8 hown hK hP 0 rfl rfl 1 (by decide) hk15 (fun _ h9 => h9) rfl dX8_take_24 ?_
    refine lv_iconst (v := 1) hx hb dX8_take_27 (by decide) ?_
    refine lv_iadd hx hb dX8_take_28 ?_
    refine va_put (D := (dC, dI)) (ci := 8) (v := .int (v_length + 1)) (ty := .int) (C := RX8) (T := TX8) (N := 5) hx hb hts hiX8 tyX8 tyX8_ok nmX8 hown hK hP hD hS 0 rfl rfl 1 (by decide) hk15 (fun _ h9 => h9) rfl (by decide +kernel) rfl rfl (Nat.le_of_ble_eq_true rfl) dX8_take_29 (fun H locs hP hD hS => ?_)
    have hP : va_P (dC, dI) vwCl [(q_this, .inr (8, [.ref q_letters, .int (v_length + 1), .int v_faultKind, .int v_faultAt, .int v_at])), (q_letters, .inl (cI, 200, .inl (upd v_letters (Int32.toNatClampNeg v_length) a1)))] H := hP
    have hD : va_D A [(q_this, .inr (8, [.ref q_letters, .int (v_length + 1), .int v_faultKind, .int v_faultAt, .int v_at])), (q_letters, .inl (cI, 200, .inl (upd v_letters (Int32.toNatClampNeg v_length) a1)))] := hD
    refine lv_iconst (v := 1) hx hb dX8_take_32 (by decide) ?_
    have ho9 := Option.some.inj hrun
    subst ho9
    have hP9 := hP.sub (ws' := [(q_this, .inr (8, [.ref q_letters, .int (v_length + 1), .int v_faultKind, .int v_faultAt, .int v_at])), (q_letters, .inl (cI, 200, .inl (upd v_letters (Int32.toNatClampNeg v_length) a1)))]) [0, 1] rfl
    have hD9 := hD.sub (ws' := [(q_this, .inr (8, [.ref q_letters, .int (v_length + 1), .int v_faultKind, .int v_faultAt, .int v_at])), (q_letters, .inl (cI, 200, .inl (upd v_letters (Int32.toNatClampNeg v_length) a1)))]) [0, 1] (by decide) rfl
    rw [hQ]
    exact W.zret (v := 1) (ty := .boolean) hx hb hr rfl (fun t ht hW => ⟨⟨1, (), rfl, rfl, by rw [ht]; exact hP9, va_K.moved hW.alike hK, hD9⟩, hS.F ht⟩) hS.2.2 dX8_take_33
  · have hrun := oz_f hrun c1
    refine lv_iconst (v := 0) hx hb dX8_take_10 (by decide) ?_
    have ho9 := Option.some.inj hrun
    subst ho9
    have hP9 := hP.sub (ws' := [(q_this, .inr (8, [.ref q_letters, .int v_length, .int v_faultKind, .int v_faultAt, .int v_at])), (q_letters, .inl (cI, 200, .inl v_letters))]) [0, 1] rfl
    have hD9 := hD.sub (ws' := [(q_this, .inr (8, [.ref q_letters, .int v_length, .int v_faultKind, .int v_faultAt, .int v_at])), (q_letters, .inl (cI, 200, .inl v_letters))]) [0, 1] (by decide) rfl
    rw [hQ]
    exact W.zret (v := 0) (ty := .boolean) hx hb hr rfl (fun t ht hW => ⟨⟨0, (), rfl, rfl, by rw [ht]; exact hP9, va_K.moved hW.alike hK, hD9⟩, hS.F ht⟩) hS.2.2 dX8_take_11
def fX8_empty (v_length : Int32) : Option (Int32) :=
  some (0)
def rmX8_empty : Room := { frames := 0, cells := 0, slots := 0, locals := 0 }
set_option maxHeartbeats 4000000 in
set_option maxRecDepth 100000 in
theorem tX8_empty (l : Launch) (dC : Nat → ClassId) (dI : Nat → Nat → Nat) (cI cZ : ClassId) (q_letters q_this : Nat) (sz : Nat) (v_faultKind : Int32) (v_faultAt : Int32) (v_at : Int32) (v_length : Int32) (out : Int32) (hrun : fX8_empty v_length = some out) : Met l yX8_empty wsX8_empty rmX8_empty (va_Pc [.ref q_this] (fun U => U.heap.size = sz ∧ va_P (dC, dI) vwCl [(q_this, .inr (8, [.ref q_letters, .int v_length, .int v_faultKind, .int v_faultAt, .int v_at]))] U.heap ∧ va_K (dC, dI) vwCl [(cI, .int), (cZ, .boolean)] U ∧ va_D (fun _ => True) [(q_this, .inr (8, [.ref q_letters, .int v_length, .int v_faultKind, .int v_faultAt, .int v_at]))])) (va_Qv (fun _ : Unit => True) (fun _ t => va_P (dC, dI) vwCl [(q_this, .inr (8, [.ref q_letters, .int out, .int v_faultKind, .int v_faultAt, .int v_at]))] t.heap ∧ va_K (dC, dI) vwCl [(cI, .int), (cZ, .boolean)] t ∧ va_D (va_A [(q_this, .inr (8, [.ref q_letters, .int v_length, .int v_faultKind, .int v_faultAt, .int v_at]))] sz) [(q_this, .inr (8, [.ref q_letters, .int out, .int v_faultKind, .int v_faultAt, .int v_at]))]) (va_A [(q_this, .inr (8, [.ref q_letters, .int v_length, .int v_faultKind, .int v_faultAt, .int v_at]))] sz)) 0 0 (va_A [(q_this, .inr (8, [.ref q_letters, .int v_length, .int v_faultKind, .int v_faultAt, .int v_at]))] sz) := by
  refine Met.ofW (cc := cX8_empty) (maxL := 1) (ret := none) (by decide) rfl ?_
  intro p e s m args below meth c s₁ B hml hv
  obtain ⟨rfl, hsz, hP, hK, hD0⟩ := hv
  have hx := B.exec
  have hb := B.bytes
  have hr := B.returns
  have hts := atoms_spec (ws := wsX8_empty) B.pre
  have hown : s.vm.findClass RX8 = some m.cls := findClass_of_methodNamed B.named
  have hlocks := B.notSynchronized
  subst hsz
  have hD := hD0.self (sz := s.heap.size)
  generalize hAe : va_A [(q_this, .inr (8, [.ref q_letters, .int v_length, .int v_faultKind, .int v_faultAt, .int v_at]))] s.heap.size = A at hD ⊢
  have hA : ∀ q : Nat, s.heap.size ≤ q → A q := fun q h => by rw [← hAe]; exact Or.inr h
  have hS : va_S A s.heap s.heap [] := va_S.rf
  have hl := lv_entry ([.ref q_this]) (n := 1) (Nat.le_of_ble_eq_true rfl)
  rw [lg_entry_eq]
  generalize (lg_sl ([.ref q_this]) ++ List.replicate (1 - (lg_sl ([.ref q_this])).length) Slot.unset).toArray = ls at hl ⊢
  have hl : lv_has ls 1 [(0, .ref q_this)] := hl
  unfold fX8_empty at hrun
  have hk15 := hts (.fieldLink RX8 15 "LentDrains$Reader" "length" "I") (by decide +kernel)
  have hiX8 : ∀ w ∈ wsX80, w ∈ wsX8_empty := by decide +kernel
  refine oz_genQ (fun Q hQ => ?_)
  refine lv_aload_n hx hb dX8_empty_0 rfl (lv_at hl 0 rfl) ?_
  refine lv_iconst (v := 0) hx hb dX8_empty_1 (by decide) ?_
  refine va_put (D := (dC, dI)) (ci := 8) (v := .int 0) (ty := .int) (C := RX8) (T := TX8) (N := 5) hx hb hts hiX8 tyX8 tyX8_ok nmX8 hown hK hP hD hS 0 rfl rfl 1 (by decide) hk15 (fun _ h9 => h9) rfl (by decide +kernel) rfl rfl (Nat.le_of_ble_eq_true rfl) dX8_empty_2 (fun H locs hP hD hS => ?_)
  have hP : va_P (dC, dI) vwCl [(q_this, .inr (8, [.ref q_letters, .int 0, .int v_faultKind, .int v_faultAt, .int v_at]))] H := hP
  have hD : va_D A [(q_this, .inr (8, [.ref q_letters, .int 0, .int v_faultKind, .int v_faultAt, .int v_at]))] := hD
  have ho9 := Option.some.inj hrun
  subst ho9
  have hP9 := hP.sub (ws' := [(q_this, .inr (8, [.ref q_letters, .int 0, .int v_faultKind, .int v_faultAt, .int v_at]))]) [0] rfl
  have hD9 := hD.sub (ws' := [(q_this, .inr (8, [.ref q_letters, .int 0, .int v_faultKind, .int v_faultAt, .int v_at]))]) [0] (by decide) rfl
  rw [hQ]
  exact W.vret hx hb hr (fun t ht hW => ⟨⟨(), rfl, trivial, by rw [ht]; exact hP9, va_K.moved hW.alike hK, hD9⟩, hS.F ht⟩) hS.2.2 dX8_empty_5
def fX8_skipBlanks_b0 (v_length : Int32) (v_letters : Nat → Int32) (w0 : Int32) : Option ((Int32) ⊕ (Int32)) :=
  if v_length ≤ w0 then (some (.inr w0)) else (if (w0 < 0 ∨ 200 ≤ Int32.toNatClampNeg w0) then none else if (v_letters (Int32.toNatClampNeg w0)) = 32 then (some (.inl (w0 + 1))) else (some (.inr w0)))
def fX8_skipBlanks (v_length : Int32) (v_at : Int32) (v_letters : Nat → Int32) : Option (Int32) :=
  Option.bind (oz_loop (fX8_skipBlanks_b0 v_length v_letters) oz_fuel v_at) (fun o0 => some o0)
def rmX8_skipBlanks : Room := { frames := 0, cells := 0, slots := 0, locals := 0 }
set_option maxHeartbeats 4000000 in
set_option maxRecDepth 100000 in
theorem tX8_skipBlanks (l : Launch) (dC : Nat → ClassId) (dI : Nat → Nat → Nat) (cI cZ : ClassId) (q_letters q_this : Nat) (sz : Nat) (v_faultKind : Int32) (v_faultAt : Int32) (v_length : Int32) (v_at : Int32) (v_letters : Nat → Int32) (out : Int32) (hrun : fX8_skipBlanks v_length v_at v_letters = some out) : Met l yX8_skipBlanks wsX8_skipBlanks rmX8_skipBlanks (va_Pc [.ref q_this] (fun U => U.heap.size = sz ∧ va_P (dC, dI) vwCl [(q_this, .inr (8, [.ref q_letters, .int v_length, .int v_faultKind, .int v_faultAt, .int v_at])), (q_letters, .inl (cI, 200, .inl v_letters))] U.heap ∧ va_K (dC, dI) vwCl [(cI, .int), (cZ, .boolean)] U ∧ va_D (fun _ => True) [(q_this, .inr (8, [.ref q_letters, .int v_length, .int v_faultKind, .int v_faultAt, .int v_at])), (q_letters, .inl (cI, 200, .inl v_letters))])) (va_Qv (fun _ : Unit => True) (fun _ t => va_P (dC, dI) vwCl [(q_this, .inr (8, [.ref q_letters, .int v_length, .int v_faultKind, .int v_faultAt, .int out])), (q_letters, .inl (cI, 200, .inl v_letters))] t.heap ∧ va_K (dC, dI) vwCl [(cI, .int), (cZ, .boolean)] t ∧ va_D (va_A [(q_this, .inr (8, [.ref q_letters, .int v_length, .int v_faultKind, .int v_faultAt, .int v_at])), (q_letters, .inl (cI, 200, .inl v_letters))] sz) [(q_this, .inr (8, [.ref q_letters, .int v_length, .int v_faultKind, .int v_faultAt, .int out])), (q_letters, .inl (cI, 200, .inl v_letters))]) (va_A [(q_this, .inr (8, [.ref q_letters, .int v_length, .int v_faultKind, .int v_faultAt, .int v_at])), (q_letters, .inl (cI, 200, .inl v_letters))] sz)) 0 0 (va_A [(q_this, .inr (8, [.ref q_letters, .int v_length, .int v_faultKind, .int v_faultAt, .int v_at])), (q_letters, .inl (cI, 200, .inl v_letters))] sz) := by
  refine Met.ofW (cc := cX8_skipBlanks) (maxL := 1) (ret := none) (by decide) rfl ?_
  intro p e s m args below meth c s₁ B hml hv
  obtain ⟨rfl, hsz, hP, hK, hD0⟩ := hv
  have hx := B.exec
  have hb := B.bytes
  have hr := B.returns
  have hts := atoms_spec (ws := wsX8_skipBlanks) B.pre
  have hown : s.vm.findClass RX8 = some m.cls := findClass_of_methodNamed B.named
  have hlocks := B.notSynchronized
  subst hsz
  have hD := hD0.self (sz := s.heap.size)
  generalize hAe : va_A [(q_this, .inr (8, [.ref q_letters, .int v_length, .int v_faultKind, .int v_faultAt, .int v_at])), (q_letters, .inl (cI, 200, .inl v_letters))] s.heap.size = A at hD ⊢
  have hA : ∀ q : Nat, s.heap.size ≤ q → A q := fun q h => by rw [← hAe]; exact Or.inr h
  have hS : va_S A s.heap s.heap [] := va_S.rf
  have hl := lv_entry ([.ref q_this]) (n := 1) (Nat.le_of_ble_eq_true rfl)
  rw [lg_entry_eq]
  generalize (lg_sl ([.ref q_this]) ++ List.replicate (1 - (lg_sl ([.ref q_this])).length) Slot.unset).toArray = ls at hl ⊢
  have hl : lv_has ls 1 [(0, .ref q_this)] := hl
  unfold fX8_skipBlanks at hrun
  have hk25 := hts (.fieldLink RX8 25 "LentDrains$Reader" "at" "I") (by decide +kernel)
  have hiX8 : ∀ w ∈ wsX80, w ∈ wsX8_skipBlanks := by decide +kernel
  have hk15 := hts (.fieldLink RX8 15 "LentDrains$Reader" "length" "I") (by decide +kernel)
  have hk11 := hts (.fieldLink RX8 11 "LentDrains$Reader" "letters" "[I") (by decide +kernel)
  refine oz_genQ (fun Q hQ => ?_)
  obtain ⟨o0, hlp0, hrun⟩ := oz_bind hrun
  have hL0 : ∀ (n : Nat) (w0 : Int32) (o0 : Int32), oz_loop (fX8_skipBlanks_b0 v_length v_letters) n w0 = some o0 → (∀ (H : Heap) (locs : List Loc) (ls : Array Slot), va_P (dC, dI) vwCl [(q_this, .inr (8, [.ref q_letters, .int v_length, .int v_faultKind, .int v_faultAt, .int o0])), (q_letters, .inl (cI, 200, .inl v_letters))] H → va_D A [(q_this, .inr (8, [.ref q_letters, .int v_length, .int v_faultKind, .int v_faultAt, .int o0])), (q_letters, .inl (cI, 200, .inl v_letters))] → va_S A s.heap H locs → lv_has ls 1 [(0, .ref q_this)] → W p l e (headSpec wsX8_skipBlanks rmX8_skipBlanks).room s m (([.ref q_this] : List Value).toArray) below meth c H locs 0 0 Q (F0 m 38 ls [])) → ∀ (H : Heap) (locs : List Loc) (ls : Array Slot), va_P (dC, dI) vwCl [(q_this, .inr (8, [.ref q_letters, .int v_length, .int v_faultKind, .int v_faultAt, .int w0])), (q_letters, .inl (cI, 200, .inl v_letters))] H → va_D A [(q_this, .inr (8, [.ref q_letters, .int v_length, .int v_faultKind, .int v_faultAt, .int w0])), (q_letters, .inl (cI, 200, .inl v_letters))] → va_S A s.heap H locs → lv_has ls 1 [(0, .ref q_this)] → W p l e (headSpec wsX8_skipBlanks rmX8_skipBlanks).room s m (([.ref q_this] : List Value).toArray) below meth c H locs 0 0 Q (F0 m 0 ls []) := by
    intro n
    induction n with
    | zero => intro w0 o0 h9; exact (oz_zero h9).elim
    | succ n ih =>
      intro w0 o0 h9 hexit H locs ls hP hD hS hl
      obtain ⟨r9, hrun, hnext⟩ := oz_step h9
      unfold fX8_skipBlanks_b0 at hrun
      refine lv_aload_n hx hb dX8_skipBlanks_0 rfl (lv_at hl 0 rfl) ?_
      refine va_get (D := (dC, dI)) (ci := 8) (v := .int w0) (C := RX8) (T := TX8) (N := 5) hx hb hts hiX8 hown hK hP 0 rfl rfl 4 (by decide) hk25 (fun _ h9 => h9) rfl dX8_skipBlanks_1 ?_
      refine lv_aload_n hx hb dX8_skipBlanks_4 rfl (lv_at hl 0 rfl) ?_
      refine va_get (D := (dC, dI)) (ci := 8) (v := .int v_length) (C := RX8) (T := TX8) (N := 5) hx hb hts hiX8 hown hK hP 0 rfl rfl 1 (by decide) hk15 (fun _ h9 => h9) rfl dX8_skipBlanks_5 ?_
      refine lv_icmp_ge (tgt := 38) hx hb dX8_skipBlanks_8 (by decide) (fun c1 => ?_) (fun c1 => ?_)
      · have hrun := oz_t hrun c1
        have hr9 := Option.some.inj hrun
        subst hr9
        have ho9 : w0 = o0 := hnext
        subst ho9
        exact hexit _ _ _ (hP.sub [0, 1] rfl) (hD.sub [0, 1] (by decide) rfl) hS (lv_sub hl [0] rfl)
      · have hrun := oz_f hrun c1
        refine lv_aload_n hx hb dX8_skipBlanks_11 rfl (lv_at hl 0 rfl) ?_
        refine va_get (D := (dC, dI)) (ci := 8) (v := .ref q_letters) (C := RX8) (T := TX8) (N := 5) hx hb hts hiX8 hown hK hP 0 rfl rfl 0 (by decide) hk11 (fun _ h9 => h9) rfl dX8_skipBlanks_12 ?_
        refine lv_aload_n hx hb dX8_skipBlanks_15 rfl (lv_at hl 0 rfl) ?_
        refine va_get (D := (dC, dI)) (ci := 8) (v := .int w0) (C := RX8) (T := TX8) (N := 5) hx hb hts hiX8 hown hK hP 0 rfl rfl 4 (by decide) hk25 (fun _ h9 => h9) rfl dX8_skipBlanks_16 ?_
        obtain ⟨c2, hrun⟩ := oz_chk hrun
        refine va_iald hx hb hK hP 1 0 rfl rfl c2 dX8_skipBlanks_19 ?_
        refine lv_bipush (v := 32) hx hb dX8_skipBlanks_20 (by decide) ?_
        refine lv_icmp_ne (tgt := 38) hx hb dX8_skipBlanks_22 (by decide) (fun c3 => ?_) (fun c3 => ?_)
        · have hrun := oz_f hrun c3
          have hr9 := Option.some.inj hrun
          subst hr9
          have ho9 : w0 = o0 := hnext
          subst ho9
          exact hexit _ _ _ (hP.sub [0, 1] rfl) (hD.sub [0, 1] (by decide) rfl) hS (lv_sub hl [0] rfl)
        · have hrun := oz_t hrun c3
          refine lv_aload_n hx hb dX8_skipBlanks_25 rfl (lv_at hl 0 rfl) ?_
          refine lv_dup hx hb dX8_skipBlanks_26 rfl ?_
          refine va_get (D := (dC, dI)) (ci := 8) (v := .int w0) (C := RX8) (T := TX8) (N := 5) hx hb hts hiX8 hown hK hP 0 rfl rfl 4 (by decide) hk25 (fun _ h9 => h9) rfl dX8_skipBlanks_27 ?_
          refine lv_iconst (v := 1) hx hb dX8_skipBlanks_30 (by decide) ?_
          refine lv_iadd hx hb dX8_skipBlanks_31 ?_
          refine va_put (D := (dC, dI)) (ci := 8) (v := .int (w0 + 1)) (ty := .int) (C := RX8) (T := TX8) (N := 5) hx hb hts hiX8 tyX8 tyX8_ok nmX8 hown hK hP hD hS 0 rfl rfl 4 (by decide) hk25 (fun _ h9 => h9) rfl (by decide +kernel) rfl rfl (Nat.le_of_ble_eq_true rfl) dX8_skipBlanks_32 (fun H locs hP hD hS => ?_)
          have hP : va_P (dC, dI) vwCl [(q_this, .inr (8, [.ref q_letters, .int v_length, .int v_faultKind, .int v_faultAt, .int (w0 + 1)])), (q_letters, .inl (cI, 200, .inl v_letters))] H := hP
          have hD : va_D A [(q_this, .inr (8, [.ref q_letters, .int v_length, .int v_faultKind, .int v_faultAt, .int (w0 + 1)])), (q_letters, .inl (cI, 200, .inl v_letters))] := hD
          refine lv_goto (tgt := 0) hx hb dX8_skipBlanks_35 (by decide) ?_
          have hr9 := Option.some.inj hrun
          subst hr9
          exact ih (w0 + 1) _ hnext hexit _ _ _ (hP.sub [0, 1] rfl) (hD.sub [0, 1] (by decide) rfl) hS (lv_sub hl [0] rfl)
  refine hL0 oz_fuel v_at o0 hlp0 (fun H locs ls hP hD hS hl => ?_) _ _ _ (hP.sub [0, 1] rfl) (hD.sub [0, 1] (by decide) rfl) hS (lv_sub hl [0] rfl)
  have hP : va_P (dC, dI) vwCl [(q_this, .inr (8, [.ref q_letters, .int v_length, .int v_faultKind, .int v_faultAt, .int o0])), (q_letters, .inl (cI, 200, .inl v_letters))] H := hP
  have hD : va_D A [(q_this, .inr (8, [.ref q_letters, .int v_length, .int v_faultKind, .int v_faultAt, .int o0])), (q_letters, .inl (cI, 200, .inl v_letters))] := hD
  have hl : lv_has ls 1 [(0, .ref q_this)] := hl
  have ho9 := Option.some.inj hrun
  subst ho9
  have hP9 := hP.sub (ws' := [(q_this, .inr (8, [.ref q_letters, .int v_length, .int v_faultKind, .int v_faultAt, .int o0])), (q_letters, .inl (cI, 200, .inl v_letters))]) [0, 1] rfl
  have hD9 := hD.sub (ws' := [(q_this, .inr (8, [.ref q_letters, .int v_length, .int v_faultKind, .int v_faultAt, .int o0])), (q_letters, .inl (cI, 200, .inl v_letters))]) [0, 1] (by decide) rfl
  rw [hQ]
  exact W.vret hx hb hr (fun t ht hW => ⟨⟨(), rfl, trivial, by rw [ht]; exact hP9, va_K.moved hW.alike hK, hD9⟩, hS.F ht⟩) hS.2.2 dX8_skipBlanks_38
def fX8_letterHere (v_length : Int32) (v_at : Int32) (v_letters : Nat → Int32) (a1 : Int32) : Option (Int32) :=
  if v_length ≤ v_at then (some (0)) else (if (v_at < 0 ∨ 200 ≤ Int32.toNatClampNeg v_at) then none else if (v_letters (Int32.toNatClampNeg v_at)) = a1 then (some (1)) else (some (0)))
def rmX8_letterHere : Room := { frames := 0, cells := 0, slots := 0, locals := 0 }
set_option maxHeartbeats 4000000 in
set_option maxRecDepth 100000 in
theorem tX8_letterHere (l : Launch) (dC : Nat → ClassId) (dI : Nat → Nat → Nat) (cI cZ : ClassId) (q_letters q_this : Nat) (sz : Nat) (v_faultKind : Int32) (v_faultAt : Int32) (v_length : Int32) (v_at : Int32) (v_letters : Nat → Int32) (a1 : Int32) (out : Int32) (hrun : fX8_letterHere v_length v_at v_letters a1 = some out) : Met l yX8_letterHere wsX8_letterHere rmX8_letterHere (va_Pc [.ref q_this, .int a1] (fun U => U.heap.size = sz ∧ va_P (dC, dI) vwCl [(q_this, .inr (8, [.ref q_letters, .int v_length, .int v_faultKind, .int v_faultAt, .int v_at])), (q_letters, .inl (cI, 200, .inl v_letters))] U.heap ∧ va_K (dC, dI) vwCl [(cI, .int), (cZ, .boolean)] U ∧ va_D (fun _ => True) [(q_this, .inr (8, [.ref q_letters, .int v_length, .int v_faultKind, .int v_faultAt, .int v_at])), (q_letters, .inl (cI, 200, .inl v_letters))])) (va_Qi (fun (r : Int32) (_ : Unit) => r = out) (fun _ t => va_P (dC, dI) vwCl [(q_this, .inr (8, [.ref q_letters, .int v_length, .int v_faultKind, .int v_faultAt, .int v_at])), (q_letters, .inl (cI, 200, .inl v_letters))] t.heap ∧ va_K (dC, dI) vwCl [(cI, .int), (cZ, .boolean)] t ∧ va_D (va_A [(q_this, .inr (8, [.ref q_letters, .int v_length, .int v_faultKind, .int v_faultAt, .int v_at])), (q_letters, .inl (cI, 200, .inl v_letters))] sz) [(q_this, .inr (8, [.ref q_letters, .int v_length, .int v_faultKind, .int v_faultAt, .int v_at])), (q_letters, .inl (cI, 200, .inl v_letters))]) (va_A [(q_this, .inr (8, [.ref q_letters, .int v_length, .int v_faultKind, .int v_faultAt, .int v_at])), (q_letters, .inl (cI, 200, .inl v_letters))] sz)) 0 0 (va_A [(q_this, .inr (8, [.ref q_letters, .int v_length, .int v_faultKind, .int v_faultAt, .int v_at])), (q_letters, .inl (cI, 200, .inl v_letters))] sz) := by
  refine Met.ofW (cc := cX8_letterHere) (maxL := 2) (ret := (some .boolean)) (by decide) rfl ?_
  intro p e s m args below meth c s₁ B hml hv
  obtain ⟨rfl, hsz, hP, hK, hD0⟩ := hv
  have hx := B.exec
  have hb := B.bytes
  have hr := B.returns
  have hts := atoms_spec (ws := wsX8_letterHere) B.pre
  have hown : s.vm.findClass RX8 = some m.cls := findClass_of_methodNamed B.named
  have hlocks := B.notSynchronized
  subst hsz
  have hD := hD0.self (sz := s.heap.size)
  generalize hAe : va_A [(q_this, .inr (8, [.ref q_letters, .int v_length, .int v_faultKind, .int v_faultAt, .int v_at])), (q_letters, .inl (cI, 200, .inl v_letters))] s.heap.size = A at hD ⊢
  have hA : ∀ q : Nat, s.heap.size ≤ q → A q := fun q h => by rw [← hAe]; exact Or.inr h
  have hS : va_S A s.heap s.heap [] := va_S.rf
  have hl := lv_entry ([.ref q_this, .int a1]) (n := 2) (Nat.le_of_ble_eq_true rfl)
  rw [lg_entry_eq]
  generalize (lg_sl ([.ref q_this, .int a1]) ++ List.replicate (2 - (lg_sl ([.ref q_this, .int a1])).length) Slot.unset).toArray = ls at hl ⊢
  have hl : lv_has ls 2 [(0, .ref q_this), (1, .int a1)] := hl
  unfold fX8_letterHere at hrun
  have hk25 := hts (.fieldLink RX8 25 "LentDrains$Reader" "at" "I") (by decide +kernel)
  have hiX8 : ∀ w ∈ wsX80, w ∈ wsX8_letterHere := by decide +kernel
  have hk15 := hts (.fieldLink RX8 15 "LentDrains$Reader" "length" "I") (by decide +kernel)
  have hk11 := hts (.fieldLink RX8 11 "LentDrains$Reader" "letters" "[I") (by decide +kernel)
  refine oz_genQ (fun Q hQ => ?_)
  refine lv_aload_n hx hb dX8_letterHere_0 rfl (lv_at hl 0 rfl) ?_
  refine va_get (D := (dC, dI)) (ci := 8) (v := .int v_at) (C := RX8) (T := TX8) (N := 5) hx hb hts hiX8 hown hK hP 0 rfl rfl 4 (by decide) hk25 (fun _ h9 => h9) rfl dX8_letterHere_1 ?_
  refine lv_aload_n hx hb dX8_letterHere_4 rfl (lv_at hl 0 rfl) ?_
  refine va_get (D := (dC, dI)) (ci := 8) (v := .int v_length) (C := RX8) (T := TX8) (N := 5) hx hb hts hiX8 hown hK hP 0 rfl rfl 1 (by decide) hk15 (fun _ h9 => h9) rfl dX8_letterHere_5 ?_
  refine lv_icmp_ge (tgt := 28) hx hb dX8_letterHere_8 (by decide) (fun c1 => ?_) (fun c1 => ?_)
  · have hrun := oz_t hrun c1
    refine lv_iconst (v := 0) hx hb dX8_letterHere_28 (by decide) ?_
    have ho9 := Option.some.inj hrun
    subst ho9
    have hP9 := hP.sub (ws' := [(q_this, .inr (8, [.ref q_letters, .int v_length, .int v_faultKind, .int v_faultAt, .int v_at])), (q_letters, .inl (cI, 200, .inl v_letters))]) [0, 1] rfl
    have hD9 := hD.sub (ws' := [(q_this, .inr (8, [.ref q_letters, .int v_length, .int v_faultKind, .int v_faultAt, .int v_at])), (q_letters, .inl (cI, 200, .inl v_letters))]) [0, 1] (by decide) rfl
    rw [hQ]
    exact W.zret (v := 0) (ty := .boolean) hx hb hr rfl (fun t ht hW => ⟨⟨0, (), rfl, rfl, by rw [ht]; exact hP9, va_K.moved hW.alike hK, hD9⟩, hS.F ht⟩) hS.2.2 dX8_letterHere_29
  · have hrun := oz_f hrun c1
    refine lv_aload_n hx hb dX8_letterHere_11 rfl (lv_at hl 0 rfl) ?_
    refine va_get (D := (dC, dI)) (ci := 8) (v := .ref q_letters) (C := RX8) (T := TX8) (N := 5) hx hb hts hiX8 hown hK hP 0 rfl rfl 0 (by decide) hk11 (fun _ h9 => h9) rfl dX8_letterHere_12 ?_
    refine lv_aload_n hx hb dX8_letterHere_15 rfl (lv_at hl 0 rfl) ?_
    refine va_get (D := (dC, dI)) (ci := 8) (v := .int v_at) (C := RX8) (T := TX8) (N := 5) hx hb hts hiX8 hown hK hP 0 rfl rfl 4 (by decide) hk25 (fun _ h9 => h9) rfl dX8_letterHere_16 ?_
    obtain ⟨c2, hrun⟩ := oz_chk hrun
    refine va_iald hx hb hK hP 1 0 rfl rfl c2 dX8_letterHere_19 ?_
    refine lv_iload_n hx hb dX8_letterHere_20 rfl (lv_at hl 1 rfl) ?_
    refine lv_icmp_ne (tgt := 28) hx hb dX8_letterHere_21 (by decide) (fun c3 => ?_) (fun c3 => ?_)
    · have hrun := oz_f hrun c3
      refine lv_iconst (v := 0) hx hb dX8_letterHere_28 (by decide) ?_
      have ho9 := Option.some.inj hrun
      subst ho9
      have hP9 := hP.sub (ws' := [(q_this, .inr (8, [.ref q_letters, .int v_length, .int v_faultKind, .int v_faultAt, .int v_at])), (q_letters, .inl (cI, 200, .inl v_letters))]) [0, 1] rfl
      have hD9 := hD.sub (ws' := [(q_this, .inr (8, [.ref q_letters, .int v_length, .int v_faultKind, .int v_faultAt, .int v_at])), (q_letters, .inl (cI, 200, .inl v_letters))]) [0, 1] (by decide) rfl
      rw [hQ]
      exact W.zret (v := 0) (ty := .boolean) hx hb hr rfl (fun t ht hW => ⟨⟨0, (), rfl, rfl, by rw [ht]; exact hP9, va_K.moved hW.alike hK, hD9⟩, hS.F ht⟩) hS.2.2 dX8_letterHere_29
    · have hrun := oz_t hrun c3
      refine lv_iconst (v := 1) hx hb dX8_letterHere_24 (by decide) ?_
      refine lv_goto (tgt := 29) hx hb dX8_letterHere_25 (by decide) ?_
      have ho9 := Option.some.inj hrun
      subst ho9
      have hP9 := hP.sub (ws' := [(q_this, .inr (8, [.ref q_letters, .int v_length, .int v_faultKind, .int v_faultAt, .int v_at])), (q_letters, .inl (cI, 200, .inl v_letters))]) [0, 1] rfl
      have hD9 := hD.sub (ws' := [(q_this, .inr (8, [.ref q_letters, .int v_length, .int v_faultKind, .int v_faultAt, .int v_at])), (q_letters, .inl (cI, 200, .inl v_letters))]) [0, 1] (by decide) rfl
      rw [hQ]
      exact W.zret (v := 1) (ty := .boolean) hx hb hr rfl (fun t ht hW => ⟨⟨1, (), rfl, rfl, by rw [ht]; exact hP9, va_K.moved hW.alike hK, hD9⟩, hS.F ht⟩) hS.2.2 dX8_letterHere_29
def fX8_isFigure (a0 : Int32) : Option (Int32) :=
  if a0 < 48 then (some (0)) else (if 57 < a0 then (some (0)) else (some (1)))
def rmX8_isFigure : Room := { frames := 0, cells := 0, slots := 0, locals := 0 }
set_option maxHeartbeats 4000000 in
set_option maxRecDepth 100000 in
theorem tX8_isFigure (l : Launch) (dC : Nat → ClassId) (dI : Nat → Nat → Nat) (cI cZ : ClassId) (sz : Nat) (a0 : Int32) (out : Int32) (hrun : fX8_isFigure a0 = some out) : Met l yX8_isFigure wsX8_isFigure rmX8_isFigure (va_Pc [.int a0] (fun U => U.heap.size = sz ∧ va_P (dC, dI) vwCl [] U.heap ∧ va_K (dC, dI) vwCl [(cI, .int), (cZ, .boolean)] U ∧ va_D (fun _ => True) [])) (va_Qi (fun (r : Int32) (_ : Unit) => r = out) (fun _ t => va_P (dC, dI) vwCl [] t.heap ∧ va_K (dC, dI) vwCl [(cI, .int), (cZ, .boolean)] t ∧ va_D (va_A [] sz) []) (va_A [] sz)) 0 0 (va_A [] sz) := by
  refine Met.ofW (cc := cX8_isFigure) (maxL := 1) (ret := (some .boolean)) (by decide) rfl ?_
  intro p e s m args below meth c s₁ B hml hv
  obtain ⟨rfl, hsz, hP, hK, hD0⟩ := hv
  have hx := B.exec
  have hb := B.bytes
  have hr := B.returns
  have hts := atoms_spec (ws := wsX8_isFigure) B.pre
  have hown : s.vm.findClass RX8 = some m.cls := findClass_of_methodNamed B.named
  have hlocks := B.notSynchronized
  subst hsz
  have hD := hD0.self (sz := s.heap.size)
  generalize hAe : va_A [] s.heap.size = A at hD ⊢
  have hA : ∀ q : Nat, s.heap.size ≤ q → A q := fun q h => by rw [← hAe]; exact Or.inr h
  have hS : va_S A s.heap s.heap [] := va_S.rf
  have hl := lv_entry ([.int a0]) (n := 1) (Nat.le_of_ble_eq_true rfl)
  rw [lg_entry_eq]
  generalize (lg_sl ([.int a0]) ++ List.replicate (1 - (lg_sl ([.int a0])).length) Slot.unset).toArray = ls at hl ⊢
  have hl : lv_has ls 1 [(0, .int a0)] := hl
  unfold fX8_isFigure at hrun
  refine oz_genQ (fun Q hQ => ?_)
  refine lv_iload_n hx hb dX8_isFigure_0 rfl (lv_at hl 0 rfl) ?_
  refine lv_bipush (v := 48) hx hb dX8_isFigure_1 (by decide) ?_
  refine lv_icmp_lt (tgt := 16) hx hb dX8_isFigure_3 (by decide) (fun c1 => ?_) (fun c1 => ?_)
  · have hrun := oz_t hrun c1
    refine lv_iconst (v := 0) hx hb dX8_isFigure_16 (by decide) ?_
    have ho9 := Option.some.inj hrun
    subst ho9
    have hP9 := hP.sub (ws' := []) [] rfl
    have hD9 := hD.sub (ws' := []) [] (by decide) rfl
    rw [hQ]
    exact W.zret (v := 0) (ty := .boolean) hx hb hr rfl (fun t ht hW => ⟨⟨0, (), rfl, rfl, by rw [ht]; exact hP9, va_K.moved hW.alike hK, hD9⟩, hS.F ht⟩) hS.2.2 dX8_isFigure_17
  · have hrun := oz_f hrun c1
    refine lv_iload_n hx hb dX8_isFigure_6 rfl (lv_at hl 0 rfl) ?_
    refine lv_bipush (v := 57) hx hb dX8_isFigure_7 (by decide) ?_
    refine lv_icmp_gt (tgt := 16) hx hb dX8_isFigure_9 (by decide) (fun c2 => ?_) (fun c2 => ?_)
    · have hrun := oz_t hrun c2
      refine lv_iconst (v := 0) hx hb dX8_isFigure_16 (by decide) ?_
      have ho9 := Option.some.inj hrun
      subst ho9
      have hP9 := hP.sub (ws' := []) [] rfl
      have hD9 := hD.sub (ws' := []) [] (by decide) rfl
      rw [hQ]
      exact W.zret (v := 0) (ty := .boolean) hx hb hr rfl (fun t ht hW => ⟨⟨0, (), rfl, rfl, by rw [ht]; exact hP9, va_K.moved hW.alike hK, hD9⟩, hS.F ht⟩) hS.2.2 dX8_isFigure_17
    · have hrun := oz_f hrun c2
      refine lv_iconst (v := 1) hx hb dX8_isFigure_12 (by decide) ?_
      refine lv_goto (tgt := 17) hx hb dX8_isFigure_13 (by decide) ?_
      have ho9 := Option.some.inj hrun
      subst ho9
      have hP9 := hP.sub (ws' := []) [] rfl
      have hD9 := hD.sub (ws' := []) [] (by decide) rfl
      rw [hQ]
      exact W.zret (v := 1) (ty := .boolean) hx hb hr rfl (fun t ht hW => ⟨⟨1, (), rfl, rfl, by rw [ht]; exact hP9, va_K.moved hW.alike hK, hD9⟩, hS.F ht⟩) hS.2.2 dX8_isFigure_17
def fX8_blame (v_faultKind : Int32) (v_faultAt : Int32) (a1 : Int32) (a2 : Int32) : Option (Int32 × Int32) :=
  if v_faultKind = 0 then (some (a1, a2)) else (some (v_faultKind, v_faultAt))
def rmX8_blame : Room := { frames := 0, cells := 0, slots := 0, locals := 0 }
set_option maxHeartbeats 4000000 in
set_option maxRecDepth 100000 in
theorem tX8_blame (l : Launch) (dC : Nat → ClassId) (dI : Nat → Nat → Nat) (cI cZ : ClassId) (q_letters q_this : Nat) (sz : Nat) (v_length : Int32) (v_at : Int32) (v_faultKind : Int32) (v_faultAt : Int32) (a1 : Int32) (a2 : Int32) (out : Int32 × Int32) (hrun : fX8_blame v_faultKind v_faultAt a1 a2 = some out) : Met l yX8_blame wsX8_blame rmX8_blame (va_Pc [.ref q_this, .int a1, .int a2] (fun U => U.heap.size = sz ∧ va_P (dC, dI) vwCl [(q_this, .inr (8, [.ref q_letters, .int v_length, .int v_faultKind, .int v_faultAt, .int v_at]))] U.heap ∧ va_K (dC, dI) vwCl [(cI, .int), (cZ, .boolean)] U ∧ va_D (fun _ => True) [(q_this, .inr (8, [.ref q_letters, .int v_length, .int v_faultKind, .int v_faultAt, .int v_at]))])) (va_Qv (fun _ : Unit => True) (fun _ t => va_P (dC, dI) vwCl [(q_this, .inr (8, [.ref q_letters, .int v_length, .int out.1, .int out.2, .int v_at]))] t.heap ∧ va_K (dC, dI) vwCl [(cI, .int), (cZ, .boolean)] t ∧ va_D (va_A [(q_this, .inr (8, [.ref q_letters, .int v_length, .int v_faultKind, .int v_faultAt, .int v_at]))] sz) [(q_this, .inr (8, [.ref q_letters, .int v_length, .int out.1, .int out.2, .int v_at]))]) (va_A [(q_this, .inr (8, [.ref q_letters, .int v_length, .int v_faultKind, .int v_faultAt, .int v_at]))] sz)) 0 0 (va_A [(q_this, .inr (8, [.ref q_letters, .int v_length, .int v_faultKind, .int v_faultAt, .int v_at]))] sz) := by
  refine Met.ofW (cc := cX8_blame) (maxL := 3) (ret := none) (by decide) rfl ?_
  intro p e s m args below meth c s₁ B hml hv
  obtain ⟨rfl, hsz, hP, hK, hD0⟩ := hv
  have hx := B.exec
  have hb := B.bytes
  have hr := B.returns
  have hts := atoms_spec (ws := wsX8_blame) B.pre
  have hown : s.vm.findClass RX8 = some m.cls := findClass_of_methodNamed B.named
  have hlocks := B.notSynchronized
  subst hsz
  have hD := hD0.self (sz := s.heap.size)
  generalize hAe : va_A [(q_this, .inr (8, [.ref q_letters, .int v_length, .int v_faultKind, .int v_faultAt, .int v_at]))] s.heap.size = A at hD ⊢
  have hA : ∀ q : Nat, s.heap.size ≤ q → A q := fun q h => by rw [← hAe]; exact Or.inr h
  have hS : va_S A s.heap s.heap [] := va_S.rf
  have hl := lv_entry ([.ref q_this, .int a1, .int a2]) (n := 3) (Nat.le_of_ble_eq_true rfl)
  rw [lg_entry_eq]
  generalize (lg_sl ([.ref q_this, .int a1, .int a2]) ++ List.replicate (3 - (lg_sl ([.ref q_this, .int a1, .int a2])).length) Slot.unset).toArray = ls at hl ⊢
  have hl : lv_has ls 3 [(0, .ref q_this), (1, .int a1), (2, .int a2)] := hl
  unfold fX8_blame at hrun
  have hk19 := hts (.fieldLink RX8 19 "LentDrains$Reader" "faultKind" "I") (by decide +kernel)
  have hiX8 : ∀ w ∈ wsX80, w ∈ wsX8_blame := by decide +kernel
  have hk22 := hts (.fieldLink RX8 22 "LentDrains$Reader" "faultAt" "I") (by decide +kernel)
  refine oz_genQ (fun Q hQ => ?_)
  refine lv_aload_n hx hb dX8_blame_0 rfl (lv_at hl 0 rfl) ?_
  refine va_get (D := (dC, dI)) (ci := 8) (v := .int v_faultKind) (C := RX8) (T := TX8) (N := 5) hx hb hts hiX8 hown hK hP 0 rfl rfl 2 (by decide) hk19 (fun _ h9 => h9) rfl dX8_blame_1 ?_
  refine lv_if_ne (tgt := 17) hx hb dX8_blame_4 (by decide) (fun c1 => ?_) (fun c1 => ?_)
  · have hrun := oz_f hrun c1
    have ho9 := Option.some.inj hrun
    subst ho9
    have hP9 := hP.sub (ws' := [(q_this, .inr (8, [.ref q_letters, .int v_length, .int v_faultKind, .int v_faultAt, .int v_at]))]) [0] rfl
    have hD9 := hD.sub (ws' := [(q_this, .inr (8, [.ref q_letters, .int v_length, .int v_faultKind, .int v_faultAt, .int v_at]))]) [0] (by decide) rfl
    rw [hQ]
    exact W.vret hx hb hr (fun t ht hW => ⟨⟨(), rfl, trivial, by rw [ht]; exact hP9, va_K.moved hW.alike hK, hD9⟩, hS.F ht⟩) hS.2.2 dX8_blame_17
  · have hrun := oz_t hrun c1
    refine lv_aload_n hx hb dX8_blame_7 rfl (lv_at hl 0 rfl) ?_
    refine lv_iload_n hx hb dX8_blame_8 rfl (lv_at hl 1 rfl) ?_
    refine va_put (D := (dC, dI)) (ci := 8) (v := .int a1) (ty := .int) (C := RX8) (T := TX8) (N := 5) hx hb hts hiX8 tyX8 tyX8_ok nmX8 hown hK hP hD hS 0 rfl rfl 2 (by decide) hk19 (fun _ h9 => h9) rfl (by decide +kernel) rfl rfl (Nat.le_of_ble_eq_true rfl) dX8_blame_9 (fun H locs hP hD hS => ?_)
    have hP : va_P (dC, dI) vwCl [(q_this, .inr (8, [.ref q_letters, .int v_length, .int a1, .int v_faultAt, .int v_at]))] H := hP
    have hD : va_D A [(q_this, .inr (8, [.ref q_letters, .int v_length, .int a1, .int v_faultAt, .int v_at]))] := hD
    refine lv_aload_n hx hb dX8_blame_12 rfl (lv_at hl 0 rfl) ?_
    refine lv_iload_n hx hb dX8_blame_13 rfl (lv_at hl 2 rfl) ?_
    refine va_put (D := (dC, dI)) (ci := 8) (v := .int a2) (ty := .int) (C := RX8) (T := TX8) (N := 5) hx hb hts hiX8 tyX8 tyX8_ok nmX8 hown hK hP hD hS 0 rfl rfl 3 (by decide) hk22 (fun _ h9 => h9) rfl (by decide +kernel) rfl rfl (Nat.le_of_ble_eq_true rfl) dX8_blame_14 (fun H locs hP hD hS => ?_)
    have hP : va_P (dC, dI) vwCl [(q_this, .inr (8, [.ref q_letters, .int v_length, .int a1, .int a2, .int v_at]))] H := hP
    have hD : va_D A [(q_this, .inr (8, [.ref q_letters, .int v_length, .int a1, .int a2, .int v_at]))] := hD
    have ho9 := Option.some.inj hrun
    subst ho9
    have hP9 := hP.sub (ws' := [(q_this, .inr (8, [.ref q_letters, .int v_length, .int a1, .int a2, .int v_at]))]) [0] rfl
    have hD9 := hD.sub (ws' := [(q_this, .inr (8, [.ref q_letters, .int v_length, .int a1, .int a2, .int v_at]))]) [0] (by decide) rfl
    rw [hQ]
    exact W.vret hx hb hr (fun t ht hW => ⟨⟨(), rfl, trivial, by rw [ht]; exact hP9, va_K.moved hW.alike hK, hD9⟩, hS.F ht⟩) hS.2.2 dX8_blame_17
def fX8_readNumber_b12 (v_length : Int32) (v_letters : Nat → Int32) (y1 : Int32) (w12 : Int32 × Int32) : Option ((Int32 × Int32) ⊕ (Int32 × Int32)) :=
  if v_length ≤ w12.2 then (some (.inr (w12.1, w12.2))) else (if (w12.2 < 0 ∨ 200 ≤ Int32.toNatClampNeg w12.2) then none else Option.bind (fX8_isFigure (v_letters (Int32.toNatClampNeg w12.2))) (fun y32 => if y32 = 0 then (some (.inr (w12.1, w12.2))) else (if 3 ≤ (w12.2 - y1) then (some (.inl (w12.1, (w12.2 + 1)))) else (some (.inl ((((w12.1 * 10) + (v_letters (Int32.toNatClampNeg w12.2))) - 48), (w12.2 + 1)))))))
def fX8_readNumber (v_length : Int32) (v_faultKind : Int32) (v_faultAt : Int32) (v_at : Int32) (v_letters : Nat → Int32) (a1 : Int32) (a2 : Int32) : Option (Int32 × Int32 × Int32 × Int32) :=
  Option.bind (fX8_skipBlanks v_length v_at v_letters) (fun y1 => Option.bind (oz_loop (fX8_readNumber_b12 v_length v_letters y1) oz_fuel (0, y1)) (fun o12 => if o12.2 = y1 then (Option.bind (fX8_blame v_faultKind v_faultAt 1 y1) (fun y92 => some (o12.1, y92.1, y92.2, o12.2))) else (if 3 < (o12.2 - y1) then (Option.bind (fX8_blame v_faultKind v_faultAt 2 y1) (fun y123 => some (o12.1, y123.1, y123.2, o12.2))) else (if o12.1 < a1 then (Option.bind (fX8_blame v_faultKind v_faultAt 2 y1) (fun y123 => some (o12.1, y123.1, y123.2, o12.2))) else (if o12.1 ≤ a2 then (some (o12.1, v_faultKind, v_faultAt, o12.2)) else (Option.bind (fX8_blame v_faultKind v_faultAt 2 y1) (fun y123 => some (o12.1, y123.1, y123.2, o12.2))))))))
def rmX8_readNumber : Room := { frames := 1, cells := 0, slots := 0, locals := 22 }
set_option maxHeartbeats 4000000 in
set_option maxRecDepth 100000 in
theorem tX8_readNumber (l : Launch) (dC : Nat → ClassId) (dI : Nat → Nat → Nat) (cI cZ : ClassId) (q_letters q_this : Nat) (sz : Nat) (v_length : Int32) (v_faultKind : Int32) (v_faultAt : Int32) (v_at : Int32) (v_letters : Nat → Int32) (a1 : Int32) (a2 : Int32) (out : Int32 × Int32 × Int32 × Int32) (hrun : fX8_readNumber v_length v_faultKind v_faultAt v_at v_letters a1 a2 = some out) : Met l yX8_readNumber wsX8_readNumber rmX8_readNumber (va_Pc [.ref q_this, .int a1, .int a2] (fun U => U.heap.size = sz ∧ va_P (dC, dI) vwCl [(q_this, .inr (8, [.ref q_letters, .int v_length, .int v_faultKind, .int v_faultAt, .int v_at])), (q_letters, .inl (cI, 200, .inl v_letters))] U.heap ∧ va_K (dC, dI) vwCl [(cI, .int), (cZ, .boolean)] U ∧ va_D (fun _ => True) [(q_this, .inr (8, [.ref q_letters, .int v_length, .int v_faultKind, .int v_faultAt, .int v_at])), (q_letters, .inl (cI, 200, .inl v_letters))])) (va_Qi (fun (r : Int32) (_ : Unit) => r = out.1) (fun _ t => va_P (dC, dI) vwCl [(q_this, .inr (8, [.ref q_letters, .int v_length, .int out.2.1, .int out.2.2.1, .int out.2.2.2])), (q_letters, .inl (cI, 200, .inl v_letters))] t.heap ∧ va_K (dC, dI) vwCl [(cI, .int), (cZ, .boolean)] t ∧ va_D (va_A [(q_this, .inr (8, [.ref q_letters, .int v_length, .int v_faultKind, .int v_faultAt, .int v_at])), (q_letters, .inl (cI, 200, .inl v_letters))] sz) [(q_this, .inr (8, [.ref q_letters, .int v_length, .int out.2.1, .int out.2.2.1, .int out.2.2.2])), (q_letters, .inl (cI, 200, .inl v_letters))]) (va_A [(q_this, .inr (8, [.ref q_letters, .int v_length, .int v_faultKind, .int v_faultAt, .int v_at])), (q_letters, .inl (cI, 200, .inl v_letters))] sz)) 0 0 (va_A [(q_this, .inr (8, [.ref q_letters, .int v_length, .int v_faultKind, .int v_faultAt, .int v_at])), (q_letters, .inl (cI, 200, .inl v_letters))] sz) := by
  refine Met.ofW (cc := cX8_readNumber) (maxL := 5) (ret := (some .int)) (by decide) rfl ?_
  intro p e s m args below meth c s₁ B hml hv
  obtain ⟨rfl, hsz, hP, hK, hD0⟩ := hv
  have hx := B.exec
  have hb := B.bytes
  have hr := B.returns
  have hts := atoms_spec (ws := wsX8_readNumber) B.pre
  have hown : s.vm.findClass RX8 = some m.cls := findClass_of_methodNamed B.named
  have hlocks := B.notSynchronized
  subst hsz
  have hD := hD0.self (sz := s.heap.size)
  generalize hAe : va_A [(q_this, .inr (8, [.ref q_letters, .int v_length, .int v_faultKind, .int v_faultAt, .int v_at])), (q_letters, .inl (cI, 200, .inl v_letters))] s.heap.size = A at hD ⊢
  have hA : ∀ q : Nat, s.heap.size ≤ q → A q := fun q h => by rw [← hAe]; exact Or.inr h
  have hS : va_S A s.heap s.heap [] := va_S.rf
  have hl := lv_entry ([.ref q_this, .int a1, .int a2]) (n := 5) (Nat.le_of_ble_eq_true rfl)
  rw [lg_entry_eq]
  generalize (lg_sl ([.ref q_this, .int a1, .int a2]) ++ List.replicate (5 - (lg_sl ([.ref q_this, .int a1, .int a2])).length) Slot.unset).toArray = ls at hl ⊢
  have hl : lv_has ls 5 [(0, .ref q_this), (1, .int a1), (2, .int a2)] := hl
  unfold fX8_readNumber at hrun
  have hk25 := hts (.fieldLink RX8 25 "LentDrains$Reader" "at" "I") (by decide +kernel)
  have hiX8 : ∀ w ∈ wsX80, w ∈ wsX8_readNumber := by decide +kernel
  have hk15 := hts (.fieldLink RX8 15 "LentDrains$Reader" "length" "I") (by decide +kernel)
  have hk11 := hts (.fieldLink RX8 11 "LentDrains$Reader" "letters" "[I") (by decide +kernel)
  refine oz_genQ (fun Q hQ => ?_)
  refine lv_aload_n hx hb dX8_readNumber_0 rfl (lv_at hl 0 rfl) ?_
  obtain ⟨y1, hc1, hrun⟩ := oz_bind hrun
  have hPc := hP.sub (ws' := [(q_this, .inr (8, [.ref q_letters, .int v_length, .int v_faultKind, .int v_faultAt, .int v_at])), (q_letters, .inl (cI, 200, .inl v_letters))]) [0, 1] rfl
  have hDc := hD.sub (ws' := [(q_this, .inr (8, [.ref q_letters, .int v_length, .int v_faultKind, .int v_faultAt, .int v_at])), (q_letters, .inl (cI, 200, .inl v_letters))]) [0, 1] (by decide) rfl
  have hFc := va_free (wc := [(q_this, .inr (8, [.ref q_letters, .int v_length, .int v_faultKind, .int v_faultAt, .int v_at])), (q_letters, .inl (cI, 200, .inl v_letters))]) hD hS hA [0, 1] rfl
  refine va_callv (va_runV (As := []) (rest := []) ⟨hx, hb, hml, hown, hts⟩ (tX8_skipBlanks l dC dI cI cZ q_letters q_this s.heap.size v_faultKind v_faultAt v_length v_at v_letters y1 hc1) (cwV 0 hts gX8_readNumber_X8_skipBlanks rfl rfl rfl (by decide +kernel) ⟨Nat.le_of_ble_eq_true rfl, Nat.le_of_ble_eq_true rfl⟩) ⟨fun a U g mk q => by obtain ⟨q0, q1, qP, qK, qD⟩ := q; exact ⟨q0, q1, qP, va_K.moved (u := U) (U := U.calling g mk a) (Vm.Alike.refl U.vm) qK, qD⟩, va_recv hK hPc (ci := 8) (q0 := 0) rfl rfl, fun U hU hW => ⟨rfl, by rw [hU], by rw [hU]; exact hPc, va_K.moved hW.alike hK, hDc.weaken (fun _ _ _ _ => trivial)⟩⟩ rfl rfl hl.1 rfl (lv_room (Nat.le_of_ble_eq_true rfl)) dX8_readNumber_1 ⟨Nat.le_of_ble_eq_true rfl, Nat.le_of_ble_eq_true rfl⟩) hS (fun q _ h => hFc q h) hFc (fun u9 t9 H1 locs ht9 hvm9 hw9 hB9 hz9 hkk9 hS => ?_)
  obtain ⟨hP9, hK9, hD9⟩ := hB9
  rw [ht9] at hP9
  obtain ⟨hP, hD⟩ := va_join (wr := []) (w1 := [(q_this, .inr (8, [.ref q_letters, .int v_length, .int v_faultKind, .int v_faultAt, .int y1])), (q_letters, .inl (cI, 200, .inl v_letters))]) hP hD [0, 1] [] rfl rfl (by decide) (by decide) hkk9 hFc hP9 hD9
  generalize H1 = H at hP hS ⊢
  have hP : va_P (dC, dI) vwCl [(q_this, .inr (8, [.ref q_letters, .int v_length, .int v_faultKind, .int v_faultAt, .int y1])), (q_letters, .inl (cI, 200, .inl v_letters))] H := hP
  have hD : va_D A [(q_this, .inr (8, [.ref q_letters, .int v_length, .int v_faultKind, .int v_faultAt, .int y1])), (q_letters, .inl (cI, 200, .inl v_letters))] := hD
  refine lv_aload_n hx hb dX8_readNumber_4 rfl (lv_at hl 0 rfl) ?_
  refine va_get (D := (dC, dI)) (ci := 8) (v := .int y1) (C := RX8) (T := TX8) (N := 5) hx hb hts hiX8 hown hK hP 0 rfl rfl 4 (by decide) hk25 (fun _ h9 => h9) rfl dX8_readNumber_5 ?_
  refine lv_istore_n (lv' := [(3, .int y1), (0, .ref q_this), (1, .int a1), (2, .int a2)]) hx hb dX8_readNumber_8 rfl hl (by decide) rfl (fun ls hl => ?_)
  refine lv_iconst (v := 0) hx hb dX8_readNumber_9 (by decide) ?_
  refine lv_istore (lv' := [(4, .int 0), (3, .int y1), (0, .ref q_this), (1, .int a1), (2, .int a2)]) hx hb dX8_readNumber_10 hl (by decide) rfl (fun ls hl => ?_)
  obtain ⟨o12, hlp12, hrun⟩ := oz_bind hrun
  have hL12 : ∀ (n : Nat) (w12 : Int32 × Int32) (o12 : Int32 × Int32), oz_loop (fX8_readNumber_b12 v_length v_letters y1) n w12 = some o12 → (∀ (H : Heap) (locs : List Loc) (ls : Array Slot), va_P (dC, dI) vwCl [(q_this, .inr (8, [.ref q_letters, .int v_length, .int v_faultKind, .int v_faultAt, .int o12.2])), (q_letters, .inl (cI, 200, .inl v_letters))] H → va_D A [(q_this, .inr (8, [.ref q_letters, .int v_length, .int v_faultKind, .int v_faultAt, .int o12.2])), (q_letters, .inl (cI, 200, .inl v_letters))] → va_S A s.heap H locs → lv_has ls 5 [(4, .int o12.1), (3, .int y1), (0, .ref q_this), (1, .int a1), (2, .int a2)] → W p l e (headSpec wsX8_readNumber rmX8_readNumber).room s m (([.ref q_this, .int a1, .int a2] : List Value).toArray) below meth c H locs 0 0 Q (F0 m 81 ls [])) → ∀ (H : Heap) (locs : List Loc) (ls : Array Slot), va_P (dC, dI) vwCl [(q_this, .inr (8, [.ref q_letters, .int v_length, .int v_faultKind, .int v_faultAt, .int w12.2])), (q_letters, .inl (cI, 200, .inl v_letters))] H → va_D A [(q_this, .inr (8, [.ref q_letters, .int v_length, .int v_faultKind, .int v_faultAt, .int w12.2])), (q_letters, .inl (cI, 200, .inl v_letters))] → va_S A s.heap H locs → lv_has ls 5 [(4, .int w12.1), (3, .int y1), (0, .ref q_this), (1, .int a1), (2, .int a2)] → W p l e (headSpec wsX8_readNumber rmX8_readNumber).room s m (([.ref q_this, .int a1, .int a2] : List Value).toArray) below meth c H locs 0 0 Q (F0 m 12 ls []) := by
    intro n
    induction n with
    | zero => intro w12 o12 h9; exact (oz_zero h9).elim
    | succ n ih =>
      intro w12 o12 h9 hexit H locs ls hP hD hS hl
      obtain ⟨r9, hrun, hnext⟩ := oz_step h9
      unfold fX8_readNumber_b12 at hrun
      refine lv_aload_n hx hb dX8_readNumber_12 rfl (lv_at hl 2 rfl) ?_
      refine va_get (D := (dC, dI)) (ci := 8) (v := .int w12.2) (C := RX8) (T := TX8) (N := 5) hx hb hts hiX8 hown hK hP 0 rfl rfl 4 (by decide) hk25 (fun _ h9 => h9) rfl dX8_readNumber_13 ?_
      refine lv_aload_n hx hb dX8_readNumber_16 rfl (lv_at hl 2 rfl) ?_
      refine va_get (D := (dC, dI)) (ci := 8) (v := .int v_length) (C := RX8) (T := TX8) (N := 5) hx hb hts hiX8 hown hK hP 0 rfl rfl 1 (by decide) hk15 (fun _ h9 => h9) rfl dX8_readNumber_17 ?_
      refine lv_icmp_ge (tgt := 81) hx hb dX8_readNumber_20 (by decide) (fun c1 => ?_) (fun c1 => ?_)
      · have hrun := oz_t hrun c1
        have hr9 := Option.some.inj hrun
        subst hr9
        have ho9 : (w12.1, w12.2) = o12 := hnext
        subst ho9
        exact hexit _ _ _ (hP.sub [0, 1] rfl) (hD.sub [0, 1] (by decide) rfl) hS (lv_sub hl [0, 1, 2, 3, 4] rfl)
      · have hrun := oz_f hrun c1
        refine lv_aload_n hx hb dX8_readNumber_23 rfl (lv_at hl 2 rfl) ?_
        refine va_get (D := (dC, dI)) (ci := 8) (v := .ref q_letters) (C := RX8) (T := TX8) (N := 5) hx hb hts hiX8 hown hK hP 0 rfl rfl 0 (by decide) hk11 (fun _ h9 => h9) rfl dX8_readNumber_24 ?_
        refine lv_aload_n hx hb dX8_readNumber_27 rfl (lv_at hl 2 rfl) ?_
        refine va_get (D := (dC, dI)) (ci := 8) (v := .int w12.2) (C := RX8) (T := TX8) (N := 5) hx hb hts hiX8 hown hK hP 0 rfl rfl 4 (by decide) hk25 (fun _ h9 => h9) rfl dX8_readNumber_28 ?_
        obtain ⟨c2, hrun⟩ := oz_chk hrun
        refine va_iald hx hb hK hP 1 0 rfl rfl c2 dX8_readNumber_31 ?_
        obtain ⟨y32, hc32, hrun⟩ := oz_bind hrun
        have hPc := hP.sub (ws' := []) [] rfl
        have hDc := hD.sub (ws' := []) [] (by decide) rfl
        have hFc := va_free (wc := []) hD hS hA [] rfl
        refine va_calli (va_runS (As := [.int (v_letters (Int32.toNatClampNeg w12.2))]) (rest := []) ⟨hx, hb, hml, hown, hts⟩ (tX8_isFigure l dC dI cI cZ H.size (v_letters (Int32.toNatClampNeg w12.2)) y32 hc32) (va_cwS 1 hts gX8_readNumber_X8_isFigure rfl rfl rfl (by decide +kernel) ⟨Nat.le_of_ble_eq_true rfl, Nat.le_of_ble_eq_true rfl⟩) ⟨fun a U g mk q => by obtain ⟨q0, q1, qP, qK, qD⟩ := q; exact ⟨q0, q1, qP, va_K.moved (u := U) (U := U.calling g mk a) (Vm.Alike.refl U.vm) qK, qD⟩, fun U hU hW => ⟨rfl, by rw [hU], by rw [hU]; exact hPc, va_K.moved hW.alike hK, hDc.weaken (fun _ _ _ _ => trivial)⟩⟩ rfl rfl hl.1 rfl (lv_room (Nat.le_of_ble_eq_true rfl)) dX8_readNumber_32 ⟨Nat.le_of_ble_eq_true rfl, Nat.le_of_ble_eq_true rfl⟩) hS (fun q _ h => hFc q h) hFc (fun r32 u9 t9 H1 locs ht9 hvm9 hw9 hB9 hz9 hkk9 hS => ?_)
        have hw9 : y32 = r32 := hw9.symm
        subst hw9
        obtain ⟨hP9, hK9, hD9⟩ := hB9
        rw [ht9] at hP9
        obtain ⟨hP, hD⟩ := va_join (wr := [(q_this, .inr (8, [.ref q_letters, .int v_length, .int v_faultKind, .int v_faultAt, .int w12.2])), (q_letters, .inl (cI, 200, .inl v_letters))]) (w1 := []) hP hD [] [0, 1] rfl rfl (by decide) (by decide) hkk9 hFc hP9 hD9
        generalize H1 = H at hP hS ⊢
        have hP : va_P (dC, dI) vwCl [(q_this, .inr (8, [.ref q_letters, .int v_length, .int v_faultKind, .int v_faultAt, .int w12.2])), (q_letters, .inl (cI, 200, .inl v_letters))] H := hP
        have hD : va_D A [(q_this, .inr (8, [.ref q_letters, .int v_length, .int v_faultKind, .int v_faultAt, .int w12.2])), (q_letters, .inl (cI, 200, .inl v_letters))] := hD
        refine lv_if_eq (tgt := 81) hx hb dX8_readNumber_35 (by decide) (fun c3 => ?_) (fun c3 => ?_)
        · have hrun := oz_t hrun c3
          have hr9 := Option.some.inj hrun
          subst hr9
          have ho9 : (w12.1, w12.2) = o12 := hnext
          subst ho9
          exact hexit _ _ _ (hP.sub [0, 1] rfl) (hD.sub [0, 1] (by decide) rfl) hS (lv_sub hl [0, 1, 2, 3, 4] rfl)
        · have hrun := oz_f hrun c3
          refine lv_aload_n hx hb dX8_readNumber_38 rfl (lv_at hl 2 rfl) ?_
          refine va_get (D := (dC, dI)) (ci := 8) (v := .int w12.2) (C := RX8) (T := TX8) (N := 5) hx hb hts hiX8 hown hK hP 0 rfl rfl 4 (by decide) hk25 (fun _ h9 => h9) rfl dX8_readNumber_39 ?_
          refine lv_iload_n hx hb dX8_readNumber_42 rfl (lv_at hl 1 rfl) ?_
          refine lv_isub hx hb dX8_readNumber_43 ?_
          refine lv_iconst (v := 3) hx hb dX8_readNumber_44 (by decide) ?_
          refine lv_icmp_ge (tgt := 68) hx hb dX8_readNumber_45 (by decide) (fun c4 => ?_) (fun c4 => ?_)
          · have hrun := oz_t hrun c4
            refine lv_aload_n hx hb dX8_readNumber_68 rfl (lv_at hl 2 rfl) ?_
            refine lv_dup hx hb dX8_readNumber_69 rfl ?_
            refine va_get (D := (dC, dI)) (ci := 8) (v := .int w12.2) (C := RX8) (T := TX8) (N := 5) hx hb hts hiX8 hown hK hP 0 rfl rfl 4 (by decide) hk25 (fun _ h9 => h9) rfl dX8_readNumber_70 ?_
            refine lv_iconst (v := 1) hx hb dX8_readNumber_73 (by decide) ?_
            refine lv_iadd hx hb dX8_readNumber_74 ?_
            refine va_put (D := (dC, dI)) (ci := 8) (v := .int (w12.2 + 1)) (ty := .int) (C := RX8) (T := TX8) (N := 5) hx hb hts hiX8 tyX8 tyX8_ok nmX8 hown hK hP hD hS 0 rfl rfl 4 (by decide) hk25 (fun _ h9 => h9) rfl (by decide +kernel) rfl rfl (Nat.le_of_ble_eq_true rfl) dX8_readNumber_75 (fun H locs hP hD hS => ?_)
            have hP : va_P (dC, dI) vwCl [(q_this, .inr (8, [.ref q_letters, .int v_length, .int v_faultKind, .int v_faultAt, .int (w12.2 + 1)])), (q_letters, .inl (cI, 200, .inl v_letters))] H := hP
            have hD : va_D A [(q_this, .inr (8, [.ref q_letters, .int v_length, .int v_faultKind, .int v_faultAt, .int (w12.2 + 1)])), (q_letters, .inl (cI, 200, .inl v_letters))] := hD
            refine lv_goto (tgt := 12) hx hb dX8_readNumber_78 (by decide) ?_
            have hr9 := Option.some.inj hrun
            subst hr9
            exact ih (w12.1, (w12.2 + 1)) _ hnext hexit _ _ _ (hP.sub [0, 1] rfl) (hD.sub [0, 1] (by decide) rfl) hS (lv_sub hl [0, 1, 2, 3, 4] rfl)
          · have hrun := oz_f hrun c4
            refine lv_iload hx hb dX8_readNumber_48 (lv_at hl 0 rfl) ?_
            refine lv_bipush (v := 10) hx hb dX8_readNumber_50 (by decide) ?_
            refine lv_imul hx hb dX8_readNumber_52 ?_
            refine lv_aload_n hx hb dX8_readNumber_53 rfl (lv_at hl 2 rfl) ?_
            refine va_get (D := (dC, dI)) (ci := 8) (v := .ref q_letters) (C := RX8) (T := TX8) (N := 5) hx hb hts hiX8 hown hK hP 0 rfl rfl 0 (by decide) hk11 (fun _ h9 => h9) rfl dX8_readNumber_54 ?_
            refine lv_aload_n hx hb dX8_readNumber_57 rfl (lv_at hl 2 rfl) ?_
            refine va_get (D := (dC, dI)) (ci := 8) (v := .int w12.2) (C := RX8) (T := TX8) (N := 5) hx hb hts hiX8 hown hK hP 0 rfl rfl 4 (by decide) hk25 (fun _ h9 => h9) rfl dX8_readNumber_58 ?_
            refine va_iald hx hb hK hP 1 0 rfl rfl c2 dX8_readNumber_61 ?_
            refine lv_iadd hx hb dX8_readNumber_62 ?_
            refine lv_bipush (v := 48) hx hb dX8_readNumber_63 (by decide) ?_
            refine lv_isub hx hb dX8_readNumber_65 ?_
            refine lv_istore (lv' := [(4, .int (((w12.1 * 10) + (v_letters (Int32.toNatClampNeg w12.2))) - 48)), (3, .int y1), (0, .ref q_this), (1, .int a1), (2, .int a2)]) hx hb dX8_readNumber_66 hl (by decide) rfl (fun ls hl => ?_)
            refine lv_aload_n hx hb dX8_readNumber_68 rfl (lv_at hl 2 rfl) ?_
            refine lv_dup hx hb dX8_readNumber_69 rfl ?_
            refine va_get (D := (dC, dI)) (ci := 8) (v := .int w12.2) (C := RX8) (T := TX8) (N := 5) hx hb hts hiX8 hown hK hP 0 rfl rfl 4 (by decide) hk25 (fun _ h9 => h9) rfl dX8_readNumber_70 ?_
            refine lv_iconst (v := 1) hx hb dX8_readNumber_73 (by decide) ?_
            refine lv_iadd hx hb dX8_readNumber_74 ?_
            refine va_put (D := (dC, dI)) (ci := 8) (v := .int (w12.2 + 1)) (ty := .int) (C := RX8) (T := TX8) (N := 5) hx hb hts hiX8 tyX8 tyX8_ok nmX8 hown hK hP hD hS 0 rfl rfl 4 (by decide) hk25 (fun _ h9 => h9) rfl (by decide +kernel) rfl rfl (Nat.le_of_ble_eq_true rfl) dX8_readNumber_75 (fun H locs hP hD hS => ?_)
            have hP : va_P (dC, dI) vwCl [(q_this, .inr (8, [.ref q_letters, .int v_length, .int v_faultKind, .int v_faultAt, .int (w12.2 + 1)])), (q_letters, .inl (cI, 200, .inl v_letters))] H := hP
            have hD : va_D A [(q_this, .inr (8, [.ref q_letters, .int v_length, .int v_faultKind, .int v_faultAt, .int (w12.2 + 1)])), (q_letters, .inl (cI, 200, .inl v_letters))] := hD
            refine lv_goto (tgt := 12) hx hb dX8_readNumber_78 (by decide) ?_
            have hr9 := Option.some.inj hrun
            subst hr9
            exact ih ((((w12.1 * 10) + (v_letters (Int32.toNatClampNeg w12.2))) - 48), (w12.2 + 1)) _ hnext hexit _ _ _ (hP.sub [0, 1] rfl) (hD.sub [0, 1] (by decide) rfl) hS (lv_sub hl [0, 1, 2, 3, 4] rfl)
  refine hL12 oz_fuel (0, y1) o12 hlp12 (fun H locs ls hP hD hS hl => ?_) _ _ _ (hP.sub [0, 1] rfl) (hD.sub [0, 1] (by decide) rfl) hS (lv_sub hl [0, 1, 2, 3, 4] rfl)
  have hP : va_P (dC, dI) vwCl [(q_this, .inr (8, [.ref q_letters, .int v_length, .int v_faultKind, .int v_faultAt, .int o12.2])), (q_letters, .inl (cI, 200, .inl v_letters))] H := hP
  have hD : va_D A [(q_this, .inr (8, [.ref q_letters, .int v_length, .int v_faultKind, .int v_faultAt, .int o12.2])), (q_letters, .inl (cI, 200, .inl v_letters))] := hD
  have hl : lv_has ls 5 [(4, .int o12.1), (3, .int y1), (0, .ref q_this), (1, .int a1), (2, .int a2)] := hl
  refine lv_aload_n hx hb dX8_readNumber_81 rfl (lv_at hl 2 rfl) ?_
  refine va_get (D := (dC, dI)) (ci := 8) (v := .int o12.2) (C := RX8) (T := TX8) (N := 5) hx hb hts hiX8 hown hK hP 0 rfl rfl 4 (by decide) hk25 (fun _ h9 => h9) rfl dX8_readNumber_82 ?_
  refine lv_iload_n hx hb dX8_readNumber_85 rfl (lv_at hl 1 rfl) ?_
  refine lv_icmp_ne (tgt := 98) hx hb dX8_readNumber_86 (by decide) (fun c5 => ?_) (fun c5 => ?_)
  · have hrun := oz_f hrun c5
    refine lv_aload_n hx hb dX8_readNumber_98 rfl (lv_at hl 2 rfl) ?_
    refine va_get (D := (dC, dI)) (ci := 8) (v := .int o12.2) (C := RX8) (T := TX8) (N := 5) hx hb hts hiX8 hown hK hP 0 rfl rfl 4 (by decide) hk25 (fun _ h9 => h9) rfl dX8_readNumber_99 ?_
    refine lv_iload_n hx hb dX8_readNumber_102 rfl (lv_at hl 1 rfl) ?_
    refine lv_isub hx hb dX8_readNumber_103 ?_
    refine lv_iconst (v := 3) hx hb dX8_readNumber_104 (by decide) ?_
    refine lv_icmp_gt (tgt := 120) hx hb dX8_readNumber_105 (by decide) (fun c6 => ?_) (fun c6 => ?_)
    · have hrun := oz_t hrun c6
      refine lv_aload_n hx hb dX8_readNumber_120 rfl (lv_at hl 2 rfl) ?_
      refine lv_iconst (v := 2) hx hb dX8_readNumber_121 (by decide) ?_
      refine lv_iload_n hx hb dX8_readNumber_122 rfl (lv_at hl 1 rfl) ?_
      obtain ⟨y123, hc123, hrun⟩ := oz_bind hrun
      have hPc := hP.sub (ws' := [(q_this, .inr (8, [.ref q_letters, .int v_length, .int v_faultKind, .int v_faultAt, .int o12.2]))]) [0] rfl
      have hDc := hD.sub (ws' := [(q_this, .inr (8, [.ref q_letters, .int v_length, .int v_faultKind, .int v_faultAt, .int o12.2]))]) [0] (by decide) rfl
      have hFc := va_free (wc := [(q_this, .inr (8, [.ref q_letters, .int v_length, .int v_faultKind, .int v_faultAt, .int o12.2]))]) hD hS hA [0] rfl
      refine va_callv (va_runV (As := [.int 2, .int y1]) (rest := []) ⟨hx, hb, hml, hown, hts⟩ (tX8_blame l dC dI cI cZ q_letters q_this H.size v_length o12.2 v_faultKind v_faultAt 2 y1 y123 hc123) (cwV 2 hts gX8_readNumber_X8_blame rfl rfl rfl (by decide +kernel) ⟨Nat.le_of_ble_eq_true rfl, Nat.le_of_ble_eq_true rfl⟩) ⟨fun a U g mk q => by obtain ⟨q0, q1, qP, qK, qD⟩ := q; exact ⟨q0, q1, qP, va_K.moved (u := U) (U := U.calling g mk a) (Vm.Alike.refl U.vm) qK, qD⟩, va_recv hK hPc (ci := 8) (q0 := 0) rfl rfl, fun U hU hW => ⟨rfl, by rw [hU], by rw [hU]; exact hPc, va_K.moved hW.alike hK, hDc.weaken (fun _ _ _ _ => trivial)⟩⟩ rfl rfl hl.1 rfl (lv_room (Nat.le_of_ble_eq_true rfl)) dX8_readNumber_123 ⟨Nat.le_of_ble_eq_true rfl, Nat.le_of_ble_eq_true rfl⟩) hS (fun q _ h => hFc q h) hFc (fun u9 t9 H1 locs ht9 hvm9 hw9 hB9 hz9 hkk9 hS => ?_)
      obtain ⟨hP9, hK9, hD9⟩ := hB9
      rw [ht9] at hP9
      obtain ⟨hP, hD⟩ := va_join (wr := [(q_letters, .inl (cI, 200, .inl v_letters))]) (w1 := [(q_this, .inr (8, [.ref q_letters, .int v_length, .int y123.1, .int y123.2, .int o12.2]))]) hP hD [0] [1] rfl rfl (by decide) (by decide) hkk9 hFc hP9 hD9
      generalize H1 = H at hP hS ⊢
      have hP : va_P (dC, dI) vwCl [(q_letters, .inl (cI, 200, .inl v_letters)), (q_this, .inr (8, [.ref q_letters, .int v_length, .int y123.1, .int y123.2, .int o12.2]))] H := hP
      have hD : va_D A [(q_letters, .inl (cI, 200, .inl v_letters)), (q_this, .inr (8, [.ref q_letters, .int v_length, .int y123.1, .int y123.2, .int o12.2]))] := hD
      refine lv_iload hx hb dX8_readNumber_126 (lv_at hl 0 rfl) ?_
      have ho9 := Option.some.inj hrun
      subst ho9
      have hP9 := hP.sub (ws' := [(q_this, .inr (8, [.ref q_letters, .int v_length, .int y123.1, .int y123.2, .int o12.2])), (q_letters, .inl (cI, 200, .inl v_letters))]) [1, 0] rfl
      have hD9 := hD.sub (ws' := [(q_this, .inr (8, [.ref q_letters, .int v_length, .int y123.1, .int y123.2, .int o12.2])), (q_letters, .inl (cI, 200, .inl v_letters))]) [1, 0] (by decide) rfl
      rw [hQ]
      exact W.iret (v := o12.1) hx hb hr (fun t ht hW => ⟨⟨o12.1, (), rfl, rfl, by rw [ht]; exact hP9, va_K.moved hW.alike hK, hD9⟩, hS.F ht⟩) hS.2.2 dX8_readNumber_128
    · have hrun := oz_f hrun c6
      refine lv_iload hx hb dX8_readNumber_108 (lv_at hl 0 rfl) ?_
      refine lv_iload_n hx hb dX8_readNumber_110 rfl (lv_at hl 3 rfl) ?_
      refine lv_icmp_lt (tgt := 120) hx hb dX8_readNumber_111 (by decide) (fun c7 => ?_) (fun c7 => ?_)
      · have hrun := oz_t hrun c7
        refine lv_aload_n hx hb dX8_readNumber_120 rfl (lv_at hl 2 rfl) ?_
        refine lv_iconst (v := 2) hx hb dX8_readNumber_121 (by decide) ?_
        refine lv_iload_n hx hb dX8_readNumber_122 rfl (lv_at hl 1 rfl) ?_
        obtain ⟨y123, hc123, hrun⟩ := oz_bind hrun
        have hPc := hP.sub (ws' := [(q_this, .inr (8, [.ref q_letters, .int v_length, .int v_faultKind, .int v_faultAt, .int o12.2]))]) [0] rfl
        have hDc := hD.sub (ws' := [(q_this, .inr (8, [.ref q_letters, .int v_length, .int v_faultKind, .int v_faultAt, .int o12.2]))]) [0] (by decide) rfl
        have hFc := va_free (wc := [(q_this, .inr (8, [.ref q_letters, .int v_length, .int v_faultKind, .int v_faultAt, .int o12.2]))]) hD hS hA [0] rfl
        refine va_callv (va_runV (As := [.int 2, .int y1]) (rest := []) ⟨hx, hb, hml, hown, hts⟩ (tX8_blame l dC dI cI cZ q_letters q_this H.size v_length o12.2 v_faultKind v_faultAt 2 y1 y123 hc123) (cwV 2 hts gX8_readNumber_X8_blame rfl rfl rfl (by decide +kernel) ⟨Nat.le_of_ble_eq_true rfl, Nat.le_of_ble_eq_true rfl⟩) ⟨fun a U g mk q => by obtain ⟨q0, q1, qP, qK, qD⟩ := q; exact ⟨q0, q1, qP, va_K.moved (u := U) (U := U.calling g mk a) (Vm.Alike.refl U.vm) qK, qD⟩, va_recv hK hPc (ci := 8) (q0 := 0) rfl rfl, fun U hU hW => ⟨rfl, by rw [hU], by rw [hU]; exact hPc, va_K.moved hW.alike hK, hDc.weaken (fun _ _ _ _ => trivial)⟩⟩ rfl rfl hl.1 rfl (lv_room (Nat.le_of_ble_eq_true rfl)) dX8_readNumber_123 ⟨Nat.le_of_ble_eq_true rfl, Nat.le_of_ble_eq_true rfl⟩) hS (fun q _ h => hFc q h) hFc (fun u9 t9 H1 locs ht9 hvm9 hw9 hB9 hz9 hkk9 hS => ?_)
        obtain ⟨hP9, hK9, hD9⟩ := hB9
        rw [ht9] at hP9
        obtain ⟨hP, hD⟩ := va_join (wr := [(q_letters, .inl (cI, 200, .inl v_letters))]) (w1 := [(q_this, .inr (8, [.ref q_letters, .int v_length, .int y123.1, .int y123.2, .int o12.2]))]) hP hD [0] [1] rfl rfl (by decide) (by decide) hkk9 hFc hP9 hD9
        generalize H1 = H at hP hS ⊢
        have hP : va_P (dC, dI) vwCl [(q_letters, .inl (cI, 200, .inl v_letters)), (q_this, .inr (8, [.ref q_letters, .int v_length, .int y123.1, .int y123.2, .int o12.2]))] H := hP
        have hD : va_D A [(q_letters, .inl (cI, 200, .inl v_letters)), (q_this, .inr (8, [.ref q_letters, .int v_length, .int y123.1, .int y123.2, .int o12.2]))] := hD
        refine lv_iload hx hb dX8_readNumber_126 (lv_at hl 0 rfl) ?_
        have ho9 := Option.some.inj hrun
        subst ho9
        have hP9 := hP.sub (ws' := [(q_this, .inr (8, [.ref q_letters, .int v_length, .int y123.1, .int y123.2, .int o12.2])), (q_letters, .inl (cI, 200, .inl v_letters))]) [1, 0] rfl
        have hD9 := hD.sub (ws' := [(q_this, .inr (8, [.ref q_letters, .int v_length, .int y123.1, .int y123.2, .int o12.2])), (q_letters, .inl (cI, 200, .inl v_letters))]) [1, 0] (by decide) rfl
        rw [hQ]
        exact W.iret (v := o12.1) hx hb hr (fun t ht hW => ⟨⟨o12.1, (), rfl, rfl, by rw [ht]; exact hP9, va_K.moved hW.alike hK, hD9⟩, hS.F ht⟩) hS.2.2 dX8_readNumber_128
      · have hrun := oz_f hrun c7
        refine lv_iload hx hb dX8_readNumber_114 (lv_at hl 0 rfl) ?_
        refine lv_iload_n hx hb dX8_readNumber_116 rfl (lv_at hl 4 rfl) ?_
        refine lv_icmp_le (tgt := 126) hx hb dX8_readNumber_117 (by decide) (fun c8 => ?_) (fun c8 => ?_)
        · have hrun := oz_t hrun c8
          refine lv_iload hx hb dX8_readNumber_126 (lv_at hl 0 rfl) ?_
          have ho9 := Option.some.inj hrun
          subst ho9
          have hP9 := hP.sub (ws' := [(q_this, .inr (8, [.ref q_letters, .int v_length, .int v_faultKind, .int v_faultAt, .int o12.2])), (q_letters, .inl (cI, 200, .inl v_letters))]) [0, 1] rfl
          have hD9 := hD.sub (ws' := [(q_this, .inr (8, [.ref q_letters, .int v_length, .int v_faultKind, .int v_faultAt, .int o12.2])), (q_letters, .inl (cI, 200, .inl v_letters))]) [0, 1] (by decide) rfl
          rw [hQ]
          exact W.iret (v := o12.1) hx hb hr (fun t ht hW => ⟨⟨o12.1, (), rfl, rfl, by rw [ht]; exact hP9, va_K.moved hW.alike hK, hD9⟩, hS.F ht⟩) hS.2.2 dX8_readNumber_128
        · have hrun := oz_f hrun c8
          refine lv_aload_n hx hb dX8_readNumber_120 rfl (lv_at hl 2 rfl) ?_
          refine lv_iconst (v := 2) hx hb dX8_readNumber_121 (by decide) ?_
          refine lv_iload_n hx hb dX8_readNumber_122 rfl (lv_at hl 1 rfl) ?_
          obtain ⟨y123, hc123, hrun⟩ := oz_bind hrun
          have hPc := hP.sub (ws' := [(q_this, .inr (8, [.ref q_letters, .int v_length, .int v_faultKind, .int v_faultAt, .int o12.2]))]) [0] rfl
          have hDc := hD.sub (ws' := [(q_this, .inr (8, [.ref q_letters, .int v_length, .int v_faultKind, .int v_faultAt, .int o12.2]))]) [0] (by decide) rfl
          have hFc := va_free (wc := [(q_this, .inr (8, [.ref q_letters, .int v_length, .int v_faultKind, .int v_faultAt, .int o12.2]))]) hD hS hA [0] rfl
          refine va_callv (va_runV (As := [.int 2, .int y1]) (rest := []) ⟨hx, hb, hml, hown, hts⟩ (tX8_blame l dC dI cI cZ q_letters q_this H.size v_length o12.2 v_faultKind v_faultAt 2 y1 y123 hc123) (cwV 2 hts gX8_readNumber_X8_blame rfl rfl rfl (by decide +kernel) ⟨Nat.le_of_ble_eq_true rfl, Nat.le_of_ble_eq_true rfl⟩) ⟨fun a U g mk q => by obtain ⟨q0, q1, qP, qK, qD⟩ := q; exact ⟨q0, q1, qP, va_K.moved (u := U) (U := U.calling g mk a) (Vm.Alike.refl U.vm) qK, qD⟩, va_recv hK hPc (ci := 8) (q0 := 0) rfl rfl, fun U hU hW => ⟨rfl, by rw [hU], by rw [hU]; exact hPc, va_K.moved hW.alike hK, hDc.weaken (fun _ _ _ _ => trivial)⟩⟩ rfl rfl hl.1 rfl (lv_room (Nat.le_of_ble_eq_true rfl)) dX8_readNumber_123 ⟨Nat.le_of_ble_eq_true rfl, Nat.le_of_ble_eq_true rfl⟩) hS (fun q _ h => hFc q h) hFc (fun u9 t9 H1 locs ht9 hvm9 hw9 hB9 hz9 hkk9 hS => ?_)
          obtain ⟨hP9, hK9, hD9⟩ := hB9
          rw [ht9] at hP9
          obtain ⟨hP, hD⟩ := va_join (wr := [(q_letters, .inl (cI, 200, .inl v_letters))]) (w1 := [(q_this, .inr (8, [.ref q_letters, .int v_length, .int y123.1, .int y123.2, .int o12.2]))]) hP hD [0] [1] rfl rfl (by decide) (by decide) hkk9 hFc hP9 hD9
          generalize H1 = H at hP hS ⊢
          have hP : va_P (dC, dI) vwCl [(q_letters, .inl (cI, 200, .inl v_letters)), (q_this, .inr (8, [.ref q_letters, .int v_length, .int y123.1, .int y123.2, .int o12.2]))] H := hP
          have hD : va_D A [(q_letters, .inl (cI, 200, .inl v_letters)), (q_this, .inr (8, [.ref q_letters, .int v_length, .int y123.1, .int y123.2, .int o12.2]))] := hD
          refine lv_iload hx hb dX8_readNumber_126 (lv_at hl 0 rfl) ?_
          have ho9 := Option.some.inj hrun
          subst ho9
          have hP9 := hP.sub (ws' := [(q_this, .inr (8, [.ref q_letters, .int v_length, .int y123.1, .int y123.2, .int o12.2])), (q_letters, .inl (cI, 200, .inl v_letters))]) [1, 0] rfl
          have hD9 := hD.sub (ws' := [(q_this, .inr (8, [.ref q_letters, .int v_length, .int y123.1, .int y123.2, .int o12.2])), (q_letters, .inl (cI, 200, .inl v_letters))]) [1, 0] (by decide) rfl
          rw [hQ]
          exact W.iret (v := o12.1) hx hb hr (fun t ht hW => ⟨⟨o12.1, (), rfl, rfl, by rw [ht]; exact hP9, va_K.moved hW.alike hK, hD9⟩, hS.F ht⟩) hS.2.2 dX8_readNumber_128
  · have hrun := oz_t hrun c5
    refine lv_aload_n hx hb dX8_readNumber_89 rfl (lv_at hl 2 rfl) ?_
    refine lv_iconst (v := 1) hx hb dX8_readNumber_90 (by decide) ?_
    refine lv_iload_n hx hb dX8_readNumber_91 rfl (lv_at hl 1 rfl) ?_
    obtain ⟨y92, hc92, hrun⟩ := oz_bind hrun
    have hPc := hP.sub (ws' := [(q_this, .inr (8, [.ref q_letters, .int v_length, .int v_faultKind, .int v_faultAt, .int o12.2]))]) [0] rfl
    have hDc := hD.sub (ws' := [(q_this, .inr (8, [.ref q_letters, .int v_length, .int v_faultKind, .int v_faultAt, .int o12.2]))]) [0] (by decide) rfl
    have hFc := va_free (wc := [(q_this, .inr (8, [.ref q_letters, .int v_length, .int v_faultKind, .int v_faultAt, .int o12.2]))]) hD hS hA [0] rfl
    refine va_callv (va_runV (As := [.int 1, .int y1]) (rest := []) ⟨hx, hb, hml, hown, hts⟩ (tX8_blame l dC dI cI cZ q_letters q_this H.size v_length o12.2 v_faultKind v_faultAt 1 y1 y92 hc92) (cwV 2 hts gX8_readNumber_X8_blame rfl rfl rfl (by decide +kernel) ⟨Nat.le_of_ble_eq_true rfl, Nat.le_of_ble_eq_true rfl⟩) ⟨fun a U g mk q => by obtain ⟨q0, q1, qP, qK, qD⟩ := q; exact ⟨q0, q1, qP, va_K.moved (u := U) (U := U.calling g mk a) (Vm.Alike.refl U.vm) qK, qD⟩, va_recv hK hPc (ci := 8) (q0 := 0) rfl rfl, fun U hU hW => ⟨rfl, by rw [hU], by rw [hU]; exact hPc, va_K.moved hW.alike hK, hDc.weaken (fun _ _ _ _ => trivial)⟩⟩ rfl rfl hl.1 rfl (lv_room (Nat.le_of_ble_eq_true rfl)) dX8_readNumber_92 ⟨Nat.le_of_ble_eq_true rfl, Nat.le_of_ble_eq_true rfl⟩) hS (fun q _ h => hFc q h) hFc (fun u9 t9 H1 locs ht9 hvm9 hw9 hB9 hz9 hkk9 hS => ?_)
    obtain ⟨hP9, hK9, hD9⟩ := hB9
    rw [ht9] at hP9
    obtain ⟨hP, hD⟩ := va_join (wr := [(q_letters, .inl (cI, 200, .inl v_letters))]) (w1 := [(q_this, .inr (8, [.ref q_letters, .int v_length, .int y92.1, .int y92.2, .int o12.2]))]) hP hD [0] [1] rfl rfl (by decide) (by decide) hkk9 hFc hP9 hD9
    generalize H1 = H at hP hS ⊢
    have hP : va_P (dC, dI) vwCl [(q_letters, .inl (cI, 200, .inl v_letters)), (q_this, .inr (8, [.ref q_letters, .int v_length, .int y92.1, .int y92.2, .int o12.2]))] H := hP
    have hD : va_D A [(q_letters, .inl (cI, 200, .inl v_letters)), (q_this, .inr (8, [.ref q_letters, .int v_length, .int y92.1, .int y92.2, .int o12.2]))] := hD
    refine lv_goto (tgt := 126) hx hb dX8_readNumber_95 (by decide) ?_
    refine lv_iload hx hb dX8_readNumber_126 (lv_at hl 0 rfl) ?_
    have ho9 := Option.some.inj hrun
    subst ho9
    have hP9 := hP.sub (ws' := [(q_this, .inr (8, [.ref q_letters, .int v_length, .int y92.1, .int y92.2, .int o12.2])), (q_letters, .inl (cI, 200, .inl v_letters))]) [1, 0] rfl
    have hD9 := hD.sub (ws' := [(q_this, .inr (8, [.ref q_letters, .int v_length, .int y92.1, .int y92.2, .int o12.2])), (q_letters, .inl (cI, 200, .inl v_letters))]) [1, 0] (by decide) rfl
    rw [hQ]
    exact W.iret (v := o12.1) hx hb hr (fun t ht hW => ⟨⟨o12.1, (), rfl, rfl, by rw [ht]; exact hP9, va_K.moved hW.alike hK, hD9⟩, hS.F ht⟩) hS.2.2 dX8_readNumber_128
def fX8_readEnd (v_length : Int32) (v_faultKind : Int32) (v_faultAt : Int32) (v_at : Int32) (v_letters : Nat → Int32) : Option (Int32 × Int32 × Int32) :=
  Option.bind (fX8_skipBlanks v_length v_at v_letters) (fun y1 => Option.bind (fX8_letterHere v_length y1 v_letters 59) (fun y7 => if y7 = 0 then (Option.bind (fX8_blame v_faultKind v_faultAt 1 y1) (fun y19 => some (y19.1, y19.2, (y1 + 1)))) else (some (v_faultKind, v_faultAt, (y1 + 1)))))
def rmX8_readEnd : Room := { frames := 1, cells := 0, slots := 0, locals := 22 }
set_option maxHeartbeats 4000000 in
set_option maxRecDepth 100000 in
theorem tX8_readEnd (l : Launch) (dC : Nat → ClassId) (dI : Nat → Nat → Nat) (cI cZ : ClassId) (q_letters q_this : Nat) (sz : Nat) (v_length : Int32) (v_faultKind : Int32) (v_faultAt : Int32) (v_at : Int32) (v_letters : Nat → Int32) (out : Int32 × Int32 × Int32) (hrun : fX8_readEnd v_length v_faultKind v_faultAt v_at v_letters = some out) : Met l yX8_readEnd wsX8_readEnd rmX8_readEnd (va_Pc [.ref q_this] (fun U => U.heap.size = sz ∧ va_P (dC, dI) vwCl [(q_this, .inr (8, [.ref q_letters, .int v_length, .int v_faultKind, .int v_faultAt, .int v_at])), (q_letters, .inl (cI, 200, .inl v_letters))] U.heap ∧ va_K (dC, dI) vwCl [(cI, .int), (cZ, .boolean)] U ∧ va_D (fun _ => True) [(q_this, .inr (8, [.ref q_letters, .int v_length, .int v_faultKind, .int v_faultAt, .int v_at])), (q_letters, .inl (cI, 200, .inl v_letters))])) (va_Qv (fun _ : Unit => True) (fun _ t => va_P (dC, dI) vwCl [(q_this, .inr (8, [.ref q_letters, .int v_length, .int out.1, .int out.2.1, .int out.2.2])), (q_letters, .inl (cI, 200, .inl v_letters))] t.heap ∧ va_K (dC, dI) vwCl [(cI, .int), (cZ, .boolean)] t ∧ va_D (va_A [(q_this, .inr (8, [.ref q_letters, .int v_length, .int v_faultKind, .int v_faultAt, .int v_at])), (q_letters, .inl (cI, 200, .inl v_letters))] sz) [(q_this, .inr (8, [.ref q_letters, .int v_length, .int out.1, .int out.2.1, .int out.2.2])), (q_letters, .inl (cI, 200, .inl v_letters))]) (va_A [(q_this, .inr (8, [.ref q_letters, .int v_length, .int v_faultKind, .int v_faultAt, .int v_at])), (q_letters, .inl (cI, 200, .inl v_letters))] sz)) 0 0 (va_A [(q_this, .inr (8, [.ref q_letters, .int v_length, .int v_faultKind, .int v_faultAt, .int v_at])), (q_letters, .inl (cI, 200, .inl v_letters))] sz) := by
  refine Met.ofW (cc := cX8_readEnd) (maxL := 1) (ret := none) (by decide) rfl ?_
  intro p e s m args below meth c s₁ B hml hv
  obtain ⟨rfl, hsz, hP, hK, hD0⟩ := hv
  have hx := B.exec
  have hb := B.bytes
  have hr := B.returns
  have hts := atoms_spec (ws := wsX8_readEnd) B.pre
  have hown : s.vm.findClass RX8 = some m.cls := findClass_of_methodNamed B.named
  have hlocks := B.notSynchronized
  subst hsz
  have hD := hD0.self (sz := s.heap.size)
  generalize hAe : va_A [(q_this, .inr (8, [.ref q_letters, .int v_length, .int v_faultKind, .int v_faultAt, .int v_at])), (q_letters, .inl (cI, 200, .inl v_letters))] s.heap.size = A at hD ⊢
  have hA : ∀ q : Nat, s.heap.size ≤ q → A q := fun q h => by rw [← hAe]; exact Or.inr h
  have hS : va_S A s.heap s.heap [] := va_S.rf
  have hl := lv_entry ([.ref q_this]) (n := 1) (Nat.le_of_ble_eq_true rfl)
  rw [lg_entry_eq]
  generalize (lg_sl ([.ref q_this]) ++ List.replicate (1 - (lg_sl ([.ref q_this])).length) Slot.unset).toArray = ls at hl ⊢
  have hl : lv_has ls 1 [(0, .ref q_this)] := hl
  unfold fX8_readEnd at hrun
  have hk25 := hts (.fieldLink RX8 25 "LentDrains$Reader" "at" "I") (by decide +kernel)
  have hiX8 : ∀ w ∈ wsX80, w ∈ wsX8_readEnd := by decide +kernel
  refine oz_genQ (fun Q hQ => ?_)
  refine lv_aload_n hx hb dX8_readEnd_0 rfl (lv_at hl 0 rfl) ?_
  obtain ⟨y1, hc1, hrun⟩ := oz_bind hrun
  have hPc := hP.sub (ws' := [(q_this, .inr (8, [.ref q_letters, .int v_length, .int v_faultKind, .int v_faultAt, .int v_at])), (q_letters, .inl (cI, 200, .inl v_letters))]) [0, 1] rfl
  have hDc := hD.sub (ws' := [(q_this, .inr (8, [.ref q_letters, .int v_length, .int v_faultKind, .int v_faultAt, .int v_at])), (q_letters, .inl (cI, 200, .inl v_letters))]) [0, 1] (by decide) rfl
  have hFc := va_free (wc := [(q_this, .inr (8, [.ref q_letters, .int v_length, .int v_faultKind, .int v_faultAt, .int v_at])), (q_letters, .inl (cI, 200, .inl v_letters))]) hD hS hA [0, 1] rfl
  refine va_callv (va_runV (As := []) (rest := []) ⟨hx, hb, hml, hown, hts⟩ (tX8_skipBlanks l dC dI cI cZ q_letters q_this s.heap.size v_faultKind v_faultAt v_length v_at v_letters y1 hc1) (cwV 0 hts gX8_readEnd_X8_skipBlanks rfl rfl rfl (by decide +kernel) ⟨Nat.le_of_ble_eq_true rfl, Nat.le_of_ble_eq_true rfl⟩) ⟨fun a U g mk q => by obtain ⟨q0, q1, qP, qK, qD⟩ := q; exact ⟨q0, q1, qP, va_K.moved (u := U) (U := U.calling g mk a) (Vm.Alike.refl U.vm) qK, qD⟩, va_recv hK hPc (ci := 8) (q0 := 0) rfl rfl, fun U hU hW => ⟨rfl, by rw [hU], by rw [hU]; exact hPc, va_K.moved hW.alike hK, hDc.weaken (fun _ _ _ _ => trivial)⟩⟩ rfl rfl hl.1 rfl (lv_room (Nat.le_of_ble_eq_true rfl)) dX8_readEnd_1 ⟨Nat.le_of_ble_eq_true rfl, Nat.le_of_ble_eq_true rfl⟩) hS (fun q _ h => hFc q h) hFc (fun u9 t9 H1 locs ht9 hvm9 hw9 hB9 hz9 hkk9 hS => ?_)
  obtain ⟨hP9, hK9, hD9⟩ := hB9
  rw [ht9] at hP9
  obtain ⟨hP, hD⟩ := va_join (wr := []) (w1 := [(q_this, .inr (8, [.ref q_letters, .int v_length, .int v_faultKind, .int v_faultAt, .int y1])), (q_letters, .inl (cI, 200, .inl v_letters))]) hP hD [0, 1] [] rfl rfl (by decide) (by decide) hkk9 hFc hP9 hD9
  generalize H1 = H at hP hS ⊢
  have hP : va_P (dC, dI) vwCl [(q_this, .inr (8, [.ref q_letters, .int v_length, .int v_faultKind, .int v_faultAt, .int y1])), (q_letters, .inl (cI, 200, .inl v_letters))] H := hP
  have hD : va_D A [(q_this, .inr (8, [.ref q_letters, .int v_length, .int v_faultKind, .int v_faultAt, .int y1])), (q_letters, .inl (cI, 200, .inl v_letters))] := hD
  refine lv_aload_n hx hb dX8_readEnd_4 rfl (lv_at hl 0 rfl) ?_
  refine lv_bipush (v := 59) hx hb dX8_readEnd_5 (by decide) ?_
  obtain ⟨y7, hc7, hrun⟩ := oz_bind hrun
  have hPc := hP.sub (ws' := [(q_this, .inr (8, [.ref q_letters, .int v_length, .int v_faultKind, .int v_faultAt, .int y1])), (q_letters, .inl (cI, 200, .inl v_letters))]) [0, 1] rfl
  have hDc := hD.sub (ws' := [(q_this, .inr (8, [.ref q_letters, .int v_length, .int v_faultKind, .int v_faultAt, .int y1])), (q_letters, .inl (cI, 200, .inl v_letters))]) [0, 1] (by decide) rfl
  have hFc := va_free (wc := [(q_this, .inr (8, [.ref q_letters, .int v_length, .int v_faultKind, .int v_faultAt, .int y1])), (q_letters, .inl (cI, 200, .inl v_letters))]) hD hS hA [0, 1] rfl
  refine va_calli (va_runV (As := [.int 59]) (rest := []) ⟨hx, hb, hml, hown, hts⟩ (tX8_letterHere l dC dI cI cZ q_letters q_this H.size v_faultKind v_faultAt v_length y1 v_letters 59 y7 hc7) (cwV 1 hts gX8_readEnd_X8_letterHere rfl rfl rfl (by decide +kernel) ⟨Nat.le_of_ble_eq_true rfl, Nat.le_of_ble_eq_true rfl⟩) ⟨fun a U g mk q => by obtain ⟨q0, q1, qP, qK, qD⟩ := q; exact ⟨q0, q1, qP, va_K.moved (u := U) (U := U.calling g mk a) (Vm.Alike.refl U.vm) qK, qD⟩, va_recv hK hPc (ci := 8) (q0 := 0) rfl rfl, fun U hU hW => ⟨rfl, by rw [hU], by rw [hU]; exact hPc, va_K.moved hW.alike hK, hDc.weaken (fun _ _ _ _ => trivial)⟩⟩ rfl rfl hl.1 rfl (lv_room (Nat.le_of_ble_eq_true rfl)) dX8_readEnd_7 ⟨Nat.le_of_ble_eq_true rfl, Nat.le_of_ble_eq_true rfl⟩) hS (fun q _ h => hFc q h) hFc (fun r7 u9 t9 H1 locs ht9 hvm9 hw9 hB9 hz9 hkk9 hS => ?_)
  have hw9 : y7 = r7 := hw9.symm
  subst hw9
  obtain ⟨hP9, hK9, hD9⟩ := hB9
  rw [ht9] at hP9
  obtain ⟨hP, hD⟩ := va_join (wr := []) (w1 := [(q_this, .inr (8, [.ref q_letters, .int v_length, .int v_faultKind, .int v_faultAt, .int y1])), (q_letters, .inl (cI, 200, .inl v_letters))]) hP hD [0, 1] [] rfl rfl (by decide) (by decide) hkk9 hFc hP9 hD9
  generalize H1 = H at hP hS ⊢
  have hP : va_P (dC, dI) vwCl [(q_this, .inr (8, [.ref q_letters, .int v_length, .int v_faultKind, .int v_faultAt, .int y1])), (q_letters, .inl (cI, 200, .inl v_letters))] H := hP
  have hD : va_D A [(q_this, .inr (8, [.ref q_letters, .int v_length, .int v_faultKind, .int v_faultAt, .int y1])), (q_letters, .inl (cI, 200, .inl v_letters))] := hD
  refine lv_if_ne (tgt := 22) hx hb dX8_readEnd_10 (by decide) (fun c1 => ?_) (fun c1 => ?_)
  · have hrun := oz_f hrun c1
    refine lv_aload_n hx hb dX8_readEnd_22 rfl (lv_at hl 0 rfl) ?_
    refine lv_dup hx hb dX8_readEnd_23 rfl ?_
    refine va_get (D := (dC, dI)) (ci := 8) (v := .int y1) (C := RX8) (T := TX8) (N := 5) hx hb hts hiX8 hown hK hP 0 rfl rfl 4 (by decide) hk25 (fun _ h9 => h9) rfl dX8_readEnd_24 ?_
    refine lv_iconst (v := 1) hx hb dX8_readEnd_27 (by decide) ?_
    refine lv_iadd hx hb dX8_readEnd_28 ?_
    refine va_put (D := (dC, dI)) (ci := 8) (v := .int (y1 + 1)) (ty := .int) (C := RX8) (T := TX8) (N := 5) hx hb hts hiX8 tyX8 tyX8_ok nmX8 hown hK hP hD hS 0 rfl rfl 4 (by decide) hk25 (fun _ h9 => h9) rfl (by decide +kernel) rfl rfl (Nat.le_of_ble_eq_true rfl) dX8_readEnd_29 (fun H locs hP hD hS => ?_)
    have hP : va_P (dC, dI) vwCl [(q_this, .inr (8, [.ref q_letters, .int v_length, .int v_faultKind, .int v_faultAt, .int (y1 + 1)])), (q_letters, .inl (cI, 200, .inl v_letters))] H := hP
    have hD : va_D A [(q_this, .inr (8, [.ref q_letters, .int v_length, .int v_faultKind, .int v_faultAt, .int (y1 + 1)])), (q_letters, .inl (cI, 200, .inl v_letters))] := hD
    have ho9 := Option.some.inj hrun
    subst ho9
    have hP9 := hP.sub (ws' := [(q_this, .inr (8, [.ref q_letters, .int v_length, .int v_faultKind, .int v_faultAt, .int (y1 + 1)])), (q_letters, .inl (cI, 200, .inl v_letters))]) [0, 1] rfl
    have hD9 := hD.sub (ws' := [(q_this, .inr (8, [.ref q_letters, .int v_length, .int v_faultKind, .int v_faultAt, .int (y1 + 1)])), (q_letters, .inl (cI, 200, .inl v_letters))]) [0, 1] (by decide) rfl
    rw [hQ]
    exact W.vret hx hb hr (fun t ht hW => ⟨⟨(), rfl, trivial, by rw [ht]; exact hP9, va_K.moved hW.alike hK, hD9⟩, hS.F ht⟩) hS.2.2 dX8_readEnd_32
  · have hrun := oz_t hrun c1
    refine lv_aload_n hx hb dX8_readEnd_13 rfl (lv_at hl 0 rfl) ?_
    refine lv_iconst (v := 1) hx hb dX8_readEnd_14 (by decide) ?_
    refine lv_aload_n hx hb dX8_readEnd_15 rfl (lv_at hl 0 rfl) ?_
    refine va_get (D := (dC, dI)) (ci := 8) (v := .int y1) (C := RX8) (T := TX8) (N := 5) hx hb hts hiX8 hown hK hP 0 rfl rfl 4 (by decide) hk25 (fun _ h9 => h9) rfl dX8_readEnd_16 ?_
    obtain ⟨y19, hc19, hrun⟩ := oz_bind hrun
    have hPc := hP.sub (ws' := [(q_this, .inr (8, [.ref q_letters, .int v_length, .int v_faultKind, .int v_faultAt, .int y1]))]) [0] rfl
    have hDc := hD.sub (ws' := [(q_this, .inr (8, [.ref q_letters, .int v_length, .int v_faultKind, .int v_faultAt, .int y1]))]) [0] (by decide) rfl
    have hFc := va_free (wc := [(q_this, .inr (8, [.ref q_letters, .int v_length, .int v_faultKind, .int v_faultAt, .int y1]))]) hD hS hA [0] rfl
    refine va_callv (va_runV (As := [.int 1, .int y1]) (rest := []) ⟨hx, hb, hml, hown, hts⟩ (tX8_blame l dC dI cI cZ q_letters q_this H.size v_length y1 v_faultKind v_faultAt 1 y1 y19 hc19) (cwV 2 hts gX8_readEnd_X8_blame rfl rfl rfl (by decide +kernel) ⟨Nat.le_of_ble_eq_true rfl, Nat.le_of_ble_eq_true rfl⟩) ⟨fun a U g mk q => by obtain ⟨q0, q1, qP, qK, qD⟩ := q; exact ⟨q0, q1, qP, va_K.moved (u := U) (U := U.calling g mk a) (Vm.Alike.refl U.vm) qK, qD⟩, va_recv hK hPc (ci := 8) (q0 := 0) rfl rfl, fun U hU hW => ⟨rfl, by rw [hU], by rw [hU]; exact hPc, va_K.moved hW.alike hK, hDc.weaken (fun _ _ _ _ => trivial)⟩⟩ rfl rfl hl.1 rfl (lv_room (Nat.le_of_ble_eq_true rfl)) dX8_readEnd_19 ⟨Nat.le_of_ble_eq_true rfl, Nat.le_of_ble_eq_true rfl⟩) hS (fun q _ h => hFc q h) hFc (fun u9 t9 H1 locs ht9 hvm9 hw9 hB9 hz9 hkk9 hS => ?_)
    obtain ⟨hP9, hK9, hD9⟩ := hB9
    rw [ht9] at hP9
    obtain ⟨hP, hD⟩ := va_join (wr := [(q_letters, .inl (cI, 200, .inl v_letters))]) (w1 := [(q_this, .inr (8, [.ref q_letters, .int v_length, .int y19.1, .int y19.2, .int y1]))]) hP hD [0] [1] rfl rfl (by decide) (by decide) hkk9 hFc hP9 hD9
    generalize H1 = H at hP hS ⊢
    have hP : va_P (dC, dI) vwCl [(q_letters, .inl (cI, 200, .inl v_letters)), (q_this, .inr (8, [.ref q_letters, .int v_length, .int y19.1, .int y19.2, .int y1]))] H := hP
    have hD : va_D A [(q_letters, .inl (cI, 200, .inl v_letters)), (q_this, .inr (8, [.ref q_letters, .int v_length, .int y19.1, .int y19.2, .int y1]))] := hD
    refine lv_aload_n hx hb dX8_readEnd_22 rfl (lv_at hl 0 rfl) ?_
    refine lv_dup hx hb dX8_readEnd_23 rfl ?_
    refine va_get (D := (dC, dI)) (ci := 8) (v := .int y1) (C := RX8) (T := TX8) (N := 5) hx hb hts hiX8 hown hK hP 1 rfl rfl 4 (by decide) hk25 (fun _ h9 => h9) rfl dX8_readEnd_24 ?_
    refine lv_iconst (v := 1) hx hb dX8_readEnd_27 (by decide) ?_
    refine lv_iadd hx hb dX8_readEnd_28 ?_
    refine va_put (D := (dC, dI)) (ci := 8) (v := .int (y1 + 1)) (ty := .int) (C := RX8) (T := TX8) (N := 5) hx hb hts hiX8 tyX8 tyX8_ok nmX8 hown hK hP hD hS 1 rfl rfl 4 (by decide) hk25 (fun _ h9 => h9) rfl (by decide +kernel) rfl rfl (Nat.le_of_ble_eq_true rfl) dX8_readEnd_29 (fun H locs hP hD hS => ?_)
    have hP : va_P (dC, dI) vwCl [(q_letters, .inl (cI, 200, .inl v_letters)), (q_this, .inr (8, [.ref q_letters, .int v_length, .int y19.1, .int y19.2, .int (y1 + 1)]))] H := hP
    have hD : va_D A [(q_letters, .inl (cI, 200, .inl v_letters)), (q_this, .inr (8, [.ref q_letters, .int v_length, .int y19.1, .int y19.2, .int (y1 + 1)]))] := hD
    have ho9 := Option.some.inj hrun
    subst ho9
    have hP9 := hP.sub (ws' := [(q_this, .inr (8, [.ref q_letters, .int v_length, .int y19.1, .int y19.2, .int (y1 + 1)])), (q_letters, .inl (cI, 200, .inl v_letters))]) [1, 0] rfl
    have hD9 := hD.sub (ws' := [(q_this, .inr (8, [.ref q_letters, .int v_length, .int y19.1, .int y19.2, .int (y1 + 1)])), (q_letters, .inl (cI, 200, .inl v_letters))]) [1, 0] (by decide) rfl
    rw [hQ]
    exact W.vret hx hb hr (fun t ht hW => ⟨⟨(), rfl, trivial, by rw [ht]; exact hP9, va_K.moved hW.alike hK, hD9⟩, hS.F ht⟩) hS.2.2 dX8_readEnd_32
def fX8_readLent (v_length : Int32) (v_faultKind : Int32) (v_faultAt : Int32) (v_at : Int32) (v_letters : Nat → Int32) (v_p1_stands : Int32) (v_p1_lent : Int32) (v_p1_pipe : Int32) : Option (Int32 × Int32 × Int32 × Int32 × Int32 × Int32) :=
  Option.bind (fX8_readNumber v_length v_faultKind v_faultAt (v_at + 1) v_letters 1 60) (fun y14 => Option.bind (fX8_readNumber v_length y14.2.1 y14.2.2.1 y14.2.2.2 v_letters 1 99) (fun y22 => Option.bind (fX8_readEnd v_length y22.2.1 y22.2.2.1 y22.2.2.2 v_letters) (fun y27 => if y27.1 = 0 then (Option.bind (fX6_begin v_p1_stands v_p1_lent v_p1_pipe y14.1 y22.1) (fun y40 => some (y27.1, y27.2.1, y27.2.2, y40.1, y40.2.1, y40.2.2))) else (some (y27.1, y27.2.1, y27.2.2, v_p1_stands, v_p1_lent, v_p1_pipe)))))
def rmX8_readLent : Room := { frames := 2, cells := 0, slots := 0, locals := 46 }
set_option maxHeartbeats 4000000 in
set_option maxRecDepth 100000 in
theorem tX8_readLent (l : Launch) (dC : Nat → ClassId) (dI : Nat → Nat → Nat) (cI cZ : ClassId) (q_letters q_p1 q_p1_above q_p1_daily q_p1_drain q_p1_room q_this : Nat) (sz : Nat) (v_p1_houses : Int32) (v_length : Int32) (v_faultKind : Int32) (v_faultAt : Int32) (v_at : Int32) (v_letters : Nat → Int32) (v_p1_stands : Int32) (v_p1_lent : Int32) (v_p1_pipe : Int32) (out : Int32 × Int32 × Int32 × Int32 × Int32 × Int32) (hrun : fX8_readLent v_length v_faultKind v_faultAt v_at v_letters v_p1_stands v_p1_lent v_p1_pipe = some out) : Met l yX8_readLent wsX8_readLent rmX8_readLent (va_Pc [.ref q_this, .ref q_p1] (fun U => U.heap.size = sz ∧ va_P (dC, dI) vwCl [(q_this, .inr (8, [.ref q_letters, .int v_length, .int v_faultKind, .int v_faultAt, .int v_at])), (q_letters, .inl (cI, 200, .inl v_letters)), (q_p1, .inr (6, [.int v_p1_stands, .int v_p1_lent, .int v_p1_pipe, .int v_p1_houses, .ref q_p1_room, .ref q_p1_daily, .ref q_p1_drain, .ref q_p1_above]))] U.heap ∧ va_K (dC, dI) vwCl [(cI, .int), (cZ, .boolean)] U ∧ va_D (fun _ => True) [(q_this, .inr (8, [.ref q_letters, .int v_length, .int v_faultKind, .int v_faultAt, .int v_at])), (q_letters, .inl (cI, 200, .inl v_letters)), (q_p1, .inr (6, [.int v_p1_stands, .int v_p1_lent, .int v_p1_pipe, .int v_p1_houses, .ref q_p1_room, .ref q_p1_daily, .ref q_p1_drain, .ref q_p1_above]))])) (va_Qv (fun _ : Unit => True) (fun _ t => va_P (dC, dI) vwCl [(q_this, .inr (8, [.ref q_letters, .int v_length, .int out.1, .int out.2.1, .int out.2.2.1])), (q_letters, .inl (cI, 200, .inl v_letters)), (q_p1, .inr (6, [.int out.2.2.2.1, .int out.2.2.2.2.1, .int out.2.2.2.2.2, .int v_p1_houses, .ref q_p1_room, .ref q_p1_daily, .ref q_p1_drain, .ref q_p1_above]))] t.heap ∧ va_K (dC, dI) vwCl [(cI, .int), (cZ, .boolean)] t ∧ va_D (va_A [(q_this, .inr (8, [.ref q_letters, .int v_length, .int v_faultKind, .int v_faultAt, .int v_at])), (q_letters, .inl (cI, 200, .inl v_letters)), (q_p1, .inr (6, [.int v_p1_stands, .int v_p1_lent, .int v_p1_pipe, .int v_p1_houses, .ref q_p1_room, .ref q_p1_daily, .ref q_p1_drain, .ref q_p1_above]))] sz) [(q_this, .inr (8, [.ref q_letters, .int v_length, .int out.1, .int out.2.1, .int out.2.2.1])), (q_letters, .inl (cI, 200, .inl v_letters)), (q_p1, .inr (6, [.int out.2.2.2.1, .int out.2.2.2.2.1, .int out.2.2.2.2.2, .int v_p1_houses, .ref q_p1_room, .ref q_p1_daily, .ref q_p1_drain, .ref q_p1_above]))]) (va_A [(q_this, .inr (8, [.ref q_letters, .int v_length, .int v_faultKind, .int v_faultAt, .int v_at])), (q_letters, .inl (cI, 200, .inl v_letters)), (q_p1, .inr (6, [.int v_p1_stands, .int v_p1_lent, .int v_p1_pipe, .int v_p1_houses, .ref q_p1_room, .ref q_p1_daily, .ref q_p1_drain, .ref q_p1_above]))] sz)) 0 0 (va_A [(q_this, .inr (8, [.ref q_letters, .int v_length, .int v_faultKind, .int v_faultAt, .int v_at])), (q_letters, .inl (cI, 200, .inl v_letters)), (q_p1, .inr (6, [.int v_p1_stands, .int v_p1_lent, .int v_p1_pipe, .int v_p1_houses, .ref q_p1_room, .ref q_p1_daily, .ref q_p1_drain, .ref q_p1_above]))] sz) := by
  refine Met.ofW (cc := cX8_readLent) (maxL := 4) (ret := none) (by decide) rfl ?_
  intro p e s m args below meth c s₁ B hml hv
  obtain ⟨rfl, hsz, hP, hK, hD0⟩ := hv
  have hx := B.exec
  have hb := B.bytes
  have hr := B.returns
  have hts := atoms_spec (ws := wsX8_readLent) B.pre
  have hown : s.vm.findClass RX8 = some m.cls := findClass_of_methodNamed B.named
  have hlocks := B.notSynchronized
  subst hsz
  have hD := hD0.self (sz := s.heap.size)
  generalize hAe : va_A [(q_this, .inr (8, [.ref q_letters, .int v_length, .int v_faultKind, .int v_faultAt, .int v_at])), (q_letters, .inl (cI, 200, .inl v_letters)), (q_p1, .inr (6, [.int v_p1_stands, .int v_p1_lent, .int v_p1_pipe, .int v_p1_houses, .ref q_p1_room, .ref q_p1_daily, .ref q_p1_drain, .ref q_p1_above]))] s.heap.size = A at hD ⊢
  have hA : ∀ q : Nat, s.heap.size ≤ q → A q := fun q h => by rw [← hAe]; exact Or.inr h
  have hS : va_S A s.heap s.heap [] := va_S.rf
  have hl := lv_entry ([.ref q_this, .ref q_p1]) (n := 4) (Nat.le_of_ble_eq_true rfl)
  rw [lg_entry_eq]
  generalize (lg_sl ([.ref q_this, .ref q_p1]) ++ List.replicate (4 - (lg_sl ([.ref q_this, .ref q_p1])).length) Slot.unset).toArray = ls at hl ⊢
  have hl : lv_has ls 4 [(0, .ref q_this), (1, .ref q_p1)] := hl
  unfold fX8_readLent at hrun
  have hk25 := hts (.fieldLink RX8 25 "LentDrains$Reader" "at" "I") (by decide +kernel)
  have hiX8 : ∀ w ∈ wsX80, w ∈ wsX8_readLent := by decide +kernel
  have hk19 := hts (.fieldLink RX8 19 "LentDrains$Reader" "faultKind" "I") (by decide +kernel)
  refine oz_genQ (fun Q hQ => ?_)
  refine lv_aload_n hx hb dX8_readLent_0 rfl (lv_at hl 0 rfl) ?_
  refine lv_dup hx hb dX8_readLent_1 rfl ?_
  refine va_get (D := (dC, dI)) (ci := 8) (v := .int v_at) (C := RX8) (T := TX8) (N := 5) hx hb hts hiX8 hown hK hP 0 rfl rfl 4 (by decide) hk25 (fun _ h9 => h9) rfl dX8_readLent_2 ?_
  refine lv_iconst (v := 1) hx hb dX8_readLent_5 (by decide) ?_
  refine lv_iadd hx hb dX8_readLent_6 ?_
  refine va_put (D := (dC, dI)) (ci := 8) (v := .int (v_at + 1)) (ty := .int) (C := RX8) (T := TX8) (N := 5) hx hb hts hiX8 tyX8 tyX8_ok nmX8 hown hK hP hD hS 0 rfl rfl 4 (by decide) hk25 (fun _ h9 => h9) rfl (by decide +kernel) rfl rfl (Nat.le_of_ble_eq_true rfl) dX8_readLent_7 (fun H locs hP hD hS => ?_)
  have hP : va_P (dC, dI) vwCl [(q_this, .inr (8, [.ref q_letters, .int v_length, .int v_faultKind, .int v_faultAt, .int (v_at + 1)])), (q_letters, .inl (cI, 200, .inl v_letters)), (q_p1, .inr (6, [.int v_p1_stands, .int v_p1_lent, .int v_p1_pipe, .int v_p1_houses, .ref q_p1_room, .ref q_p1_daily, .ref q_p1_drain, .ref q_p1_above]))] H := hP
  have hD : va_D A [(q_this, .inr (8, [.ref q_letters, .int v_length, .int v_faultKind, .int v_faultAt, .int (v_at + 1)])), (q_letters, .inl (cI, 200, .inl v_letters)), (q_p1, .inr (6, [.int v_p1_stands, .int v_p1_lent, .int v_p1_pipe, .int v_p1_houses, .ref q_p1_room, .ref q_p1_daily, .ref q_p1_drain, .ref q_p1_above]))] := hD
  refine lv_aload_n hx hb dX8_readLent_10 rfl (lv_at hl 0 rfl) ?_
  refine lv_iconst (v := 1) hx hb dX8_readLent_11 (by decide) ?_
  refine lv_bipush (v := 60) hx hb dX8_readLent_12 (by decide) ?_
  obtain ⟨y14, hc14, hrun⟩ := oz_bind hrun
  have hPc := hP.sub (ws' := [(q_this, .inr (8, [.ref q_letters, .int v_length, .int v_faultKind, .int v_faultAt, .int (v_at + 1)])), (q_letters, .inl (cI, 200, .inl v_letters))]) [0, 1] rfl
  have hDc := hD.sub (ws' := [(q_this, .inr (8, [.ref q_letters, .int v_length, .int v_faultKind, .int v_faultAt, .int (v_at + 1)])), (q_letters, .inl (cI, 200, .inl v_letters))]) [0, 1] (by decide) rfl
  have hFc := va_free (wc := [(q_this, .inr (8, [.ref q_letters, .int v_length, .int v_faultKind, .int v_faultAt, .int (v_at + 1)])), (q_letters, .inl (cI, 200, .inl v_letters))]) hD hS hA [0, 1] rfl
  refine va_calli (va_runV (As := [.int 1, .int 60]) (rest := []) ⟨hx, hb, hml, hown, hts⟩ (tX8_readNumber l dC dI cI cZ q_letters q_this H.size v_length v_faultKind v_faultAt (v_at + 1) v_letters 1 60 y14 hc14) (cwV 2 hts gX8_readLent_X8_readNumber rfl rfl rfl (by decide +kernel) ⟨Nat.le_of_ble_eq_true rfl, Nat.le_of_ble_eq_true rfl⟩) ⟨fun a U g mk q => by obtain ⟨q0, q1, qP, qK, qD⟩ := q; exact ⟨q0, q1, qP, va_K.moved (u := U) (U := U.calling g mk a) (Vm.Alike.refl U.vm) qK, qD⟩, va_recv hK hPc (ci := 8) (q0 := 0) rfl rfl, fun U hU hW => ⟨rfl, by rw [hU], by rw [hU]; exact hPc, va_K.moved hW.alike hK, hDc.weaken (fun _ _ _ _ => trivial)⟩⟩ rfl rfl hl.1 rfl (lv_room (Nat.le_of_ble_eq_true rfl)) dX8_readLent_14 ⟨Nat.le_of_ble_eq_true rfl, Nat.le_of_ble_eq_true rfl⟩) hS (fun q _ h => hFc q h) hFc (fun r14 u9 t9 H1 locs ht9 hvm9 hw9 hB9 hz9 hkk9 hS => ?_)
  have hw9 : y14.1 = r14 := hw9.symm
  subst hw9
  obtain ⟨hP9, hK9, hD9⟩ := hB9
  rw [ht9] at hP9
  obtain ⟨hP, hD⟩ := va_join (wr := [(q_p1, .inr (6, [.int v_p1_stands, .int v_p1_lent, .int v_p1_pipe, .int v_p1_houses, .ref q_p1_room, .ref q_p1_daily, .ref q_p1_drain, .ref q_p1_above]))]) (w1 := [(q_this, .inr (8, [.ref q_letters, .int v_length, .int y14.2.1, .int y14.2.2.1, .int y14.2.2.2])), (q_letters, .inl (cI, 200, .inl v_letters))]) hP hD [0, 1] [2] rfl rfl (by decide) (by decide) hkk9 hFc hP9 hD9
  generalize H1 = H at hP hS ⊢
  have hP : va_P (dC, dI) vwCl [(q_p1, .inr (6, [.int v_p1_stands, .int v_p1_lent, .int v_p1_pipe, .int v_p1_houses, .ref q_p1_room, .ref q_p1_daily, .ref q_p1_drain, .ref q_p1_above])), (q_this, .inr (8, [.ref q_letters, .int v_length, .int y14.2.1, .int y14.2.2.1, .int y14.2.2.2])), (q_letters, .inl (cI, 200, .inl v_letters))] H := hP
  have hD : va_D A [(q_p1, .inr (6, [.int v_p1_stands, .int v_p1_lent, .int v_p1_pipe, .int v_p1_houses, .ref q_p1_room, .ref q_p1_daily, .ref q_p1_drain, .ref q_p1_above])), (q_this, .inr (8, [.ref q_letters, .int v_length, .int y14.2.1, .int y14.2.2.1, .int y14.2.2.2])), (q_letters, .inl (cI, 200, .inl v_letters))] := hD
  refine lv_istore_n (lv' := [(2, .int y14.1), (0, .ref q_this), (1, .ref q_p1)]) hx hb dX8_readLent_17 rfl hl (by decide) rfl (fun ls hl => ?_)
  refine lv_aload_n hx hb dX8_readLent_18 rfl (lv_at hl 1 rfl) ?_
  refine lv_iconst (v := 1) hx hb dX8_readLent_19 (by decide) ?_
  refine lv_bipush (v := 99) hx hb dX8_readLent_20 (by decide) ?_
  obtain ⟨y22, hc22, hrun⟩ := oz_bind hrun
  have hPc := hP.sub (ws' := [(q_this, .inr (8, [.ref q_letters, .int v_length, .int y14.2.1, .int y14.2.2.1, .int y14.2.2.2])), (q_letters, .inl (cI, 200, .inl v_letters))]) [1, 2] rfl
  have hDc := hD.sub (ws' := [(q_this, .inr (8, [.ref q_letters, .int v_length, .int y14.2.1, .int y14.2.2.1, .int y14.2.2.2])), (q_letters, .inl (cI, 200, .inl v_letters))]) [1, 2] (by decide) rfl
  have hFc := va_free (wc := [(q_this, .inr (8, [.ref q_letters, .int v_length, .int y14.2.1, .int y14.2.2.1, .int y14.2.2.2])), (q_letters, .inl (cI, 200, .inl v_letters))]) hD hS hA [1, 2] rfl
  refine va_calli (va_runV (As := [.int 1, .int 99]) (rest := []) ⟨hx, hb, hml, hown, hts⟩ (tX8_readNumber l dC dI cI cZ q_letters q_this H.size v_length y14.2.1 y14.2.2.1 y14.2.2.2 v_letters 1 99 y22 hc22) (cwV 2 hts gX8_readLent_X8_readNumber rfl rfl rfl (by decide +kernel) ⟨Nat.le_of_ble_eq_true rfl, Nat.le_of_ble_eq_true rfl⟩) ⟨fun a U g mk q => by obtain ⟨q0, q1, qP, qK, qD⟩ := q; exact ⟨q0, q1, qP, va_K.moved (u := U) (U := U.calling g mk a) (Vm.Alike.refl U.vm) qK, qD⟩, va_recv hK hPc (ci := 8) (q0 := 0) rfl rfl, fun U hU hW => ⟨rfl, by rw [hU], by rw [hU]; exact hPc, va_K.moved hW.alike hK, hDc.weaken (fun _ _ _ _ => trivial)⟩⟩ rfl rfl hl.1 rfl (lv_room (Nat.le_of_ble_eq_true rfl)) dX8_readLent_22 ⟨Nat.le_of_ble_eq_true rfl, Nat.le_of_ble_eq_true rfl⟩) hS (fun q _ h => hFc q h) hFc (fun r22 u9 t9 H1 locs ht9 hvm9 hw9 hB9 hz9 hkk9 hS => ?_)
  have hw9 : y22.1 = r22 := hw9.symm
  subst hw9
  obtain ⟨hP9, hK9, hD9⟩ := hB9
  rw [ht9] at hP9
  obtain ⟨hP, hD⟩ := va_join (wr := [(q_p1, .inr (6, [.int v_p1_stands, .int v_p1_lent, .int v_p1_pipe, .int v_p1_houses, .ref q_p1_room, .ref q_p1_daily, .ref q_p1_drain, .ref q_p1_above]))]) (w1 := [(q_this, .inr (8, [.ref q_letters, .int v_length, .int y22.2.1, .int y22.2.2.1, .int y22.2.2.2])), (q_letters, .inl (cI, 200, .inl v_letters))]) hP hD [1, 2] [0] rfl rfl (by decide) (by decide) hkk9 hFc hP9 hD9
  generalize H1 = H at hP hS ⊢
  have hP : va_P (dC, dI) vwCl [(q_p1, .inr (6, [.int v_p1_stands, .int v_p1_lent, .int v_p1_pipe, .int v_p1_houses, .ref q_p1_room, .ref q_p1_daily, .ref q_p1_drain, .ref q_p1_above])), (q_this, .inr (8, [.ref q_letters, .int v_length, .int y22.2.1, .int y22.2.2.1, .int y22.2.2.2])), (q_letters, .inl (cI, 200, .inl v_letters))] H := hP
  have hD : va_D A [(q_p1, .inr (6, [.int v_p1_stands, .int v_p1_lent, .int v_p1_pipe, .int v_p1_houses, .ref q_p1_room, .ref q_p1_daily, .ref q_p1_drain, .ref q_p1_above])), (q_this, .inr (8, [.ref q_letters, .int v_length, .int y22.2.1, .int y22.2.2.1, .int y22.2.2.2])), (q_letters, .inl (cI, 200, .inl v_letters))] := hD
  refine lv_istore_n (lv' := [(3, .int y22.1), (2, .int y14.1), (0, .ref q_this), (1, .ref q_p1)]) hx hb dX8_readLent_25 rfl hl (by decide) rfl (fun ls hl => ?_)
  refine lv_aload_n hx hb dX8_readLent_26 rfl (lv_at hl 2 rfl) ?_
  obtain ⟨y27, hc27, hrun⟩ := oz_bind hrun
  have hPc := hP.sub (ws' := [(q_this, .inr (8, [.ref q_letters, .int v_length, .int y22.2.1, .int y22.2.2.1, .int y22.2.2.2])), (q_letters, .inl (cI, 200, .inl v_letters))]) [1, 2] rfl
  have hDc := hD.sub (ws' := [(q_this, .inr (8, [.ref q_letters, .int v_length, .int y22.2.1, .int y22.2.2.1, .int y22.2.2.2])), (q_letters, .inl (cI, 200, .inl v_letters))]) [1, 2] (by decide) rfl
  have hFc := va_free (wc := [(q_this, .inr (8, [.ref q_letters, .int v_length, .int y22.2.1, .int y22.2.2.1, .int y22.2.2.2])), (q_letters, .inl (cI, 200, .inl v_letters))]) hD hS hA [1, 2] rfl
  refine va_callv (va_runV (As := []) (rest := []) ⟨hx, hb, hml, hown, hts⟩ (tX8_readEnd l dC dI cI cZ q_letters q_this H.size v_length y22.2.1 y22.2.2.1 y22.2.2.2 v_letters y27 hc27) (cwV 0 hts gX8_readLent_X8_readEnd rfl rfl rfl (by decide +kernel) ⟨Nat.le_of_ble_eq_true rfl, Nat.le_of_ble_eq_true rfl⟩) ⟨fun a U g mk q => by obtain ⟨q0, q1, qP, qK, qD⟩ := q; exact ⟨q0, q1, qP, va_K.moved (u := U) (U := U.calling g mk a) (Vm.Alike.refl U.vm) qK, qD⟩, va_recv hK hPc (ci := 8) (q0 := 0) rfl rfl, fun U hU hW => ⟨rfl, by rw [hU], by rw [hU]; exact hPc, va_K.moved hW.alike hK, hDc.weaken (fun _ _ _ _ => trivial)⟩⟩ rfl rfl hl.1 rfl (lv_room (Nat.le_of_ble_eq_true rfl)) dX8_readLent_27 ⟨Nat.le_of_ble_eq_true rfl, Nat.le_of_ble_eq_true rfl⟩) hS (fun q _ h => hFc q h) hFc (fun u9 t9 H1 locs ht9 hvm9 hw9 hB9 hz9 hkk9 hS => ?_)
  obtain ⟨hP9, hK9, hD9⟩ := hB9
  rw [ht9] at hP9
  obtain ⟨hP, hD⟩ := va_join (wr := [(q_p1, .inr (6, [.int v_p1_stands, .int v_p1_lent, .int v_p1_pipe, .int v_p1_houses, .ref q_p1_room, .ref q_p1_daily, .ref q_p1_drain, .ref q_p1_above]))]) (w1 := [(q_this, .inr (8, [.ref q_letters, .int v_length, .int y27.1, .int y27.2.1, .int y27.2.2])), (q_letters, .inl (cI, 200, .inl v_letters))]) hP hD [1, 2] [0] rfl rfl (by decide) (by decide) hkk9 hFc hP9 hD9
  generalize H1 = H at hP hS ⊢
  have hP : va_P (dC, dI) vwCl [(q_p1, .inr (6, [.int v_p1_stands, .int v_p1_lent, .int v_p1_pipe, .int v_p1_houses, .ref q_p1_room, .ref q_p1_daily, .ref q_p1_drain, .ref q_p1_above])), (q_this, .inr (8, [.ref q_letters, .int v_length, .int y27.1, .int y27.2.1, .int y27.2.2])), (q_letters, .inl (cI, 200, .inl v_letters))] H := hP
  have hD : va_D A [(q_p1, .inr (6, [.int v_p1_stands, .int v_p1_lent, .int v_p1_pipe, .int v_p1_houses, .ref q_p1_room, .ref q_p1_daily, .ref q_p1_drain, .ref q_p1_above])), (q_this, .inr (8, [.ref q_letters, .int v_length, .int y27.1, .int y27.2.1, .int y27.2.2])), (q_letters, .inl (cI, 200, .inl v_letters))] := hD
  refine lv_aload_n hx hb dX8_readLent_30 rfl (lv_at hl 2 rfl) ?_
  refine va_get (D := (dC, dI)) (ci := 8) (v := .int y27.1) (C := RX8) (T := TX8) (N := 5) hx hb hts hiX8 hown hK hP 1 rfl rfl 2 (by decide) hk19 (fun _ h9 => h9) rfl dX8_readLent_31 ?_
  refine lv_if_ne (tgt := 43) hx hb dX8_readLent_34 (by decide) (fun c1 => ?_) (fun c1 => ?_)
  · have hrun := oz_f hrun c1
    have ho9 := Option.some.inj hrun
    subst ho9
    have hP9 := hP.sub (ws' := [(q_this, .inr (8, [.ref q_letters, .int v_length, .int y27.1, .int y27.2.1, .int y27.2.2])), (q_letters, .inl (cI, 200, .inl v_letters)), (q_p1, .inr (6, [.int v_p1_stands, .int v_p1_lent, .int v_p1_pipe, .int v_p1_houses, .ref q_p1_room, .ref q_p1_daily, .ref q_p1_drain, .ref q_p1_above]))]) [1, 2, 0] rfl
    have hD9 := hD.sub (ws' := [(q_this, .inr (8, [.ref q_letters, .int v_length, .int y27.1, .int y27.2.1, .int y27.2.2])), (q_letters, .inl (cI, 200, .inl v_letters)), (q_p1, .inr (6, [.int v_p1_stands, .int v_p1_lent, .int v_p1_pipe, .int v_p1_houses, .ref q_p1_room, .ref q_p1_daily, .ref q_p1_drain, .ref q_p1_above]))]) [1, 2, 0] (by decide) rfl
    rw [hQ]
    exact W.vret hx hb hr (fun t ht hW => ⟨⟨(), rfl, trivial, by rw [ht]; exact hP9, va_K.moved hW.alike hK, hD9⟩, hS.F ht⟩) hS.2.2 dX8_readLent_43
  · have hrun := oz_t hrun c1
    refine lv_aload_n hx hb dX8_readLent_37 rfl (lv_at hl 3 rfl) ?_
    refine lv_iload_n hx hb dX8_readLent_38 rfl (lv_at hl 1 rfl) ?_
    refine lv_iload_n hx hb dX8_readLent_39 rfl (lv_at hl 0 rfl) ?_
    obtain ⟨y40, hc40, hrun⟩ := oz_bind hrun
    have hPc := hP.sub (ws' := [(q_p1, .inr (6, [.int v_p1_stands, .int v_p1_lent, .int v_p1_pipe, .int v_p1_houses, .ref q_p1_room, .ref q_p1_daily, .ref q_p1_drain, .ref q_p1_above]))]) [0] rfl
    have hDc := hD.sub (ws' := [(q_p1, .inr (6, [.int v_p1_stands, .int v_p1_lent, .int v_p1_pipe, .int v_p1_houses, .ref q_p1_room, .ref q_p1_daily, .ref q_p1_drain, .ref q_p1_above]))]) [0] (by decide) rfl
    have hFc := va_free (wc := [(q_p1, .inr (6, [.int v_p1_stands, .int v_p1_lent, .int v_p1_pipe, .int v_p1_houses, .ref q_p1_room, .ref q_p1_daily, .ref q_p1_drain, .ref q_p1_above]))]) hD hS hA [0] rfl
    refine va_callv (va_runV (As := [.int y14.1, .int y22.1]) (rest := []) ⟨hx, hb, hml, hown, hts⟩ (tX6_begin l dC dI cI cZ q_p1_above q_p1_daily q_p1_drain q_p1_room q_p1 H.size v_p1_houses v_p1_stands v_p1_lent v_p1_pipe y14.1 y22.1 y40 hc40) (cwV 2 hts gX8_readLent_X6_begin rfl rfl rfl (by decide +kernel) ⟨Nat.le_of_ble_eq_true rfl, Nat.le_of_ble_eq_true rfl⟩) ⟨fun a U g mk q => by obtain ⟨q0, q1, qP, qK, qD⟩ := q; exact ⟨q0, q1, qP, va_K.moved (u := U) (U := U.calling g mk a) (Vm.Alike.refl U.vm) qK, qD⟩, va_recv hK hPc (ci := 6) (q0 := 0) rfl rfl, fun U hU hW => ⟨rfl, by rw [hU], by rw [hU]; exact hPc, va_K.moved hW.alike hK, hDc.weaken (fun _ _ _ _ => trivial)⟩⟩ rfl rfl hl.1 rfl (lv_room (Nat.le_of_ble_eq_true rfl)) dX8_readLent_40 ⟨Nat.le_of_ble_eq_true rfl, Nat.le_of_ble_eq_true rfl⟩) hS (fun q _ h => hFc q h) hFc (fun u9 t9 H1 locs ht9 hvm9 hw9 hB9 hz9 hkk9 hS => ?_)
    obtain ⟨hP9, hK9, hD9⟩ := hB9
    rw [ht9] at hP9
    obtain ⟨hP, hD⟩ := va_join (wr := [(q_this, .inr (8, [.ref q_letters, .int v_length, .int y27.1, .int y27.2.1, .int y27.2.2])), (q_letters, .inl (cI, 200, .inl v_letters))]) (w1 := [(q_p1, .inr (6, [.int y40.1, .int y40.2.1, .int y40.2.2, .int v_p1_houses, .ref q_p1_room, .ref q_p1_daily, .ref q_p1_drain, .ref q_p1_above]))]) hP hD [0] [1, 2] rfl rfl (by decide) (by decide) hkk9 hFc hP9 hD9
    generalize H1 = H at hP hS ⊢
    have hP : va_P (dC, dI) vwCl [(q_this, .inr (8, [.ref q_letters, .int v_length, .int y27.1, .int y27.2.1, .int y27.2.2])), (q_letters, .inl (cI, 200, .inl v_letters)), (q_p1, .inr (6, [.int y40.1, .int y40.2.1, .int y40.2.2, .int v_p1_houses, .ref q_p1_room, .ref q_p1_daily, .ref q_p1_drain, .ref q_p1_above]))] H := hP
    have hD : va_D A [(q_this, .inr (8, [.ref q_letters, .int v_length, .int y27.1, .int y27.2.1, .int y27.2.2])), (q_letters, .inl (cI, 200, .inl v_letters)), (q_p1, .inr (6, [.int y40.1, .int y40.2.1, .int y40.2.2, .int v_p1_houses, .ref q_p1_room, .ref q_p1_daily, .ref q_p1_drain, .ref q_p1_above]))] := hD
    have ho9 := Option.some.inj hrun
    subst ho9
    have hP9 := hP.sub (ws' := [(q_this, .inr (8, [.ref q_letters, .int v_length, .int y27.1, .int y27.2.1, .int y27.2.2])), (q_letters, .inl (cI, 200, .inl v_letters)), (q_p1, .inr (6, [.int y40.1, .int y40.2.1, .int y40.2.2, .int v_p1_houses, .ref q_p1_room, .ref q_p1_daily, .ref q_p1_drain, .ref q_p1_above]))]) [0, 1, 2] rfl
    have hD9 := hD.sub (ws' := [(q_this, .inr (8, [.ref q_letters, .int v_length, .int y27.1, .int y27.2.1, .int y27.2.2])), (q_letters, .inl (cI, 200, .inl v_letters)), (q_p1, .inr (6, [.int y40.1, .int y40.2.1, .int y40.2.2, .int v_p1_houses, .ref q_p1_room, .ref q_p1_daily, .ref q_p1_drain, .ref q_p1_above]))]) [0, 1, 2] (by decide) rfl
    rw [hQ]
    exact W.vret hx hb hr (fun t ht hW => ⟨⟨(), rfl, trivial, by rw [ht]; exact hP9, va_K.moved hW.alike hK, hD9⟩, hS.F ht⟩) hS.2.2 dX8_readLent_43
def fX8_readHouse (v_length : Int32) (v_faultKind : Int32) (v_faultAt : Int32) (v_at : Int32) (v_letters : Nat → Int32) (v_p1_houses : Int32) (v_p1_room : Nat → Int32) (v_p1_daily : Nat → Int32) (v_p1_drain : Nat → Int32) (v_p1_above : Nat → Int32) : Option (Int32 × Int32 × Int32 × Int32 × (Nat → Int32) × (Nat → Int32) × (Nat → Int32) × (Nat → Int32)) :=
  Option.bind (fX8_readNumber v_length v_faultKind v_faultAt (v_at + 1) v_letters 0 999) (fun y15 => Option.bind (fX8_readNumber v_length y15.2.1 y15.2.2.1 y15.2.2.2 v_letters 0 99) (fun y23 => Option.bind (fX8_skipBlanks v_length y23.2.2.2 v_letters) (fun y28 => Option.bind (fX8_readNumber v_length y23.2.1 y23.2.2.1 y28 v_letters 0 9) (fun y41 => if y41.1 = 9 then (Option.bind (fX8_readEnd v_length y41.2.1 y41.2.2.1 y41.2.2.2 v_letters) (fun y70 => if y70.1 = 0 then (Option.bind (fX6_addHouse v_p1_houses v_p1_room v_p1_daily v_p1_drain v_p1_above y15.1 y23.1 y41.1) (fun y85 => some (y70.1, y70.2.1, y70.2.2, y85.1, y85.2.1, y85.2.2.1, y85.2.2.2.1, y85.2.2.2.2))) else (some (y70.1, y70.2.1, y70.2.2, v_p1_houses, v_p1_room, v_p1_daily, v_p1_drain, v_p1_above)))) else (Option.bind (fX6_has v_p1_houses y41.1) (fun y56 => if y56 = 0 then (Option.bind (fX8_blame y41.2.1 y41.2.2.1 2 y28) (fun y66 => Option.bind (fX8_readEnd v_length y66.1 y66.2 y41.2.2.2 v_letters) (fun y70 => if y70.1 = 0 then (Option.bind (fX6_addHouse v_p1_houses v_p1_room v_p1_daily v_p1_drain v_p1_above y15.1 y23.1 y41.1) (fun y85 => some (y70.1, y70.2.1, y70.2.2, y85.1, y85.2.1, y85.2.2.1, y85.2.2.2.1, y85.2.2.2.2))) else (some (y70.1, y70.2.1, y70.2.2, v_p1_houses, v_p1_room, v_p1_daily, v_p1_drain, v_p1_above))))) else (Option.bind (fX8_readEnd v_length y41.2.1 y41.2.2.1 y41.2.2.2 v_letters) (fun y70 => if y70.1 = 0 then (Option.bind (fX6_addHouse v_p1_houses v_p1_room v_p1_daily v_p1_drain v_p1_above y15.1 y23.1 y41.1) (fun y85 => some (y70.1, y70.2.1, y70.2.2, y85.1, y85.2.1, y85.2.2.1, y85.2.2.2.1, y85.2.2.2.2))) else (some (y70.1, y70.2.1, y70.2.2, v_p1_houses, v_p1_room, v_p1_daily, v_p1_drain, v_p1_above))))))))))
def rmX8_readHouse : Room := { frames := 3, cells := 0, slots := 0, locals := 67 }
set_option maxHeartbeats 4000000 in
set_option maxRecDepth 100000 in
theorem tX8_readHouse (l : Launch) (dC : Nat → ClassId) (dI : Nat → Nat → Nat) (cI cZ : ClassId) (q_letters q_p1 q_p1_above q_p1_daily q_p1_drain q_p1_room q_this : Nat) (sz : Nat) (v_p1_stands : Int32) (v_p1_lent : Int32) (v_p1_pipe : Int32) (v_length : Int32) (v_faultKind : Int32) (v_faultAt : Int32) (v_at : Int32) (v_letters : Nat → Int32) (v_p1_houses : Int32) (v_p1_room : Nat → Int32) (v_p1_daily : Nat → Int32) (v_p1_drain : Nat → Int32) (v_p1_above : Nat → Int32) (out : Int32 × Int32 × Int32 × Int32 × (Nat → Int32) × (Nat → Int32) × (Nat → Int32) × (Nat → Int32)) (hrun : fX8_readHouse v_length v_faultKind v_faultAt v_at v_letters v_p1_houses v_p1_room v_p1_daily v_p1_drain v_p1_above = some out) : Met l yX8_readHouse wsX8_readHouse rmX8_readHouse (va_Pc [.ref q_this, .ref q_p1] (fun U => U.heap.size = sz ∧ va_P (dC, dI) vwCl [(q_this, .inr (8, [.ref q_letters, .int v_length, .int v_faultKind, .int v_faultAt, .int v_at])), (q_letters, .inl (cI, 200, .inl v_letters)), (q_p1, .inr (6, [.int v_p1_stands, .int v_p1_lent, .int v_p1_pipe, .int v_p1_houses, .ref q_p1_room, .ref q_p1_daily, .ref q_p1_drain, .ref q_p1_above])), (q_p1_room, .inl (cI, 8, .inl v_p1_room)), (q_p1_daily, .inl (cI, 8, .inl v_p1_daily)), (q_p1_drain, .inl (cI, 8, .inl v_p1_drain)), (q_p1_above, .inl (cI, 8, .inl v_p1_above))] U.heap ∧ va_K (dC, dI) vwCl [(cI, .int), (cZ, .boolean)] U ∧ va_D (fun _ => True) [(q_this, .inr (8, [.ref q_letters, .int v_length, .int v_faultKind, .int v_faultAt, .int v_at])), (q_letters, .inl (cI, 200, .inl v_letters)), (q_p1, .inr (6, [.int v_p1_stands, .int v_p1_lent, .int v_p1_pipe, .int v_p1_houses, .ref q_p1_room, .ref q_p1_daily, .ref q_p1_drain, .ref q_p1_above])), (q_p1_room, .inl (cI, 8, .inl v_p1_room)), (q_p1_daily, .inl (cI, 8, .inl v_p1_daily)), (q_p1_drain, .inl (cI, 8, .inl v_p1_drain)), (q_p1_above, .inl (cI, 8, .inl v_p1_above))])) (va_Qv (fun _ : Unit => True) (fun _ t => va_P (dC, dI) vwCl [(q_this, .inr (8, [.ref q_letters, .int v_length, .int out.1, .int out.2.1, .int out.2.2.1])), (q_letters, .inl (cI, 200, .inl v_letters)), (q_p1, .inr (6, [.int v_p1_stands, .int v_p1_lent, .int v_p1_pipe, .int out.2.2.2.1, .ref q_p1_room, .ref q_p1_daily, .ref q_p1_drain, .ref q_p1_above])), (q_p1_room, .inl (cI, 8, .inl out.2.2.2.2.1)), (q_p1_daily, .inl (cI, 8, .inl out.2.2.2.2.2.1)), (q_p1_drain, .inl (cI, 8, .inl out.2.2.2.2.2.2.1)), (q_p1_above, .inl (cI, 8, .inl out.2.2.2.2.2.2.2))] t.heap ∧ va_K (dC, dI) vwCl [(cI, .int), (cZ, .boolean)] t ∧ va_D (va_A [(q_this, .inr (8, [.ref q_letters, .int v_length, .int v_faultKind, .int v_faultAt, .int v_at])), (q_letters, .inl (cI, 200, .inl v_letters)), (q_p1, .inr (6, [.int v_p1_stands, .int v_p1_lent, .int v_p1_pipe, .int v_p1_houses, .ref q_p1_room, .ref q_p1_daily, .ref q_p1_drain, .ref q_p1_above])), (q_p1_room, .inl (cI, 8, .inl v_p1_room)), (q_p1_daily, .inl (cI, 8, .inl v_p1_daily)), (q_p1_drain, .inl (cI, 8, .inl v_p1_drain)), (q_p1_above, .inl (cI, 8, .inl v_p1_above))] sz) [(q_this, .inr (8, [.ref q_letters, .int v_length, .int out.1, .int out.2.1, .int out.2.2.1])), (q_letters, .inl (cI, 200, .inl v_letters)), (q_p1, .inr (6, [.int v_p1_stands, .int v_p1_lent, .int v_p1_pipe, .int out.2.2.2.1, .ref q_p1_room, .ref q_p1_daily, .ref q_p1_drain, .ref q_p1_above])), (q_p1_room, .inl (cI, 8, .inl out.2.2.2.2.1)), (q_p1_daily, .inl (cI, 8, .inl out.2.2.2.2.2.1)), (q_p1_drain, .inl (cI, 8, .inl out.2.2.2.2.2.2.1)), (q_p1_above, .inl (cI, 8, .inl out.2.2.2.2.2.2.2))]) (va_A [(q_this, .inr (8, [.ref q_letters, .int v_length, .int v_faultKind, .int v_faultAt, .int v_at])), (q_letters, .inl (cI, 200, .inl v_letters)), (q_p1, .inr (6, [.int v_p1_stands, .int v_p1_lent, .int v_p1_pipe, .int v_p1_houses, .ref q_p1_room, .ref q_p1_daily, .ref q_p1_drain, .ref q_p1_above])), (q_p1_room, .inl (cI, 8, .inl v_p1_room)), (q_p1_daily, .inl (cI, 8, .inl v_p1_daily)), (q_p1_drain, .inl (cI, 8, .inl v_p1_drain)), (q_p1_above, .inl (cI, 8, .inl v_p1_above))] sz)) 0 0 (va_A [(q_this, .inr (8, [.ref q_letters, .int v_length, .int v_faultKind, .int v_faultAt, .int v_at])), (q_letters, .inl (cI, 200, .inl v_letters)), (q_p1, .inr (6, [.int v_p1_stands, .int v_p1_lent, .int v_p1_pipe, .int v_p1_houses, .ref q_p1_room, .ref q_p1_daily, .ref q_p1_drain, .ref q_p1_above])), (q_p1_room, .inl (cI, 8, .inl v_p1_room)), (q_p1_daily, .inl (cI, 8, .inl v_p1_daily)), (q_p1_drain, .inl (cI, 8, .inl v_p1_drain)), (q_p1_above, .inl (cI, 8, .inl v_p1_above))] sz) := by
  refine Met.ofW (cc := cX8_readHouse) (maxL := 6) (ret := none) (by decide) rfl ?_
  intro p e s m args below meth c s₁ B hml hv
  obtain ⟨rfl, hsz, hP, hK, hD0⟩ := hv
  have hx := B.exec
  have hb := B.bytes
  have hr := B.returns
  have hts := atoms_spec (ws := wsX8_readHouse) B.pre
  have hown : s.vm.findClass RX8 = some m.cls := findClass_of_methodNamed B.named
  have hlocks := B.notSynchronized
  subst hsz
  have hD := hD0.self (sz := s.heap.size)
  generalize hAe : va_A [(q_this, .inr (8, [.ref q_letters, .int v_length, .int v_faultKind, .int v_faultAt, .int v_at])), (q_letters, .inl (cI, 200, .inl v_letters)), (q_p1, .inr (6, [.int v_p1_stands, .int v_p1_lent, .int v_p1_pipe, .int v_p1_houses, .ref q_p1_room, .ref q_p1_daily, .ref q_p1_drain, .ref q_p1_above])), (q_p1_room, .inl (cI, 8, .inl v_p1_room)), (q_p1_daily, .inl (cI, 8, .inl v_p1_daily)), (q_p1_drain, .inl (cI, 8, .inl v_p1_drain)), (q_p1_above, .inl (cI, 8, .inl v_p1_above))] s.heap.size = A at hD ⊢
  have hA : ∀ q : Nat, s.heap.size ≤ q → A q := fun q h => by rw [← hAe]; exact Or.inr h
  have hS : va_S A s.heap s.heap [] := va_S.rf
  have hl := lv_entry ([.ref q_this, .ref q_p1]) (n := 6) (Nat.le_of_ble_eq_true rfl)
  rw [lg_entry_eq]
  generalize (lg_sl ([.ref q_this, .ref q_p1]) ++ List.replicate (6 - (lg_sl ([.ref q_this, .ref q_p1])).length) Slot.unset).toArray = ls at hl ⊢
  have hl : lv_has ls 6 [(0, .ref q_this), (1, .ref q_p1)] := hl
  unfold fX8_readHouse at hrun
  have hk25 := hts (.fieldLink RX8 25 "LentDrains$Reader" "at" "I") (by decide +kernel)
  have hiX8 : ∀ w ∈ wsX80, w ∈ wsX8_readHouse := by decide +kernel
  have hk19 := hts (.fieldLink RX8 19 "LentDrains$Reader" "faultKind" "I") (by decide +kernel)
  refine oz_genQ (fun Q hQ => ?_)
  refine lv_aload_n hx hb dX8_readHouse_0 rfl (lv_at hl 0 rfl) ?_
  refine lv_dup hx hb dX8_readHouse_1 rfl ?_
  refine va_get (D := (dC, dI)) (ci := 8) (v := .int v_at) (C := RX8) (T := TX8) (N := 5) hx hb hts hiX8 hown hK hP 0 rfl rfl 4 (by decide) hk25 (fun _ h9 => h9) rfl dX8_readHouse_2 ?_
  refine lv_iconst (v := 1) hx hb dX8_readHouse_5 (by decide) ?_
  refine lv_iadd hx hb dX8_readHouse_6 ?_
  refine va_put (D := (dC, dI)) (ci := 8) (v := .int (v_at + 1)) (ty := .int) (C := RX8) (T := TX8) (N := 5) hx hb hts hiX8 tyX8 tyX8_ok nmX8 hown hK hP hD hS 0 rfl rfl 4 (by decide) hk25 (fun _ h9 => h9) rfl (by decide +kernel) rfl rfl (Nat.le_of_ble_eq_true rfl) dX8_readHouse_7 (fun H locs hP hD hS => ?_)
  have hP : va_P (dC, dI) vwCl [(q_this, .inr (8, [.ref q_letters, .int v_length, .int v_faultKind, .int v_faultAt, .int (v_at + 1)])), (q_letters, .inl (cI, 200, .inl v_letters)), (q_p1, .inr (6, [.int v_p1_stands, .int v_p1_lent, .int v_p1_pipe, .int v_p1_houses, .ref q_p1_room, .ref q_p1_daily, .ref q_p1_drain, .ref q_p1_above])), (q_p1_room, .inl (cI, 8, .inl v_p1_room)), (q_p1_daily, .inl (cI, 8, .inl v_p1_daily)), (q_p1_drain, .inl (cI, 8, .inl v_p1_drain)), (q_p1_above, .inl (cI, 8, .inl v_p1_above))] H := hP
  have hD : va_D A [(q_this, .inr (8, [.ref q_letters, .int v_length, .int v_faultKind, .int v_faultAt, .int (v_at + 1)])), (q_letters, .inl (cI, 200, .inl v_letters)), (q_p1, .inr (6, [.int v_p1_stands, .int v_p1_lent, .int v_p1_pipe, .int v_p1_houses, .ref q_p1_room, .ref q_p1_daily, .ref q_p1_drain, .ref q_p1_above])), (q_p1_room, .inl (cI, 8, .inl v_p1_room)), (q_p1_daily, .inl (cI, 8, .inl v_p1_daily)), (q_p1_drain, .inl (cI, 8, .inl v_p1_drain)), (q_p1_above, .inl (cI, 8, .inl v_p1_above))] := hD
  refine lv_aload_n hx hb dX8_readHouse_10 rfl (lv_at hl 0 rfl) ?_
  refine lv_iconst (v := 0) hx hb dX8_readHouse_11 (by decide) ?_
  refine lv_sipush (v := 999) hx hb dX8_readHouse_12 (by decide) ?_
  obtain ⟨y15, hc15, hrun⟩ := oz_bind hrun
  have hPc := hP.sub (ws' := [(q_this, .inr (8, [.ref q_letters, .int v_length, .int v_faultKind, .int v_faultAt, .int (v_at + 1)])), (q_letters, .inl (cI, 200, .inl v_letters))]) [0, 1] rfl
  have hDc := hD.sub (ws' := [(q_this, .inr (8, [.ref q_letters, .int v_length, .int v_faultKind, .int v_faultAt, .int (v_at + 1)])), (q_letters, .inl (cI, 200, .inl v_letters))]) [0, 1] (by decide) rfl
  have hFc := va_free (wc := [(q_this, .inr (8, [.ref q_letters, .int v_length, .int v_faultKind, .int v_faultAt, .int (v_at + 1)])), (q_letters, .inl (cI, 200, .inl v_letters))]) hD hS hA [0, 1] rfl
  refine va_calli (va_runV (As := [.int 0, .int 999]) (rest := []) ⟨hx, hb, hml, hown, hts⟩ (tX8_readNumber l dC dI cI cZ q_letters q_this H.size v_length v_faultKind v_faultAt (v_at + 1) v_letters 0 999 y15 hc15) (cwV 2 hts gX8_readHouse_X8_readNumber rfl rfl rfl (by decide +kernel) ⟨Nat.le_of_ble_eq_true rfl, Nat.le_of_ble_eq_true rfl⟩) ⟨fun a U g mk q => by obtain ⟨q0, q1, qP, qK, qD⟩ := q; exact ⟨q0, q1, qP, va_K.moved (u := U) (U := U.calling g mk a) (Vm.Alike.refl U.vm) qK, qD⟩, va_recv hK hPc (ci := 8) (q0 := 0) rfl rfl, fun U hU hW => ⟨rfl, by rw [hU], by rw [hU]; exact hPc, va_K.moved hW.alike hK, hDc.weaken (fun _ _ _ _ => trivial)⟩⟩ rfl rfl hl.1 rfl (lv_room (Nat.le_of_ble_eq_true rfl)) dX8_readHouse_15 ⟨Nat.le_of_ble_eq_true rfl, Nat.le_of_ble_eq_true rfl⟩) hS (fun q _ h => hFc q h) hFc (fun r15 u9 t9 H1 locs ht9 hvm9 hw9 hB9 hz9 hkk9 hS => ?_)
  have hw9 : y15.1 = r15 := hw9.symm
  subst hw9
  obtain ⟨hP9, hK9, hD9⟩ := hB9
  rw [ht9] at hP9
  obtain ⟨hP, hD⟩ := va_join (wr := [(q_p1, .inr (6, [.int v_p1_stands, .int v_p1_lent, .int v_p1_pipe, .int v_p1_houses, .ref q_p1_room, .ref q_p1_daily, .ref q_p1_drain, .ref q_p1_above])), (q_p1_room, .inl (cI, 8, .inl v_p1_room)), (q_p1_daily, .inl (cI, 8, .inl v_p1_daily)), (q_p1_drain, .inl (cI, 8, .inl v_p1_drain)), (q_p1_above, .inl (cI, 8, .inl v_p1_above))]) (w1 := [(q_this, .inr (8, [.ref q_letters, .int v_length, .int y15.2.1, .int y15.2.2.1, .int y15.2.2.2])), (q_letters, .inl (cI, 200, .inl v_letters))]) hP hD [0, 1] [2, 3, 4, 5, 6] rfl rfl (by decide) (by decide) hkk9 hFc hP9 hD9
  generalize H1 = H at hP hS ⊢
  have hP : va_P (dC, dI) vwCl [(q_p1, .inr (6, [.int v_p1_stands, .int v_p1_lent, .int v_p1_pipe, .int v_p1_houses, .ref q_p1_room, .ref q_p1_daily, .ref q_p1_drain, .ref q_p1_above])), (q_p1_room, .inl (cI, 8, .inl v_p1_room)), (q_p1_daily, .inl (cI, 8, .inl v_p1_daily)), (q_p1_drain, .inl (cI, 8, .inl v_p1_drain)), (q_p1_above, .inl (cI, 8, .inl v_p1_above)), (q_this, .inr (8, [.ref q_letters, .int v_length, .int y15.2.1, .int y15.2.2.1, .int y15.2.2.2])), (q_letters, .inl (cI, 200, .inl v_letters))] H := hP
  have hD : va_D A [(q_p1, .inr (6, [.int v_p1_stands, .int v_p1_lent, .int v_p1_pipe, .int v_p1_houses, .ref q_p1_room, .ref q_p1_daily, .ref q_p1_drain, .ref q_p1_above])), (q_p1_room, .inl (cI, 8, .inl v_p1_room)), (q_p1_daily, .inl (cI, 8, .inl v_p1_daily)), (q_p1_drain, .inl (cI, 8, .inl v_p1_drain)), (q_p1_above, .inl (cI, 8, .inl v_p1_above)), (q_this, .inr (8, [.ref q_letters, .int v_length, .int y15.2.1, .int y15.2.2.1, .int y15.2.2.2])), (q_letters, .inl (cI, 200, .inl v_letters))] := hD
  refine lv_istore_n (lv' := [(2, .int y15.1), (0, .ref q_this), (1, .ref q_p1)]) hx hb dX8_readHouse_18 rfl hl (by decide) rfl (fun ls hl => ?_)
  refine lv_aload_n hx hb dX8_readHouse_19 rfl (lv_at hl 1 rfl) ?_
  refine lv_iconst (v := 0) hx hb dX8_readHouse_20 (by decide) ?_
  refine lv_bipush (v := 99) hx hb dX8_readHouse_21 (by decide) ?_
  obtain ⟨y23, hc23, hrun⟩ := oz_bind hrun
  have hPc := hP.sub (ws' := [(q_this, .inr (8, [.ref q_letters, .int v_length, .int y15.2.1, .int y15.2.2.1, .int y15.2.2.2])), (q_letters, .inl (cI, 200, .inl v_letters))]) [5, 6] rfl
  have hDc := hD.sub (ws' := [(q_this, .inr (8, [.ref q_letters, .int v_length, .int y15.2.1, .int y15.2.2.1, .int y15.2.2.2])), (q_letters, .inl (cI, 200, .inl v_letters))]) [5, 6] (by decide) rfl
  have hFc := va_free (wc := [(q_this, .inr (8, [.ref q_letters, .int v_length, .int y15.2.1, .int y15.2.2.1, .int y15.2.2.2])), (q_letters, .inl (cI, 200, .inl v_letters))]) hD hS hA [5, 6] rfl
  refine va_calli (va_runV (As := [.int 0, .int 99]) (rest := []) ⟨hx, hb, hml, hown, hts⟩ (tX8_readNumber l dC dI cI cZ q_letters q_this H.size v_length y15.2.1 y15.2.2.1 y15.2.2.2 v_letters 0 99 y23 hc23) (cwV 2 hts gX8_readHouse_X8_readNumber rfl rfl rfl (by decide +kernel) ⟨Nat.le_of_ble_eq_true rfl, Nat.le_of_ble_eq_true rfl⟩) ⟨fun a U g mk q => by obtain ⟨q0, q1, qP, qK, qD⟩ := q; exact ⟨q0, q1, qP, va_K.moved (u := U) (U := U.calling g mk a) (Vm.Alike.refl U.vm) qK, qD⟩, va_recv hK hPc (ci := 8) (q0 := 0) rfl rfl, fun U hU hW => ⟨rfl, by rw [hU], by rw [hU]; exact hPc, va_K.moved hW.alike hK, hDc.weaken (fun _ _ _ _ => trivial)⟩⟩ rfl rfl hl.1 rfl (lv_room (Nat.le_of_ble_eq_true rfl)) dX8_readHouse_23 ⟨Nat.le_of_ble_eq_true rfl, Nat.le_of_ble_eq_true rfl⟩) hS (fun q _ h => hFc q h) hFc (fun r23 u9 t9 H1 locs ht9 hvm9 hw9 hB9 hz9 hkk9 hS => ?_)
  have hw9 : y23.1 = r23 := hw9.symm
  subst hw9
  obtain ⟨hP9, hK9, hD9⟩ := hB9
  rw [ht9] at hP9
  obtain ⟨hP, hD⟩ := va_join (wr := [(q_p1, .inr (6, [.int v_p1_stands, .int v_p1_lent, .int v_p1_pipe, .int v_p1_houses, .ref q_p1_room, .ref q_p1_daily, .ref q_p1_drain, .ref q_p1_above])), (q_p1_room, .inl (cI, 8, .inl v_p1_room)), (q_p1_daily, .inl (cI, 8, .inl v_p1_daily)), (q_p1_drain, .inl (cI, 8, .inl v_p1_drain)), (q_p1_above, .inl (cI, 8, .inl v_p1_above))]) (w1 := [(q_this, .inr (8, [.ref q_letters, .int v_length, .int y23.2.1, .int y23.2.2.1, .int y23.2.2.2])), (q_letters, .inl (cI, 200, .inl v_letters))]) hP hD [5, 6] [0, 1, 2, 3, 4] rfl rfl (by decide) (by decide) hkk9 hFc hP9 hD9
  generalize H1 = H at hP hS ⊢
  have hP : va_P (dC, dI) vwCl [(q_p1, .inr (6, [.int v_p1_stands, .int v_p1_lent, .int v_p1_pipe, .int v_p1_houses, .ref q_p1_room, .ref q_p1_daily, .ref q_p1_drain, .ref q_p1_above])), (q_p1_room, .inl (cI, 8, .inl v_p1_room)), (q_p1_daily, .inl (cI, 8, .inl v_p1_daily)), (q_p1_drain, .inl (cI, 8, .inl v_p1_drain)), (q_p1_above, .inl (cI, 8, .inl v_p1_above)), (q_this, .inr (8, [.ref q_letters, .int v_length, .int y23.2.1, .int y23.2.2.1, .int y23.2.2.2])), (q_letters, .inl (cI, 200, .inl v_letters))] H := hP
  have hD : va_D A [(q_p1, .inr (6, [.int v_p1_stands, .int v_p1_lent, .int v_p1_pipe, .int v_p1_houses, .ref q_p1_room, .ref q_p1_daily, .ref q_p1_drain, .ref q_p1_above])), (q_p1_room, .inl (cI, 8, .inl v_p1_room)), (q_p1_daily, .inl (cI, 8, .inl v_p1_daily)), (q_p1_drain, .inl (cI, 8, .inl v_p1_drain)), (q_p1_above, .inl (cI, 8, .inl v_p1_above)), (q_this, .inr (8, [.ref q_letters, .int v_length, .int y23.2.1, .int y23.2.2.1, .int y23.2.2.2])), (q_letters, .inl (cI, 200, .inl v_letters))] := hD
  refine lv_istore_n (lv' := [(3, .int y23.1), (2, .int y15.1), (0, .ref q_this), (1, .ref q_p1)]) hx hb dX8_readHouse_26 rfl hl (by decide) rfl (fun ls hl => ?_)
  refine lv_aload_n hx hb dX8_readHouse_27 rfl (lv_at hl 2 rfl) ?_
  obtain ⟨y28, hc28, hrun⟩ := oz_bind hrun
  have hPc := hP.sub (ws' := [(q_this, .inr (8, [.ref q_letters, .int v_length, .int y23.2.1, .int y23.2.2.1, .int y23.2.2.2])), (q_letters, .inl (cI, 200, .inl v_letters))]) [5, 6] rfl
  have hDc := hD.sub (ws' := [(q_this, .inr (8, [.ref q_letters, .int v_length, .int y23.2.1, .int y23.2.2.1, .int y23.2.2.2])), (q_letters, .inl (cI, 200, .inl v_letters))]) [5, 6] (by decide) rfl
  have hFc := va_free (wc := [(q_this, .inr (8, [.ref q_letters, .int v_length, .int y23.2.1, .int y23.2.2.1, .int y23.2.2.2])), (q_letters, .inl (cI, 200, .inl v_letters))]) hD hS hA [5, 6] rfl
  refine va_callv (va_runV (As := []) (rest := []) ⟨hx, hb, hml, hown, hts⟩ (tX8_skipBlanks l dC dI cI cZ q_letters q_this H.size y23.2.1 y23.2.2.1 v_length y23.2.2.2 v_letters y28 hc28) (cwV 0 hts gX8_readHouse_X8_skipBlanks rfl rfl rfl (by decide +kernel) ⟨Nat.le_of_ble_eq_true rfl, Nat.le_of_ble_eq_true rfl⟩) ⟨fun a U g mk q => by obtain ⟨q0, q1, qP, qK, qD⟩ := q; exact ⟨q0, q1, qP, va_K.moved (u := U) (U := U.calling g mk a) (Vm.Alike.refl U.vm) qK, qD⟩, va_recv hK hPc (ci := 8) (q0 := 0) rfl rfl, fun U hU hW => ⟨rfl, by rw [hU], by rw [hU]; exact hPc, va_K.moved hW.alike hK, hDc.weaken (fun _ _ _ _ => trivial)⟩⟩ rfl rfl hl.1 rfl (lv_room (Nat.le_of_ble_eq_true rfl)) dX8_readHouse_28 ⟨Nat.le_of_ble_eq_true rfl, Nat.le_of_ble_eq_true rfl⟩) hS (fun q _ h => hFc q h) hFc (fun u9 t9 H1 locs ht9 hvm9 hw9 hB9 hz9 hkk9 hS => ?_)
  obtain ⟨hP9, hK9, hD9⟩ := hB9
  rw [ht9] at hP9
  obtain ⟨hP, hD⟩ := va_join (wr := [(q_p1, .inr (6, [.int v_p1_stands, .int v_p1_lent, .int v_p1_pipe, .int v_p1_houses, .ref q_p1_room, .ref q_p1_daily, .ref q_p1_drain, .ref q_p1_above])), (q_p1_room, .inl (cI, 8, .inl v_p1_room)), (q_p1_daily, .inl (cI, 8, .inl v_p1_daily)), (q_p1_drain, .inl (cI, 8, .inl v_p1_drain)), (q_p1_above, .inl (cI, 8, .inl v_p1_above))]) (w1 := [(q_this, .inr (8, [.ref q_letters, .int v_length, .int y23.2.1, .int y23.2.2.1, .int y28])), (q_letters, .inl (cI, 200, .inl v_letters))]) hP hD [5, 6] [0, 1, 2, 3, 4] rfl rfl (by decide) (by decide) hkk9 hFc hP9 hD9
  generalize H1 = H at hP hS ⊢
  have hP : va_P (dC, dI) vwCl [(q_p1, .inr (6, [.int v_p1_stands, .int v_p1_lent, .int v_p1_pipe, .int v_p1_houses, .ref q_p1_room, .ref q_p1_daily, .ref q_p1_drain, .ref q_p1_above])), (q_p1_room, .inl (cI, 8, .inl v_p1_room)), (q_p1_daily, .inl (cI, 8, .inl v_p1_daily)), (q_p1_drain, .inl (cI, 8, .inl v_p1_drain)), (q_p1_above, .inl (cI, 8, .inl v_p1_above)), (q_this, .inr (8, [.ref q_letters, .int v_length, .int y23.2.1, .int y23.2.2.1, .int y28])), (q_letters, .inl (cI, 200, .inl v_letters))] H := hP
  have hD : va_D A [(q_p1, .inr (6, [.int v_p1_stands, .int v_p1_lent, .int v_p1_pipe, .int v_p1_houses, .ref q_p1_room, .ref q_p1_daily, .ref q_p1_drain, .ref q_p1_above])), (q_p1_room, .inl (cI, 8, .inl v_p1_room)), (q_p1_daily, .inl (cI, 8, .inl v_p1_daily)), (q_p1_drain, .inl (cI, 8, .inl v_p1_drain)), (q_p1_above, .inl (cI, 8, .inl v_p1_above)), (q_this, .inr (8, [.ref q_letters, .int v_length, .int y23.2.1, .int y23.2.2.1, .int y28])), (q_letters, .inl (cI, 200, .inl v_letters))] := hD
  refine lv_aload_n hx hb dX8_readHouse_31 rfl (lv_at hl 2 rfl) ?_
  refine va_get (D := (dC, dI)) (ci := 8) (v := .int y28) (C := RX8) (T := TX8) (N := 5) hx hb hts hiX8 hown hK hP 5 rfl rfl 4 (by decide) hk25 (fun _ h9 => h9) rfl dX8_readHouse_32 ?_
  refine lv_istore (lv' := [(4, .int y28), (3, .int y23.1), (2, .int y15.1), (0, .ref q_this), (1, .ref q_p1)]) hx hb dX8_readHouse_35 hl (by decide) rfl (fun ls hl => ?_)
  refine lv_aload_n hx hb dX8_readHouse_37 rfl (lv_at hl 3 rfl) ?_
  refine lv_iconst (v := 0) hx hb dX8_readHouse_38 (by decide) ?_
  refine lv_bipush (v := 9) hx hb dX8_readHouse_39 (by decide) ?_
  obtain ⟨y41, hc41, hrun⟩ := oz_bind hrun
  have hPc := hP.sub (ws' := [(q_this, .inr (8, [.ref q_letters, .int v_length, .int y23.2.1, .int y23.2.2.1, .int y28])), (q_letters, .inl (cI, 200, .inl v_letters))]) [5, 6] rfl
  have hDc := hD.sub (ws' := [(q_this, .inr (8, [.ref q_letters, .int v_length, .int y23.2.1, .int y23.2.2.1, .int y28])), (q_letters, .inl (cI, 200, .inl v_letters))]) [5, 6] (by decide) rfl
  have hFc := va_free (wc := [(q_this, .inr (8, [.ref q_letters, .int v_length, .int y23.2.1, .int y23.2.2.1, .int y28])), (q_letters, .inl (cI, 200, .inl v_letters))]) hD hS hA [5, 6] rfl
  refine va_calli (va_runV (As := [.int 0, .int 9]) (rest := []) ⟨hx, hb, hml, hown, hts⟩ (tX8_readNumber l dC dI cI cZ q_letters q_this H.size v_length y23.2.1 y23.2.2.1 y28 v_letters 0 9 y41 hc41) (cwV 2 hts gX8_readHouse_X8_readNumber rfl rfl rfl (by decide +kernel) ⟨Nat.le_of_ble_eq_true rfl, Nat.le_of_ble_eq_true rfl⟩) ⟨fun a U g mk q => by obtain ⟨q0, q1, qP, qK, qD⟩ := q; exact ⟨q0, q1, qP, va_K.moved (u := U) (U := U.calling g mk a) (Vm.Alike.refl U.vm) qK, qD⟩, va_recv hK hPc (ci := 8) (q0 := 0) rfl rfl, fun U hU hW => ⟨rfl, by rw [hU], by rw [hU]; exact hPc, va_K.moved hW.alike hK, hDc.weaken (fun _ _ _ _ => trivial)⟩⟩ rfl rfl hl.1 rfl (lv_room (Nat.le_of_ble_eq_true rfl)) dX8_readHouse_41 ⟨Nat.le_of_ble_eq_true rfl, Nat.le_of_ble_eq_true rfl⟩) hS (fun q _ h => hFc q h) hFc (fun r41 u9 t9 H1 locs ht9 hvm9 hw9 hB9 hz9 hkk9 hS => ?_)
  have hw9 : y41.1 = r41 := hw9.symm
  subst hw9
  obtain ⟨hP9, hK9, hD9⟩ := hB9
  rw [ht9] at hP9
  obtain ⟨hP, hD⟩ := va_join (wr := [(q_p1, .inr (6, [.int v_p1_stands, .int v_p1_lent, .int v_p1_pipe, .int v_p1_houses, .ref q_p1_room, .ref q_p1_daily, .ref q_p1_drain, .ref q_p1_above])), (q_p1_room, .inl (cI, 8, .inl v_p1_room)), (q_p1_daily, .inl (cI, 8, .inl v_p1_daily)), (q_p1_drain, .inl (cI, 8, .inl v_p1_drain)), (q_p1_above, .inl (cI, 8, .inl v_p1_above))]) (w1 := [(q_this, .inr (8, [.ref q_letters, .int v_length, .int y41.2.1, .int y41.2.2.1, .int y41.2.2.2])), (q_letters, .inl (cI, 200, .inl v_letters))]) hP hD [5, 6] [0, 1, 2, 3, 4] rfl rfl (by decide) (by decide) hkk9 hFc hP9 hD9
  generalize H1 = H at hP hS ⊢
  have hP : va_P (dC, dI) vwCl [(q_p1, .inr (6, [.int v_p1_stands, .int v_p1_lent, .int v_p1_pipe, .int v_p1_houses, .ref q_p1_room, .ref q_p1_daily, .ref q_p1_drain, .ref q_p1_above])), (q_p1_room, .inl (cI, 8, .inl v_p1_room)), (q_p1_daily, .inl (cI, 8, .inl v_p1_daily)), (q_p1_drain, .inl (cI, 8, .inl v_p1_drain)), (q_p1_above, .inl (cI, 8, .inl v_p1_above)), (q_this, .inr (8, [.ref q_letters, .int v_length, .int y41.2.1, .int y41.2.2.1, .int y41.2.2.2])), (q_letters, .inl (cI, 200, .inl v_letters))] H := hP
  have hD : va_D A [(q_p1, .inr (6, [.int v_p1_stands, .int v_p1_lent, .int v_p1_pipe, .int v_p1_houses, .ref q_p1_room, .ref q_p1_daily, .ref q_p1_drain, .ref q_p1_above])), (q_p1_room, .inl (cI, 8, .inl v_p1_room)), (q_p1_daily, .inl (cI, 8, .inl v_p1_daily)), (q_p1_drain, .inl (cI, 8, .inl v_p1_drain)), (q_p1_above, .inl (cI, 8, .inl v_p1_above)), (q_this, .inr (8, [.ref q_letters, .int v_length, .int y41.2.1, .int y41.2.2.1, .int y41.2.2.2])), (q_letters, .inl (cI, 200, .inl v_letters))] := hD
  refine lv_istore (lv' := [(5, .int y41.1), (4, .int y28), (3, .int y23.1), (2, .int y15.1), (0, .ref q_this), (1, .ref q_p1)]) hx hb dX8_readHouse_44 hl (by decide) rfl (fun ls hl => ?_)
  refine lv_iload hx hb dX8_readHouse_46 (lv_at hl 0 rfl) ?_
  refine lv_bipush (v := 9) hx hb dX8_readHouse_48 (by decide) ?_
  refine lv_icmp_eq (tgt := 69) hx hb dX8_readHouse_50 (by decide) (fun c1 => ?_) (fun c1 => ?_)
  · have hrun := oz_t hrun c1
    refine lv_aload_n hx hb dX8_readHouse_69 rfl (lv_at hl 4 rfl) ?_
    obtain ⟨y70, hc70, hrun⟩ := oz_bind hrun
    have hPc := hP.sub (ws' := [(q_this, .inr (8, [.ref q_letters, .int v_length, .int y41.2.1, .int y41.2.2.1, .int y41.2.2.2])), (q_letters, .inl (cI, 200, .inl v_letters))]) [5, 6] rfl
    have hDc := hD.sub (ws' := [(q_this, .inr (8, [.ref q_letters, .int v_length, .int y41.2.1, .int y41.2.2.1, .int y41.2.2.2])), (q_letters, .inl (cI, 200, .inl v_letters))]) [5, 6] (by decide) rfl
    have hFc := va_free (wc := [(q_this, .inr (8, [.ref q_letters, .int v_length, .int y41.2.1, .int y41.2.2.1, .int y41.2.2.2])), (q_letters, .inl (cI, 200, .inl v_letters))]) hD hS hA [5, 6] rfl
    refine va_callv (va_runV (As := []) (rest := []) ⟨hx, hb, hml, hown, hts⟩ (tX8_readEnd l dC dI cI cZ q_letters q_this H.size v_length y41.2.1 y41.2.2.1 y41.2.2.2 v_letters y70 hc70) (cwV 0 hts gX8_readHouse_X8_readEnd rfl rfl rfl (by decide +kernel) ⟨Nat.le_of_ble_eq_true rfl, Nat.le_of_ble_eq_true rfl⟩) ⟨fun a U g mk q => by obtain ⟨q0, q1, qP, qK, qD⟩ := q; exact ⟨q0, q1, qP, va_K.moved (u := U) (U := U.calling g mk a) (Vm.Alike.refl U.vm) qK, qD⟩, va_recv hK hPc (ci := 8) (q0 := 0) rfl rfl, fun U hU hW => ⟨rfl, by rw [hU], by rw [hU]; exact hPc, va_K.moved hW.alike hK, hDc.weaken (fun _ _ _ _ => trivial)⟩⟩ rfl rfl hl.1 rfl (lv_room (Nat.le_of_ble_eq_true rfl)) dX8_readHouse_70 ⟨Nat.le_of_ble_eq_true rfl, Nat.le_of_ble_eq_true rfl⟩) hS (fun q _ h => hFc q h) hFc (fun u9 t9 H1 locs ht9 hvm9 hw9 hB9 hz9 hkk9 hS => ?_)
    obtain ⟨hP9, hK9, hD9⟩ := hB9
    rw [ht9] at hP9
    obtain ⟨hP, hD⟩ := va_join (wr := [(q_p1, .inr (6, [.int v_p1_stands, .int v_p1_lent, .int v_p1_pipe, .int v_p1_houses, .ref q_p1_room, .ref q_p1_daily, .ref q_p1_drain, .ref q_p1_above])), (q_p1_room, .inl (cI, 8, .inl v_p1_room)), (q_p1_daily, .inl (cI, 8, .inl v_p1_daily)), (q_p1_drain, .inl (cI, 8, .inl v_p1_drain)), (q_p1_above, .inl (cI, 8, .inl v_p1_above))]) (w1 := [(q_this, .inr (8, [.ref q_letters, .int v_length, .int y70.1, .int y70.2.1, .int y70.2.2])), (q_letters, .inl (cI, 200, .inl v_letters))]) hP hD [5, 6] [0, 1, 2, 3, 4] rfl rfl (by decide) (by decide) hkk9 hFc hP9 hD9
    generalize H1 = H at hP hS ⊢
    have hP : va_P (dC, dI) vwCl [(q_p1, .inr (6, [.int v_p1_stands, .int v_p1_lent, .int v_p1_pipe, .int v_p1_houses, .ref q_p1_room, .ref q_p1_daily, .ref q_p1_drain, .ref q_p1_above])), (q_p1_room, .inl (cI, 8, .inl v_p1_room)), (q_p1_daily, .inl (cI, 8, .inl v_p1_daily)), (q_p1_drain, .inl (cI, 8, .inl v_p1_drain)), (q_p1_above, .inl (cI, 8, .inl v_p1_above)), (q_this, .inr (8, [.ref q_letters, .int v_length, .int y70.1, .int y70.2.1, .int y70.2.2])), (q_letters, .inl (cI, 200, .inl v_letters))] H := hP
    have hD : va_D A [(q_p1, .inr (6, [.int v_p1_stands, .int v_p1_lent, .int v_p1_pipe, .int v_p1_houses, .ref q_p1_room, .ref q_p1_daily, .ref q_p1_drain, .ref q_p1_above])), (q_p1_room, .inl (cI, 8, .inl v_p1_room)), (q_p1_daily, .inl (cI, 8, .inl v_p1_daily)), (q_p1_drain, .inl (cI, 8, .inl v_p1_drain)), (q_p1_above, .inl (cI, 8, .inl v_p1_above)), (q_this, .inr (8, [.ref q_letters, .int v_length, .int y70.1, .int y70.2.1, .int y70.2.2])), (q_letters, .inl (cI, 200, .inl v_letters))] := hD
    refine lv_aload_n hx hb dX8_readHouse_73 rfl (lv_at hl 4 rfl) ?_
    refine va_get (D := (dC, dI)) (ci := 8) (v := .int y70.1) (C := RX8) (T := TX8) (N := 5) hx hb hts hiX8 hown hK hP 5 rfl rfl 2 (by decide) hk19 (fun _ h9 => h9) rfl dX8_readHouse_74 ?_
    refine lv_if_ne (tgt := 88) hx hb dX8_readHouse_77 (by decide) (fun c2 => ?_) (fun c2 => ?_)
    · have hrun := oz_f hrun c2
      have ho9 := Option.some.inj hrun
      subst ho9
      have hP9 := hP.sub (ws' := [(q_this, .inr (8, [.ref q_letters, .int v_length, .int y70.1, .int y70.2.1, .int y70.2.2])), (q_letters, .inl (cI, 200, .inl v_letters)), (q_p1, .inr (6, [.int v_p1_stands, .int v_p1_lent, .int v_p1_pipe, .int v_p1_houses, .ref q_p1_room, .ref q_p1_daily, .ref q_p1_drain, .ref q_p1_above])), (q_p1_room, .inl (cI, 8, .inl v_p1_room)), (q_p1_daily, .inl (cI, 8, .inl v_p1_daily)), (q_p1_drain, .inl (cI, 8, .inl v_p1_drain)), (q_p1_above, .inl (cI, 8, .inl v_p1_above))]) [5, 6, 0, 1, 2, 3, 4] rfl
      have hD9 := hD.sub (ws' := [(q_this, .inr (8, [.ref q_letters, .int v_length, .int y70.1, .int y70.2.1, .int y70.2.2])), (q_letters, .inl (cI, 200, .inl v_letters)), (q_p1, .inr (6, [.int v_p1_stands, .int v_p1_lent, .int v_p1_pipe, .int v_p1_houses, .ref q_p1_room, .ref q_p1_daily, .ref q_p1_drain, .ref q_p1_above])), (q_p1_room, .inl (cI, 8, .inl v_p1_room)), (q_p1_daily, .inl (cI, 8, .inl v_p1_daily)), (q_p1_drain, .inl (cI, 8, .inl v_p1_drain)), (q_p1_above, .inl (cI, 8, .inl v_p1_above))]) [5, 6, 0, 1, 2, 3, 4] (by decide) rfl
      rw [hQ]
      exact W.vret hx hb hr (fun t ht hW => ⟨⟨(), rfl, trivial, by rw [ht]; exact hP9, va_K.moved hW.alike hK, hD9⟩, hS.F ht⟩) hS.2.2 dX8_readHouse_88
    · have hrun := oz_t hrun c2
      refine lv_aload_n hx hb dX8_readHouse_80 rfl (lv_at hl 5 rfl) ?_
      refine lv_iload_n hx hb dX8_readHouse_81 rfl (lv_at hl 3 rfl) ?_
      refine lv_iload_n hx hb dX8_readHouse_82 rfl (lv_at hl 2 rfl) ?_
      refine lv_iload hx hb dX8_readHouse_83 (lv_at hl 0 rfl) ?_
      obtain ⟨y85, hc85, hrun⟩ := oz_bind hrun
      have hPc := hP.sub (ws' := [(q_p1, .inr (6, [.int v_p1_stands, .int v_p1_lent, .int v_p1_pipe, .int v_p1_houses, .ref q_p1_room, .ref q_p1_daily, .ref q_p1_drain, .ref q_p1_above])), (q_p1_room, .inl (cI, 8, .inl v_p1_room)), (q_p1_daily, .inl (cI, 8, .inl v_p1_daily)), (q_p1_drain, .inl (cI, 8, .inl v_p1_drain)), (q_p1_above, .inl (cI, 8, .inl v_p1_above))]) [0, 1, 2, 3, 4] rfl
      have hDc := hD.sub (ws' := [(q_p1, .inr (6, [.int v_p1_stands, .int v_p1_lent, .int v_p1_pipe, .int v_p1_houses, .ref q_p1_room, .ref q_p1_daily, .ref q_p1_drain, .ref q_p1_above])), (q_p1_room, .inl (cI, 8, .inl v_p1_room)), (q_p1_daily, .inl (cI, 8, .inl v_p1_daily)), (q_p1_drain, .inl (cI, 8, .inl v_p1_drain)), (q_p1_above, .inl (cI, 8, .inl v_p1_above))]) [0, 1, 2, 3, 4] (by decide) rfl
      have hFc := va_free (wc := [(q_p1, .inr (6, [.int v_p1_stands, .int v_p1_lent, .int v_p1_pipe, .int v_p1_houses, .ref q_p1_room, .ref q_p1_daily, .ref q_p1_drain, .ref q_p1_above])), (q_p1_room, .inl (cI, 8, .inl v_p1_room)), (q_p1_daily, .inl (cI, 8, .inl v_p1_daily)), (q_p1_drain, .inl (cI, 8, .inl v_p1_drain)), (q_p1_above, .inl (cI, 8, .inl v_p1_above))]) hD hS hA [0, 1, 2, 3, 4] rfl
      refine va_callv (va_runV (As := [.int y15.1, .int y23.1, .int y41.1]) (rest := []) ⟨hx, hb, hml, hown, hts⟩ (tX6_addHouse l dC dI cI cZ q_p1_above q_p1_daily q_p1_drain q_p1_room q_p1 H.size v_p1_stands v_p1_lent v_p1_pipe v_p1_houses v_p1_room v_p1_daily v_p1_drain v_p1_above y15.1 y23.1 y41.1 y85 hc85) (cwV 3 hts gX8_readHouse_X6_addHouse rfl rfl rfl (by decide +kernel) ⟨Nat.le_of_ble_eq_true rfl, Nat.le_of_ble_eq_true rfl⟩) ⟨fun a U g mk q => by obtain ⟨q0, q1, qP, qK, qD⟩ := q; exact ⟨q0, q1, qP, va_K.moved (u := U) (U := U.calling g mk a) (Vm.Alike.refl U.vm) qK, qD⟩, va_recv hK hPc (ci := 6) (q0 := 0) rfl rfl, fun U hU hW => ⟨rfl, by rw [hU], by rw [hU]; exact hPc, va_K.moved hW.alike hK, hDc.weaken (fun _ _ _ _ => trivial)⟩⟩ rfl rfl hl.1 rfl (lv_room (Nat.le_of_ble_eq_true rfl)) dX8_readHouse_85 ⟨Nat.le_of_ble_eq_true rfl, Nat.le_of_ble_eq_true rfl⟩) hS (fun q _ h => hFc q h) hFc (fun u9 t9 H1 locs ht9 hvm9 hw9 hB9 hz9 hkk9 hS => ?_)
      obtain ⟨hP9, hK9, hD9⟩ := hB9
      rw [ht9] at hP9
      obtain ⟨hP, hD⟩ := va_join (wr := [(q_this, .inr (8, [.ref q_letters, .int v_length, .int y70.1, .int y70.2.1, .int y70.2.2])), (q_letters, .inl (cI, 200, .inl v_letters))]) (w1 := [(q_p1, .inr (6, [.int v_p1_stands, .int v_p1_lent, .int v_p1_pipe, .int y85.1, .ref q_p1_room, .ref q_p1_daily, .ref q_p1_drain, .ref q_p1_above])), (q_p1_room, .inl (cI, 8, .inl y85.2.1)), (q_p1_daily, .inl (cI, 8, .inl y85.2.2.1)), (q_p1_drain, .inl (cI, 8, .inl y85.2.2.2.1)), (q_p1_above, .inl (cI, 8, .inl y85.2.2.2.2))]) hP hD [0, 1, 2, 3, 4] [5, 6] rfl rfl (by decide) (by decide) hkk9 hFc hP9 hD9
      generalize H1 = H at hP hS ⊢
      have hP : va_P (dC, dI) vwCl [(q_this, .inr (8, [.ref q_letters, .int v_length, .int y70.1, .int y70.2.1, .int y70.2.2])), (q_letters, .inl (cI, 200, .inl v_letters)), (q_p1, .inr (6, [.int v_p1_stands, .int v_p1_lent, .int v_p1_pipe, .int y85.1, .ref q_p1_room, .ref q_p1_daily, .ref q_p1_drain, .ref q_p1_above])), (q_p1_room, .inl (cI, 8, .inl y85.2.1)), (q_p1_daily, .inl (cI, 8, .inl y85.2.2.1)), (q_p1_drain, .inl (cI, 8, .inl y85.2.2.2.1)), (q_p1_above, .inl (cI, 8, .inl y85.2.2.2.2))] H := hP
      have hD : va_D A [(q_this, .inr (8, [.ref q_letters, .int v_length, .int y70.1, .int y70.2.1, .int y70.2.2])), (q_letters, .inl (cI, 200, .inl v_letters)), (q_p1, .inr (6, [.int v_p1_stands, .int v_p1_lent, .int v_p1_pipe, .int y85.1, .ref q_p1_room, .ref q_p1_daily, .ref q_p1_drain, .ref q_p1_above])), (q_p1_room, .inl (cI, 8, .inl y85.2.1)), (q_p1_daily, .inl (cI, 8, .inl y85.2.2.1)), (q_p1_drain, .inl (cI, 8, .inl y85.2.2.2.1)), (q_p1_above, .inl (cI, 8, .inl y85.2.2.2.2))] := hD
      have ho9 := Option.some.inj hrun
      subst ho9
      have hP9 := hP.sub (ws' := [(q_this, .inr (8, [.ref q_letters, .int v_length, .int y70.1, .int y70.2.1, .int y70.2.2])), (q_letters, .inl (cI, 200, .inl v_letters)), (q_p1, .inr (6, [.int v_p1_stands, .int v_p1_lent, .int v_p1_pipe, .int y85.1, .ref q_p1_room, .ref q_p1_daily, .ref q_p1_drain, .ref q_p1_above])), (q_p1_room, .inl (cI, 8, .inl y85.2.1)), (q_p1_daily, .inl (cI, 8, .inl y85.2.2.1)), (q_p1_drain, .inl (cI, 8, .inl y85.2.2.2.1)), (q_p1_above, .inl (cI, 8, .inl y85.2.2.2.2))]) [0, 1, 2, 3, 4, 5, 6] rfl
      have hD9 := hD.sub (ws' := [(q_this, .inr (8, [.ref q_letters, .int v_length, .int y70.1, .int y70.2.1, .int y70.2.2])), (q_letters, .inl (cI, 200, .inl v_letters)), (q_p1, .inr (6, [.int v_p1_stands, .int v_p1_lent, .int v_p1_pipe, .int y85.1, .ref q_p1_room, .ref q_p1_daily, .ref q_p1_drain, .ref q_p1_above])), (q_p1_room, .inl (cI, 8, .inl y85.2.1)), (q_p1_daily, .inl (cI, 8, .inl y85.2.2.1)), (q_p1_drain, .inl (cI, 8, .inl y85.2.2.2.1)), (q_p1_above, .inl (cI, 8, .inl y85.2.2.2.2))]) [0, 1, 2, 3, 4, 5, 6] (by decide) rfl
      rw [hQ]
      exact W.vret hx hb hr (fun t ht hW => ⟨⟨(), rfl, trivial, by rw [ht]; exact hP9, va_K.moved hW.alike hK, hD9⟩, hS.F ht⟩) hS.2.2 dX8_readHouse_88
  · have hrun := oz_f hrun c1
    refine lv_aload_n hx hb dX8_readHouse_53 rfl (lv_at hl 5 rfl) ?_
    refine lv_iload hx hb dX8_readHouse_54 (lv_at hl 0 rfl) ?_
    obtain ⟨y56, hc56, hrun⟩ := oz_bind hrun
    have hPc := hP.sub (ws' := [(q_p1, .inr (6, [.int v_p1_stands, .int v_p1_lent, .int v_p1_pipe, .int v_p1_houses, .ref q_p1_room, .ref q_p1_daily, .ref q_p1_drain, .ref q_p1_above]))]) [0] rfl
    have hDc := hD.sub (ws' := [(q_p1, .inr (6, [.int v_p1_stands, .int v_p1_lent, .int v_p1_pipe, .int v_p1_houses, .ref q_p1_room, .ref q_p1_daily, .ref q_p1_drain, .ref q_p1_above]))]) [0] (by decide) rfl
    have hFc := va_free (wc := [(q_p1, .inr (6, [.int v_p1_stands, .int v_p1_lent, .int v_p1_pipe, .int v_p1_houses, .ref q_p1_room, .ref q_p1_daily, .ref q_p1_drain, .ref q_p1_above]))]) hD hS hA [0] rfl
    refine va_calli (va_runV (As := [.int y41.1]) (rest := []) ⟨hx, hb, hml, hown, hts⟩ (tX6_has l dC dI cI cZ q_p1_above q_p1_daily q_p1_drain q_p1_room q_p1 H.size v_p1_stands v_p1_lent v_p1_pipe v_p1_houses y41.1 y56 hc56) (cwV 1 hts gX8_readHouse_X6_has rfl rfl rfl (by decide +kernel) ⟨Nat.le_of_ble_eq_true rfl, Nat.le_of_ble_eq_true rfl⟩) ⟨fun a U g mk q => by obtain ⟨q0, q1, qP, qK, qD⟩ := q; exact ⟨q0, q1, qP, va_K.moved (u := U) (U := U.calling g mk a) (Vm.Alike.refl U.vm) qK, qD⟩, va_recv hK hPc (ci := 6) (q0 := 0) rfl rfl, fun U hU hW => ⟨rfl, by rw [hU], by rw [hU]; exact hPc, va_K.moved hW.alike hK, hDc.weaken (fun _ _ _ _ => trivial)⟩⟩ rfl rfl hl.1 rfl (lv_room (Nat.le_of_ble_eq_true rfl)) dX8_readHouse_56 ⟨Nat.le_of_ble_eq_true rfl, Nat.le_of_ble_eq_true rfl⟩) hS (fun q _ h => hFc q h) hFc (fun r56 u9 t9 H1 locs ht9 hvm9 hw9 hB9 hz9 hkk9 hS => ?_)
    have hw9 : y56 = r56 := hw9.symm
    subst hw9
    obtain ⟨hP9, hK9, hD9⟩ := hB9
    rw [ht9] at hP9
    obtain ⟨hP, hD⟩ := va_join (wr := [(q_p1_room, .inl (cI, 8, .inl v_p1_room)), (q_p1_daily, .inl (cI, 8, .inl v_p1_daily)), (q_p1_drain, .inl (cI, 8, .inl v_p1_drain)), (q_p1_above, .inl (cI, 8, .inl v_p1_above)), (q_this, .inr (8, [.ref q_letters, .int v_length, .int y41.2.1, .int y41.2.2.1, .int y41.2.2.2])), (q_letters, .inl (cI, 200, .inl v_letters))]) (w1 := [(q_p1, .inr (6, [.int v_p1_stands, .int v_p1_lent, .int v_p1_pipe, .int v_p1_houses, .ref q_p1_room, .ref q_p1_daily, .ref q_p1_drain, .ref q_p1_above]))]) hP hD [0] [1, 2, 3, 4, 5, 6] rfl rfl (by decide) (by decide) hkk9 hFc hP9 hD9
    generalize H1 = H at hP hS ⊢
    have hP : va_P (dC, dI) vwCl [(q_p1_room, .inl (cI, 8, .inl v_p1_room)), (q_p1_daily, .inl (cI, 8, .inl v_p1_daily)), (q_p1_drain, .inl (cI, 8, .inl v_p1_drain)), (q_p1_above, .inl (cI, 8, .inl v_p1_above)), (q_this, .inr (8, [.ref q_letters, .int v_length, .int y41.2.1, .int y41.2.2.1, .int y41.2.2.2])), (q_letters, .inl (cI, 200, .inl v_letters)), (q_p1, .inr (6, [.int v_p1_stands, .int v_p1_lent, .int v_p1_pipe, .int v_p1_houses, .ref q_p1_room, .ref q_p1_daily, .ref q_p1_drain, .ref q_p1_above]))] H := hP
    have hD : va_D A [(q_p1_room, .inl (cI, 8, .inl v_p1_room)), (q_p1_daily, .inl (cI, 8, .inl v_p1_daily)), (q_p1_drain, .inl (cI, 8, .inl v_p1_drain)), (q_p1_above, .inl (cI, 8, .inl v_p1_above)), (q_this, .inr (8, [.ref q_letters, .int v_length, .int y41.2.1, .int y41.2.2.1, .int y41.2.2.2])), (q_letters, .inl (cI, 200, .inl v_letters)), (q_p1, .inr (6, [.int v_p1_stands, .int v_p1_lent, .int v_p1_pipe, .int v_p1_houses, .ref q_p1_room, .ref q_p1_daily, .ref q_p1_drain, .ref q_p1_above]))] := hD
    refine lv_if_ne (tgt := 69) hx hb dX8_readHouse_59 (by decide) (fun c3 => ?_) (fun c3 => ?_)
    · have hrun := oz_f hrun c3
      refine lv_aload_n hx hb dX8_readHouse_69 rfl (lv_at hl 4 rfl) ?_
      obtain ⟨y70, hc70, hrun⟩ := oz_bind hrun
      have hPc := hP.sub (ws' := [(q_this, .inr (8, [.ref q_letters, .int v_length, .int y41.2.1, .int y41.2.2.1, .int y41.2.2.2])), (q_letters, .inl (cI, 200, .inl v_letters))]) [4, 5] rfl
      have hDc := hD.sub (ws' := [(q_this, .inr (8, [.ref q_letters, .int v_length, .int y41.2.1, .int y41.2.2.1, .int y41.2.2.2])), (q_letters, .inl (cI, 200, .inl v_letters))]) [4, 5] (by decide) rfl
      have hFc := va_free (wc := [(q_this, .inr (8, [.ref q_letters, .int v_length, .int y41.2.1, .int y41.2.2.1, .int y41.2.2.2])), (q_letters, .inl (cI, 200, .inl v_letters))]) hD hS hA [4, 5] rfl
      refine va_callv (va_runV (As := []) (rest := []) ⟨hx, hb, hml, hown, hts⟩ (tX8_readEnd l dC dI cI cZ q_letters q_this H.size v_length y41.2.1 y41.2.2.1 y41.2.2.2 v_letters y70 hc70) (cwV 0 hts gX8_readHouse_X8_readEnd rfl rfl rfl (by decide +kernel) ⟨Nat.le_of_ble_eq_true rfl, Nat.le_of_ble_eq_true rfl⟩) ⟨fun a U g mk q => by obtain ⟨q0, q1, qP, qK, qD⟩ := q; exact ⟨q0, q1, qP, va_K.moved (u := U) (U := U.calling g mk a) (Vm.Alike.refl U.vm) qK, qD⟩, va_recv hK hPc (ci := 8) (q0 := 0) rfl rfl, fun U hU hW => ⟨rfl, by rw [hU], by rw [hU]; exact hPc, va_K.moved hW.alike hK, hDc.weaken (fun _ _ _ _ => trivial)⟩⟩ rfl rfl hl.1 rfl (lv_room (Nat.le_of_ble_eq_true rfl)) dX8_readHouse_70 ⟨Nat.le_of_ble_eq_true rfl, Nat.le_of_ble_eq_true rfl⟩) hS (fun q _ h => hFc q h) hFc (fun u9 t9 H1 locs ht9 hvm9 hw9 hB9 hz9 hkk9 hS => ?_)
      obtain ⟨hP9, hK9, hD9⟩ := hB9
      rw [ht9] at hP9
      obtain ⟨hP, hD⟩ := va_join (wr := [(q_p1_room, .inl (cI, 8, .inl v_p1_room)), (q_p1_daily, .inl (cI, 8, .inl v_p1_daily)), (q_p1_drain, .inl (cI, 8, .inl v_p1_drain)), (q_p1_above, .inl (cI, 8, .inl v_p1_above)), (q_p1, .inr (6, [.int v_p1_stands, .int v_p1_lent, .int v_p1_pipe, .int v_p1_houses, .ref q_p1_room, .ref q_p1_daily, .ref q_p1_drain, .ref q_p1_above]))]) (w1 := [(q_this, .inr (8, [.ref q_letters, .int v_length, .int y70.1, .int y70.2.1, .int y70.2.2])), (q_letters, .inl (cI, 200, .inl v_letters))]) hP hD [4, 5] [0, 1, 2, 3, 6] rfl rfl (by decide) (by decide) hkk9 hFc hP9 hD9
      generalize H1 = H at hP hS ⊢
      have hP : va_P (dC, dI) vwCl [(q_p1_room, .inl (cI, 8, .inl v_p1_room)), (q_p1_daily, .inl (cI, 8, .inl v_p1_daily)), (q_p1_drain, .inl (cI, 8, .inl v_p1_drain)), (q_p1_above, .inl (cI, 8, .inl v_p1_above)), (q_p1, .inr (6, [.int v_p1_stands, .int v_p1_lent, .int v_p1_pipe, .int v_p1_houses, .ref q_p1_room, .ref q_p1_daily, .ref q_p1_drain, .ref q_p1_above])), (q_this, .inr (8, [.ref q_letters, .int v_length, .int y70.1, .int y70.2.1, .int y70.2.2])), (q_letters, .inl (cI, 200, .inl v_letters))] H := hP
      have hD : va_D A [(q_p1_room, .inl (cI, 8, .inl v_p1_room)), (q_p1_daily, .inl (cI, 8, .inl v_p1_daily)), (q_p1_drain, .inl (cI, 8, .inl v_p1_drain)), (q_p1_above, .inl (cI, 8, .inl v_p1_above)), (q_p1, .inr (6, [.int v_p1_stands, .int v_p1_lent, .int v_p1_pipe, .int v_p1_houses, .ref q_p1_room, .ref q_p1_daily, .ref q_p1_drain, .ref q_p1_above])), (q_this, .inr (8, [.ref q_letters, .int v_length, .int y70.1, .int y70.2.1, .int y70.2.2])), (q_letters, .inl (cI, 200, .inl v_letters))] := hD
      refine lv_aload_n hx hb dX8_readHouse_73 rfl (lv_at hl 4 rfl) ?_
      refine va_get (D := (dC, dI)) (ci := 8) (v := .int y70.1) (C := RX8) (T := TX8) (N := 5) hx hb hts hiX8 hown hK hP 5 rfl rfl 2 (by decide) hk19 (fun _ h9 => h9) rfl dX8_readHouse_74 ?_
      refine lv_if_ne (tgt := 88) hx hb dX8_readHouse_77 (by decide) (fun c4 => ?_) (fun c4 => ?_)
      · have hrun := oz_f hrun c4
        have ho9 := Option.some.inj hrun
        subst ho9
        have hP9 := hP.sub (ws' := [(q_this, .inr (8, [.ref q_letters, .int v_length, .int y70.1, .int y70.2.1, .int y70.2.2])), (q_letters, .inl (cI, 200, .inl v_letters)), (q_p1, .inr (6, [.int v_p1_stands, .int v_p1_lent, .int v_p1_pipe, .int v_p1_houses, .ref q_p1_room, .ref q_p1_daily, .ref q_p1_drain, .ref q_p1_above])), (q_p1_room, .inl (cI, 8, .inl v_p1_room)), (q_p1_daily, .inl (cI, 8, .inl v_p1_daily)), (q_p1_drain, .inl (cI, 8, .inl v_p1_drain)), (q_p1_above, .inl (cI, 8, .inl v_p1_above))]) [5, 6, 4, 0, 1, 2, 3] rfl
        have hD9 := hD.sub (ws' := [(q_this, .inr (8, [.ref q_letters, .int v_length, .int y70.1, .int y70.2.1, .int y70.2.2])), (q_letters, .inl (cI, 200, .inl v_letters)), (q_p1, .inr (6, [.int v_p1_stands, .int v_p1_lent, .int v_p1_pipe, .int v_p1_houses, .ref q_p1_room, .ref q_p1_daily, .ref q_p1_drain, .ref q_p1_above])), (q_p1_room, .inl (cI, 8, .inl v_p1_room)), (q_p1_daily, .inl (cI, 8, .inl v_p1_daily)), (q_p1_drain, .inl (cI, 8, .inl v_p1_drain)), (q_p1_above, .inl (cI, 8, .inl v_p1_above))]) [5, 6, 4, 0, 1, 2, 3] (by decide) rfl
        rw [hQ]
        exact W.vret hx hb hr (fun t ht hW => ⟨⟨(), rfl, trivial, by rw [ht]; exact hP9, va_K.moved hW.alike hK, hD9⟩, hS.F ht⟩) hS.2.2 dX8_readHouse_88
      · have hrun := oz_t hrun c4
        refine lv_aload_n hx hb dX8_readHouse_80 rfl (lv_at hl 5 rfl) ?_
        refine lv_iload_n hx hb dX8_readHouse_81 rfl (lv_at hl 3 rfl) ?_
        refine lv_iload_n hx hb dX8_readHouse_82 rfl (lv_at hl 2 rfl) ?_
        refine lv_iload hx hb dX8_readHouse_83 (lv_at hl 0 rfl) ?_
        obtain ⟨y85, hc85, hrun⟩ := oz_bind hrun
        have hPc := hP.sub (ws' := [(q_p1, .inr (6, [.int v_p1_stands, .int v_p1_lent, .int v_p1_pipe, .int v_p1_houses, .ref q_p1_room, .ref q_p1_daily, .ref q_p1_drain, .ref q_p1_above])), (q_p1_room, .inl (cI, 8, .inl v_p1_room)), (q_p1_daily, .inl (cI, 8, .inl v_p1_daily)), (q_p1_drain, .inl (cI, 8, .inl v_p1_drain)), (q_p1_above, .inl (cI, 8, .inl v_p1_above))]) [4, 0, 1, 2, 3] rfl
        have hDc := hD.sub (ws' := [(q_p1, .inr (6, [.int v_p1_stands, .int v_p1_lent, .int v_p1_pipe, .int v_p1_houses, .ref q_p1_room, .ref q_p1_daily, .ref q_p1_drain, .ref q_p1_above])), (q_p1_room, .inl (cI, 8, .inl v_p1_room)), (q_p1_daily, .inl (cI, 8, .inl v_p1_daily)), (q_p1_drain, .inl (cI, 8, .inl v_p1_drain)), (q_p1_above, .inl (cI, 8, .inl v_p1_above))]) [4, 0, 1, 2, 3] (by decide) rfl
        have hFc := va_free (wc := [(q_p1, .inr (6, [.int v_p1_stands, .int v_p1_lent, .int v_p1_pipe, .int v_p1_houses, .ref q_p1_room, .ref q_p1_daily, .ref q_p1_drain, .ref q_p1_above])), (q_p1_room, .inl (cI, 8, .inl v_p1_room)), (q_p1_daily, .inl (cI, 8, .inl v_p1_daily)), (q_p1_drain, .inl (cI, 8, .inl v_p1_drain)), (q_p1_above, .inl (cI, 8, .inl v_p1_above))]) hD hS hA [4, 0, 1, 2, 3] rfl
        refine va_callv (va_runV (As := [.int y15.1, .int y23.1, .int y41.1]) (rest := []) ⟨hx, hb, hml, hown, hts⟩ (tX6_addHouse l dC dI cI cZ q_p1_above q_p1_daily q_p1_drain q_p1_room q_p1 H.size v_p1_stands v_p1_lent v_p1_pipe v_p1_houses v_p1_room v_p1_daily v_p1_drain v_p1_above y15.1 y23.1 y41.1 y85 hc85) (cwV 3 hts gX8_readHouse_X6_addHouse rfl rfl rfl (by decide +kernel) ⟨Nat.le_of_ble_eq_true rfl, Nat.le_of_ble_eq_true rfl⟩) ⟨fun a U g mk q => by obtain ⟨q0, q1, qP, qK, qD⟩ := q; exact ⟨q0, q1, qP, va_K.moved (u := U) (U := U.calling g mk a) (Vm.Alike.refl U.vm) qK, qD⟩, va_recv hK hPc (ci := 6) (q0 := 0) rfl rfl, fun U hU hW => ⟨rfl, by rw [hU], by rw [hU]; exact hPc, va_K.moved hW.alike hK, hDc.weaken (fun _ _ _ _ => trivial)⟩⟩ rfl rfl hl.1 rfl (lv_room (Nat.le_of_ble_eq_true rfl)) dX8_readHouse_85 ⟨Nat.le_of_ble_eq_true rfl, Nat.le_of_ble_eq_true rfl⟩) hS (fun q _ h => hFc q h) hFc (fun u9 t9 H1 locs ht9 hvm9 hw9 hB9 hz9 hkk9 hS => ?_)
        obtain ⟨hP9, hK9, hD9⟩ := hB9
        rw [ht9] at hP9
        obtain ⟨hP, hD⟩ := va_join (wr := [(q_this, .inr (8, [.ref q_letters, .int v_length, .int y70.1, .int y70.2.1, .int y70.2.2])), (q_letters, .inl (cI, 200, .inl v_letters))]) (w1 := [(q_p1, .inr (6, [.int v_p1_stands, .int v_p1_lent, .int v_p1_pipe, .int y85.1, .ref q_p1_room, .ref q_p1_daily, .ref q_p1_drain, .ref q_p1_above])), (q_p1_room, .inl (cI, 8, .inl y85.2.1)), (q_p1_daily, .inl (cI, 8, .inl y85.2.2.1)), (q_p1_drain, .inl (cI, 8, .inl y85.2.2.2.1)), (q_p1_above, .inl (cI, 8, .inl y85.2.2.2.2))]) hP hD [4, 0, 1, 2, 3] [5, 6] rfl rfl (by decide) (by decide) hkk9 hFc hP9 hD9
        generalize H1 = H at hP hS ⊢
        have hP : va_P (dC, dI) vwCl [(q_this, .inr (8, [.ref q_letters, .int v_length, .int y70.1, .int y70.2.1, .int y70.2.2])), (q_letters, .inl (cI, 200, .inl v_letters)), (q_p1, .inr (6, [.int v_p1_stands, .int v_p1_lent, .int v_p1_pipe, .int y85.1, .ref q_p1_room, .ref q_p1_daily, .ref q_p1_drain, .ref q_p1_above])), (q_p1_room, .inl (cI, 8, .inl y85.2.1)), (q_p1_daily, .inl (cI, 8, .inl y85.2.2.1)), (q_p1_drain, .inl (cI, 8, .inl y85.2.2.2.1)), (q_p1_above, .inl (cI, 8, .inl y85.2.2.2.2))] H := hP
        have hD : va_D A [(q_this, .inr (8, [.ref q_letters, .int v_length, .int y70.1, .int y70.2.1, .int y70.2.2])), (q_letters, .inl (cI, 200, .inl v_letters)), (q_p1, .inr (6, [.int v_p1_stands, .int v_p1_lent, .int v_p1_pipe, .int y85.1, .ref q_p1_room, .ref q_p1_daily, .ref q_p1_drain, .ref q_p1_above])), (q_p1_room, .inl (cI, 8, .inl y85.2.1)), (q_p1_daily, .inl (cI, 8, .inl y85.2.2.1)), (q_p1_drain, .inl (cI, 8, .inl y85.2.2.2.1)), (q_p1_above, .inl (cI, 8, .inl y85.2.2.2.2))] := hD
        have ho9 := Option.some.inj hrun
        subst ho9
        have hP9 := hP.sub (ws' := [(q_this, .inr (8, [.ref q_letters, .int v_length, .int y70.1, .int y70.2.1, .int y70.2.2])), (q_letters, .inl (cI, 200, .inl v_letters)), (q_p1, .inr (6, [.int v_p1_stands, .int v_p1_lent, .int v_p1_pipe, .int y85.1, .ref q_p1_room, .ref q_p1_daily, .ref q_p1_drain, .ref q_p1_above])), (q_p1_room, .inl (cI, 8, .inl y85.2.1)), (q_p1_daily, .inl (cI, 8, .inl y85.2.2.1)), (q_p1_drain, .inl (cI, 8, .inl y85.2.2.2.1)), (q_p1_above, .inl (cI, 8, .inl y85.2.2.2.2))]) [0, 1, 2, 3, 4, 5, 6] rfl
        have hD9 := hD.sub (ws' := [(q_this, .inr (8, [.ref q_letters, .int v_length, .int y70.1, .int y70.2.1, .int y70.2.2])), (q_letters, .inl (cI, 200, .inl v_letters)), (q_p1, .inr (6, [.int v_p1_stands, .int v_p1_lent, .int v_p1_pipe, .int y85.1, .ref q_p1_room, .ref q_p1_daily, .ref q_p1_drain, .ref q_p1_above])), (q_p1_room, .inl (cI, 8, .inl y85.2.1)), (q_p1_daily, .inl (cI, 8, .inl y85.2.2.1)), (q_p1_drain, .inl (cI, 8, .inl y85.2.2.2.1)), (q_p1_above, .inl (cI, 8, .inl y85.2.2.2.2))]) [0, 1, 2, 3, 4, 5, 6] (by decide) rfl
        rw [hQ]
        exact W.vret hx hb hr (fun t ht hW => ⟨⟨(), rfl, trivial, by rw [ht]; exact hP9, va_K.moved hW.alike hK, hD9⟩, hS.F ht⟩) hS.2.2 dX8_readHouse_88
    · have hrun := oz_t hrun c3
      refine lv_aload_n hx hb dX8_readHouse_62 rfl (lv_at hl 4 rfl) ?_
      refine lv_iconst (v := 2) hx hb dX8_readHouse_63 (by decide) ?_
      refine lv_iload hx hb dX8_readHouse_64 (lv_at hl 1 rfl) ?_
      obtain ⟨y66, hc66, hrun⟩ := oz_bind hrun
      have hPc := hP.sub (ws' := [(q_this, .inr (8, [.ref q_letters, .int v_length, .int y41.2.1, .int y41.2.2.1, .int y41.2.2.2]))]) [4] rfl
      have hDc := hD.sub (ws' := [(q_this, .inr (8, [.ref q_letters, .int v_length, .int y41.2.1, .int y41.2.2.1, .int y41.2.2.2]))]) [4] (by decide) rfl
      have hFc := va_free (wc := [(q_this, .inr (8, [.ref q_letters, .int v_length, .int y41.2.1, .int y41.2.2.1, .int y41.2.2.2]))]) hD hS hA [4] rfl
      refine va_callv (va_runV (As := [.int 2, .int y28]) (rest := []) ⟨hx, hb, hml, hown, hts⟩ (tX8_blame l dC dI cI cZ q_letters q_this H.size v_length y41.2.2.2 y41.2.1 y41.2.2.1 2 y28 y66 hc66) (cwV 2 hts gX8_readHouse_X8_blame rfl rfl rfl (by decide +kernel) ⟨Nat.le_of_ble_eq_true rfl, Nat.le_of_ble_eq_true rfl⟩) ⟨fun a U g mk q => by obtain ⟨q0, q1, qP, qK, qD⟩ := q; exact ⟨q0, q1, qP, va_K.moved (u := U) (U := U.calling g mk a) (Vm.Alike.refl U.vm) qK, qD⟩, va_recv hK hPc (ci := 8) (q0 := 0) rfl rfl, fun U hU hW => ⟨rfl, by rw [hU], by rw [hU]; exact hPc, va_K.moved hW.alike hK, hDc.weaken (fun _ _ _ _ => trivial)⟩⟩ rfl rfl hl.1 rfl (lv_room (Nat.le_of_ble_eq_true rfl)) dX8_readHouse_66 ⟨Nat.le_of_ble_eq_true rfl, Nat.le_of_ble_eq_true rfl⟩) hS (fun q _ h => hFc q h) hFc (fun u9 t9 H1 locs ht9 hvm9 hw9 hB9 hz9 hkk9 hS => ?_)
      obtain ⟨hP9, hK9, hD9⟩ := hB9
      rw [ht9] at hP9
      obtain ⟨hP, hD⟩ := va_join (wr := [(q_p1_room, .inl (cI, 8, .inl v_p1_room)), (q_p1_daily, .inl (cI, 8, .inl v_p1_daily)), (q_p1_drain, .inl (cI, 8, .inl v_p1_drain)), (q_p1_above, .inl (cI, 8, .inl v_p1_above)), (q_letters, .inl (cI, 200, .inl v_letters)), (q_p1, .inr (6, [.int v_p1_stands, .int v_p1_lent, .int v_p1_pipe, .int v_p1_houses, .ref q_p1_room, .ref q_p1_daily, .ref q_p1_drain, .ref q_p1_above]))]) (w1 := [(q_this, .inr (8, [.ref q_letters, .int v_length, .int y66.1, .int y66.2, .int y41.2.2.2]))]) hP hD [4] [0, 1, 2, 3, 5, 6] rfl rfl (by decide) (by decide) hkk9 hFc hP9 hD9
      generalize H1 = H at hP hS ⊢
      have hP : va_P (dC, dI) vwCl [(q_p1_room, .inl (cI, 8, .inl v_p1_room)), (q_p1_daily, .inl (cI, 8, .inl v_p1_daily)), (q_p1_drain, .inl (cI, 8, .inl v_p1_drain)), (q_p1_above, .inl (cI, 8, .inl v_p1_above)), (q_letters, .inl (cI, 200, .inl v_letters)), (q_p1, .inr (6, [.int v_p1_stands, .int v_p1_lent, .int v_p1_pipe, .int v_p1_houses, .ref q_p1_room, .ref q_p1_daily, .ref q_p1_drain, .ref q_p1_above])), (q_this, .inr (8, [.ref q_letters, .int v_length, .int y66.1, .int y66.2, .int y41.2.2.2]))] H := hP
      have hD : va_D A [(q_p1_room, .inl (cI, 8, .inl v_p1_room)), (q_p1_daily, .inl (cI, 8, .inl v_p1_daily)), (q_p1_drain, .inl (cI, 8, .inl v_p1_drain)), (q_p1_above, .inl (cI, 8, .inl v_p1_above)), (q_letters, .inl (cI, 200, .inl v_letters)), (q_p1, .inr (6, [.int v_p1_stands, .int v_p1_lent, .int v_p1_pipe, .int v_p1_houses, .ref q_p1_room, .ref q_p1_daily, .ref q_p1_drain, .ref q_p1_above])), (q_this, .inr (8, [.ref q_letters, .int v_length, .int y66.1, .int y66.2, .int y41.2.2.2]))] := hD
      refine lv_aload_n hx hb dX8_readHouse_69 rfl (lv_at hl 4 rfl) ?_
      obtain ⟨y70, hc70, hrun⟩ := oz_bind hrun
      have hPc := hP.sub (ws' := [(q_this, .inr (8, [.ref q_letters, .int v_length, .int y66.1, .int y66.2, .int y41.2.2.2])), (q_letters, .inl (cI, 200, .inl v_letters))]) [6, 4] rfl
      have hDc := hD.sub (ws' := [(q_this, .inr (8, [.ref q_letters, .int v_length, .int y66.1, .int y66.2, .int y41.2.2.2])), (q_letters, .inl (cI, 200, .inl v_letters))]) [6, 4] (by decide) rfl
      have hFc := va_free (wc := [(q_this, .inr (8, [.ref q_letters, .int v_length, .int y66.1, .int y66.2, .int y41.2.2.2])), (q_letters, .inl (cI, 200, .inl v_letters))]) hD hS hA [6, 4] rfl
      refine va_callv (va_runV (As := []) (rest := []) ⟨hx, hb, hml, hown, hts⟩ (tX8_readEnd l dC dI cI cZ q_letters q_this H.size v_length y66.1 y66.2 y41.2.2.2 v_letters y70 hc70) (cwV 0 hts gX8_readHouse_X8_readEnd rfl rfl rfl (by decide +kernel) ⟨Nat.le_of_ble_eq_true rfl, Nat.le_of_ble_eq_true rfl⟩) ⟨fun a U g mk q => by obtain ⟨q0, q1, qP, qK, qD⟩ := q; exact ⟨q0, q1, qP, va_K.moved (u := U) (U := U.calling g mk a) (Vm.Alike.refl U.vm) qK, qD⟩, va_recv hK hPc (ci := 8) (q0 := 0) rfl rfl, fun U hU hW => ⟨rfl, by rw [hU], by rw [hU]; exact hPc, va_K.moved hW.alike hK, hDc.weaken (fun _ _ _ _ => trivial)⟩⟩ rfl rfl hl.1 rfl (lv_room (Nat.le_of_ble_eq_true rfl)) dX8_readHouse_70 ⟨Nat.le_of_ble_eq_true rfl, Nat.le_of_ble_eq_true rfl⟩) hS (fun q _ h => hFc q h) hFc (fun u9 t9 H1 locs ht9 hvm9 hw9 hB9 hz9 hkk9 hS => ?_)
      obtain ⟨hP9, hK9, hD9⟩ := hB9
      rw [ht9] at hP9
      obtain ⟨hP, hD⟩ := va_join (wr := [(q_p1_room, .inl (cI, 8, .inl v_p1_room)), (q_p1_daily, .inl (cI, 8, .inl v_p1_daily)), (q_p1_drain, .inl (cI, 8, .inl v_p1_drain)), (q_p1_above, .inl (cI, 8, .inl v_p1_above)), (q_p1, .inr (6, [.int v_p1_stands, .int v_p1_lent, .int v_p1_pipe, .int v_p1_houses, .ref q_p1_room, .ref q_p1_daily, .ref q_p1_drain, .ref q_p1_above]))]) (w1 := [(q_this, .inr (8, [.ref q_letters, .int v_length, .int y70.1, .int y70.2.1, .int y70.2.2])), (q_letters, .inl (cI, 200, .inl v_letters))]) hP hD [6, 4] [0, 1, 2, 3, 5] rfl rfl (by decide) (by decide) hkk9 hFc hP9 hD9
      generalize H1 = H at hP hS ⊢
      have hP : va_P (dC, dI) vwCl [(q_p1_room, .inl (cI, 8, .inl v_p1_room)), (q_p1_daily, .inl (cI, 8, .inl v_p1_daily)), (q_p1_drain, .inl (cI, 8, .inl v_p1_drain)), (q_p1_above, .inl (cI, 8, .inl v_p1_above)), (q_p1, .inr (6, [.int v_p1_stands, .int v_p1_lent, .int v_p1_pipe, .int v_p1_houses, .ref q_p1_room, .ref q_p1_daily, .ref q_p1_drain, .ref q_p1_above])), (q_this, .inr (8, [.ref q_letters, .int v_length, .int y70.1, .int y70.2.1, .int y70.2.2])), (q_letters, .inl (cI, 200, .inl v_letters))] H := hP
      have hD : va_D A [(q_p1_room, .inl (cI, 8, .inl v_p1_room)), (q_p1_daily, .inl (cI, 8, .inl v_p1_daily)), (q_p1_drain, .inl (cI, 8, .inl v_p1_drain)), (q_p1_above, .inl (cI, 8, .inl v_p1_above)), (q_p1, .inr (6, [.int v_p1_stands, .int v_p1_lent, .int v_p1_pipe, .int v_p1_houses, .ref q_p1_room, .ref q_p1_daily, .ref q_p1_drain, .ref q_p1_above])), (q_this, .inr (8, [.ref q_letters, .int v_length, .int y70.1, .int y70.2.1, .int y70.2.2])), (q_letters, .inl (cI, 200, .inl v_letters))] := hD
      refine lv_aload_n hx hb dX8_readHouse_73 rfl (lv_at hl 4 rfl) ?_
      refine va_get (D := (dC, dI)) (ci := 8) (v := .int y70.1) (C := RX8) (T := TX8) (N := 5) hx hb hts hiX8 hown hK hP 5 rfl rfl 2 (by decide) hk19 (fun _ h9 => h9) rfl dX8_readHouse_74 ?_
      refine lv_if_ne (tgt := 88) hx hb dX8_readHouse_77 (by decide) (fun c5 => ?_) (fun c5 => ?_)
      · have hrun := oz_f hrun c5
        have ho9 := Option.some.inj hrun
        subst ho9
        have hP9 := hP.sub (ws' := [(q_this, .inr (8, [.ref q_letters, .int v_length, .int y70.1, .int y70.2.1, .int y70.2.2])), (q_letters, .inl (cI, 200, .inl v_letters)), (q_p1, .inr (6, [.int v_p1_stands, .int v_p1_lent, .int v_p1_pipe, .int v_p1_houses, .ref q_p1_room, .ref q_p1_daily, .ref q_p1_drain, .ref q_p1_above])), (q_p1_room, .inl (cI, 8, .inl v_p1_room)), (q_p1_daily, .inl (cI, 8, .inl v_p1_daily)), (q_p1_drain, .inl (cI, 8, .inl v_p1_drain)), (q_p1_above, .inl (cI, 8, .inl v_p1_above))]) [5, 6, 4, 0, 1, 2, 3] rfl
        have hD9 := hD.sub (ws' := [(q_this, .inr (8, [.ref q_letters, .int v_length, .int y70.1, .int y70.2.1, .int y70.2.2])), (q_letters, .inl (cI, 200, .inl v_letters)), (q_p1, .inr (6, [.int v_p1_stands, .int v_p1_lent, .int v_p1_pipe, .int v_p1_houses, .ref q_p1_room, .ref q_p1_daily, .ref q_p1_drain, .ref q_p1_above])), (q_p1_room, .inl (cI, 8, .inl v_p1_room)), (q_p1_daily, .inl (cI, 8, .inl v_p1_daily)), (q_p1_drain, .inl (cI, 8, .inl v_p1_drain)), (q_p1_above, .inl (cI, 8, .inl v_p1_above))]) [5, 6, 4, 0, 1, 2, 3] (by decide) rfl
        rw [hQ]
        exact W.vret hx hb hr (fun t ht hW => ⟨⟨(), rfl, trivial, by rw [ht]; exact hP9, va_K.moved hW.alike hK, hD9⟩, hS.F ht⟩) hS.2.2 dX8_readHouse_88
      · have hrun := oz_t hrun c5
        refine lv_aload_n hx hb dX8_readHouse_80 rfl (lv_at hl 5 rfl) ?_
        refine lv_iload_n hx hb dX8_readHouse_81 rfl (lv_at hl 3 rfl) ?_
        refine lv_iload_n hx hb dX8_readHouse_82 rfl (lv_at hl 2 rfl) ?_
        refine lv_iload hx hb dX8_readHouse_83 (lv_at hl 0 rfl) ?_
        obtain ⟨y85, hc85, hrun⟩ := oz_bind hrun
        have hPc := hP.sub (ws' := [(q_p1, .inr (6, [.int v_p1_stands, .int v_p1_lent, .int v_p1_pipe, .int v_p1_houses, .ref q_p1_room, .ref q_p1_daily, .ref q_p1_drain, .ref q_p1_above])), (q_p1_room, .inl (cI, 8, .inl v_p1_room)), (q_p1_daily, .inl (cI, 8, .inl v_p1_daily)), (q_p1_drain, .inl (cI, 8, .inl v_p1_drain)), (q_p1_above, .inl (cI, 8, .inl v_p1_above))]) [4, 0, 1, 2, 3] rfl
        have hDc := hD.sub (ws' := [(q_p1, .inr (6, [.int v_p1_stands, .int v_p1_lent, .int v_p1_pipe, .int v_p1_houses, .ref q_p1_room, .ref q_p1_daily, .ref q_p1_drain, .ref q_p1_above])), (q_p1_room, .inl (cI, 8, .inl v_p1_room)), (q_p1_daily, .inl (cI, 8, .inl v_p1_daily)), (q_p1_drain, .inl (cI, 8, .inl v_p1_drain)), (q_p1_above, .inl (cI, 8, .inl v_p1_above))]) [4, 0, 1, 2, 3] (by decide) rfl
        have hFc := va_free (wc := [(q_p1, .inr (6, [.int v_p1_stands, .int v_p1_lent, .int v_p1_pipe, .int v_p1_houses, .ref q_p1_room, .ref q_p1_daily, .ref q_p1_drain, .ref q_p1_above])), (q_p1_room, .inl (cI, 8, .inl v_p1_room)), (q_p1_daily, .inl (cI, 8, .inl v_p1_daily)), (q_p1_drain, .inl (cI, 8, .inl v_p1_drain)), (q_p1_above, .inl (cI, 8, .inl v_p1_above))]) hD hS hA [4, 0, 1, 2, 3] rfl
        refine va_callv (va_runV (As := [.int y15.1, .int y23.1, .int y41.1]) (rest := []) ⟨hx, hb, hml, hown, hts⟩ (tX6_addHouse l dC dI cI cZ q_p1_above q_p1_daily q_p1_drain q_p1_room q_p1 H.size v_p1_stands v_p1_lent v_p1_pipe v_p1_houses v_p1_room v_p1_daily v_p1_drain v_p1_above y15.1 y23.1 y41.1 y85 hc85) (cwV 3 hts gX8_readHouse_X6_addHouse rfl rfl rfl (by decide +kernel) ⟨Nat.le_of_ble_eq_true rfl, Nat.le_of_ble_eq_true rfl⟩) ⟨fun a U g mk q => by obtain ⟨q0, q1, qP, qK, qD⟩ := q; exact ⟨q0, q1, qP, va_K.moved (u := U) (U := U.calling g mk a) (Vm.Alike.refl U.vm) qK, qD⟩, va_recv hK hPc (ci := 6) (q0 := 0) rfl rfl, fun U hU hW => ⟨rfl, by rw [hU], by rw [hU]; exact hPc, va_K.moved hW.alike hK, hDc.weaken (fun _ _ _ _ => trivial)⟩⟩ rfl rfl hl.1 rfl (lv_room (Nat.le_of_ble_eq_true rfl)) dX8_readHouse_85 ⟨Nat.le_of_ble_eq_true rfl, Nat.le_of_ble_eq_true rfl⟩) hS (fun q _ h => hFc q h) hFc (fun u9 t9 H1 locs ht9 hvm9 hw9 hB9 hz9 hkk9 hS => ?_)
        obtain ⟨hP9, hK9, hD9⟩ := hB9
        rw [ht9] at hP9
        obtain ⟨hP, hD⟩ := va_join (wr := [(q_this, .inr (8, [.ref q_letters, .int v_length, .int y70.1, .int y70.2.1, .int y70.2.2])), (q_letters, .inl (cI, 200, .inl v_letters))]) (w1 := [(q_p1, .inr (6, [.int v_p1_stands, .int v_p1_lent, .int v_p1_pipe, .int y85.1, .ref q_p1_room, .ref q_p1_daily, .ref q_p1_drain, .ref q_p1_above])), (q_p1_room, .inl (cI, 8, .inl y85.2.1)), (q_p1_daily, .inl (cI, 8, .inl y85.2.2.1)), (q_p1_drain, .inl (cI, 8, .inl y85.2.2.2.1)), (q_p1_above, .inl (cI, 8, .inl y85.2.2.2.2))]) hP hD [4, 0, 1, 2, 3] [5, 6] rfl rfl (by decide) (by decide) hkk9 hFc hP9 hD9
        generalize H1 = H at hP hS ⊢
        have hP : va_P (dC, dI) vwCl [(q_this, .inr (8, [.ref q_letters, .int v_length, .int y70.1, .int y70.2.1, .int y70.2.2])), (q_letters, .inl (cI, 200, .inl v_letters)), (q_p1, .inr (6, [.int v_p1_stands, .int v_p1_lent, .int v_p1_pipe, .int y85.1, .ref q_p1_room, .ref q_p1_daily, .ref q_p1_drain, .ref q_p1_above])), (q_p1_room, .inl (cI, 8, .inl y85.2.1)), (q_p1_daily, .inl (cI, 8, .inl y85.2.2.1)), (q_p1_drain, .inl (cI, 8, .inl y85.2.2.2.1)), (q_p1_above, .inl (cI, 8, .inl y85.2.2.2.2))] H := hP
        have hD : va_D A [(q_this, .inr (8, [.ref q_letters, .int v_length, .int y70.1, .int y70.2.1, .int y70.2.2])), (q_letters, .inl (cI, 200, .inl v_letters)), (q_p1, .inr (6, [.int v_p1_stands, .int v_p1_lent, .int v_p1_pipe, .int y85.1, .ref q_p1_room, .ref q_p1_daily, .ref q_p1_drain, .ref q_p1_above])), (q_p1_room, .inl (cI, 8, .inl y85.2.1)), (q_p1_daily, .inl (cI, 8, .inl y85.2.2.1)), (q_p1_drain, .inl (cI, 8, .inl y85.2.2.2.1)), (q_p1_above, .inl (cI, 8, .inl y85.2.2.2.2))] := hD
        have ho9 := Option.some.inj hrun
        subst ho9
        have hP9 := hP.sub (ws' := [(q_this, .inr (8, [.ref q_letters, .int v_length, .int y70.1, .int y70.2.1, .int y70.2.2])), (q_letters, .inl (cI, 200, .inl v_letters)), (q_p1, .inr (6, [.int v_p1_stands, .int v_p1_lent, .int v_p1_pipe, .int y85.1, .ref q_p1_room, .ref q_p1_daily, .ref q_p1_drain, .ref q_p1_above])), (q_p1_room, .inl (cI, 8, .inl y85.2.1)), (q_p1_daily, .inl (cI, 8, .inl y85.2.2.1)), (q_p1_drain, .inl (cI, 8, .inl y85.2.2.2.1)), (q_p1_above, .inl (cI, 8, .inl y85.2.2.2.2))]) [0, 1, 2, 3, 4, 5, 6] rfl
        have hD9 := hD.sub (ws' := [(q_this, .inr (8, [.ref q_letters, .int v_length, .int y70.1, .int y70.2.1, .int y70.2.2])), (q_letters, .inl (cI, 200, .inl v_letters)), (q_p1, .inr (6, [.int v_p1_stands, .int v_p1_lent, .int v_p1_pipe, .int y85.1, .ref q_p1_room, .ref q_p1_daily, .ref q_p1_drain, .ref q_p1_above])), (q_p1_room, .inl (cI, 8, .inl y85.2.1)), (q_p1_daily, .inl (cI, 8, .inl y85.2.2.1)), (q_p1_drain, .inl (cI, 8, .inl y85.2.2.2.1)), (q_p1_above, .inl (cI, 8, .inl y85.2.2.2.2))]) [0, 1, 2, 3, 4, 5, 6] (by decide) rfl
        rw [hQ]
        exact W.vret hx hb hr (fun t ht hW => ⟨⟨(), rfl, trivial, by rw [ht]; exact hP9, va_K.moved hW.alike hK, hD9⟩, hS.F ht⟩) hS.2.2 dX8_readHouse_88
