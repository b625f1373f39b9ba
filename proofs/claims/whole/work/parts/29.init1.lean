theorem oz_cAI {D : va_G} {cl : List vw_C} {cI cZ cA : ClassId} {U : State} (h : va_K D cl ([(cI, .int), (cZ, .boolean)] ++ [(cA, .int)]) U) : cA = cI := by
  have h0 := (h.2 0 (cI, .int) rfl).2
  have h2 := (h.2 2 (cA, .int) rfl).2
  exact Option.some.inj (h2.symm.trans h0)
theorem oz_cAZ {D : va_G} {cl : List vw_C} {cI cZ cA : ClassId} {U : State} (h : va_K D cl ([(cI, .int), (cZ, .boolean)] ++ [(cA, .boolean)]) U) : cA = cZ := by
  have h0 := (h.2 1 (cZ, .boolean) rfl).2
  have h2 := (h.2 2 (cA, .boolean) rfl).2
  exact Option.some.inj (h2.symm.trans h0)

def rmX1_init : Room := { frames := 1, cells := 0, slots := 0, locals := 20 }
set_option maxHeartbeats 4000000 in
set_option maxRecDepth 100000 in
theorem tX1_init (l : Launch) (dC : Nat → ClassId) (dI : Nat → Nat → Nat) (cI cZ : ClassId) (q_this sz : Nat) : Met l yX1_init wsX1_init rmX1_init (va_Pc [.ref q_this] (fun U => U.heap.size = sz ∧ va_P (dC, dI) vwCl [(q_this, .inr (1, [.int 0]))] U.heap ∧ va_K (dC, dI) vwCl [(cI, .int), (cZ, .boolean)] U ∧ va_D (fun _ => True) [(q_this, .inr (1, [.int 0]))])) (va_Qv (fun _ : Unit => True) (fun u t => va_P (dC, dI) vwCl [(q_this, .inr (1, [.int 0]))] t.heap ∧ va_K (dC, dI) vwCl [(cI, .int), (cZ, .boolean)] t ∧ va_D (va_A [(q_this, .inr (1, [.int 0]))] sz) [(q_this, .inr (1, [.int 0]))]) (va_A [(q_this, .inr (1, [.int 0]))] sz)) 0 0 (va_A [(q_this, .inr (1, [.int 0]))] sz) := by
  refine Met.ofW (cc := cX1_init) (maxL := 1) (ret := none) (by decide) rfl ?_
  intro p e s m args below meth c s₁ B hml hv
  obtain ⟨rfl, hsz, hP, hK, hD0⟩ := hv
  have hx := B.exec
  have hb := B.bytes
  have hr := B.returns
  have hts := atoms_spec (ws := wsX1_init) B.pre
  have hown : s.vm.findClass RX1 = some m.cls := findClass_of_methodNamed B.named
  have hlocks := B.notSynchronized
  have hin9 : meth.name = "<init>" := (name_of_methodNamed B.named B.method).1
  subst hsz
  have hD := hD0.self (sz := s.heap.size)
  generalize hAe : va_A [(q_this, .inr (1, [.int 0]))] s.heap.size = A at hD ⊢
  have hA : ∀ q : Nat, s.heap.size ≤ q → A q := fun q h => by rw [← hAe]; exact Or.inr h
  have hS : va_S A s.heap s.heap [] := va_S.rf
  have hl := lv_entry ([.ref q_this]) (n := 1) (Nat.le_of_ble_eq_true rfl)
  rw [lg_entry_eq]
  generalize (lg_sl ([.ref q_this]) ++ List.replicate (1 - (lg_sl ([.ref q_this])).length) Slot.unset).toArray = ls at hl ⊢
  have hl : lv_has ls 1 [(0, .ref q_this)] := hl
  have hk1 := hts (.methodLink RX1 1 objectInit) (by decide +kernel)
  have hoi := hts (.instanceMethod objectInit) (by decide +kernel)
  have hoc := hts (.code objectInit ⟨#[0xb1]⟩ 1 none) (List.mem_of_getElem? (i := 3) rfl)
  have hk7 := hts (.fieldLink RX1 7 "LentDrains$Draws" "value" "I") (by decide +kernel)
  have hiX1 : ∀ w ∈ wsX10, w ∈ wsX1_init := by decide +kernel
  refine lv_aload_n hx hb dX1_init_0 rfl (lv_at hl 0 rfl) ?_
  refine W.objInit hx hb hown hk1 hoi hoc rfl (by rw [hml]; exact hl.1) rfl dX1_init_1 (Nat.le_of_ble_eq_true rfl) (Nat.le_of_ble_eq_true rfl) ?_
  refine W.eq (g2 := F0 m 4 ls []) rfl ?_
  refine lv_aload_n hx hb dX1_init_4 rfl (lv_at hl 0 rfl) ?_
  refine lv_iconst (v := 0) hx hb dX1_init_5 (by decide) ?_
  refine va_put (D := (dC, dI)) (ci := 1) (v := .int 0) (ty := .int) (C := RX1) (T := TX1) (N := 1) hx hb hts hiX1 tyX1 tyX1_ok nmX1 hown hK hP hD hS 0 rfl rfl 0 (by decide) hk7 (fun _ h9 => h9) rfl (by decide +kernel) rfl rfl (Nat.le_of_ble_eq_true rfl) dX1_init_6 (fun H locs hP hD hS => ?_)
  have hP : va_P (dC, dI) vwCl [(q_this, .inr (1, [.int 0]))] H := hP
  have hD : va_D A [(q_this, .inr (1, [.int 0]))] := hD
  have hP9 := hP.sub (ws' := [(q_this, .inr (1, [.int 0]))]) [0] rfl
  have hD9 := hD.sub (ws' := [(q_this, .inr (1, [.int 0]))]) [0] (by decide) rfl
  exact W.vret hx hb hr (fun t ht hW => ⟨⟨(), rfl, trivial, by rw [ht]; exact hP9, va_K.moved hW.alike hK, hD9⟩, hS.F ht⟩) hS.2.2 dX1_init_9
def rmX0_init : Room := { frames := 1, cells := 0, slots := 0, locals := 20 }
set_option maxHeartbeats 4000000 in
set_option maxRecDepth 100000 in
theorem tX0_init (l : Launch) (dC : Nat → ClassId) (dI : Nat → Nat → Nat) (cI cZ : ClassId) (q_this sz : Nat) : Met l yX0_init wsX0_init rmX0_init (va_Pc [.ref q_this] (fun U => U.heap.size = sz ∧ va_P (dC, dI) vwCl [(q_this, .inr (0, [.int 0, .int 0, .int 0]))] U.heap ∧ va_K (dC, dI) vwCl [(cI, .int), (cZ, .boolean)] U ∧ va_D (fun _ => True) [(q_this, .inr (0, [.int 0, .int 0, .int 0]))])) (va_Qv (fun _ : Unit => True) (fun u t => va_P (dC, dI) vwCl [(q_this, .inr (0, [.int 0, .int 0, .int (-1)]))] t.heap ∧ va_K (dC, dI) vwCl [(cI, .int), (cZ, .boolean)] t ∧ va_D (va_A [(q_this, .inr (0, [.int 0, .int 0, .int 0]))] sz) [(q_this, .inr (0, [.int 0, .int 0, .int (-1)]))]) (va_A [(q_this, .inr (0, [.int 0, .int 0, .int 0]))] sz)) 0 0 (va_A [(q_this, .inr (0, [.int 0, .int 0, .int 0]))] sz) := by
  refine Met.ofW (cc := cX0_init) (maxL := 1) (ret := none) (by decide) rfl ?_
  intro p e s m args below meth c s₁ B hml hv
  obtain ⟨rfl, hsz, hP, hK, hD0⟩ := hv
  have hx := B.exec
  have hb := B.bytes
  have hr := B.returns
  have hts := atoms_spec (ws := wsX0_init) B.pre
  have hown : s.vm.findClass RX0 = some m.cls := findClass_of_methodNamed B.named
  have hlocks := B.notSynchronized
  have hin9 : meth.name = "<init>" := (name_of_methodNamed B.named B.method).1
  subst hsz
  have hD := hD0.self (sz := s.heap.size)
  generalize hAe : va_A [(q_this, .inr (0, [.int 0, .int 0, .int 0]))] s.heap.size = A at hD ⊢
  have hA : ∀ q : Nat, s.heap.size ≤ q → A q := fun q h => by rw [← hAe]; exact Or.inr h
  have hS : va_S A s.heap s.heap [] := va_S.rf
  have hl := lv_entry ([.ref q_this]) (n := 1) (Nat.le_of_ble_eq_true rfl)
  rw [lg_entry_eq]
  generalize (lg_sl ([.ref q_this]) ++ List.replicate (1 - (lg_sl ([.ref q_this])).length) Slot.unset).toArray = ls at hl ⊢
  have hl : lv_has ls 1 [(0, .ref q_this)] := hl
  have hk3 := hts (.methodLink RX0 3 objectInit) (by decide +kernel)
  have hoi := hts (.instanceMethod objectInit) (by decide +kernel)
  have hoc := hts (.code objectInit ⟨#[0xb1]⟩ 1 none) (List.mem_of_getElem? (i := 3) rfl)
  have hk9 := hts (.fieldLink RX0 9 "LentDrains$Breath" "hours" "I") (by decide +kernel)
  have hiX0 : ∀ w ∈ wsX00, w ∈ wsX0_init := by decide +kernel
  have hk15 := hts (.fieldLink RX0 15 "LentDrains$Breath" "greatest" "I") (by decide +kernel)
  have hk18 := hts (.fieldLink RX0 18 "LentDrains$Breath" "whose" "I") (by decide +kernel)
  refine lv_aload_n hx hb dX0_init_0 rfl (lv_at hl 0 rfl) ?_
  refine W.objInit hx hb hown hk3 hoi hoc rfl (by rw [hml]; exact hl.1) rfl dX0_init_1 (Nat.le_of_ble_eq_true rfl) (Nat.le_of_ble_eq_true rfl) ?_
  refine W.eq (g2 := F0 m 4 ls []) rfl ?_
  refine lv_aload_n hx hb dX0_init_4 rfl (lv_at hl 0 rfl) ?_
  refine lv_iconst (v := 0) hx hb dX0_init_5 (by decide) ?_
  refine va_put (D := (dC, dI)) (ci := 0) (v := .int 0) (ty := .int) (C := RX0) (T := TX0) (N := 3) hx hb hts hiX0 tyX0 tyX0_ok nmX0 hown hK hP hD hS 0 rfl rfl 0 (by decide) hk9 (fun _ h9 => h9) rfl (by decide +kernel) rfl rfl (Nat.le_of_ble_eq_true rfl) dX0_init_6 (fun H locs hP hD hS => ?_)
  have hP : va_P (dC, dI) vwCl [(q_this, .inr (0, [.int 0, .int 0, .int 0]))] H := hP
  have hD : va_D A [(q_this, .inr (0, [.int 0, .int 0, .int 0]))] := hD
  refine lv_aload_n hx hb dX0_init_9 rfl (lv_at hl 0 rfl) ?_
  refine lv_iconst (v := 0) hx hb dX0_init_10 (by decide) ?_
  refine va_put (D := (dC, dI)) (ci := 0) (v := .int 0) (ty := .int) (C := RX0) (T := TX0) (N := 3) hx hb hts hiX0 tyX0 tyX0_ok nmX0 hown hK hP hD hS 0 rfl rfl 1 (by decide) hk15 (fun _ h9 => h9) rfl (by decide +kernel) rfl rfl (Nat.le_of_ble_eq_true rfl) dX0_init_11 (fun H locs hP hD hS => ?_)
  have hP : va_P (dC, dI) vwCl [(q_this, .inr (0, [.int 0, .int 0, .int 0]))] H := hP
  have hD : va_D A [(q_this, .inr (0, [.int 0, .int 0, .int 0]))] := hD
  refine lv_aload_n hx hb dX0_init_14 rfl (lv_at hl 0 rfl) ?_
  refine lv_iconst (v := (-1)) hx hb dX0_init_15 (by decide) ?_
  refine va_put (D := (dC, dI)) (ci := 0) (v := .int (-1)) (ty := .int) (C := RX0) (T := TX0) (N := 3) hx hb hts hiX0 tyX0 tyX0_ok nmX0 hown hK hP hD hS 0 rfl rfl 2 (by decide) hk18 (fun _ h9 => h9) rfl (by decide +kernel) rfl rfl (Nat.le_of_ble_eq_true rfl) dX0_init_16 (fun H locs hP hD hS => ?_)
  have hP : va_P (dC, dI) vwCl [(q_this, .inr (0, [.int 0, .int 0, .int (-1)]))] H := hP
  have hD : va_D A [(q_this, .inr (0, [.int 0, .int 0, .int (-1)]))] := hD
  have hP9 := hP.sub (ws' := [(q_this, .inr (0, [.int 0, .int 0, .int (-1)]))]) [0] rfl
  have hD9 := hD.sub (ws' := [(q_this, .inr (0, [.int 0, .int 0, .int (-1)]))]) [0] (by decide) rfl
  exact W.vret hx hb hr (fun t ht hW => ⟨⟨(), rfl, trivial, by rw [ht]; exact hP9, va_K.moved hW.alike hK, hD9⟩, hS.F ht⟩) hS.2.2 dX0_init_19
def rmX6_init : Room := { frames := 1, cells := 4, slots := 32, locals := 20 }
set_option maxHeartbeats 4000000 in
set_option maxRecDepth 100000 in
theorem tX6_init (l : Launch) (dC : Nat → ClassId) (dI : Nat → Nat → Nat) (cI cZ : ClassId) (q_this sz : Nat) : Met l yX6_init wsX6_init rmX6_init (va_Pc [.ref q_this] (fun U => U.heap.size = sz ∧ va_P (dC, dI) vwCl [(q_this, .inr (6, [.int 0, .int 0, .int 0, .int 0, .null, .null, .null, .null]))] U.heap ∧ va_K (dC, dI) vwCl [(cI, .int), (cZ, .boolean)] U ∧ va_D (fun _ => True) [(q_this, .inr (6, [.int 0, .int 0, .int 0, .int 0, .null, .null, .null, .null]))])) (va_Qv (fun _ : Nat × Nat × Nat × Nat => True) (fun u t => va_P (dC, dI) vwCl [(q_this, .inr (6, [.int 0, .int 0, .int 0, .int 0, .ref u.1, .ref u.2.1, .ref u.2.2.1, .ref u.2.2.2])), (u.1, .inl (cI, 8, .inl (fun _ => 0))), (u.2.1, .inl (cI, 8, .inl (fun _ => 0))), (u.2.2.1, .inl (cI, 8, .inl (fun _ => 0))), (u.2.2.2, .inl (cI, 8, .inl (fun _ => 0)))] t.heap ∧ va_K (dC, dI) vwCl [(cI, .int), (cZ, .boolean)] t ∧ va_D (va_A [(q_this, .inr (6, [.int 0, .int 0, .int 0, .int 0, .null, .null, .null, .null]))] sz) [(q_this, .inr (6, [.int 0, .int 0, .int 0, .int 0, .ref u.1, .ref u.2.1, .ref u.2.2.1, .ref u.2.2.2])), (u.1, .inl (cI, 8, .inl (fun _ => 0))), (u.2.1, .inl (cI, 8, .inl (fun _ => 0))), (u.2.2.1, .inl (cI, 8, .inl (fun _ => 0))), (u.2.2.2, .inl (cI, 8, .inl (fun _ => 0)))]) (va_A [(q_this, .inr (6, [.int 0, .int 0, .int 0, .int 0, .null, .null, .null, .null]))] sz)) 4 32 (va_A [(q_this, .inr (6, [.int 0, .int 0, .int 0, .int 0, .null, .null, .null, .null]))] sz) := by
  refine Met.ofW (cc := cX6_init) (maxL := 1) (ret := none) (by decide) rfl ?_
  intro p e s m args below meth c s₁ B hml hv
  obtain ⟨rfl, hsz, hP, hK, hD0⟩ := hv
  have hx := B.exec
  have hb := B.bytes
  have hr := B.returns
  have hts := atoms_spec (ws := wsX6_init) B.pre
  have hown : s.vm.findClass RX6 = some m.cls := findClass_of_methodNamed B.named
  have hlocks := B.notSynchronized
  have hin9 : meth.name = "<init>" := (name_of_methodNamed B.named B.method).1
  subst hsz
  have hD := hD0.self (sz := s.heap.size)
  generalize hAe : va_A [(q_this, .inr (6, [.int 0, .int 0, .int 0, .int 0, .null, .null, .null, .null]))] s.heap.size = A at hD ⊢
  have hA : ∀ q : Nat, s.heap.size ≤ q → A q := fun q h => by rw [← hAe]; exact Or.inr h
  have hS : va_S A s.heap s.heap [] := va_S.rf
  have hl := lv_entry ([.ref q_this]) (n := 1) (Nat.le_of_ble_eq_true rfl)
  rw [lg_entry_eq]
  generalize (lg_sl ([.ref q_this]) ++ List.replicate (1 - (lg_sl ([.ref q_this])).length) Slot.unset).toArray = ls at hl ⊢
  have hl : lv_has ls 1 [(0, .ref q_this)] := hl
  have hk3 := hts (.methodLink RX6 3 objectInit) (by decide +kernel)
  have hoi := hts (.instanceMethod objectInit) (by decide +kernel)
  have hoc := hts (.code objectInit ⟨#[0xb1]⟩ 1 none) (List.mem_of_getElem? (i := 3) rfl)
  have har_int := hts (.arrayClass .int) (by decide +kernel)
  have hk9 := hts (.fieldLink RX6 9 "LentDrains$Plan" "room" "[I") (by decide +kernel)
  have hiX6 : ∀ w ∈ wsX60, w ∈ wsX6_init := by decide +kernel
  have hk15 := hts (.fieldLink RX6 15 "LentDrains$Plan" "daily" "[I") (by decide +kernel)
  have hk18 := hts (.fieldLink RX6 18 "LentDrains$Plan" "drain" "[I") (by decide +kernel)
  have hk21 := hts (.fieldLink RX6 21 "LentDrains$Plan" "above" "[I") (by decide +kernel)
  refine lv_aload_n hx hb dX6_init_0 rfl (lv_at hl 0 rfl) ?_
  refine W.objInit hx hb hown hk3 hoi hoc rfl (by rw [hml]; exact hl.1) rfl dX6_init_1 (Nat.le_of_ble_eq_true rfl) (Nat.le_of_ble_eq_true rfl) ?_
  refine W.eq (g2 := F0 m 4 ls []) rfl ?_
  refine lv_aload_n hx hb dX6_init_4 rfl (lv_at hl 0 rfl) ?_
  refine lv_bipush (v := 8) hx hb dX6_init_5 (by decide) ?_
  refine va_newa (atype := .int) (a0 := (8, .inl (fun _ => 0))) (N' := 8) (ty := .int) hx hb har_int rfl hK hP hD hS hA (fun cA9 => vp_cell_i cA9 _ _) (by decide) (by decide) (by decide) (Nat.le_of_ble_eq_true rfl) (Nat.le_of_ble_eq_true rfl) dX6_init_7 (fun q7 cA H hK hP hD hS => ?_)
  have hcA9 := (oz_cAI hK).symm
  subst hcA9
  have hK := hK.sub (tys' := [(cI, .int), (cZ, .boolean)]) [0, 1] rfl
  have hP : va_P (dC, dI) vwCl [(q_this, .inr (6, [.int 0, .int 0, .int 0, .int 0, .null, .null, .null, .null])), (q7, .inl (cI, 8, .inl (fun _ => 0)))] H := hP
  have hD : va_D A [(q_this, .inr (6, [.int 0, .int 0, .int 0, .int 0, .null, .null, .null, .null])), (q7, .inl (cI, 8, .inl (fun _ => 0)))] := hD
  refine W.widen (k := 1) (n := 8) (by omega) (by omega) ?_
  refine va_putF (D := (dC, dI)) (ci := 6) (v := .ref q7) (ty := .array .int) (C := RX6) (T := TX6) (N := 8) hx hb hts hiX6 tyX6 tyX6_ok nmX6 hown hK hP hD hS 0 rfl rfl 4 (by decide) hk9 (fun _ h9 => h9) rfl hin9 rfl (by decide +kernel) rfl rfl (Nat.le_of_ble_eq_true rfl) dX6_init_9 (fun H locs hP hD hS => ?_)
  have hP : va_P (dC, dI) vwCl [(q_this, .inr (6, [.int 0, .int 0, .int 0, .int 0, .ref q7, .null, .null, .null])), (q7, .inl (cI, 8, .inl (fun _ => 0)))] H := hP
  have hD : va_D A [(q_this, .inr (6, [.int 0, .int 0, .int 0, .int 0, .ref q7, .null, .null, .null])), (q7, .inl (cI, 8, .inl (fun _ => 0)))] := hD
  refine lv_aload_n hx hb dX6_init_12 rfl (lv_at hl 0 rfl) ?_
  refine lv_bipush (v := 8) hx hb dX6_init_13 (by decide) ?_
  refine va_newa (atype := .int) (a0 := (8, .inl (fun _ => 0))) (N' := 8) (ty := .int) hx hb har_int rfl hK hP hD hS hA (fun cA9 => vp_cell_i cA9 _ _) (by decide) (by decide) (by decide) (Nat.le_of_ble_eq_true rfl) (Nat.le_of_ble_eq_true rfl) dX6_init_15 (fun q15 cA H hK hP hD hS => ?_)
  have hcA9 := (oz_cAI hK).symm
  subst hcA9
  have hK := hK.sub (tys' := [(cI, .int), (cZ, .boolean)]) [0, 1] rfl
  have hP : va_P (dC, dI) vwCl [(q_this, .inr (6, [.int 0, .int 0, .int 0, .int 0, .ref q7, .null, .null, .null])), (q7, .inl (cI, 8, .inl (fun _ => 0))), (q15, .inl (cI, 8, .inl (fun _ => 0)))] H := hP
  have hD : va_D A [(q_this, .inr (6, [.int 0, .int 0, .int 0, .int 0, .ref q7, .null, .null, .null])), (q7, .inl (cI, 8, .inl (fun _ => 0))), (q15, .inl (cI, 8, .inl (fun _ => 0)))] := hD
  refine W.widen (k := 2) (n := 16) (by omega) (by omega) ?_
  refine va_putF (D := (dC, dI)) (ci := 6) (v := .ref q15) (ty := .array .int) (C := RX6) (T := TX6) (N := 8) hx hb hts hiX6 tyX6 tyX6_ok nmX6 hown hK hP hD hS 0 rfl rfl 5 (by decide) hk15 (fun _ h9 => h9) rfl hin9 rfl (by decide +kernel) rfl rfl (Nat.le_of_ble_eq_true rfl) dX6_init_17 (fun H locs hP hD hS => ?_)
  have hP : va_P (dC, dI) vwCl [(q_this, .inr (6, [.int 0, .int 0, .int 0, .int 0, .ref q7, .ref q15, .null, .null])), (q7, .inl (cI, 8, .inl (fun _ => 0))), (q15, .inl (cI, 8, .inl (fun _ => 0)))] H := hP
  have hD : va_D A [(q_this, .inr (6, [.int 0, .int 0, .int 0, .int 0, .ref q7, .ref q15, .null, .null])), (q7, .inl (cI, 8, .inl (fun _ => 0))), (q15, .inl (cI, 8, .inl (fun _ => 0)))] := hD
  refine lv_aload_n hx hb dX6_init_20 rfl (lv_at hl 0 rfl) ?_
  refine lv_bipush (v := 8) hx hb dX6_init_21 (by decide) ?_
  refine va_newa (atype := .int) (a0 := (8, .inl (fun _ => 0))) (N' := 8) (ty := .int) hx hb har_int rfl hK hP hD hS hA (fun cA9 => vp_cell_i cA9 _ _) (by decide) (by decide) (by decide) (Nat.le_of_ble_eq_true rfl) (Nat.le_of_ble_eq_true rfl) dX6_init_23 (fun q23 cA H hK hP hD hS => ?_)
  have hcA9 := (oz_cAI hK).symm
  subst hcA9
  have hK := hK.sub (tys' := [(cI, .int), (cZ, .boolean)]) [0, 1] rfl
  have hP : va_P (dC, dI) vwCl [(q_this, .inr (6, [.int 0, .int 0, .int 0, .int 0, .ref q7, .ref q15, .null, .null])), (q7, .inl (cI, 8, .inl (fun _ => 0))), (q15, .inl (cI, 8, .inl (fun _ => 0))), (q23, .inl (cI, 8, .inl (fun _ => 0)))] H := hP
  have hD : va_D A [(q_this, .inr (6, [.int 0, .int 0, .int 0, .int 0, .ref q7, .ref q15, .null, .null])), (q7, .inl (cI, 8, .inl (fun _ => 0))), (q15, .inl (cI, 8, .inl (fun _ => 0))), (q23, .inl (cI, 8, .inl (fun _ => 0)))] := hD
  refine W.widen (k := 3) (n := 24) (by omega) (by omega) ?_
  refine va_putF (D := (dC, dI)) (ci := 6) (v := .ref q23) (ty := .array .int) (C := RX6) (T := TX6) (N := 8) hx hb hts hiX6 tyX6 tyX6_ok nmX6 hown hK hP hD hS 0 rfl rfl 6 (by decide) hk18 (fun _ h9 => h9) rfl hin9 rfl (by decide +kernel) rfl rfl (Nat.le_of_ble_eq_true rfl) dX6_init_25 (fun H locs hP hD hS => ?_)
  have hP : va_P (dC, dI) vwCl [(q_this, .inr (6, [.int 0, .int 0, .int 0, .int 0, .ref q7, .ref q15, .ref q23, .null])), (q7, .inl (cI, 8, .inl (fun _ => 0))), (q15, .inl (cI, 8, .inl (fun _ => 0))), (q23, .inl (cI, 8, .inl (fun _ => 0)))] H := hP
  have hD : va_D A [(q_this, .inr (6, [.int 0, .int 0, .int 0, .int 0, .ref q7, .ref q15, .ref q23, .null])), (q7, .inl (cI, 8, .inl (fun _ => 0))), (q15, .inl (cI, 8, .inl (fun _ => 0))), (q23, .inl (cI, 8, .inl (fun _ => 0)))] := hD
  refine lv_aload_n hx hb dX6_init_28 rfl (lv_at hl 0 rfl) ?_
  refine lv_bipush (v := 8) hx hb dX6_init_29 (by decide) ?_
  refine va_newa (atype := .int) (a0 := (8, .inl (fun _ => 0))) (N' := 8) (ty := .int) hx hb har_int rfl hK hP hD hS hA (fun cA9 => vp_cell_i cA9 _ _) (by decide) (by decide) (by decide) (Nat.le_of_ble_eq_true rfl) (Nat.le_of_ble_eq_true rfl) dX6_init_31 (fun q31 cA H hK hP hD hS => ?_)
  have hcA9 := (oz_cAI hK).symm
  subst hcA9
  have hK := hK.sub (tys' := [(cI, .int), (cZ, .boolean)]) [0, 1] rfl
  have hP : va_P (dC, dI) vwCl [(q_this, .inr (6, [.int 0, .int 0, .int 0, .int 0, .ref q7, .ref q15, .ref q23, .null])), (q7, .inl (cI, 8, .inl (fun _ => 0))), (q15, .inl (cI, 8, .inl (fun _ => 0))), (q23, .inl (cI, 8, .inl (fun _ => 0))), (q31, .inl (cI, 8, .inl (fun _ => 0)))] H := hP
  have hD : va_D A [(q_this, .inr (6, [.int 0, .int 0, .int 0, .int 0, .ref q7, .ref q15, .ref q23, .null])), (q7, .inl (cI, 8, .inl (fun _ => 0))), (q15, .inl (cI, 8, .inl (fun _ => 0))), (q23, .inl (cI, 8, .inl (fun _ => 0))), (q31, .inl (cI, 8, .inl (fun _ => 0)))] := hD
  refine W.widen (k := 4) (n := 32) (by omega) (by omega) ?_
  refine va_putF (D := (dC, dI)) (ci := 6) (v := .ref q31) (ty := .array .int) (C := RX6) (T := TX6) (N := 8) hx hb hts hiX6 tyX6 tyX6_ok nmX6 hown hK hP hD hS 0 rfl rfl 7 (by decide) hk21 (fun _ h9 => h9) rfl hin9 rfl (by decide +kernel) rfl rfl (Nat.le_of_ble_eq_true rfl) dX6_init_33 (fun H locs hP hD hS => ?_)
  have hP : va_P (dC, dI) vwCl [(q_this, .inr (6, [.int 0, .int 0, .int 0, .int 0, .ref q7, .ref q15, .ref q23, .ref q31])), (q7, .inl (cI, 8, .inl (fun _ => 0))), (q15, .inl (cI, 8, .inl (fun _ => 0))), (q23, .inl (cI, 8, .inl (fun _ => 0))), (q31, .inl (cI, 8, .inl (fun _ => 0)))] H := hP
  have hD : va_D A [(q_this, .inr (6, [.int 0, .int 0, .int 0, .int 0, .ref q7, .ref q15, .ref q23, .ref q31])), (q7, .inl (cI, 8, .inl (fun _ => 0))), (q15, .inl (cI, 8, .inl (fun _ => 0))), (q23, .inl (cI, 8, .inl (fun _ => 0))), (q31, .inl (cI, 8, .inl (fun _ => 0)))] := hD
  have hP9 := hP.sub (ws' := [(q_this, .inr (6, [.int 0, .int 0, .int 0, .int 0, .ref q7, .ref q15, .ref q23, .ref q31])), (q7, .inl (cI, 8, .inl (fun _ => 0))), (q15, .inl (cI, 8, .inl (fun _ => 0))), (q23, .inl (cI, 8, .inl (fun _ => 0))), (q31, .inl (cI, 8, .inl (fun _ => 0)))]) [0, 1, 2, 3, 4] rfl
  have hD9 := hD.sub (ws' := [(q_this, .inr (6, [.int 0, .int 0, .int 0, .int 0, .ref q7, .ref q15, .ref q23, .ref q31])), (q7, .inl (cI, 8, .inl (fun _ => 0))), (q15, .inl (cI, 8, .inl (fun _ => 0))), (q23, .inl (cI, 8, .inl (fun _ => 0))), (q31, .inl (cI, 8, .inl (fun _ => 0)))]) [0, 1, 2, 3, 4] (by decide) rfl
  exact W.vret hx hb hr (fun t ht hW => ⟨⟨(q7, q15, q23, q31), rfl, trivial, by rw [ht]; exact hP9, va_K.moved hW.alike hK, hD9⟩, hS.F ht⟩) hS.2.2 dX6_init_36
def rmX4_init : Room := { frames := 1, cells := 1, slots := 8, locals := 20 }
set_option maxHeartbeats 4000000 in
set_option maxRecDepth 100000 in
theorem tX4_init (l : Launch) (dC : Nat → ClassId) (dI : Nat → Nat → Nat) (cI cZ : ClassId) (q_this sz : Nat) : Met l yX4_init wsX4_init rmX4_init (va_Pc [.ref q_this] (fun U => U.heap.size = sz ∧ va_P (dC, dI) vwCl [(q_this, .inr (4, [.null]))] U.heap ∧ va_K (dC, dI) vwCl [(cI, .int), (cZ, .boolean)] U ∧ va_D (fun _ => True) [(q_this, .inr (4, [.null]))])) (va_Qv (fun _ : Nat => True) (fun u t => va_P (dC, dI) vwCl [(q_this, .inr (4, [.ref u])), (u, .inl (cI, 8, .inl (fun _ => 0)))] t.heap ∧ va_K (dC, dI) vwCl [(cI, .int), (cZ, .boolean)] t ∧ va_D (va_A [(q_this, .inr (4, [.null]))] sz) [(q_this, .inr (4, [.ref u])), (u, .inl (cI, 8, .inl (fun _ => 0)))]) (va_A [(q_this, .inr (4, [.null]))] sz)) 1 8 (va_A [(q_this, .inr (4, [.null]))] sz) := by
  refine Met.ofW (cc := cX4_init) (maxL := 1) (ret := none) (by decide) rfl ?_
  intro p e s m args below meth c s₁ B hml hv
  obtain ⟨rfl, hsz, hP, hK, hD0⟩ := hv
  have hx := B.exec
  have hb := B.bytes
  have hr := B.returns
  have hts := atoms_spec (ws := wsX4_init) B.pre
  have hown : s.vm.findClass RX4 = some m.cls := findClass_of_methodNamed B.named
  have hlocks := B.notSynchronized
  have hin9 : meth.name = "<init>" := (name_of_methodNamed B.named B.method).1
  subst hsz
  have hD := hD0.self (sz := s.heap.size)
  generalize hAe : va_A [(q_this, .inr (4, [.null]))] s.heap.size = A at hD ⊢
  have hA : ∀ q : Nat, s.heap.size ≤ q → A q := fun q h => by rw [← hAe]; exact Or.inr h
  have hS : va_S A s.heap s.heap [] := va_S.rf
  have hl := lv_entry ([.ref q_this]) (n := 1) (Nat.le_of_ble_eq_true rfl)
  rw [lg_entry_eq]
  generalize (lg_sl ([.ref q_this]) ++ List.replicate (1 - (lg_sl ([.ref q_this])).length) Slot.unset).toArray = ls at hl ⊢
  have hl : lv_has ls 1 [(0, .ref q_this)] := hl
  have hk3 := hts (.methodLink RX4 3 objectInit) (by decide +kernel)
  have hoi := hts (.instanceMethod objectInit) (by decide +kernel)
  have hoc := hts (.code objectInit ⟨#[0xb1]⟩ 1 none) (List.mem_of_getElem? (i := 3) rfl)
  have har_int := hts (.arrayClass .int) (by decide +kernel)
  have hk9 := hts (.fieldLink RX4 9 "LentDrains$Neighbours" "over" "[I") (by decide +kernel)
  have hiX4 : ∀ w ∈ wsX40, w ∈ wsX4_init := by decide +kernel
  refine lv_aload_n hx hb dX4_init_0 rfl (lv_at hl 0 rfl) ?_
  refine W.objInit hx hb hown hk3 hoi hoc rfl (by rw [hml]; exact hl.1) rfl dX4_init_1 (Nat.le_of_ble_eq_true rfl) (Nat.le_of_ble_eq_true rfl) ?_
  refine W.eq (g2 := F0 m 4 ls []) rfl ?_
  refine lv_aload_n hx hb dX4_init_4 rfl (lv_at hl 0 rfl) ?_
  refine lv_bipush (v := 8) hx hb dX4_init_5 (by decide) ?_
  refine va_newa (atype := .int) (a0 := (8, .inl (fun _ => 0))) (N' := 8) (ty := .int) hx hb har_int rfl hK hP hD hS hA (fun cA9 => vp_cell_i cA9 _ _) (by decide) (by decide) (by decide) (Nat.le_of_ble_eq_true rfl) (Nat.le_of_ble_eq_true rfl) dX4_init_7 (fun q7 cA H hK hP hD hS => ?_)
  have hcA9 := (oz_cAI hK).symm
  subst hcA9
  have hK := hK.sub (tys' := [(cI, .int), (cZ, .boolean)]) [0, 1] rfl
  have hP : va_P (dC, dI) vwCl [(q_this, .inr (4, [.null])), (q7, .inl (cI, 8, .inl (fun _ => 0)))] H := hP
  have hD : va_D A [(q_this, .inr (4, [.null])), (q7, .inl (cI, 8, .inl (fun _ => 0)))] := hD
  refine W.widen (k := 1) (n := 8) (by omega) (by omega) ?_
  refine va_putF (D := (dC, dI)) (ci := 4) (v := .ref q7) (ty := .array .int) (C := RX4) (T := TX4) (N := 1) hx hb hts hiX4 tyX4 tyX4_ok nmX4 hown hK hP hD hS 0 rfl rfl 0 (by decide) hk9 (fun _ h9 => h9) rfl hin9 rfl (by decide +kernel) rfl rfl (Nat.le_of_ble_eq_true rfl) dX4_init_9 (fun H locs hP hD hS => ?_)
  have hP : va_P (dC, dI) vwCl [(q_this, .inr (4, [.ref q7])), (q7, .inl (cI, 8, .inl (fun _ => 0)))] H := hP
  have hD : va_D A [(q_this, .inr (4, [.ref q7])), (q7, .inl (cI, 8, .inl (fun _ => 0)))] := hD
  have hP9 := hP.sub (ws' := [(q_this, .inr (4, [.ref q7])), (q7, .inl (cI, 8, .inl (fun _ => 0)))]) [0, 1] rfl
  have hD9 := hD.sub (ws' := [(q_this, .inr (4, [.ref q7])), (q7, .inl (cI, 8, .inl (fun _ => 0)))]) [0, 1] (by decide) rfl
  exact W.vret hx hb hr (fun t ht hW => ⟨⟨q7, rfl, trivial, by rw [ht]; exact hP9, va_K.moved hW.alike hK, hD9⟩, hS.F ht⟩) hS.2.2 dX4_init_12
def rmX10_init : Room := { frames := 1, cells := 2, slots := 16, locals := 20 }
set_option maxHeartbeats 4000000 in
set_option maxRecDepth 100000 in
theorem tX10_init (l : Launch) (dC : Nat → ClassId) (dI : Nat → Nat → Nat) (cI cZ : ClassId) (q_this sz : Nat) : Met l yX10_init wsX10_init rmX10_init (va_Pc [.ref q_this] (fun U => U.heap.size = sz ∧ va_P (dC, dI) vwCl [(q_this, .inr (10, [.null, .null, .int 0, .int 0, .int 0]))] U.heap ∧ va_K (dC, dI) vwCl [(cI, .int), (cZ, .boolean)] U ∧ va_D (fun _ => True) [(q_this, .inr (10, [.null, .null, .int 0, .int 0, .int 0]))])) (va_Qv (fun _ : Nat × Nat => True) (fun u t => va_P (dC, dI) vwCl [(q_this, .inr (10, [.ref u.1, .ref u.2, .int 0, .int 0, .int 0])), (u.1, .inl (cI, 8, .inl (fun _ => 0))), (u.2, .inl (cI, 8, .inl (fun _ => 0)))] t.heap ∧ va_K (dC, dI) vwCl [(cI, .int), (cZ, .boolean)] t ∧ va_D (va_A [(q_this, .inr (10, [.null, .null, .int 0, .int 0, .int 0]))] sz) [(q_this, .inr (10, [.ref u.1, .ref u.2, .int 0, .int 0, .int 0])), (u.1, .inl (cI, 8, .inl (fun _ => 0))), (u.2, .inl (cI, 8, .inl (fun _ => 0)))]) (va_A [(q_this, .inr (10, [.null, .null, .int 0, .int 0, .int 0]))] sz)) 2 16 (va_A [(q_this, .inr (10, [.null, .null, .int 0, .int 0, .int 0]))] sz) := by
  refine Met.ofW (cc := cX10_init) (maxL := 1) (ret := none) (by decide) rfl ?_
  intro p e s m args below meth c s₁ B hml hv
  obtain ⟨rfl, hsz, hP, hK, hD0⟩ := hv
  have hx := B.exec
  have hb := B.bytes
  have hr := B.returns
  have hts := atoms_spec (ws := wsX10_init) B.pre
  have hown : s.vm.findClass RX10 = some m.cls := findClass_of_methodNamed B.named
  have hlocks := B.notSynchronized
  have hin9 : meth.name = "<init>" := (name_of_methodNamed B.named B.method).1
  subst hsz
  have hD := hD0.self (sz := s.heap.size)
  generalize hAe : va_A [(q_this, .inr (10, [.null, .null, .int 0, .int 0, .int 0]))] s.heap.size = A at hD ⊢
  have hA : ∀ q : Nat, s.heap.size ≤ q → A q := fun q h => by rw [← hAe]; exact Or.inr h
  have hS : va_S A s.heap s.heap [] := va_S.rf
  have hl := lv_entry ([.ref q_this]) (n := 1) (Nat.le_of_ble_eq_true rfl)
  rw [lg_entry_eq]
  generalize (lg_sl ([.ref q_this]) ++ List.replicate (1 - (lg_sl ([.ref q_this])).length) Slot.unset).toArray = ls at hl ⊢
  have hl : lv_has ls 1 [(0, .ref q_this)] := hl
  have hk3 := hts (.methodLink RX10 3 objectInit) (by decide +kernel)
  have hoi := hts (.instanceMethod objectInit) (by decide +kernel)
  have hoc := hts (.code objectInit ⟨#[0xb1]⟩ 1 none) (List.mem_of_getElem? (i := 3) rfl)
  have har_int := hts (.arrayClass .int) (by decide +kernel)
  have hk9 := hts (.fieldLink RX10 9 "LentDrains$State" "kept" "[I") (by decide +kernel)
  have hiX10 : ∀ w ∈ wsX100, w ∈ wsX10_init := by decide +kernel
  have hk15 := hts (.fieldLink RX10 15 "LentDrains$State" "away" "[I") (by decide +kernel)
  have hk18 := hts (.fieldLink RX10 18 "LentDrains$State" "days" "I") (by decide +kernel)
  have hk22 := hts (.fieldLink RX10 22 "LentDrains$State" "spilled" "I") (by decide +kernel)
  have hk25 := hts (.fieldLink RX10 25 "LentDrains$State" "river" "I") (by decide +kernel)
  refine lv_aload_n hx hb dX10_init_0 rfl (lv_at hl 0 rfl) ?_
  refine W.objInit hx hb hown hk3 hoi hoc rfl (by rw [hml]; exact hl.1) rfl dX10_init_1 (Nat.le_of_ble_eq_true rfl) (Nat.le_of_ble_eq_true rfl) ?_
  refine W.eq (g2 := F0 m 4 ls []) rfl ?_
  refine lv_aload_n hx hb dX10_init_4 rfl (lv_at hl 0 rfl) ?_
  refine lv_bipush (v := 8) hx hb dX10_init_5 (by decide) ?_
  refine va_newa (atype := .int) (a0 := (8, .inl (fun _ => 0))) (N' := 8) (ty := .int) hx hb har_int rfl hK hP hD hS hA (fun cA9 => vp_cell_i cA9 _ _) (by decide) (by decide) (by decide) (Nat.le_of_ble_eq_true rfl) (Nat.le_of_ble_eq_true rfl) dX10_init_7 (fun q7 cA H hK hP hD hS => ?_)
  have hcA9 := (oz_cAI hK).symm
  subst hcA9
  have hK := hK.sub (tys' := [(cI, .int), (cZ, .boolean)]) [0, 1] rfl
  have hP : va_P (dC, dI) vwCl [(q_this, .inr (10, [.null, .null, .int 0, .int 0, .int 0])), (q7, .inl (cI, 8, .inl (fun _ => 0)))] H := hP
  have hD : va_D A [(q_this, .inr (10, [.null, .null, .int 0, .int 0, .int 0])), (q7, .inl (cI, 8, .inl (fun _ => 0)))] := hD
  refine W.widen (k := 1) (n := 8) (by omega) (by omega) ?_
  refine va_putF (D := (dC, dI)) (ci := 10) (v := .ref q7) (ty := .array .int) (C := RX10) (T := TX10) (N := 5) hx hb hts hiX10 tyX10 tyX10_ok nmX10 hown hK hP hD hS 0 rfl rfl 0 (by decide) hk9 (fun _ h9 => h9) rfl hin9 rfl (by decide +kernel) rfl rfl (Nat.le_of_ble_eq_true rfl) dX10_init_9 (fun H locs hP hD hS => ?_)
  have hP : va_P (dC, dI) vwCl [(q_this, .inr (10, [.ref q7, .null, .int 0, .int 0, .int 0])), (q7, .inl (cI, 8, .inl (fun _ => 0)))] H := hP
  have hD : va_D A [(q_this, .inr (10, [.ref q7, .null, .int 0, .int 0, .int 0])), (q7, .inl (cI, 8, .inl (fun _ => 0)))] := hD
  refine lv_aload_n hx hb dX10_init_12 rfl (lv_at hl 0 rfl) ?_
  refine lv_bipush (v := 8) hx hb dX10_init_13 (by decide) ?_
  refine va_newa (atype := .int) (a0 := (8, .inl (fun _ => 0))) (N' := 8) (ty := .int) hx hb har_int rfl hK hP hD hS hA (fun cA9 => vp_cell_i cA9 _ _) (by decide) (by decide) (by decide) (Nat.le_of_ble_eq_true rfl) (Nat.le_of_ble_eq_true rfl) dX10_init_15 (fun q15 cA H hK hP hD hS => ?_)
  have hcA9 := (oz_cAI hK).symm
  subst hcA9
  have hK := hK.sub (tys' := [(cI, .int), (cZ, .boolean)]) [0, 1] rfl
  have hP : va_P (dC, dI) vwCl [(q_this, .inr (10, [.ref q7, .null, .int 0, .int 0, .int 0])), (q7, .inl (cI, 8, .inl (fun _ => 0))), (q15, .inl (cI, 8, .inl (fun _ => 0)))] H := hP
  have hD : va_D A [(q_this, .inr (10, [.ref q7, .null, .int 0, .int 0, .int 0])), (q7, .inl (cI, 8, .inl (fun _ => 0))), (q15, .inl (cI, 8, .inl (fun _ => 0)))] := hD
  refine W.widen (k := 2) (n := 16) (by omega) (by omega) ?_
  refine va_putF (D := (dC, dI)) (ci := 10) (v := .ref q15) (ty := .array .int) (C := RX10) (T := TX10) (N := 5) hx hb hts hiX10 tyX10 tyX10_ok nmX10 hown hK hP hD hS 0 rfl rfl 1 (by decide) hk15 (fun _ h9 => h9) rfl hin9 rfl (by decide +kernel) rfl rfl (Nat.le_of_ble_eq_true rfl) dX10_init_17 (fun H locs hP hD hS => ?_)
  have hP : va_P (dC, dI) vwCl [(q_this, .inr (10, [.ref q7, .ref q15, .int 0, .int 0, .int 0])), (q7, .inl (cI, 8, .inl (fun _ => 0))), (q15, .inl (cI, 8, .inl (fun _ => 0)))] H := hP
  have hD : va_D A [(q_this, .inr (10, [.ref q7, .ref q15, .int 0, .int 0, .int 0])), (q7, .inl (cI, 8, .inl (fun _ => 0))), (q15, .inl (cI, 8, .inl (fun _ => 0)))] := hD
  refine lv_aload_n hx hb dX10_init_20 rfl (lv_at hl 0 rfl) ?_
  refine lv_iconst (v := 0) hx hb dX10_init_21 (by decide) ?_
  refine va_put (D := (dC, dI)) (ci := 10) (v := .int 0) (ty := .int) (C := RX10) (T := TX10) (N := 5) hx hb hts hiX10 tyX10 tyX10_ok nmX10 hown hK hP hD hS 0 rfl rfl 2 (by decide) hk18 (fun _ h9 => h9) rfl (by decide +kernel) rfl rfl (Nat.le_of_ble_eq_true rfl) dX10_init_22 (fun H locs hP hD hS => ?_)
  have hP : va_P (dC, dI) vwCl [(q_this, .inr (10, [.ref q7, .ref q15, .int 0, .int 0, .int 0])), (q7, .inl (cI, 8, .inl (fun _ => 0))), (q15, .inl (cI, 8, .inl (fun _ => 0)))] H := hP
  have hD : va_D A [(q_this, .inr (10, [.ref q7, .ref q15, .int 0, .int 0, .int 0])), (q7, .inl (cI, 8, .inl (fun _ => 0))), (q15, .inl (cI, 8, .inl (fun _ => 0)))] := hD
  refine lv_aload_n hx hb dX10_init_25 rfl (lv_at hl 0 rfl) ?_
  refine lv_iconst (v := 0) hx hb dX10_init_26 (by decide) ?_
  refine va_put (D := (dC, dI)) (ci := 10) (v := .int 0) (ty := .int) (C := RX10) (T := TX10) (N := 5) hx hb hts hiX10 tyX10 tyX10_ok nmX10 hown hK hP hD hS 0 rfl rfl 3 (by decide) hk22 (fun _ h9 => h9) rfl (by decide +kernel) rfl rfl (Nat.le_of_ble_eq_true rfl) dX10_init_27 (fun H locs hP hD hS => ?_)
  have hP : va_P (dC, dI) vwCl [(q_this, .inr (10, [.ref q7, .ref q15, .int 0, .int 0, .int 0])), (q7, .inl (cI, 8, .inl (fun _ => 0))), (q15, .inl (cI, 8, .inl (fun _ => 0)))] H := hP
  have hD : va_D A [(q_this, .inr (10, [.ref q7, .ref q15, .int 0, .int 0, .int 0])), (q7, .inl (cI, 8, .inl (fun _ => 0))), (q15, .inl (cI, 8, .inl (fun _ => 0)))] := hD
  refine lv_aload_n hx hb dX10_init_30 rfl (lv_at hl 0 rfl) ?_
  refine lv_iconst (v := 0) hx hb dX10_init_31 (by decide) ?_
  refine va_put (D := (dC, dI)) (ci := 10) (v := .int 0) (ty := .int) (C := RX10) (T := TX10) (N := 5) hx hb hts hiX10 tyX10 tyX10_ok nmX10 hown hK hP hD hS 0 rfl rfl 4 (by decide) hk25 (fun _ h9 => h9) rfl (by decide +kernel) rfl rfl (Nat.le_of_ble_eq_true rfl) dX10_init_32 (fun H locs hP hD hS => ?_)
  have hP : va_P (dC, dI) vwCl [(q_this, .inr (10, [.ref q7, .ref q15, .int 0, .int 0, .int 0])), (q7, .inl (cI, 8, .inl (fun _ => 0))), (q15, .inl (cI, 8, .inl (fun _ => 0)))] H := hP
  have hD : va_D A [(q_this, .inr (10, [.ref q7, .ref q15, .int 0, .int 0, .int 0])), (q7, .inl (cI, 8, .inl (fun _ => 0))), (q15, .inl (cI, 8, .inl (fun _ => 0)))] := hD
  have hP9 := hP.sub (ws' := [(q_this, .inr (10, [.ref q7, .ref q15, .int 0, .int 0, .int 0])), (q7, .inl (cI, 8, .inl (fun _ => 0))), (q15, .inl (cI, 8, .inl (fun _ => 0)))]) [0, 1, 2] rfl
  have hD9 := hD.sub (ws' := [(q_this, .inr (10, [.ref q7, .ref q15, .int 0, .int 0, .int 0])), (q7, .inl (cI, 8, .inl (fun _ => 0))), (q15, .inl (cI, 8, .inl (fun _ => 0)))]) [0, 1, 2] (by decide) rfl
  exact W.vret hx hb hr (fun t ht hW => ⟨⟨(q7, q15), rfl, trivial, by rw [ht]; exact hP9, va_K.moved hW.alike hK, hD9⟩, hS.F ht⟩) hS.2.2 dX10_init_35
