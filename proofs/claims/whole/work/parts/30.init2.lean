def rmX8_init : Room := { frames := 1, cells := 1, slots := 200, locals := 20 }
set_option maxHeartbeats 4000000 in
set_option maxRecDepth 100000 in
theorem tX8_init (l : Launch) (dC : Nat → ClassId) (dI : Nat → Nat → Nat) (cI cZ : ClassId) (q_this sz : Nat) : Met l yX8_init wsX8_init rmX8_init (va_Pc [.ref q_this] (fun U => U.heap.size = sz ∧ va_P (dC, dI) vwCl [(q_this, .inr (8, [.null, .int 0, .int 0, .int 0, .int 0]))] U.heap ∧ va_K (dC, dI) vwCl [(cI, .int), (cZ, .boolean)] U ∧ va_D (fun _ => True) [(q_this, .inr (8, [.null, .int 0, .int 0, .int 0, .int 0]))])) (va_Qv (fun _ : Nat => True) (fun u t => va_P (dC, dI) vwCl [(q_this, .inr (8, [.ref u, .int 0, .int 0, .int (-1), .int 0])), (u, .inl (cI, 200, .inl (fun _ => 0)))] t.heap ∧ va_K (dC, dI) vwCl [(cI, .int), (cZ, .boolean)] t ∧ va_D (va_A [(q_this, .inr (8, [.null, .int 0, .int 0, .int 0, .int 0]))] sz) [(q_this, .inr (8, [.ref u, .int 0, .int 0, .int (-1), .int 0])), (u, .inl (cI, 200, .inl (fun _ => 0)))]) (va_A [(q_this, .inr (8, [.null, .int 0, .int 0, .int 0, .int 0]))] sz)) 1 200 (va_A [(q_this, .inr (8, [.null, .int 0, .int 0, .int 0, .int 0]))] sz) := by
  refine Met.ofW (cc := cX8_init) (maxL := 1) (ret := none) (by decide) rfl ?_
  intro p e s m args below meth c s₁ B hml hv
  obtain ⟨rfl, hsz, hP, hK, hD0⟩ := hv
  have hx := B.exec
  have hb := B.bytes
  have hr := B.returns
  have hts := atoms_spec (ws := wsX8_init) B.pre
  have hown : s.vm.findClass RX8 = some m.cls := findClass_of_methodNamed B.named
  have hlocks := B.notSynchronized
  have hin9 : meth.name = "<init>" := (name_of_methodNamed B.named B.method).1
  subst hsz
  have hD := hD0.self (sz := s.heap.size)
  generalize hAe : va_A [(q_this, .inr (8, [.null, .int 0, .int 0, .int 0, .int 0]))] s.heap.size = A at hD ⊢
  have hA : ∀ q : Nat, s.heap.size ≤ q → A q := fun q h => by rw [← hAe]; exact Or.inr h
  have hS : va_S A s.heap s.heap [] := va_S.rf
  have hl := lv_entry ([.ref q_this]) (n := 1) (Nat.le_of_ble_eq_true rfl)
  rw [lg_entry_eq]
  generalize (lg_sl ([.ref q_this]) ++ List.replicate (1 - (lg_sl ([.ref q_this])).length) Slot.unset).toArray = ls at hl ⊢
  have hl : lv_has ls 1 [(0, .ref q_this)] := hl
  have hk3 := hts (.methodLink RX8 3 objectInit) (by decide +kernel)
  have hoi := hts (.instanceMethod objectInit) (by decide +kernel)
  have hoc := hts (.code objectInit ⟨#[0xb1]⟩ 1 none) (List.mem_of_getElem? (i := 3) rfl)
  have har_int := hts (.arrayClass .int) (by decide +kernel)
  have hk11 := hts (.fieldLink RX8 11 "LentDrains$Reader" "letters" "[I") (by decide +kernel)
  have hiX8 : ∀ w ∈ wsX80, w ∈ wsX8_init := by decide +kernel
  have hk15 := hts (.fieldLink RX8 15 "LentDrains$Reader" "length" "I") (by decide +kernel)
  have hk19 := hts (.fieldLink RX8 19 "LentDrains$Reader" "faultKind" "I") (by decide +kernel)
  have hk22 := hts (.fieldLink RX8 22 "LentDrains$Reader" "faultAt" "I") (by decide +kernel)
  have hk25 := hts (.fieldLink RX8 25 "LentDrains$Reader" "at" "I") (by decide +kernel)
  refine lv_aload_n hx hb dX8_init_0 rfl (lv_at hl 0 rfl) ?_
  refine W.objInit hx hb hown hk3 hoi hoc rfl (by rw [hml]; exact hl.1) rfl dX8_init_1 (Nat.le_of_ble_eq_true rfl) (Nat.le_of_ble_eq_true rfl) ?_
  refine W.eq (g2 := F0 m 4 ls []) rfl ?_
  refine lv_aload_n hx hb dX8_init_4 rfl (lv_at hl 0 rfl) ?_
  refine lv_sipush (v := 200) hx hb dX8_init_5 (by decide) ?_
  refine va_newa (atype := .int) (a0 := (200, .inl (fun _ => 0))) (N' := 200) (ty := .int) hx hb har_int rfl hK hP hD hS hA (fun cA9 => vp_cell_i cA9 _ _) (by decide) (by decide) (by decide) (Nat.le_of_ble_eq_true rfl) (Nat.le_of_ble_eq_true rfl) dX8_init_8 (fun q8 cA H hK hP hD hS => ?_)
  have hcA9 := (oz_cAI hK).symm
  subst hcA9
  have hK := hK.sub (tys' := [(cI, .int), (cZ, .boolean)]) [0, 1] rfl
  have hP : va_P (dC, dI) vwCl [(q_this, .inr (8, [.null, .int 0, .int 0, .int 0, .int 0])), (q8, .inl (cI, 200, .inl (fun _ => 0)))] H := hP
  have hD : va_D A [(q_this, .inr (8, [.null, .int 0, .int 0, .int 0, .int 0])), (q8, .inl (cI, 200, .inl (fun _ => 0)))] := hD
  refine W.widen (k := 1) (n := 200) (by omega) (by omega) ?_
  refine va_putF (D := (dC, dI)) (ci := 8) (v := .ref q8) (ty := .array .int) (C := RX8) (T := TX8) (N := 5) hx hb hts hiX8 tyX8 tyX8_ok nmX8 hown hK hP hD hS 0 rfl rfl 0 (by decide) hk11 (fun _ h9 => h9) rfl hin9 rfl (by decide +kernel) rfl rfl (Nat.le_of_ble_eq_true rfl) dX8_init_10 (fun H locs hP hD hS => ?_)
  have hP : va_P (dC, dI) vwCl [(q_this, .inr (8, [.ref q8, .int 0, .int 0, .int 0, .int 0])), (q8, .inl (cI, 200, .inl (fun _ => 0)))] H := hP
  have hD : va_D A [(q_this, .inr (8, [.ref q8, .int 0, .int 0, .int 0, .int 0])), (q8, .inl (cI, 200, .inl (fun _ => 0)))] := hD
  refine lv_aload_n hx hb dX8_init_13 rfl (lv_at hl 0 rfl) ?_
  refine lv_iconst (v := 0) hx hb dX8_init_14 (by decide) ?_
  refine va_put (D := (dC, dI)) (ci := 8) (v := .int 0) (ty := .int) (C := RX8) (T := TX8) (N := 5) hx hb hts hiX8 tyX8 tyX8_ok nmX8 hown hK hP hD hS 0 rfl rfl 1 (by decide) hk15 (fun _ h9 => h9) rfl (by decide +kernel) rfl rfl (Nat.le_of_ble_eq_true rfl) dX8_init_15 (fun H locs hP hD hS => ?_)
  have hP : va_P (dC, dI) vwCl [(q_this, .inr (8, [.ref q8, .int 0, .int 0, .int 0, .int 0])), (q8, .inl (cI, 200, .inl (fun _ => 0)))] H := hP
  have hD : va_D A [(q_this, .inr (8, [.ref q8, .int 0, .int 0, .int 0, .int 0])), (q8, .inl (cI, 200, .inl (fun _ => 0)))] := hD
  refine lv_aload_n hx hb dX8_init_18 rfl (lv_at hl 0 rfl) ?_
  refine lv_iconst (v := 0) hx hb dX8_init_19 (by decide) ?_
  refine va_put (D := (dC, dI)) (ci := 8) (v := .int 0) (ty := .int) (C := RX8) (T := TX8) (N := 5) hx hb hts hiX8 tyX8 tyX8_ok nmX8 hown hK hP hD hS 0 rfl rfl 2 (by decide) hk19 (fun _ h9 => h9) rfl (by decide +kernel) rfl rfl (Nat.le_of_ble_eq_true rfl) dX8_init_20 (fun H locs hP hD hS => ?_)
  have hP : va_P (dC, dI) vwCl [(q_this, .inr (8, [.ref q8, .int 0, .int 0, .int 0, .int 0])), (q8, .inl (cI, 200, .inl (fun _ => 0)))] H := hP
  have hD : va_D A [(q_this, .inr (8, [.ref q8, .int 0, .int 0, .int 0, .int 0])), (q8, .inl (cI, 200, .inl (fun _ => 0)))] := hD
  refine lv_aload_n hx hb dX8_init_23 rfl (lv_at hl 0 rfl) ?_
  refine lv_iconst (v := (-1)) hx hb dX8_init_24 (by decide) ?_
  refine va_put (D := (dC, dI)) (ci := 8) (v := .int (-1)) (ty := .int) (C := RX8) (T := TX8) (N := 5) hx hb hts hiX8 tyX8 tyX8_ok nmX8 hown hK hP hD hS 0 rfl rfl 3 (by decide) hk22 (fun _ h9 => h9) rfl (by decide +kernel) rfl rfl (Nat.le_of_ble_eq_true rfl) dX8_init_25 (fun H locs hP hD hS => ?_)
  have hP : va_P (dC, dI) vwCl [(q_this, .inr (8, [.ref q8, .int 0, .int 0, .int (-1), .int 0])), (q8, .inl (cI, 200, .inl (fun _ => 0)))] H := hP
  have hD : va_D A [(q_this, .inr (8, [.ref q8, .int 0, .int 0, .int (-1), .int 0])), (q8, .inl (cI, 200, .inl (fun _ => 0)))] := hD
  refine lv_aload_n hx hb dX8_init_28 rfl (lv_at hl 0 rfl) ?_
  refine lv_iconst (v := 0) hx hb dX8_init_29 (by decide) ?_
  refine va_put (D := (dC, dI)) (ci := 8) (v := .int 0) (ty := .int) (C := RX8) (T := TX8) (N := 5) hx hb hts hiX8 tyX8 tyX8_ok nmX8 hown hK hP hD hS 0 rfl rfl 4 (by decide) hk25 (fun _ h9 => h9) rfl (by decide +kernel) rfl rfl (Nat.le_of_ble_eq_true rfl) dX8_init_30 (fun H locs hP hD hS => ?_)
  have hP : va_P (dC, dI) vwCl [(q_this, .inr (8, [.ref q8, .int 0, .int 0, .int (-1), .int 0])), (q8, .inl (cI, 200, .inl (fun _ => 0)))] H := hP
  have hD : va_D A [(q_this, .inr (8, [.ref q8, .int 0, .int 0, .int (-1), .int 0])), (q8, .inl (cI, 200, .inl (fun _ => 0)))] := hD
  have hP9 := hP.sub (ws' := [(q_this, .inr (8, [.ref q8, .int 0, .int 0, .int (-1), .int 0])), (q8, .inl (cI, 200, .inl (fun _ => 0)))]) [0, 1] rfl
  have hD9 := hD.sub (ws' := [(q_this, .inr (8, [.ref q8, .int 0, .int 0, .int (-1), .int 0])), (q8, .inl (cI, 200, .inl (fun _ => 0)))]) [0, 1] (by decide) rfl
  exact W.vret hx hb hr (fun t ht hW => ⟨⟨q8, rfl, trivial, by rw [ht]; exact hP9, va_K.moved hW.alike hK, hD9⟩, hS.F ht⟩) hS.2.2 dX8_init_33
def rmX5_init : Room := { frames := 1, cells := 4, slots := 52, locals := 20 }
set_option maxHeartbeats 4000000 in
set_option maxRecDepth 100000 in
theorem tX5_init (l : Launch) (dC : Nat → ClassId) (dI : Nat → Nat → Nat) (cI cZ : ClassId) (q_this sz : Nat) : Met l yX5_init wsX5_init rmX5_init (va_Pc [.ref q_this] (fun U => U.heap.size = sz ∧ va_P (dC, dI) vwCl [(q_this, .inr (5, [.null, .null, .null, .null, .int 0, .int 0]))] U.heap ∧ va_K (dC, dI) vwCl [(cI, .int), (cZ, .boolean)] U ∧ va_D (fun _ => True) [(q_this, .inr (5, [.null, .null, .null, .null, .int 0, .int 0]))])) (va_Qv (fun _ : Nat × Nat × Nat × Nat => True) (fun u t => va_P (dC, dI) vwCl [(q_this, .inr (5, [.ref u.1, .ref u.2.1, .ref u.2.2.1, .ref u.2.2.2, .int 0, .int 0])), (u.1, .inl (cI, 6, .inl (fun _ => 0))), (u.2.1, .inl (cZ, 6, .inl (fun _ => 0))), (u.2.2.1, .inl (cI, 20, .inl (fun _ => 0))), (u.2.2.2, .inl (cI, 20, .inl (fun _ => 0)))] t.heap ∧ va_K (dC, dI) vwCl [(cI, .int), (cZ, .boolean)] t ∧ va_D (va_A [(q_this, .inr (5, [.null, .null, .null, .null, .int 0, .int 0]))] sz) [(q_this, .inr (5, [.ref u.1, .ref u.2.1, .ref u.2.2.1, .ref u.2.2.2, .int 0, .int 0])), (u.1, .inl (cI, 6, .inl (fun _ => 0))), (u.2.1, .inl (cZ, 6, .inl (fun _ => 0))), (u.2.2.1, .inl (cI, 20, .inl (fun _ => 0))), (u.2.2.2, .inl (cI, 20, .inl (fun _ => 0)))]) (va_A [(q_this, .inr (5, [.null, .null, .null, .null, .int 0, .int 0]))] sz)) 4 52 (va_A [(q_this, .inr (5, [.null, .null, .null, .null, .int 0, .int 0]))] sz) := by
  refine Met.ofW (cc := cX5_init) (maxL := 1) (ret := none) (by decide) rfl ?_
  intro p e s m args below meth c s₁ B hml hv
  obtain ⟨rfl, hsz, hP, hK, hD0⟩ := hv
  have hx := B.exec
  have hb := B.bytes
  have hr := B.returns
  have hts := atoms_spec (ws := wsX5_init) B.pre
  have hown : s.vm.findClass RX5 = some m.cls := findClass_of_methodNamed B.named
  have hlocks := B.notSynchronized
  have hin9 : meth.name = "<init>" := (name_of_methodNamed B.named B.method).1
  subst hsz
  have hD := hD0.self (sz := s.heap.size)
  generalize hAe : va_A [(q_this, .inr (5, [.null, .null, .null, .null, .int 0, .int 0]))] s.heap.size = A at hD ⊢
  have hA : ∀ q : Nat, s.heap.size ≤ q → A q := fun q h => by rw [← hAe]; exact Or.inr h
  have hS : va_S A s.heap s.heap [] := va_S.rf
  have hl := lv_entry ([.ref q_this]) (n := 1) (Nat.le_of_ble_eq_true rfl)
  rw [lg_entry_eq]
  generalize (lg_sl ([.ref q_this]) ++ List.replicate (1 - (lg_sl ([.ref q_this])).length) Slot.unset).toArray = ls at hl ⊢
  have hl : lv_has ls 1 [(0, .ref q_this)] := hl
  have hk3 := hts (.methodLink RX5 3 objectInit) (by decide +kernel)
  have hoi := hts (.instanceMethod objectInit) (by decide +kernel)
  have hoc := hts (.code objectInit ⟨#[0xb1]⟩ 1 none) (List.mem_of_getElem? (i := 3) rfl)
  have har_int := hts (.arrayClass .int) (by decide +kernel)
  have hk11 := hts (.fieldLink RX5 11 "LentDrains$Notes" "seenBy" "[I") (by decide +kernel)
  have hiX5 : ∀ w ∈ wsX50, w ∈ wsX5_init := by decide +kernel
  have har_boolean := hts (.arrayClass .boolean) (by decide +kernel)
  have hk15 := hts (.fieldLink RX5 15 "LentDrains$Notes" "seenCame" "[Z") (by decide +kernel)
  have hk19 := hts (.fieldLink RX5 19 "LentDrains$Notes" "entryHouse" "[I") (by decide +kernel)
  have hk22 := hts (.fieldLink RX5 22 "LentDrains$Notes" "entryAmount" "[I") (by decide +kernel)
  have hk25 := hts (.fieldLink RX5 25 "LentDrains$Notes" "seen" "I") (by decide +kernel)
  have hk29 := hts (.fieldLink RX5 29 "LentDrains$Notes" "entries" "I") (by decide +kernel)
  refine lv_aload_n hx hb dX5_init_0 rfl (lv_at hl 0 rfl) ?_
  refine W.objInit hx hb hown hk3 hoi hoc rfl (by rw [hml]; exact hl.1) rfl dX5_init_1 (Nat.le_of_ble_eq_true rfl) (Nat.le_of_ble_eq_true rfl) ?_
  refine W.eq (g2 := F0 m 4 ls []) rfl ?_
  refine lv_aload_n hx hb dX5_init_4 rfl (lv_at hl 0 rfl) ?_
  refine lv_bipush (v := 6) hx hb dX5_init_5 (by decide) ?_
  refine va_newa (atype := .int) (a0 := (6, .inl (fun _ => 0))) (N' := 6) (ty := .int) hx hb har_int rfl hK hP hD hS hA (fun cA9 => vp_cell_i cA9 _ _) (by decide) (by decide) (by decide) (Nat.le_of_ble_eq_true rfl) (Nat.le_of_ble_eq_true rfl) dX5_init_7 (fun q7 cA H hK hP hD hS => ?_)
  have hcA9 := (oz_cAI hK).symm
  subst hcA9
  have hK := hK.sub (tys' := [(cI, .int), (cZ, .boolean)]) [0, 1] rfl
  have hP : va_P (dC, dI) vwCl [(q_this, .inr (5, [.null, .null, .null, .null, .int 0, .int 0])), (q7, .inl (cI, 6, .inl (fun _ => 0)))] H := hP
  have hD : va_D A [(q_this, .inr (5, [.null, .null, .null, .null, .int 0, .int 0])), (q7, .inl (cI, 6, .inl (fun _ => 0)))] := hD
  refine W.widen (k := 1) (n := 6) (by omega) (by omega) ?_
  refine va_putF (D := (dC, dI)) (ci := 5) (v := .ref q7) (ty := .array .int) (C := RX5) (T := TX5) (N := 6) hx hb hts hiX5 tyX5 tyX5_ok nmX5 hown hK hP hD hS 0 rfl rfl 0 (by decide) hk11 (fun _ h9 => h9) rfl hin9 rfl (by decide +kernel) rfl rfl (Nat.le_of_ble_eq_true rfl) dX5_init_9 (fun H locs hP hD hS => ?_)
  have hP : va_P (dC, dI) vwCl [(q_this, .inr (5, [.ref q7, .null, .null, .null, .int 0, .int 0])), (q7, .inl (cI, 6, .inl (fun _ => 0)))] H := hP
  have hD : va_D A [(q_this, .inr (5, [.ref q7, .null, .null, .null, .int 0, .int 0])), (q7, .inl (cI, 6, .inl (fun _ => 0)))] := hD
  refine lv_aload_n hx hb dX5_init_12 rfl (lv_at hl 0 rfl) ?_
  refine lv_bipush (v := 6) hx hb dX5_init_13 (by decide) ?_
  refine va_newa (atype := .boolean) (a0 := (6, .inl (fun _ => 0))) (N' := 6) (ty := .boolean) hx hb har_boolean rfl hK hP hD hS hA (fun cA9 => vp_cell_i cA9 _ _) (by decide) (by decide) (by decide) (Nat.le_of_ble_eq_true rfl) (Nat.le_of_ble_eq_true rfl) dX5_init_15 (fun q15 cA H hK hP hD hS => ?_)
  have hcA9 := (oz_cAZ hK).symm
  subst hcA9
  have hK := hK.sub (tys' := [(cI, .int), (cZ, .boolean)]) [0, 1] rfl
  have hP : va_P (dC, dI) vwCl [(q_this, .inr (5, [.ref q7, .null, .null, .null, .int 0, .int 0])), (q7, .inl (cI, 6, .inl (fun _ => 0))), (q15, .inl (cZ, 6, .inl (fun _ => 0)))] H := hP
  have hD : va_D A [(q_this, .inr (5, [.ref q7, .null, .null, .null, .int 0, .int 0])), (q7, .inl (cI, 6, .inl (fun _ => 0))), (q15, .inl (cZ, 6, .inl (fun _ => 0)))] := hD
  refine W.widen (k := 2) (n := 12) (by omega) (by omega) ?_
  refine va_putF (D := (dC, dI)) (ci := 5) (v := .ref q15) (ty := .array .boolean) (C := RX5) (T := TX5) (N := 6) hx hb hts hiX5 tyX5 tyX5_ok nmX5 hown hK hP hD hS 0 rfl rfl 1 (by decide) hk15 (fun _ h9 => h9) rfl hin9 rfl (by decide +kernel) rfl rfl (Nat.le_of_ble_eq_true rfl) dX5_init_17 (fun H locs hP hD hS => ?_)
  have hP : va_P (dC, dI) vwCl [(q_this, .inr (5, [.ref q7, .ref q15, .null, .null, .int 0, .int 0])), (q7, .inl (cI, 6, .inl (fun _ => 0))), (q15, .inl (cZ, 6, .inl (fun _ => 0)))] H := hP
  have hD : va_D A [(q_this, .inr (5, [.ref q7, .ref q15, .null, .null, .int 0, .int 0])), (q7, .inl (cI, 6, .inl (fun _ => 0))), (q15, .inl (cZ, 6, .inl (fun _ => 0)))] := hD
  refine lv_aload_n hx hb dX5_init_20 rfl (lv_at hl 0 rfl) ?_
  refine lv_bipush (v := 20) hx hb dX5_init_21 (by decide) ?_
  refine va_newa (atype := .int) (a0 := (20, .inl (fun _ => 0))) (N' := 20) (ty := .int) hx hb har_int rfl hK hP hD hS hA (fun cA9 => vp_cell_i cA9 _ _) (by decide) (by decide) (by decide) (Nat.le_of_ble_eq_true rfl) (Nat.le_of_ble_eq_true rfl) dX5_init_23 (fun q23 cA H hK hP hD hS => ?_)
  have hcA9 := (oz_cAI hK).symm
  subst hcA9
  have hK := hK.sub (tys' := [(cI, .int), (cZ, .boolean)]) [0, 1] rfl
  have hP : va_P (dC, dI) vwCl [(q_this, .inr (5, [.ref q7, .ref q15, .null, .null, .int 0, .int 0])), (q7, .inl (cI, 6, .inl (fun _ => 0))), (q15, .inl (cZ, 6, .inl (fun _ => 0))), (q23, .inl (cI, 20, .inl (fun _ => 0)))] H := hP
  have hD : va_D A [(q_this, .inr (5, [.ref q7, .ref q15, .null, .null, .int 0, .int 0])), (q7, .inl (cI, 6, .inl (fun _ => 0))), (q15, .inl (cZ, 6, .inl (fun _ => 0))), (q23, .inl (cI, 20, .inl (fun _ => 0)))] := hD
  refine W.widen (k := 3) (n := 32) (by omega) (by omega) ?_
  refine va_putF (D := (dC, dI)) (ci := 5) (v := .ref q23) (ty := .array .int) (C := RX5) (T := TX5) (N := 6) hx hb hts hiX5 tyX5 tyX5_ok nmX5 hown hK hP hD hS 0 rfl rfl 2 (by decide) hk19 (fun _ h9 => h9) rfl hin9 rfl (by decide +kernel) rfl rfl (Nat.le_of_ble_eq_true rfl) dX5_init_25 (fun H locs hP hD hS => ?_)
  have hP : va_P (dC, dI) vwCl [(q_this, .inr (5, [.ref q7, .ref q15, .ref q23, .null, .int 0, .int 0])), (q7, .inl (cI, 6, .inl (fun _ => 0))), (q15, .inl (cZ, 6, .inl (fun _ => 0))), (q23, .inl (cI, 20, .inl (fun _ => 0)))] H := hP
  have hD : va_D A [(q_this, .inr (5, [.ref q7, .ref q15, .ref q23, .null, .int 0, .int 0])), (q7, .inl (cI, 6, .inl (fun _ => 0))), (q15, .inl (cZ, 6, .inl (fun _ => 0))), (q23, .inl (cI, 20, .inl (fun _ => 0)))] := hD
  refine lv_aload_n hx hb dX5_init_28 rfl (lv_at hl 0 rfl) ?_
  refine lv_bipush (v := 20) hx hb dX5_init_29 (by decide) ?_
  refine va_newa (atype := .int) (a0 := (20, .inl (fun _ => 0))) (N' := 20) (ty := .int) hx hb har_int rfl hK hP hD hS hA (fun cA9 => vp_cell_i cA9 _ _) (by decide) (by decide) (by decide) (Nat.le_of_ble_eq_true rfl) (Nat.le_of_ble_eq_true rfl) dX5_init_31 (fun q31 cA H hK hP hD hS => ?_)
  have hcA9 := (oz_cAI hK).symm
  subst hcA9
  have hK := hK.sub (tys' := [(cI, .int), (cZ, .boolean)]) [0, 1] rfl
  have hP : va_P (dC, dI) vwCl [(q_this, .inr (5, [.ref q7, .ref q15, .ref q23, .null, .int 0, .int 0])), (q7, .inl (cI, 6, .inl (fun _ => 0))), (q15, .inl (cZ, 6, .inl (fun _ => 0))), (q23, .inl (cI, 20, .inl (fun _ => 0))), (q31, .inl (cI, 20, .inl (fun _ => 0)))] H := hP
  have hD : va_D A [(q_this, .inr (5, [.ref q7, .ref q15, .ref q23, .null, .int 0, .int 0])), (q7, .inl (cI, 6, .inl (fun _ => 0))), (q15, .inl (cZ, 6, .inl (fun _ => 0))), (q23, .inl (cI, 20, .inl (fun _ => 0))), (q31, .inl (cI, 20, .inl (fun _ => 0)))] := hD
  refine W.widen (k := 4) (n := 52) (by omega) (by omega) ?_
  refine va_putF (D := (dC, dI)) (ci := 5) (v := .ref q31) (ty := .array .int) (C := RX5) (T := TX5) (N := 6) hx hb hts hiX5 tyX5 tyX5_ok nmX5 hown hK hP hD hS 0 rfl rfl 3 (by decide) hk22 (fun _ h9 => h9) rfl hin9 rfl (by decide +kernel) rfl rfl (Nat.le_of_ble_eq_true rfl) dX5_init_33 (fun H locs hP hD hS => ?_)
  have hP : va_P (dC, dI) vwCl [(q_this, .inr (5, [.ref q7, .ref q15, .ref q23, .ref q31, .int 0, .int 0])), (q7, .inl (cI, 6, .inl (fun _ => 0))), (q15, .inl (cZ, 6, .inl (fun _ => 0))), (q23, .inl (cI, 20, .inl (fun _ => 0))), (q31, .inl (cI, 20, .inl (fun _ => 0)))] H := hP
  have hD : va_D A [(q_this, .inr (5, [.ref q7, .ref q15, .ref q23, .ref q31, .int 0, .int 0])), (q7, .inl (cI, 6, .inl (fun _ => 0))), (q15, .inl (cZ, 6, .inl (fun _ => 0))), (q23, .inl (cI, 20, .inl (fun _ => 0))), (q31, .inl (cI, 20, .inl (fun _ => 0)))] := hD
  refine lv_aload_n hx hb dX5_init_36 rfl (lv_at hl 0 rfl) ?_
  refine lv_iconst (v := 0) hx hb dX5_init_37 (by decide) ?_
  refine va_put (D := (dC, dI)) (ci := 5) (v := .int 0) (ty := .int) (C := RX5) (T := TX5) (N := 6) hx hb hts hiX5 tyX5 tyX5_ok nmX5 hown hK hP hD hS 0 rfl rfl 4 (by decide) hk25 (fun _ h9 => h9) rfl (by decide +kernel) rfl rfl (Nat.le_of_ble_eq_true rfl) dX5_init_38 (fun H locs hP hD hS => ?_)
  have hP : va_P (dC, dI) vwCl [(q_this, .inr (5, [.ref q7, .ref q15, .ref q23, .ref q31, .int 0, .int 0])), (q7, .inl (cI, 6, .inl (fun _ => 0))), (q15, .inl (cZ, 6, .inl (fun _ => 0))), (q23, .inl (cI, 20, .inl (fun _ => 0))), (q31, .inl (cI, 20, .inl (fun _ => 0)))] H := hP
  have hD : va_D A [(q_this, .inr (5, [.ref q7, .ref q15, .ref q23, .ref q31, .int 0, .int 0])), (q7, .inl (cI, 6, .inl (fun _ => 0))), (q15, .inl (cZ, 6, .inl (fun _ => 0))), (q23, .inl (cI, 20, .inl (fun _ => 0))), (q31, .inl (cI, 20, .inl (fun _ => 0)))] := hD
  refine lv_aload_n hx hb dX5_init_41 rfl (lv_at hl 0 rfl) ?_
  refine lv_iconst (v := 0) hx hb dX5_init_42 (by decide) ?_
  refine va_put (D := (dC, dI)) (ci := 5) (v := .int 0) (ty := .int) (C := RX5) (T := TX5) (N := 6) hx hb hts hiX5 tyX5 tyX5_ok nmX5 hown hK hP hD hS 0 rfl rfl 5 (by decide) hk29 (fun _ h9 => h9) rfl (by decide +kernel) rfl rfl (Nat.le_of_ble_eq_true rfl) dX5_init_43 (fun H locs hP hD hS => ?_)
  have hP : va_P (dC, dI) vwCl [(q_this, .inr (5, [.ref q7, .ref q15, .ref q23, .ref q31, .int 0, .int 0])), (q7, .inl (cI, 6, .inl (fun _ => 0))), (q15, .inl (cZ, 6, .inl (fun _ => 0))), (q23, .inl (cI, 20, .inl (fun _ => 0))), (q31, .inl (cI, 20, .inl (fun _ => 0)))] H := hP
  have hD : va_D A [(q_this, .inr (5, [.ref q7, .ref q15, .ref q23, .ref q31, .int 0, .int 0])), (q7, .inl (cI, 6, .inl (fun _ => 0))), (q15, .inl (cZ, 6, .inl (fun _ => 0))), (q23, .inl (cI, 20, .inl (fun _ => 0))), (q31, .inl (cI, 20, .inl (fun _ => 0)))] := hD
  have hP9 := hP.sub (ws' := [(q_this, .inr (5, [.ref q7, .ref q15, .ref q23, .ref q31, .int 0, .int 0])), (q7, .inl (cI, 6, .inl (fun _ => 0))), (q15, .inl (cZ, 6, .inl (fun _ => 0))), (q23, .inl (cI, 20, .inl (fun _ => 0))), (q31, .inl (cI, 20, .inl (fun _ => 0)))]) [0, 1, 2, 3, 4] rfl
  have hD9 := hD.sub (ws' := [(q_this, .inr (5, [.ref q7, .ref q15, .ref q23, .ref q31, .int 0, .int 0])), (q7, .inl (cI, 6, .inl (fun _ => 0))), (q15, .inl (cZ, 6, .inl (fun _ => 0))), (q23, .inl (cI, 20, .inl (fun _ => 0))), (q31, .inl (cI, 20, .inl (fun _ => 0)))]) [0, 1, 2, 3, 4] (by decide) rfl
  exact W.vret hx hb hr (fun t ht hW => ⟨⟨(q7, q15, q23, q31), rfl, trivial, by rw [ht]; exact hP9, va_K.moved hW.alike hK, hD9⟩, hS.F ht⟩) hS.2.2 dX5_init_46
def rmX7_init : Room := { frames := 1, cells := 2, slots := 14, locals := 20 }
set_option maxHeartbeats 4000000 in
set_option maxRecDepth 100000 in
theorem tX7_init (l : Launch) (dC : Nat → ClassId) (dI : Nat → Nat → Nat) (cI cZ : ClassId) (q_this sz : Nat) : Met l yX7_init wsX7_init rmX7_init (va_Pc [.ref q_this] (fun U => U.heap.size = sz ∧ va_P (dC, dI) vwCl [(q_this, .inr (7, [.null, .null, .int 0, .int 0]))] U.heap ∧ va_K (dC, dI) vwCl [(cI, .int), (cZ, .boolean)] U ∧ va_D (fun _ => True) [(q_this, .inr (7, [.null, .null, .int 0, .int 0]))])) (va_Qv (fun _ : Nat × Nat => True) (fun u t => va_P (dC, dI) vwCl [(q_this, .inr (7, [.ref u.1, .ref u.2, .int 0, .int 0])), (u.1, .inl (cI, 6, .inl (fun _ => 0))), (u.2, .inl (cI, 8, .inl (fun _ => 0)))] t.heap ∧ va_K (dC, dI) vwCl [(cI, .int), (cZ, .boolean)] t ∧ va_D (va_A [(q_this, .inr (7, [.null, .null, .int 0, .int 0]))] sz) [(q_this, .inr (7, [.ref u.1, .ref u.2, .int 0, .int 0])), (u.1, .inl (cI, 6, .inl (fun _ => 0))), (u.2, .inl (cI, 8, .inl (fun _ => 0)))]) (va_A [(q_this, .inr (7, [.null, .null, .int 0, .int 0]))] sz)) 2 14 (va_A [(q_this, .inr (7, [.null, .null, .int 0, .int 0]))] sz) := by
  refine Met.ofW (cc := cX7_init) (maxL := 1) (ret := none) (by decide) rfl ?_
  intro p e s m args below meth c s₁ B hml hv
  obtain ⟨rfl, hsz, hP, hK, hD0⟩ := hv
  have hx := B.exec
  have hb := B.bytes
  have hr := B.returns
  have hts := atoms_spec (ws := wsX7_init) B.pre
  have hown : s.vm.findClass RX7 = some m.cls := findClass_of_methodNamed B.named
  have hlocks := B.notSynchronized
  have hin9 : meth.name = "<init>" := (name_of_methodNamed B.named B.method).1
  subst hsz
  have hD := hD0.self (sz := s.heap.size)
  generalize hAe : va_A [(q_this, .inr (7, [.null, .null, .int 0, .int 0]))] s.heap.size = A at hD ⊢
  have hA : ∀ q : Nat, s.heap.size ≤ q → A q := fun q h => by rw [← hAe]; exact Or.inr h
  have hS : va_S A s.heap s.heap [] := va_S.rf
  have hl := lv_entry ([.ref q_this]) (n := 1) (Nat.le_of_ble_eq_true rfl)
  rw [lg_entry_eq]
  generalize (lg_sl ([.ref q_this]) ++ List.replicate (1 - (lg_sl ([.ref q_this])).length) Slot.unset).toArray = ls at hl ⊢
  have hl : lv_has ls 1 [(0, .ref q_this)] := hl
  have hk3 := hts (.methodLink RX7 3 objectInit) (by decide +kernel)
  have hoi := hts (.instanceMethod objectInit) (by decide +kernel)
  have hoc := hts (.code objectInit ⟨#[0xb1]⟩ 1 none) (List.mem_of_getElem? (i := 3) rfl)
  have har_int := hts (.arrayClass .int) (by decide +kernel)
  have hk11 := hts (.fieldLink RX7 11 "LentDrains$Plugs" "order" "[I") (by decide +kernel)
  have hiX7 : ∀ w ∈ wsX70, w ∈ wsX7_init := by decide +kernel
  have hk15 := hts (.fieldLink RX7 15 "LentDrains$Plugs" "standing" "[I") (by decide +kernel)
  have hk18 := hts (.fieldLink RX7 18 "LentDrains$Plugs" "count" "I") (by decide +kernel)
  have hk22 := hts (.fieldLink RX7 22 "LentDrains$Plugs" "pulledSet" "I") (by decide +kernel)
  refine lv_aload_n hx hb dX7_init_0 rfl (lv_at hl 0 rfl) ?_
  refine W.objInit hx hb hown hk3 hoi hoc rfl (by rw [hml]; exact hl.1) rfl dX7_init_1 (Nat.le_of_ble_eq_true rfl) (Nat.le_of_ble_eq_true rfl) ?_
  refine W.eq (g2 := F0 m 4 ls []) rfl ?_
  refine lv_aload_n hx hb dX7_init_4 rfl (lv_at hl 0 rfl) ?_
  refine lv_bipush (v := 6) hx hb dX7_init_5 (by decide) ?_
  refine va_newa (atype := .int) (a0 := (6, .inl (fun _ => 0))) (N' := 6) (ty := .int) hx hb har_int rfl hK hP hD hS hA (fun cA9 => vp_cell_i cA9 _ _) (by decide) (by decide) (by decide) (Nat.le_of_ble_eq_true rfl) (Nat.le_of_ble_eq_true rfl) dX7_init_7 (fun q7 cA H hK hP hD hS => ?_)
  have hcA9 := (oz_cAI hK).symm
  subst hcA9
  have hK := hK.sub (tys' := [(cI, .int), (cZ, .boolean)]) [0, 1] rfl
  have hP : va_P (dC, dI) vwCl [(q_this, .inr (7, [.null, .null, .int 0, .int 0])), (q7, .inl (cI, 6, .inl (fun _ => 0)))] H := hP
  have hD : va_D A [(q_this, .inr (7, [.null, .null, .int 0, .int 0])), (q7, .inl (cI, 6, .inl (fun _ => 0)))] := hD
  refine W.widen (k := 1) (n := 6) (by omega) (by omega) ?_
  refine va_putF (D := (dC, dI)) (ci := 7) (v := .ref q7) (ty := .array .int) (C := RX7) (T := TX7) (N := 4) hx hb hts hiX7 tyX7 tyX7_ok nmX7 hown hK hP hD hS 0 rfl rfl 0 (by decide) hk11 (fun _ h9 => h9) rfl hin9 rfl (by decide +kernel) rfl rfl (Nat.le_of_ble_eq_true rfl) dX7_init_9 (fun H locs hP hD hS => ?_)
  have hP : va_P (dC, dI) vwCl [(q_this, .inr (7, [.ref q7, .null, .int 0, .int 0])), (q7, .inl (cI, 6, .inl (fun _ => 0)))] H := hP
  have hD : va_D A [(q_this, .inr (7, [.ref q7, .null, .int 0, .int 0])), (q7, .inl (cI, 6, .inl (fun _ => 0)))] := hD
  refine lv_aload_n hx hb dX7_init_12 rfl (lv_at hl 0 rfl) ?_
  refine lv_bipush (v := 8) hx hb dX7_init_13 (by decide) ?_
  refine va_newa (atype := .int) (a0 := (8, .inl (fun _ => 0))) (N' := 8) (ty := .int) hx hb har_int rfl hK hP hD hS hA (fun cA9 => vp_cell_i cA9 _ _) (by decide) (by decide) (by decide) (Nat.le_of_ble_eq_true rfl) (Nat.le_of_ble_eq_true rfl) dX7_init_15 (fun q15 cA H hK hP hD hS => ?_)
  have hcA9 := (oz_cAI hK).symm
  subst hcA9
  have hK := hK.sub (tys' := [(cI, .int), (cZ, .boolean)]) [0, 1] rfl
  have hP : va_P (dC, dI) vwCl [(q_this, .inr (7, [.ref q7, .null, .int 0, .int 0])), (q7, .inl (cI, 6, .inl (fun _ => 0))), (q15, .inl (cI, 8, .inl (fun _ => 0)))] H := hP
  have hD : va_D A [(q_this, .inr (7, [.ref q7, .null, .int 0, .int 0])), (q7, .inl (cI, 6, .inl (fun _ => 0))), (q15, .inl (cI, 8, .inl (fun _ => 0)))] := hD
  refine W.widen (k := 2) (n := 14) (by omega) (by omega) ?_
  refine va_putF (D := (dC, dI)) (ci := 7) (v := .ref q15) (ty := .array .int) (C := RX7) (T := TX7) (N := 4) hx hb hts hiX7 tyX7 tyX7_ok nmX7 hown hK hP hD hS 0 rfl rfl 1 (by decide) hk15 (fun _ h9 => h9) rfl hin9 rfl (by decide +kernel) rfl rfl (Nat.le_of_ble_eq_true rfl) dX7_init_17 (fun H locs hP hD hS => ?_)
  have hP : va_P (dC, dI) vwCl [(q_this, .inr (7, [.ref q7, .ref q15, .int 0, .int 0])), (q7, .inl (cI, 6, .inl (fun _ => 0))), (q15, .inl (cI, 8, .inl (fun _ => 0)))] H := hP
  have hD : va_D A [(q_this, .inr (7, [.ref q7, .ref q15, .int 0, .int 0])), (q7, .inl (cI, 6, .inl (fun _ => 0))), (q15, .inl (cI, 8, .inl (fun _ => 0)))] := hD
  refine lv_aload_n hx hb dX7_init_20 rfl (lv_at hl 0 rfl) ?_
  refine lv_iconst (v := 0) hx hb dX7_init_21 (by decide) ?_
  refine va_put (D := (dC, dI)) (ci := 7) (v := .int 0) (ty := .int) (C := RX7) (T := TX7) (N := 4) hx hb hts hiX7 tyX7 tyX7_ok nmX7 hown hK hP hD hS 0 rfl rfl 2 (by decide) hk18 (fun _ h9 => h9) rfl (by decide +kernel) rfl rfl (Nat.le_of_ble_eq_true rfl) dX7_init_22 (fun H locs hP hD hS => ?_)
  have hP : va_P (dC, dI) vwCl [(q_this, .inr (7, [.ref q7, .ref q15, .int 0, .int 0])), (q7, .inl (cI, 6, .inl (fun _ => 0))), (q15, .inl (cI, 8, .inl (fun _ => 0)))] H := hP
  have hD : va_D A [(q_this, .inr (7, [.ref q7, .ref q15, .int 0, .int 0])), (q7, .inl (cI, 6, .inl (fun _ => 0))), (q15, .inl (cI, 8, .inl (fun _ => 0)))] := hD
  refine lv_aload_n hx hb dX7_init_25 rfl (lv_at hl 0 rfl) ?_
  refine lv_iconst (v := 0) hx hb dX7_init_26 (by decide) ?_
  refine va_put (D := (dC, dI)) (ci := 7) (v := .int 0) (ty := .int) (C := RX7) (T := TX7) (N := 4) hx hb hts hiX7 tyX7 tyX7_ok nmX7 hown hK hP hD hS 0 rfl rfl 3 (by decide) hk22 (fun _ h9 => h9) rfl (by decide +kernel) rfl rfl (Nat.le_of_ble_eq_true rfl) dX7_init_27 (fun H locs hP hD hS => ?_)
  have hP : va_P (dC, dI) vwCl [(q_this, .inr (7, [.ref q7, .ref q15, .int 0, .int 0])), (q7, .inl (cI, 6, .inl (fun _ => 0))), (q15, .inl (cI, 8, .inl (fun _ => 0)))] H := hP
  have hD : va_D A [(q_this, .inr (7, [.ref q7, .ref q15, .int 0, .int 0])), (q7, .inl (cI, 6, .inl (fun _ => 0))), (q15, .inl (cI, 8, .inl (fun _ => 0)))] := hD
  have hP9 := hP.sub (ws' := [(q_this, .inr (7, [.ref q7, .ref q15, .int 0, .int 0])), (q7, .inl (cI, 6, .inl (fun _ => 0))), (q15, .inl (cI, 8, .inl (fun _ => 0)))]) [0, 1, 2] rfl
  have hD9 := hD.sub (ws' := [(q_this, .inr (7, [.ref q7, .ref q15, .int 0, .int 0])), (q7, .inl (cI, 6, .inl (fun _ => 0))), (q15, .inl (cI, 8, .inl (fun _ => 0)))]) [0, 1, 2] (by decide) rfl
  exact W.vret hx hb hr (fun t ht hW => ⟨⟨(q7, q15), rfl, trivial, by rw [ht]; exact hP9, va_K.moved hW.alike hK, hD9⟩, hS.F ht⟩) hS.2.2 dX7_init_30
