def rmX9_init_30 : Room := { frames := 1, cells := 1, slots := 570, locals := 26 }
set_option maxHeartbeats 4000000 in
set_option maxRecDepth 100000 in
theorem tX9_init_30 (l : Launch) (dC : Nat → ClassId) (dI : Nat → Nat → Nat) (cI cZ : ClassId) (q_this sz : Nat) : Met l yX9_init wsX9_init rmX9_init_30 (va_Pc [.ref q_this, .int 30] (fun U => U.heap.size = sz ∧ va_P (dC, dI) vwCl [(q_this, .inr (9, [.int 0, .null]))] U.heap ∧ va_K (dC, dI) vwCl [(cI, .int), (cZ, .boolean)] U ∧ va_D (fun _ => True) [(q_this, .inr (9, [.int 0, .null]))])) (va_Qv (fun _ : Nat => True) (fun u t => va_P (dC, dI) vwCl [(q_this, .inr (9, [.int 30, .ref u])), (u, .inl (cI, 570, .inl (fun _ => 0)))] t.heap ∧ va_K (dC, dI) vwCl [(cI, .int), (cZ, .boolean)] t ∧ va_D (va_A [(q_this, .inr (9, [.int 0, .null]))] sz) [(q_this, .inr (9, [.int 30, .ref u])), (u, .inl (cI, 570, .inl (fun _ => 0)))]) (va_A [(q_this, .inr (9, [.int 0, .null]))] sz)) 1 570 (va_A [(q_this, .inr (9, [.int 0, .null]))] sz) := by
  refine Met.ofW (cc := cX9_init) (maxL := 2) (ret := none) (by decide) rfl ?_
  intro p e s m args below meth c s₁ B hml hv
  obtain ⟨rfl, hsz, hP, hK, hD0⟩ := hv
  have hx := B.exec
  have hb := B.bytes
  have hr := B.returns
  have hts := atoms_spec (ws := wsX9_init) B.pre
  have hown : s.vm.findClass RX9 = some m.cls := findClass_of_methodNamed B.named
  have hlocks := B.notSynchronized
  have hin9 : meth.name = "<init>" := (name_of_methodNamed B.named B.method).1
  subst hsz
  have hD := hD0.self (sz := s.heap.size)
  generalize hAe : va_A [(q_this, .inr (9, [.int 0, .null]))] s.heap.size = A at hD ⊢
  have hA : ∀ q : Nat, s.heap.size ≤ q → A q := fun q h => by rw [← hAe]; exact Or.inr h
  have hS : va_S A s.heap s.heap [] := va_S.rf
  have hl := lv_entry ([.ref q_this, .int 30]) (n := 2) (Nat.le_of_ble_eq_true rfl)
  rw [lg_entry_eq]
  generalize (lg_sl ([.ref q_this, .int 30]) ++ List.replicate (2 - (lg_sl ([.ref q_this, .int 30])).length) Slot.unset).toArray = ls at hl ⊢
  have hl : lv_has ls 2 [(0, .ref q_this), (1, .int 30)] := hl
  have hk3 := hts (.methodLink RX9 3 objectInit) (by decide +kernel)
  have hoi := hts (.instanceMethod objectInit) (by decide +kernel)
  have hoc := hts (.code objectInit ⟨#[0xb1]⟩ 1 none) (List.mem_of_getElem? (i := 3) rfl)
  have hk9 := hts (.methodLink RX9 9 Lib.Math.max.name) (by decide +kernel)
  have hst_max := hts (.static Lib.Math.max.name) (by decide +kernel)
  have hiniM := hts (.initialized "java/lang/Math") (by decide +kernel)
  have hcd_max := hts (.code Lib.Math.max.name Lib.Math.max.code 2 (some .int)) (by decide +kernel)
  have hk15 := hts (.fieldLink RX9 15 "LentDrains$Shelf" "places" "I") (by decide +kernel)
  have hiX9 : ∀ w ∈ wsX90, w ∈ wsX9_init := by decide +kernel
  have har_int := hts (.arrayClass .int) (by decide +kernel)
  have hk23 := hts (.fieldLink RX9 23 "LentDrains$Shelf" "cells" "[I") (by decide +kernel)
  refine lv_aload_n hx hb dX9_init_0 rfl (lv_at hl 0 rfl) ?_
  refine W.objInit hx hb hown hk3 hoi hoc rfl (by rw [hml]; exact hl.1) rfl dX9_init_1 (Nat.le_of_ble_eq_true rfl) (Nat.le_of_ble_eq_true rfl) ?_
  refine W.eq (g2 := F0 m 4 ls []) rfl ?_
  refine lv_aload_n hx hb dX9_init_4 rfl (lv_at hl 0 rfl) ?_
  refine lv_iconst (v := 0) hx hb dX9_init_5 (by decide) ?_
  refine lv_iload_n hx hb dX9_init_6 rfl (lv_at hl 1 rfl) ?_
  refine va_mmax hx hb (hml.trans hl.1.symm) hown hk9 hst_max hiniM hcd_max (Nat.le_of_ble_eq_true rfl) (Nat.le_of_ble_eq_true rfl) (Nat.zero_le _) (Nat.zero_le _) dX9_init_7 ?_
  refine lv_topi (fun z9 e9 => ?_)
  have e9 : z9 = 30 := e9.trans (by decide)
  subst e9
  refine va_putF (D := (dC, dI)) (ci := 9) (v := .int 30) (ty := .int) (C := RX9) (T := TX9) (N := 2) hx hb hts hiX9 tyX9 tyX9_ok nmX9 hown hK hP hD hS 0 rfl rfl 0 (by decide) hk15 (fun _ h9 => h9) rfl hin9 rfl (by decide +kernel) rfl rfl (Nat.le_of_ble_eq_true rfl) dX9_init_10 (fun H locs hP hD hS => ?_)
  have hP : va_P (dC, dI) vwCl [(q_this, .inr (9, [.int 30, .null]))] H := hP
  have hD : va_D A [(q_this, .inr (9, [.int 30, .null]))] := hD
  refine lv_aload_n hx hb dX9_init_13 rfl (lv_at hl 0 rfl) ?_
  refine lv_aload_n hx hb dX9_init_14 rfl (lv_at hl 0 rfl) ?_
  refine va_get (D := (dC, dI)) (ci := 9) (v := .int 30) (C := RX9) (T := TX9) (N := 2) hx hb hts hiX9 hown hK hP 0 rfl rfl 0 (by decide) hk15 (fun _ h9 => h9) rfl dX9_init_15 ?_
  refine lv_bipush (v := 19) hx hb dX9_init_18 (by decide) ?_
  refine lv_imul hx hb dX9_init_20 ?_
  refine lv_topi (fun z9 e9 => ?_)
  have e9 : z9 = 570 := e9.trans (by decide)
  subst e9
  refine va_newa (atype := .int) (a0 := (570, .inl (fun _ => 0))) (N' := 570) (ty := .int) hx hb har_int rfl hK hP hD hS hA (fun cA9 => vp_cell_i cA9 _ _) (by decide) (by decide) (by decide) (Nat.le_of_ble_eq_true rfl) (Nat.le_of_ble_eq_true rfl) dX9_init_21 (fun q21 cA H hK hP hD hS => ?_)
  have hcA9 := (oz_cAI hK).symm
  subst hcA9
  have hK := hK.sub (tys' := [(cI, .int), (cZ, .boolean)]) [0, 1] rfl
  have hP : va_P (dC, dI) vwCl [(q_this, .inr (9, [.int 30, .null])), (q21, .inl (cI, 570, .inl (fun _ => 0)))] H := hP
  have hD : va_D A [(q_this, .inr (9, [.int 30, .null])), (q21, .inl (cI, 570, .inl (fun _ => 0)))] := hD
  refine W.widen (k := 1) (n := 570) (by omega) (by omega) ?_
  refine va_putF (D := (dC, dI)) (ci := 9) (v := .ref q21) (ty := .array .int) (C := RX9) (T := TX9) (N := 2) hx hb hts hiX9 tyX9 tyX9_ok nmX9 hown hK hP hD hS 0 rfl rfl 1 (by decide) hk23 (fun _ h9 => h9) rfl hin9 rfl (by decide +kernel) rfl rfl (Nat.le_of_ble_eq_true rfl) dX9_init_23 (fun H locs hP hD hS => ?_)
  have hP : va_P (dC, dI) vwCl [(q_this, .inr (9, [.int 30, .ref q21])), (q21, .inl (cI, 570, .inl (fun _ => 0)))] H := hP
  have hD : va_D A [(q_this, .inr (9, [.int 30, .ref q21])), (q21, .inl (cI, 570, .inl (fun _ => 0)))] := hD
  have hP9 := hP.sub (ws' := [(q_this, .inr (9, [.int 30, .ref q21])), (q21, .inl (cI, 570, .inl (fun _ => 0)))]) [0, 1] rfl
  have hD9 := hD.sub (ws' := [(q_this, .inr (9, [.int 30, .ref q21])), (q21, .inl (cI, 570, .inl (fun _ => 0)))]) [0, 1] (by decide) rfl
  exact W.vret hx hb hr (fun t ht hW => ⟨⟨q21, rfl, trivial, by rw [ht]; exact hP9, va_K.moved hW.alike hK, hD9⟩, hS.F ht⟩) hS.2.2 dX9_init_26
def rmX9_init_2 : Room := { frames := 1, cells := 1, slots := 38, locals := 26 }
set_option maxHeartbeats 4000000 in
set_option maxRecDepth 100000 in
theorem tX9_init_2 (l : Launch) (dC : Nat → ClassId) (dI : Nat → Nat → Nat) (cI cZ : ClassId) (q_this sz : Nat) : Met l yX9_init wsX9_init rmX9_init_2 (va_Pc [.ref q_this, .int 2] (fun U => U.heap.size = sz ∧ va_P (dC, dI) vwCl [(q_this, .inr (9, [.int 0, .null]))] U.heap ∧ va_K (dC, dI) vwCl [(cI, .int), (cZ, .boolean)] U ∧ va_D (fun _ => True) [(q_this, .inr (9, [.int 0, .null]))])) (va_Qv (fun _ : Nat => True) (fun u t => va_P (dC, dI) vwCl [(q_this, .inr (9, [.int 2, .ref u])), (u, .inl (cI, 38, .inl (fun _ => 0)))] t.heap ∧ va_K (dC, dI) vwCl [(cI, .int), (cZ, .boolean)] t ∧ va_D (va_A [(q_this, .inr (9, [.int 0, .null]))] sz) [(q_this, .inr (9, [.int 2, .ref u])), (u, .inl (cI, 38, .inl (fun _ => 0)))]) (va_A [(q_this, .inr (9, [.int 0, .null]))] sz)) 1 38 (va_A [(q_this, .inr (9, [.int 0, .null]))] sz) := by
  refine Met.ofW (cc := cX9_init) (maxL := 2) (ret := none) (by decide) rfl ?_
  intro p e s m args below meth c s₁ B hml hv
  obtain ⟨rfl, hsz, hP, hK, hD0⟩ := hv
  have hx := B.exec
  have hb := B.bytes
  have hr := B.returns
  have hts := atoms_spec (ws := wsX9_init) B.pre
  have hown : s.vm.findClass RX9 = some m.cls := findClass_of_methodNamed B.named
  have hlocks := B.notSynchronized
  have hin9 : meth.name = "<init>" := (name_of_methodNamed B.named B.method).1
  subst hsz
  have hD := hD0.self (sz := s.heap.size)
  generalize hAe : va_A [(q_this, .inr (9, [.int 0, .null]))] s.heap.size = A at hD ⊢
  have hA : ∀ q : Nat, s.heap.size ≤ q → A q := fun q h => by rw [← hAe]; exact Or.inr h
  have hS : va_S A s.heap s.heap [] := va_S.rf
  have hl := lv_entry ([.ref q_this, .int 2]) (n := 2) (Nat.le_of_ble_eq_true rfl)
  rw [lg_entry_eq]
  generalize (lg_sl ([.ref q_this, .int 2]) ++ List.replicate (2 - (lg_sl ([.ref q_this, .int 2])).length) Slot.unset).toArray = ls at hl ⊢
  have hl : lv_has ls 2 [(0, .ref q_this), (1, .int 2)] := hl
  have hk3 := hts (.methodLink RX9 3 objectInit) (by decide +kernel)
  have hoi := hts (.instanceMethod objectInit) (by decide +kernel)
  have hoc := hts (.code objectInit ⟨#[0xb1]⟩ 1 none) (List.mem_of_getElem? (i := 3) rfl)
  have hk9 := hts (.methodLink RX9 9 Lib.Math.max.name) (by decide +kernel)
  have hst_max := hts (.static Lib.Math.max.name) (by decide +kernel)
  have hiniM := hts (.initialized "java/lang/Math") (by decide +kernel)
  have hcd_max := hts (.code Lib.Math.max.name Lib.Math.max.code 2 (some .int)) (by decide +kernel)
  have hk15 := hts (.fieldLink RX9 15 "LentDrains$Shelf" "places" "I") (by decide +kernel)
  have hiX9 : ∀ w ∈ wsX90, w ∈ wsX9_init := by decide +kernel
  have har_int := hts (.arrayClass .int) (by decide +kernel)
  have hk23 := hts (.fieldLink RX9 23 "LentDrains$Shelf" "cells" "[I") (by decide +kernel)
  refine lv_aload_n hx hb dX9_init_0 rfl (lv_at hl 0 rfl) ?_
  refine W.objInit hx hb hown hk3 hoi hoc rfl (by rw [hml]; exact hl.1) rfl dX9_init_1 (Nat.le_of_ble_eq_true rfl) (Nat.le_of_ble_eq_true rfl) ?_
  refine W.eq (g2 := F0 m 4 ls []) rfl ?_
  refine lv_aload_n hx hb dX9_init_4 rfl (lv_at hl 0 rfl) ?_
  refine lv_iconst (v := 0) hx hb dX9_init_5 (by decide) ?_
  refine lv_iload_n hx hb dX9_init_6 rfl (lv_at hl 1 rfl) ?_
  refine va_mmax hx hb (hml.trans hl.1.symm) hown hk9 hst_max hiniM hcd_max (Nat.le_of_ble_eq_true rfl) (Nat.le_of_ble_eq_true rfl) (Nat.zero_le _) (Nat.zero_le _) dX9_init_7 ?_
  refine lv_topi (fun z9 e9 => ?_)
  have e9 : z9 = 2 := e9.trans (by decide)
  subst e9
  refine va_putF (D := (dC, dI)) (ci := 9) (v := .int 2) (ty := .int) (C := RX9) (T := TX9) (N := 2) hx hb hts hiX9 tyX9 tyX9_ok nmX9 hown hK hP hD hS 0 rfl rfl 0 (by decide) hk15 (fun _ h9 => h9) rfl hin9 rfl (by decide +kernel) rfl rfl (Nat.le_of_ble_eq_true rfl) dX9_init_10 (fun H locs hP hD hS => ?_)
  have hP : va_P (dC, dI) vwCl [(q_this, .inr (9, [.int 2, .null]))] H := hP
  have hD : va_D A [(q_this, .inr (9, [.int 2, .null]))] := hD
  refine lv_aload_n hx hb dX9_init_13 rfl (lv_at hl 0 rfl) ?_
  refine lv_aload_n hx hb dX9_init_14 rfl (lv_at hl 0 rfl) ?_
  refine va_get (D := (dC, dI)) (ci := 9) (v := .int 2) (C := RX9) (T := TX9) (N := 2) hx hb hts hiX9 hown hK hP 0 rfl rfl 0 (by decide) hk15 (fun _ h9 => h9) rfl dX9_init_15 ?_
  refine lv_bipush (v := 19) hx hb dX9_init_18 (by decide) ?_
  refine lv_imul hx hb dX9_init_20 ?_
  refine lv_topi (fun z9 e9 => ?_)
  have e9 : z9 = 38 := e9.trans (by decide)
  subst e9
  refine va_newa (atype := .int) (a0 := (38, .inl (fun _ => 0))) (N' := 38) (ty := .int) hx hb har_int rfl hK hP hD hS hA (fun cA9 => vp_cell_i cA9 _ _) (by decide) (by decide) (by decide) (Nat.le_of_ble_eq_true rfl) (Nat.le_of_ble_eq_true rfl) dX9_init_21 (fun q21 cA H hK hP hD hS => ?_)
  have hcA9 := (oz_cAI hK).symm
  subst hcA9
  have hK := hK.sub (tys' := [(cI, .int), (cZ, .boolean)]) [0, 1] rfl
  have hP : va_P (dC, dI) vwCl [(q_this, .inr (9, [.int 2, .null])), (q21, .inl (cI, 38, .inl (fun _ => 0)))] H := hP
  have hD : va_D A [(q_this, .inr (9, [.int 2, .null])), (q21, .inl (cI, 38, .inl (fun _ => 0)))] := hD
  refine W.widen (k := 1) (n := 38) (by omega) (by omega) ?_
  refine va_putF (D := (dC, dI)) (ci := 9) (v := .ref q21) (ty := .array .int) (C := RX9) (T := TX9) (N := 2) hx hb hts hiX9 tyX9 tyX9_ok nmX9 hown hK hP hD hS 0 rfl rfl 1 (by decide) hk23 (fun _ h9 => h9) rfl hin9 rfl (by decide +kernel) rfl rfl (Nat.le_of_ble_eq_true rfl) dX9_init_23 (fun H locs hP hD hS => ?_)
  have hP : va_P (dC, dI) vwCl [(q_this, .inr (9, [.int 2, .ref q21])), (q21, .inl (cI, 38, .inl (fun _ => 0)))] H := hP
  have hD : va_D A [(q_this, .inr (9, [.int 2, .ref q21])), (q21, .inl (cI, 38, .inl (fun _ => 0)))] := hD
  have hP9 := hP.sub (ws' := [(q_this, .inr (9, [.int 2, .ref q21])), (q21, .inl (cI, 38, .inl (fun _ => 0)))]) [0, 1] rfl
  have hD9 := hD.sub (ws' := [(q_this, .inr (9, [.int 2, .ref q21])), (q21, .inl (cI, 38, .inl (fun _ => 0)))]) [0, 1] (by decide) rfl
  exact W.vret hx hb hr (fun t ht hW => ⟨⟨q21, rfl, trivial, by rw [ht]; exact hP9, va_K.moved hW.alike hK, hD9⟩, hS.F ht⟩) hS.2.2 dX9_init_26
def rmX2_init : Room := { frames := 2, cells := 2, slots := 572, locals := 47 }
set_option maxHeartbeats 4000000 in
set_option maxRecDepth 100000 in
theorem tX2_init (l : Launch) (dC : Nat → ClassId) (dI : Nat → Nat → Nat) (cI cZ : ClassId) (q_this sz : Nat) : Met l yX2_init wsX2_init rmX2_init (va_Pc [.ref q_this] (fun U => U.heap.size = sz ∧ va_P (dC, dI) vwCl [(q_this, .inr (2, [.null, .int 0, .int 0]))] U.heap ∧ va_K (dC, dI) vwCl [(cI, .int), (cZ, .boolean)] U ∧ va_D (fun _ => True) [(q_this, .inr (2, [.null, .int 0, .int 0]))])) (va_Qv (fun _ : Nat × Nat => True) (fun u t => va_P (dC, dI) vwCl [(q_this, .inr (2, [.ref u.1, .int 0, .int 0])), (u.1, .inr (9, [.int 30, .ref u.2])), (u.2, .inl (cI, 570, .inl (fun _ => 0)))] t.heap ∧ va_K (dC, dI) vwCl [(cI, .int), (cZ, .boolean)] t ∧ va_D (va_A [(q_this, .inr (2, [.null, .int 0, .int 0]))] sz) [(q_this, .inr (2, [.ref u.1, .int 0, .int 0])), (u.1, .inr (9, [.int 30, .ref u.2])), (u.2, .inl (cI, 570, .inl (fun _ => 0)))]) (va_A [(q_this, .inr (2, [.null, .int 0, .int 0]))] sz)) 2 572 (va_A [(q_this, .inr (2, [.null, .int 0, .int 0]))] sz) := by
  refine Met.ofW (cc := cX2_init) (maxL := 1) (ret := none) (by decide) rfl ?_
  intro p e s m args below meth c s₁ B hml hv
  obtain ⟨rfl, hsz, hP, hK, hD0⟩ := hv
  have hx := B.exec
  have hb := B.bytes
  have hr := B.returns
  have hts := atoms_spec (ws := wsX2_init) B.pre
  have hown : s.vm.findClass RX2 = some m.cls := findClass_of_methodNamed B.named
  have hlocks := B.notSynchronized
  have hin9 : meth.name = "<init>" := (name_of_methodNamed B.named B.method).1
  subst hsz
  have hD := hD0.self (sz := s.heap.size)
  generalize hAe : va_A [(q_this, .inr (2, [.null, .int 0, .int 0]))] s.heap.size = A at hD ⊢
  have hA : ∀ q : Nat, s.heap.size ≤ q → A q := fun q h => by rw [← hAe]; exact Or.inr h
  have hS : va_S A s.heap s.heap [] := va_S.rf
  have hl := lv_entry ([.ref q_this]) (n := 1) (Nat.le_of_ble_eq_true rfl)
  rw [lg_entry_eq]
  generalize (lg_sl ([.ref q_this]) ++ List.replicate (1 - (lg_sl ([.ref q_this])).length) Slot.unset).toArray = ls at hl ⊢
  have hl : lv_has ls 1 [(0, .ref q_this)] := hl
  have hk1 := hts (.methodLink RX2 1 objectInit) (by decide +kernel)
  have hoi := hts (.instanceMethod objectInit) (by decide +kernel)
  have hoc := hts (.code objectInit ⟨#[0xb1]⟩ 1 none) (List.mem_of_getElem? (i := 3) rfl)
  have hcl7 := hts (.classLink RX2 7 RX9) (by decide +kernel)
  have hinX9 := hts (.instantiable RX9 2) (by decide +kernel)
  have hiniX9 := hts (.initialized RX9) (by decide +kernel)
  have hiX9 : ∀ w ∈ wsX90, w ∈ wsX2_init := by decide +kernel
  have himX9_init := hts (.instanceMethod yX9_init) (by decide +kernel)
  have hk11 := hts (.methodLink RX2 11 yX9_init) (by decide +kernel)
  have hk14 := hts (.fieldLink RX2 14 "LentDrains$History" "shelf" "LLentDrains$Shelf;") (by decide +kernel)
  have hiX2 : ∀ w ∈ wsX20, w ∈ wsX2_init := by decide +kernel
  have hk18 := hts (.fieldLink RX2 18 "LentDrains$History" "end" "I") (by decide +kernel)
  have hk22 := hts (.fieldLink RX2 22 "LentDrains$History" "count" "I") (by decide +kernel)
  refine lv_aload_n hx hb dX2_init_0 rfl (lv_at hl 0 rfl) ?_
  refine W.objInit hx hb hown hk1 hoi hoc rfl (by rw [hml]; exact hl.1) rfl dX2_init_1 (Nat.le_of_ble_eq_true rfl) (Nat.le_of_ble_eq_true rfl) ?_
  refine W.eq (g2 := F0 m 4 ls []) rfl ?_
  refine lv_aload_n hx hb dX2_init_4 rfl (lv_at hl 0 rfl) ?_
  refine va_new (ci := 9) (fs := [.int 0, .null]) (C := RX9) (T := TX9) (N := 2) hx hb hts hiX9 tyX9 tyX9_ok hown hcl7 hinX9 hiniX9 hK hP hD hS hA rfl (fun j hj => by rcases (show j = 0 ∨ j = 1 by omega) with rfl | rfl <;> rfl) (Nat.le_of_ble_eq_true rfl) (Nat.le_of_ble_eq_true rfl) dX2_init_5 (fun q5 H hP hD hS => ?_)
  have hP : va_P (dC, dI) vwCl [(q_this, .inr (2, [.null, .int 0, .int 0])), (q5, .inr (9, [.int 0, .null]))] H := hP
  have hD : va_D A [(q_this, .inr (2, [.null, .int 0, .int 0])), (q5, .inr (9, [.int 0, .null]))] := hD
  refine W.widen (k := 1) (n := 2) (by omega) (by omega) ?_
  refine lv_dup hx hb dX2_init_8 rfl ?_
  refine lv_bipush (v := 30) hx hb dX2_init_9 (by decide) ?_
  have hPc := hP.sub (ws' := [(q5, .inr (9, [.int 0, .null]))]) [1] rfl
  have hDc := hD.sub (ws' := [(q5, .inr (9, [.int 0, .null]))]) [1] (by decide) rfl
  have hFc := va_free (wc := [(q5, .inr (9, [.int 0, .null]))]) hD hS hA [1] rfl
  refine va_callv (va_runI (As := [.int 30]) (rest := [.ref q5, .ref q_this]) ⟨hx, hb, hml, hown, hts⟩ (tX9_init_30 l dC dI cI cZ q5 H.size) (cwI 1 hts gX2_init_X9_init rfl rfl rfl hiniX9 hk11 himX9_init rfl (by decide +kernel) ⟨Nat.le_of_ble_eq_true rfl, Nat.le_of_ble_eq_true rfl⟩) ⟨fun a U g mk q => by obtain ⟨q0, q1, qP, qK, qD⟩ := q; exact ⟨q0, q1, qP, va_K.moved (u := U) (U := U.calling g mk a) (Vm.Alike.refl U.vm) qK, qD⟩, fun U hU hW => ⟨rfl, by rw [hU], by rw [hU]; exact hPc, va_K.moved hW.alike hK, hDc.weaken (fun _ _ _ _ => trivial)⟩⟩ rfl rfl hl.1 rfl (lv_room (Nat.le_of_ble_eq_true rfl)) dX2_init_11 ⟨Nat.le_of_ble_eq_true rfl, Nat.le_of_ble_eq_true rfl⟩) hS (fun q _ h => hFc q h) hFc (fun u11 t9 H1 locs ht9 hvm9 hw9 hB9 hz9 hkk9 hS => ?_)
  obtain ⟨hP9, hK9, hD9⟩ := hB9
  rw [ht9] at hP9
  obtain ⟨hP, hD⟩ := va_join (wr := [(q_this, .inr (2, [.null, .int 0, .int 0]))]) (w1 := [(q5, .inr (9, [.int 30, .ref u11])), (u11, .inl (cI, 570, .inl (fun _ => 0)))]) hP hD [1] [0] rfl rfl (by decide) (by decide) hkk9 hFc hP9 hD9
  generalize H1 = H at hP hS ⊢
  have hP : va_P (dC, dI) vwCl [(q_this, .inr (2, [.null, .int 0, .int 0])), (q5, .inr (9, [.int 30, .ref u11])), (u11, .inl (cI, 570, .inl (fun _ => 0)))] H := hP
  have hD : va_D A [(q_this, .inr (2, [.null, .int 0, .int 0])), (q5, .inr (9, [.int 30, .ref u11])), (u11, .inl (cI, 570, .inl (fun _ => 0)))] := hD
  refine W.widen (k := 2) (n := 572) (by omega) (by omega) ?_
  refine va_putF (D := (dC, dI)) (ci := 2) (v := .ref q5) (ty := .object "LentDrains$Shelf") (C := RX2) (T := TX2) (N := 3) hx hb hts hiX2 tyX2 tyX2_ok nmX2 hown hK hP hD hS 0 rfl rfl 0 (by decide) hk14 (fun _ h9 => h9) rfl hin9 rfl (by decide +kernel) rfl rfl (Nat.le_of_ble_eq_true rfl) dX2_init_14 (fun H locs hP hD hS => ?_)
  have hP : va_P (dC, dI) vwCl [(q_this, .inr (2, [.ref q5, .int 0, .int 0])), (q5, .inr (9, [.int 30, .ref u11])), (u11, .inl (cI, 570, .inl (fun _ => 0)))] H := hP
  have hD : va_D A [(q_this, .inr (2, [.ref q5, .int 0, .int 0])), (q5, .inr (9, [.int 30, .ref u11])), (u11, .inl (cI, 570, .inl (fun _ => 0)))] := hD
  refine lv_aload_n hx hb dX2_init_17 rfl (lv_at hl 0 rfl) ?_
  refine lv_iconst (v := 0) hx hb dX2_init_18 (by decide) ?_
  refine va_put (D := (dC, dI)) (ci := 2) (v := .int 0) (ty := .int) (C := RX2) (T := TX2) (N := 3) hx hb hts hiX2 tyX2 tyX2_ok nmX2 hown hK hP hD hS 0 rfl rfl 1 (by decide) hk18 (fun _ h9 => h9) rfl (by decide +kernel) rfl rfl (Nat.le_of_ble_eq_true rfl) dX2_init_19 (fun H locs hP hD hS => ?_)
  have hP : va_P (dC, dI) vwCl [(q_this, .inr (2, [.ref q5, .int 0, .int 0])), (q5, .inr (9, [.int 30, .ref u11])), (u11, .inl (cI, 570, .inl (fun _ => 0)))] H := hP
  have hD : va_D A [(q_this, .inr (2, [.ref q5, .int 0, .int 0])), (q5, .inr (9, [.int 30, .ref u11])), (u11, .inl (cI, 570, .inl (fun _ => 0)))] := hD
  refine lv_aload_n hx hb dX2_init_22 rfl (lv_at hl 0 rfl) ?_
  refine lv_iconst (v := 0) hx hb dX2_init_23 (by decide) ?_
  refine va_put (D := (dC, dI)) (ci := 2) (v := .int 0) (ty := .int) (C := RX2) (T := TX2) (N := 3) hx hb hts hiX2 tyX2 tyX2_ok nmX2 hown hK hP hD hS 0 rfl rfl 2 (by decide) hk22 (fun _ h9 => h9) rfl (by decide +kernel) rfl rfl (Nat.le_of_ble_eq_true rfl) dX2_init_24 (fun H locs hP hD hS => ?_)
  have hP : va_P (dC, dI) vwCl [(q_this, .inr (2, [.ref q5, .int 0, .int 0])), (q5, .inr (9, [.int 30, .ref u11])), (u11, .inl (cI, 570, .inl (fun _ => 0)))] H := hP
  have hD : va_D A [(q_this, .inr (2, [.ref q5, .int 0, .int 0])), (q5, .inr (9, [.int 30, .ref u11])), (u11, .inl (cI, 570, .inl (fun _ => 0)))] := hD
  have hP9 := hP.sub (ws' := [(q_this, .inr (2, [.ref q5, .int 0, .int 0])), (q5, .inr (9, [.int 30, .ref u11])), (u11, .inl (cI, 570, .inl (fun _ => 0)))]) [0, 1, 2] rfl
  have hD9 := hD.sub (ws' := [(q_this, .inr (2, [.ref q5, .int 0, .int 0])), (q5, .inr (9, [.int 30, .ref u11])), (u11, .inl (cI, 570, .inl (fun _ => 0)))]) [0, 1, 2] (by decide) rfl
  exact W.vret hx hb hr (fun t ht hW => ⟨⟨(q5, u11), rfl, trivial, by rw [ht]; exact hP9, va_K.moved hW.alike hK, hD9⟩, hS.F ht⟩) hS.2.2 dX2_init_27
def rmX3_init : Room := { frames := 2, cells := 3, slots := 42, locals := 47 }
set_option maxHeartbeats 4000000 in
set_option maxRecDepth 100000 in
theorem tX3_init (l : Launch) (dC : Nat → ClassId) (dI : Nat → Nat → Nat) (cI cZ : ClassId) (q_this sz : Nat) : Met l yX3_init wsX3_init rmX3_init (va_Pc [.ref q_this] (fun U => U.heap.size = sz ∧ va_P (dC, dI) vwCl [(q_this, .inr (3, [.null, .null, .int 0]))] U.heap ∧ va_K (dC, dI) vwCl [(cI, .int), (cZ, .boolean)] U ∧ va_D (fun _ => True) [(q_this, .inr (3, [.null, .null, .int 0]))])) (va_Qv (fun _ : Nat × Nat × Nat => True) (fun u t => va_P (dC, dI) vwCl [(q_this, .inr (3, [.ref u.1, .ref u.2.2, .int 0])), (u.1, .inr (9, [.int 2, .ref u.2.1])), (u.2.1, .inl (cI, 38, .inl (fun _ => 0))), (u.2.2, .inl (cI, 2, .inl (fun _ => 0)))] t.heap ∧ va_K (dC, dI) vwCl [(cI, .int), (cZ, .boolean)] t ∧ va_D (va_A [(q_this, .inr (3, [.null, .null, .int 0]))] sz) [(q_this, .inr (3, [.ref u.1, .ref u.2.2, .int 0])), (u.1, .inr (9, [.int 2, .ref u.2.1])), (u.2.1, .inl (cI, 38, .inl (fun _ => 0))), (u.2.2, .inl (cI, 2, .inl (fun _ => 0)))]) (va_A [(q_this, .inr (3, [.null, .null, .int 0]))] sz)) 3 42 (va_A [(q_this, .inr (3, [.null, .null, .int 0]))] sz) := by
  refine Met.ofW (cc := cX3_init) (maxL := 1) (ret := none) (by decide) rfl ?_
  intro p e s m args below meth c s₁ B hml hv
  obtain ⟨rfl, hsz, hP, hK, hD0⟩ := hv
  have hx := B.exec
  have hb := B.bytes
  have hr := B.returns
  have hts := atoms_spec (ws := wsX3_init) B.pre
  have hown : s.vm.findClass RX3 = some m.cls := findClass_of_methodNamed B.named
  have hlocks := B.notSynchronized
  have hin9 : meth.name = "<init>" := (name_of_methodNamed B.named B.method).1
  subst hsz
  have hD := hD0.self (sz := s.heap.size)
  generalize hAe : va_A [(q_this, .inr (3, [.null, .null, .int 0]))] s.heap.size = A at hD ⊢
  have hA : ∀ q : Nat, s.heap.size ≤ q → A q := fun q h => by rw [← hAe]; exact Or.inr h
  have hS : va_S A s.heap s.heap [] := va_S.rf
  have hl := lv_entry ([.ref q_this]) (n := 1) (Nat.le_of_ble_eq_true rfl)
  rw [lg_entry_eq]
  generalize (lg_sl ([.ref q_this]) ++ List.replicate (1 - (lg_sl ([.ref q_this])).length) Slot.unset).toArray = ls at hl ⊢
  have hl : lv_has ls 1 [(0, .ref q_this)] := hl
  have hk1 := hts (.methodLink RX3 1 objectInit) (by decide +kernel)
  have hoi := hts (.instanceMethod objectInit) (by decide +kernel)
  have hoc := hts (.code objectInit ⟨#[0xb1]⟩ 1 none) (List.mem_of_getElem? (i := 3) rfl)
  have hcl7 := hts (.classLink RX3 7 RX9) (by decide +kernel)
  have hinX9 := hts (.instantiable RX9 2) (by decide +kernel)
  have hiniX9 := hts (.initialized RX9) (by decide +kernel)
  have hiX9 : ∀ w ∈ wsX90, w ∈ wsX3_init := by decide +kernel
  have himX9_init := hts (.instanceMethod yX9_init) (by decide +kernel)
  have hk11 := hts (.methodLink RX3 11 yX9_init) (by decide +kernel)
  have hk14 := hts (.fieldLink RX3 14 "LentDrains$Images" "shelf" "LLentDrains$Shelf;") (by decide +kernel)
  have hiX3 : ∀ w ∈ wsX30, w ∈ wsX3_init := by decide +kernel
  have har_int := hts (.arrayClass .int) (by decide +kernel)
  have hk18 := hts (.fieldLink RX3 18 "LentDrains$Images" "seeds" "[I") (by decide +kernel)
  have hk22 := hts (.fieldLink RX3 22 "LentDrains$Images" "storedSet" "I") (by decide +kernel)
  refine lv_aload_n hx hb dX3_init_0 rfl (lv_at hl 0 rfl) ?_
  refine W.objInit hx hb hown hk1 hoi hoc rfl (by rw [hml]; exact hl.1) rfl dX3_init_1 (Nat.le_of_ble_eq_true rfl) (Nat.le_of_ble_eq_true rfl) ?_
  refine W.eq (g2 := F0 m 4 ls []) rfl ?_
  refine lv_aload_n hx hb dX3_init_4 rfl (lv_at hl 0 rfl) ?_
  refine va_new (ci := 9) (fs := [.int 0, .null]) (C := RX9) (T := TX9) (N := 2) hx hb hts hiX9 tyX9 tyX9_ok hown hcl7 hinX9 hiniX9 hK hP hD hS hA rfl (fun j hj => by rcases (show j = 0 ∨ j = 1 by omega) with rfl | rfl <;> rfl) (Nat.le_of_ble_eq_true rfl) (Nat.le_of_ble_eq_true rfl) dX3_init_5 (fun q5 H hP hD hS => ?_)
  have hP : va_P (dC, dI) vwCl [(q_this, .inr (3, [.null, .null, .int 0])), (q5, .inr (9, [.int 0, .null]))] H := hP
  have hD : va_D A [(q_this, .inr (3, [.null, .null, .int 0])), (q5, .inr (9, [.int 0, .null]))] := hD
  refine W.widen (k := 1) (n := 2) (by omega) (by omega) ?_
  refine lv_dup hx hb dX3_init_8 rfl ?_
  refine lv_iconst (v := 2) hx hb dX3_init_9 (by decide) ?_
  have hPc := hP.sub (ws' := [(q5, .inr (9, [.int 0, .null]))]) [1] rfl
  have hDc := hD.sub (ws' := [(q5, .inr (9, [.int 0, .null]))]) [1] (by decide) rfl
  have hFc := va_free (wc := [(q5, .inr (9, [.int 0, .null]))]) hD hS hA [1] rfl
  refine va_callv (va_runI (As := [.int 2]) (rest := [.ref q5, .ref q_this]) ⟨hx, hb, hml, hown, hts⟩ (tX9_init_2 l dC dI cI cZ q5 H.size) (cwI 1 hts gX3_init_X9_init rfl rfl rfl hiniX9 hk11 himX9_init rfl (by decide +kernel) ⟨Nat.le_of_ble_eq_true rfl, Nat.le_of_ble_eq_true rfl⟩) ⟨fun a U g mk q => by obtain ⟨q0, q1, qP, qK, qD⟩ := q; exact ⟨q0, q1, qP, va_K.moved (u := U) (U := U.calling g mk a) (Vm.Alike.refl U.vm) qK, qD⟩, fun U hU hW => ⟨rfl, by rw [hU], by rw [hU]; exact hPc, va_K.moved hW.alike hK, hDc.weaken (fun _ _ _ _ => trivial)⟩⟩ rfl rfl hl.1 rfl (lv_room (Nat.le_of_ble_eq_true rfl)) dX3_init_10 ⟨Nat.le_of_ble_eq_true rfl, Nat.le_of_ble_eq_true rfl⟩) hS (fun q _ h => hFc q h) hFc (fun u10 t9 H1 locs ht9 hvm9 hw9 hB9 hz9 hkk9 hS => ?_)
  obtain ⟨hP9, hK9, hD9⟩ := hB9
  rw [ht9] at hP9
  obtain ⟨hP, hD⟩ := va_join (wr := [(q_this, .inr (3, [.null, .null, .int 0]))]) (w1 := [(q5, .inr (9, [.int 2, .ref u10])), (u10, .inl (cI, 38, .inl (fun _ => 0)))]) hP hD [1] [0] rfl rfl (by decide) (by decide) hkk9 hFc hP9 hD9
  generalize H1 = H at hP hS ⊢
  have hP : va_P (dC, dI) vwCl [(q_this, .inr (3, [.null, .null, .int 0])), (q5, .inr (9, [.int 2, .ref u10])), (u10, .inl (cI, 38, .inl (fun _ => 0)))] H := hP
  have hD : va_D A [(q_this, .inr (3, [.null, .null, .int 0])), (q5, .inr (9, [.int 2, .ref u10])), (u10, .inl (cI, 38, .inl (fun _ => 0)))] := hD
  refine W.widen (k := 2) (n := 40) (by omega) (by omega) ?_
  refine va_putF (D := (dC, dI)) (ci := 3) (v := .ref q5) (ty := .object "LentDrains$Shelf") (C := RX3) (T := TX3) (N := 3) hx hb hts hiX3 tyX3 tyX3_ok nmX3 hown hK hP hD hS 0 rfl rfl 0 (by decide) hk14 (fun _ h9 => h9) rfl hin9 rfl (by decide +kernel) rfl rfl (Nat.le_of_ble_eq_true rfl) dX3_init_13 (fun H locs hP hD hS => ?_)
  have hP : va_P (dC, dI) vwCl [(q_this, .inr (3, [.ref q5, .null, .int 0])), (q5, .inr (9, [.int 2, .ref u10])), (u10, .inl (cI, 38, .inl (fun _ => 0)))] H := hP
  have hD : va_D A [(q_this, .inr (3, [.ref q5, .null, .int 0])), (q5, .inr (9, [.int 2, .ref u10])), (u10, .inl (cI, 38, .inl (fun _ => 0)))] := hD
  refine lv_aload_n hx hb dX3_init_16 rfl (lv_at hl 0 rfl) ?_
  refine lv_iconst (v := 2) hx hb dX3_init_17 (by decide) ?_
  refine va_newa (atype := .int) (a0 := (2, .inl (fun _ => 0))) (N' := 2) (ty := .int) hx hb har_int rfl hK hP hD hS hA (fun cA9 => vp_cell_i cA9 _ _) (by decide) (by decide) (by decide) (Nat.le_of_ble_eq_true rfl) (Nat.le_of_ble_eq_true rfl) dX3_init_18 (fun q18 cA H hK hP hD hS => ?_)
  have hcA9 := (oz_cAI hK).symm
  subst hcA9
  have hK := hK.sub (tys' := [(cI, .int), (cZ, .boolean)]) [0, 1] rfl
  have hP : va_P (dC, dI) vwCl [(q_this, .inr (3, [.ref q5, .null, .int 0])), (q5, .inr (9, [.int 2, .ref u10])), (u10, .inl (cI, 38, .inl (fun _ => 0))), (q18, .inl (cI, 2, .inl (fun _ => 0)))] H := hP
  have hD : va_D A [(q_this, .inr (3, [.ref q5, .null, .int 0])), (q5, .inr (9, [.int 2, .ref u10])), (u10, .inl (cI, 38, .inl (fun _ => 0))), (q18, .inl (cI, 2, .inl (fun _ => 0)))] := hD
  refine W.widen (k := 3) (n := 42) (by omega) (by omega) ?_
  refine va_putF (D := (dC, dI)) (ci := 3) (v := .ref q18) (ty := .array .int) (C := RX3) (T := TX3) (N := 3) hx hb hts hiX3 tyX3 tyX3_ok nmX3 hown hK hP hD hS 0 rfl rfl 1 (by decide) hk18 (fun _ h9 => h9) rfl hin9 rfl (by decide +kernel) rfl rfl (Nat.le_of_ble_eq_true rfl) dX3_init_20 (fun H locs hP hD hS => ?_)
  have hP : va_P (dC, dI) vwCl [(q_this, .inr (3, [.ref q5, .ref q18, .int 0])), (q5, .inr (9, [.int 2, .ref u10])), (u10, .inl (cI, 38, .inl (fun _ => 0))), (q18, .inl (cI, 2, .inl (fun _ => 0)))] H := hP
  have hD : va_D A [(q_this, .inr (3, [.ref q5, .ref q18, .int 0])), (q5, .inr (9, [.int 2, .ref u10])), (u10, .inl (cI, 38, .inl (fun _ => 0))), (q18, .inl (cI, 2, .inl (fun _ => 0)))] := hD
  refine lv_aload_n hx hb dX3_init_23 rfl (lv_at hl 0 rfl) ?_
  refine lv_iconst (v := 0) hx hb dX3_init_24 (by decide) ?_
  refine va_put (D := (dC, dI)) (ci := 3) (v := .int 0) (ty := .int) (C := RX3) (T := TX3) (N := 3) hx hb hts hiX3 tyX3 tyX3_ok nmX3 hown hK hP hD hS 0 rfl rfl 2 (by decide) hk22 (fun _ h9 => h9) rfl (by decide +kernel) rfl rfl (Nat.le_of_ble_eq_true rfl) dX3_init_25 (fun H locs hP hD hS => ?_)
  have hP : va_P (dC, dI) vwCl [(q_this, .inr (3, [.ref q5, .ref q18, .int 0])), (q5, .inr (9, [.int 2, .ref u10])), (u10, .inl (cI, 38, .inl (fun _ => 0))), (q18, .inl (cI, 2, .inl (fun _ => 0)))] H := hP
  have hD : va_D A [(q_this, .inr (3, [.ref q5, .ref q18, .int 0])), (q5, .inr (9, [.int 2, .ref u10])), (u10, .inl (cI, 38, .inl (fun _ => 0))), (q18, .inl (cI, 2, .inl (fun _ => 0)))] := hD
  have hP9 := hP.sub (ws' := [(q_this, .inr (3, [.ref q5, .ref q18, .int 0])), (q5, .inr (9, [.int 2, .ref u10])), (u10, .inl (cI, 38, .inl (fun _ => 0))), (q18, .inl (cI, 2, .inl (fun _ => 0)))]) [0, 1, 2, 3] rfl
  have hD9 := hD.sub (ws' := [(q_this, .inr (3, [.ref q5, .ref q18, .int 0])), (q5, .inr (9, [.int 2, .ref u10])), (u10, .inl (cI, 38, .inl (fun _ => 0))), (q18, .inl (cI, 2, .inl (fun _ => 0)))]) [0, 1, 2, 3] (by decide) rfl
  exact W.vret hx hb hr (fun t ht hW => ⟨⟨(q5, u10, q18), rfl, trivial, by rw [ht]; exact hP9, va_K.moved hW.alike hK, hD9⟩, hS.F ht⟩) hS.2.2 dX3_init_28
