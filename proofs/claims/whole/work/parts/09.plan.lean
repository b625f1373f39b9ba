def fX1_next (v_value : Int32) (a1 : Int32) : Option (Int32 × Int32) :=
  if 1 ≤ a1 then (if a1 = 0 then none else some ((((Int64.toInt32 ((((Int32.toInt64 v_value) * (1103515245 : Int64)) + (12345 : Int64)) - (((Int32.toInt64 v_value) * (1103515245 : Int64)) + (12345 : Int64)) / (2147483648 : Int64) * (2147483648 : Int64))) / 65536) - ((Int64.toInt32 ((((Int32.toInt64 v_value) * (1103515245 : Int64)) + (12345 : Int64)) - (((Int32.toInt64 v_value) * (1103515245 : Int64)) + (12345 : Int64)) / (2147483648 : Int64) * (2147483648 : Int64))) / 65536) / a1 * a1), (Int64.toInt32 ((((Int32.toInt64 v_value) * (1103515245 : Int64)) + (12345 : Int64)) - (((Int32.toInt64 v_value) * (1103515245 : Int64)) + (12345 : Int64)) / (2147483648 : Int64) * (2147483648 : Int64))))) else (some (0, (Int64.toInt32 ((((Int32.toInt64 v_value) * (1103515245 : Int64)) + (12345 : Int64)) - (((Int32.toInt64 v_value) * (1103515245 : Int64)) + (12345 : Int64)) / (2147483648 : Int64) * (2147483648 : Int64)))))
def rmX1_next : Room := { frames := 0, cells := 0, slots := 0, locals := 0 }
set_option maxHeartbeats 4000000 in
set_option maxRecDepth 100000 in
theorem tX1_next (l : Launch) (dC : Nat → ClassId) (dI : Nat → Nat → Nat) (cI cZ : ClassId) (q_this : Nat) (sz : Nat) (v_value : Int32) (a1 : Int32) (out : Int32 × Int32) (hrun : fX1_next v_value a1 = some out) : Met l yX1_next wsX1_next rmX1_next (va_Pc [.ref q_this, .int a1] (fun U => U.heap.size = sz ∧ va_P (dC, dI) vwCl [(q_this, .inr (1, [.int v_value]))] U.heap ∧ va_K (dC, dI) vwCl [(cI, .int), (cZ, .boolean)] U ∧ va_D (fun _ => True) [(q_this, .inr (1, [.int v_value]))])) (va_Qi (fun (r : Int32) (_ : Unit) => r = out.1) (fun _ t => va_P (dC, dI) vwCl [(q_this, .inr (1, [.int out.2]))] t.heap ∧ va_K (dC, dI) vwCl [(cI, .int), (cZ, .boolean)] t ∧ va_D (va_A [(q_this, .inr (1, [.int v_value]))] sz) [(q_this, .inr (1, [.int out.2]))]) (va_A [(q_this, .inr (1, [.int v_value]))] sz)) 0 0 (va_A [(q_this, .inr (1, [.int v_value]))] sz) := by
  refine Met.ofW (cc := cX1_next) (maxL := 2) (ret := (some .int)) (by decide) rfl ?_
  intro p e s m args below meth c s₁ B hml hv
  obtain ⟨rfl, hsz, hP, hK, hD0⟩ := hv
  have hx := B.exec
  have hb := B.bytes
  have hr := B.returns
  have hts := atoms_spec (ws := wsX1_next) B.pre
  have hown : s.vm.findClass RX1 = some m.cls := findClass_of_methodNamed B.named
  have hlocks := B.notSynchronized
  subst hsz
  have hD := hD0.self (sz := s.heap.size)
  generalize hAe : va_A [(q_this, .inr (1, [.int v_value]))] s.heap.size = A at hD ⊢
  have hA : ∀ q : Nat, s.heap.size ≤ q → A q := fun q h => by rw [← hAe]; exact Or.inr h
  have hS : va_S A s.heap s.heap [] := va_S.rf
  have hl := lv_entry ([.ref q_this, .int a1]) (n := 2) (Nat.le_of_ble_eq_true rfl)
  rw [lg_entry_eq]
  generalize (lg_sl ([.ref q_this, .int a1]) ++ List.replicate (2 - (lg_sl ([.ref q_this, .int a1])).length) Slot.unset).toArray = ls at hl ⊢
  have hl : lv_has ls 2 [(0, .ref q_this), (1, .int a1)] := hl
  unfold fX1_next at hrun
  have hk7 := hts (.fieldLink RX1 7 "LentDrains$Draws" "value" "I") (by decide +kernel)
  have hiX1 : ∀ w ∈ wsX10, w ∈ wsX1_next := by decide +kernel
  have hk13 := hts (.constantLong RX1 13 (1103515245)) (by decide +kernel)
  have hk15 := hts (.constantLong RX1 15 (12345)) (by decide +kernel)
  have hk17 := hts (.constantLong RX1 17 (2147483648)) (by decide +kernel)
  have hk19 := hts (.constant RX1 19 (65536)) (by decide +kernel)
  refine oz_genQ (fun Q hQ => ?_)
  refine lv_aload_n hx hb dX1_next_0 rfl (lv_at hl 0 rfl) ?_
  refine lv_aload_n hx hb dX1_next_1 rfl (lv_at hl 0 rfl) ?_
  refine va_get (D := (dC, dI)) (ci := 1) (v := .int v_value) (C := RX1) (T := TX1) (N := 1) hx hb hts hiX1 hown hK hP 0 rfl rfl 0 (by decide) hk7 (fun _ h9 => h9) rfl dX1_next_2 ?_
  refine lv_i2l hx hb dX1_next_5 rfl ?_
  refine lv_ldc2 hx hb hown hk13 dX1_next_6 ?_
  refine lv_lmul hx hb dX1_next_9 ?_
  refine lv_ldc2 hx hb hown hk15 dX1_next_10 ?_
  refine lv_ladd hx hb dX1_next_13 ?_
  refine lv_ldc2 hx hb hown hk17 dX1_next_14 ?_
  refine lv_lrem hx hb dX1_next_17 (by decide) ?_
  refine lv_l2i hx hb dX1_next_18 rfl ?_
  refine va_put (D := (dC, dI)) (ci := 1) (v := .int (Int64.toInt32 ((((Int32.toInt64 v_value) * (1103515245 : Int64)) + (12345 : Int64)) - (((Int32.toInt64 v_value) * (1103515245 : Int64)) + (12345 : Int64)) / (2147483648 : Int64) * (2147483648 : Int64)))) (ty := .int) (C := RX1) (T := TX1) (N := 1) hx hb hts hiX1 tyX1 tyX1_ok nmX1 hown hK hP hD hS 0 rfl rfl 0 (by decide) hk7 (fun _ h9 => h9) rfl (by decide +kernel) rfl rfl (Nat.le_of_ble_eq_true rfl) dX1_next_19 (fun H locs hP hD hS => ?_)
  have hP : va_P (dC, dI) vwCl [(q_this, .inr (1, [.int (Int64.toInt32 ((((Int32.toInt64 v_value) * (1103515245 : Int64)) + (12345 : Int64)) - (((Int32.toInt64 v_value) * (1103515245 : Int64)) + (12345 : Int64)) / (2147483648 : Int64) * (2147483648 : Int64)))]))] H := hP
  have hD : va_D A [(q_this, .inr (1, [.int (Int64.toInt32 ((((Int32.toInt64 v_value) * (1103515245 : Int64)) + (12345 : Int64)) - (((Int32.toInt64 v_value) * (1103515245 : Int64)) + (12345 : Int64)) / (2147483648 : Int64) * (2147483648 : Int64)))]))] := hD
  refine lv_iload_n hx hb dX1_next_22 rfl (lv_at hl 1 rfl) ?_
  refine lv_iconst (v := 1) hx hb dX1_next_23 (by decide) ?_
  refine lv_icmp_ge (tgt := 31) hx hb dX1_next_24 (by decide) (fun c1 => ?_) (fun c1 => ?_)
  · have hrun := oz_t hrun c1
    refine lv_aload_n hx hb dX1_next_31 rfl (lv_at hl 0 rfl) ?_
    refine va_get (D := (dC, dI)) (ci := 1) (v := .int (Int64.toInt32 ((((Int32.toInt64 v_value) * (1103515245 : Int64)) + (12345 : Int64)) - (((Int32.toInt64 v_value) * (1103515245 : Int64)) + (12345 : Int64)) / (2147483648 : Int64) * (2147483648 : Int64)))) (C := RX1) (T := TX1) (N := 1) hx hb hts hiX1 hown hK hP 0 rfl rfl 0 (by decide) hk7 (fun _ h9 => h9) rfl dX1_next_32 ?_
    refine lv_ldc hx hb hown hk19 dX1_next_35 ?_
    refine lv_idiv hx hb dX1_next_37 (by decide) ?_
    refine lv_iload_n hx hb dX1_next_38 rfl (lv_at hl 1 rfl) ?_
    obtain ⟨c2, hrun⟩ := oz_chk hrun
    refine lv_irem hx hb dX1_next_39 c2 ?_
    have ho9 := Option.some.inj hrun
    subst ho9
    have hP9 := hP.sub (ws' := [(q_this, .inr (1, [.int (Int64.toInt32 ((((Int32.toInt64 v_value) * (1103515245 : Int64)) + (12345 : Int64)) - (((Int32.toInt64 v_value) * (1103515245 : Int64)) + (12345 : Int64)) / (2147483648 : Int64) * (2147483648 : Int64)))]))]) [0] rfl
    have hD9 := hD.sub (ws' := [(q_this, .inr (1, [.int (Int64.toInt32 ((((Int32.toInt64 v_value) * (1103515245 : Int64)) + (12345 : Int64)) - (((Int32.toInt64 v_value) * (1103515245 : Int64)) + (12345 : Int64)) / (2147483648 : Int64) * (2147483648 : Int64)))]))]) [0] (by decide) rfl
    rw [hQ]
    exact W.iret (v := (((Int64.toInt32 ((((Int32.toInt64 v_value) * (1103515245 : Int64)) + (12345 : Int64)) - (((Int32.toInt64 v_value) * (1103515245 : Int64)) + (12345 : Int64)) / (2147483648 : Int64) * (2147483648 : Int64))) / 65536) - ((Int64.toInt32 ((((Int32.toInt64 v_value) * (1103515245 : Int64)) + (12345 : Int64)) - (((Int32.toInt64 v_value) * (1103515245 : Int64)) + (12345 : Int64)) / (2147483648 : Int64) * (2147483648 : Int64))) / 65536) / a1 * a1)) hx hb hr (fun t ht hW => ⟨⟨(((Int64.toInt32 ((((Int32.toInt64 v_value) * (1103515245 : Int64)) + (12345 : Int64)) - (((Int32.toInt64 v_value) * (1103515245 : Int64)) + (12345 : Int64)) / (2147483648 : Int64) * (2147483648 : Int64))) / 65536) - ((Int64.toInt32 ((((Int32.toInt64 v_value) * (1103515245 : Int64)) + (12345 : Int64)) - (((Int32.toInt64 v_value) * (1103515245 : Int64)) + (12345 : Int64)) / (2147483648 : Int64) * (2147483648 : Int64))) / 65536) / a1 * a1), (), rfl, rfl, by rw [ht]; exact hP9, va_K.moved hW.alike hK, hD9⟩, hS.F ht⟩) hS.2.2 dX1_next_40
  · have hrun := oz_f hrun c1
    refine lv_iconst (v := 0) hx hb dX1_next_27 (by decide) ?_
    refine lv_goto (tgt := 40) hx hb dX1_next_28 (by decide) ?_
    have ho9 := Option.some.inj hrun
    subst ho9
    have hP9 := hP.sub (ws' := [(q_this, .inr (1, [.int (Int64.toInt32 ((((Int32.toInt64 v_value) * (1103515245 : Int64)) + (12345 : Int64)) - (((Int32.toInt64 v_value) * (1103515245 : Int64)) + (12345 : Int64)) / (2147483648 : Int64) * (2147483648 : Int64)))]))]) [0] rfl
    have hD9 := hD.sub (ws' := [(q_this, .inr (1, [.int (Int64.toInt32 ((((Int32.toInt64 v_value) * (1103515245 : Int64)) + (12345 : Int64)) - (((Int32.toInt64 v_value) * (1103515245 : Int64)) + (12345 : Int64)) / (2147483648 : Int64) * (2147483648 : Int64)))]))]) [0] (by decide) rfl
    rw [hQ]
    exact W.iret (v := 0) hx hb hr (fun t ht hW => ⟨⟨0, (), rfl, rfl, by rw [ht]; exact hP9, va_K.moved hW.alike hK, hD9⟩, hS.F ht⟩) hS.2.2 dX1_next_40
def fX6_clear (v_stands : Int32) (v_lent : Int32) (v_pipe : Int32) (v_houses : Int32) : Option (Int32 × Int32 × Int32 × Int32) :=
  some (0, 0, 0, 0)
def rmX6_clear : Room := { frames := 0, cells := 0, slots := 0, locals := 0 }
set_option maxHeartbeats 4000000 in
set_option maxRecDepth 100000 in
theorem tX6_clear (l : Launch) (dC : Nat → ClassId) (dI : Nat → Nat → Nat) (cI cZ : ClassId) (q_above q_daily q_drain q_room q_this : Nat) (sz : Nat) (v_stands : Int32) (v_lent : Int32) (v_pipe : Int32) (v_houses : Int32) (out : Int32 × Int32 × Int32 × Int32) (hrun : fX6_clear v_stands v_lent v_pipe v_houses = some out) : Met l yX6_clear wsX6_clear rmX6_clear (va_Pc [.ref q_this] (fun U => U.heap.size = sz ∧ va_P (dC, dI) vwCl [(q_this, .inr (6, [.int v_stands, .int v_lent, .int v_pipe, .int v_houses, .ref q_room, .ref q_daily, .ref q_drain, .ref q_above]))] U.heap ∧ va_K (dC, dI) vwCl [(cI, .int), (cZ, .boolean)] U ∧ va_D (fun _ => True) [(q_this, .inr (6, [.int v_stands, .int v_lent, .int v_pipe, .int v_houses, .ref q_room, .ref q_daily, .ref q_drain, .ref q_above]))])) (va_Qv (fun _ : Unit => True) (fun _ t => va_P (dC, dI) vwCl [(q_this, .inr (6, [.int out.1, .int out.2.1, .int out.2.2.1, .int out.2.2.2, .ref q_room, .ref q_daily, .ref q_drain, .ref q_above]))] t.heap ∧ va_K (dC, dI) vwCl [(cI, .int), (cZ, .boolean)] t ∧ va_D (va_A [(q_this, .inr (6, [.int v_stands, .int v_lent, .int v_pipe, .int v_houses, .ref q_room, .ref q_daily, .ref q_drain, .ref q_above]))] sz) [(q_this, .inr (6, [.int out.1, .int out.2.1, .int out.2.2.1, .int out.2.2.2, .ref q_room, .ref q_daily, .ref q_drain, .ref q_above]))]) (va_A [(q_this, .inr (6, [.int v_stands, .int v_lent, .int v_pipe, .int v_houses, .ref q_room, .ref q_daily, .ref q_drain, .ref q_above]))] sz)) 0 0 (va_A [(q_this, .inr (6, [.int v_stands, .int v_lent, .int v_pipe, .int v_houses, .ref q_room, .ref q_daily, .ref q_drain, .ref q_above]))] sz) := by
  refine Met.ofW (cc := cX6_clear) (maxL := 1) (ret := none) (by decide) rfl ?_
  intro p e s m args below meth c s₁ B hml hv
  obtain ⟨rfl, hsz, hP, hK, hD0⟩ := hv
  have hx := B.exec
  have hb := B.bytes
  have hr := B.returns
  have hts := atoms_spec (ws := wsX6_clear) B.pre
  have hown : s.vm.findClass RX6 = some m.cls := findClass_of_methodNamed B.named
  have hlocks := B.notSynchronized
  subst hsz
  have hD := hD0.self (sz := s.heap.size)
  generalize hAe : va_A [(q_this, .inr (6, [.int v_stands, .int v_lent, .int v_pipe, .int v_houses, .ref q_room, .ref q_daily, .ref q_drain, .ref q_above]))] s.heap.size = A at hD ⊢
  have hA : ∀ q : Nat, s.heap.size ≤ q → A q := fun q h => by rw [← hAe]; exact Or.inr h
  have hS : va_S A s.heap s.heap [] := va_S.rf
  have hl := lv_entry ([.ref q_this]) (n := 1) (Nat.le_of_ble_eq_true rfl)
  rw [lg_entry_eq]
  generalize (lg_sl ([.ref q_this]) ++ List.replicate (1 - (lg_sl ([.ref q_this])).length) Slot.unset).toArray = ls at hl ⊢
  have hl : lv_has ls 1 [(0, .ref q_this)] := hl
  unfold fX6_clear at hrun
  have hk24 := hts (.fieldLink RX6 24 "LentDrains$Plan" "stands" "Z") (by decide +kernel)
  have hiX6 : ∀ w ∈ wsX60, w ∈ wsX6_clear := by decide +kernel
  have hk28 := hts (.fieldLink RX6 28 "LentDrains$Plan" "lent" "I") (by decide +kernel)
  have hk32 := hts (.fieldLink RX6 32 "LentDrains$Plan" "pipe" "I") (by decide +kernel)
  have hk35 := hts (.fieldLink RX6 35 "LentDrains$Plan" "houses" "I") (by decide +kernel)
  refine oz_genQ (fun Q hQ => ?_)
  refine lv_aload_n hx hb dX6_clear_0 rfl (lv_at hl 0 rfl) ?_
  refine lv_iconst (v := 0) hx hb dX6_clear_1 (by decide) ?_
  refine va_put (D := (dC, dI)) (ci := 6) (v := .int 0) (ty := .boolean) (C := RX6) (T := TX6) (N := 8) hx hb hts hiX6 tyX6 tyX6_ok nmX6 hown hK hP hD hS 0 rfl rfl 0 (by decide) hk24 (fun _ h9 => h9) rfl (by decide +kernel) rfl rfl (Nat.le_of_ble_eq_true rfl) dX6_clear_2 (fun H locs hP hD hS => ?_)
  have hP : va_P (dC, dI) vwCl [(q_this, .inr (6, [.int 0, .int v_lent, .int v_pipe, .int v_houses, .ref q_room, .ref q_daily, .ref q_drain, .ref q_above]))] H := hP
  have hD : va_D A [(q_this, .inr (6, [.int 0, .int v_lent, .int v_pipe, .int v_houses, .ref q_room, .ref q_daily, .ref q_drain, .ref q_above]))] := hD
  refine lv_aload_n hx hb dX6_clear_5 rfl (lv_at hl 0 rfl) ?_
  refine lv_iconst (v := 0) hx hb dX6_clear_6 (by decide) ?_
  refine va_put (D := (dC, dI)) (ci := 6) (v := .int 0) (ty := .int) (C := RX6) (T := TX6) (N := 8) hx hb hts hiX6 tyX6 tyX6_ok nmX6 hown hK hP hD hS 0 rfl rfl 1 (by decide) hk28 (fun _ h9 => h9) rfl (by decide +kernel) rfl rfl (Nat.le_of_ble_eq_true rfl) dX6_clear_7 (fun H locs hP hD hS => ?_)
  have hP : va_P (dC, dI) vwCl [(q_this, .inr (6, [.int 0, .int 0, .int v_pipe, .int v_houses, .ref q_room, .ref q_daily, .ref q_drain, .ref q_above]))] H := hP
  have hD : va_D A [(q_this, .inr (6, [.int 0, .int 0, .int v_pipe, .int v_houses, .ref q_room, .ref q_daily, .ref q_drain, .ref q_above]))] := hD
  refine lv_aload_n hx hb dX6_clear_10 rfl (lv_at hl 0 rfl) ?_
  refine lv_iconst (v := 0) hx hb dX6_clear_11 (by decide) ?_
  refine va_put (D := (dC, dI)) (ci := 6) (v := .int 0) (ty := .int) (C := RX6) (T := TX6) (N := 8) hx hb hts hiX6 tyX6 tyX6_ok nmX6 hown hK hP hD hS 0 rfl rfl 2 (by decide) hk32 (fun _ h9 => h9) rfl (by decide +kernel) rfl rfl (Nat.le_of_ble_eq_true rfl) dX6_clear_12 (fun H locs hP hD hS => ?_)
  have hP : va_P (dC, dI) vwCl [(q_this, .inr (6, [.int 0, .int 0, .int 0, .int v_houses, .ref q_room, .ref q_daily, .ref q_drain, .ref q_above]))] H := hP
  have hD : va_D A [(q_this, .inr (6, [.int 0, .int 0, .int 0, .int v_houses, .ref q_room, .ref q_daily, .ref q_drain, .ref q_above]))] := hD
  refine lv_aload_n hx hb dX6_clear_15 rfl (lv_at hl 0 rfl) ?_
  refine lv_iconst (v := 0) hx hb dX6_clear_16 (by decide) ?_
  refine va_put (D := (dC, dI)) (ci := 6) (v := .int 0) (ty := .int) (C := RX6) (T := TX6) (N := 8) hx hb hts hiX6 tyX6 tyX6_ok nmX6 hown hK hP hD hS 0 rfl rfl 3 (by decide) hk35 (fun _ h9 => h9) rfl (by decide +kernel) rfl rfl (Nat.le_of_ble_eq_true rfl) dX6_clear_17 (fun H locs hP hD hS => ?_)
  have hP : va_P (dC, dI) vwCl [(q_this, .inr (6, [.int 0, .int 0, .int 0, .int 0, .ref q_room, .ref q_daily, .ref q_drain, .ref q_above]))] H := hP
  have hD : va_D A [(q_this, .inr (6, [.int 0, .int 0, .int 0, .int 0, .ref q_room, .ref q_daily, .ref q_drain, .ref q_above]))] := hD
  have ho9 := Option.some.inj hrun
  subst ho9
  have hP9 := hP.sub (ws' := [(q_this, .inr (6, [.int 0, .int 0, .int 0, .int 0, .ref q_room, .ref q_daily, .ref q_drain, .ref q_above]))]) [0] rfl
  have hD9 := hD.sub (ws' := [(q_this, .inr (6, [.int 0, .int 0, .int 0, .int 0, .ref q_room, .ref q_daily, .ref q_drain, .ref q_above]))]) [0] (by decide) rfl
  rw [hQ]
  exact W.vret hx hb hr (fun t ht hW => ⟨⟨(), rfl, trivial, by rw [ht]; exact hP9, va_K.moved hW.alike hK, hD9⟩, hS.F ht⟩) hS.2.2 dX6_clear_20
def fX6_begin (v_stands : Int32) (v_lent : Int32) (v_pipe : Int32) (a1 : Int32) (a2 : Int32) : Option (Int32 × Int32 × Int32) :=
  some (1, a1, a2)
def rmX6_begin : Room := { frames := 0, cells := 0, slots := 0, locals := 0 }
set_option maxHeartbeats 4000000 in
set_option maxRecDepth 100000 in
theorem tX6_begin (l : Launch) (dC : Nat → ClassId) (dI : Nat → Nat → Nat) (cI cZ : ClassId) (q_above q_daily q_drain q_room q_this : Nat) (sz : Nat) (v_houses : Int32) (v_stands : Int32) (v_lent : Int32) (v_pipe : Int32) (a1 : Int32) (a2 : Int32) (out : Int32 × Int32 × Int32) (hrun : fX6_begin v_stands v_lent v_pipe a1 a2 = some out) : Met l yX6_begin wsX6_begin rmX6_begin (va_Pc [.ref q_this, .int a1, .int a2] (fun U => U.heap.size = sz ∧ va_P (dC, dI) vwCl [(q_this, .inr (6, [.int v_stands, .int v_lent, .int v_pipe, .int v_houses, .ref q_room, .ref q_daily, .ref q_drain, .ref q_above]))] U.heap ∧ va_K (dC, dI) vwCl [(cI, .int), (cZ, .boolean)] U ∧ va_D (fun _ => True) [(q_this, .inr (6, [.int v_stands, .int v_lent, .int v_pipe, .int v_houses, .ref q_room, .ref q_daily, .ref q_drain, .ref q_above]))])) (va_Qv (fun _ : Unit => True) (fun _ t => va_P (dC, dI) vwCl [(q_this, .inr (6, [.int out.1, .int out.2.1, .int out.2.2, .int v_houses, .ref q_room, .ref q_daily, .ref q_drain, .ref q_above]))] t.heap ∧ va_K (dC, dI) vwCl [(cI, .int), (cZ, .boolean)] t ∧ va_D (va_A [(q_this, .inr (6, [.int v_stands, .int v_lent, .int v_pipe, .int v_houses, .ref q_room, .ref q_daily, .ref q_drain, .ref q_above]))] sz) [(q_this, .inr (6, [.int out.1, .int out.2.1, .int out.2.2, .int v_houses, .ref q_room, .ref q_daily, .ref q_drain, .ref q_above]))]) (va_A [(q_this, .inr (6, [.int v_stands, .int v_lent, .int v_pipe, .int v_houses, .ref q_room, .ref q_daily, .ref q_drain, .ref q_above]))] sz)) 0 0 (va_A [(q_this, .inr (6, [.int v_stands, .int v_lent, .int v_pipe, .int v_houses, .ref q_room, .ref q_daily, .ref q_drain, .ref q_above]))] sz) := by
  refine Met.ofW (cc := cX6_begin) (maxL := 3) (ret := none) (by decide) rfl ?_
  intro p e s m args below meth c s₁ B hml hv
  obtain ⟨rfl, hsz, hP, hK, hD0⟩ := hv
  have hx := B.exec
  have hb := B.bytes
  have hr := B.returns
  have hts := atoms_spec (ws := wsX6_begin) B.pre
  have hown : s.vm.findClass RX6 = some m.cls := findClass_of_methodNamed B.named
  have hlocks := B.notSynchronized
  subst hsz
  have hD := hD0.self (sz := s.heap.size)
  generalize hAe : va_A [(q_this, .inr (6, [.int v_stands, .int v_lent, .int v_pipe, .int v_houses, .ref q_room, .ref q_daily, .ref q_drain, .ref q_above]))] s.heap.size = A at hD ⊢
  have hA : ∀ q : Nat, s.heap.size ≤ q → A q := fun q h => by rw [← hAe]; exact Or.inr h
  have hS : va_S A s.heap s.heap [] := va_S.rf
  have hl := lv_entry ([.ref q_this, .int a1, .int a2]) (n := 3) (Nat.le_of_ble_eq_true rfl)
  rw [lg_entry_eq]
  generalize (lg_sl ([.ref q_this, .int a1, .int a2]) ++ List.replicate (3 - (lg_sl ([.ref q_this, .int a1, .int a2])).length) Slot.unset).toArray = ls at hl ⊢
  have hl : lv_has ls 3 [(0, .ref q_this), (1, .int a1), (2, .int a2)] := hl
  unfold fX6_begin at hrun
  have hk24 := hts (.fieldLink RX6 24 "LentDrains$Plan" "stands" "Z") (by decide +kernel)
  have hiX6 : ∀ w ∈ wsX60, w ∈ wsX6_begin := by decide +kernel
  have hk28 := hts (.fieldLink RX6 28 "LentDrains$Plan" "lent" "I") (by decide +kernel)
  have hk32 := hts (.fieldLink RX6 32 "LentDrains$Plan" "pipe" "I") (by decide +kernel)
  refine oz_genQ (fun Q hQ => ?_)
  refine lv_aload_n hx hb dX6_begin_0 rfl (lv_at hl 0 rfl) ?_
  refine lv_iconst (v := 1) hx hb dX6_begin_1 (by decide) ?_
  refine va_put (D := (dC, dI)) (ci := 6) (v := .int 1) (ty := .boolean) (C := RX6) (T := TX6) (N := 8) hx hb hts hiX6 tyX6 tyX6_ok nmX6 hown hK hP hD hS 0 rfl rfl 0 (by decide) hk24 (fun _ h9 => h9) rfl (by decide +kernel) rfl rfl (Nat.le_of_ble_eq_true rfl) dX6_begin_2 (fun H locs hP hD hS => ?_)
  have hP : va_P (dC, dI) vwCl [(q_this, .inr (6, [.int 1, .int v_lent, .int v_pipe, .int v_houses, .ref q_room, .ref q_daily, .ref q_drain, .ref q_above]))] H := hP
  have hD : va_D A [(q_this, .inr (6, [.int 1, .int v_lent, .int v_pipe, .int v_houses, .ref q_room, .ref q_daily, .ref q_drain, .ref q_above]))] := hD
  refine lv_aload_n hx hb dX6_begin_5 rfl (lv_at hl 0 rfl) ?_
  refine lv_iload_n hx hb dX6_begin_6 rfl (lv_at hl 1 rfl) ?_
  refine va_put (D := (dC, dI)) (ci := 6) (v := .int a1) (ty := .int) (C := RX6) (T := TX6) (N := 8) hx hb hts hiX6 tyX6 tyX6_ok nmX6 hown hK hP hD hS 0 rfl rfl 1 (by decide) hk28 (fun _ h9 => h9) rfl (by decide +kernel) rfl rfl (Nat.le_of_ble_eq_true rfl) dX6_begin_7 (fun H locs hP hD hS => ?_)
  have hP : va_P (dC, dI) vwCl [(q_this, .inr (6, [.int 1, .int a1, .int v_pipe, .int v_houses, .ref q_room, .ref q_daily, .ref q_drain, .ref q_above]))] H := hP
  have hD : va_D A [(q_this, .inr (6, [.int 1, .int a1, .int v_pipe, .int v_houses, .ref q_room, .ref q_daily, .ref q_drain, .ref q_above]))] := hD
  refine lv_aload_n hx hb dX6_begin_10 rfl (lv_at hl 0 rfl) ?_
  refine lv_iload_n hx hb dX6_begin_11 rfl (lv_at hl 2 rfl) ?_
  refine va_put (D := (dC, dI)) (ci := 6) (v := .int a2) (ty := .int) (C := RX6) (T := TX6) (N := 8) hx hb hts hiX6 tyX6 tyX6_ok nmX6 hown hK hP hD hS 0 rfl rfl 2 (by decide) hk32 (fun _ h9 => h9) rfl (by decide +kernel) rfl rfl (Nat.le_of_ble_eq_true rfl) dX6_begin_12 (fun H locs hP hD hS => ?_)
  have hP : va_P (dC, dI) vwCl [(q_this, .inr (6, [.int 1, .int a1, .int a2, .int v_houses, .ref q_room, .ref q_daily, .ref q_drain, .ref q_above]))] H := hP
  have hD : va_D A [(q_this, .inr (6, [.int 1, .int a1, .int a2, .int v_houses, .ref q_room, .ref q_daily, .ref q_drain, .ref q_above]))] := hD
  have ho9 := Option.some.inj hrun
  subst ho9
  have hP9 := hP.sub (ws' := [(q_this, .inr (6, [.int 1, .int a1, .int a2, .int v_houses, .ref q_room, .ref q_daily, .ref q_drain, .ref q_above]))]) [0] rfl
  have hD9 := hD.sub (ws' := [(q_this, .inr (6, [.int 1, .int a1, .int a2, .int v_houses, .ref q_room, .ref q_daily, .ref q_drain, .ref q_above]))]) [0] (by decide) rfl
  rw [hQ]
  exact W.vret hx hb hr (fun t ht hW => ⟨⟨(), rfl, trivial, by rw [ht]; exact hP9, va_K.moved hW.alike hK, hD9⟩, hS.F ht⟩) hS.2.2 dX6_begin_15
def fX6_has (v_houses : Int32) (a1 : Int32) : Option (Int32) :=
  if a1 < 0 then (some (0)) else (if v_houses ≤ a1 then (some (0)) else (some (1)))
def rmX6_has : Room := { frames := 0, cells := 0, slots := 0, locals := 0 }
set_option maxHeartbeats 4000000 in
set_option maxRecDepth 100000 in
theorem tX6_has (l : Launch) (dC : Nat → ClassId) (dI : Nat → Nat → Nat) (cI cZ : ClassId) (q_above q_daily q_drain q_room q_this : Nat) (sz : Nat) (v_stands : Int32) (v_lent : Int32) (v_pipe : Int32) (v_houses : Int32) (a1 : Int32) (out : Int32) (hrun : fX6_has v_houses a1 = some out) : Met l yX6_has wsX6_has rmX6_has (va_Pc [.ref q_this, .int a1] (fun U => U.heap.size = sz ∧ va_P (dC, dI) vwCl [(q_this, .inr (6, [.int v_stands, .int v_lent, .int v_pipe, .int v_houses, .ref q_room, .ref q_daily, .ref q_drain, .ref q_above]))] U.heap ∧ va_K (dC, dI) vwCl [(cI, .int), (cZ, .boolean)] U ∧ va_D (fun _ => True) [(q_this, .inr (6, [.int v_stands, .int v_lent, .int v_pipe, .int v_houses, .ref q_room, .ref q_daily, .ref q_drain, .ref q_above]))])) (va_Qi (fun (r : Int32) (_ : Unit) => r = out) (fun _ t => va_P (dC, dI) vwCl [(q_this, .inr (6, [.int v_stands, .int v_lent, .int v_pipe, .int v_houses, .ref q_room, .ref q_daily, .ref q_drain, .ref q_above]))] t.heap ∧ va_K (dC, dI) vwCl [(cI, .int), (cZ, .boolean)] t ∧ va_D (va_A [(q_this, .inr (6, [.int v_stands, .int v_lent, .int v_pipe, .int v_houses, .ref q_room, .ref q_daily, .ref q_drain, .ref q_above]))] sz) [(q_this, .inr (6, [.int v_stands, .int v_lent, .int v_pipe, .int v_houses, .ref q_room, .ref q_daily, .ref q_drain, .ref q_above]))]) (va_A [(q_this, .inr (6, [.int v_stands, .int v_lent, .int v_pipe, .int v_houses, .ref q_room, .ref q_daily, .ref q_drain, .ref q_above]))] sz)) 0 0 (va_A [(q_this, .inr (6, [.int v_stands, .int v_lent, .int v_pipe, .int v_houses, .ref q_room, .ref q_daily, .ref q_drain, .ref q_above]))] sz) := by
  refine Met.ofW (cc := cX6_has) (maxL := 2) (ret := (some .boolean)) (by decide) rfl ?_
  intro p e s m args below meth c s₁ B hml hv
  obtain ⟨rfl, hsz, hP, hK, hD0⟩ := hv
  have hx := B.exec
  have hb := B.bytes
  have hr := B.returns
  have hts := atoms_spec (ws := wsX6_has) B.pre
  have hown : s.vm.findClass RX6 = some m.cls := findClass_of_methodNamed B.named
  have hlocks := B.notSynchronized
  subst hsz
  have hD := hD0.self (sz := s.heap.size)
  generalize hAe : va_A [(q_this, .inr (6, [.int v_stands, .int v_lent, .int v_pipe, .int v_houses, .ref q_room, .ref q_daily, .ref q_drain, .ref q_above]))] s.heap.size = A at hD ⊢
  have hA : ∀ q : Nat, s.heap.size ≤ q → A q := fun q h => by rw [← hAe]; exact Or.inr h
  have hS : va_S A s.heap s.heap [] := va_S.rf
  have hl := lv_entry ([.ref q_this, .int a1]) (n := 2) (Nat.le_of_ble_eq_true rfl)
  rw [lg_entry_eq]
  generalize (lg_sl ([.ref q_this, .int a1]) ++ List.replicate (2 - (lg_sl ([.ref q_this, .int a1])).length) Slot.unset).toArray = ls at hl ⊢
  have hl : lv_has ls 2 [(0, .ref q_this), (1, .int a1)] := hl
  unfold fX6_has at hrun
  have hk35 := hts (.fieldLink RX6 35 "LentDrains$Plan" "houses" "I") (by decide +kernel)
  have hiX6 : ∀ w ∈ wsX60, w ∈ wsX6_has := by decide +kernel
  refine oz_genQ (fun Q hQ => ?_)
  refine lv_iload_n hx hb dX6_has_0 rfl (lv_at hl 1 rfl) ?_
  refine lv_if_lt (tgt := 16) hx hb dX6_has_1 (by decide) (fun c1 => ?_) (fun c1 => ?_)
  · have hrun := oz_t hrun c1
    refine lv_iconst (v := 0) hx hb dX6_has_16 (by decide) ?_
    have ho9 := Option.some.inj hrun
    subst ho9
    have hP9 := hP.sub (ws' := [(q_this, .inr (6, [.int v_stands, .int v_lent, .int v_pipe, .int v_houses, .ref q_room, .ref q_daily, .ref q_drain, .ref q_above]))]) [0] rfl
    have hD9 := hD.sub (ws' := [(q_this, .inr (6, [.int v_stands, .int v_lent, .int v_pipe, .int v_houses, .ref q_room, .ref q_daily, .ref q_drain, .ref q_above]))]) [0] (by decide) rfl
    rw [hQ]
    exact W.zret (v := 0) (ty := .boolean) hx hb hr rfl (fun t ht hW => ⟨⟨0, (), rfl, rfl, by rw [ht]; exact hP9, va_K.moved hW.alike hK, hD9⟩, hS.F ht⟩) hS.2.2 dX6_has_17
  · have hrun := oz_f hrun c1
    refine lv_iload_n hx hb dX6_has_4 rfl (lv_at hl 1 rfl) ?_
    refine lv_aload_n hx hb dX6_has_5 rfl (lv_at hl 0 rfl) ?_
    refine va_get (D := (dC, dI)) (ci := 6) (v := .int v_houses) (C := RX6) (T := TX6) (N := 8) hx hb hts hiX6 hown hK hP 0 rfl rfl 3 (by decide) hk35 (fun _ h9 => h9) rfl dX6_has_6 ?_
    refine lv_icmp_ge (tgt := 16) hx hb dX6_has_9 (by decide) (fun c2 => ?_) (fun c2 => ?_)
    · have hrun := oz_t hrun c2
      refine lv_iconst (v := 0) hx hb dX6_has_16 (by decide) ?_
      have ho9 := Option.some.inj hrun
      subst ho9
      have hP9 := hP.sub (ws' := [(q_this, .inr (6, [.int v_stands, .int v_lent, .int v_pipe, .int v_houses, .ref q_room, .ref q_daily, .ref q_drain, .ref q_above]))]) [0] rfl
      have hD9 := hD.sub (ws' := [(q_this, .inr (6, [.int v_stands, .int v_lent, .int v_pipe, .int v_houses, .ref q_room, .ref q_daily, .ref q_drain, .ref q_above]))]) [0] (by decide) rfl
      rw [hQ]
      exact W.zret (v := 0) (ty := .boolean) hx hb hr rfl (fun t ht hW => ⟨⟨0, (), rfl, rfl, by rw [ht]; exact hP9, va_K.moved hW.alike hK, hD9⟩, hS.F ht⟩) hS.2.2 dX6_has_17
    · have hrun := oz_f hrun c2
      refine lv_iconst (v := 1) hx hb dX6_has_12 (by decide) ?_
      refine lv_goto (tgt := 17) hx hb dX6_has_13 (by decide) ?_
      have ho9 := Option.some.inj hrun
      subst ho9
      have hP9 := hP.sub (ws' := [(q_this, .inr (6, [.int v_stands, .int v_lent, .int v_pipe, .int v_houses, .ref q_room, .ref q_daily, .ref q_drain, .ref q_above]))]) [0] rfl
      have hD9 := hD.sub (ws' := [(q_this, .inr (6, [.int v_stands, .int v_lent, .int v_pipe, .int v_houses, .ref q_room, .ref q_daily, .ref q_drain, .ref q_above]))]) [0] (by decide) rfl
      rw [hQ]
      exact W.zret (v := 1) (ty := .boolean) hx hb hr rfl (fun t ht hW => ⟨⟨1, (), rfl, rfl, by rw [ht]; exact hP9, va_K.moved hW.alike hK, hD9⟩, hS.F ht⟩) hS.2.2 dX6_has_17
def fX6_markBelow_b4 (v_houses : Int32) (v_drain : Nat → Int32) (a1 : Int32) (w4 : Int32 × Int32 × (Nat → Int32)) : Option ((Int32 × Int32 × (Nat → Int32)) ⊕ (Int32 × Int32 × (Nat → Int32))) :=
  if 8 ≤ w4.1 then (some (.inr (w4.1, w4.2.1, w4.2.2))) else (Option.bind (fX6_has v_houses w4.2.1) (fun y12 => if y12 = 0 then (some (.inr (w4.1, w4.2.1, w4.2.2))) else (if (w4.2.1 < 0 ∨ 8 ≤ Int32.toNatClampNeg w4.2.1) then none else some (.inl ((w4.1 + 1), (v_drain (Int32.toNatClampNeg w4.2.1)), (upd w4.2.2 (Int32.toNatClampNeg w4.2.1) ((w4.2.2 (Int32.toNatClampNeg w4.2.1)) ||| (1 <<< (a1 &&& 31)))))))))
def fX6_markBelow (v_houses : Int32) (v_drain : Nat → Int32) (v_above : Nat → Int32) (a1 : Int32) : Option ((Nat → Int32)) :=
  Option.bind (oz_loop (fX6_markBelow_b4 v_houses v_drain a1) oz_fuel (0, a1, v_above)) (fun o4 => some o4.2.2)
def rmX6_markBelow : Room := { frames := 1, cells := 0, slots := 0, locals := 21 }
set_option maxHeartbeats 4000000 in
set_option maxRecDepth 100000 in
theorem tX6_markBelow (l : Launch) (dC : Nat → ClassId) (dI : Nat → Nat → Nat) (cI cZ : ClassId) (q_above q_daily q_drain q_room q_this : Nat) (sz : Nat) (v_stands : Int32) (v_lent : Int32) (v_pipe : Int32) (v_houses : Int32) (v_drain : Nat → Int32) (v_above : Nat → Int32) (a1 : Int32) (out : (Nat → Int32)) (hrun : fX6_markBelow v_houses v_drain v_above a1 = some out) : Met l yX6_markBelow wsX6_markBelow rmX6_markBelow (va_Pc [.ref q_this, .int a1] (fun U => U.heap.size = sz ∧ va_P (dC, dI) vwCl [(q_this, .inr (6, [.int v_stands, .int v_lent, .int v_pipe, .int v_houses, .ref q_room, .ref q_daily, .ref q_drain, .ref q_above])), (q_drain, .inl (cI, 8, .inl v_drain)), (q_above, .inl (cI, 8, .inl v_above))] U.heap ∧ va_K (dC, dI) vwCl [(cI, .int), (cZ, .boolean)] U ∧ va_D (fun _ => True) [(q_this, .inr (6, [.int v_stands, .int v_lent, .int v_pipe, .int v_houses, .ref q_room, .ref q_daily, .ref q_drain, .ref q_above])), (q_drain, .inl (cI, 8, .inl v_drain)), (q_above, .inl (cI, 8, .inl v_above))])) (va_Qv (fun _ : Unit => True) (fun _ t => va_P (dC, dI) vwCl [(q_this, .inr (6, [.int v_stands, .int v_lent, .int v_pipe, .int v_houses, .ref q_room, .ref q_daily, .ref q_drain, .ref q_above])), (q_drain, .inl (cI, 8, .inl v_drain)), (q_above, .inl (cI, 8, .inl out))] t.heap ∧ va_K (dC, dI) vwCl [(cI, .int), (cZ, .boolean)] t ∧ va_D (va_A [(q_this, .inr (6, [.int v_stands, .int v_lent, .int v_pipe, .int v_houses, .ref q_room, .ref q_daily, .ref q_drain, .ref q_above])), (q_drain, .inl (cI, 8, .inl v_drain)), (q_above, .inl (cI, 8, .inl v_above))] sz) [(q_this, .inr (6, [.int v_stands, .int v_lent, .int v_pipe, .int v_houses, .ref q_room, .ref q_daily, .ref q_drain, .ref q_above])), (q_drain, .inl (cI, 8, .inl v_drain)), (q_above, .inl (cI, 8, .inl out))]) (va_A [(q_this, .inr (6, [.int v_stands, .int v_lent, .int v_pipe, .int v_houses, .ref q_room, .ref q_daily, .ref q_drain, .ref q_above])), (q_drain, .inl (cI, 8, .inl v_drain)), (q_above, .inl (cI, 8, .inl v_above))] sz)) 0 0 (va_A [(q_this, .inr (6, [.int v_stands, .int v_lent, .int v_pipe, .int v_houses, .ref q_room, .ref q_daily, .ref q_drain, .ref q_above])), (q_drain, .inl (cI, 8, .inl v_drain)), (q_above, .inl (cI, 8, .inl v_above))] sz) := by
  refine Met.ofW (cc := cX6_markBelow) (maxL := 4) (ret := none) (by decide) rfl ?_
  intro p e s m args below meth c s₁ B hml hv
  obtain ⟨rfl, hsz, hP, hK, hD0⟩ := hv
  have hx := B.exec
  have hb := B.bytes
  have hr := B.returns
  have hts := atoms_spec (ws := wsX6_markBelow) B.pre
  have hown : s.vm.findClass RX6 = some m.cls := findClass_of_methodNamed B.named
  have hlocks := B.notSynchronized
  subst hsz
  have hD := hD0.self (sz := s.heap.size)
  generalize hAe : va_A [(q_this, .inr (6, [.int v_stands, .int v_lent, .int v_pipe, .int v_houses, .ref q_room, .ref q_daily, .ref q_drain, .ref q_above])), (q_drain, .inl (cI, 8, .inl v_drain)), (q_above, .inl (cI, 8, .inl v_above))] s.heap.size = A at hD ⊢
  have hA : ∀ q : Nat, s.heap.size ≤ q → A q := fun q h => by rw [← hAe]; exact Or.inr h
  have hS : va_S A s.heap s.heap [] := va_S.rf
  have hl := lv_entry ([.ref q_this, .int a1]) (n := 4) (Nat.le_of_ble_eq_true rfl)
  rw [lg_entry_eq]
  generalize (lg_sl ([.ref q_this, .int a1]) ++ List.replicate (4 - (lg_sl ([.ref q_this, .int a1])).length) Slot.unset).toArray = ls at hl ⊢
  have hl : lv_has ls 4 [(0, .ref q_this), (1, .int a1)] := hl
  unfold fX6_markBelow at hrun
  have hk21 := hts (.fieldLink RX6 21 "LentDrains$Plan" "above" "[I") (by decide +kernel)
  have hiX6 : ∀ w ∈ wsX60, w ∈ wsX6_markBelow := by decide +kernel
  have hk18 := hts (.fieldLink RX6 18 "LentDrains$Plan" "drain" "[I") (by decide +kernel)
  refine oz_genQ (fun Q hQ => ?_)
  refine lv_iload_n hx hb dX6_markBelow_0 rfl (lv_at hl 1 rfl) ?_
  refine lv_istore_n (lv' := [(2, .int a1), (0, .ref q_this), (1, .int a1)]) hx hb dX6_markBelow_1 rfl hl (by decide) rfl (fun ls hl => ?_)
  refine lv_iconst (v := 0) hx hb dX6_markBelow_2 (by decide) ?_
  refine lv_istore_n (lv' := [(3, .int 0), (2, .int a1), (0, .ref q_this), (1, .int a1)]) hx hb dX6_markBelow_3 rfl hl (by decide) rfl (fun ls hl => ?_)
  obtain ⟨o4, hlp4, hrun⟩ := oz_bind hrun
  have hL4 : ∀ (n : Nat) (w4 : Int32 × Int32 × (Nat → Int32)) (o4 : Int32 × Int32 × (Nat → Int32)), oz_loop (fX6_markBelow_b4 v_houses v_drain a1) n w4 = some o4 → (∀ (H : Heap) (locs : List Loc) (ls : Array Slot), va_P (dC, dI) vwCl [(q_this, .inr (6, [.int v_stands, .int v_lent, .int v_pipe, .int v_houses, .ref q_room, .ref q_daily, .ref q_drain, .ref q_above])), (q_drain, .inl (cI, 8, .inl v_drain)), (q_above, .inl (cI, 8, .inl o4.2.2))] H → va_D A [(q_this, .inr (6, [.int v_stands, .int v_lent, .int v_pipe, .int v_houses, .ref q_room, .ref q_daily, .ref q_drain, .ref q_above])), (q_drain, .inl (cI, 8, .inl v_drain)), (q_above, .inl (cI, 8, .inl o4.2.2))] → va_S A s.heap H locs → lv_has ls 4 [(3, .int o4.1), (2, .int o4.2.1), (0, .ref q_this), (1, .int a1)] → W p l e (headSpec wsX6_markBelow rmX6_markBelow).room s m (([.ref q_this, .int a1] : List Value).toArray) below meth c H locs 0 0 Q (F0 m 43 ls [])) → ∀ (H : Heap) (locs : List Loc) (ls : Array Slot), va_P (dC, dI) vwCl [(q_this, .inr (6, [.int v_stands, .int v_lent, .int v_pipe, .int v_houses, .ref q_room, .ref q_daily, .ref q_drain, .ref q_above])), (q_drain, .inl (cI, 8, .inl v_drain)), (q_above, .inl (cI, 8, .inl w4.2.2))] H → va_D A [(q_this, .inr (6, [.int v_stands, .int v_lent, .int v_pipe, .int v_houses, .ref q_room, .ref q_daily, .ref q_drain, .ref q_above])), (q_drain, .inl (cI, 8, .inl v_drain)), (q_above, .inl (cI, 8, .inl w4.2.2))] → va_S A s.heap H locs → lv_has ls 4 [(3, .int w4.1), (2, .int w4.2.1), (0, .ref q_this), (1, .int a1)] → W p l e (headSpec wsX6_markBelow rmX6_markBelow).room s m (([.ref q_this, .int a1] : List Value).toArray) below meth c H locs 0 0 Q (F0 m 4 ls []) := by
    intro n
    induction n with
    | zero => intro w4 o4 h9; exact (oz_zero h9).elim
    | succ n ih =>
      intro w4 o4 h9 hexit H locs ls hP hD hS hl
      obtain ⟨r9, hrun, hnext⟩ := oz_step h9
      unfold fX6_markBelow_b4 at hrun
      refine lv_iload_n hx hb dX6_markBelow_4 rfl (lv_at hl 0 rfl) ?_
      refine lv_bipush (v := 8) hx hb dX6_markBelow_5 (by decide) ?_
      refine lv_icmp_ge (tgt := 43) hx hb dX6_markBelow_7 (by decide) (fun c1 => ?_) (fun c1 => ?_)
      · have hrun := oz_t hrun c1
        have hr9 := Option.some.inj hrun
        subst hr9
        have ho9 : (w4.1, w4.2.1, w4.2.2) = o4 := hnext
        subst ho9
        exact hexit _ _ _ (hP.sub [0, 1, 2] rfl) (hD.sub [0, 1, 2] (by decide) rfl) hS (lv_sub hl [0, 1, 2, 3] rfl)
      · have hrun := oz_f hrun c1
        refine lv_aload_n hx hb dX6_markBelow_10 rfl (lv_at hl 2 rfl) ?_
        refine lv_iload_n hx hb dX6_markBelow_11 rfl (lv_at hl 1 rfl) ?_
        obtain ⟨y12, hc12, hrun⟩ := oz_bind hrun
        have hPc := hP.sub (ws' := [(q_this, .inr (6, [.int v_stands, .int v_lent, .int v_pipe, .int v_houses, .ref q_room, .ref q_daily, .ref q_drain, .ref q_above]))]) [0] rfl
        have hDc := hD.sub (ws' := [(q_this, .inr (6, [.int v_stands, .int v_lent, .int v_pipe, .int v_houses, .ref q_room, .ref q_daily, .ref q_drain, .ref q_above]))]) [0] (by decide) rfl
        have hFc := va_free (wc := [(q_this, .inr (6, [.int v_stands, .int v_lent, .int v_pipe, .int v_houses, .ref q_room, .ref q_daily, .ref q_drain, .ref q_above]))]) hD hS hA [0] rfl
        refine va_calli (va_runV (As := [.int w4.2.1]) (rest := []) ⟨hx, hb, hml, hown, hts⟩ (tX6_has l dC dI cI cZ q_above q_daily q_drain q_room q_this H.size v_stands v_lent v_pipe v_houses w4.2.1 y12 hc12) (cwV 1 hts gX6_markBelow_X6_has rfl rfl rfl (by decide +kernel) ⟨Nat.le_of_ble_eq_true rfl, Nat.le_of_ble_eq_true rfl⟩) ⟨fun a U g mk q => by obtain ⟨q0, q1, qP, qK, qD⟩ := q; exact ⟨q0, q1, qP, va_K.moved (u := U) (U := U.calling g mk a) (Vm.Alike.refl U.vm) qK, qD⟩, va_recv hK hPc (ci := 6) (q0 := 0) rfl rfl, fun U hU hW => ⟨rfl, by rw [hU], by rw [hU]; exact hPc, va_K.moved hW.alike hK, hDc.weaken (fun _ _ _ _ => trivial)⟩⟩ rfl rfl hl.1 rfl (lv_room (Nat.le_of_ble_eq_true rfl)) dX6_markBelow_12 ⟨Nat.le_of_ble_eq_true rfl, Nat.le_of_ble_eq_true rfl⟩) hS (fun q _ h => hFc q h) hFc (fun r12 u9 t9 H1 locs ht9 hvm9 hw9 hB9 hz9 hkk9 hS => ?_)
        have hw9 : y12 = r12 := hw9.symm
        subst hw9
        obtain ⟨hP9, hK9, hD9⟩ := hB9
        rw [ht9] at hP9
        obtain ⟨hP, hD⟩ := va_join (wr := [(q_drain, .inl (cI, 8, .inl v_drain)), (q_above, .inl (cI, 8, .inl w4.2.2))]) (w1 := [(q_this, .inr (6, [.int v_stands, .int v_lent, .int v_pipe, .int v_houses, .ref q_room, .ref q_daily, .ref q_drain, .ref q_above]))]) hP hD [0] [1, 2] rfl rfl (by decide) (by decide) hkk9 hFc hP9 hD9
        generalize H1 = H at hP hS ⊢
        have hP : va_P (dC, dI) vwCl [(q_drain, .inl (cI, 8, .inl v_drain)), (q_above, .inl (cI, 8, .inl w4.2.2)), (q_this, .inr (6, [.int v_stands, .int v_lent, .int v_pipe, .int v_houses, .ref q_room, .ref q_daily, .ref q_drain, .ref q_above]))] H := hP
        have hD : va_D A [(q_drain, .inl (cI, 8, .inl v_drain)), (q_above, .inl (cI, 8, .inl w4.2.2)), (q_this, .inr (6, [.int v_stands, .int v_lent, .int v_pipe, .int v_houses, .ref q_room, .ref q_daily, .ref q_drain, .ref q_above]))] := hD
        refine lv_if_eq (tgt := 43) hx hb dX6_markBelow_15 (by decide) (fun c2 => ?_) (fun c2 => ?_)
        · have hrun := oz_t hrun c2
          have hr9 := Option.some.inj hrun
          subst hr9
          have ho9 : (w4.1, w4.2.1, w4.2.2) = o4 := hnext
          subst ho9
          exact hexit _ _ _ (hP.sub [2, 0, 1] rfl) (hD.sub [2, 0, 1] (by decide) rfl) hS (lv_sub hl [0, 1, 2, 3] rfl)
        · have hrun := oz_f hrun c2
          refine lv_aload_n hx hb dX6_markBelow_18 rfl (lv_at hl 2 rfl) ?_
          refine va_get (D := (dC, dI)) (ci := 6) (v := .ref q_above) (C := RX6) (T := TX6) (N := 8) hx hb hts hiX6 hown hK hP 2 rfl rfl 7 (by decide) hk21 (fun _ h9 => h9) rfl dX6_markBelow_19 ?_
          refine lv_iload_n hx hb dX6_markBelow_22 rfl (lv_at hl 1 rfl) ?_
          refine lv_dup2_11 hx hb dX6_markBelow_23 rfl rfl ?_
          obtain ⟨c3, hrun⟩ := oz_chk hrun
          refine va_iald hx hb hK hP 1 0 rfl rfl c3 dX6_markBelow_24 ?_
          refine lv_iconst (v := 1) hx hb dX6_markBelow_25 (by decide) ?_
          refine lv_iload_n hx hb dX6_markBelow_26 rfl (lv_at hl 3 rfl) ?_
          refine lv_ishl hx hb dX6_markBelow_27 ?_
          refine lv_ior hx hb dX6_markBelow_28 ?_
          refine va_iast hx hb hK hP hD hS 1 0 rfl rfl c3 dX6_markBelow_29 (fun H locs hP hD hS => ?_)
          have hP : va_P (dC, dI) vwCl [(q_drain, .inl (cI, 8, .inl v_drain)), (q_above, .inl (cI, 8, .inl (upd w4.2.2 (Int32.toNatClampNeg w4.2.1) ((w4.2.2 (Int32.toNatClampNeg w4.2.1)) ||| (1 <<< (a1 &&& 31)))))), (q_this, .inr (6, [.int v_stands, .int v_lent, .int v_pipe, .int v_houses, .ref q_room, .ref q_daily, .ref q_drain, .ref q_above]))] H := hP
          have hD : va_D A [(q_drain, .inl (cI, 8, .inl v_drain)), (q_above, .inl (cI, 8, .inl (upd w4.2.2 (Int32.toNatClampNeg w4.2.1) ((w4.2.2 (Int32.toNatClampNeg w4.2.1)) ||| (1 <<< (a1 &&& 31)))))), (q_this, .inr (6, [.int v_stands, .int v_lent, .int v_pipe, .int v_houses, .ref q_room, .ref q_daily, .ref q_drain, .ref q_above]))] := hD
          refine lv_aload_n hx hb dX6_markBelow_30 rfl (lv_at hl 2 rfl) ?_
          refine va_get (D := (dC, dI)) (ci := 6) (v := .ref q_drain) (C := RX6) (T := TX6) (N := 8) hx hb hts hiX6 hown hK hP 2 rfl rfl 6 (by decide) hk18 (fun _ h9 => h9) rfl dX6_markBelow_31 ?_
          refine lv_iload_n hx hb dX6_markBelow_34 rfl (lv_at hl 1 rfl) ?_
          refine va_iald hx hb hK hP 0 0 rfl rfl c3 dX6_markBelow_35 ?_
          refine lv_istore_n (lv' := [(2, .int (v_drain (Int32.toNatClampNeg w4.2.1))), (3, .int w4.1), (0, .ref q_this), (1, .int a1)]) hx hb dX6_markBelow_36 rfl hl (by decide) rfl (fun ls hl => ?_)
          refine lv_iinc (v := (w4.1 + 1)) (lv' := [(3, .int (w4.1 + 1)), (2, .int (v_drain (Int32.toNatClampNeg w4.2.1))), (0, .ref q_this), (1, .int a1)]) hx hb dX6_markBelow_37 hl (k := 1) rfl rfl (by decide) rfl (fun ls hl => ?_)
          refine lv_goto (tgt := 4) hx hb dX6_markBelow_40 (by decide) ?_
          have hr9 := Option.some.inj hrun
          subst hr9
          exact ih ((w4.1 + 1), (v_drain (Int32.toNatClampNeg w4.2.1)), (upd w4.2.2 (Int32.toNatClampNeg w4.2.1) ((w4.2.2 (Int32.toNatClampNeg w4.2.1)) ||| (1 <<< (a1 &&& 31))))) _ hnext hexit _ _ _ (hP.sub [2, 0, 1] rfl) (hD.sub [2, 0, 1] (by decide) rfl) hS (lv_sub hl [0, 1, 2, 3] rfl)
  refine hL4 oz_fuel (0, a1, v_above) o4 hlp4 (fun H locs ls hP hD hS hl => ?_) _ _ _ (hP.sub [0, 1, 2] rfl) (hD.sub [0, 1, 2] (by decide) rfl) hS (lv_sub hl [0, 1, 2, 3] rfl)
  have hP : va_P (dC, dI) vwCl [(q_this, .inr (6, [.int v_stands, .int v_lent, .int v_pipe, .int v_houses, .ref q_room, .ref q_daily, .ref q_drain, .ref q_above])), (q_drain, .inl (cI, 8, .inl v_drain)), (q_above, .inl (cI, 8, .inl o4.2.2))] H := hP
  have hD : va_D A [(q_this, .inr (6, [.int v_stands, .int v_lent, .int v_pipe, .int v_houses, .ref q_room, .ref q_daily, .ref q_drain, .ref q_above])), (q_drain, .inl (cI, 8, .inl v_drain)), (q_above, .inl (cI, 8, .inl o4.2.2))] := hD
  have hl : lv_has ls 4 [(3, .int o4.1), (2, .int o4.2.1), (0, .ref q_this), (1, .int a1)] := hl
  have ho9 := Option.some.inj hrun
  subst ho9
  have hP9 := hP.sub (ws' := [(q_this, .inr (6, [.int v_stands, .int v_lent, .int v_pipe, .int v_houses, .ref q_room, .ref q_daily, .ref q_drain, .ref q_above])), (q_drain, .inl (cI, 8, .inl v_drain)), (q_above, .inl (cI, 8, .inl o4.2.2))]) [0, 1, 2] rfl
  have hD9 := hD.sub (ws' := [(q_this, .inr (6, [.int v_stands, .int v_lent, .int v_pipe, .int v_houses, .ref q_room, .ref q_daily, .ref q_drain, .ref q_above])), (q_drain, .inl (cI, 8, .inl v_drain)), (q_above, .inl (cI, 8, .inl o4.2.2))]) [0, 1, 2] (by decide) rfl
  rw [hQ]
  exact W.vret hx hb hr (fun t ht hW => ⟨⟨(), rfl, trivial, by rw [ht]; exact hP9, va_K.moved hW.alike hK, hD9⟩, hS.F ht⟩) hS.2.2 dX6_markBelow_43
def fX6_addHouse (v_houses : Int32) (v_room : Nat → Int32) (v_daily : Nat → Int32) (v_drain : Nat → Int32) (v_above : Nat → Int32) (a1 : Int32) (a2 : Int32) (a3 : Int32) : Option (Int32 × (Nat → Int32) × (Nat → Int32) × (Nat → Int32) × (Nat → Int32)) :=
  if v_houses < 8 then (if (v_houses < 0 ∨ 8 ≤ Int32.toNatClampNeg v_houses) then none else Option.bind (fX6_has v_houses a3) (fun y40 => if y40 = 0 then (Option.bind (fX6_markBelow (v_houses + 1) (upd v_drain (Int32.toNatClampNeg v_houses) (-1)) (upd v_above (Int32.toNatClampNeg v_houses) 0) ((v_houses + 1) - 1)) (fun y79 => some ((v_houses + 1), (upd v_room (Int32.toNatClampNeg v_houses) a1), (upd v_daily (Int32.toNatClampNeg v_houses) a2), (upd v_drain (Int32.toNatClampNeg v_houses) (-1)), y79))) else (Option.bind (fX6_markBelow (v_houses + 1) (upd v_drain (Int32.toNatClampNeg v_houses) a3) (upd v_above (Int32.toNatClampNeg v_houses) 0) ((v_houses + 1) - 1)) (fun y79 => some ((v_houses + 1), (upd v_room (Int32.toNatClampNeg v_houses) a1), (upd v_daily (Int32.toNatClampNeg v_houses) a2), (upd v_drain (Int32.toNatClampNeg v_houses) a3), y79))))) else (some (v_houses, v_room, v_daily, v_drain, v_above))
def rmX6_addHouse : Room := { frames := 2, cells := 0, slots := 0, locals := 44 }
set_option maxHeartbeats 4000000 in
set_option maxRecDepth 100000 in
theorem tX6_addHouse (l : Launch) (dC : Nat → ClassId) (dI : Nat → Nat → Nat) (cI cZ : ClassId) (q_above q_daily q_drain q_room q_this : Nat) (sz : Nat) (v_stands : Int32) (v_lent : Int32) (v_pipe : Int32) (v_houses : Int32) (v_room : Nat → Int32) (v_daily : Nat → Int32) (v_drain : Nat → Int32) (v_above : Nat → Int32) (a1 : Int32) (a2 : Int32) (a3 : Int32) (out : Int32 × (Nat → Int32) × (Nat → Int32) × (Nat → Int32) × (Nat → Int32)) (hrun : fX6_addHouse v_houses v_room v_daily v_drain v_above a1 a2 a3 = some out) : Met l yX6_addHouse wsX6_addHouse rmX6_addHouse (va_Pc [.ref q_this, .int a1, .int a2, .int a3] (fun U => U.heap.size = sz ∧ va_P (dC, dI) vwCl [(q_this, .inr (6, [.int v_stands, .int v_lent, .int v_pipe, .int v_houses, .ref q_room, .ref q_daily, .ref q_drain, .ref q_above])), (q_room, .inl (cI, 8, .inl v_room)), (q_daily, .inl (cI, 8, .inl v_daily)), (q_drain, .inl (cI, 8, .inl v_drain)), (q_above, .inl (cI, 8, .inl v_above))] U.heap ∧ va_K (dC, dI) vwCl [(cI, .int), (cZ, .boolean)] U ∧ va_D (fun _ => True) [(q_this, .inr (6, [.int v_stands, .int v_lent, .int v_pipe, .int v_houses, .ref q_room, .ref q_daily, .ref q_drain, .ref q_above])), (q_room, .inl (cI, 8, .inl v_room)), (q_daily, .inl (cI, 8, .inl v_daily)), (q_drain, .inl (cI, 8, .inl v_drain)), (q_above, .inl (cI, 8, .inl v_above))])) (va_Qv (fun _ : Unit => True) (fun _ t => va_P (dC, dI) vwCl [(q_this, .inr (6, [.int v_stands, .int v_lent, .int v_pipe, .int out.1, .ref q_room, .ref q_daily, .ref q_drain, .ref q_above])), (q_room, .inl (cI, 8, .inl out.2.1)), (q_daily, .inl (cI, 8, .inl out.2.2.1)), (q_drain, .inl (cI, 8, .inl out.2.2.2.1)), (q_above, .inl (cI, 8, .inl out.2.2.2.2))] t.heap ∧ va_K (dC, dI) vwCl [(cI, .int), (cZ, .boolean)] t ∧ va_D (va_A [(q_this, .inr (6, [.int v_stands, .int v_lent, .int v_pipe, .int v_houses, .ref q_room, .ref q_daily, .ref q_drain, .ref q_above])), (q_room, .inl (cI, 8, .inl v_room)), (q_daily, .inl (cI, 8, .inl v_daily)), (q_drain, .inl (cI, 8, .inl v_drain)), (q_above, .inl (cI, 8, .inl v_above))] sz) [(q_this, .inr (6, [.int v_stands, .int v_lent, .int v_pipe, .int out.1, .ref q_room, .ref q_daily, .ref q_drain, .ref q_above])), (q_room, .inl (cI, 8, .inl out.2.1)), (q_daily, .inl (cI, 8, .inl out.2.2.1)), (q_drain, .inl (cI, 8, .inl out.2.2.2.1)), (q_above, .inl (cI, 8, .inl out.2.2.2.2))]) (va_A [(q_this, .inr (6, [.int v_stands, .int v_lent, .int v_pipe, .int v_houses, .ref q_room, .ref q_daily, .ref q_drain, .ref q_above])), (q_room, .inl (cI, 8, .inl v_room)), (q_daily, .inl (cI, 8, .inl v_daily)), (q_drain, .inl (cI, 8, .inl v_drain)), (q_above, .inl (cI, 8, .inl v_above))] sz)) 0 0 (va_A [(q_this, .inr (6, [.int v_stands, .int v_lent, .int v_pipe, .int v_houses, .ref q_room, .ref q_daily, .ref q_drain, .ref q_above])), (q_room, .inl (cI, 8, .inl v_room)), (q_daily, .inl (cI, 8, .inl v_daily)), (q_drain, .inl (cI, 8, .inl v_drain)), (q_above, .inl (cI, 8, .inl v_above))] sz) := by
  refine Met.ofW (cc := cX6_addHouse) (maxL := 4) (ret := none) (by decide) rfl ?_
  intro p e s m args below meth c s₁ B hml hv
  obtain ⟨rfl, hsz, hP, hK, hD0⟩ := hv
  have hx := B.exec
  have hb := B.bytes
  have hr := B.returns
  have hts := atoms_spec (ws := wsX6_addHouse) B.pre
  have hown : s.vm.findClass RX6 = some m.cls := findClass_of_methodNamed B.named
  have hlocks := B.notSynchronized
  subst hsz
  have hD := hD0.self (sz := s.heap.size)
  generalize hAe : va_A [(q_this, .inr (6, [.int v_stands, .int v_lent, .int v_pipe, .int v_houses, .ref q_room, .ref q_daily, .ref q_drain, .ref q_above])), (q_room, .inl (cI, 8, .inl v_room)), (q_daily, .inl (cI, 8, .inl v_daily)), (q_drain, .inl (cI, 8, .inl v_drain)), (q_above, .inl (cI, 8, .inl v_above))] s.heap.size = A at hD ⊢
  have hA : ∀ q : Nat, s.heap.size ≤ q → A q := fun q h => by rw [← hAe]; exact Or.inr h
  have hS : va_S A s.heap s.heap [] := va_S.rf
  have hl := lv_entry ([.ref q_this, .int a1, .int a2, .int a3]) (n := 4) (Nat.le_of_ble_eq_true rfl)
  rw [lg_entry_eq]
  generalize (lg_sl ([.ref q_this, .int a1, .int a2, .int a3]) ++ List.replicate (4 - (lg_sl ([.ref q_this, .int a1, .int a2, .int a3])).length) Slot.unset).toArray = ls at hl ⊢
  have hl : lv_has ls 4 [(0, .ref q_this), (1, .int a1), (2, .int a2), (3, .int a3)] := hl
  unfold fX6_addHouse at hrun
  have hk35 := hts (.fieldLink RX6 35 "LentDrains$Plan" "houses" "I") (by decide +kernel)
  have hiX6 : ∀ w ∈ wsX60, w ∈ wsX6_addHouse := by decide +kernel
  have hk9 := hts (.fieldLink RX6 9 "LentDrains$Plan" "room" "[I") (by decide +kernel)
  have hk15 := hts (.fieldLink RX6 15 "LentDrains$Plan" "daily" "[I") (by decide +kernel)
  have hk18 := hts (.fieldLink RX6 18 "LentDrains$Plan" "drain" "[I") (by decide +kernel)
  have hk21 := hts (.fieldLink RX6 21 "LentDrains$Plan" "above" "[I") (by decide +kernel)
  refine oz_genQ (fun Q hQ => ?_)
  refine lv_aload_n hx hb dX6_addHouse_0 rfl (lv_at hl 0 rfl) ?_
  refine va_get (D := (dC, dI)) (ci := 6) (v := .int v_houses) (C := RX6) (T := TX6) (N := 8) hx hb hts hiX6 hown hK hP 0 rfl rfl 3 (by decide) hk35 (fun _ h9 => h9) rfl dX6_addHouse_1 ?_
  refine lv_bipush (v := 8) hx hb dX6_addHouse_4 (by decide) ?_
  refine lv_icmp_lt (tgt := 10) hx hb dX6_addHouse_6 (by decide) (fun c1 => ?_) (fun c1 => ?_)
  · have hrun := oz_t hrun c1
    refine lv_aload_n hx hb dX6_addHouse_10 rfl (lv_at hl 0 rfl) ?_
    refine va_get (D := (dC, dI)) (ci := 6) (v := .ref q_room) (C := RX6) (T := TX6) (N := 8) hx hb hts hiX6 hown hK hP 0 rfl rfl 4 (by decide) hk9 (fun _ h9 => h9) rfl dX6_addHouse_11 ?_
    refine lv_aload_n hx hb dX6_addHouse_14 rfl (lv_at hl 0 rfl) ?_
    refine va_get (D := (dC, dI)) (ci := 6) (v := .int v_houses) (C := RX6) (T := TX6) (N := 8) hx hb hts hiX6 hown hK hP 0 rfl rfl 3 (by decide) hk35 (fun _ h9 => h9) rfl dX6_addHouse_15 ?_
    refine lv_iload_n hx hb dX6_addHouse_18 rfl (lv_at hl 1 rfl) ?_
    obtain ⟨c2, hrun⟩ := oz_chk hrun
    refine va_iast hx hb hK hP hD hS 1 0 rfl rfl c2 dX6_addHouse_19 (fun H locs hP hD hS => ?_)
    have hP : va_P (dC, dI) vwCl [(q_this, .inr (6, [.int v_stands, .int v_lent, .int v_pipe, .int v_houses, .ref q_room, .ref q_daily, .ref q_drain, .ref q_above])), (q_room, .inl (cI, 8, .inl (upd v_room (Int32.toNatClampNeg v_houses) a1))), (q_daily, .inl (cI, 8, .inl v_daily)), (q_drain, .inl (cI, 8, .inl v_drain)), (q_above, .inl (cI, 8, .inl v_above))] H := hP
    have hD : va_D A [(q_this, .inr (6, [.int v_stands, .int v_lent, .int v_pipe, .int v_houses, .ref q_room, .ref q_daily, .ref q_drain, .ref q_above])), (q_room, .inl (cI, 8, .inl (upd v_room (Int32.toNatClampNeg v_houses) a1))), (q_daily, .inl (cI, 8, .inl v_daily)), (q_drain, .inl (cI, 8, .inl v_drain)), (q_above, .inl (cI, 8, .inl v_above))] := hD
    refine lv_aload_n hx hb dX6_addHouse_20 rfl (lv_at hl 0 rfl) ?_
    refine va_get (D := (dC, dI)) (ci := 6) (v := .ref q_daily) (C := RX6) (T := TX6) (N := 8) hx hb hts hiX6 hown hK hP 0 rfl rfl 5 (by decide) hk15 (fun _ h9 => h9) rfl dX6_addHouse_21 ?_
    refine lv_aload_n hx hb dX6_addHouse_24 rfl (lv_at hl 0 rfl) ?_
    refine va_get (D := (dC, dI)) (ci := 6) (v := .int v_houses) (C := RX6) (T := TX6) (N := 8) hx hb hts hiX6 hown hK hP 0 rfl rfl 3 (by decide) hk35 (fun _ h9 => h9) rfl dX6_addHouse_25 ?_
    refine lv_iload_n hx hb dX6_addHouse_28 rfl (lv_at hl 2 rfl) ?_
    refine va_iast hx hb hK hP hD hS 2 0 rfl rfl c2 dX6_addHouse_29 (fun H locs hP hD hS => ?_)
    have hP : va_P (dC, dI) vwCl [(q_this, .inr (6, [.int v_stands, .int v_lent, .int v_pipe, .int v_houses, .ref q_room, .ref q_daily, .ref q_drain, .ref q_above])), (q_room, .inl (cI, 8, .inl (upd v_room (Int32.toNatClampNeg v_houses) a1))), (q_daily, .inl (cI, 8, .inl (upd v_daily (Int32.toNatClampNeg v_houses) a2))), (q_drain, .inl (cI, 8, .inl v_drain)), (q_above, .inl (cI, 8, .inl v_above))] H := hP
    have hD : va_D A [(q_this, .inr (6, [.int v_stands, .int v_lent, .int v_pipe, .int v_houses, .ref q_room, .ref q_daily, .ref q_drain, .ref q_above])), (q_room, .inl (cI, 8, .inl (upd v_room (Int32.toNatClampNeg v_houses) a1))), (q_daily, .inl (cI, 8, .inl (upd v_daily (Int32.toNatClampNeg v_houses) a2))), (q_drain, .inl (cI, 8, .inl v_drain)), (q_above, .inl (cI, 8, .inl v_above))] := hD
    refine lv_aload_n hx hb dX6_addHouse_30 rfl (lv_at hl 0 rfl) ?_
    refine va_get (D := (dC, dI)) (ci := 6) (v := .ref q_drain) (C := RX6) (T := TX6) (N := 8) hx hb hts hiX6 hown hK hP 0 rfl rfl 6 (by decide) hk18 (fun _ h9 => h9) rfl dX6_addHouse_31 ?_
    refine lv_aload_n hx hb dX6_addHouse_34 rfl (lv_at hl 0 rfl) ?_
    refine va_get (D := (dC, dI)) (ci := 6) (v := .int v_houses) (C := RX6) (T := TX6) (N := 8) hx hb hts hiX6 hown hK hP 0 rfl rfl 3 (by decide) hk35 (fun _ h9 => h9) rfl dX6_addHouse_35 ?_
    refine lv_aload_n hx hb dX6_addHouse_38 rfl (lv_at hl 0 rfl) ?_
    refine lv_iload_n hx hb dX6_addHouse_39 rfl (lv_at hl 3 rfl) ?_
    obtain ⟨y40, hc40, hrun⟩ := oz_bind hrun
    have hPc := hP.sub (ws' := [(q_this, .inr (6, [.int v_stands, .int v_lent, .int v_pipe, .int v_houses, .ref q_room, .ref q_daily, .ref q_drain, .ref q_above]))]) [0] rfl
    have hDc := hD.sub (ws' := [(q_this, .inr (6, [.int v_stands, .int v_lent, .int v_pipe, .int v_houses, .ref q_room, .ref q_daily, .ref q_drain, .ref q_above]))]) [0] (by decide) rfl
    have hFc := va_free (wc := [(q_this, .inr (6, [.int v_stands, .int v_lent, .int v_pipe, .int v_houses, .ref q_room, .ref q_daily, .ref q_drain, .ref q_above]))]) hD hS hA [0] rfl
    refine va_calli (va_runV (As := [.int a3]) (rest := [.int v_houses, .ref q_drain]) ⟨hx, hb, hml, hown, hts⟩ (tX6_has l dC dI cI cZ q_above q_daily q_drain q_room q_this H.size v_stands v_lent v_pipe v_houses a3 y40 hc40) (cwV 1 hts gX6_addHouse_X6_has rfl rfl rfl (by decide +kernel) ⟨Nat.le_of_ble_eq_true rfl, Nat.le_of_ble_eq_true rfl⟩) ⟨fun a U g mk q => by obtain ⟨q0, q1, qP, qK, qD⟩ := q; exact ⟨q0, q1, qP, va_K.moved (u := U) (U := U.calling g mk a) (Vm.Alike.refl U.vm) qK, qD⟩, va_recv hK hPc (ci := 6) (q0 := 0) rfl rfl, fun U hU hW => ⟨rfl, by rw [hU], by rw [hU]; exact hPc, va_K.moved hW.alike hK, hDc.weaken (fun _ _ _ _ => trivial)⟩⟩ rfl rfl hl.1 rfl (lv_room (Nat.le_of_ble_eq_true rfl)) dX6_addHouse_40 ⟨Nat.le_of_ble_eq_true rfl, Nat.le_of_ble_eq_true rfl⟩) hS (fun q _ h => hFc q h) hFc (fun r40 u9 t9 H1 locs ht9 hvm9 hw9 hB9 hz9 hkk9 hS => ?_)
    have hw9 : y40 = r40 := hw9.symm
    subst hw9
    obtain ⟨hP9, hK9, hD9⟩ := hB9
    rw [ht9] at hP9
    obtain ⟨hP, hD⟩ := va_join (wr := [(q_room, .inl (cI, 8, .inl (upd v_room (Int32.toNatClampNeg v_houses) a1))), (q_daily, .inl (cI, 8, .inl (upd v_daily (Int32.toNatClampNeg v_houses) a2))), (q_drain, .inl (cI, 8, .inl v_drain)), (q_above, .inl (cI, 8, .inl v_above))]) (w1 := [(q_this, .inr (6, [.int v_stands, .int v_lent, .int v_pipe, .int v_houses, .ref q_room, .ref q_daily, .ref q_drain, .ref q_above]))]) hP hD [0] [1, 2, 3, 4] rfl rfl (by decide) (by decide) hkk9 hFc hP9 hD9
    generalize H1 = H at hP hS ⊢
    have hP : va_P (dC, dI) vwCl [(q_room, .inl (cI, 8, .inl (upd v_room (Int32.toNatClampNeg v_houses) a1))), (q_daily, .inl (cI, 8, .inl (upd v_daily (Int32.toNatClampNeg v_houses) a2))), (q_drain, .inl (cI, 8, .inl v_drain)), (q_above, .inl (cI, 8, .inl v_above)), (q_this, .inr (6, [.int v_stands, .int v_lent, .int v_pipe, .int v_houses, .ref q_room, .ref q_daily, .ref q_drain, .ref q_above]))] H := hP
    have hD : va_D A [(q_room, .inl (cI, 8, .inl (upd v_room (Int32.toNatClampNeg v_houses) a1))), (q_daily, .inl (cI, 8, .inl (upd v_daily (Int32.toNatClampNeg v_houses) a2))), (q_drain, .inl (cI, 8, .inl v_drain)), (q_above, .inl (cI, 8, .inl v_above)), (q_this, .inr (6, [.int v_stands, .int v_lent, .int v_pipe, .int v_houses, .ref q_room, .ref q_daily, .ref q_drain, .ref q_above]))] := hD
    refine lv_if_eq (tgt := 50) hx hb dX6_addHouse_43 (by decide) (fun c3 => ?_) (fun c3 => ?_)
    · have hrun := oz_t hrun c3
      refine lv_iconst (v := (-1)) hx hb dX6_addHouse_50 (by decide) ?_
      refine va_iast hx hb hK hP hD hS 2 0 rfl rfl c2 dX6_addHouse_51 (fun H locs hP hD hS => ?_)
      have hP : va_P (dC, dI) vwCl [(q_room, .inl (cI, 8, .inl (upd v_room (Int32.toNatClampNeg v_houses) a1))), (q_daily, .inl (cI, 8, .inl (upd v_daily (Int32.toNatClampNeg v_houses) a2))), (q_drain, .inl (cI, 8, .inl (upd v_drain (Int32.toNatClampNeg v_houses) (-1)))), (q_above, .inl (cI, 8, .inl v_above)), (q_this, .inr (6, [.int v_stands, .int v_lent, .int v_pipe, .int v_houses, .ref q_room, .ref q_daily, .ref q_drain, .ref q_above]))] H := hP
      have hD : va_D A [(q_room, .inl (cI, 8, .inl (upd v_room (Int32.toNatClampNeg v_houses) a1))), (q_daily, .inl (cI, 8, .inl (upd v_daily (Int32.toNatClampNeg v_houses) a2))), (q_drain, .inl (cI, 8, .inl (upd v_drain (Int32.toNatClampNeg v_houses) (-1)))), (q_above, .inl (cI, 8, .inl v_above)), (q_this, .inr (6, [.int v_stands, .int v_lent, .int v_pipe, .int v_houses, .ref q_room, .ref q_daily, .ref q_drain, .ref q_above]))] := hD
      refine lv_aload_n hx hb dX6_addHouse_52 rfl (lv_at hl 0 rfl) ?_
      refine va_get (D := (dC, dI)) (ci := 6) (v := .ref q_above) (C := RX6) (T := TX6) (N := 8) hx hb hts hiX6 hown hK hP 4 rfl rfl 7 (by decide) hk21 (fun _ h9 => h9) rfl dX6_addHouse_53 ?_
      refine lv_aload_n hx hb dX6_addHouse_56 rfl (lv_at hl 0 rfl) ?_
      refine va_get (D := (dC, dI)) (ci := 6) (v := .int v_houses) (C := RX6) (T := TX6) (N := 8) hx hb hts hiX6 hown hK hP 4 rfl rfl 3 (by decide) hk35 (fun _ h9 => h9) rfl dX6_addHouse_57 ?_
      refine lv_iconst (v := 0) hx hb dX6_addHouse_60 (by decide) ?_
      refine va_iast hx hb hK hP hD hS 3 0 rfl rfl c2 dX6_addHouse_61 (fun H locs hP hD hS => ?_)
      have hP : va_P (dC, dI) vwCl [(q_room, .inl (cI, 8, .inl (upd v_room (Int32.toNatClampNeg v_houses) a1))), (q_daily, .inl (cI, 8, .inl (upd v_daily (Int32.toNatClampNeg v_houses) a2))), (q_drain, .inl (cI, 8, .inl (upd v_drain (Int32.toNatClampNeg v_houses) (-1)))), (q_above, .inl (cI, 8, .inl (upd v_above (Int32.toNatClampNeg v_houses) 0))), (q_this, .inr (6, [.int v_stands, .int v_lent, .int v_pipe, .int v_houses, .ref q_room, .ref q_daily, .ref q_drain, .ref q_above]))] H := hP
      have hD : va_D A [(q_room, .inl (cI, 8, .inl (upd v_room (Int32.toNatClampNeg v_houses) a1))), (q_daily, .inl (cI, 8, .inl (upd v_daily (Int32.toNatClampNeg v_houses) a2))), (q_drain, .inl (cI, 8, .inl (upd v_drain (Int32.toNatClampNeg v_houses) (-1)))), (q_above, .inl (cI, 8, .inl (upd v_above (Int32.toNatClampNeg v_houses) 0))), (q_this, .inr (6, [.int v_stands, .int v_lent, .int v_pipe, .int v_houses, .ref q_room, .ref q_daily, .ref q_drain, .ref q_above]))] := hD
      refine lv_aload_n hx hb dX6_addHouse_62 rfl (lv_at hl 0 rfl) ?_
      refine lv_dup hx hb dX6_addHouse_63 rfl ?_
      refine va_get (D := (dC, dI)) (ci := 6) (v := .int v_houses) (C := RX6) (T := TX6) (N := 8) hx hb hts hiX6 hown hK hP 4 rfl rfl 3 (by decide) hk35 (fun _ h9 => h9) rfl dX6_addHouse_64 ?_
      refine lv_iconst (v := 1) hx hb dX6_addHouse_67 (by decide) ?_
      refine lv_iadd hx hb dX6_addHouse_68 ?_
      refine va_put (D := (dC, dI)) (ci := 6) (v := .int (v_houses + 1)) (ty := .int) (C := RX6) (T := TX6) (N := 8) hx hb hts hiX6 tyX6 tyX6_ok nmX6 hown hK hP hD hS 4 rfl rfl 3 (by decide) hk35 (fun _ h9 => h9) rfl (by decide +kernel) rfl rfl (Nat.le_of_ble_eq_true rfl) dX6_addHouse_69 (fun H locs hP hD hS => ?_)
      have hP : va_P (dC, dI) vwCl [(q_room, .inl (cI, 8, .inl (upd v_room (Int32.toNatClampNeg v_houses) a1))), (q_daily, .inl (cI, 8, .inl (upd v_daily (Int32.toNatClampNeg v_houses) a2))), (q_drain, .inl (cI, 8, .inl (upd v_drain (Int32.toNatClampNeg v_houses) (-1)))), (q_above, .inl (cI, 8, .inl (upd v_above (Int32.toNatClampNeg v_houses) 0))), (q_this, .inr (6, [.int v_stands, .int v_lent, .int v_pipe, .int (v_houses + 1), .ref q_room, .ref q_daily, .ref q_drain, .ref q_above]))] H := hP
      have hD : va_D A [(q_room, .inl (cI, 8, .inl (upd v_room (Int32.toNatClampNeg v_houses) a1))), (q_daily, .inl (cI, 8, .inl (upd v_daily (Int32.toNatClampNeg v_houses) a2))), (q_drain, .inl (cI, 8, .inl (upd v_drain (Int32.toNatClampNeg v_houses) (-1)))), (q_above, .inl (cI, 8, .inl (upd v_above (Int32.toNatClampNeg v_houses) 0))), (q_this, .inr (6, [.int v_stands, .int v_lent, .int v_pipe, .int (v_houses + 1), .ref q_room, .ref q_daily, .ref q_drain, .ref q_above]))] := hD
      refine lv_aload_n hx hb dX6_addHouse_72 rfl (lv_at hl 0 rfl) ?_
      refine lv_aload_n hx hb dX6_addHouse_73 rfl (lv_at hl 0 rfl) ?_
      refine va_get (D := (dC, dI)) (ci := 6) (v := .int (v_houses + 1)) (C := RX6) (T := TX6) (N := 8) hx hb hts hiX6 hown hK hP 4 rfl rfl 3 (by decide) hk35 (fun _ h9 => h9) rfl dX6_addHouse_74 ?_
      refine lv_iconst (v := 1) hx hb dX6_addHouse_77 (by decide) ?_
      refine lv_isub hx hb dX6_addHouse_78 ?_
      obtain ⟨y79, hc79, hrun⟩ := oz_bind hrun
      have hPc := hP.sub (ws' := [(q_this, .inr (6, [.int v_stands, .int v_lent, .int v_pipe, .int (v_houses + 1), .ref q_room, .ref q_daily, .ref q_drain, .ref q_above])), (q_drain, .inl (cI, 8, .inl (upd v_drain (Int32.toNatClampNeg v_houses) (-1)))), (q_above, .inl (cI, 8, .inl (upd v_above (Int32.toNatClampNeg v_houses) 0)))]) [4, 2, 3] rfl
      have hDc := hD.sub (ws' := [(q_this, .inr (6, [.int v_stands, .int v_lent, .int v_pipe, .int (v_houses + 1), .ref q_room, .ref q_daily, .ref q_drain, .ref q_above])), (q_drain, .inl (cI, 8, .inl (upd v_drain (Int32.toNatClampNeg v_houses) (-1)))), (q_above, .inl (cI, 8, .inl (upd v_above (Int32.toNatClampNeg v_houses) 0)))]) [4, 2, 3] (by decide) rfl
      have hFc := va_free (wc := [(q_this, .inr (6, [.int v_stands, .int v_lent, .int v_pipe, .int (v_houses + 1), .ref q_room, .ref q_daily, .ref q_drain, .ref q_above])), (q_drain, .inl (cI, 8, .inl (upd v_drain (Int32.toNatClampNeg v_houses) (-1)))), (q_above, .inl (cI, 8, .inl (upd v_above (Int32.toNatClampNeg v_houses) 0)))]) hD hS hA [4, 2, 3] rfl
      refine va_callv (va_runV (As := [.int ((v_houses + 1) - 1)]) (rest := []) ⟨hx, hb, hml, hown, hts⟩ (tX6_markBelow l dC dI cI cZ q_above q_daily q_drain q_room q_this H.size v_stands v_lent v_pipe (v_houses + 1) (upd v_drain (Int32.toNatClampNeg v_houses) (-1)) (upd v_above (Int32.toNatClampNeg v_houses) 0) ((v_houses + 1) - 1) y79 hc79) (cwV 1 hts gX6_addHouse_X6_markBelow rfl rfl rfl (by decide +kernel) ⟨Nat.le_of_ble_eq_true rfl, Nat.le_of_ble_eq_true rfl⟩) ⟨fun a U g mk q => by obtain ⟨q0, q1, qP, qK, qD⟩ := q; exact ⟨q0, q1, qP, va_K.moved (u := U) (U := U.calling g mk a) (Vm.Alike.refl U.vm) qK, qD⟩, va_recv hK hPc (ci := 6) (q0 := 0) rfl rfl, fun U hU hW => ⟨rfl, by rw [hU], by rw [hU]; exact hPc, va_K.moved hW.alike hK, hDc.weaken (fun _ _ _ _ => trivial)⟩⟩ rfl rfl hl.1 rfl (lv_room (Nat.le_of_ble_eq_true rfl)) dX6_addHouse_79 ⟨Nat.le_of_ble_eq_true rfl, Nat.le_of_ble_eq_true rfl⟩) hS (fun q _ h => hFc q h) hFc (fun u9 t9 H1 locs ht9 hvm9 hw9 hB9 hz9 hkk9 hS => ?_)
      obtain ⟨hP9, hK9, hD9⟩ := hB9
      rw [ht9] at hP9
      obtain ⟨hP, hD⟩ := va_join (wr := [(q_room, .inl (cI, 8, .inl (upd v_room (Int32.toNatClampNeg v_houses) a1))), (q_daily, .inl (cI, 8, .inl (upd v_daily (Int32.toNatClampNeg v_houses) a2)))]) (w1 := [(q_this, .inr (6, [.int v_stands, .int v_lent, .int v_pipe, .int (v_houses + 1), .ref q_room, .ref q_daily, .ref q_drain, .ref q_above])), (q_drain, .inl (cI, 8, .inl (upd v_drain (Int32.toNatClampNeg v_houses) (-1)))), (q_above, .inl (cI, 8, .inl y79))]) hP hD [4, 2, 3] [0, 1] rfl rfl (by decide) (by decide) hkk9 hFc hP9 hD9
      generalize H1 = H at hP hS ⊢
      have hP : va_P (dC, dI) vwCl [(q_room, .inl (cI, 8, .inl (upd v_room (Int32.toNatClampNeg v_houses) a1))), (q_daily, .inl (cI, 8, .inl (upd v_daily (Int32.toNatClampNeg v_houses) a2))), (q_this, .inr (6, [.int v_stands, .int v_lent, .int v_pipe, .int (v_houses + 1), .ref q_room, .ref q_daily, .ref q_drain, .ref q_above])), (q_drain, .inl (cI, 8, .inl (upd v_drain (Int32.toNatClampNeg v_houses) (-1)))), (q_above, .inl (cI, 8, .inl y79))] H := hP
      have hD : va_D A [(q_room, .inl (cI, 8, .inl (upd v_room (Int32.toNatClampNeg v_houses) a1))), (q_daily, .inl (cI, 8, .inl (upd v_daily (Int32.toNatClampNeg v_houses) a2))), (q_this, .inr (6, [.int v_stands, .int v_lent, .int v_pipe, .int (v_houses + 1), .ref q_room, .ref q_daily, .ref q_drain, .ref q_above])), (q_drain, .inl (cI, 8, .inl (upd v_drain (Int32.toNatClampNeg v_houses) (-1)))), (q_above, .inl (cI, 8, .inl y79))] := hD
      have ho9 := Option.some.inj hrun
      subst ho9
      have hP9 := hP.sub (ws' := [(q_this, .inr (6, [.int v_stands, .int v_lent, .int v_pipe, .int (v_houses + 1), .ref q_room, .ref q_daily, .ref q_drain, .ref q_above])), (q_room, .inl (cI, 8, .inl (upd v_room (Int32.toNatClampNeg v_houses) a1))), (q_daily, .inl (cI, 8, .inl (upd v_daily (Int32.toNatClampNeg v_houses) a2))), (q_drain, .inl (cI, 8, .inl (upd v_drain (Int32.toNatClampNeg v_houses) (-1)))), (q_above, .inl (cI, 8, .inl y79))]) [2, 0, 1, 3, 4] rfl
      have hD9 := hD.sub (ws' := [(q_this, .inr (6, [.int v_stands, .int v_lent, .int v_pipe, .int (v_houses + 1), .ref q_room, .ref q_daily, .ref q_drain, .ref q_above])), (q_room, .inl (cI, 8, .inl (upd v_room (Int32.toNatClampNeg v_houses) a1))), (q_daily, .inl (cI, 8, .inl (upd v_daily (Int32.toNatClampNeg v_houses) a2))), (q_drain, .inl (cI, 8, .inl (upd v_drain (Int32.toNatClampNeg v_houses) (-1)))), (q_above, .inl (cI, 8, .inl y79))]) [2, 0, 1, 3, 4] (by decide) rfl
      rw [hQ]
      exact W.vret hx hb hr (fun t ht hW => ⟨⟨(), rfl, trivial, by rw [ht]; exact hP9, va_K.moved hW.alike hK, hD9⟩, hS.F ht⟩) hS.2.2 dX6_addHouse_82
    · have hrun := oz_f hrun c3
      refine lv_iload_n hx hb dX6_addHouse_46 rfl (lv_at hl 3 rfl) ?_
      refine lv_goto (tgt := 51) hx hb dX6_addHouse_47 (by decide) ?_
      refine va_iast hx hb hK hP hD hS 2 0 rfl rfl c2 dX6_addHouse_51 (fun H locs hP hD hS => ?_)
      have hP : va_P (dC, dI) vwCl [(q_room, .inl (cI, 8, .inl (upd v_room (Int32.toNatClampNeg v_houses) a1))), (q_daily, .inl (cI, 8, .inl (upd v_daily (Int32.toNatClampNeg v_houses) a2))), (q_drain, .inl (cI, 8, .inl (upd v_drain (Int32.toNatClampNeg v_houses) a3))), (q_above, .inl (cI, 8, .inl v_above)), (q_this, .inr (6, [.int v_stands, .int v_lent, .int v_pipe, .int v_houses, .ref q_room, .ref q_daily, .ref q_drain, .ref q_above]))] H := hP
      have hD : va_D A [(q_room, .inl (cI, 8, .inl (upd v_room (Int32.toNatClampNeg v_houses) a1))), (q_daily, .inl (cI, 8, .inl (upd v_daily (Int32.toNatClampNeg v_houses) a2))), (q_drain, .inl (cI, 8, .inl (upd v_drain (Int32.toNatClampNeg v_houses) a3))), (q_above, .inl (cI, 8, .inl v_above)), (q_this, .inr (6, [.int v_stands, .int v_lent, .int v_pipe, .int v_houses, .ref q_room, .ref q_daily, .ref q_drain, .ref q_above]))] := hD
      refine lv_aload_n hx hb dX6_addHouse_52 rfl (lv_at hl 0 rfl) ?_
      refine va_get (D := (dC, dI)) (ci := 6) (v := .ref q_above) (C := RX6) (T := TX6) (N := 8) hx hb hts hiX6 hown hK hP 4 rfl rfl 7 (by decide) hk21 (fun _ h9 => h9) rfl dX6_addHouse_53 ?_
      refine lv_aload_n hx hb dX6_addHouse_56 rfl (lv_at hl 0 rfl) ?_
      refine va_get (D := (dC, dI)) (ci := 6) (v := .int v_houses) (C := RX6) (T := TX6) (N := 8) hx hb hts hiX6 hown hK hP 4 rfl rfl 3 (by decide) hk35 (fun _ h9 => h9) rfl dX6_addHouse_57 ?_
      refine lv_iconst (v := 0) hx hb dX6_addHouse_60 (by decide) ?_
      refine va_iast hx hb hK hP hD hS 3 0 rfl rfl c2 dX6_addHouse_61 (fun H locs hP hD hS => ?_)
      have hP : va_P (dC, dI) vwCl [(q_room, .inl (cI, 8, .inl (upd v_room (Int32.toNatClampNeg v_houses) a1))), (q_daily, .inl (cI, 8, .inl (upd v_daily (Int32.toNatClampNeg v_houses) a2))), (q_drain, .inl (cI, 8, .inl (upd v_drain (Int32.toNatClampNeg v_houses) a3))), (q_above, .inl (cI, 8, .inl (upd v_above (Int32.toNatClampNeg v_houses) 0))), (q_this, .inr (6, [.int v_stands, .int v_lent, .int v_pipe, .int v_houses, .ref q_room, .ref q_daily, .ref q_drain, .ref q_above]))] H := hP
      have hD : va_D A [(q_room, .inl (cI, 8, .inl (upd v_room (Int32.toNatClampNeg v_houses) a1))), (q_daily, .inl (cI, 8, .inl (upd v_daily (Int32.toNatClampNeg v_houses) a2))), (q_drain, .inl (cI, 8, .inl (upd v_drain (Int32.toNatClampNeg v_houses) a3))), (q_above, .inl (cI, 8, .inl (upd v_above (Int32.toNatClampNeg v_houses) 0))), (q_this, .inr (6, [.int v_stands, .int v_lent, .int v_pipe, .int v_houses, .ref q_room, .ref q_daily, .ref q_drain, .ref q_above]))] := hD
      refine lv_aload_n hx hb dX6_addHouse_62 rfl (lv_at hl 0 rfl) ?_
      refine lv_dup hx hb dX6_addHouse_63 rfl ?_
      refine va_get (D := (dC, dI)) (ci := 6) (v := .int v_houses) (C := RX6) (T := TX6) (N := 8) hx hb hts hiX6 hown hK hP 4 rfl rfl 3 (by decide) hk35 (fun _ h9 => h9) rfl dX6_addHouse_64 ?_
      refine lv_iconst (v := 1) hx hb dX6_addHouse_67 (by decide) ?_
      refine lv_iadd hx hb dX6_addHouse_68 ?_
      refine va_put (D := (dC, dI)) (ci := 6) (v := .int (v_houses + 1)) (ty := .int) (C := RX6) (T := TX6) (N := 8) hx hb hts hiX6 tyX6 tyX6_ok nmX6 hown hK hP hD hS 4 rfl rfl 3 (by decide) hk35 (fun _ h9 => h9) rfl (by decide +kernel) rfl rfl (Nat.le_of_ble_eq_true rfl) dX6_addHouse_69 (fun H locs hP hD hS => ?_)
      have hP : va_P (dC, dI) vwCl [(q_room, .inl (cI, 8, .inl (upd v_room (Int32.toNatClampNeg v_houses) a1))), (q_daily, .inl (cI, 8, .inl (upd v_daily (Int32.toNatClampNeg v_houses) a2))), (q_drain, .inl (cI, 8, .inl (upd v_drain (Int32.toNatClampNeg v_houses) a3))), (q_above, .inl (cI, 8, .inl (upd v_above (Int32.toNatClampNeg v_houses) 0))), (q_this, .inr (6, [.int v_stands, .int v_lent, .int v_pipe, .int (v_houses + 1), .ref q_room, .ref q_daily, .ref q_drain, .ref q_above]))] H := hP
      have hD : va_D A [(q_room, .inl (cI, 8, .inl (upd v_room (Int32.toNatClampNeg v_houses) a1))), (q_daily, .inl (cI, 8, .inl (upd v_daily (Int32.toNatClampNeg v_houses) a2))), (q_drain, .inl (cI, 8, .inl (upd v_drain (Int32.toNatClampNeg v_houses) a3))), (q_above, .inl (cI, 8, .inl (upd v_above (Int32.toNatClampNeg v_houses) 0))), (q_this, .inr (6, [.int v_stands, .int v_lent, .int v_pipe, .int (v_houses + 1), .ref q_room, .ref q_daily, .ref q_drain, .ref q_above]))] := hD
      refine lv_aload_n hx hb dX6_addHouse_72 rfl (lv_at hl 0 rfl) ?_
      refine lv_aload_n hx hb dX6_addHouse_73 rfl (lv_at hl 0 rfl) ?_
      refine va_get (D := (dC, dI)) (ci := 6) (v := .int (v_houses + 1)) (C := RX6) (T := TX6) (N := 8) hx hb hts hiX6 hown hK hP 4 rfl rfl 3 (by decide) hk35 (fun _ h9 => h9) rfl dX6_addHouse_74 ?_
      refine lv_iconst (v := 1) hx hb dX6_addHouse_77 (by decide) ?_
      refine lv_isub hx hb dX6_addHouse_78 ?_
      obtain ⟨y79, hc79, hrun⟩ := oz_bind hrun
      have hPc := hP.sub (ws' := [(q_this, .inr (6, [.int v_stands, .int v_lent, .int v_pipe, .int (v_houses + 1), .ref q_room, .ref q_daily, .ref q_drain, .ref q_above])), (q_drain, .inl (cI, 8, .inl (upd v_drain (Int32.toNatClampNeg v_houses) a3))), (q_above, .inl (cI, 8, .inl (upd v_above (Int32.toNatClampNeg v_houses) 0)))]) [4, 2, 3] rfl
      have hDc := hD.sub (ws' := [(q_this, .inr (6, [.int v_stands, .int v_lent, .int v_pipe, .int (v_houses + 1), .ref q_room, .ref q_daily, .ref q_drain, .ref q_above])), (q_drain, .inl (cI, 8, .inl (upd v_drain (Int32.toNatClampNeg v_houses) a3))), (q_above, .inl (cI, 8, .inl (upd v_above (Int32.toNatClampNeg v_houses) 0)))]) [4, 2, 3] (by decide) rfl
      have hFc := va_free (wc := [(q_this, .inr (6, [.int v_stands, .int v_lent, .int v_pipe, .int (v_houses + 1), .ref q_room, .ref q_daily, .ref q_drain, .ref q_above])), (q_drain, .inl (cI, 8, .inl (upd v_drain (Int32.toNatClampNeg v_houses) a3))), (q_above, .inl (cI, 8, .inl (upd v_above (Int32.toNatClampNeg v_houses) 0)))]) hD hS hA [4, 2, 3] rfl
      refine va_callv (va_runV (As := [.int ((v_houses + 1) - 1)]) (rest := []) ⟨hx, hb, hml, hown, hts⟩ (tX6_markBelow l dC dI cI cZ q_above q_daily q_drain q_room q_this H.size v_stands v_lent v_pipe (v_houses + 1) (upd v_drain (Int32.toNatClampNeg v_houses) a3) (upd v_above (Int32.toNatClampNeg v_houses) 0) ((v_houses + 1) - 1) y79 hc79) (cwV 1 hts gX6_addHouse_X6_markBelow rfl rfl rfl (by decide +kernel) ⟨Nat.le_of_ble_eq_true rfl, Nat.le_of_ble_eq_true rfl⟩) ⟨fun a U g mk q => by obtain ⟨q0, q1, qP, qK, qD⟩ := q; exact ⟨q0, q1, qP, va_K.moved (u := U) (U := U.calling g mk a) (Vm.Alike.refl U.vm) qK, qD⟩, va_recv hK hPc (ci := 6) (q0 := 0) rfl rfl, fun U hU hW => ⟨rfl, by rw [hU], by rw [hU]; exact hPc, va_K.moved hW.alike hK, hDc.weaken (fun _ _ _ _ => trivial)⟩⟩ rfl rfl hl.1 rfl (lv_room (Nat.le_of_ble_eq_true rfl)) dX6_addHouse_79 ⟨Nat.le_of_ble_eq_true rfl, Nat.le_of_ble_eq_true rfl⟩) hS (fun q _ h => hFc q h) hFc (fun u9 t9 H1 locs ht9 hvm9 hw9 hB9 hz9 hkk9 hS => ?_)
      obtain ⟨hP9, hK9, hD9⟩ := hB9
      rw [ht9] at hP9
      obtain ⟨hP, hD⟩ := va_join (wr := [(q_room, .inl (cI, 8, .inl (upd v_room (Int32.toNatClampNeg v_houses) a1))), (q_daily, .inl (cI, 8, .inl (upd v_daily (Int32.toNatClampNeg v_houses) a2)))]) (w1 := [(q_this, .inr (6, [.int v_stands, .int v_lent, .int v_pipe, .int (v_houses + 1), .ref q_room, .ref q_daily, .ref q_drain, .ref q_above])), (q_drain, .inl (cI, 8, .inl (upd v_drain (Int32.toNatClampNeg v_houses) a3))), (q_above, .inl (cI, 8, .inl y79))]) hP hD [4, 2, 3] [0, 1] rfl rfl (by decide) (by decide) hkk9 hFc hP9 hD9
      generalize H1 = H at hP hS ⊢
      have hP : va_P (dC, dI) vwCl [(q_room, .inl (cI, 8, .inl (upd v_room (Int32.toNatClampNeg v_houses) a1))), (q_daily, .inl (cI, 8, .inl (upd v_daily (Int32.toNatClampNeg v_houses) a2))), (q_this, .inr (6, [.int v_stands, .int v_lent, .int v_pipe, .int (v_houses + 1), .ref q_room, .ref q_daily, .ref q_drain, .ref q_above])), (q_drain, .inl (cI, 8, .inl (upd v_drain (Int32.toNatClampNeg v_houses) a3))), (q_above, .inl (cI, 8, .inl y79))] H := hP
      have hD : va_D A [(q_room, .inl (cI, 8, .inl (upd v_room (Int32.toNatClampNeg v_houses) a1))), (q_daily, .inl (cI, 8, .inl (upd v_daily (Int32.toNatClampNeg v_houses) a2))), (q_this, .inr (6, [.int v_stands, .int v_lent, .int v_pipe, .int (v_houses + 1), .ref q_room, .ref q_daily, .ref q_drain, .ref q_above])), (q_drain, .inl (cI, 8, .inl (upd v_drain (Int32.toNatClampNeg v_houses) a3))), (q_above, .inl (cI, 8, .inl y79))] := hD
      have ho9 := Option.some.inj hrun
      subst ho9
      have hP9 := hP.sub (ws' := [(q_this, .inr (6, [.int v_stands, .int v_lent, .int v_pipe, .int (v_houses + 1), .ref q_room, .ref q_daily, .ref q_drain, .ref q_above])), (q_room, .inl (cI, 8, .inl (upd v_room (Int32.toNatClampNeg v_houses) a1))), (q_daily, .inl (cI, 8, .inl (upd v_daily (Int32.toNatClampNeg v_houses) a2))), (q_drain, .inl (cI, 8, .inl (upd v_drain (Int32.toNatClampNeg v_houses) a3))), (q_above, .inl (cI, 8, .inl y79))]) [2, 0, 1, 3, 4] rfl
      have hD9 := hD.sub (ws' := [(q_this, .inr (6, [.int v_stands, .int v_lent, .int v_pipe, .int (v_houses + 1), .ref q_room, .ref q_daily, .ref q_drain, .ref q_above])), (q_room, .inl (cI, 8, .inl (upd v_room (Int32.toNatClampNeg v_houses) a1))), (q_daily, .inl (cI, 8, .inl (upd v_daily (Int32.toNatClampNeg v_houses) a2))), (q_drain, .inl (cI, 8, .inl (upd v_drain (Int32.toNatClampNeg v_houses) a3))), (q_above, .inl (cI, 8, .inl y79))]) [2, 0, 1, 3, 4] (by decide) rfl
      rw [hQ]
      exact W.vret hx hb hr (fun t ht hW => ⟨⟨(), rfl, trivial, by rw [ht]; exact hP9, va_K.moved hW.alike hK, hD9⟩, hS.F ht⟩) hS.2.2 dX6_addHouse_82
  · have hrun := oz_f hrun c1
    have ho9 := Option.some.inj hrun
    subst ho9
    have hP9 := hP.sub (ws' := [(q_this, .inr (6, [.int v_stands, .int v_lent, .int v_pipe, .int v_houses, .ref q_room, .ref q_daily, .ref q_drain, .ref q_above])), (q_room, .inl (cI, 8, .inl v_room)), (q_daily, .inl (cI, 8, .inl v_daily)), (q_drain, .inl (cI, 8, .inl v_drain)), (q_above, .inl (cI, 8, .inl v_above))]) [0, 1, 2, 3, 4] rfl
    have hD9 := hD.sub (ws' := [(q_this, .inr (6, [.int v_stands, .int v_lent, .int v_pipe, .int v_houses, .ref q_room, .ref q_daily, .ref q_drain, .ref q_above])), (q_room, .inl (cI, 8, .inl v_room)), (q_daily, .inl (cI, 8, .inl v_daily)), (q_drain, .inl (cI, 8, .inl v_drain)), (q_above, .inl (cI, 8, .inl v_above))]) [0, 1, 2, 3, 4] (by decide) rfl
    rw [hQ]
    exact W.vret hx hb hr (fun t ht hW => ⟨⟨(), rfl, trivial, by rw [ht]; exact hP9, va_K.moved hW.alike hK, hD9⟩, hS.F ht⟩) hS.2.2 dX6_addHouse_9
