def fX9_put (n_cells : Nat) (v_places : Int32) (v_cells : Nat → Int32) (v_p2_days : Int32) (v_p2_spilled : Int32) (v_p2_river : Int32) (v_p2_kept : Nat → Int32) (v_p2_away : Nat → Int32) (a1 : Int32) : Option ((Nat → Int32)) :=
  if a1 < 0 then (some v_cells) else (if a1 < v_places then (if ((a1 * 19) < 0 ∨ n_cells < Int32.toNatClampNeg (a1 * 19) + Int32.toNatClampNeg (8 : Int32)) then none else if (((a1 * 19) + 8) < 0 ∨ n_cells < Int32.toNatClampNeg ((a1 * 19) + 8) + Int32.toNatClampNeg (8 : Int32)) then none else if (((a1 * 19) + 16) < 0 ∨ n_cells ≤ Int32.toNatClampNeg ((a1 * 19) + 16)) then none else if ((((a1 * 19) + 16) + 1) < 0 ∨ n_cells ≤ Int32.toNatClampNeg (((a1 * 19) + 16) + 1)) then none else if ((((a1 * 19) + 16) + 2) < 0 ∨ n_cells ≤ Int32.toNatClampNeg (((a1 * 19) + 16) + 2)) then none else some (upd (upd (upd (va_cpy v_p2_away (va_cpy v_p2_kept v_cells (Int32.toNatClampNeg (0 : Int32)) (Int32.toNatClampNeg (a1 * 19)) (Int32.toNatClampNeg (8 : Int32))) (Int32.toNatClampNeg (0 : Int32)) (Int32.toNatClampNeg ((a1 * 19) + 8)) (Int32.toNatClampNeg (8 : Int32))) (Int32.toNatClampNeg ((a1 * 19) + 16)) v_p2_days) (Int32.toNatClampNeg (((a1 * 19) + 16) + 1)) v_p2_spilled) (Int32.toNatClampNeg (((a1 * 19) + 16) + 2)) v_p2_river)) else (some v_cells))
def rmX9_put : Room := { frames := 1, cells := 0, slots := 0, locals := 26 }
set_option maxHeartbeats 4000000 in
set_option maxRecDepth 100000 in
theorem tX9_put (l : Launch) (dC : Nat → ClassId) (dI : Nat → Nat → Nat) (cI cZ : ClassId) (q_cells q_p2 q_p2_away q_p2_kept q_this : Nat) (sz : Nat) (n_cells : Nat) (v_places : Int32) (v_cells : Nat → Int32) (v_p2_days : Int32) (v_p2_spilled : Int32) (v_p2_river : Int32) (v_p2_kept : Nat → Int32) (v_p2_away : Nat → Int32) (a1 : Int32) (out : (Nat → Int32)) (hrun : fX9_put n_cells v_places v_cells v_p2_days v_p2_spilled v_p2_river v_p2_kept v_p2_away a1 = some out) : Met l yX9_put wsX9_put rmX9_put (va_Pc [.ref q_this, .int a1, .ref q_p2] (fun U => U.heap.size = sz ∧ va_P (dC, dI) vwCl [(q_this, .inr (9, [.int v_places, .ref q_cells])), (q_cells, .inl (cI, n_cells, .inl v_cells)), (q_p2, .inr (10, [.ref q_p2_kept, .ref q_p2_away, .int v_p2_days, .int v_p2_spilled, .int v_p2_river])), (q_p2_kept, .inl (cI, 8, .inl v_p2_kept)), (q_p2_away, .inl (cI, 8, .inl v_p2_away))] U.heap ∧ va_K (dC, dI) vwCl [(cI, .int), (cZ, .boolean)] U ∧ va_D (fun _ => True) [(q_this, .inr (9, [.int v_places, .ref q_cells])), (q_cells, .inl (cI, n_cells, .inl v_cells)), (q_p2, .inr (10, [.ref q_p2_kept, .ref q_p2_away, .int v_p2_days, .int v_p2_spilled, .int v_p2_river])), (q_p2_kept, .inl (cI, 8, .inl v_p2_kept)), (q_p2_away, .inl (cI, 8, .inl v_p2_away))])) (va_Qv (fun _ : Unit => True) (fun _ t => va_P (dC, dI) vwCl [(q_this, .inr (9, [.int v_places, .ref q_cells])), (q_cells, .inl (cI, n_cells, .inl out)), (q_p2, .inr (10, [.ref q_p2_kept, .ref q_p2_away, .int v_p2_days, .int v_p2_spilled, .int v_p2_river])), (q_p2_kept, .inl (cI, 8, .inl v_p2_kept)), (q_p2_away, .inl (cI, 8, .inl v_p2_away))] t.heap ∧ va_K (dC, dI) vwCl [(cI, .int), (cZ, .boolean)] t ∧ va_D (va_A [(q_this, .inr (9, [.int v_places, .ref q_cells])), (q_cells, .inl (cI, n_cells, .inl v_cells)), (q_p2, .inr (10, [.ref q_p2_kept, .ref q_p2_away, .int v_p2_days, .int v_p2_spilled, .int v_p2_river])), (q_p2_kept, .inl (cI, 8, .inl v_p2_kept)), (q_p2_away, .inl (cI, 8, .inl v_p2_away))] sz) [(q_this, .inr (9, [.int v_places, .ref q_cells])), (q_cells, .inl (cI, n_cells, .inl out)), (q_p2, .inr (10, [.ref q_p2_kept, .ref q_p2_away, .int v_p2_days, .int v_p2_spilled, .int v_p2_river])), (q_p2_kept, .inl (cI, 8, .inl v_p2_kept)), (q_p2_away, .inl (cI, 8, .inl v_p2_away))]) (va_A [(q_this, .inr (9, [.int v_places, .ref q_cells])), (q_cells, .inl (cI, n_cells, .inl v_cells)), (q_p2, .inr (10, [.ref q_p2_kept, .ref q_p2_away, .int v_p2_days, .int v_p2_spilled, .int v_p2_river])), (q_p2_kept, .inl (cI, 8, .inl v_p2_kept)), (q_p2_away, .inl (cI, 8, .inl v_p2_away))] sz)) 0 0 (va_A [(q_this, .inr (9, [.int v_places, .ref q_cells])), (q_cells, .inl (cI, n_cells, .inl v_cells)), (q_p2, .inr (10, [.ref q_p2_kept, .ref q_p2_away, .int v_p2_days, .int v_p2_spilled, .int v_p2_river])), (q_p2_kept, .inl (cI, 8, .inl v_p2_kept)), (q_p2_away, .inl (cI, 8, .inl v_p2_away))] sz) := by
  refine Met.ofW (cc := cX9_put) (maxL := 4) (ret := none) (by decide) rfl ?_
  intro p e s m args below meth c s₁ B hml hv
  obtain ⟨rfl, hsz, hP, hK, hD0⟩ := hv
  have hx := B.exec
  have hb := B.bytes
  have hr := B.returns
  have hts := atoms_spec (ws := wsX9_put) B.pre
  have hown : s.vm.findClass RX9 = some m.cls := findClass_of_methodNamed B.named
  have hlocks := B.notSynchronized
  subst hsz
  have hD := hD0.self (sz := s.heap.size)
  generalize hAe : va_A [(q_this, .inr (9, [.int v_places, .ref q_cells])), (q_cells, .inl (cI, n_cells, .inl v_cells)), (q_p2, .inr (10, [.ref q_p2_kept, .ref q_p2_away, .int v_p2_days, .int v_p2_spilled, .int v_p2_river])), (q_p2_kept, .inl (cI, 8, .inl v_p2_kept)), (q_p2_away, .inl (cI, 8, .inl v_p2_away))] s.heap.size = A at hD ⊢
  have hA : ∀ q : Nat, s.heap.size ≤ q → A q := fun q h => by rw [← hAe]; exact Or.inr h
  have hS : va_S A s.heap s.heap [] := va_S.rf
  have hl := lv_entry ([.ref q_this, .int a1, .ref q_p2]) (n := 4) (Nat.le_of_ble_eq_true rfl)
  rw [lg_entry_eq]
  generalize (lg_sl ([.ref q_this, .int a1, .ref q_p2]) ++ List.replicate (4 - (lg_sl ([.ref q_this, .int a1, .ref q_p2])).length) Slot.unset).toArray = ls at hl ⊢
  have hl : lv_has ls 4 [(0, .ref q_this), (1, .int a1), (2, .ref q_p2)] := hl
  unfold fX9_put at hrun
  have hk15 := hts (.fieldLink RX9 15 "LentDrains$Shelf" "places" "I") (by decide +kernel)
  have hiX9 : ∀ w ∈ wsX90, w ∈ wsX9_put := by decide +kernel
  have hk27 := hts (.fieldLink RX9 27 "LentDrains$State" "kept" "[I") (by decide +kernel)
  have hiX10 : ∀ w ∈ wsX100, w ∈ wsX9_put := by decide +kernel
  have hk23 := hts (.fieldLink RX9 23 "LentDrains$Shelf" "cells" "[I") (by decide +kernel)
  have hk30 := hts (.methodLink RX9 30 arraycopyName) (by decide +kernel)
  have hacn := hts (.native arraycopyName) (by decide +kernel)
  have hacs := hts (.static arraycopyName) (by decide +kernel)
  have haci := hts (.initialized "java/lang/System") (by decide +kernel)
  have hk36 := hts (.fieldLink RX9 36 "LentDrains$State" "away" "[I") (by decide +kernel)
  have hk39 := hts (.fieldLink RX9 39 "LentDrains$State" "days" "I") (by decide +kernel)
  have hk42 := hts (.fieldLink RX9 42 "LentDrains$State" "spilled" "I") (by decide +kernel)
  have hk45 := hts (.fieldLink RX9 45 "LentDrains$State" "river" "I") (by decide +kernel)
  refine oz_genQ (fun Q hQ => ?_)
  refine lv_iload_n hx hb dX9_put_0 rfl (lv_at hl 1 rfl) ?_
  refine lv_if_lt (tgt := 12) hx hb dX9_put_1 (by decide) (fun c1 => ?_) (fun c1 => ?_)
  · have hrun := oz_t hrun c1
    have ho9 := Option.some.inj hrun
    subst ho9
    have hP9 := hP.sub (ws' := [(q_this, .inr (9, [.int v_places, .ref q_cells])), (q_cells, .inl (cI, n_cells, .inl v_cells)), (q_p2, .inr (10, [.ref q_p2_kept, .ref q_p2_away, .int v_p2_days, .int v_p2_spilled, .int v_p2_river])), (q_p2_kept, .inl (cI, 8, .inl v_p2_kept)), (q_p2_away, .inl (cI, 8, .inl v_p2_away))]) [0, 1, 2, 3, 4] rfl
    have hD9 := hD.sub (ws' := [(q_this, .inr (9, [.int v_places, .ref q_cells])), (q_cells, .inl (cI, n_cells, .inl v_cells)), (q_p2, .inr (10, [.ref q_p2_kept, .ref q_p2_away, .int v_p2_days, .int v_p2_spilled, .int v_p2_river])), (q_p2_kept, .inl (cI, 8, .inl v_p2_kept)), (q_p2_away, .inl (cI, 8, .inl v_p2_away))]) [0, 1, 2, 3, 4] (by decide) rfl
    rw [hQ]
    exact W.vret hx hb hr (fun t ht hW => ⟨⟨(), rfl, trivial, by rw [ht]; exact hP9, va_K.moved hW.alike hK, hD9⟩, hS.F ht⟩) hS.2.2 dX9_put_12
  · have hrun := oz_f hrun c1
    refine lv_iload_n hx hb dX9_put_4 rfl (lv_at hl 1 rfl) ?_
    refine lv_aload_n hx hb dX9_put_5 rfl (lv_at hl 0 rfl) ?_
    refine va_get (D := (dC, dI)) (ci := 9) (v := .int v_places) (C := RX9) (T := TX9) (N := 2) hx hb hts hiX9 hown hK hP 0 rfl rfl 0 (by decide) hk15 (fun _ h9 => h9) rfl dX9_put_6 ?_
    refine lv_icmp_lt (tgt := 13) hx hb dX9_put_9 (by decide) (fun c2 => ?_) (fun c2 => ?_)
    · have hrun := oz_t hrun c2
      refine lv_iload_n hx hb dX9_put_13 rfl (lv_at hl 1 rfl) ?_
      refine lv_bipush (v := 19) hx hb dX9_put_14 (by decide) ?_
      refine lv_imul hx hb dX9_put_16 ?_
      refine lv_istore_n (lv' := [(3, .int (a1 * 19)), (0, .ref q_this), (1, .int a1), (2, .ref q_p2)]) hx hb dX9_put_17 rfl hl (by decide) rfl (fun ls hl => ?_)
      refine lv_aload_n hx hb dX9_put_18 rfl (lv_at hl 3 rfl) ?_
      refine va_get (D := (dC, dI)) (ci := 10) (v := .ref q_p2_kept) (C := RX10) (T := TX10) (N := 5) hx hb hts hiX10 hown hK hP 2 rfl rfl 0 (by decide) hk27 (fun _ h9 => h9) rfl dX9_put_19 ?_
      refine lv_iconst (v := 0) hx hb dX9_put_22 (by decide) ?_
      refine lv_aload_n hx hb dX9_put_23 rfl (lv_at hl 1 rfl) ?_
      refine va_get (D := (dC, dI)) (ci := 9) (v := .ref q_cells) (C := RX9) (T := TX9) (N := 2) hx hb hts hiX9 hown hK hP 0 rfl rfl 1 (by decide) hk23 (fun _ h9 => h9) rfl dX9_put_24 ?_
      refine lv_iload_n hx hb dX9_put_27 rfl (lv_at hl 0 rfl) ?_
      refine lv_bipush (v := 8) hx hb dX9_put_28 (by decide) ?_
      obtain ⟨c3, hrun⟩ := oz_chk hrun
      refine va_copyi (ty := .int) hx hb (hml.trans hl.1.symm) hown hk30 hacn hacs haci hK hP hD hS 3 1 0 0 rfl rfl rfl rfl rfl (by decide) (fun z9 => c3 (Or.inl z9)) (by decide) (by decide) (Nat.le_of_not_lt (fun z9 => c3 (Or.inr z9))) (fun _ _ => rfl) (Nat.le_of_ble_eq_true rfl) (by decide +kernel) dX9_put_30 (fun H locs hP hD hS => ?_)
      have hP : va_P (dC, dI) vwCl [(q_this, .inr (9, [.int v_places, .ref q_cells])), (q_cells, .inl (cI, n_cells, .inl (va_cpy v_p2_kept v_cells (Int32.toNatClampNeg (0 : Int32)) (Int32.toNatClampNeg (a1 * 19)) (Int32.toNatClampNeg (8 : Int32))))), (q_p2, .inr (10, [.ref q_p2_kept, .ref q_p2_away, .int v_p2_days, .int v_p2_spilled, .int v_p2_river])), (q_p2_kept, .inl (cI, 8, .inl v_p2_kept)), (q_p2_away, .inl (cI, 8, .inl v_p2_away))] H := hP
      have hD : va_D A [(q_this, .inr (9, [.int v_places, .ref q_cells])), (q_cells, .inl (cI, n_cells, .inl (va_cpy v_p2_kept v_cells (Int32.toNatClampNeg (0 : Int32)) (Int32.toNatClampNeg (a1 * 19)) (Int32.toNatClampNeg (8 : Int32))))), (q_p2, .inr (10, [.ref q_p2_kept, .ref q_p2_away, .int v_p2_days, .int v_p2_spilled, .int v_p2_river])), (q_p2_kept, .inl (cI, 8, .inl v_p2_kept)), (q_p2_away, .inl (cI, 8, .inl v_p2_away))] := hD
      refine lv_aload_n hx hb dX9_put_33 rfl (lv_at hl 3 rfl) ?_
      refine va_get (D := (dC, dI)) (ci := 10) (v := .ref q_p2_away) (C := RX10) (T := TX10) (N := 5) hx hb hts hiX10 hown hK hP 2 rfl rfl 1 (by decide) hk36 (fun _ h9 => h9) rfl dX9_put_34 ?_
      refine lv_iconst (v := 0) hx hb dX9_put_37 (by decide) ?_
      refine lv_aload_n hx hb dX9_put_38 rfl (lv_at hl 1 rfl) ?_
      refine va_get (D := (dC, dI)) (ci := 9) (v := .ref q_cells) (C := RX9) (T := TX9) (N := 2) hx hb hts hiX9 hown hK hP 0 rfl rfl 1 (by decide) hk23 (fun _ h9 => h9) rfl dX9_put_39 ?_
      refine lv_iload_n hx hb dX9_put_42 rfl (lv_at hl 0 rfl) ?_
      refine lv_bipush (v := 8) hx hb dX9_put_43 (by decide) ?_
      refine lv_iadd hx hb dX9_put_45 ?_
      refine lv_bipush (v := 8) hx hb dX9_put_46 (by decide) ?_
      obtain ⟨c4, hrun⟩ := oz_chk hrun
      refine va_copyi (ty := .int) hx hb (hml.trans hl.1.symm) hown hk30 hacn hacs haci hK hP hD hS 4 1 0 0 rfl rfl rfl rfl rfl (by decide) (fun z9 => c4 (Or.inl z9)) (by decide) (by decide) (Nat.le_of_not_lt (fun z9 => c4 (Or.inr z9))) (fun _ _ => rfl) (Nat.le_of_ble_eq_true rfl) (by decide +kernel) dX9_put_48 (fun H locs hP hD hS => ?_)
      have hP : va_P (dC, dI) vwCl [(q_this, .inr (9, [.int v_places, .ref q_cells])), (q_cells, .inl (cI, n_cells, .inl (va_cpy v_p2_away (va_cpy v_p2_kept v_cells (Int32.toNatClampNeg (0 : Int32)) (Int32.toNatClampNeg (a1 * 19)) (Int32.toNatClampNeg (8 : Int32))) (Int32.toNatClampNeg (0 : Int32)) (Int32.toNatClampNeg ((a1 * 19) + 8)) (Int32.toNatClampNeg (8 : Int32))))), (q_p2, .inr (10, [.ref q_p2_kept, .ref q_p2_away, .int v_p2_days, .int v_p2_spilled, .int v_p2_river])), (q_p2_kept, .inl (cI, 8, .inl v_p2_kept)), (q_p2_away, .inl (cI, 8, .inl v_p2_away))] H := hP
      have hD : va_D A [(q_this, .inr (9, [.int v_places, .ref q_cells])), (q_cells, .inl (cI, n_cells, .inl (va_cpy v_p2_away (va_cpy v_p2_kept v_cells (Int32.toNatClampNeg (0 : Int32)) (Int32.toNatClampNeg (a1 * 19)) (Int32.toNatClampNeg (8 : Int32))) (Int32.toNatClampNeg (0 : Int32)) (Int32.toNatClampNeg ((a1 * 19) + 8)) (Int32.toNatClampNeg (8 : Int32))))), (q_p2, .inr (10, [.ref q_p2_kept, .ref q_p2_away, .int v_p2_days, .int v_p2_spilled, .int v_p2_river])), (q_p2_kept, .inl (cI, 8, .inl v_p2_kept)), (q_p2_away, .inl (cI, 8, .inl v_p2_away))] := hD
      refine lv_aload_n hx hb dX9_put_51 rfl (lv_at hl 1 rfl) ?_
      refine va_get (D := (dC, dI)) (ci := 9) (v := .ref q_cells) (C := RX9) (T := TX9) (N := 2) hx hb hts hiX9 hown hK hP 0 rfl rfl 1 (by decide) hk23 (fun _ h9 => h9) rfl dX9_put_52 ?_
      refine lv_iload_n hx hb dX9_put_55 rfl (lv_at hl 0 rfl) ?_
      refine lv_bipush (v := 16) hx hb dX9_put_56 (by decide) ?_
      refine lv_iadd hx hb dX9_put_58 ?_
      refine lv_aload_n hx hb dX9_put_59 rfl (lv_at hl 3 rfl) ?_
      refine va_get (D := (dC, dI)) (ci := 10) (v := .int v_p2_days) (C := RX10) (T := TX10) (N := 5) hx hb hts hiX10 hown hK hP 2 rfl rfl 2 (by decide) hk39 (fun _ h9 => h9) rfl dX9_put_60 ?_
      obtain ⟨c5, hrun⟩ := oz_chk hrun
      refine va_iast hx hb hK hP hD hS 1 0 rfl rfl c5 dX9_put_63 (fun H locs hP hD hS => ?_)
      have hP : va_P (dC, dI) vwCl [(q_this, .inr (9, [.int v_places, .ref q_cells])), (q_cells, .inl (cI, n_cells, .inl (upd (va_cpy v_p2_away (va_cpy v_p2_kept v_cells (Int32.toNatClampNeg (0 : Int32)) (Int32.toNatClampNeg (a1 * 19)) (Int32.toNatClampNeg (8 : Int32))) (Int32.toNatClampNeg (0 : Int32)) (Int32.toNatClampNeg ((a1 * 19) + 8)) (Int32.toNatClampNeg (8 : Int32))) (Int32.toNatClampNeg ((a1 * 19) + 16)) v_p2_days))), (q_p2, .inr (10, [.ref q_p2_kept, .ref q_p2_away, .int v_p2_days, .int v_p2_spilled, .int v_p2_river])), (q_p2_kept, .inl (cI, 8, .inl v_p2_kept)), (q_p2_away, .inl (cI, 8, .inl v_p2_away))] H := hP
      have hD : va_D A [(q_this, .inr (9, [.int v_places, .ref q_cells])), (q_cells, .inl (cI, n_cells, .inl (upd (va_cpy v_p2_away (va_cpy v_p2_kept v_cells (Int32.toNatClampNeg (0 : Int32)) (Int32.toNatClampNeg (a1 * 19)) (Int32.toNatClampNeg (8 : Int32))) (Int32.toNatClampNeg (0 : Int32)) (Int32.toNatClampNeg ((a1 * 19) + 8)) (Int32.toNatClampNeg (8 : Int32))) (Int32.toNatClampNeg ((a1 * 19) + 16)) v_p2_days))), (q_p2, .inr (10, [.ref q_p2_kept, .ref q_p2_away, .int v_p2_days, .int v_p2_spilled, .int v_p2_river])), (q_p2_kept, .inl (cI, 8, .inl v_p2_kept)), (q_p2_away, .inl (cI, 8, .inl v_p2_away))] := hD
      refine lv_aload_n hx hb dX9_put_64 rfl (lv_at hl 1 rfl) ?_
      refine va_get (D := (dC, dI)) (ci := 9) (v := .ref q_cells) (C := RX9) (T := TX9) (N := 2) hx hb hts hiX9 hown hK hP 0 rfl rfl 1 (by decide) hk23 (fun _ h9 => h9) rfl dX9_put_65 ?_
      refine lv_iload_n hx hb dX9_put_68 rfl (lv_at hl 0 rfl) ?_
      refine lv_bipush (v := 16) hx hb dX9_put_69 (by decide) ?_
      refine lv_iadd hx hb dX9_put_71 ?_
      refine lv_iconst (v := 1) hx hb dX9_put_72 (by decide) ?_
      refine lv_iadd hx hb dX9_put_73 ?_
      refine lv_aload_n hx hb dX9_put_74 rfl (lv_at hl 3 rfl) ?_
      refine va_get (D := (dC, dI)) (ci := 10) (v := .int v_p2_spilled) (C := RX10) (T := TX10) (N := 5) hx hb hts hiX10 hown hK hP 2 rfl rfl 3 (by decide) hk42 (fun _ h9 => h9) rfl dX9_put_75 ?_
      obtain ⟨c6, hrun⟩ := oz_chk hrun
      refine va_iast hx hb hK hP hD hS 1 0 rfl rfl c6 dX9_put_78 (fun H locs hP hD hS => ?_)
      have hP : va_P (dC, dI) vwCl [(q_this, .inr (9, [.int v_places, .ref q_cells])), (q_cells, .inl (cI, n_cells, .inl (upd (upd (va_cpy v_p2_away (va_cpy v_p2_kept v_cells (Int32.toNatClampNeg (0 : Int32)) (Int32.toNatClampNeg (a1 * 19)) (Int32.toNatClampNeg (8 : Int32))) (Int32.toNatClampNeg (0 : Int32)) (Int32.toNatClampNeg ((a1 * 19) + 8)) (Int32.toNatClampNeg (8 : Int32))) (Int32.toNatClampNeg ((a1 * 19) + 16)) v_p2_days) (Int32.toNatClampNeg (((a1 * 19) + 16) + 1)) v_p2_spilled))), (q_p2, .inr (10, [.ref q_p2_kept, .ref q_p2_away, .int v_p2_days, .int v_p2_spilled, .int v_p2_river])), (q_p2_kept, .inl (cI, 8, .inl v_p2_kept)), (q_p2_away, .inl (cI, 8, .inl v_p2_away))] H := hP
      have hD : va_D A [(q_this, .inr (9, [.int v_places, .ref q_cells])), (q_cells, .inl (cI, n_cells, .inl (upd (upd (va_cpy v_p2_away (va_cpy v_p2_kept v_cells (Int32.toNatClampNeg (0 : Int32)) (Int32.toNatClampNeg (a1 * 19)) (Int32.toNatClampNeg (8 : Int32))) (Int32.toNatClampNeg (0 : Int32)) (Int32.toNatClampNeg ((a1 * 19) + 8)) (Int32.toNatClampNeg (8 : Int32))) (Int32.toNatClampNeg ((a1 * 19) + 16)) v_p2_days) (Int32.toNatClampNeg (((a1 * 19) + 16) + 1)) v_p2_spilled))), (q_p2, .inr (10, [.ref q_p2_kept, .ref q_p2_away, .int v_p2_days, .int v_p2_spilled, .int v_p2_river])), (q_p2_kept, .inl (cI, 8, .inl v_p2_kept)), (q_p2_away, .inl (cI, 8, .inl v_p2_away))] := hD
      refine lv_aload_n hx hb dX9_put_79 rfl (lv_at hl 1 rfl) ?_
      refine va_get (D := (dC, dI)) (ci := 9) (v := .ref q_cells) (C := RX9) (T := TX9) (N := 2) hx hb hts hiX9 hown hK hP 0 rfl rfl 1 (by decide) hk23 (fun _ h9 => h9) rfl dX9_put_80 ?_
      refine lv_iload_n hx hb dX9_put_83 rfl (lv_at hl 0 rfl) ?_
      refine lv_bipush (v := 16) hx hb dX9_put_84 (by decide) ?_
      refine lv_iadd hx hb dX9_put_86 ?_
      refine lv_iconst (v := 2) hx hb dX9_put_87 (by decide) ?_
      refine lv_iadd hx hb dX9_put_88 ?_
      refine lv_aload_n hx hb dX9_put_89 rfl (lv_at hl 3 rfl) ?_
      refine va_get (D := (dC, dI)) (ci := 10) (v := .int v_p2_river) (C := RX10) (T := TX10) (N := 5) hx hb hts hiX10 hown hK hP 2 rfl rfl 4 (by decide) hk45 (fun _ h9 => h9) rfl dX9_put_90 ?_
      obtain ⟨c7, hrun⟩ := oz_chk hrun
      refine va_iast hx hb hK hP hD hS 1 0 rfl rfl c7 dX9_put_93 (fun H locs hP hD hS => ?_)
      have hP : va_P (dC, dI) vwCl [(q_this, .inr (9, [.int v_places, .ref q_cells])), (q_cells, .inl (cI, n_cells, .inl (upd (upd (upd (va_cpy v_p2_away (va_cpy v_p2_kept v_cells (Int32.toNatClampNeg (0 : Int32)) (Int32.toNatClampNeg (a1 * 19)) (Int32.toNatClampNeg (8 : Int32))) (Int32.toNatClampNeg (0 : Int32)) (Int32.toNatClampNeg ((a1 * 19) + 8)) (Int32.toNatClampNeg (8 : Int32))) (Int32.toNatClampNeg ((a1 * 19) + 16)) v_p2_days) (Int32.toNatClampNeg (((a1 * 19) + 16) + 1)) v_p2_spilled) (Int32.toNatClampNeg (((a1 * 19) + 16) + 2)) v_p2_river))), (q_p2, .inr (10, [.ref q_p2_kept, .ref q_p2_away, .int v_p2_days, .int v_p2_spilled, .int v_p2_river])), (q_p2_kept, .inl (cI, 8, .inl v_p2_kept)), (q_p2_away, .inl (cI, 8, .inl v_p2_away))] H := hP
      have hD : va_D A [(q_this, .inr (9, [.int v_places, .ref q_cells])), (q_cells, .inl (cI, n_cells, .inl (upd (upd (upd (va_cpy v_p2_away (va_cpy v_p2_kept v_cells (Int32.toNatClampNeg (0 : Int32)) (Int32.toNatClampNeg (a1 * 19)) (Int32.toNatClampNeg (8 : Int32))) (Int32.toNatClampNeg (0 : Int32)) (Int32.toNatClampNeg ((a1 * 19) + 8)) (Int32.toNatClampNeg (8 : Int32))) (Int32.toNatClampNeg ((a1 * 19) + 16)) v_p2_days) (Int32.toNatClampNeg (((a1 * 19) + 16) + 1)) v_p2_spilled) (Int32.toNatClampNeg (((a1 * 19) + 16) + 2)) v_p2_river))), (q_p2, .inr (10, [.ref q_p2_kept, .ref q_p2_away, .int v_p2_days, .int v_p2_spilled, .int v_p2_river])), (q_p2_kept, .inl (cI, 8, .inl v_p2_kept)), (q_p2_away, .inl (cI, 8, .inl v_p2_away))] := hD
      have ho9 := Option.some.inj hrun
      subst ho9
      have hP9 := hP.sub (ws' := [(q_this, .inr (9, [.int v_places, .ref q_cells])), (q_cells, .inl (cI, n_cells, .inl (upd (upd (upd (va_cpy v_p2_away (va_cpy v_p2_kept v_cells (Int32.toNatClampNeg (0 : Int32)) (Int32.toNatClampNeg (a1 * 19)) (Int32.toNatClampNeg (8 : Int32))) (Int32.toNatClampNeg (0 : Int32)) (Int32.toNatClampNeg ((a1 * 19) + 8)) (Int32.toNatClampNeg (8 : Int32))) (Int32.toNatClampNeg ((a1 * 19) + 16)) v_p2_days) (Int32.toNatClampNeg (((a1 * 19) + 16) + 1)) v_p2_spilled) (Int32.toNatClampNeg (((a1 * 19) + 16) + 2)) v_p2_river))), (q_p2, .inr (10, [.ref q_p2_kept, .ref q_p2_away, .int v_p2_days, .int v_p2_spilled, .int v_p2_river])), (q_p2_kept, .inl (cI, 8, .inl v_p2_kept)), (q_p2_away, .inl (cI, 8, .inl v_p2_away))]) [0, 1, 2, 3, 4] rfl
      have hD9 := hD.sub (ws' := [(q_this, .inr (9, [.int v_places, .ref q_cells])), (q_cells, .inl (cI, n_cells, .inl (upd (upd (upd (va_cpy v_p2_away (va_cpy v_p2_kept v_cells (Int32.toNatClampNeg (0 : Int32)) (Int32.toNatClampNeg (a1 * 19)) (Int32.toNatClampNeg (8 : Int32))) (Int32.toNatClampNeg (0 : Int32)) (Int32.toNatClampNeg ((a1 * 19) + 8)) (Int32.toNatClampNeg (8 : Int32))) (Int32.toNatClampNeg ((a1 * 19) + 16)) v_p2_days) (Int32.toNatClampNeg (((a1 * 19) + 16) + 1)) v_p2_spilled) (Int32.toNatClampNeg (((a1 * 19) + 16) + 2)) v_p2_river))), (q_p2, .inr (10, [.ref q_p2_kept, .ref q_p2_away, .int v_p2_days, .int v_p2_spilled, .int v_p2_river])), (q_p2_kept, .inl (cI, 8, .inl v_p2_kept)), (q_p2_away, .inl (cI, 8, .inl v_p2_away))]) [0, 1, 2, 3, 4] (by decide) rfl
      rw [hQ]
      exact W.vret hx hb hr (fun t ht hW => ⟨⟨(), rfl, trivial, by rw [ht]; exact hP9, va_K.moved hW.alike hK, hD9⟩, hS.F ht⟩) hS.2.2 dX9_put_94
    · have hrun := oz_f hrun c2
      have ho9 := Option.some.inj hrun
      subst ho9
      have hP9 := hP.sub (ws' := [(q_this, .inr (9, [.int v_places, .ref q_cells])), (q_cells, .inl (cI, n_cells, .inl v_cells)), (q_p2, .inr (10, [.ref q_p2_kept, .ref q_p2_away, .int v_p2_days, .int v_p2_spilled, .int v_p2_river])), (q_p2_kept, .inl (cI, 8, .inl v_p2_kept)), (q_p2_away, .inl (cI, 8, .inl v_p2_away))]) [0, 1, 2, 3, 4] rfl
      have hD9 := hD.sub (ws' := [(q_this, .inr (9, [.int v_places, .ref q_cells])), (q_cells, .inl (cI, n_cells, .inl v_cells)), (q_p2, .inr (10, [.ref q_p2_kept, .ref q_p2_away, .int v_p2_days, .int v_p2_spilled, .int v_p2_river])), (q_p2_kept, .inl (cI, 8, .inl v_p2_kept)), (q_p2_away, .inl (cI, 8, .inl v_p2_away))]) [0, 1, 2, 3, 4] (by decide) rfl
      rw [hQ]
      exact W.vret hx hb hr (fun t ht hW => ⟨⟨(), rfl, trivial, by rw [ht]; exact hP9, va_K.moved hW.alike hK, hD9⟩, hS.F ht⟩) hS.2.2 dX9_put_12
def fX9_get (n_cells : Nat) (v_places : Int32) (v_cells : Nat → Int32) (v_p2_days : Int32) (v_p2_spilled : Int32) (v_p2_river : Int32) (v_p2_kept : Nat → Int32) (v_p2_away : Nat → Int32) (a1 : Int32) : Option (Int32 × Int32 × Int32 × (Nat → Int32) × (Nat → Int32)) :=
  if a1 < 0 then (some (v_p2_days, v_p2_spilled, v_p2_river, v_p2_kept, v_p2_away)) else (if a1 < v_places then (if ((a1 * 19) < 0 ∨ n_cells < Int32.toNatClampNeg (a1 * 19) + Int32.toNatClampNeg (8 : Int32)) then none else if (((a1 * 19) + 8) < 0 ∨ n_cells < Int32.toNatClampNeg ((a1 * 19) + 8) + Int32.toNatClampNeg (8 : Int32)) then none else if (((a1 * 19) + 16) < 0 ∨ n_cells ≤ Int32.toNatClampNeg ((a1 * 19) + 16)) then none else if ((((a1 * 19) + 16) + 1) < 0 ∨ n_cells ≤ Int32.toNatClampNeg (((a1 * 19) + 16) + 1)) then none else if ((((a1 * 19) + 16) + 2) < 0 ∨ n_cells ≤ Int32.toNatClampNeg (((a1 * 19) + 16) + 2)) then none else some ((v_cells (Int32.toNatClampNeg ((a1 * 19) + 16))), (v_cells (Int32.toNatClampNeg (((a1 * 19) + 16) + 1))), (v_cells (Int32.toNatClampNeg (((a1 * 19) + 16) + 2))), (va_cpy v_cells v_p2_kept (Int32.toNatClampNeg (a1 * 19)) (Int32.toNatClampNeg (0 : Int32)) (Int32.toNatClampNeg (8 : Int32))), (va_cpy v_cells v_p2_away (Int32.toNatClampNeg ((a1 * 19) + 8)) (Int32.toNatClampNeg (0 : Int32)) (Int32.toNatClampNeg (8 : Int32))))) else (some (v_p2_days, v_p2_spilled, v_p2_river, v_p2_kept, v_p2_away)))
def rmX9_get : Room := { frames := 1, cells := 0, slots := 0, locals := 26 }
set_option maxHeartbeats 4000000 in
set_option maxRecDepth 100000 in
theorem tX9_get (l : Launch) (dC : Nat → ClassId) (dI : Nat → Nat → Nat) (cI cZ : ClassId) (q_cells q_p2 q_p2_away q_p2_kept q_this : Nat) (sz : Nat) (n_cells : Nat) (v_places : Int32) (v_cells : Nat → Int32) (v_p2_days : Int32) (v_p2_spilled : Int32) (v_p2_river : Int32) (v_p2_kept : Nat → Int32) (v_p2_away : Nat → Int32) (a1 : Int32) (out : Int32 × Int32 × Int32 × (Nat → Int32) × (Nat → Int32)) (hrun : fX9_get n_cells v_places v_cells v_p2_days v_p2_spilled v_p2_river v_p2_kept v_p2_away a1 = some out) : Met l yX9_get wsX9_get rmX9_get (va_Pc [.ref q_this, .int a1, .ref q_p2] (fun U => U.heap.size = sz ∧ va_P (dC, dI) vwCl [(q_this, .inr (9, [.int v_places, .ref q_cells])), (q_cells, .inl (cI, n_cells, .inl v_cells)), (q_p2, .inr (10, [.ref q_p2_kept, .ref q_p2_away, .int v_p2_days, .int v_p2_spilled, .int v_p2_river])), (q_p2_kept, .inl (cI, 8, .inl v_p2_kept)), (q_p2_away, .inl (cI, 8, .inl v_p2_away))] U.heap ∧ va_K (dC, dI) vwCl [(cI, .int), (cZ, .boolean)] U ∧ va_D (fun _ => True) [(q_this, .inr (9, [.int v_places, .ref q_cells])), (q_cells, .inl (cI, n_cells, .inl v_cells)), (q_p2, .inr (10, [.ref q_p2_kept, .ref q_p2_away, .int v_p2_days, .int v_p2_spilled, .int v_p2_river])), (q_p2_kept, .inl (cI, 8, .inl v_p2_kept)), (q_p2_away, .inl (cI, 8, .inl v_p2_away))])) (va_Qv (fun _ : Unit => True) (fun _ t => va_P (dC, dI) vwCl [(q_this, .inr (9, [.int v_places, .ref q_cells])), (q_cells, .inl (cI, n_cells, .inl v_cells)), (q_p2, .inr (10, [.ref q_p2_kept, .ref q_p2_away, .int out.1, .int out.2.1, .int out.2.2.1])), (q_p2_kept, .inl (cI, 8, .inl out.2.2.2.1)), (q_p2_away, .inl (cI, 8, .inl out.2.2.2.2))] t.heap ∧ va_K (dC, dI) vwCl [(cI, .int), (cZ, .boolean)] t ∧ va_D (va_A [(q_this, .inr (9, [.int v_places, .ref q_cells])), (q_cells, .inl (cI, n_cells, .inl v_cells)), (q_p2, .inr (10, [.ref q_p2_kept, .ref q_p2_away, .int v_p2_days, .int v_p2_spilled, .int v_p2_river])), (q_p2_kept, .inl (cI, 8, .inl v_p2_kept)), (q_p2_away, .inl (cI, 8, .inl v_p2_away))] sz) [(q_this, .inr (9, [.int v_places, .ref q_cells])), (q_cells, .inl (cI, n_cells, .inl v_cells)), (q_p2, .inr (10, [.ref q_p2_kept, .ref q_p2_away, .int out.1, .int out.2.1, .int out.2.2.1])), (q_p2_kept, .inl (cI, 8, .inl out.2.2.2.1)), (q_p2_away, .inl (cI, 8, .inl out.2.2.2.2))]) (va_A [(q_this, .inr (9, [.int v_places, .ref q_cells])), (q_cells, .inl (cI, n_cells, .inl v_cells)), (q_p2, .inr (10, [.ref q_p2_kept, .ref q_p2_away, .int v_p2_days, .int v_p2_spilled, .int v_p2_river])), (q_p2_kept, .inl (cI, 8, .inl v_p2_kept)), (q_p2_away, .inl (cI, 8, .inl v_p2_away))] sz)) 0 0 (va_A [(q_this, .inr (9, [.int v_places, .ref q_cells])), (q_cells, .inl (cI, n_cells, .inl v_cells)), (q_p2, .inr (10, [.ref q_p2_kept, .ref q_p2_away, .int v_p2_days, .int v_p2_spilled, .int v_p2_river])), (q_p2_kept, .inl (cI, 8, .inl v_p2_kept)), (q_p2_away, .inl (cI, 8, .inl v_p2_away))] sz) := by
  refine Met.ofW (cc := cX9_get) (maxL := 4) (ret := none) (by decide) rfl ?_
  intro p e s m args below meth c s₁ B hml hv
  obtain ⟨rfl, hsz, hP, hK, hD0⟩ := hv
  have hx := B.exec
  have hb := B.bytes
  have hr := B.returns
  have hts := atoms_spec (ws := wsX9_get) B.pre
  have hown : s.vm.findClass RX9 = some m.cls := findClass_of_methodNamed B.named
  have hlocks := B.notSynchronized
  subst hsz
  have hD := hD0.self (sz := s.heap.size)
  generalize hAe : va_A [(q_this, .inr (9, [.int v_places, .ref q_cells])), (q_cells, .inl (cI, n_cells, .inl v_cells)), (q_p2, .inr (10, [.ref q_p2_kept, .ref q_p2_away, .int v_p2_days, .int v_p2_spilled, .int v_p2_river])), (q_p2_kept, .inl (cI, 8, .inl v_p2_kept)), (q_p2_away, .inl (cI, 8, .inl v_p2_away))] s.heap.size = A at hD ⊢
  have hA : ∀ q : Nat, s.heap.size ≤ q → A q := fun q h => by rw [← hAe]; exact Or.inr h
  have hS : va_S A s.heap s.heap [] := va_S.rf
  have hl := lv_entry ([.ref q_this, .int a1, .ref q_p2]) (n := 4) (Nat.le_of_ble_eq_true rfl)
  rw [lg_entry_eq]
  generalize (lg_sl ([.ref q_this, .int a1, .ref q_p2]) ++ List.replicate (4 - (lg_sl ([.ref q_this, .int a1, .ref q_p2])).length) Slot.unset).toArray = ls at hl ⊢
  have hl : lv_has ls 4 [(0, .ref q_this), (1, .int a1), (2, .ref q_p2)] := hl
  unfold fX9_get at hrun
  have hk15 := hts (.fieldLink RX9 15 "LentDrains$Shelf" "places" "I") (by decide +kernel)
  have hiX9 : ∀ w ∈ wsX90, w ∈ wsX9_get := by decide +kernel
  have hk23 := hts (.fieldLink RX9 23 "LentDrains$Shelf" "cells" "[I") (by decide +kernel)
  have hk27 := hts (.fieldLink RX9 27 "LentDrains$State" "kept" "[I") (by decide +kernel)
  have hiX10 : ∀ w ∈ wsX100, w ∈ wsX9_get := by decide +kernel
  have hk30 := hts (.methodLink RX9 30 arraycopyName) (by decide +kernel)
  have hacn := hts (.native arraycopyName) (by decide +kernel)
  have hacs := hts (.static arraycopyName) (by decide +kernel)
  have haci := hts (.initialized "java/lang/System") (by decide +kernel)
  have hk36 := hts (.fieldLink RX9 36 "LentDrains$State" "away" "[I") (by decide +kernel)
  have hk39 := hts (.fieldLink RX9 39 "LentDrains$State" "days" "I") (by decide +kernel)
  have hk42 := hts (.fieldLink RX9 42 "LentDrains$State" "spilled" "I") (by decide +kernel)
  have hk45 := hts (.fieldLink RX9 45 "LentDrains$State" "river" "I") (by decide +kernel)
  refine oz_genQ (fun Q hQ => ?_)
  refine lv_iload_n hx hb dX9_get_0 rfl (lv_at hl 1 rfl) ?_
  refine lv_if_lt (tgt := 12) hx hb dX9_get_1 (by decide) (fun c1 => ?_) (fun c1 => ?_)
  · have hrun := oz_t hrun c1
    have ho9 := Option.some.inj hrun
    subst ho9
    have hP9 := hP.sub (ws' := [(q_this, .inr (9, [.int v_places, .ref q_cells])), (q_cells, .inl (cI, n_cells, .inl v_cells)), (q_p2, .inr (10, [.ref q_p2_kept, .ref q_p2_away, .int v_p2_days, .int v_p2_spilled, .int v_p2_river])), (q_p2_kept, .inl (cI, 8, .inl v_p2_kept)), (q_p2_away, .inl (cI, 8, .inl v_p2_away))]) [0, 1, 2, 3, 4] rfl
    have hD9 := hD.sub (ws' := [(q_this, .inr (9, [.int v_places, .ref q_cells])), (q_cells, .inl (cI, n_cells, .inl v_cells)), (q_p2, .inr (10, [.ref q_p2_kept, .ref q_p2_away, .int v_p2_days, .int v_p2_spilled, .int v_p2_river])), (q_p2_kept, .inl (cI, 8, .inl v_p2_kept)), (q_p2_away, .inl (cI, 8, .inl v_p2_away))]) [0, 1, 2, 3, 4] (by decide) rfl
    rw [hQ]
    exact W.vret hx hb hr (fun t ht hW => ⟨⟨(), rfl, trivial, by rw [ht]; exact hP9, va_K.moved hW.alike hK, hD9⟩, hS.F ht⟩) hS.2.2 dX9_get_12
  · have hrun := oz_f hrun c1
    refine lv_iload_n hx hb dX9_get_4 rfl (lv_at hl 1 rfl) ?_
    refine lv_aload_n hx hb dX9_get_5 rfl (lv_at hl 0 rfl) ?_
    refine va_get (D := (dC, dI)) (ci := 9) (v := .int v_places) (C := RX9) (T := TX9) (N := 2) hx hb hts hiX9 hown hK hP 0 rfl rfl 0 (by decide) hk15 (fun _ h9 => h9) rfl dX9_get_6 ?_
    refine lv_icmp_lt (tgt := 13) hx hb dX9_get_9 (by decide) (fun c2 => ?_) (fun c2 => ?_)
    · have hrun := oz_t hrun c2
      refine lv_iload_n hx hb dX9_get_13 rfl (lv_at hl 1 rfl) ?_
      refine lv_bipush (v := 19) hx hb dX9_get_14 (by decide) ?_
      refine lv_imul hx hb dX9_get_16 ?_
      refine lv_istore_n (lv' := [(3, .int (a1 * 19)), (0, .ref q_this), (1, .int a1), (2, .ref q_p2)]) hx hb dX9_get_17 rfl hl (by decide) rfl (fun ls hl => ?_)
      refine lv_aload_n hx hb dX9_get_18 rfl (lv_at hl 1 rfl) ?_
      refine va_get (D := (dC, dI)) (ci := 9) (v := .ref q_cells) (C := RX9) (T := TX9) (N := 2) hx hb hts hiX9 hown hK hP 0 rfl rfl 1 (by decide) hk23 (fun _ h9 => h9) rfl dX9_get_19 ?_
      refine lv_iload_n hx hb dX9_get_22 rfl (lv_at hl 0 rfl) ?_
      refine lv_aload_n hx hb dX9_get_23 rfl (lv_at hl 3 rfl) ?_
      refine va_get (D := (dC, dI)) (ci := 10) (v := .ref q_p2_kept) (C := RX10) (T := TX10) (N := 5) hx hb hts hiX10 hown hK hP 2 rfl rfl 0 (by decide) hk27 (fun _ h9 => h9) rfl dX9_get_24 ?_
      refine lv_iconst (v := 0) hx hb dX9_get_27 (by decide) ?_
      refine lv_bipush (v := 8) hx hb dX9_get_28 (by decide) ?_
      obtain ⟨c3, hrun⟩ := oz_chk hrun
      refine va_copyi (ty := .int) hx hb (hml.trans hl.1.symm) hown hk30 hacn hacs haci hK hP hD hS 1 3 0 0 rfl rfl rfl rfl rfl (fun z9 => c3 (Or.inl z9)) (by decide) (by decide) (Nat.le_of_not_lt (fun z9 => c3 (Or.inr z9))) (by decide) (fun _ _ => rfl) (Nat.le_of_ble_eq_true rfl) (by decide +kernel) dX9_get_30 (fun H locs hP hD hS => ?_)
      have hP : va_P (dC, dI) vwCl [(q_this, .inr (9, [.int v_places, .ref q_cells])), (q_cells, .inl (cI, n_cells, .inl v_cells)), (q_p2, .inr (10, [.ref q_p2_kept, .ref q_p2_away, .int v_p2_days, .int v_p2_spilled, .int v_p2_river])), (q_p2_kept, .inl (cI, 8, .inl (va_cpy v_cells v_p2_kept (Int32.toNatClampNeg (a1 * 19)) (Int32.toNatClampNeg (0 : Int32)) (Int32.toNatClampNeg (8 : Int32))))), (q_p2_away, .inl (cI, 8, .inl v_p2_away))] H := hP
      have hD : va_D A [(q_this, .inr (9, [.int v_places, .ref q_cells])), (q_cells, .inl (cI, n_cells, .inl v_cells)), (q_p2, .inr (10, [.ref q_p2_kept, .ref q_p2_away, .int v_p2_days, .int v_p2_spilled, .int v_p2_river])), (q_p2_kept, .inl (cI, 8, .inl (va_cpy v_cells v_p2_kept (Int32.toNatClampNeg (a1 * 19)) (Int32.toNatClampNeg (0 : Int32)) (Int32.toNatClampNeg (8 : Int32))))), (q_p2_away, .inl (cI, 8, .inl v_p2_away))] := hD
      refine lv_aload_n hx hb dX9_get_33 rfl (lv_at hl 1 rfl) ?_
      refine va_get (D := (dC, dI)) (ci := 9) (v := .ref q_cells) (C := RX9) (T := TX9) (N := 2) hx hb hts hiX9 hown hK hP 0 rfl rfl 1 (by decide) hk23 (fun _ h9 => h9) rfl dX9_get_34 ?_
      refine lv_iload_n hx hb dX9_get_37 rfl (lv_at hl 0 rfl) ?_
      refine lv_bipush (v := 8) hx hb dX9_get_38 (by decide) ?_
      refine lv_iadd hx hb dX9_get_40 ?_
      refine lv_aload_n hx hb dX9_get_41 rfl (lv_at hl 3 rfl) ?_
      refine va_get (D := (dC, dI)) (ci := 10) (v := .ref q_p2_away) (C := RX10) (T := TX10) (N := 5) hx hb hts hiX10 hown hK hP 2 rfl rfl 1 (by decide) hk36 (fun _ h9 => h9) rfl dX9_get_42 ?_
      refine lv_iconst (v := 0) hx hb dX9_get_45 (by decide) ?_
      refine lv_bipush (v := 8) hx hb dX9_get_46 (by decide) ?_
      obtain ⟨c4, hrun⟩ := oz_chk hrun
      refine va_copyi (ty := .int) hx hb (hml.trans hl.1.symm) hown hk30 hacn hacs haci hK hP hD hS 1 4 0 0 rfl rfl rfl rfl rfl (fun z9 => c4 (Or.inl z9)) (by decide) (by decide) (Nat.le_of_not_lt (fun z9 => c4 (Or.inr z9))) (by decide) (fun _ _ => rfl) (Nat.le_of_ble_eq_true rfl) (by decide +kernel) dX9_get_48 (fun H locs hP hD hS => ?_)
      have hP : va_P (dC, dI) vwCl [(q_this, .inr (9, [.int v_places, .ref q_cells])), (q_cells, .inl (cI, n_cells, .inl v_cells)), (q_p2, .inr (10, [.ref q_p2_kept, .ref q_p2_away, .int v_p2_days, .int v_p2_spilled, .int v_p2_river])), (q_p2_kept, .inl (cI, 8, .inl (va_cpy v_cells v_p2_kept (Int32.toNatClampNeg (a1 * 19)) (Int32.toNatClampNeg (0 : Int32)) (Int32.toNatClampNeg (8 : Int32))))), (q_p2_away, .inl (cI, 8, .inl (va_cpy v_cells v_p2_away (Int32.toNatClampNeg ((a1 * 19) + 8)) (Int32.toNatClampNeg (0 : Int32)) (Int32.toNatClampNeg (8 : Int32)))))] H := hP
      have hD : va_D A [(q_this, .inr (9, [.int v_places, .ref q_cells])), (q_cells, .inl (cI, n_cells, .inl v_cells)), (q_p2, .inr (10, [.ref q_p2_kept, .ref q_p2_away, .int v_p2_days, .int v_p2_spilled, .int v_p2_river])), (q_p2_kept, .inl (cI, 8, .inl (va_cpy v_cells v_p2_kept (Int32.toNatClampNeg (a1 * 19)) (Int32.toNatClampNeg (0 : Int32)) (Int32.toNatClampNeg (8 : Int32))))), (q_p2_away, .inl (cI, 8, .inl (va_cpy v_cells v_p2_away (Int32.toNatClampNeg ((a1 * 19) + 8)) (Int32.toNatClampNeg (0 : Int32)) (Int32.toNatClampNeg (8 : Int32)))))] := hD
      refine lv_aload_n hx hb dX9_get_51 rfl (lv_at hl 3 rfl) ?_
      refine lv_aload_n hx hb dX9_get_52 rfl (lv_at hl 1 rfl) ?_
      refine va_get (D := (dC, dI)) (ci := 9) (v := .ref q_cells) (C := RX9) (T := TX9) (N := 2) hx hb hts hiX9 hown hK hP 0 rfl rfl 1 (by decide) hk23 (fun _ h9 => h9) rfl dX9_get_53 ?_
      refine lv_iload_n hx hb dX9_get_56 rfl (lv_at hl 0 rfl) ?_
      refine lv_bipush (v := 16) hx hb dX9_get_57 (by decide) ?_
      refine lv_iadd hx hb dX9_get_59 ?_
      obtain ⟨c5, hrun⟩ := oz_chk hrun
      refine va_iald hx hb hK hP 1 0 rfl rfl c5 dX9_get_60 ?_
      refine va_put (D := (dC, dI)) (ci := 10) (v := .int (v_cells (Int32.toNatClampNeg ((a1 * 19) + 16)))) (ty := .int) (C := RX10) (T := TX10) (N := 5) hx hb hts hiX10 tyX10 tyX10_ok nmX10 hown hK hP hD hS 2 rfl rfl 2 (by decide) hk39 (fun _ h9 => h9) rfl (by decide +kernel) rfl rfl (Nat.le_of_ble_eq_true rfl) dX9_get_61 (fun H locs hP hD hS => ?_)
      have hP : va_P (dC, dI) vwCl [(q_this, .inr (9, [.int v_places, .ref q_cells])), (q_cells, .inl (cI, n_cells, .inl v_cells)), (q_p2, .inr (10, [.ref q_p2_kept, .ref q_p2_away, .int (v_cells (Int32.toNatClampNeg ((a1 * 19) + 16))), .int v_p2_spilled, .int v_p2_river])), (q_p2_kept, .inl (cI, 8, .inl (va_cpy v_cells v_p2_kept (Int32.toNatClampNeg (a1 * 19)) (Int32.toNatClampNeg (0 : Int32)) (Int32.toNatClampNeg (8 : Int32))))), (q_p2_away, .inl (cI, 8, .inl (va_cpy v_cells v_p2_away (Int32.toNatClampNeg ((a1 * 19) + 8)) (Int32.toNatClampNeg (0 : Int32)) (Int32.toNatClampNeg (8 : Int32)))))] H := hP
      have hD : va_D A [(q_this, .inr (9, [.int v_places, .ref q_cells])), (q_cells, .inl (cI, n_cells, .inl v_cells)), (q_p2, .inr (10, [.ref q_p2_kept, .ref q_p2_away, .int (v_cells (Int32.toNatClampNeg ((a1 * 19) + 16))), .int v_p2_spilled, .int v_p2_river])), (q_p2_kept, .inl (cI, 8, .inl (va_cpy v_cells v_p2_kept (Int32.toNatClampNeg (a1 * 19)) (Int32.toNatClampNeg (0 : Int32)) (Int32.toNatClampNeg (8 : Int32))))), (q_p2_away, .inl (cI, 8, .inl (va_cpy v_cells v_p2_away (Int32.toNatClampNeg ((a1 * 19) + 8)) (Int32.toNatClampNeg (0 : Int32)) (Int32.toNatClampNeg (8 : Int32)))))] := hD
      refine lv_aload_n hx hb dX9_get_64 rfl (lv_at hl 3 rfl) ?_
      refine lv_aload_n hx hb dX9_get_65 rfl (lv_at hl 1 rfl) ?_
      refine va_get (D := (dC, dI)) (ci := 9) (v := .ref q_cells) (C := RX9) (T := TX9) (N := 2) hx hb hts hiX9 hown hK hP 0 rfl rfl 1 (by decide) hk23 (fun _ h9 => h9) rfl dX9_get_66 ?_
      refine lv_iload_n hx hb dX9_get_69 rfl (lv_at hl 0 rfl) ?_
      refine lv_bipush (v := 16) hx hb dX9_get_70 (by decide) ?_
      refine lv_iadd hx hb dX9_get_72 ?_
      refine lv_iconst (v := 1) hx hb dX9_get_73 (by decide) ?_
      refine lv_iadd hx hb dX9_get_74 ?_
      obtain ⟨c6, hrun⟩ := oz_chk hrun
      refine va_iald hx hb hK hP 1 0 rfl rfl c6 dX9_get_75 ?_
      refine va_put (D := (dC, dI)) (ci := 10) (v := .int (v_cells (Int32.toNatClampNeg (((a1 * 19) + 16) + 1)))) (ty := .int) (C := RX10) (T := TX10) (N := 5) hx hb hts hiX10 tyX10 tyX10_ok nmX10 hown hK hP hD hS 2 rfl rfl 3 (by decide) hk42 (fun _ h9 => h9) rfl (by decide +kernel) rfl rfl (Nat.le_of_ble_eq_true rfl) dX9_get_76 (fun H locs hP hD hS => ?_)
      have hP : va_P (dC, dI) vwCl [(q_this, .inr (9, [.int v_places, .ref q_cells])), (q_cells, .inl (cI, n_cells, .inl v_cells)), (q_p2, .inr (10, [.ref q_p2_kept, .ref q_p2_away, .int (v_cells (Int32.toNatClampNeg ((a1 * 19) + 16))), .int (v_cells (Int32.toNatClampNeg (((a1 * 19) + 16) + 1))), .int v_p2_river])), (q_p2_kept, .inl (cI, 8, .inl (va_cpy v_cells v_p2_kept (Int32.toNatClampNeg (a1 * 19)) (Int32.toNatClampNeg (0 : Int32)) (Int32.toNatClampNeg (8 : Int32))))), (q_p2_away, .inl (cI, 8, .inl (va_cpy v_cells v_p2_away (Int32.toNatClampNeg ((a1 * 19) + 8)) (Int32.toNatClampNeg (0 : Int32)) (Int32.toNatClampNeg (8 : Int32)))))] H := hP
      have hD : va_D A [(q_this, .inr (9, [.int v_places, .ref q_cells])), (q_cells, .inl (cI, n_cells, .inl v_cells)), (q_p2, .inr (10, [.ref q_p2_kept, .ref q_p2_away, .int (v_cells (Int32.toNatClampNeg ((a1 * 19) + 16))), .int (v_cells (Int32.toNatClampNeg (((a1 * 19) + 16) + 1))), .int v_p2_river])), (q_p2_kept, .inl (cI, 8, .inl (va_cpy v_cells v_p2_kept (Int32.toNatClampNeg (a1 * 19)) (Int32.toNatClampNeg (0 : Int32)) (Int32.toNatClampNeg (8 : Int32))))), (q_p2_away, .inl (cI, 8, .inl (va_cpy v_cells v_p2_away (Int32.toNatClampNeg ((a1 * 19) + 8)) (Int32.toNatClampNeg (0 : Int32)) (Int32.toNatClampNeg (8 : Int32)))))] := hD
      refine lv_aload_n hx hb dX9_get_79 rfl (lv_at hl 3 rfl) ?_
      refine lv_aload_n hx hb dX9_get_80 rfl (lv_at hl 1 rfl) ?_
      refine va_get (D := (dC, dI)) (ci := 9) (v := .ref q_cells) (C := RX9) (T := TX9) (N := 2) hx hb hts hiX9 hown hK hP 0 rfl rfl 1 (by decide) hk23 (fun _ h9 => h9) rfl dX9_get_81 ?_
      refine lv_iload_n hx hb dX9_get_84 rfl (lv_at hl 0 rfl) ?_
      refine lv_bipush (v := 16) hx hb dX9_get_85 (by decide) ?_
      refine lv_iadd hx hb dX9_get_87 ?_
      refine lv_iconst (v := 2) hx hb dX9_get_88 (by decide) ?_
      refine lv_iadd hx hb dX9_get_89 ?_
      obtain ⟨c7, hrun⟩ := oz_chk hrun
      refine va_iald hx hb hK hP 1 0 rfl rfl c7 dX9_get_90 ?_
      refine va_put (D := (dC, dI)) (ci := 10) (v := .int (v_cells (Int32.toNatClampNeg (((a1 * 19) + 16) + 2)))) (ty := .int) (C := RX10) (T := TX10) (N := 5) hx hb hts hiX10 tyX10 tyX10_ok nmX10 hown hK hP hD hS 2 rfl rfl 4 (by decide) hk45 (fun _ h9 => h9) rfl (by decide +kernel) rfl rfl (Nat.le_of_ble_eq_true rfl) dX9_get_91 (fun H locs hP hD hS => ?_)
      have hP : va_P (dC, dI) vwCl [(q_this, .inr (9, [.int v_places, .ref q_cells])), (q_cells, .inl (cI, n_cells, .inl v_cells)), (q_p2, .inr (10, [.ref q_p2_kept, .ref q_p2_away, .int (v_cells (Int32.toNatClampNeg ((a1 * 19) + 16))), .int (v_cells (Int32.toNatClampNeg (((a1 * 19) + 16) + 1))), .int (v_cells (Int32.toNatClampNeg (((a1 * 19) + 16) + 2)))])), (q_p2_kept, .inl (cI, 8, .inl (va_cpy v_cells v_p2_kept (Int32.toNatClampNeg (a1 * 19)) (Int32.toNatClampNeg (0 : Int32)) (Int32.toNatClampNeg (8 : Int32))))), (q_p2_away, .inl (cI, 8, .inl (va_cpy v_cells v_p2_away (Int32.toNatClampNeg ((a1 * 19) + 8)) (Int32.toNatClampNeg (0 : Int32)) (Int32.toNatClampNeg (8 : Int32)))))] H := hP
      have hD : va_D A [(q_this, .inr (9, [.int v_places, .ref q_cells])), (q_cells, .inl (cI, n_cells, .inl v_cells)), (q_p2, .inr (10, [.ref q_p2_kept, .ref q_p2_away, .int (v_cells (Int32.toNatClampNeg ((a1 * 19) + 16))), .int (v_cells (Int32.toNatClampNeg (((a1 * 19) + 16) + 1))), .int (v_cells (Int32.toNatClampNeg (((a1 * 19) + 16) + 2)))])), (q_p2_kept, .inl (cI, 8, .inl (va_cpy v_cells v_p2_kept (Int32.toNatClampNeg (a1 * 19)) (Int32.toNatClampNeg (0 : Int32)) (Int32.toNatClampNeg (8 : Int32))))), (q_p2_away, .inl (cI, 8, .inl (va_cpy v_cells v_p2_away (Int32.toNatClampNeg ((a1 * 19) + 8)) (Int32.toNatClampNeg (0 : Int32)) (Int32.toNatClampNeg (8 : Int32)))))] := hD
      have ho9 := Option.some.inj hrun
      subst ho9
      have hP9 := hP.sub (ws' := [(q_this, .inr (9, [.int v_places, .ref q_cells])), (q_cells, .inl (cI, n_cells, .inl v_cells)), (q_p2, .inr (10, [.ref q_p2_kept, .ref q_p2_away, .int (v_cells (Int32.toNatClampNeg ((a1 * 19) + 16))), .int (v_cells (Int32.toNatClampNeg (((a1 * 19) + 16) + 1))), .int (v_cells (Int32.toNatClampNeg (((a1 * 19) + 16) + 2)))])), (q_p2_kept, .inl (cI, 8, .inl (va_cpy v_cells v_p2_kept (Int32.toNatClampNeg (a1 * 19)) (Int32.toNatClampNeg (0 : Int32)) (Int32.toNatClampNeg (8 : Int32))))), (q_p2_away, .inl (cI, 8, .inl (va_cpy v_cells v_p2_away (Int32.toNatClampNeg ((a1 * 19) + 8)) (Int32.toNatClampNeg (0 : Int32)) (Int32.toNatClampNeg (8 : Int32)))))]) [0, 1, 2, 3, 4] rfl
      have hD9 := hD.sub (ws' := [(q_this, .inr (9, [.int v_places, .ref q_cells])), (q_cells, .inl (cI, n_cells, .inl v_cells)), (q_p2, .inr (10, [.ref q_p2_kept, .ref q_p2_away, .int (v_cells (Int32.toNatClampNeg ((a1 * 19) + 16))), .int (v_cells (Int32.toNatClampNeg (((a1 * 19) + 16) + 1))), .int (v_cells (Int32.toNatClampNeg (((a1 * 19) + 16) + 2)))])), (q_p2_kept, .inl (cI, 8, .inl (va_cpy v_cells v_p2_kept (Int32.toNatClampNeg (a1 * 19)) (Int32.toNatClampNeg (0 : Int32)) (Int32.toNatClampNeg (8 : Int32))))), (q_p2_away, .inl (cI, 8, .inl (va_cpy v_cells v_p2_away (Int32.toNatClampNeg ((a1 * 19) + 8)) (Int32.toNatClampNeg (0 : Int32)) (Int32.toNatClampNeg (8 : Int32)))))]) [0, 1, 2, 3, 4] (by decide) rfl
      rw [hQ]
      exact W.vret hx hb hr (fun t ht hW => ⟨⟨(), rfl, trivial, by rw [ht]; exact hP9, va_K.moved hW.alike hK, hD9⟩, hS.F ht⟩) hS.2.2 dX9_get_94
    · have hrun := oz_f hrun c2
      have ho9 := Option.some.inj hrun
      subst ho9
      have hP9 := hP.sub (ws' := [(q_this, .inr (9, [.int v_places, .ref q_cells])), (q_cells, .inl (cI, n_cells, .inl v_cells)), (q_p2, .inr (10, [.ref q_p2_kept, .ref q_p2_away, .int v_p2_days, .int v_p2_spilled, .int v_p2_river])), (q_p2_kept, .inl (cI, 8, .inl v_p2_kept)), (q_p2_away, .inl (cI, 8, .inl v_p2_away))]) [0, 1, 2, 3, 4] rfl
      have hD9 := hD.sub (ws' := [(q_this, .inr (9, [.int v_places, .ref q_cells])), (q_cells, .inl (cI, n_cells, .inl v_cells)), (q_p2, .inr (10, [.ref q_p2_kept, .ref q_p2_away, .int v_p2_days, .int v_p2_spilled, .int v_p2_river])), (q_p2_kept, .inl (cI, 8, .inl v_p2_kept)), (q_p2_away, .inl (cI, 8, .inl v_p2_away))]) [0, 1, 2, 3, 4] (by decide) rfl
      rw [hQ]
      exact W.vret hx hb hr (fun t ht hW => ⟨⟨(), rfl, trivial, by rw [ht]; exact hP9, va_K.moved hW.alike hK, hD9⟩, hS.F ht⟩) hS.2.2 dX9_get_12
def fX2_clear (v_end : Int32) (v_count : Int32) : Option (Int32 × Int32) :=
  some (0, 0)
def rmX2_clear : Room := { frames := 0, cells := 0, slots := 0, locals := 0 }
set_option maxHeartbeats 4000000 in
set_option maxRecDepth 100000 in
theorem tX2_clear (l : Launch) (dC : Nat → ClassId) (dI : Nat → Nat → Nat) (cI cZ : ClassId) (q_shelf q_this : Nat) (sz : Nat) (v_end : Int32) (v_count : Int32) (out : Int32 × Int32) (hrun : fX2_clear v_end v_count = some out) : Met l yX2_clear wsX2_clear rmX2_clear (va_Pc [.ref q_this] (fun U => U.heap.size = sz ∧ va_P (dC, dI) vwCl [(q_this, .inr (2, [.ref q_shelf, .int v_end, .int v_count]))] U.heap ∧ va_K (dC, dI) vwCl [(cI, .int), (cZ, .boolean)] U ∧ va_D (fun _ => True) [(q_this, .inr (2, [.ref q_shelf, .int v_end, .int v_count]))])) (va_Qv (fun _ : Unit => True) (fun _ t => va_P (dC, dI) vwCl [(q_this, .inr (2, [.ref q_shelf, .int out.1, .int out.2]))] t.heap ∧ va_K (dC, dI) vwCl [(cI, .int), (cZ, .boolean)] t ∧ va_D (va_A [(q_this, .inr (2, [.ref q_shelf, .int v_end, .int v_count]))] sz) [(q_this, .inr (2, [.ref q_shelf, .int out.1, .int out.2]))]) (va_A [(q_this, .inr (2, [.ref q_shelf, .int v_end, .int v_count]))] sz)) 0 0 (va_A [(q_this, .inr (2, [.ref q_shelf, .int v_end, .int v_count]))] sz) := by
  refine Met.ofW (cc := cX2_clear) (maxL := 1) (ret := none) (by decide) rfl ?_
  intro p e s m args below meth c s₁ B hml hv
  obtain ⟨rfl, hsz, hP, hK, hD0⟩ := hv
  have hx := B.exec
  have hb := B.bytes
  have hr := B.returns
  have hts := atoms_spec (ws := wsX2_clear) B.pre
  have hown : s.vm.findClass RX2 = some m.cls := findClass_of_methodNamed B.named
  have hlocks := B.notSynchronized
  subst hsz
  have hD := hD0.self (sz := s.heap.size)
  generalize hAe : va_A [(q_this, .inr (2, [.ref q_shelf, .int v_end, .int v_count]))] s.heap.size = A at hD ⊢
  have hA : ∀ q : Nat, s.heap.size ≤ q → A q := fun q h => by rw [← hAe]; exact Or.inr h
  have hS : va_S A s.heap s.heap [] := va_S.rf
  have hl := lv_entry ([.ref q_this]) (n := 1) (Nat.le_of_ble_eq_true rfl)
  rw [lg_entry_eq]
  generalize (lg_sl ([.ref q_this]) ++ List.replicate (1 - (lg_sl ([.ref q_this])).length) Slot.unset).toArray = ls at hl ⊢
  have hl : lv_has ls 1 [(0, .ref q_this)] := hl
  unfold fX2_clear at hrun
  have hk18 := hts (.fieldLink RX2 18 "LentDrains$History" "end" "I") (by decide +kernel)
  have hiX2 : ∀ w ∈ wsX20, w ∈ wsX2_clear := by decide +kernel
  have hk22 := hts (.fieldLink RX2 22 "LentDrains$History" "count" "I") (by decide +kernel)
  refine oz_genQ (fun Q hQ => ?_)
  refine lv_aload_n hx hb dX2_clear_0 rfl (lv_at hl 0 rfl) ?_
  refine lv_iconst (v := 0) hx hb dX2_clear_1 (by decide) ?_
  refine va_put (D := (dC, dI)) (ci := 2) (v := .int 0) (ty := .int) (C := RX2) (T := TX2) (N := 3) hx hb hts hiX2 tyX2 tyX2_ok nmX2 hown hK hP hD hS 0 rfl rfl 1 (by decide) hk18 (fun _ h9 => h9) rfl (by decide +kernel) rfl rfl (Nat.le_of_ble_eq_true rfl) dX2_clear_2 (fun H locs hP hD hS => ?_)
  have hP : va_P (dC, dI) vwCl [(q_this, .inr (2, [.ref q_shelf, .int 0, .int v_count]))] H := hP
  have hD : va_D A [(q_this, .inr (2, [.ref q_shelf, .int 0, .int v_count]))] := hD
  refine lv_aload_n hx hb dX2_clear_5 rfl (lv_at hl 0 rfl) ?_
  refine lv_iconst (v := 0) hx hb dX2_clear_6 (by decide) ?_
  refine va_put (D := (dC, dI)) (ci := 2) (v := .int 0) (ty := .int) (C := RX2) (T := TX2) (N := 3) hx hb hts hiX2 tyX2 tyX2_ok nmX2 hown hK hP hD hS 0 rfl rfl 2 (by decide) hk22 (fun _ h9 => h9) rfl (by decide +kernel) rfl rfl (Nat.le_of_ble_eq_true rfl) dX2_clear_7 (fun H locs hP hD hS => ?_)
  have hP : va_P (dC, dI) vwCl [(q_this, .inr (2, [.ref q_shelf, .int 0, .int 0]))] H := hP
  have hD : va_D A [(q_this, .inr (2, [.ref q_shelf, .int 0, .int 0]))] := hD
  have ho9 := Option.some.inj hrun
  subst ho9
  have hP9 := hP.sub (ws' := [(q_this, .inr (2, [.ref q_shelf, .int 0, .int 0]))]) [0] rfl
  have hD9 := hD.sub (ws' := [(q_this, .inr (2, [.ref q_shelf, .int 0, .int 0]))]) [0] (by decide) rfl
  rw [hQ]
  exact W.vret hx hb hr (fun t ht hW => ⟨⟨(), rfl, trivial, by rw [ht]; exact hP9, va_K.moved hW.alike hK, hD9⟩, hS.F ht⟩) hS.2.2 dX2_clear_10
def fX2_remember (v_end : Int32) (v_count : Int32) (v_shelf_places : Int32) (v_shelf_cells : Nat → Int32) (v_p1_days : Int32) (v_p1_spilled : Int32) (v_p1_river : Int32) (v_p1_kept : Nat → Int32) (v_p1_away : Nat → Int32) : Option (Int32 × Int32 × (Nat → Int32)) :=
  Option.bind (fX9_put 570 v_shelf_places v_shelf_cells v_p1_days v_p1_spilled v_p1_river v_p1_kept v_p1_away v_end) (fun y9 => some (((v_end + 1) - (v_end + 1) / 30 * 30), (if (v_count + 1) < 30 then (v_count + 1) else 30), y9))
def rmX2_remember : Room := { frames := 2, cells := 0, slots := 0, locals := 49 }
set_option maxHeartbeats 4000000 in
set_option maxRecDepth 100000 in
theorem tX2_remember (l : Launch) (dC : Nat → ClassId) (dI : Nat → Nat → Nat) (cI cZ : ClassId) (q_p1 q_p1_away q_p1_kept q_shelf q_shelf_cells q_this : Nat) (sz : Nat) (v_end : Int32) (v_count : Int32) (v_shelf_places : Int32) (v_shelf_cells : Nat → Int32) (v_p1_days : Int32) (v_p1_spilled : Int32) (v_p1_river : Int32) (v_p1_kept : Nat → Int32) (v_p1_away : Nat → Int32) (out : Int32 × Int32 × (Nat → Int32)) (hrun : fX2_remember v_end v_count v_shelf_places v_shelf_cells v_p1_days v_p1_spilled v_p1_river v_p1_kept v_p1_away = some out) : Met l yX2_remember wsX2_remember rmX2_remember (va_Pc [.ref q_this, .ref q_p1] (fun U => U.heap.size = sz ∧ va_P (dC, dI) vwCl [(q_this, .inr (2, [.ref q_shelf, .int v_end, .int v_count])), (q_shelf, .inr (9, [.int v_shelf_places, .ref q_shelf_cells])), (q_shelf_cells, .inl (cI, 570, .inl v_shelf_cells)), (q_p1, .inr (10, [.ref q_p1_kept, .ref q_p1_away, .int v_p1_days, .int v_p1_spilled, .int v_p1_river])), (q_p1_kept, .inl (cI, 8, .inl v_p1_kept)), (q_p1_away, .inl (cI, 8, .inl v_p1_away))] U.heap ∧ va_K (dC, dI) vwCl [(cI, .int), (cZ, .boolean)] U ∧ va_D (fun _ => True) [(q_this, .inr (2, [.ref q_shelf, .int v_end, .int v_count])), (q_shelf, .inr (9, [.int v_shelf_places, .ref q_shelf_cells])), (q_shelf_cells, .inl (cI, 570, .inl v_shelf_cells)), (q_p1, .inr (10, [.ref q_p1_kept, .ref q_p1_away, .int v_p1_days, .int v_p1_spilled, .int v_p1_river])), (q_p1_kept, .inl (cI, 8, .inl v_p1_kept)), (q_p1_away, .inl (cI, 8, .inl v_p1_away))])) (va_Qv (fun _ : Unit => True) (fun _ t => va_P (dC, dI) vwCl [(q_this, .inr (2, [.ref q_shelf, .int out.1, .int out.2.1])), (q_shelf, .inr (9, [.int v_shelf_places, .ref q_shelf_cells])), (q_shelf_cells, .inl (cI, 570, .inl out.2.2)), (q_p1, .inr (10, [.ref q_p1_kept, .ref q_p1_away, .int v_p1_days, .int v_p1_spilled, .int v_p1_river])), (q_p1_kept, .inl (cI, 8, .inl v_p1_kept)), (q_p1_away, .inl (cI, 8, .inl v_p1_away))] t.heap ∧ va_K (dC, dI) vwCl [(cI, .int), (cZ, .boolean)] t ∧ va_D (va_A [(q_this, .inr (2, [.ref q_shelf, .int v_end, .int v_count])), (q_shelf, .inr (9, [.int v_shelf_places, .ref q_shelf_cells])), (q_shelf_cells, .inl (cI, 570, .inl v_shelf_cells)), (q_p1, .inr (10, [.ref q_p1_kept, .ref q_p1_away, .int v_p1_days, .int v_p1_spilled, .int v_p1_river])), (q_p1_kept, .inl (cI, 8, .inl v_p1_kept)), (q_p1_away, .inl (cI, 8, .inl v_p1_away))] sz) [(q_this, .inr (2, [.ref q_shelf, .int out.1, .int out.2.1])), (q_shelf, .inr (9, [.int v_shelf_places, .ref q_shelf_cells])), (q_shelf_cells, .inl (cI, 570, .inl out.2.2)), (q_p1, .inr (10, [.ref q_p1_kept, .ref q_p1_away, .int v_p1_days, .int v_p1_spilled, .int v_p1_river])), (q_p1_kept, .inl (cI, 8, .inl v_p1_kept)), (q_p1_away, .inl (cI, 8, .inl v_p1_away))]) (va_A [(q_this, .inr (2, [.ref q_shelf, .int v_end, .int v_count])), (q_shelf, .inr (9, [.int v_shelf_places, .ref q_shelf_cells])), (q_shelf_cells, .inl (cI, 570, .inl v_shelf_cells)), (q_p1, .inr (10, [.ref q_p1_kept, .ref q_p1_away, .int v_p1_days, .int v_p1_spilled, .int v_p1_river])), (q_p1_kept, .inl (cI, 8, .inl v_p1_kept)), (q_p1_away, .inl (cI, 8, .inl v_p1_away))] sz)) 0 0 (va_A [(q_this, .inr (2, [.ref q_shelf, .int v_end, .int v_count])), (q_shelf, .inr (9, [.int v_shelf_places, .ref q_shelf_cells])), (q_shelf_cells, .inl (cI, 570, .inl v_shelf_cells)), (q_p1, .inr (10, [.ref q_p1_kept, .ref q_p1_away, .int v_p1_days, .int v_p1_spilled, .int v_p1_river])), (q_p1_kept, .inl (cI, 8, .inl v_p1_kept)), (q_p1_away, .inl (cI, 8, .inl v_p1_away))] sz) := by
  refine Met.ofW (cc := cX2_remember) (maxL := 2) (ret := none) (by decide) rfl ?_
  intro p e s m args below meth c s₁ B hml hv
  obtain ⟨rfl, hsz, hP, hK, hD0⟩ := hv
  have hx := B.exec
  have hb := B.bytes
  have hr := B.returns
  have hts := atoms_spec (ws := wsX2_remember) B.pre
  have hown : s.vm.findClass RX2 = some m.cls := findClass_of_methodNamed B.named
  have hlocks := B.notSynchronized
  subst hsz
  have hD := hD0.self (sz := s.heap.size)
  generalize hAe : va_A [(q_this, .inr (2, [.ref q_shelf, .int v_end, .int v_count])), (q_shelf, .inr (9, [.int v_shelf_places, .ref q_shelf_cells])), (q_shelf_cells, .inl (cI, 570, .inl v_shelf_cells)), (q_p1, .inr (10, [.ref q_p1_kept, .ref q_p1_away, .int v_p1_days, .int v_p1_spilled, .int v_p1_river])), (q_p1_kept, .inl (cI, 8, .inl v_p1_kept)), (q_p1_away, .inl (cI, 8, .inl v_p1_away))] s.heap.size = A at hD ⊢
  have hA : ∀ q : Nat, s.heap.size ≤ q → A q := fun q h => by rw [← hAe]; exact Or.inr h
  have hS : va_S A s.heap s.heap [] := va_S.rf
  have hl := lv_entry ([.ref q_this, .ref q_p1]) (n := 2) (Nat.le_of_ble_eq_true rfl)
  rw [lg_entry_eq]
  generalize (lg_sl ([.ref q_this, .ref q_p1]) ++ List.replicate (2 - (lg_sl ([.ref q_this, .ref q_p1])).length) Slot.unset).toArray = ls at hl ⊢
  have hl : lv_has ls 2 [(0, .ref q_this), (1, .ref q_p1)] := hl
  unfold fX2_remember at hrun
  have hk14 := hts (.fieldLink RX2 14 "LentDrains$History" "shelf" "LLentDrains$Shelf;") (by decide +kernel)
  have hiX2 : ∀ w ∈ wsX20, w ∈ wsX2_remember := by decide +kernel
  have hk18 := hts (.fieldLink RX2 18 "LentDrains$History" "end" "I") (by decide +kernel)
  have hk22 := hts (.fieldLink RX2 22 "LentDrains$History" "count" "I") (by decide +kernel)
  have hk29 := hts (.methodLink RX2 29 Lib.Math.min.name) (by decide +kernel)
  have hst_min := hts (.static Lib.Math.min.name) (by decide +kernel)
  have hiniM := hts (.initialized "java/lang/Math") (by decide +kernel)
  have hcd_min := hts (.code Lib.Math.min.name Lib.Math.min.code 2 (some .int)) (by decide +kernel)
  refine oz_genQ (fun Q hQ => ?_)
  refine lv_aload_n hx hb dX2_remember_0 rfl (lv_at hl 0 rfl) ?_
  refine va_get (D := (dC, dI)) (ci := 2) (v := .ref q_shelf) (C := RX2) (T := TX2) (N := 3) hx hb hts hiX2 hown hK hP 0 rfl rfl 0 (by decide) hk14 (fun _ h9 => h9) rfl dX2_remember_1 ?_
  refine lv_aload_n hx hb dX2_remember_4 rfl (lv_at hl 0 rfl) ?_
  refine va_get (D := (dC, dI)) (ci := 2) (v := .int v_end) (C := RX2) (T := TX2) (N := 3) hx hb hts hiX2 hown hK hP 0 rfl rfl 1 (by decide) hk18 (fun _ h9 => h9) rfl dX2_remember_5 ?_
  refine lv_aload_n hx hb dX2_remember_8 rfl (lv_at hl 1 rfl) ?_
  obtain ⟨y9, hc9, hrun⟩ := oz_bind hrun
  have hPc := hP.sub (ws' := [(q_shelf, .inr (9, [.int v_shelf_places, .ref q_shelf_cells])), (q_shelf_cells, .inl (cI, 570, .inl v_shelf_cells)), (q_p1, .inr (10, [.ref q_p1_kept, .ref q_p1_away, .int v_p1_days, .int v_p1_spilled, .int v_p1_river])), (q_p1_kept, .inl (cI, 8, .inl v_p1_kept)), (q_p1_away, .inl (cI, 8, .inl v_p1_away))]) [1, 2, 3, 4, 5] rfl
  have hDc := hD.sub (ws' := [(q_shelf, .inr (9, [.int v_shelf_places, .ref q_shelf_cells])), (q_shelf_cells, .inl (cI, 570, .inl v_shelf_cells)), (q_p1, .inr (10, [.ref q_p1_kept, .ref q_p1_away, .int v_p1_days, .int v_p1_spilled, .int v_p1_river])), (q_p1_kept, .inl (cI, 8, .inl v_p1_kept)), (q_p1_away, .inl (cI, 8, .inl v_p1_away))]) [1, 2, 3, 4, 5] (by decide) rfl
  have hFc := va_free (wc := [(q_shelf, .inr (9, [.int v_shelf_places, .ref q_shelf_cells])), (q_shelf_cells, .inl (cI, 570, .inl v_shelf_cells)), (q_p1, .inr (10, [.ref q_p1_kept, .ref q_p1_away, .int v_p1_days, .int v_p1_spilled, .int v_p1_river])), (q_p1_kept, .inl (cI, 8, .inl v_p1_kept)), (q_p1_away, .inl (cI, 8, .inl v_p1_away))]) hD hS hA [1, 2, 3, 4, 5] rfl
  refine va_callv (va_runV (As := [.int v_end, .ref q_p1]) (rest := []) ⟨hx, hb, hml, hown, hts⟩ (tX9_put l dC dI cI cZ q_shelf_cells q_p1 q_p1_away q_p1_kept q_shelf s.heap.size 570 v_shelf_places v_shelf_cells v_p1_days v_p1_spilled v_p1_river v_p1_kept v_p1_away v_end y9 hc9) (cwV 2 hts gX2_remember_X9_put rfl rfl rfl (by decide +kernel) ⟨Nat.le_of_ble_eq_true rfl, Nat.le_of_ble_eq_true rfl⟩) ⟨fun a U g mk q => by obtain ⟨q0, q1, qP, qK, qD⟩ := q; exact ⟨q0, q1, qP, va_K.moved (u := U) (U := U.calling g mk a) (Vm.Alike.refl U.vm) qK, qD⟩, va_recv hK hPc (ci := 9) (q0 := 0) rfl rfl, fun U hU hW => ⟨rfl, by rw [hU], by rw [hU]; exact hPc, va_K.moved hW.alike hK, hDc.weaken (fun _ _ _ _ => trivial)⟩⟩ rfl rfl hl.1 rfl (lv_room (Nat.le_of_ble_eq_true rfl)) dX2_remember_9 ⟨Nat.le_of_ble_eq_true rfl, Nat.le_of_ble_eq_true rfl⟩) hS (fun q _ h => hFc q h) hFc (fun u9 t9 H1 locs ht9 hvm9 hw9 hB9 hz9 hkk9 hS => ?_)
  obtain ⟨hP9, hK9, hD9⟩ := hB9
  rw [ht9] at hP9
  obtain ⟨hP, hD⟩ := va_join (wr := [(q_this, .inr (2, [.ref q_shelf, .int v_end, .int v_count]))]) (w1 := [(q_shelf, .inr (9, [.int v_shelf_places, .ref q_shelf_cells])), (q_shelf_cells, .inl (cI, 570, .inl y9)), (q_p1, .inr (10, [.ref q_p1_kept, .ref q_p1_away, .int v_p1_days, .int v_p1_spilled, .int v_p1_river])), (q_p1_kept, .inl (cI, 8, .inl v_p1_kept)), (q_p1_away, .inl (cI, 8, .inl v_p1_away))]) hP hD [1, 2, 3, 4, 5] [0] rfl rfl (by decide) (by decide) hkk9 hFc hP9 hD9
  generalize H1 = H at hP hS ⊢
  have hP : va_P (dC, dI) vwCl [(q_this, .inr (2, [.ref q_shelf, .int v_end, .int v_count])), (q_shelf, .inr (9, [.int v_shelf_places, .ref q_shelf_cells])), (q_shelf_cells, .inl (cI, 570, .inl y9)), (q_p1, .inr (10, [.ref q_p1_kept, .ref q_p1_away, .int v_p1_days, .int v_p1_spilled, .int v_p1_river])), (q_p1_kept, .inl (cI, 8, .inl v_p1_kept)), (q_p1_away, .inl (cI, 8, .inl v_p1_away))] H := hP
  have hD : va_D A [(q_this, .inr (2, [.ref q_shelf, .int v_end, .int v_count])), (q_shelf, .inr (9, [.int v_shelf_places, .ref q_shelf_cells])), (q_shelf_cells, .inl (cI, 570, .inl y9)), (q_p1, .inr (10, [.ref q_p1_kept, .ref q_p1_away, .int v_p1_days, .int v_p1_spilled, .int v_p1_river])), (q_p1_kept, .inl (cI, 8, .inl v_p1_kept)), (q_p1_away, .inl (cI, 8, .inl v_p1_away))] := hD
  refine lv_aload_n hx hb dX2_remember_12 rfl (lv_at hl 0 rfl) ?_
  refine lv_aload_n hx hb dX2_remember_13 rfl (lv_at hl 0 rfl) ?_
  refine va_get (D := (dC, dI)) (ci := 2) (v := .int v_end) (C := RX2) (T := TX2) (N := 3) hx hb hts hiX2 hown hK hP 0 rfl rfl 1 (by decide) hk18 (fun _ h9 => h9) rfl dX2_remember_14 ?_
  refine lv_iconst (v := 1) hx hb dX2_remember_17 (by decide) ?_
  refine lv_iadd hx hb dX2_remember_18 ?_
  refine lv_bipush (v := 30) hx hb dX2_remember_19 (by decide) ?_
  refine lv_irem hx hb dX2_remember_21 (by decide) ?_
  refine va_put (D := (dC, dI)) (ci := 2) (v := .int ((v_end + 1) - (v_end + 1) / 30 * 30)) (ty := .int) (C := RX2) (T := TX2) (N := 3) hx hb hts hiX2 tyX2 tyX2_ok nmX2 hown hK hP hD hS 0 rfl rfl 1 (by decide) hk18 (fun _ h9 => h9) rfl (by decide +kernel) rfl rfl (Nat.le_of_ble_eq_true rfl) dX2_remember_22 (fun H locs hP hD hS => ?_)
  have hP : va_P (dC, dI) vwCl [(q_this, .inr (2, [.ref q_shelf, .int ((v_end + 1) - (v_end + 1) / 30 * 30), .int v_count])), (q_shelf, .inr (9, [.int v_shelf_places, .ref q_shelf_cells])), (q_shelf_cells, .inl (cI, 570, .inl y9)), (q_p1, .inr (10, [.ref q_p1_kept, .ref q_p1_away, .int v_p1_days, .int v_p1_spilled, .int v_p1_river])), (q_p1_kept, .inl (cI, 8, .inl v_p1_kept)), (q_p1_away, .inl (cI, 8, .inl v_p1_away))] H := hP
  have hD : va_D A [(q_this, .inr (2, [.ref q_shelf, .int ((v_end + 1) - (v_end + 1) / 30 * 30), .int v_count])), (q_shelf, .inr (9, [.int v_shelf_places, .ref q_shelf_cells])), (q_shelf_cells, .inl (cI, 570, .inl y9)), (q_p1, .inr (10, [.ref q_p1_kept, .ref q_p1_away, .int v_p1_days, .int v_p1_spilled, .int v_p1_river])), (q_p1_kept, .inl (cI, 8, .inl v_p1_kept)), (q_p1_away, .inl (cI, 8, .inl v_p1_away))] := hD
  refine lv_aload_n hx hb dX2_remember_25 rfl (lv_at hl 0 rfl) ?_
  refine lv_bipush (v := 30) hx hb dX2_remember_26 (by decide) ?_
  refine lv_aload_n hx hb dX2_remember_28 rfl (lv_at hl 0 rfl) ?_
  refine va_get (D := (dC, dI)) (ci := 2) (v := .int v_count) (C := RX2) (T := TX2) (N := 3) hx hb hts hiX2 hown hK hP 0 rfl rfl 2 (by decide) hk22 (fun _ h9 => h9) rfl dX2_remember_29 ?_
  refine lv_iconst (v := 1) hx hb dX2_remember_32 (by decide) ?_
  refine lv_iadd hx hb dX2_remember_33 ?_
  refine va_mmin hx hb (hml.trans hl.1.symm) hown hk29 hst_min hiniM hcd_min (Nat.le_of_ble_eq_true rfl) (Nat.le_of_ble_eq_true rfl) (Nat.zero_le _) (Nat.zero_le _) dX2_remember_34 ?_
  refine va_put (D := (dC, dI)) (ci := 2) (v := .int (if (v_count + 1) < 30 then (v_count + 1) else 30)) (ty := .int) (C := RX2) (T := TX2) (N := 3) hx hb hts hiX2 tyX2 tyX2_ok nmX2 hown hK hP hD hS 0 rfl rfl 2 (by decide) hk22 (fun _ h9 => h9) rfl (by decide +kernel) rfl rfl (Nat.le_of_ble_eq_true rfl) dX2_remember_37 (fun H locs hP hD hS => ?_)
  have hP : va_P (dC, dI) vwCl [(q_this, .inr (2, [.ref q_shelf, .int ((v_end + 1) - (v_end + 1) / 30 * 30), .int (if (v_count + 1) < 30 then (v_count + 1) else 30)])), (q_shelf, .inr (9, [.int v_shelf_places, .ref q_shelf_cells])), (q_shelf_cells, .inl (cI, 570, .inl y9)), (q_p1, .inr (10, [.ref q_p1_kept, .ref q_p1_away, .int v_p1_days, .int v_p1_spilled, .int v_p1_river])), (q_p1_kept, .inl (cI, 8, .inl v_p1_kept)), (q_p1_away, .inl (cI, 8, .inl v_p1_away))] H := hP
  have hD : va_D A [(q_this, .inr (2, [.ref q_shelf, .int ((v_end + 1) - (v_end + 1) / 30 * 30), .int (if (v_count + 1) < 30 then (v_count + 1) else 30)])), (q_shelf, .inr (9, [.int v_shelf_places, .ref q_shelf_cells])), (q_shelf_cells, .inl (cI, 570, .inl y9)), (q_p1, .inr (10, [.ref q_p1_kept, .ref q_p1_away, .int v_p1_days, .int v_p1_spilled, .int v_p1_river])), (q_p1_kept, .inl (cI, 8, .inl v_p1_kept)), (q_p1_away, .inl (cI, 8, .inl v_p1_away))] := hD
  have ho9 := Option.some.inj hrun
  subst ho9
  have hP9 := hP.sub (ws' := [(q_this, .inr (2, [.ref q_shelf, .int ((v_end + 1) - (v_end + 1) / 30 * 30), .int (if (v_count + 1) < 30 then (v_count + 1) else 30)])), (q_shelf, .inr (9, [.int v_shelf_places, .ref q_shelf_cells])), (q_shelf_cells, .inl (cI, 570, .inl y9)), (q_p1, .inr (10, [.ref q_p1_kept, .ref q_p1_away, .int v_p1_days, .int v_p1_spilled, .int v_p1_river])), (q_p1_kept, .inl (cI, 8, .inl v_p1_kept)), (q_p1_away, .inl (cI, 8, .inl v_p1_away))]) [0, 1, 2, 3, 4, 5] rfl
  have hD9 := hD.sub (ws' := [(q_this, .inr (2, [.ref q_shelf, .int ((v_end + 1) - (v_end + 1) / 30 * 30), .int (if (v_count + 1) < 30 then (v_count + 1) else 30)])), (q_shelf, .inr (9, [.int v_shelf_places, .ref q_shelf_cells])), (q_shelf_cells, .inl (cI, 570, .inl y9)), (q_p1, .inr (10, [.ref q_p1_kept, .ref q_p1_away, .int v_p1_days, .int v_p1_spilled, .int v_p1_river])), (q_p1_kept, .inl (cI, 8, .inl v_p1_kept)), (q_p1_away, .inl (cI, 8, .inl v_p1_away))]) [0, 1, 2, 3, 4, 5] (by decide) rfl
  rw [hQ]
  exact W.vret hx hb hr (fun t ht hW => ⟨⟨(), rfl, trivial, by rw [ht]; exact hP9, va_K.moved hW.alike hK, hD9⟩, hS.F ht⟩) hS.2.2 dX2_remember_40
def fX2_restore (v_end : Int32) (v_count : Int32) (v_shelf_places : Int32) (v_shelf_cells : Nat → Int32) (v_p2_days : Int32) (v_p2_spilled : Int32) (v_p2_river : Int32) (v_p2_kept : Nat → Int32) (v_p2_away : Nat → Int32) (a1 : Int32) : Option (Int32 × Int32 × Int32 × Int32 × Int32 × Int32 × (Nat → Int32) × (Nat → Int32)) :=
  if a1 < 1 then (some (0, v_end, v_count, v_p2_days, v_p2_spilled, v_p2_river, v_p2_kept, v_p2_away)) else (if a1 ≤ v_count then (Option.bind (fX9_get 570 v_shelf_places v_shelf_cells v_p2_days v_p2_spilled v_p2_river v_p2_kept v_p2_away (((v_end - a1) + 30) - ((v_end - a1) + 30) / 30 * 30)) (fun y50 => some (1, (((v_end - a1) + 30) - ((v_end - a1) + 30) / 30 * 30), (v_count - a1), y50.1, y50.2.1, y50.2.2.1, y50.2.2.2.1, y50.2.2.2.2))) else (some (0, v_end, v_count, v_p2_days, v_p2_spilled, v_p2_river, v_p2_kept, v_p2_away)))
def rmX2_restore : Room := { frames := 2, cells := 0, slots := 0, locals := 49 }
set_option maxHeartbeats 4000000 in
set_option maxRecDepth 100000 in
theorem tX2_restore (l : Launch) (dC : Nat → ClassId) (dI : Nat → Nat → Nat) (cI cZ : ClassId) (q_p2 q_p2_away q_p2_kept q_shelf q_shelf_cells q_this : Nat) (sz : Nat) (v_end : Int32) (v_count : Int32) (v_shelf_places : Int32) (v_shelf_cells : Nat → Int32) (v_p2_days : Int32) (v_p2_spilled : Int32) (v_p2_river : Int32) (v_p2_kept : Nat → Int32) (v_p2_away : Nat → Int32) (a1 : Int32) (out : Int32 × Int32 × Int32 × Int32 × Int32 × Int32 × (Nat → Int32) × (Nat → Int32)) (hrun : fX2_restore v_end v_count v_shelf_places v_shelf_cells v_p2_days v_p2_spilled v_p2_river v_p2_kept v_p2_away a1 = some out) : Met l yX2_restore wsX2_restore rmX2_restore (va_Pc [.ref q_this, .int a1, .ref q_p2] (fun U => U.heap.size = sz ∧ va_P (dC, dI) vwCl [(q_this, .inr (2, [.ref q_shelf, .int v_end, .int v_count])), (q_shelf, .inr (9, [.int v_shelf_places, .ref q_shelf_cells])), (q_shelf_cells, .inl (cI, 570, .inl v_shelf_cells)), (q_p2, .inr (10, [.ref q_p2_kept, .ref q_p2_away, .int v_p2_days, .int v_p2_spilled, .int v_p2_river])), (q_p2_kept, .inl (cI, 8, .inl v_p2_kept)), (q_p2_away, .inl (cI, 8, .inl v_p2_away))] U.heap ∧ va_K (dC, dI) vwCl [(cI, .int), (cZ, .boolean)] U ∧ va_D (fun _ => True) [(q_this, .inr (2, [.ref q_shelf, .int v_end, .int v_count])), (q_shelf, .inr (9, [.int v_shelf_places, .ref q_shelf_cells])), (q_shelf_cells, .inl (cI, 570, .inl v_shelf_cells)), (q_p2, .inr (10, [.ref q_p2_kept, .ref q_p2_away, .int v_p2_days, .int v_p2_spilled, .int v_p2_river])), (q_p2_kept, .inl (cI, 8, .inl v_p2_kept)), (q_p2_away, .inl (cI, 8, .inl v_p2_away))])) (va_Qi (fun (r : Int32) (_ : Unit) => r = out.1) (fun _ t => va_P (dC, dI) vwCl [(q_this, .inr (2, [.ref q_shelf, .int out.2.1, .int out.2.2.1])), (q_shelf, .inr (9, [.int v_shelf_places, .ref q_shelf_cells])), (q_shelf_cells, .inl (cI, 570, .inl v_shelf_cells)), (q_p2, .inr (10, [.ref q_p2_kept, .ref q_p2_away, .int out.2.2.2.1, .int out.2.2.2.2.1, .int out.2.2.2.2.2.1])), (q_p2_kept, .inl (cI, 8, .inl out.2.2.2.2.2.2.1)), (q_p2_away, .inl (cI, 8, .inl out.2.2.2.2.2.2.2))] t.heap ∧ va_K (dC, dI) vwCl [(cI, .int), (cZ, .boolean)] t ∧ va_D (va_A [(q_this, .inr (2, [.ref q_shelf, .int v_end, .int v_count])), (q_shelf, .inr (9, [.int v_shelf_places, .ref q_shelf_cells])), (q_shelf_cells, .inl (cI, 570, .inl v_shelf_cells)), (q_p2, .inr (10, [.ref q_p2_kept, .ref q_p2_away, .int v_p2_days, .int v_p2_spilled, .int v_p2_river])), (q_p2_kept, .inl (cI, 8, .inl v_p2_kept)), (q_p2_away, .inl (cI, 8, .inl v_p2_away))] sz) [(q_this, .inr (2, [.ref q_shelf, .int out.2.1, .int out.2.2.1])), (q_shelf, .inr (9, [.int v_shelf_places, .ref q_shelf_cells])), (q_shelf_cells, .inl (cI, 570, .inl v_shelf_cells)), (q_p2, .inr (10, [.ref q_p2_kept, .ref q_p2_away, .int out.2.2.2.1, .int out.2.2.2.2.1, .int out.2.2.2.2.2.1])), (q_p2_kept, .inl (cI, 8, .inl out.2.2.2.2.2.2.1)), (q_p2_away, .inl (cI, 8, .inl out.2.2.2.2.2.2.2))]) (va_A [(q_this, .inr (2, [.ref q_shelf, .int v_end, .int v_count])), (q_shelf, .inr (9, [.int v_shelf_places, .ref q_shelf_cells])), (q_shelf_cells, .inl (cI, 570, .inl v_shelf_cells)), (q_p2, .inr (10, [.ref q_p2_kept, .ref q_p2_away, .int v_p2_days, .int v_p2_spilled, .int v_p2_river])), (q_p2_kept, .inl (cI, 8, .inl v_p2_kept)), (q_p2_away, .inl (cI, 8, .inl v_p2_away))] sz)) 0 0 (va_A [(q_this, .inr (2, [.ref q_shelf, .int v_end, .int v_count])), (q_shelf, .inr (9, [.int v_shelf_places, .ref q_shelf_cells])), (q_shelf_cells, .inl (cI, 570, .inl v_shelf_cells)), (q_p2, .inr (10, [.ref q_p2_kept, .ref q_p2_away, .int v_p2_days, .int v_p2_spilled, .int v_p2_river])), (q_p2_kept, .inl (cI, 8, .inl v_p2_kept)), (q_p2_away, .inl (cI, 8, .inl v_p2_away))] sz) := by
  refine Met.ofW (cc := cX2_restore) (maxL := 3) (ret := (some .boolean)) (by decide) rfl ?_
  intro p e s m args below meth c s₁ B hml hv
  obtain ⟨rfl, hsz, hP, hK, hD0⟩ := hv
  have hx := B.exec
  have hb := B.bytes
  have hr := B.returns
  have hts := atoms_spec (ws := wsX2_restore) B.pre
  have hown : s.vm.findClass RX2 = some m.cls := findClass_of_methodNamed B.named
  have hlocks := B.notSynchronized
  subst hsz
  have hD := hD0.self (sz := s.heap.size)
  generalize hAe : va_A [(q_this, .inr (2, [.ref q_shelf, .int v_end, .int v_count])), (q_shelf, .inr (9, [.int v_shelf_places, .ref q_shelf_cells])), (q_shelf_cells, .inl (cI, 570, .inl v_shelf_cells)), (q_p2, .inr (10, [.ref q_p2_kept, .ref q_p2_away, .int v_p2_days, .int v_p2_spilled, .int v_p2_river])), (q_p2_kept, .inl (cI, 8, .inl v_p2_kept)), (q_p2_away, .inl (cI, 8, .inl v_p2_away))] s.heap.size = A at hD ⊢
  have hA : ∀ q : Nat, s.heap.size ≤ q → A q := fun q h => by rw [← hAe]; exact Or.inr h
  have hS : va_S A s.heap s.heap [] := va_S.rf
  have hl := lv_entry ([.ref q_this, .int a1, .ref q_p2]) (n := 3) (Nat.le_of_ble_eq_true rfl)
  rw [lg_entry_eq]
  generalize (lg_sl ([.ref q_this, .int a1, .ref q_p2]) ++ List.replicate (3 - (lg_sl ([.ref q_this, .int a1, .ref q_p2])).length) Slot.unset).toArray = ls at hl ⊢
  have hl : lv_has ls 3 [(0, .ref q_this), (1, .int a1), (2, .ref q_p2)] := hl
  unfold fX2_restore at hrun
  have hk22 := hts (.fieldLink RX2 22 "LentDrains$History" "count" "I") (by decide +kernel)
  have hiX2 : ∀ w ∈ wsX20, w ∈ wsX2_restore := by decide +kernel
  have hk18 := hts (.fieldLink RX2 18 "LentDrains$History" "end" "I") (by decide +kernel)
  have hk14 := hts (.fieldLink RX2 14 "LentDrains$History" "shelf" "LLentDrains$Shelf;") (by decide +kernel)
  refine oz_genQ (fun Q hQ => ?_)
  refine lv_iload_n hx hb dX2_restore_0 rfl (lv_at hl 1 rfl) ?_
  refine lv_iconst (v := 1) hx hb dX2_restore_1 (by decide) ?_
  refine lv_icmp_lt (tgt := 13) hx hb dX2_restore_2 (by decide) (fun c1 => ?_) (fun c1 => ?_)
  · have hrun := oz_t hrun c1
    refine lv_iconst (v := 0) hx hb dX2_restore_13 (by decide) ?_
    have ho9 := Option.some.inj hrun
    subst ho9
    have hP9 := hP.sub (ws' := [(q_this, .inr (2, [.ref q_shelf, .int v_end, .int v_count])), (q_shelf, .inr (9, [.int v_shelf_places, .ref q_shelf_cells])), (q_shelf_cells, .inl (cI, 570, .inl v_shelf_cells)), (q_p2, .inr (10, [.ref q_p2_kept, .ref q_p2_away, .int v_p2_days, .int v_p2_spilled, .int v_p2_river])), (q_p2_kept, .inl (cI, 8, .inl v_p2_kept)), (q_p2_away, .inl (cI, 8, .inl v_p2_away))]) [0, 1, 2, 3, 4, 5] rfl
    have hD9 := hD.sub (ws' := [(q_this, .inr (2, [.ref q_shelf, .int v_end, .int v_count])), (q_shelf, .inr (9, [.int v_shelf_places, .ref q_shelf_cells])), (q_shelf_cells, .inl (cI, 570, .inl v_shelf_cells)), (q_p2, .inr (10, [.ref q_p2_kept, .ref q_p2_away, .int v_p2_days, .int v_p2_spilled, .int v_p2_river])), (q_p2_kept, .inl (cI, 8, .inl v_p2_kept)), (q_p2_away, .inl (cI, 8, .inl v_p2_away))]) [0, 1, 2, 3, 4, 5] (by decide) rfl
    rw [hQ]
    exact W.zret (v := 0) (ty := .boolean) hx hb hr rfl (fun t ht hW => ⟨⟨0, (), rfl, rfl, by rw [ht]; exact hP9, va_K.moved hW.alike hK, hD9⟩, hS.F ht⟩) hS.2.2 dX2_restore_14
  · have hrun := oz_f hrun c1
    refine lv_iload_n hx hb dX2_restore_5 rfl (lv_at hl 1 rfl) ?_
    refine lv_aload_n hx hb dX2_restore_6 rfl (lv_at hl 0 rfl) ?_
    refine va_get (D := (dC, dI)) (ci := 2) (v := .int v_count) (C := RX2) (T := TX2) (N := 3) hx hb hts hiX2 hown hK hP 0 rfl rfl 2 (by decide) hk22 (fun _ h9 => h9) rfl dX2_restore_7 ?_
    refine lv_icmp_le (tgt := 15) hx hb dX2_restore_10 (by decide) (fun c2 => ?_) (fun c2 => ?_)
    · have hrun := oz_t hrun c2
      refine lv_aload_n hx hb dX2_restore_15 rfl (lv_at hl 0 rfl) ?_
      refine lv_aload_n hx hb dX2_restore_16 rfl (lv_at hl 0 rfl) ?_
      refine va_get (D := (dC, dI)) (ci := 2) (v := .int v_end) (C := RX2) (T := TX2) (N := 3) hx hb hts hiX2 hown hK hP 0 rfl rfl 1 (by decide) hk18 (fun _ h9 => h9) rfl dX2_restore_17 ?_
      refine lv_iload_n hx hb dX2_restore_20 rfl (lv_at hl 1 rfl) ?_
      refine lv_isub hx hb dX2_restore_21 ?_
      refine lv_bipush (v := 30) hx hb dX2_restore_22 (by decide) ?_
      refine lv_iadd hx hb dX2_restore_24 ?_
      refine lv_bipush (v := 30) hx hb dX2_restore_25 (by decide) ?_
      refine lv_irem hx hb dX2_restore_27 (by decide) ?_
      refine va_put (D := (dC, dI)) (ci := 2) (v := .int (((v_end - a1) + 30) - ((v_end - a1) + 30) / 30 * 30)) (ty := .int) (C := RX2) (T := TX2) (N := 3) hx hb hts hiX2 tyX2 tyX2_ok nmX2 hown hK hP hD hS 0 rfl rfl 1 (by decide) hk18 (fun _ h9 => h9) rfl (by decide +kernel) rfl rfl (Nat.le_of_ble_eq_true rfl) dX2_restore_28 (fun H locs hP hD hS => ?_)
      have hP : va_P (dC, dI) vwCl [(q_this, .inr (2, [.ref q_shelf, .int (((v_end - a1) + 30) - ((v_end - a1) + 30) / 30 * 30), .int v_count])), (q_shelf, .inr (9, [.int v_shelf_places, .ref q_shelf_cells])), (q_shelf_cells, .inl (cI, 570, .inl v_shelf_cells)), (q_p2, .inr (10, [.ref q_p2_kept, .ref q_p2_away, .int v_p2_days, .int v_p2_spilled, .int v_p2_river])), (q_p2_kept, .inl (cI, 8, .inl v_p2_kept)), (q_p2_away, .inl (cI, 8, .inl v_p2_away))] H := hP
      have hD : va_D A [(q_this, .inr (2, [.ref q_shelf, .int (((v_end - a1) + 30) - ((v_end - a1) + 30) / 30 * 30), .int v_count])), (q_shelf, .inr (9, [.int v_shelf_places, .ref q_shelf_cells])), (q_shelf_cells, .inl (cI, 570, .inl v_shelf_cells)), (q_p2, .inr (10, [.ref q_p2_kept, .ref q_p2_away, .int v_p2_days, .int v_p2_spilled, .int v_p2_river])), (q_p2_kept, .inl (cI, 8, .inl v_p2_kept)), (q_p2_away, .inl (cI, 8, .inl v_p2_away))] := hD
      refine lv_aload_n hx hb dX2_restore_31 rfl (lv_at hl 0 rfl) ?_
      refine lv_dup hx hb dX2_restore_32 rfl ?_
      refine va_get (D := (dC, dI)) (ci := 2) (v := .int v_count) (C := RX2) (T := TX2) (N := 3) hx hb hts hiX2 hown hK hP 0 rfl rfl 2 (by decide) hk22 (fun _ h9 => h9) rfl dX2_restore_33 ?_
      refine lv_iload_n hx hb dX2_restore_36 rfl (lv_at hl 1 rfl) ?_
      refine lv_isub hx hb dX2_restore_37 ?_
      refine va_put (D := (dC, dI)) (ci := 2) (v := .int (v_count - a1)) (ty := .int) (C := RX2) (T := TX2) (N := 3) hx hb hts hiX2 tyX2 tyX2_ok nmX2 hown hK hP hD hS 0 rfl rfl 2 (by decide) hk22 (fun _ h9 => h9) rfl (by decide +kernel) rfl rfl (Nat.le_of_ble_eq_true rfl) dX2_restore_38 (fun H locs hP hD hS => ?_)
      have hP : va_P (dC, dI) vwCl [(q_this, .inr (2, [.ref q_shelf, .int (((v_end - a1) + 30) - ((v_end - a1) + 30) / 30 * 30), .int (v_count - a1)])), (q_shelf, .inr (9, [.int v_shelf_places, .ref q_shelf_cells])), (q_shelf_cells, .inl (cI, 570, .inl v_shelf_cells)), (q_p2, .inr (10, [.ref q_p2_kept, .ref q_p2_away, .int v_p2_days, .int v_p2_spilled, .int v_p2_river])), (q_p2_kept, .inl (cI, 8, .inl v_p2_kept)), (q_p2_away, .inl (cI, 8, .inl v_p2_away))] H := hP
      have hD : va_D A [(q_this, .inr (2, [.ref q_shelf, .int (((v_end - a1) + 30) - ((v_end - a1) + 30) / 30 * 30), .int (v_count - a1)])), (q_shelf, .inr (9, [.int v_shelf_places, .ref q_shelf_cells])), (q_shelf_cells, .inl (cI, 570, .inl v_shelf_cells)), (q_p2, .inr (10, [.ref q_p2_kept, .ref q_p2_away, .int v_p2_days, .int v_p2_spilled, .int v_p2_river])), (q_p2_kept, .inl (cI, 8, .inl v_p2_kept)), (q_p2_away, .inl (cI, 8, .inl v_p2_away))] := hD
      refine lv_aload_n hx hb dX2_restore_41 rfl (lv_at hl 0 rfl) ?_
      refine va_get (D := (dC, dI)) (ci := 2) (v := .ref q_shelf) (C := RX2) (T := TX2) (N := 3) hx hb hts hiX2 hown hK hP 0 rfl rfl 0 (by decide) hk14 (fun _ h9 => h9) rfl dX2_restore_42 ?_
      refine lv_aload_n hx hb dX2_restore_45 rfl (lv_at hl 0 rfl) ?_
      refine va_get (D := (dC, dI)) (ci := 2) (v := .int (((v_end - a1) + 30) - ((v_end - a1) + 30) / 30 * 30)) (C := RX2) (T := TX2) (N := 3) hx hb hts hiX2 hown hK hP 0 rfl rfl 1 (by decide) hk18 (fun _ h9 => h9) rfl dX2_restore_46 ?_
      refine lv_aload_n hx hb dX2_restore_49 rfl (lv_at hl 2 rfl) ?_
      obtain ⟨y50, hc50, hrun⟩ := oz_bind hrun
      have hPc := hP.sub (ws' := [(q_shelf, .inr (9, [.int v_shelf_places, .ref q_shelf_cells])), (q_shelf_cells, .inl (cI, 570, .inl v_shelf_cells)), (q_p2, .inr (10, [.ref q_p2_kept, .ref q_p2_away, .int v_p2_days, .int v_p2_spilled, .int v_p2_river])), (q_p2_kept, .inl (cI, 8, .inl v_p2_kept)), (q_p2_away, .inl (cI, 8, .inl v_p2_away))]) [1, 2, 3, 4, 5] rfl
      have hDc := hD.sub (ws' := [(q_shelf, .inr (9, [.int v_shelf_places, .ref q_shelf_cells])), (q_shelf_cells, .inl (cI, 570, .inl v_shelf_cells)), (q_p2, .inr (10, [.ref q_p2_kept, .ref q_p2_away, .int v_p2_days, .int v_p2_spilled, .int v_p2_river])), (q_p2_kept, .inl (cI, 8, .inl v_p2_kept)), (q_p2_away, .inl (cI, 8, .inl v_p2_away))]) [1, 2, 3, 4, 5] (by decide) rfl
      have hFc := va_free (wc := [(q_shelf, .inr (9, [.int v_shelf_places, .ref q_shelf_cells])), (q_shelf_cells, .inl (cI, 570, .inl v_shelf_cells)), (q_p2, .inr (10, [.ref q_p2_kept, .ref q_p2_away, .int v_p2_days, .int v_p2_spilled, .int v_p2_river])), (q_p2_kept, .inl (cI, 8, .inl v_p2_kept)), (q_p2_away, .inl (cI, 8, .inl v_p2_away))]) hD hS hA [1, 2, 3, 4, 5] rfl
      refine va_callv (va_runV (As := [.int (((v_end - a1) + 30) - ((v_end - a1) + 30) / 30 * 30), .ref q_p2]) (rest := []) ⟨hx, hb, hml, hown, hts⟩ (tX9_get l dC dI cI cZ q_shelf_cells q_p2 q_p2_away q_p2_kept q_shelf H.size 570 v_shelf_places v_shelf_cells v_p2_days v_p2_spilled v_p2_river v_p2_kept v_p2_away (((v_end - a1) + 30) - ((v_end - a1) + 30) / 30 * 30) y50 hc50) (cwV 2 hts gX2_restore_X9_get rfl rfl rfl (by decide +kernel) ⟨Nat.le_of_ble_eq_true rfl, Nat.le_of_ble_eq_true rfl⟩) ⟨fun a U g mk q => by obtain ⟨q0, q1, qP, qK, qD⟩ := q; exact ⟨q0, q1, qP, va_K.moved (u := U) (U := U.calling g mk a) (Vm.Alike.refl U.vm) qK, qD⟩, va_recv hK hPc (ci := 9) (q0 := 0) rfl rfl, fun U hU hW => ⟨rfl, by rw [hU], by rw [hU]; exact hPc, va_K.moved hW.alike hK, hDc.weaken (fun _ _ _ _ => trivial)⟩⟩ rfl rfl hl.1 rfl (lv_room (Nat.le_of_ble_eq_true rfl)) dX2_restore_50 ⟨Nat.le_of_ble_eq_true rfl, Nat.le_of_ble_eq_true rfl⟩) hS (fun q _ h => hFc q h) hFc (fun u9 t9 H1 locs ht9 hvm9 hw9 hB9 hz9 hkk9 hS => ?_)
      obtain ⟨hP9, hK9, hD9⟩ := hB9
      rw [ht9] at hP9
      obtain ⟨hP, hD⟩ := va_join (wr := [(q_this, .inr (2, [.ref q_shelf, .int (((v_end - a1) + 30) - ((v_end - a1) + 30) / 30 * 30), .int (v_count - a1)]))]) (w1 := [(q_shelf, .inr (9, [.int v_shelf_places, .ref q_shelf_cells])), (q_shelf_cells, .inl (cI, 570, .inl v_shelf_cells)), (q_p2, .inr (10, [.ref q_p2_kept, .ref q_p2_away, .int y50.1, .int y50.2.1, .int y50.2.2.1])), (q_p2_kept, .inl (cI, 8, .inl y50.2.2.2.1)), (q_p2_away, .inl (cI, 8, .inl y50.2.2.2.2))]) hP hD [1, 2, 3, 4, 5] [0] rfl rfl (by decide) (by decide) hkk9 hFc hP9 hD9
      generalize H1 = H at hP hS ⊢
      have hP : va_P (dC, dI) vwCl [(q_this, .inr (2, [.ref q_shelf, .int (((v_end - a1) + 30) - ((v_end - a1) + 30) / 30 * 30), .int (v_count - a1)])), (q_shelf, .inr (9, [.int v_shelf_places, .ref q_shelf_cells])), (q_shelf_cells, .inl (cI, 570, .inl v_shelf_cells)), (q_p2, .inr (10, [.ref q_p2_kept, .ref q_p2_away, .int y50.1, .int y50.2.1, .int y50.2.2.1])), (q_p2_kept, .inl (cI, 8, .inl y50.2.2.2.1)), (q_p2_away, .inl (cI, 8, .inl y50.2.2.2.2))] H := hP
      have hD : va_D A [(q_this, .inr (2, [.ref q_shelf, .int (((v_end - a1) + 30) - ((v_end - a1) + 30) / 30 * 30), .int (v_count - a1)])), (q_shelf, .inr (9, [.int v_shelf_places, .ref q_shelf_cells])), (q_shelf_cells, .inl (cI, 570, .inl v_shelf_cells)), (q_p2, .inr (10, [.ref q_p2_kept, .ref q_p2_away, .int y50.1, .int y50.2.1, .int y50.2.2.1])), (q_p2_kept, .inl (cI, 8, .inl y50.2.2.2.1)), (q_p2_away, .inl (cI, 8, .inl y50.2.2.2.2))] := hD
      refine lv_iconst (v := 1) hx hb dX2_restore_53 (by decide) ?_
      have ho9 := Option.some.inj hrun
      subst ho9
      have hP9 := hP.sub (ws' := [(q_this, .inr (2, [.ref q_shelf, .int (((v_end - a1) + 30) - ((v_end - a1) + 30) / 30 * 30), .int (v_count - a1)])), (q_shelf, .inr (9, [.int v_shelf_places, .ref q_shelf_cells])), (q_shelf_cells, .inl (cI, 570, .inl v_shelf_cells)), (q_p2, .inr (10, [.ref q_p2_kept, .ref q_p2_away, .int y50.1, .int y50.2.1, .int y50.2.2.1])), (q_p2_kept, .inl (cI, 8, .inl y50.2.2.2.1)), (q_p2_away, .inl (cI, 8, .inl y50.2.2.2.2))]) [0, 1, 2, 3, 4, 5] rfl
      have hD9 := hD.sub (ws' := [(q_this, .inr (2, [.ref q_shelf, .int (((v_end - a1) + 30) - ((v_end - a1) + 30) / 30 * 30), .int (v_count - a1)])), (q_shelf, .inr (9, [.int v_shelf_places, .ref q_shelf_cells])), (q_shelf_cells, .inl (cI, 570, .inl v_shelf_cells)), (q_p2, .inr (10, [.ref q_p2_kept, .ref q_p2_away, .int y50.1, .int y50.2.1, .int y50.2.2.1])), (q_p2_kept, .inl (cI, 8, .inl y50.2.2.2.1)), (q_p2_away, .inl (cI, 8, .inl y50.2.2.2.2))]) [0, 1, 2, 3, 4, 5] (by decide) rfl
      rw [hQ]
      exact W.zret (v := 1) (ty := .boolean) hx hb hr rfl (fun t ht hW => ⟨⟨1, (), rfl, rfl, by rw [ht]; exact hP9, va_K.moved hW.alike hK, hD9⟩, hS.F ht⟩) hS.2.2 dX2_restore_54
    · have hrun := oz_f hrun c2
      refine lv_iconst (v := 0) hx hb dX2_restore_13 (by decide) ?_
      have ho9 := Option.some.inj hrun
      subst ho9
      have hP9 := hP.sub (ws' := [(q_this, .inr (2, [.ref q_shelf, .int v_end, .int v_count])), (q_shelf, .inr (9, [.int v_shelf_places, .ref q_shelf_cells])), (q_shelf_cells, .inl (cI, 570, .inl v_shelf_cells)), (q_p2, .inr (10, [.ref q_p2_kept, .ref q_p2_away, .int v_p2_days, .int v_p2_spilled, .int v_p2_river])), (q_p2_kept, .inl (cI, 8, .inl v_p2_kept)), (q_p2_away, .inl (cI, 8, .inl v_p2_away))]) [0, 1, 2, 3, 4, 5] rfl
      have hD9 := hD.sub (ws' := [(q_this, .inr (2, [.ref q_shelf, .int v_end, .int v_count])), (q_shelf, .inr (9, [.int v_shelf_places, .ref q_shelf_cells])), (q_shelf_cells, .inl (cI, 570, .inl v_shelf_cells)), (q_p2, .inr (10, [.ref q_p2_kept, .ref q_p2_away, .int v_p2_days, .int v_p2_spilled, .int v_p2_river])), (q_p2_kept, .inl (cI, 8, .inl v_p2_kept)), (q_p2_away, .inl (cI, 8, .inl v_p2_away))]) [0, 1, 2, 3, 4, 5] (by decide) rfl
      rw [hQ]
      exact W.zret (v := 0) (ty := .boolean) hx hb hr rfl (fun t ht hW => ⟨⟨0, (), rfl, rfl, by rw [ht]; exact hP9, va_K.moved hW.alike hK, hD9⟩, hS.F ht⟩) hS.2.2 dX2_restore_14
def fX3_clear (v_storedSet : Int32) : Option (Int32) :=
  some (0)
def rmX3_clear : Room := { frames := 0, cells := 0, slots := 0, locals := 0 }
set_option maxHeartbeats 4000000 in
set_option maxRecDepth 100000 in
theorem tX3_clear (l : Launch) (dC : Nat → ClassId) (dI : Nat → Nat → Nat) (cI cZ : ClassId) (q_seeds q_shelf q_this : Nat) (sz : Nat) (v_storedSet : Int32) (out : Int32) (hrun : fX3_clear v_storedSet = some out) : Met l yX3_clear wsX3_clear rmX3_clear (va_Pc [.ref q_this] (fun U => U.heap.size = sz ∧ va_P (dC, dI) vwCl [(q_this, .inr (3, [.ref q_shelf, .ref q_seeds, .int v_storedSet]))] U.heap ∧ va_K (dC, dI) vwCl [(cI, .int), (cZ, .boolean)] U ∧ va_D (fun _ => True) [(q_this, .inr (3, [.ref q_shelf, .ref q_seeds, .int v_storedSet]))])) (va_Qv (fun _ : Unit => True) (fun _ t => va_P (dC, dI) vwCl [(q_this, .inr (3, [.ref q_shelf, .ref q_seeds, .int out]))] t.heap ∧ va_K (dC, dI) vwCl [(cI, .int), (cZ, .boolean)] t ∧ va_D (va_A [(q_this, .inr (3, [.ref q_shelf, .ref q_seeds, .int v_storedSet]))] sz) [(q_this, .inr (3, [.ref q_shelf, .ref q_seeds, .int out]))]) (va_A [(q_this, .inr (3, [.ref q_shelf, .ref q_seeds, .int v_storedSet]))] sz)) 0 0 (va_A [(q_this, .inr (3, [.ref q_shelf, .ref q_seeds, .int v_storedSet]))] sz) := by
  refine Met.ofW (cc := cX3_clear) (maxL := 1) (ret := none) (by decide) rfl ?_
  intro p e s m args below meth c s₁ B hml hv
  obtain ⟨rfl, hsz, hP, hK, hD0⟩ := hv
  have hx := B.exec
  have hb := B.bytes
  have hr := B.returns
  have hts := atoms_spec (ws := wsX3_clear) B.pre
  have hown : s.vm.findClass RX3 = some m.cls := findClass_of_methodNamed B.named
  have hlocks := B.notSynchronized
  subst hsz
  have hD := hD0.self (sz := s.heap.size)
  generalize hAe : va_A [(q_this, .inr (3, [.ref q_shelf, .ref q_seeds, .int v_storedSet]))] s.heap.size = A at hD ⊢
  have hA : ∀ q : Nat, s.heap.size ≤ q → A q := fun q h => by rw [← hAe]; exact Or.inr h
  have hS : va_S A s.heap s.heap [] := va_S.rf
  have hl := lv_entry ([.ref q_this]) (n := 1) (Nat.le_of_ble_eq_true rfl)
  rw [lg_entry_eq]
  generalize (lg_sl ([.ref q_this]) ++ List.replicate (1 - (lg_sl ([.ref q_this])).length) Slot.unset).toArray = ls at hl ⊢
  have hl : lv_has ls 1 [(0, .ref q_this)] := hl
  unfold fX3_clear at hrun
  have hk22 := hts (.fieldLink RX3 22 "LentDrains$Images" "storedSet" "I") (by decide +kernel)
  have hiX3 : ∀ w ∈ wsX30, w ∈ wsX3_clear := by decide +kernel
  refine oz_genQ (fun Q hQ => ?_)
  refine lv_aload_n hx hb dX3_clear_0 rfl (lv_at hl 0 rfl) ?_
  refine lv_iconst (v := 0) hx hb dX3_clear_1 (by decide) ?_
  refine va_put (D := (dC, dI)) (ci := 3) (v := .int 0) (ty := .int) (C := RX3) (T := TX3) (N := 3) hx hb hts hiX3 tyX3 tyX3_ok nmX3 hown hK hP hD hS 0 rfl rfl 2 (by decide) hk22 (fun _ h9 => h9) rfl (by decide +kernel) rfl rfl (Nat.le_of_ble_eq_true rfl) dX3_clear_2 (fun H locs hP hD hS => ?_)
  have hP : va_P (dC, dI) vwCl [(q_this, .inr (3, [.ref q_shelf, .ref q_seeds, .int 0]))] H := hP
  have hD : va_D A [(q_this, .inr (3, [.ref q_shelf, .ref q_seeds, .int 0]))] := hD
  have ho9 := Option.some.inj hrun
  subst ho9
  have hP9 := hP.sub (ws' := [(q_this, .inr (3, [.ref q_shelf, .ref q_seeds, .int 0]))]) [0] rfl
  have hD9 := hD.sub (ws' := [(q_this, .inr (3, [.ref q_shelf, .ref q_seeds, .int 0]))]) [0] (by decide) rfl
  rw [hQ]
  exact W.vret hx hb hr (fun t ht hW => ⟨⟨(), rfl, trivial, by rw [ht]; exact hP9, va_K.moved hW.alike hK, hD9⟩, hS.F ht⟩) hS.2.2 dX3_clear_5
def fX3_has (a1 : Int32) : Option (Int32) :=
  if a1 < 0 then (some (0)) else (if 2 ≤ a1 then (some (0)) else (some (1)))
def rmX3_has : Room := { frames := 0, cells := 0, slots := 0, locals := 0 }
set_option maxHeartbeats 4000000 in
set_option maxRecDepth 100000 in
theorem tX3_has (l : Launch) (dC : Nat → ClassId) (dI : Nat → Nat → Nat) (cI cZ : ClassId) (q_this : Nat) (sz : Nat) (a1 : Int32) (out : Int32) (hrun : fX3_has a1 = some out) : Met l yX3_has wsX3_has rmX3_has (va_Pc [.ref q_this, .int a1] (fun U => U.heap.size = sz ∧ va_P (dC, dI) vwCl [] U.heap ∧ va_K (dC, dI) vwCl [(cI, .int), (cZ, .boolean)] U ∧ va_D (fun _ => True) [])) (va_Qi (fun (r : Int32) (_ : Unit) => r = out) (fun _ t => va_P (dC, dI) vwCl [] t.heap ∧ va_K (dC, dI) vwCl [(cI, .int), (cZ, .boolean)] t ∧ va_D (va_A [] sz) []) (va_A [] sz)) 0 0 (va_A [] sz) := by
  refine Met.ofW (cc := cX3_has) (maxL := 2) (ret := (some .boolean)) (by decide) rfl ?_
  intro p e s m args below meth c s₁ B hml hv
  obtain ⟨rfl, hsz, hP, hK, hD0⟩ := hv
  have hx := B.exec
  have hb := B.bytes
  have hr := B.returns
  have hts := atoms_spec (ws := wsX3_has) B.pre
  have hown : s.vm.findClass RX3 = some m.cls := findClass_of_methodNamed B.named
  have hlocks := B.notSynchronized
  subst hsz
  have hD := hD0.self (sz := s.heap.size)
  generalize hAe : va_A [] s.heap.size = A at hD ⊢
  have hA : ∀ q : Nat, s.heap.size ≤ q → A q := fun q h => by rw [← hAe]; exact Or.inr h
  have hS : va_S A s.heap s.heap [] := va_S.rf
  have hl := lv_entry ([.ref q_this, .int a1]) (n := 2) (Nat.le_of_ble_eq_true rfl)
  rw [lg_entry_eq]
  generalize (lg_sl ([.ref q_this, .int a1]) ++ List.replicate (2 - (lg_sl ([.ref q_this, .int a1])).length) Slot.unset).toArray = ls at hl ⊢
  have hl : lv_has ls 2 [(0, .ref q_this), (1, .int a1)] := hl
  unfold fX3_has at hrun
  refine oz_genQ (fun Q hQ => ?_)
  refine lv_iload_n hx hb dX3_has_0 rfl (lv_at hl 1 rfl) ?_
  refine lv_if_lt (tgt := 13) hx hb dX3_has_1 (by decide) (fun c1 => ?_) (fun c1 => ?_)
  · have hrun := oz_t hrun c1
    refine lv_iconst (v := 0) hx hb dX3_has_13 (by decide) ?_
    have ho9 := Option.some.inj hrun
    subst ho9
    have hP9 := hP.sub (ws' := []) [] rfl
    have hD9 := hD.sub (ws' := []) [] (by decide) rfl
    rw [hQ]
    exact W.zret (v := 0) (ty := .boolean) hx hb hr rfl (fun t ht hW => ⟨⟨0, (), rfl, rfl, by rw [ht]; exact hP9, va_K.moved hW.alike hK, hD9⟩, hS.F ht⟩) hS.2.2 dX3_has_14
  · have hrun := oz_f hrun c1
    refine lv_iload_n hx hb dX3_has_4 rfl (lv_at hl 1 rfl) ?_
    refine lv_iconst (v := 2) hx hb dX3_has_5 (by decide) ?_
    refine lv_icmp_ge (tgt := 13) hx hb dX3_has_6 (by decide) (fun c2 => ?_) (fun c2 => ?_)
    · have hrun := oz_t hrun c2
      refine lv_iconst (v := 0) hx hb dX3_has_13 (by decide) ?_
      have ho9 := Option.some.inj hrun
      subst ho9
      have hP9 := hP.sub (ws' := []) [] rfl
      have hD9 := hD.sub (ws' := []) [] (by decide) rfl
      rw [hQ]
      exact W.zret (v := 0) (ty := .boolean) hx hb hr rfl (fun t ht hW => ⟨⟨0, (), rfl, rfl, by rw [ht]; exact hP9, va_K.moved hW.alike hK, hD9⟩, hS.F ht⟩) hS.2.2 dX3_has_14
    · have hrun := oz_f hrun c2
      refine lv_iconst (v := 1) hx hb dX3_has_9 (by decide) ?_
      refine lv_goto (tgt := 14) hx hb dX3_has_10 (by decide) ?_
      have ho9 := Option.some.inj hrun
      subst ho9
      have hP9 := hP.sub (ws' := []) [] rfl
      have hD9 := hD.sub (ws' := []) [] (by decide) rfl
      rw [hQ]
      exact W.zret (v := 1) (ty := .boolean) hx hb hr rfl (fun t ht hW => ⟨⟨1, (), rfl, rfl, by rw [ht]; exact hP9, va_K.moved hW.alike hK, hD9⟩, hS.F ht⟩) hS.2.2 dX3_has_14
def fX3_store (v_storedSet : Int32) (v_shelf_places : Int32) (v_shelf_cells : Nat → Int32) (v_seeds : Nat → Int32) (v_p2_days : Int32) (v_p2_spilled : Int32) (v_p2_river : Int32) (v_p2_kept : Nat → Int32) (v_p2_away : Nat → Int32) (v_p3_value : Int32) (a1 : Int32) : Option (Int32 × (Nat → Int32) × (Nat → Int32)) :=
  Option.bind (fX3_has a1) (fun y2 => if y2 = 0 then (some (v_storedSet, v_shelf_cells, v_seeds)) else (Option.bind (fX9_put 38 v_shelf_places v_shelf_cells v_p2_days v_p2_spilled v_p2_river v_p2_kept v_p2_away a1) (fun y14 => if (a1 < 0 ∨ 2 ≤ Int32.toNatClampNeg a1) then none else some ((v_storedSet ||| (1 <<< (a1 &&& 31))), y14, (upd v_seeds (Int32.toNatClampNeg a1) v_p3_value)))))
def rmX3_store : Room := { frames := 2, cells := 0, slots := 0, locals := 49 }
set_option maxHeartbeats 4000000 in
set_option maxRecDepth 100000 in
theorem tX3_store (l : Launch) (dC : Nat → ClassId) (dI : Nat → Nat → Nat) (cI cZ : ClassId) (q_p2 q_p2_away q_p2_kept q_p3 q_seeds q_shelf q_shelf_cells q_this : Nat) (sz : Nat) (v_storedSet : Int32) (v_shelf_places : Int32) (v_shelf_cells : Nat → Int32) (v_seeds : Nat → Int32) (v_p2_days : Int32) (v_p2_spilled : Int32) (v_p2_river : Int32) (v_p2_kept : Nat → Int32) (v_p2_away : Nat → Int32) (v_p3_value : Int32) (a1 : Int32) (out : Int32 × (Nat → Int32) × (Nat → Int32)) (hrun : fX3_store v_storedSet v_shelf_places v_shelf_cells v_seeds v_p2_days v_p2_spilled v_p2_river v_p2_kept v_p2_away v_p3_value a1 = some out) : Met l yX3_store wsX3_store rmX3_store (va_Pc [.ref q_this, .int a1, .ref q_p2, .ref q_p3] (fun U => U.heap.size = sz ∧ va_P (dC, dI) vwCl [(q_this, .inr (3, [.ref q_shelf, .ref q_seeds, .int v_storedSet])), (q_shelf, .inr (9, [.int v_shelf_places, .ref q_shelf_cells])), (q_shelf_cells, .inl (cI, 38, .inl v_shelf_cells)), (q_seeds, .inl (cI, 2, .inl v_seeds)), (q_p2, .inr (10, [.ref q_p2_kept, .ref q_p2_away, .int v_p2_days, .int v_p2_spilled, .int v_p2_river])), (q_p2_kept, .inl (cI, 8, .inl v_p2_kept)), (q_p2_away, .inl (cI, 8, .inl v_p2_away)), (q_p3, .inr (1, [.int v_p3_value]))] U.heap ∧ va_K (dC, dI) vwCl [(cI, .int), (cZ, .boolean)] U ∧ va_D (fun _ => True) [(q_this, .inr (3, [.ref q_shelf, .ref q_seeds, .int v_storedSet])), (q_shelf, .inr (9, [.int v_shelf_places, .ref q_shelf_cells])), (q_shelf_cells, .inl (cI, 38, .inl v_shelf_cells)), (q_seeds, .inl (cI, 2, .inl v_seeds)), (q_p2, .inr (10, [.ref q_p2_kept, .ref q_p2_away, .int v_p2_days, .int v_p2_spilled, .int v_p2_river])), (q_p2_kept, .inl (cI, 8, .inl v_p2_kept)), (q_p2_away, .inl (cI, 8, .inl v_p2_away)), (q_p3, .inr (1, [.int v_p3_value]))])) (va_Qv (fun _ : Unit => True) (fun _ t => va_P (dC, dI) vwCl [(q_this, .inr (3, [.ref q_shelf, .ref q_seeds, .int out.1])), (q_shelf, .inr (9, [.int v_shelf_places, .ref q_shelf_cells])), (q_shelf_cells, .inl (cI, 38, .inl out.2.1)), (q_seeds, .inl (cI, 2, .inl out.2.2)), (q_p2, .inr (10, [.ref q_p2_kept, .ref q_p2_away, .int v_p2_days, .int v_p2_spilled, .int v_p2_river])), (q_p2_kept, .inl (cI, 8, .inl v_p2_kept)), (q_p2_away, .inl (cI, 8, .inl v_p2_away)), (q_p3, .inr (1, [.int v_p3_value]))] t.heap ∧ va_K (dC, dI) vwCl [(cI, .int), (cZ, .boolean)] t ∧ va_D (va_A [(q_this, .inr (3, [.ref q_shelf, .ref q_seeds, .int v_storedSet])), (q_shelf, .inr (9, [.int v_shelf_places, .ref q_shelf_cells])), (q_shelf_cells, .inl (cI, 38, .inl v_shelf_cells)), (q_seeds, .inl (cI, 2, .inl v_seeds)), (q_p2, .inr (10, [.ref q_p2_kept, .ref q_p2_away, .int v_p2_days, .int v_p2_spilled, .int v_p2_river])), (q_p2_kept, .inl (cI, 8, .inl v_p2_kept)), (q_p2_away, .inl (cI, 8, .inl v_p2_away)), (q_p3, .inr (1, [.int v_p3_value]))] sz) [(q_this, .inr (3, [.ref q_shelf, .ref q_seeds, .int out.1])), (q_shelf, .inr (9, [.int v_shelf_places, .ref q_shelf_cells])), (q_shelf_cells, .inl (cI, 38, .inl out.2.1)), (q_seeds, .inl (cI, 2, .inl out.2.2)), (q_p2, .inr (10, [.ref q_p2_kept, .ref q_p2_away, .int v_p2_days, .int v_p2_spilled, .int v_p2_river])), (q_p2_kept, .inl (cI, 8, .inl v_p2_kept)), (q_p2_away, .inl (cI, 8, .inl v_p2_away)), (q_p3, .inr (1, [.int v_p3_value]))]) (va_A [(q_this, .inr (3, [.ref q_shelf, .ref q_seeds, .int v_storedSet])), (q_shelf, .inr (9, [.int v_shelf_places, .ref q_shelf_cells])), (q_shelf_cells, .inl (cI, 38, .inl v_shelf_cells)), (q_seeds, .inl (cI, 2, .inl v_seeds)), (q_p2, .inr (10, [.ref q_p2_kept, .ref q_p2_away, .int v_p2_days, .int v_p2_spilled, .int v_p2_river])), (q_p2_kept, .inl (cI, 8, .inl v_p2_kept)), (q_p2_away, .inl (cI, 8, .inl v_p2_away)), (q_p3, .inr (1, [.int v_p3_value]))] sz)) 0 0 (va_A [(q_this, .inr (3, [.ref q_shelf, .ref q_seeds, .int v_storedSet])), (q_shelf, .inr (9, [.int v_shelf_places, .ref q_shelf_cells])), (q_shelf_cells, .inl (cI, 38, .inl v_shelf_cells)), (q_seeds, .inl (cI, 2, .inl v_seeds)), (q_p2, .inr (10, [.ref q_p2_kept, .ref q_p2_away, .int v_p2_days, .int v_p2_spilled, .int v_p2_river])), (q_p2_kept, .inl (cI, 8, .inl v_p2_kept)), (q_p2_away, .inl (cI, 8, .inl v_p2_away)), (q_p3, .inr (1, [.int v_p3_value]))] sz) := by
  refine Met.ofW (cc := cX3_store) (maxL := 4) (ret := none) (by decide) rfl ?_
  intro p e s m args below meth c s₁ B hml hv
  obtain ⟨rfl, hsz, hP, hK, hD0⟩ := hv
  have hx := B.exec
  have hb := B.bytes
  have hr := B.returns
  have hts := atoms_spec (ws := wsX3_store) B.pre
  have hown : s.vm.findClass RX3 = some m.cls := findClass_of_methodNamed B.named
  have hlocks := B.notSynchronized
  subst hsz
  have hD := hD0.self (sz := s.heap.size)
  generalize hAe : va_A [(q_this, .inr (3, [.ref q_shelf, .ref q_seeds, .int v_storedSet])), (q_shelf, .inr (9, [.int v_shelf_places, .ref q_shelf_cells])), (q_shelf_cells, .inl (cI, 38, .inl v_shelf_cells)), (q_seeds, .inl (cI, 2, .inl v_seeds)), (q_p2, .inr (10, [.ref q_p2_kept, .ref q_p2_away, .int v_p2_days, .int v_p2_spilled, .int v_p2_river])), (q_p2_kept, .inl (cI, 8, .inl v_p2_kept)), (q_p2_away, .inl (cI, 8, .inl v_p2_away)), (q_p3, .inr (1, [.int v_p3_value]))] s.heap.size = A at hD ⊢
  have hA : ∀ q : Nat, s.heap.size ≤ q → A q := fun q h => by rw [← hAe]; exact Or.inr h
  have hS : va_S A s.heap s.heap [] := va_S.rf
  have hl := lv_entry ([.ref q_this, .int a1, .ref q_p2, .ref q_p3]) (n := 4) (Nat.le_of_ble_eq_true rfl)
  rw [lg_entry_eq]
  generalize (lg_sl ([.ref q_this, .int a1, .ref q_p2, .ref q_p3]) ++ List.replicate (4 - (lg_sl ([.ref q_this, .int a1, .ref q_p2, .ref q_p3])).length) Slot.unset).toArray = ls at hl ⊢
  have hl : lv_has ls 4 [(0, .ref q_this), (1, .int a1), (2, .ref q_p2), (3, .ref q_p3)] := hl
  unfold fX3_store at hrun
  have hk14 := hts (.fieldLink RX3 14 "LentDrains$Images" "shelf" "LLentDrains$Shelf;") (by decide +kernel)
  have hiX3 : ∀ w ∈ wsX30, w ∈ wsX3_store := by decide +kernel
  have hk18 := hts (.fieldLink RX3 18 "LentDrains$Images" "seeds" "[I") (by decide +kernel)
  have hk34 := hts (.fieldLink RX3 34 "LentDrains$Draws" "value" "I") (by decide +kernel)
  have hiX1 : ∀ w ∈ wsX10, w ∈ wsX3_store := by decide +kernel
  have hk22 := hts (.fieldLink RX3 22 "LentDrains$Images" "storedSet" "I") (by decide +kernel)
  refine oz_genQ (fun Q hQ => ?_)
  refine lv_aload_n hx hb dX3_store_0 rfl (lv_at hl 0 rfl) ?_
  refine lv_iload_n hx hb dX3_store_1 rfl (lv_at hl 1 rfl) ?_
  obtain ⟨y2, hc2, hrun⟩ := oz_bind hrun
  have hPc := hP.sub (ws' := []) [] rfl
  have hDc := hD.sub (ws' := []) [] (by decide) rfl
  have hFc := va_free (wc := []) hD hS hA [] rfl
  refine va_calli (va_runV (As := [.int a1]) (rest := []) ⟨hx, hb, hml, hown, hts⟩ (tX3_has l dC dI cI cZ q_this s.heap.size a1 y2 hc2) (cwV 1 hts gX3_store_X3_has rfl rfl rfl (by decide +kernel) ⟨Nat.le_of_ble_eq_true rfl, Nat.le_of_ble_eq_true rfl⟩) ⟨fun a U g mk q => by obtain ⟨q0, q1, qP, qK, qD⟩ := q; exact ⟨q0, q1, qP, va_K.moved (u := U) (U := U.calling g mk a) (Vm.Alike.refl U.vm) qK, qD⟩, va_recv hK hP (ci := 3) (q0 := 0) rfl rfl, fun U hU hW => ⟨rfl, by rw [hU], by rw [hU]; exact hPc, va_K.moved hW.alike hK, hDc.weaken (fun _ _ _ _ => trivial)⟩⟩ rfl rfl hl.1 rfl (lv_room (Nat.le_of_ble_eq_true rfl)) dX3_store_2 ⟨Nat.le_of_ble_eq_true rfl, Nat.le_of_ble_eq_true rfl⟩) hS (fun q _ h => hFc q h) hFc (fun r2 u9 t9 H1 locs ht9 hvm9 hw9 hB9 hz9 hkk9 hS => ?_)
  have hw9 : y2 = r2 := hw9.symm
  subst hw9
  obtain ⟨hP9, hK9, hD9⟩ := hB9
  rw [ht9] at hP9
  obtain ⟨hP, hD⟩ := va_join (wr := [(q_this, .inr (3, [.ref q_shelf, .ref q_seeds, .int v_storedSet])), (q_shelf, .inr (9, [.int v_shelf_places, .ref q_shelf_cells])), (q_shelf_cells, .inl (cI, 38, .inl v_shelf_cells)), (q_seeds, .inl (cI, 2, .inl v_seeds)), (q_p2, .inr (10, [.ref q_p2_kept, .ref q_p2_away, .int v_p2_days, .int v_p2_spilled, .int v_p2_river])), (q_p2_kept, .inl (cI, 8, .inl v_p2_kept)), (q_p2_away, .inl (cI, 8, .inl v_p2_away)), (q_p3, .inr (1, [.int v_p3_value]))]) (w1 := []) hP hD [] [0, 1, 2, 3, 4, 5, 6, 7] rfl rfl (by decide) (by decide) hkk9 hFc hP9 hD9
  generalize H1 = H at hP hS ⊢
  have hP : va_P (dC, dI) vwCl [(q_this, .inr (3, [.ref q_shelf, .ref q_seeds, .int v_storedSet])), (q_shelf, .inr (9, [.int v_shelf_places, .ref q_shelf_cells])), (q_shelf_cells, .inl (cI, 38, .inl v_shelf_cells)), (q_seeds, .inl (cI, 2, .inl v_seeds)), (q_p2, .inr (10, [.ref q_p2_kept, .ref q_p2_away, .int v_p2_days, .int v_p2_spilled, .int v_p2_river])), (q_p2_kept, .inl (cI, 8, .inl v_p2_kept)), (q_p2_away, .inl (cI, 8, .inl v_p2_away)), (q_p3, .inr (1, [.int v_p3_value]))] H := hP
  have hD : va_D A [(q_this, .inr (3, [.ref q_shelf, .ref q_seeds, .int v_storedSet])), (q_shelf, .inr (9, [.int v_shelf_places, .ref q_shelf_cells])), (q_shelf_cells, .inl (cI, 38, .inl v_shelf_cells)), (q_seeds, .inl (cI, 2, .inl v_seeds)), (q_p2, .inr (10, [.ref q_p2_kept, .ref q_p2_away, .int v_p2_days, .int v_p2_spilled, .int v_p2_river])), (q_p2_kept, .inl (cI, 8, .inl v_p2_kept)), (q_p2_away, .inl (cI, 8, .inl v_p2_away)), (q_p3, .inr (1, [.int v_p3_value]))] := hD
  refine lv_if_eq (tgt := 39) hx hb dX3_store_5 (by decide) (fun c1 => ?_) (fun c1 => ?_)
  · have hrun := oz_t hrun c1
    have ho9 := Option.some.inj hrun
    subst ho9
    have hP9 := hP.sub (ws' := [(q_this, .inr (3, [.ref q_shelf, .ref q_seeds, .int v_storedSet])), (q_shelf, .inr (9, [.int v_shelf_places, .ref q_shelf_cells])), (q_shelf_cells, .inl (cI, 38, .inl v_shelf_cells)), (q_seeds, .inl (cI, 2, .inl v_seeds)), (q_p2, .inr (10, [.ref q_p2_kept, .ref q_p2_away, .int v_p2_days, .int v_p2_spilled, .int v_p2_river])), (q_p2_kept, .inl (cI, 8, .inl v_p2_kept)), (q_p2_away, .inl (cI, 8, .inl v_p2_away)), (q_p3, .inr (1, [.int v_p3_value]))]) [0, 1, 2, 3, 4, 5, 6, 7] rfl
    have hD9 := hD.sub (ws' := [(q_this, .inr (3, [.ref q_shelf, .ref q_seeds, .int v_storedSet])), (q_shelf, .inr (9, [.int v_shelf_places, .ref q_shelf_cells])), (q_shelf_cells, .inl (cI, 38, .inl v_shelf_cells)), (q_seeds, .inl (cI, 2, .inl v_seeds)), (q_p2, .inr (10, [.ref q_p2_kept, .ref q_p2_away, .int v_p2_days, .int v_p2_spilled, .int v_p2_river])), (q_p2_kept, .inl (cI, 8, .inl v_p2_kept)), (q_p2_away, .inl (cI, 8, .inl v_p2_away)), (q_p3, .inr (1, [.int v_p3_value]))]) [0, 1, 2, 3, 4, 5, 6, 7] (by decide) rfl
    rw [hQ]
    exact W.vret hx hb hr (fun t ht hW => ⟨⟨(), rfl, trivial, by rw [ht]; exact hP9, va_K.moved hW.alike hK, hD9⟩, hS.F ht⟩) hS.2.2 dX3_store_39
  · have hrun := oz_f hrun c1
    refine lv_aload_n hx hb dX3_store_8 rfl (lv_at hl 0 rfl) ?_
    refine va_get (D := (dC, dI)) (ci := 3) (v := .ref q_shelf) (C := RX3) (T := TX3) (N := 3) hx hb hts hiX3 hown hK hP 0 rfl rfl 0 (by decide) hk14 (fun _ h9 => h9) rfl dX3_store_9 ?_
    refine lv_iload_n hx hb dX3_store_12 rfl (lv_at hl 1 rfl) ?_
    refine lv_aload_n hx hb dX3_store_13 rfl (lv_at hl 2 rfl) ?_
    obtain ⟨y14, hc14, hrun⟩ := oz_bind hrun
    have hPc := hP.sub (ws' := [(q_shelf, .inr (9, [.int v_shelf_places, .ref q_shelf_cells])), (q_shelf_cells, .inl (cI, 38, .inl v_shelf_cells)), (q_p2, .inr (10, [.ref q_p2_kept, .ref q_p2_away, .int v_p2_days, .int v_p2_spilled, .int v_p2_river])), (q_p2_kept, .inl (cI, 8, .inl v_p2_kept)), (q_p2_away, .inl (cI, 8, .inl v_p2_away))]) [1, 2, 4, 5, 6] rfl
    have hDc := hD.sub (ws' := [(q_shelf, .inr (9, [.int v_shelf_places, .ref q_shelf_cells])), (q_shelf_cells, .inl (cI, 38, .inl v_shelf_cells)), (q_p2, .inr (10, [.ref q_p2_kept, .ref q_p2_away, .int v_p2_days, .int v_p2_spilled, .int v_p2_river])), (q_p2_kept, .inl (cI, 8, .inl v_p2_kept)), (q_p2_away, .inl (cI, 8, .inl v_p2_away))]) [1, 2, 4, 5, 6] (by decide) rfl
    have hFc := va_free (wc := [(q_shelf, .inr (9, [.int v_shelf_places, .ref q_shelf_cells])), (q_shelf_cells, .inl (cI, 38, .inl v_shelf_cells)), (q_p2, .inr (10, [.ref q_p2_kept, .ref q_p2_away, .int v_p2_days, .int v_p2_spilled, .int v_p2_river])), (q_p2_kept, .inl (cI, 8, .inl v_p2_kept)), (q_p2_away, .inl (cI, 8, .inl v_p2_away))]) hD hS hA [1, 2, 4, 5, 6] rfl
    refine va_callv (va_runV (As := [.int a1, .ref q_p2]) (rest := []) ⟨hx, hb, hml, hown, hts⟩ (tX9_put l dC dI cI cZ q_shelf_cells q_p2 q_p2_away q_p2_kept q_shelf H.size 38 v_shelf_places v_shelf_cells v_p2_days v_p2_spilled v_p2_river v_p2_kept v_p2_away a1 y14 hc14) (cwV 2 hts gX3_store_X9_put rfl rfl rfl (by decide +kernel) ⟨Nat.le_of_ble_eq_true rfl, Nat.le_of_ble_eq_true rfl⟩) ⟨fun a U g mk q => by obtain ⟨q0, q1, qP, qK, qD⟩ := q; exact ⟨q0, q1, qP, va_K.moved (u := U) (U := U.calling g mk a) (Vm.Alike.refl U.vm) qK, qD⟩, va_recv hK hPc (ci := 9) (q0 := 0) rfl rfl, fun U hU hW => ⟨rfl, by rw [hU], by rw [hU]; exact hPc, va_K.moved hW.alike hK, hDc.weaken (fun _ _ _ _ => trivial)⟩⟩ rfl rfl hl.1 rfl (lv_room (Nat.le_of_ble_eq_true rfl)) dX3_store_14 ⟨Nat.le_of_ble_eq_true rfl, Nat.le_of_ble_eq_true rfl⟩) hS (fun q _ h => hFc q h) hFc (fun u9 t9 H1 locs ht9 hvm9 hw9 hB9 hz9 hkk9 hS => ?_)
    obtain ⟨hP9, hK9, hD9⟩ := hB9
    rw [ht9] at hP9
    obtain ⟨hP, hD⟩ := va_join (wr := [(q_this, .inr (3, [.ref q_shelf, .ref q_seeds, .int v_storedSet])), (q_seeds, .inl (cI, 2, .inl v_seeds)), (q_p3, .inr (1, [.int v_p3_value]))]) (w1 := [(q_shelf, .inr (9, [.int v_shelf_places, .ref q_shelf_cells])), (q_shelf_cells, .inl (cI, 38, .inl y14)), (q_p2, .inr (10, [.ref q_p2_kept, .ref q_p2_away, .int v_p2_days, .int v_p2_spilled, .int v_p2_river])), (q_p2_kept, .inl (cI, 8, .inl v_p2_kept)), (q_p2_away, .inl (cI, 8, .inl v_p2_away))]) hP hD [1, 2, 4, 5, 6] [0, 3, 7] rfl rfl (by decide) (by decide) hkk9 hFc hP9 hD9
    generalize H1 = H at hP hS ⊢
    have hP : va_P (dC, dI) vwCl [(q_this, .inr (3, [.ref q_shelf, .ref q_seeds, .int v_storedSet])), (q_seeds, .inl (cI, 2, .inl v_seeds)), (q_p3, .inr (1, [.int v_p3_value])), (q_shelf, .inr (9, [.int v_shelf_places, .ref q_shelf_cells])), (q_shelf_cells, .inl (cI, 38, .inl y14)), (q_p2, .inr (10, [.ref q_p2_kept, .ref q_p2_away, .int v_p2_days, .int v_p2_spilled, .int v_p2_river])), (q_p2_kept, .inl (cI, 8, .inl v_p2_kept)), (q_p2_away, .inl (cI, 8, .inl v_p2_away))] H := hP
    have hD : va_D A [(q_this, .inr (3, [.ref q_shelf, .ref q_seeds, .int v_storedSet])), (q_seeds, .inl (cI, 2, .inl v_seeds)), (q_p3, .inr (1, [.int v_p3_value])), (q_shelf, .inr (9, [.int v_shelf_places, .ref q_shelf_cells])), (q_shelf_cells, .inl (cI, 38, .inl y14)), (q_p2, .inr (10, [.ref q_p2_kept, .ref q_p2_away, .int v_p2_days, .int v_p2_spilled, .int v_p2_river])), (q_p2_kept, .inl (cI, 8, .inl v_p2_kept)), (q_p2_away, .inl (cI, 8, .inl v_p2_away))] := hD
    refine lv_aload_n hx hb dX3_store_17 rfl (lv_at hl 0 rfl) ?_
    refine va_get (D := (dC, dI)) (ci := 3) (v := .ref q_seeds) (C := RX3) (T := TX3) (N := 3) hx hb hts hiX3 hown hK hP 0 rfl rfl 1 (by decide) hk18 (fun _ h9 => h9) rfl dX3_store_18 ?_
    refine lv_iload_n hx hb dX3_store_21 rfl (lv_at hl 1 rfl) ?_
    refine lv_aload_n hx hb dX3_store_22 rfl (lv_at hl 3 rfl) ?_
    refine va_get (D := (dC, dI)) (ci := 1) (v := .int v_p3_value) (C := RX1) (T := TX1) (N := 1) hx hb hts hiX1 hown hK hP 2 rfl rfl 0 (by decide) hk34 (fun _ h9 => h9) rfl dX3_store_23 ?_
    obtain ⟨c2, hrun⟩ := oz_chk hrun
    refine va_iast hx hb hK hP hD hS 1 0 rfl rfl c2 dX3_store_26 (fun H locs hP hD hS => ?_)
    have hP : va_P (dC, dI) vwCl [(q_this, .inr (3, [.ref q_shelf, .ref q_seeds, .int v_storedSet])), (q_seeds, .inl (cI, 2, .inl (upd v_seeds (Int32.toNatClampNeg a1) v_p3_value))), (q_p3, .inr (1, [.int v_p3_value])), (q_shelf, .inr (9, [.int v_shelf_places, .ref q_shelf_cells])), (q_shelf_cells, .inl (cI, 38, .inl y14)), (q_p2, .inr (10, [.ref q_p2_kept, .ref q_p2_away, .int v_p2_days, .int v_p2_spilled, .int v_p2_river])), (q_p2_kept, .inl (cI, 8, .inl v_p2_kept)), (q_p2_away, .inl (cI, 8, .inl v_p2_away))] H := hP
    have hD : va_D A [(q_this, .inr (3, [.ref q_shelf, .ref q_seeds, .int v_storedSet])), (q_seeds, .inl (cI, 2, .inl (upd v_seeds (Int32.toNatClampNeg a1) v_p3_value))), (q_p3, .inr (1, [.int v_p3_value])), (q_shelf, .inr (9, [.int v_shelf_places, .ref q_shelf_cells])), (q_shelf_cells, .inl (cI, 38, .inl y14)), (q_p2, .inr (10, [.ref q_p2_kept, .ref q_p2_away, .int v_p2_days, .int v_p2_spilled, .int v_p2_river])), (q_p2_kept, .inl (cI, 8, .inl v_p2_kept)), (q_p2_away, .inl (cI, 8, .inl v_p2_away))] := hD
    refine lv_aload_n hx hb dX3_store_27 rfl (lv_at hl 0 rfl) ?_
    refine lv_dup hx hb dX3_store_28 rfl ?_
    refine va_get (D := (dC, dI)) (ci := 3) (v := .int v_storedSet) (C := RX3) (T := TX3) (N := 3) hx hb hts hiX3 hown hK hP 0 rfl rfl 2 (by decide) hk22 (fun _ h9 => h9) rfl dX3_store_29 ?_
    refine lv_iconst (v := 1) hx hb dX3_store_32 (by decide) ?_
    refine lv_iload_n hx hb dX3_store_33 rfl (lv_at hl 1 rfl) ?_
    refine lv_ishl hx hb dX3_store_34 ?_
    refine lv_ior hx hb dX3_store_35 ?_
    refine va_put (D := (dC, dI)) (ci := 3) (v := .int (v_storedSet ||| (1 <<< (a1 &&& 31)))) (ty := .int) (C := RX3) (T := TX3) (N := 3) hx hb hts hiX3 tyX3 tyX3_ok nmX3 hown hK hP hD hS 0 rfl rfl 2 (by decide) hk22 (fun _ h9 => h9) rfl (by decide +kernel) rfl rfl (Nat.le_of_ble_eq_true rfl) dX3_store_36 (fun H locs hP hD hS => ?_)
    have hP : va_P (dC, dI) vwCl [(q_this, .inr (3, [.ref q_shelf, .ref q_seeds, .int (v_storedSet ||| (1 <<< (a1 &&& 31)))])), (q_seeds, .inl (cI, 2, .inl (upd v_seeds (Int32.toNatClampNeg a1) v_p3_value))), (q_p3, .inr (1, [.int v_p3_value])), (q_shelf, .inr (9, [.int v_shelf_places, .ref q_shelf_cells])), (q_shelf_cells, .inl (cI, 38, .inl y14)), (q_p2, .inr (10, [.ref q_p2_kept, .ref q_p2_away, .int v_p2_days, .int v_p2_spilled, .int v_p2_river])), (q_p2_kept, .inl (cI, 8, .inl v_p2_kept)), (q_p2_away, .inl (cI, 8, .inl v_p2_away))] H := hP
    have hD : va_D A [(q_this, .inr (3, [.ref q_shelf, .ref q_seeds, .int (v_storedSet ||| (1 <<< (a1 &&& 31)))])), (q_seeds, .inl (cI, 2, .inl (upd v_seeds (Int32.toNatClampNeg a1) v_p3_value))), (q_p3, .inr (1, [.int v_p3_value])), (q_shelf, .inr (9, [.int v_shelf_places, .ref q_shelf_cells])), (q_shelf_cells, .inl (cI, 38, .inl y14)), (q_p2, .inr (10, [.ref q_p2_kept, .ref q_p2_away, .int v_p2_days, .int v_p2_spilled, .int v_p2_river])), (q_p2_kept, .inl (cI, 8, .inl v_p2_kept)), (q_p2_away, .inl (cI, 8, .inl v_p2_away))] := hD
    have ho9 := Option.some.inj hrun
    subst ho9
    have hP9 := hP.sub (ws' := [(q_this, .inr (3, [.ref q_shelf, .ref q_seeds, .int (v_storedSet ||| (1 <<< (a1 &&& 31)))])), (q_shelf, .inr (9, [.int v_shelf_places, .ref q_shelf_cells])), (q_shelf_cells, .inl (cI, 38, .inl y14)), (q_seeds, .inl (cI, 2, .inl (upd v_seeds (Int32.toNatClampNeg a1) v_p3_value))), (q_p2, .inr (10, [.ref q_p2_kept, .ref q_p2_away, .int v_p2_days, .int v_p2_spilled, .int v_p2_river])), (q_p2_kept, .inl (cI, 8, .inl v_p2_kept)), (q_p2_away, .inl (cI, 8, .inl v_p2_away)), (q_p3, .inr (1, [.int v_p3_value]))]) [0, 3, 4, 1, 5, 6, 7, 2] rfl
    have hD9 := hD.sub (ws' := [(q_this, .inr (3, [.ref q_shelf, .ref q_seeds, .int (v_storedSet ||| (1 <<< (a1 &&& 31)))])), (q_shelf, .inr (9, [.int v_shelf_places, .ref q_shelf_cells])), (q_shelf_cells, .inl (cI, 38, .inl y14)), (q_seeds, .inl (cI, 2, .inl (upd v_seeds (Int32.toNatClampNeg a1) v_p3_value))), (q_p2, .inr (10, [.ref q_p2_kept, .ref q_p2_away, .int v_p2_days, .int v_p2_spilled, .int v_p2_river])), (q_p2_kept, .inl (cI, 8, .inl v_p2_kept)), (q_p2_away, .inl (cI, 8, .inl v_p2_away)), (q_p3, .inr (1, [.int v_p3_value]))]) [0, 3, 4, 1, 5, 6, 7, 2] (by decide) rfl
    rw [hQ]
    exact W.vret hx hb hr (fun t ht hW => ⟨⟨(), rfl, trivial, by rw [ht]; exact hP9, va_K.moved hW.alike hK, hD9⟩, hS.F ht⟩) hS.2.2 dX3_store_39
def fX3_fetch (v_storedSet : Int32) (v_shelf_places : Int32) (v_shelf_cells : Nat → Int32) (v_seeds : Nat → Int32) (v_p2_days : Int32) (v_p2_spilled : Int32) (v_p2_river : Int32) (v_p2_kept : Nat → Int32) (v_p2_away : Nat → Int32) (v_p3_value : Int32) (a1 : Int32) : Option (Int32 × Int32 × Int32 × Int32 × (Nat → Int32) × (Nat → Int32) × Int32) :=
  Option.bind (fX3_has a1) (fun y2 => if y2 = 0 then (some (0, v_p2_days, v_p2_spilled, v_p2_river, v_p2_kept, v_p2_away, v_p3_value)) else (if ((v_storedSet >>> (a1 &&& 31)) &&& 1) = 0 then (some (0, v_p2_days, v_p2_spilled, v_p2_river, v_p2_kept, v_p2_away, v_p3_value)) else (Option.bind (fX9_get 38 v_shelf_places v_shelf_cells v_p2_days v_p2_spilled v_p2_river v_p2_kept v_p2_away a1) (fun y27 => if (a1 < 0 ∨ 2 ≤ Int32.toNatClampNeg a1) then none else some (1, y27.1, y27.2.1, y27.2.2.1, y27.2.2.2.1, y27.2.2.2.2, (v_seeds (Int32.toNatClampNeg a1)))))))
def rmX3_fetch : Room := { frames := 2, cells := 0, slots := 0, locals := 49 }
set_option maxHeartbeats 4000000 in
set_option maxRecDepth 100000 in
theorem tX3_fetch (l : Launch) (dC : Nat → ClassId) (dI : Nat → Nat → Nat) (cI cZ : ClassId) (q_p2 q_p2_away q_p2_kept q_p3 q_seeds q_shelf q_shelf_cells q_this : Nat) (sz : Nat) (v_storedSet : Int32) (v_shelf_places : Int32) (v_shelf_cells : Nat → Int32) (v_seeds : Nat → Int32) (v_p2_days : Int32) (v_p2_spilled : Int32) (v_p2_river : Int32) (v_p2_kept : Nat → Int32) (v_p2_away : Nat → Int32) (v_p3_value : Int32) (a1 : Int32) (out : Int32 × Int32 × Int32 × Int32 × (Nat → Int32) × (Nat → Int32) × Int32) (hrun : fX3_fetch v_storedSet v_shelf_places v_shelf_cells v_seeds v_p2_days v_p2_spilled v_p2_river v_p2_kept v_p2_away v_p3_value a1 = some out) : Met l yX3_fetch wsX3_fetch rmX3_fetch (va_Pc [.ref q_this, .int a1, .ref q_p2, .ref q_p3] (fun U => U.heap.size = sz ∧ va_P (dC, dI) vwCl [(q_this, .inr (3, [.ref q_shelf, .ref q_seeds, .int v_storedSet])), (q_shelf, .inr (9, [.int v_shelf_places, .ref q_shelf_cells])), (q_shelf_cells, .inl (cI, 38, .inl v_shelf_cells)), (q_seeds, .inl (cI, 2, .inl v_seeds)), (q_p2, .inr (10, [.ref q_p2_kept, .ref q_p2_away, .int v_p2_days, .int v_p2_spilled, .int v_p2_river])), (q_p2_kept, .inl (cI, 8, .inl v_p2_kept)), (q_p2_away, .inl (cI, 8, .inl v_p2_away)), (q_p3, .inr (1, [.int v_p3_value]))] U.heap ∧ va_K (dC, dI) vwCl [(cI, .int), (cZ, .boolean)] U ∧ va_D (fun _ => True) [(q_this, .inr (3, [.ref q_shelf, .ref q_seeds, .int v_storedSet])), (q_shelf, .inr (9, [.int v_shelf_places, .ref q_shelf_cells])), (q_shelf_cells, .inl (cI, 38, .inl v_shelf_cells)), (q_seeds, .inl (cI, 2, .inl v_seeds)), (q_p2, .inr (10, [.ref q_p2_kept, .ref q_p2_away, .int v_p2_days, .int v_p2_spilled, .int v_p2_river])), (q_p2_kept, .inl (cI, 8, .inl v_p2_kept)), (q_p2_away, .inl (cI, 8, .inl v_p2_away)), (q_p3, .inr (1, [.int v_p3_value]))])) (va_Qi (fun (r : Int32) (_ : Unit) => r = out.1) (fun _ t => va_P (dC, dI) vwCl [(q_this, .inr (3, [.ref q_shelf, .ref q_seeds, .int v_storedSet])), (q_shelf, .inr (9, [.int v_shelf_places, .ref q_shelf_cells])), (q_shelf_cells, .inl (cI, 38, .inl v_shelf_cells)), (q_seeds, .inl (cI, 2, .inl v_seeds)), (q_p2, .inr (10, [.ref q_p2_kept, .ref q_p2_away, .int out.2.1, .int out.2.2.1, .int out.2.2.2.1])), (q_p2_kept, .inl (cI, 8, .inl out.2.2.2.2.1)), (q_p2_away, .inl (cI, 8, .inl out.2.2.2.2.2.1)), (q_p3, .inr (1, [.int out.2.2.2.2.2.2]))] t.heap ∧ va_K (dC, dI) vwCl [(cI, .int), (cZ, .boolean)] t ∧ va_D (va_A [(q_this, .inr (3, [.ref q_shelf, .ref q_seeds, .int v_storedSet])), (q_shelf, .inr (9, [.int v_shelf_places, .ref q_shelf_cells])), (q_shelf_cells, .inl (cI, 38, .inl v_shelf_cells)), (q_seeds, .inl (cI, 2, .inl v_seeds)), (q_p2, .inr (10, [.ref q_p2_kept, .ref q_p2_away, .int v_p2_days, .int v_p2_spilled, .int v_p2_river])), (q_p2_kept, .inl (cI, 8, .inl v_p2_kept)), (q_p2_away, .inl (cI, 8, .inl v_p2_away)), (q_p3, .inr (1, [.int v_p3_value]))] sz) [(q_this, .inr (3, [.ref q_shelf, .ref q_seeds, .int v_storedSet])), (q_shelf, .inr (9, [.int v_shelf_places, .ref q_shelf_cells])), (q_shelf_cells, .inl (cI, 38, .inl v_shelf_cells)), (q_seeds, .inl (cI, 2, .inl v_seeds)), (q_p2, .inr (10, [.ref q_p2_kept, .ref q_p2_away, .int out.2.1, .int out.2.2.1, .int out.2.2.2.1])), (q_p2_kept, .inl (cI, 8, .inl out.2.2.2.2.1)), (q_p2_away, .inl (cI, 8, .inl out.2.2.2.2.2.1)), (q_p3, .inr (1, [.int out.2.2.2.2.2.2]))]) (va_A [(q_this, .inr (3, [.ref q_shelf, .ref q_seeds, .int v_storedSet])), (q_shelf, .inr (9, [.int v_shelf_places, .ref q_shelf_cells])), (q_shelf_cells, .inl (cI, 38, .inl v_shelf_cells)), (q_seeds, .inl (cI, 2, .inl v_seeds)), (q_p2, .inr (10, [.ref q_p2_kept, .ref q_p2_away, .int v_p2_days, .int v_p2_spilled, .int v_p2_river])), (q_p2_kept, .inl (cI, 8, .inl v_p2_kept)), (q_p2_away, .inl (cI, 8, .inl v_p2_away)), (q_p3, .inr (1, [.int v_p3_value]))] sz)) 0 0 (va_A [(q_this, .inr (3, [.ref q_shelf, .ref q_seeds, .int v_storedSet])), (q_shelf, .inr (9, [.int v_shelf_places, .ref q_shelf_cells])), (q_shelf_cells, .inl (cI, 38, .inl v_shelf_cells)), (q_seeds, .inl (cI, 2, .inl v_seeds)), (q_p2, .inr (10, [.ref q_p2_kept, .ref q_p2_away, .int v_p2_days, .int v_p2_spilled, .int v_p2_river])), (q_p2_kept, .inl (cI, 8, .inl v_p2_kept)), (q_p2_away, .inl (cI, 8, .inl v_p2_away)), (q_p3, .inr (1, [.int v_p3_value]))] sz) := by
  refine Met.ofW (cc := cX3_fetch) (maxL := 4) (ret := (some .boolean)) (by decide) rfl ?_
  intro p e s m args below meth c s₁ B hml hv
  obtain ⟨rfl, hsz, hP, hK, hD0⟩ := hv
  have hx := B.exec
  have hb := B.bytes
  have hr := B.returns
  have hts := atoms_spec (ws := wsX3_fetch) B.pre
  have hown : s.vm.findClass RX3 = some m.cls := findClass_of_methodNamed B.named
  have hlocks := B.notSynchronized
  subst hsz
  have hD := hD0.self (sz := s.heap.size)
  generalize hAe : va_A [(q_this, .inr (3, [.ref q_shelf, .ref q_seeds, .int v_storedSet])), (q_shelf, .inr (9, [.int v_shelf_places, .ref q_shelf_cells])), (q_shelf_cells, .inl (cI, 38, .inl v_shelf_cells)), (q_seeds, .inl (cI, 2, .inl v_seeds)), (q_p2, .inr (10, [.ref q_p2_kept, .ref q_p2_away, .int v_p2_days, .int v_p2_spilled, .int v_p2_river])), (q_p2_kept, .inl (cI, 8, .inl v_p2_kept)), (q_p2_away, .inl (cI, 8, .inl v_p2_away)), (q_p3, .inr (1, [.int v_p3_value]))] s.heap.size = A at hD ⊢
  have hA : ∀ q : Nat, s.heap.size ≤ q → A q := fun q h => by rw [← hAe]; exact Or.inr h
  have hS : va_S A s.heap s.heap [] := va_S.rf
  have hl := lv_entry ([.ref q_this, .int a1, .ref q_p2, .ref q_p3]) (n := 4) (Nat.le_of_ble_eq_true rfl)
  rw [lg_entry_eq]
  generalize (lg_sl ([.ref q_this, .int a1, .ref q_p2, .ref q_p3]) ++ List.replicate (4 - (lg_sl ([.ref q_this, .int a1, .ref q_p2, .ref q_p3])).length) Slot.unset).toArray = ls at hl ⊢
  have hl : lv_has ls 4 [(0, .ref q_this), (1, .int a1), (2, .ref q_p2), (3, .ref q_p3)] := hl
  unfold fX3_fetch at hrun
  have hk22 := hts (.fieldLink RX3 22 "LentDrains$Images" "storedSet" "I") (by decide +kernel)
  have hiX3 : ∀ w ∈ wsX30, w ∈ wsX3_fetch := by decide +kernel
  have hk14 := hts (.fieldLink RX3 14 "LentDrains$Images" "shelf" "LLentDrains$Shelf;") (by decide +kernel)
  have hk18 := hts (.fieldLink RX3 18 "LentDrains$Images" "seeds" "[I") (by decide +kernel)
  have hk34 := hts (.fieldLink RX3 34 "LentDrains$Draws" "value" "I") (by decide +kernel)
  have hiX1 : ∀ w ∈ wsX10, w ∈ wsX3_fetch := by decide +kernel
  refine oz_genQ (fun Q hQ => ?_)
  refine lv_aload_n hx hb dX3_fetch_0 rfl (lv_at hl 0 rfl) ?_
  refine lv_iload_n hx hb dX3_fetch_1 rfl (lv_at hl 1 rfl) ?_
  obtain ⟨y2, hc2, hrun⟩ := oz_bind hrun
  have hPc := hP.sub (ws' := []) [] rfl
  have hDc := hD.sub (ws' := []) [] (by decide) rfl
  have hFc := va_free (wc := []) hD hS hA [] rfl
  refine va_calli (va_runV (As := [.int a1]) (rest := []) ⟨hx, hb, hml, hown, hts⟩ (tX3_has l dC dI cI cZ q_this s.heap.size a1 y2 hc2) (cwV 1 hts gX3_fetch_X3_has rfl rfl rfl (by decide +kernel) ⟨Nat.le_of_ble_eq_true rfl, Nat.le_of_ble_eq_true rfl⟩) ⟨fun a U g mk q => by obtain ⟨q0, q1, qP, qK, qD⟩ := q; exact ⟨q0, q1, qP, va_K.moved (u := U) (U := U.calling g mk a) (Vm.Alike.refl U.vm) qK, qD⟩, va_recv hK hP (ci := 3) (q0 := 0) rfl rfl, fun U hU hW => ⟨rfl, by rw [hU], by rw [hU]; exact hPc, va_K.moved hW.alike hK, hDc.weaken (fun _ _ _ _ => trivial)⟩⟩ rfl rfl hl.1 rfl (lv_room (Nat.le_of_ble_eq_true rfl)) dX3_fetch_2 ⟨Nat.le_of_ble_eq_true rfl, Nat.le_of_ble_eq_true rfl⟩) hS (fun q _ h => hFc q h) hFc (fun r2 u9 t9 H1 locs ht9 hvm9 hw9 hB9 hz9 hkk9 hS => ?_)
  have hw9 : y2 = r2 := hw9.symm
  subst hw9
  obtain ⟨hP9, hK9, hD9⟩ := hB9
  rw [ht9] at hP9
  obtain ⟨hP, hD⟩ := va_join (wr := [(q_this, .inr (3, [.ref q_shelf, .ref q_seeds, .int v_storedSet])), (q_shelf, .inr (9, [.int v_shelf_places, .ref q_shelf_cells])), (q_shelf_cells, .inl (cI, 38, .inl v_shelf_cells)), (q_seeds, .inl (cI, 2, .inl v_seeds)), (q_p2, .inr (10, [.ref q_p2_kept, .ref q_p2_away, .int v_p2_days, .int v_p2_spilled, .int v_p2_river])), (q_p2_kept, .inl (cI, 8, .inl v_p2_kept)), (q_p2_away, .inl (cI, 8, .inl v_p2_away)), (q_p3, .inr (1, [.int v_p3_value]))]) (w1 := []) hP hD [] [0, 1, 2, 3, 4, 5, 6, 7] rfl rfl (by decide) (by decide) hkk9 hFc hP9 hD9
  generalize H1 = H at hP hS ⊢
  have hP : va_P (dC, dI) vwCl [(q_this, .inr (3, [.ref q_shelf, .ref q_seeds, .int v_storedSet])), (q_shelf, .inr (9, [.int v_shelf_places, .ref q_shelf_cells])), (q_shelf_cells, .inl (cI, 38, .inl v_shelf_cells)), (q_seeds, .inl (cI, 2, .inl v_seeds)), (q_p2, .inr (10, [.ref q_p2_kept, .ref q_p2_away, .int v_p2_days, .int v_p2_spilled, .int v_p2_river])), (q_p2_kept, .inl (cI, 8, .inl v_p2_kept)), (q_p2_away, .inl (cI, 8, .inl v_p2_away)), (q_p3, .inr (1, [.int v_p3_value]))] H := hP
  have hD : va_D A [(q_this, .inr (3, [.ref q_shelf, .ref q_seeds, .int v_storedSet])), (q_shelf, .inr (9, [.int v_shelf_places, .ref q_shelf_cells])), (q_shelf_cells, .inl (cI, 38, .inl v_shelf_cells)), (q_seeds, .inl (cI, 2, .inl v_seeds)), (q_p2, .inr (10, [.ref q_p2_kept, .ref q_p2_away, .int v_p2_days, .int v_p2_spilled, .int v_p2_river])), (q_p2_kept, .inl (cI, 8, .inl v_p2_kept)), (q_p2_away, .inl (cI, 8, .inl v_p2_away)), (q_p3, .inr (1, [.int v_p3_value]))] := hD
  refine lv_if_eq (tgt := 19) hx hb dX3_fetch_5 (by decide) (fun c1 => ?_) (fun c1 => ?_)
  · have hrun := oz_t hrun c1
    refine lv_iconst (v := 0) hx hb dX3_fetch_19 (by decide) ?_
    have ho9 := Option.some.inj hrun
    subst ho9
    have hP9 := hP.sub (ws' := [(q_this, .inr (3, [.ref q_shelf, .ref q_seeds, .int v_storedSet])), (q_shelf, .inr (9, [.int v_shelf_places, .ref q_shelf_cells])), (q_shelf_cells, .inl (cI, 38, .inl v_shelf_cells)), (q_seeds, .inl (cI, 2, .inl v_seeds)), (q_p2, .inr (10, [.ref q_p2_kept, .ref q_p2_away, .int v_p2_days, .int v_p2_spilled, .int v_p2_river])), (q_p2_kept, .inl (cI, 8, .inl v_p2_kept)), (q_p2_away, .inl (cI, 8, .inl v_p2_away)), (q_p3, .inr (1, [.int v_p3_value]))]) [0, 1, 2, 3, 4, 5, 6, 7] rfl
    have hD9 := hD.sub (ws' := [(q_this, .inr (3, [.ref q_shelf, .ref q_seeds, .int v_storedSet])), (q_shelf, .inr (9, [.int v_shelf_places, .ref q_shelf_cells])), (q_shelf_cells, .inl (cI, 38, .inl v_shelf_cells)), (q_seeds, .inl (cI, 2, .inl v_seeds)), (q_p2, .inr (10, [.ref q_p2_kept, .ref q_p2_away, .int v_p2_days, .int v_p2_spilled, .int v_p2_river])), (q_p2_kept, .inl (cI, 8, .inl v_p2_kept)), (q_p2_away, .inl (cI, 8, .inl v_p2_away)), (q_p3, .inr (1, [.int v_p3_value]))]) [0, 1, 2, 3, 4, 5, 6, 7] (by decide) rfl
    rw [hQ]
    exact W.zret (v := 0) (ty := .boolean) hx hb hr rfl (fun t ht hW => ⟨⟨0, (), rfl, rfl, by rw [ht]; exact hP9, va_K.moved hW.alike hK, hD9⟩, hS.F ht⟩) hS.2.2 dX3_fetch_20
  · have hrun := oz_f hrun c1
    refine lv_aload_n hx hb dX3_fetch_8 rfl (lv_at hl 0 rfl) ?_
    refine va_get (D := (dC, dI)) (ci := 3) (v := .int v_storedSet) (C := RX3) (T := TX3) (N := 3) hx hb hts hiX3 hown hK hP 0 rfl rfl 2 (by decide) hk22 (fun _ h9 => h9) rfl dX3_fetch_9 ?_
    refine lv_iload_n hx hb dX3_fetch_12 rfl (lv_at hl 1 rfl) ?_
    refine lv_ishr hx hb dX3_fetch_13 ?_
    refine lv_iconst (v := 1) hx hb dX3_fetch_14 (by decide) ?_
    refine lv_iand hx hb dX3_fetch_15 ?_
    refine lv_if_ne (tgt := 21) hx hb dX3_fetch_16 (by decide) (fun c2 => ?_) (fun c2 => ?_)
    · have hrun := oz_f hrun c2
      refine lv_aload_n hx hb dX3_fetch_21 rfl (lv_at hl 0 rfl) ?_
      refine va_get (D := (dC, dI)) (ci := 3) (v := .ref q_shelf) (C := RX3) (T := TX3) (N := 3) hx hb hts hiX3 hown hK hP 0 rfl rfl 0 (by decide) hk14 (fun _ h9 => h9) rfl dX3_fetch_22 ?_
      refine lv_iload_n hx hb dX3_fetch_25 rfl (lv_at hl 1 rfl) ?_
      refine lv_aload_n hx hb dX3_fetch_26 rfl (lv_at hl 2 rfl) ?_
      obtain ⟨y27, hc27, hrun⟩ := oz_bind hrun
      have hPc := hP.sub (ws' := [(q_shelf, .inr (9, [.int v_shelf_places, .ref q_shelf_cells])), (q_shelf_cells, .inl (cI, 38, .inl v_shelf_cells)), (q_p2, .inr (10, [.ref q_p2_kept, .ref q_p2_away, .int v_p2_days, .int v_p2_spilled, .int v_p2_river])), (q_p2_kept, .inl (cI, 8, .inl v_p2_kept)), (q_p2_away, .inl (cI, 8, .inl v_p2_away))]) [1, 2, 4, 5, 6] rfl
      have hDc := hD.sub (ws' := [(q_shelf, .inr (9, [.int v_shelf_places, .ref q_shelf_cells])), (q_shelf_cells, .inl (cI, 38, .inl v_shelf_cells)), (q_p2, .inr (10, [.ref q_p2_kept, .ref q_p2_away, .int v_p2_days, .int v_p2_spilled, .int v_p2_river])), (q_p2_kept, .inl (cI, 8, .inl v_p2_kept)), (q_p2_away, .inl (cI, 8, .inl v_p2_away))]) [1, 2, 4, 5, 6] (by decide) rfl
      have hFc := va_free (wc := [(q_shelf, .inr (9, [.int v_shelf_places, .ref q_shelf_cells])), (q_shelf_cells, .inl (cI, 38, .inl v_shelf_cells)), (q_p2, .inr (10, [.ref q_p2_kept, .ref q_p2_away, .int v_p2_days, .int v_p2_spilled, .int v_p2_river])), (q_p2_kept, .inl (cI, 8, .inl v_p2_kept)), (q_p2_away, .inl (cI, 8, .inl v_p2_away))]) hD hS hA [1, 2, 4, 5, 6] rfl
      refine va_callv (va_runV (As := [.int a1, .ref q_p2]) (rest := []) ⟨hx, hb, hml, hown, hts⟩ (tX9_get l dC dI cI cZ q_shelf_cells q_p2 q_p2_away q_p2_kept q_shelf H.size 38 v_shelf_places v_shelf_cells v_p2_days v_p2_spilled v_p2_river v_p2_kept v_p2_away a1 y27 hc27) (cwV 2 hts gX3_fetch_X9_get rfl rfl rfl (by decide +kernel) ⟨Nat.le_of_ble_eq_true rfl, Nat.le_of_ble_eq_true rfl⟩) ⟨fun a U g mk q => by obtain ⟨q0, q1, qP, qK, qD⟩ := q; exact ⟨q0, q1, qP, va_K.moved (u := U) (U := U.calling g mk a) (Vm.Alike.refl U.vm) qK, qD⟩, va_recv hK hPc (ci := 9) (q0 := 0) rfl rfl, fun U hU hW => ⟨rfl, by rw [hU], by rw [hU]; exact hPc, va_K.moved hW.alike hK, hDc.weaken (fun _ _ _ _ => trivial)⟩⟩ rfl rfl hl.1 rfl (lv_room (Nat.le_of_ble_eq_true rfl)) dX3_fetch_27 ⟨Nat.le_of_ble_eq_true rfl, Nat.le_of_ble_eq_true rfl⟩) hS (fun q _ h => hFc q h) hFc (fun u9 t9 H1 locs ht9 hvm9 hw9 hB9 hz9 hkk9 hS => ?_)
      obtain ⟨hP9, hK9, hD9⟩ := hB9
      rw [ht9] at hP9
      obtain ⟨hP, hD⟩ := va_join (wr := [(q_this, .inr (3, [.ref q_shelf, .ref q_seeds, .int v_storedSet])), (q_seeds, .inl (cI, 2, .inl v_seeds)), (q_p3, .inr (1, [.int v_p3_value]))]) (w1 := [(q_shelf, .inr (9, [.int v_shelf_places, .ref q_shelf_cells])), (q_shelf_cells, .inl (cI, 38, .inl v_shelf_cells)), (q_p2, .inr (10, [.ref q_p2_kept, .ref q_p2_away, .int y27.1, .int y27.2.1, .int y27.2.2.1])), (q_p2_kept, .inl (cI, 8, .inl y27.2.2.2.1)), (q_p2_away, .inl (cI, 8, .inl y27.2.2.2.2))]) hP hD [1, 2, 4, 5, 6] [0, 3, 7] rfl rfl (by decide) (by decide) hkk9 hFc hP9 hD9
      generalize H1 = H at hP hS ⊢
      have hP : va_P (dC, dI) vwCl [(q_this, .inr (3, [.ref q_shelf, .ref q_seeds, .int v_storedSet])), (q_seeds, .inl (cI, 2, .inl v_seeds)), (q_p3, .inr (1, [.int v_p3_value])), (q_shelf, .inr (9, [.int v_shelf_places, .ref q_shelf_cells])), (q_shelf_cells, .inl (cI, 38, .inl v_shelf_cells)), (q_p2, .inr (10, [.ref q_p2_kept, .ref q_p2_away, .int y27.1, .int y27.2.1, .int y27.2.2.1])), (q_p2_kept, .inl (cI, 8, .inl y27.2.2.2.1)), (q_p2_away, .inl (cI, 8, .inl y27.2.2.2.2))] H := hP
      have hD : va_D A [(q_this, .inr (3, [.ref q_shelf, .ref q_seeds, .int v_storedSet])), (q_seeds, .inl (cI, 2, .inl v_seeds)), (q_p3, .inr (1, [.int v_p3_value])), (q_shelf, .inr (9, [.int v_shelf_places, .ref q_shelf_cells])), (q_shelf_cells, .inl (cI, 38, .inl v_shelf_cells)), (q_p2, .inr (10, [.ref q_p2_kept, .ref q_p2_away, .int y27.1, .int y27.2.1, .int y27.2.2.1])), (q_p2_kept, .inl (cI, 8, .inl y27.2.2.2.1)), (q_p2_away, .inl (cI, 8, .inl y27.2.2.2.2))] := hD
      refine lv_aload_n hx hb dX3_fetch_30 rfl (lv_at hl 3 rfl) ?_
      refine lv_aload_n hx hb dX3_fetch_31 rfl (lv_at hl 0 rfl) ?_
      refine va_get (D := (dC, dI)) (ci := 3) (v := .ref q_seeds) (C := RX3) (T := TX3) (N := 3) hx hb hts hiX3 hown hK hP 0 rfl rfl 1 (by decide) hk18 (fun _ h9 => h9) rfl dX3_fetch_32 ?_
      refine lv_iload_n hx hb dX3_fetch_35 rfl (lv_at hl 1 rfl) ?_
      obtain ⟨c3, hrun⟩ := oz_chk hrun
      refine va_iald hx hb hK hP 1 0 rfl rfl c3 dX3_fetch_36 ?_
      refine va_put (D := (dC, dI)) (ci := 1) (v := .int (v_seeds (Int32.toNatClampNeg a1))) (ty := .int) (C := RX1) (T := TX1) (N := 1) hx hb hts hiX1 tyX1 tyX1_ok nmX1 hown hK hP hD hS 2 rfl rfl 0 (by decide) hk34 (fun _ h9 => h9) rfl (by decide +kernel) rfl rfl (Nat.le_of_ble_eq_true rfl) dX3_fetch_37 (fun H locs hP hD hS => ?_)
      have hP : va_P (dC, dI) vwCl [(q_this, .inr (3, [.ref q_shelf, .ref q_seeds, .int v_storedSet])), (q_seeds, .inl (cI, 2, .inl v_seeds)), (q_p3, .inr (1, [.int (v_seeds (Int32.toNatClampNeg a1))])), (q_shelf, .inr (9, [.int v_shelf_places, .ref q_shelf_cells])), (q_shelf_cells, .inl (cI, 38, .inl v_shelf_cells)), (q_p2, .inr (10, [.ref q_p2_kept, .ref q_p2_away, .int y27.1, .int y27.2.1, .int y27.2.2.1])), (q_p2_kept, .inl (cI, 8, .inl y27.2.2.2.1)), (q_p2_away, .inl (cI, 8, .inl y27.2.2.2.2))] H := hP
      have hD : va_D A [(q_this, .inr (3, [.ref q_shelf, .ref q_seeds, .int v_storedSet])), (q_seeds, .inl (cI, 2, .inl v_seeds)), (q_p3, .inr (1, [.int (v_seeds (Int32.toNatClampNeg a1))])), (q_shelf, .inr (9, [.int v_shelf_places, .ref q_shelf_cells])), (q_shelf_cells, .inl (cI, 38, .inl v_shelf_cells)), (q_p2, .inr (10, [.ref q_p2_kept, .ref q_p2_away, .int y27.1, .int y27.2.1, .int y27.2.2.1])), (q_p2_kept, .inl (cI, 8, .inl y27.2.2.2.1)), (q_p2_away, .inl (cI, 8, .inl y27.2.2.2.2))] := hD
      refine lv_iconst (v := 1) hx hb dX3_fetch_40 (by decide) ?_
      have ho9 := Option.some.inj hrun
      subst ho9
      have hP9 := hP.sub (ws' := [(q_this, .inr (3, [.ref q_shelf, .ref q_seeds, .int v_storedSet])), (q_shelf, .inr (9, [.int v_shelf_places, .ref q_shelf_cells])), (q_shelf_cells, .inl (cI, 38, .inl v_shelf_cells)), (q_seeds, .inl (cI, 2, .inl v_seeds)), (q_p2, .inr (10, [.ref q_p2_kept, .ref q_p2_away, .int y27.1, .int y27.2.1, .int y27.2.2.1])), (q_p2_kept, .inl (cI, 8, .inl y27.2.2.2.1)), (q_p2_away, .inl (cI, 8, .inl y27.2.2.2.2)), (q_p3, .inr (1, [.int (v_seeds (Int32.toNatClampNeg a1))]))]) [0, 3, 4, 1, 5, 6, 7, 2] rfl
      have hD9 := hD.sub (ws' := [(q_this, .inr (3, [.ref q_shelf, .ref q_seeds, .int v_storedSet])), (q_shelf, .inr (9, [.int v_shelf_places, .ref q_shelf_cells])), (q_shelf_cells, .inl (cI, 38, .inl v_shelf_cells)), (q_seeds, .inl (cI, 2, .inl v_seeds)), (q_p2, .inr (10, [.ref q_p2_kept, .ref q_p2_away, .int y27.1, .int y27.2.1, .int y27.2.2.1])), (q_p2_kept, .inl (cI, 8, .inl y27.2.2.2.1)), (q_p2_away, .inl (cI, 8, .inl y27.2.2.2.2)), (q_p3, .inr (1, [.int (v_seeds (Int32.toNatClampNeg a1))]))]) [0, 3, 4, 1, 5, 6, 7, 2] (by decide) rfl
      rw [hQ]
      exact W.zret (v := 1) (ty := .boolean) hx hb hr rfl (fun t ht hW => ⟨⟨1, (), rfl, rfl, by rw [ht]; exact hP9, va_K.moved hW.alike hK, hD9⟩, hS.F ht⟩) hS.2.2 dX3_fetch_41
    · have hrun := oz_t hrun c2
      refine lv_iconst (v := 0) hx hb dX3_fetch_19 (by decide) ?_
      have ho9 := Option.some.inj hrun
      subst ho9
      have hP9 := hP.sub (ws' := [(q_this, .inr (3, [.ref q_shelf, .ref q_seeds, .int v_storedSet])), (q_shelf, .inr (9, [.int v_shelf_places, .ref q_shelf_cells])), (q_shelf_cells, .inl (cI, 38, .inl v_shelf_cells)), (q_seeds, .inl (cI, 2, .inl v_seeds)), (q_p2, .inr (10, [.ref q_p2_kept, .ref q_p2_away, .int v_p2_days, .int v_p2_spilled, .int v_p2_river])), (q_p2_kept, .inl (cI, 8, .inl v_p2_kept)), (q_p2_away, .inl (cI, 8, .inl v_p2_away)), (q_p3, .inr (1, [.int v_p3_value]))]) [0, 1, 2, 3, 4, 5, 6, 7] rfl
      have hD9 := hD.sub (ws' := [(q_this, .inr (3, [.ref q_shelf, .ref q_seeds, .int v_storedSet])), (q_shelf, .inr (9, [.int v_shelf_places, .ref q_shelf_cells])), (q_shelf_cells, .inl (cI, 38, .inl v_shelf_cells)), (q_seeds, .inl (cI, 2, .inl v_seeds)), (q_p2, .inr (10, [.ref q_p2_kept, .ref q_p2_away, .int v_p2_days, .int v_p2_spilled, .int v_p2_river])), (q_p2_kept, .inl (cI, 8, .inl v_p2_kept)), (q_p2_away, .inl (cI, 8, .inl v_p2_away)), (q_p3, .inr (1, [.int v_p3_value]))]) [0, 1, 2, 3, 4, 5, 6, 7] (by decide) rfl
      rw [hQ]
      exact W.zret (v := 0) (ty := .boolean) hx hb hr rfl (fun t ht hW => ⟨⟨0, (), rfl, rfl, by rw [ht]; exact hP9, va_K.moved hW.alike hK, hD9⟩, hS.F ht⟩) hS.2.2 dX3_fetch_20
