def fX4_settle (v_over : Nat → Int32) (a1 : Int32) (a2 : Int32) : Option (Int32 × (Nat → Int32)) :=
  if (a1 < 0 ∨ 8 ≤ Int32.toNatClampNeg a1) then none else if (a2 < 0 ∨ 8 ≤ Int32.toNatClampNeg a2) then none else if 0 < (if (-(v_over (Int32.toNatClampNeg a2))) < (v_over (Int32.toNatClampNeg a1)) then (-(v_over (Int32.toNatClampNeg a2))) else (v_over (Int32.toNatClampNeg a1))) then (some ((if (-(v_over (Int32.toNatClampNeg a2))) < (v_over (Int32.toNatClampNeg a1)) then (-(v_over (Int32.toNatClampNeg a2))) else (v_over (Int32.toNatClampNeg a1))), (upd (upd v_over (Int32.toNatClampNeg a1) ((v_over (Int32.toNatClampNeg a1)) - (if (-(v_over (Int32.toNatClampNeg a2))) < (v_over (Int32.toNatClampNeg a1)) then (-(v_over (Int32.toNatClampNeg a2))) else (v_over (Int32.toNatClampNeg a1))))) (Int32.toNatClampNeg a2) (((upd v_over (Int32.toNatClampNeg a1) ((v_over (Int32.toNatClampNeg a1)) - (if (-(v_over (Int32.toNatClampNeg a2))) < (v_over (Int32.toNatClampNeg a1)) then (-(v_over (Int32.toNatClampNeg a2))) else (v_over (Int32.toNatClampNeg a1))))) (Int32.toNatClampNeg a2)) + (if (-(v_over (Int32.toNatClampNeg a2))) < (v_over (Int32.toNatClampNeg a1)) then (-(v_over (Int32.toNatClampNeg a2))) else (v_over (Int32.toNatClampNeg a1))))))) else (some (0, v_over))
def rmX4_settle : Room := { frames := 1, cells := 0, slots := 0, locals := 26 }
set_option maxHeartbeats 4000000 in
set_option maxRecDepth 100000 in
theorem tX4_settle (l : Launch) (dC : Nat → ClassId) (dI : Nat → Nat → Nat) (cI cZ : ClassId) (q_over q_this : Nat) (sz : Nat) (v_over : Nat → Int32) (a1 : Int32) (a2 : Int32) (out : Int32 × (Nat → Int32)) (hrun : fX4_settle v_over a1 a2 = some out) : Met l yX4_settle wsX4_settle rmX4_settle (va_Pc [.ref q_this, .int a1, .int a2] (fun U => U.heap.size = sz ∧ va_P (dC, dI) vwCl [(q_this, .inr (4, [.ref q_over])), (q_over, .inl (cI, 8, .inl v_over))] U.heap ∧ va_K (dC, dI) vwCl [(cI, .int), (cZ, .boolean)] U ∧ va_D (fun _ => True) [(q_this, .inr (4, [.ref q_over])), (q_over, .inl (cI, 8, .inl v_over))])) (va_Qi (fun (r : Int32) (_ : Unit) => r = out.1) (fun _ t => va_P (dC, dI) vwCl [(q_this, .inr (4, [.ref q_over])), (q_over, .inl (cI, 8, .inl out.2))] t.heap ∧ va_K (dC, dI) vwCl [(cI, .int), (cZ, .boolean)] t ∧ va_D (va_A [(q_this, .inr (4, [.ref q_over])), (q_over, .inl (cI, 8, .inl v_over))] sz) [(q_this, .inr (4, [.ref q_over])), (q_over, .inl (cI, 8, .inl out.2))]) (va_A [(q_this, .inr (4, [.ref q_over])), (q_over, .inl (cI, 8, .inl v_over))] sz)) 0 0 (va_A [(q_this, .inr (4, [.ref q_over])), (q_over, .inl (cI, 8, .inl v_over))] sz) := by
  refine Met.ofW (cc := cX4_settle) (maxL := 4) (ret := (some .int)) (by decide) rfl ?_
  intro p e s m args below meth c s₁ B hml hv
  obtain ⟨rfl, hsz, hP, hK, hD0⟩ := hv
  have hx := B.exec
  have hb := B.bytes
  have hr := B.returns
  have hts := atoms_spec (ws := wsX4_settle) B.pre
  have hown : s.vm.findClass RX4 = some m.cls := findClass_of_methodNamed B.named
  have hlocks := B.notSynchronized
  subst hsz
  have hD := hD0.self (sz := s.heap.size)
  generalize hAe : va_A [(q_this, .inr (4, [.ref q_over])), (q_over, .inl (cI, 8, .inl v_over))] s.heap.size = A at hD ⊢
  have hA : ∀ q : Nat, s.heap.size ≤ q → A q := fun q h => by rw [← hAe]; exact Or.inr h
  have hS : va_S A s.heap s.heap [] := va_S.rf
  have hl := lv_entry ([.ref q_this, .int a1, .int a2]) (n := 4) (Nat.le_of_ble_eq_true rfl)
  rw [lg_entry_eq]
  generalize (lg_sl ([.ref q_this, .int a1, .int a2]) ++ List.replicate (4 - (lg_sl ([.ref q_this, .int a1, .int a2])).length) Slot.unset).toArray = ls at hl ⊢
  have hl : lv_has ls 4 [(0, .ref q_this), (1, .int a1), (2, .int a2)] := hl
  unfold fX4_settle at hrun
  have hk9 := hts (.fieldLink RX4 9 "LentDrains$Neighbours" "over" "[I") (by decide +kernel)
  have hiX4 : ∀ w ∈ wsX40, w ∈ wsX4_settle := by decide +kernel
  have hk43 := hts (.methodLink RX4 43 Lib.Math.min.name) (by decide +kernel)
  have hst_min := hts (.static Lib.Math.min.name) (by decide +kernel)
  have hiniM := hts (.initialized "java/lang/Math") (by decide +kernel)
  have hcd_min := hts (.code Lib.Math.min.name Lib.Math.min.code 2 (some .int)) (by decide +kernel)
  refine oz_genQ (fun Q hQ => ?_)
  refine lv_aload_n hx hb dX4_settle_0 rfl (lv_at hl 0 rfl) ?_
  refine va_get (D := (dC, dI)) (ci := 4) (v := .ref q_over) (C := RX4) (T := TX4) (N := 1) hx hb hts hiX4 hown hK hP 0 rfl rfl 0 (by decide) hk9 (fun _ h9 => h9) rfl dX4_settle_1 ?_
  refine lv_iload_n hx hb dX4_settle_4 rfl (lv_at hl 1 rfl) ?_
  obtain ⟨c1, hrun⟩ := oz_chk hrun
  refine va_iald hx hb hK hP 1 0 rfl rfl c1 dX4_settle_5 ?_
  refine lv_aload_n hx hb dX4_settle_6 rfl (lv_at hl 0 rfl) ?_
  refine va_get (D := (dC, dI)) (ci := 4) (v := .ref q_over) (C := RX4) (T := TX4) (N := 1) hx hb hts hiX4 hown hK hP 0 rfl rfl 0 (by decide) hk9 (fun _ h9 => h9) rfl dX4_settle_7 ?_
  refine lv_iload_n hx hb dX4_settle_10 rfl (lv_at hl 2 rfl) ?_
  obtain ⟨c2, hrun⟩ := oz_chk hrun
  refine va_iald hx hb hK hP 1 0 rfl rfl c2 dX4_settle_11 ?_
  refine lv_ineg hx hb dX4_settle_12 ?_
  refine va_mmin hx hb (hml.trans hl.1.symm) hown hk43 hst_min hiniM hcd_min (Nat.le_of_ble_eq_true rfl) (Nat.le_of_ble_eq_true rfl) (Nat.zero_le _) (Nat.zero_le _) dX4_settle_13 ?_
  refine lv_istore_n (lv' := [(3, .int (if (-(v_over (Int32.toNatClampNeg a2))) < (v_over (Int32.toNatClampNeg a1)) then (-(v_over (Int32.toNatClampNeg a2))) else (v_over (Int32.toNatClampNeg a1)))), (0, .ref q_this), (1, .int a1), (2, .int a2)]) hx hb dX4_settle_16 rfl hl (by decide) rfl (fun ls hl => ?_)
  refine lv_iload_n hx hb dX4_settle_17 rfl (lv_at hl 0 rfl) ?_
  refine lv_if_gt (tgt := 23) hx hb dX4_settle_18 (by decide) (fun c3 => ?_) (fun c3 => ?_)
  · have hrun := oz_t hrun c3
    refine lv_aload_n hx hb dX4_settle_23 rfl (lv_at hl 1 rfl) ?_
    refine va_get (D := (dC, dI)) (ci := 4) (v := .ref q_over) (C := RX4) (T := TX4) (N := 1) hx hb hts hiX4 hown hK hP 0 rfl rfl 0 (by decide) hk9 (fun _ h9 => h9) rfl dX4_settle_24 ?_
    refine lv_iload_n hx hb dX4_settle_27 rfl (lv_at hl 2 rfl) ?_
    refine lv_dup2_11 hx hb dX4_settle_28 rfl rfl ?_
    refine va_iald hx hb hK hP 1 0 rfl rfl c1 dX4_settle_29 ?_
    refine lv_iload_n hx hb dX4_settle_30 rfl (lv_at hl 0 rfl) ?_
    refine lv_isub hx hb dX4_settle_31 ?_
    refine va_iast hx hb hK hP hD hS 1 0 rfl rfl c1 dX4_settle_32 (fun H locs hP hD hS => ?_)
    have hP : va_P (dC, dI) vwCl [(q_this, .inr (4, [.ref q_over])), (q_over, .inl (cI, 8, .inl (upd v_over (Int32.toNatClampNeg a1) ((v_over (Int32.toNatClampNeg a1)) - (if (-(v_over (Int32.toNatClampNeg a2))) < (v_over (Int32.toNatClampNeg a1)) then (-(v_over (Int32.toNatClampNeg a2))) else (v_over (Int32.toNatClampNeg a1)))))))] H := hP
    have hD : va_D A [(q_this, .inr (4, [.ref q_over])), (q_over, .inl (cI, 8, .inl (upd v_over (Int32.toNatClampNeg a1) ((v_over (Int32.toNatClampNeg a1)) - (if (-(v_over (Int32.toNatClampNeg a2))) < (v_over (Int32.toNatClampNeg a1)) then (-(v_over (Int32.toNatClampNeg a2))) else (v_over (Int32.toNatClampNeg a1)))))))] := hD
    refine lv_aload_n hx hb dX4_settle_33 rfl (lv_at hl 1 rfl) ?_
    refine va_get (D := (dC, dI)) (ci := 4) (v := .ref q_over) (C := RX4) (T := TX4) (N := 1) hx hb hts hiX4 hown hK hP 0 rfl rfl 0 (by decide) hk9 (fun _ h9 => h9) rfl dX4_settle_34 ?_
    refine lv_iload_n hx hb dX4_settle_37 rfl (lv_at hl 3 rfl) ?_
    refine lv_dup2_11 hx hb dX4_settle_38 rfl rfl ?_
    refine va_iald hx hb hK hP 1 0 rfl rfl c2 dX4_settle_39 ?_
    refine lv_iload_n hx hb dX4_settle_40 rfl (lv_at hl 0 rfl) ?_
    refine lv_iadd hx hb dX4_settle_41 ?_
    refine va_iast hx hb hK hP hD hS 1 0 rfl rfl c2 dX4_settle_42 (fun H locs hP hD hS => ?_)
    have hP : va_P (dC, dI) vwCl [(q_this, .inr (4, [.ref q_over])), (q_over, .inl (cI, 8, .inl (upd (upd v_over (Int32.toNatClampNeg a1) ((v_over (Int32.toNatClampNeg a1)) - (if (-(v_over (Int32.toNatClampNeg a2))) < (v_over (Int32.toNatClampNeg a1)) then (-(v_over (Int32.toNatClampNeg a2))) else (v_over (Int32.toNatClampNeg a1))))) (Int32.toNatClampNeg a2) (((upd v_over (Int32.toNatClampNeg a1) ((v_over (Int32.toNatClampNeg a1)) - (if (-(v_over (Int32.toNatClampNeg a2))) < (v_over (Int32.toNatClampNeg a1)) then (-(v_over (Int32.toNatClampNeg a2))) else (v_over (Int32.toNatClampNeg a1))))) (Int32.toNatClampNeg a2)) + (if (-(v_over (Int32.toNatClampNeg a2))) < (v_over (Int32.toNatClampNeg a1)) then (-(v_over (Int32.toNatClampNeg a2))) else (v_over (Int32.toNatClampNeg a1)))))))] H := hP
    have hD : va_D A [(q_this, .inr (4, [.ref q_over])), (q_over, .inl (cI, 8, .inl (upd (upd v_over (Int32.toNatClampNeg a1) ((v_over (Int32.toNatClampNeg a1)) - (if (-(v_over (Int32.toNatClampNeg a2))) < (v_over (Int32.toNatClampNeg a1)) then (-(v_over (Int32.toNatClampNeg a2))) else (v_over (Int32.toNatClampNeg a1))))) (Int32.toNatClampNeg a2) (((upd v_over (Int32.toNatClampNeg a1) ((v_over (Int32.toNatClampNeg a1)) - (if (-(v_over (Int32.toNatClampNeg a2))) < (v_over (Int32.toNatClampNeg a1)) then (-(v_over (Int32.toNatClampNeg a2))) else (v_over (Int32.toNatClampNeg a1))))) (Int32.toNatClampNeg a2)) + (if (-(v_over (Int32.toNatClampNeg a2))) < (v_over (Int32.toNatClampNeg a1)) then (-(v_over (Int32.toNatClampNeg a2))) else (v_over (Int32.toNatClampNeg a1)))))))] := hD
    refine lv_iload_n hx hb dX4_settle_43 rfl (lv_at hl 0 rfl) ?_
    have ho9 := Option.some.inj hrun
    subst ho9
    have hP9 := hP.sub (ws' := [(q_this, .inr (4, [.ref q_over])), (q_over, .inl (cI, 8, .inl (upd (upd v_over (Int32.toNatClampNeg a1) ((v_over (Int32.toNatClampNeg a1)) - (if (-(v_over (Int32.toNatClampNeg a2))) < (v_over (Int32.toNatClampNeg a1)) then (-(v_over (Int32.toNatClampNeg a2))) else (v_over (Int32.toNatClampNeg a1))))) (Int32.toNatClampNeg a2) (((upd v_over (Int32.toNatClampNeg a1) ((v_over (Int32.toNatClampNeg a1)) - (if (-(v_over (Int32.toNatClampNeg a2))) < (v_over (Int32.toNatClampNeg a1)) then (-(v_over (Int32.toNatClampNeg a2))) else (v_over (Int32.toNatClampNeg a1))))) (Int32.toNatClampNeg a2)) + (if (-(v_over (Int32.toNatClampNeg a2))) < (v_over (Int32.toNatClampNeg a1)) then (-(v_over (Int32.toNatClampNeg a2))) else (v_over (Int32.toNatClampNeg a1)))))))]) [0, 1] rfl
    have hD9 := hD.sub (ws' := [(q_this, .inr (4, [.ref q_over])), (q_over, .inl (cI, 8, .inl (upd (upd v_over (Int32.toNatClampNeg a1) ((v_over (Int32.toNatClampNeg a1)) - (if (-(v_over (Int32.toNatClampNeg a2))) < (v_over (Int32.toNatClampNeg a1)) then (-(v_over (Int32.toNatClampNeg a2))) else (v_over (Int32.toNatClampNeg a1))))) (Int32.toNatClampNeg a2) (((upd v_over (Int32.toNatClampNeg a1) ((v_over (Int32.toNatClampNeg a1)) - (if (-(v_over (Int32.toNatClampNeg a2))) < (v_over (Int32.toNatClampNeg a1)) then (-(v_over (Int32.toNatClampNeg a2))) else (v_over (Int32.toNatClampNeg a1))))) (Int32.toNatClampNeg a2)) + (if (-(v_over (Int32.toNatClampNeg a2))) < (v_over (Int32.toNatClampNeg a1)) then (-(v_over (Int32.toNatClampNeg a2))) else (v_over (Int32.toNatClampNeg a1)))))))]) [0, 1] (by decide) rfl
    rw [hQ]
    exact W.iret (v := (if (-(v_over (Int32.toNatClampNeg a2))) < (v_over (Int32.toNatClampNeg a1)) then (-(v_over (Int32.toNatClampNeg a2))) else (v_over (Int32.toNatClampNeg a1)))) hx hb hr (fun t ht hW => ⟨⟨(if (-(v_over (Int32.toNatClampNeg a2))) < (v_over (Int32.toNatClampNeg a1)) then (-(v_over (Int32.toNatClampNeg a2))) else (v_over (Int32.toNatClampNeg a1))), (), rfl, rfl, by rw [ht]; exact hP9, va_K.moved hW.alike hK, hD9⟩, hS.F ht⟩) hS.2.2 dX4_settle_44
  · have hrun := oz_f hrun c3
    refine lv_iconst (v := 0) hx hb dX4_settle_21 (by decide) ?_
    have ho9 := Option.some.inj hrun
    subst ho9
    have hP9 := hP.sub (ws' := [(q_this, .inr (4, [.ref q_over])), (q_over, .inl (cI, 8, .inl v_over))]) [0, 1] rfl
    have hD9 := hD.sub (ws' := [(q_this, .inr (4, [.ref q_over])), (q_over, .inl (cI, 8, .inl v_over))]) [0, 1] (by decide) rfl
    rw [hQ]
    exact W.iret (v := 0) hx hb hr (fun t ht hW => ⟨⟨0, (), rfl, rfl, by rw [ht]; exact hP9, va_K.moved hW.alike hK, hD9⟩, hS.F ht⟩) hS.2.2 dX4_settle_22
def fX4_hold_b3 (v_p1_houses : Int32) (v_p1_room : Nat → Int32) (v_p1_daily : Nat → Int32) (v_p2_kept : Nat → Int32) (a3 : Int32) (w3 : Int32 × (Nat → Int32)) : Option ((Int32 × (Nat → Int32)) ⊕ (Int32 × (Nat → Int32))) :=
  if v_p1_houses ≤ w3.1 then (some (.inr (w3.1, w3.2))) else (if (w3.1 < 0 ∨ 8 ≤ Int32.toNatClampNeg w3.1) then none else some (.inl ((w3.1 + 1), (upd w3.2 (Int32.toNatClampNeg w3.1) (((v_p2_kept (Int32.toNatClampNeg w3.1)) + ((v_p1_daily (Int32.toNatClampNeg w3.1)) * a3)) - (v_p1_room (Int32.toNatClampNeg w3.1)))))))
def fX4_hold_b61 (v_p1_houses : Int32) (v_p1_drain : Nat → Int32) (w61 : Int32 × Int32 × (Nat → Int32)) : Option ((Int32 × Int32 × (Nat → Int32)) ⊕ (Int32 × Int32 × (Nat → Int32))) :=
  if w61.1 < 0 then (some (.inr (w61.1, w61.2.1, w61.2.2))) else (if (w61.1 < 0 ∨ 8 ≤ Int32.toNatClampNeg w61.1) then none else Option.bind (fX6_has v_p1_houses (v_p1_drain (Int32.toNatClampNeg w61.1))) (fun y78 => if y78 = 0 then (some (.inl ((w61.1 + (-1)), w61.2.1, w61.2.2))) else (if (w61.2.2 (Int32.toNatClampNeg w61.1)) ≤ 0 then (Option.bind (fX4_settle w61.2.2 (v_p1_drain (Int32.toNatClampNeg w61.1)) w61.1) (fun y112 => some (.inl ((w61.1 + (-1)), (w61.2.1 + y112.1), y112.2)))) else (Option.bind (fX4_settle w61.2.2 w61.1 (v_p1_drain (Int32.toNatClampNeg w61.1))) (fun y101 => some (.inl ((w61.1 + (-1)), (w61.2.1 + y101.1), y101.2)))))))
def fX4_hold (v_over : Nat → Int32) (v_p1_houses : Int32) (v_p1_room : Nat → Int32) (v_p1_daily : Nat → Int32) (v_p1_drain : Nat → Int32) (v_p2_kept : Nat → Int32) (a3 : Int32) : Option (Int32 × (Nat → Int32)) :=
  Option.bind (oz_loop (fX4_hold_b3 v_p1_houses v_p1_room v_p1_daily v_p2_kept a3) oz_fuel (0, v_over)) (fun o3 => Option.bind (oz_loop (fX4_hold_b61 v_p1_houses v_p1_drain) oz_fuel ((v_p1_houses - 1), 0, o3.2)) (fun o61 => some (o61.2.1, o61.2.2)))
def rmX4_hold : Room := { frames := 2, cells := 0, slots := 0, locals := 49 }
set_option maxHeartbeats 4000000 in
set_option maxRecDepth 100000 in
theorem tX4_hold (l : Launch) (dC : Nat → ClassId) (dI : Nat → Nat → Nat) (cI cZ : ClassId) (q_over q_p1 q_p1_above q_p1_daily q_p1_drain q_p1_room q_p2 q_p2_away q_p2_kept q_this : Nat) (sz : Nat) (v_p1_stands : Int32) (v_p1_lent : Int32) (v_p1_pipe : Int32) (v_p2_days : Int32) (v_p2_spilled : Int32) (v_p2_river : Int32) (v_over : Nat → Int32) (v_p1_houses : Int32) (v_p1_room : Nat → Int32) (v_p1_daily : Nat → Int32) (v_p1_drain : Nat → Int32) (v_p2_kept : Nat → Int32) (a3 : Int32) (out : Int32 × (Nat → Int32)) (hrun : fX4_hold v_over v_p1_houses v_p1_room v_p1_daily v_p1_drain v_p2_kept a3 = some out) : Met l yX4_hold wsX4_hold rmX4_hold (va_Pc [.ref q_this, .ref q_p1, .ref q_p2, .int a3] (fun U => U.heap.size = sz ∧ va_P (dC, dI) vwCl [(q_this, .inr (4, [.ref q_over])), (q_over, .inl (cI, 8, .inl v_over)), (q_p1, .inr (6, [.int v_p1_stands, .int v_p1_lent, .int v_p1_pipe, .int v_p1_houses, .ref q_p1_room, .ref q_p1_daily, .ref q_p1_drain, .ref q_p1_above])), (q_p1_room, .inl (cI, 8, .inl v_p1_room)), (q_p1_daily, .inl (cI, 8, .inl v_p1_daily)), (q_p1_drain, .inl (cI, 8, .inl v_p1_drain)), (q_p2, .inr (10, [.ref q_p2_kept, .ref q_p2_away, .int v_p2_days, .int v_p2_spilled, .int v_p2_river])), (q_p2_kept, .inl (cI, 8, .inl v_p2_kept))] U.heap ∧ va_K (dC, dI) vwCl [(cI, .int), (cZ, .boolean)] U ∧ va_D (fun _ => True) [(q_this, .inr (4, [.ref q_over])), (q_over, .inl (cI, 8, .inl v_over)), (q_p1, .inr (6, [.int v_p1_stands, .int v_p1_lent, .int v_p1_pipe, .int v_p1_houses, .ref q_p1_room, .ref q_p1_daily, .ref q_p1_drain, .ref q_p1_above])), (q_p1_room, .inl (cI, 8, .inl v_p1_room)), (q_p1_daily, .inl (cI, 8, .inl v_p1_daily)), (q_p1_drain, .inl (cI, 8, .inl v_p1_drain)), (q_p2, .inr (10, [.ref q_p2_kept, .ref q_p2_away, .int v_p2_days, .int v_p2_spilled, .int v_p2_river])), (q_p2_kept, .inl (cI, 8, .inl v_p2_kept))])) (va_Qi (fun (r : Int32) (_ : Unit) => r = out.1) (fun _ t => va_P (dC, dI) vwCl [(q_this, .inr (4, [.ref q_over])), (q_over, .inl (cI, 8, .inl out.2)), (q_p1, .inr (6, [.int v_p1_stands, .int v_p1_lent, .int v_p1_pipe, .int v_p1_houses, .ref q_p1_room, .ref q_p1_daily, .ref q_p1_drain, .ref q_p1_above])), (q_p1_room, .inl (cI, 8, .inl v_p1_room)), (q_p1_daily, .inl (cI, 8, .inl v_p1_daily)), (q_p1_drain, .inl (cI, 8, .inl v_p1_drain)), (q_p2, .inr (10, [.ref q_p2_kept, .ref q_p2_away, .int v_p2_days, .int v_p2_spilled, .int v_p2_river])), (q_p2_kept, .inl (cI, 8, .inl v_p2_kept))] t.heap ∧ va_K (dC, dI) vwCl [(cI, .int), (cZ, .boolean)] t ∧ va_D (va_A [(q_this, .inr (4, [.ref q_over])), (q_over, .inl (cI, 8, .inl v_over)), (q_p1, .inr (6, [.int v_p1_stands, .int v_p1_lent, .int v_p1_pipe, .int v_p1_houses, .ref q_p1_room, .ref q_p1_daily, .ref q_p1_drain, .ref q_p1_above])), (q_p1_room, .inl (cI, 8, .inl v_p1_room)), (q_p1_daily, .inl (cI, 8, .inl v_p1_daily)), (q_p1_drain, .inl (cI, 8, .inl v_p1_drain)), (q_p2, .inr (10, [.ref q_p2_kept, .ref q_p2_away, .int v_p2_days, .int v_p2_spilled, .int v_p2_river])), (q_p2_kept, .inl (cI, 8, .inl v_p2_kept))] sz) [(q_this, .inr (4, [.ref q_over])), (q_over, .inl (cI, 8, .inl out.2)), (q_p1, .inr (6, [.int v_p1_stands, .int v_p1_lent, .int v_p1_pipe, .int v_p1_houses, .ref q_p1_room, .ref q_p1_daily, .ref q_p1_drain, .ref q_p1_above])), (q_p1_room, .inl (cI, 8, .inl v_p1_room)), (q_p1_daily, .inl (cI, 8, .inl v_p1_daily)), (q_p1_drain, .inl (cI, 8, .inl v_p1_drain)), (q_p2, .inr (10, [.ref q_p2_kept, .ref q_p2_away, .int v_p2_days, .int v_p2_spilled, .int v_p2_river])), (q_p2_kept, .inl (cI, 8, .inl v_p2_kept))]) (va_A [(q_this, .inr (4, [.ref q_over])), (q_over, .inl (cI, 8, .inl v_over)), (q_p1, .inr (6, [.int v_p1_stands, .int v_p1_lent, .int v_p1_pipe, .int v_p1_houses, .ref q_p1_room, .ref q_p1_daily, .ref q_p1_drain, .ref q_p1_above])), (q_p1_room, .inl (cI, 8, .inl v_p1_room)), (q_p1_daily, .inl (cI, 8, .inl v_p1_daily)), (q_p1_drain, .inl (cI, 8, .inl v_p1_drain)), (q_p2, .inr (10, [.ref q_p2_kept, .ref q_p2_away, .int v_p2_days, .int v_p2_spilled, .int v_p2_river])), (q_p2_kept, .inl (cI, 8, .inl v_p2_kept))] sz)) 0 0 (va_A [(q_this, .inr (4, [.ref q_over])), (q_over, .inl (cI, 8, .inl v_over)), (q_p1, .inr (6, [.int v_p1_stands, .int v_p1_lent, .int v_p1_pipe, .int v_p1_houses, .ref q_p1_room, .ref q_p1_daily, .ref q_p1_drain, .ref q_p1_above])), (q_p1_room, .inl (cI, 8, .inl v_p1_room)), (q_p1_daily, .inl (cI, 8, .inl v_p1_daily)), (q_p1_drain, .inl (cI, 8, .inl v_p1_drain)), (q_p2, .inr (10, [.ref q_p2_kept, .ref q_p2_away, .int v_p2_days, .int v_p2_spilled, .int v_p2_river])), (q_p2_kept, .inl (cI, 8, .inl v_p2_kept))] sz) := by
  refine Met.ofW (cc := cX4_hold) (maxL := 7) (ret := (some .int)) (by decide) rfl ?_
  intro p e s m args below meth c s₁ B hml hv
  obtain ⟨rfl, hsz, hP, hK, hD0⟩ := hv
  have hx := B.exec
  have hb := B.bytes
  have hr := B.returns
  have hts := atoms_spec (ws := wsX4_hold) B.pre
  have hown : s.vm.findClass RX4 = some m.cls := findClass_of_methodNamed B.named
  have hlocks := B.notSynchronized
  subst hsz
  have hD := hD0.self (sz := s.heap.size)
  generalize hAe : va_A [(q_this, .inr (4, [.ref q_over])), (q_over, .inl (cI, 8, .inl v_over)), (q_p1, .inr (6, [.int v_p1_stands, .int v_p1_lent, .int v_p1_pipe, .int v_p1_houses, .ref q_p1_room, .ref q_p1_daily, .ref q_p1_drain, .ref q_p1_above])), (q_p1_room, .inl (cI, 8, .inl v_p1_room)), (q_p1_daily, .inl (cI, 8, .inl v_p1_daily)), (q_p1_drain, .inl (cI, 8, .inl v_p1_drain)), (q_p2, .inr (10, [.ref q_p2_kept, .ref q_p2_away, .int v_p2_days, .int v_p2_spilled, .int v_p2_river])), (q_p2_kept, .inl (cI, 8, .inl v_p2_kept))] s.heap.size = A at hD ⊢
  have hA : ∀ q : Nat, s.heap.size ≤ q → A q := fun q h => by rw [← hAe]; exact Or.inr h
  have hS : va_S A s.heap s.heap [] := va_S.rf
  have hl := lv_entry ([.ref q_this, .ref q_p1, .ref q_p2, .int a3]) (n := 7) (Nat.le_of_ble_eq_true rfl)
  rw [lg_entry_eq]
  generalize (lg_sl ([.ref q_this, .ref q_p1, .ref q_p2, .int a3]) ++ List.replicate (7 - (lg_sl ([.ref q_this, .ref q_p1, .ref q_p2, .int a3])).length) Slot.unset).toArray = ls at hl ⊢
  have hl : lv_has ls 7 [(0, .ref q_this), (1, .ref q_p1), (2, .ref q_p2), (3, .int a3)] := hl
  unfold fX4_hold at hrun
  have hk15 := hts (.fieldLink RX4 15 "LentDrains$Plan" "houses" "I") (by decide +kernel)
  have hiX6 : ∀ w ∈ wsX60, w ∈ wsX4_hold := by decide +kernel
  have hk9 := hts (.fieldLink RX4 9 "LentDrains$Neighbours" "over" "[I") (by decide +kernel)
  have hiX4 : ∀ w ∈ wsX40, w ∈ wsX4_hold := by decide +kernel
  have hk21 := hts (.fieldLink RX4 21 "LentDrains$State" "kept" "[I") (by decide +kernel)
  have hiX10 : ∀ w ∈ wsX100, w ∈ wsX4_hold := by decide +kernel
  have hk26 := hts (.fieldLink RX4 26 "LentDrains$Plan" "daily" "[I") (by decide +kernel)
  have hk29 := hts (.fieldLink RX4 29 "LentDrains$Plan" "room" "[I") (by decide +kernel)
  have hk32 := hts (.fieldLink RX4 32 "LentDrains$Plan" "drain" "[I") (by decide +kernel)
  refine oz_genQ (fun Q hQ => ?_)
  refine lv_iconst (v := 0) hx hb dX4_hold_0 (by decide) ?_
  refine lv_istore (lv' := [(4, .int 0), (0, .ref q_this), (1, .ref q_p1), (2, .ref q_p2), (3, .int a3)]) hx hb dX4_hold_1 hl (by decide) rfl (fun ls hl => ?_)
  obtain ⟨o3, hlp3, hrun⟩ := oz_bind hrun
  have hL3 : ∀ (n : Nat) (w3 : Int32 × (Nat → Int32)) (o3 : Int32 × (Nat → Int32)), oz_loop (fX4_hold_b3 v_p1_houses v_p1_room v_p1_daily v_p2_kept a3) n w3 = some o3 → (∀ (H : Heap) (locs : List Loc) (ls : Array Slot), va_P (dC, dI) vwCl [(q_this, .inr (4, [.ref q_over])), (q_over, .inl (cI, 8, .inl o3.2)), (q_p1, .inr (6, [.int v_p1_stands, .int v_p1_lent, .int v_p1_pipe, .int v_p1_houses, .ref q_p1_room, .ref q_p1_daily, .ref q_p1_drain, .ref q_p1_above])), (q_p1_room, .inl (cI, 8, .inl v_p1_room)), (q_p1_daily, .inl (cI, 8, .inl v_p1_daily)), (q_p1_drain, .inl (cI, 8, .inl v_p1_drain)), (q_p2, .inr (10, [.ref q_p2_kept, .ref q_p2_away, .int v_p2_days, .int v_p2_spilled, .int v_p2_river])), (q_p2_kept, .inl (cI, 8, .inl v_p2_kept))] H → va_D A [(q_this, .inr (4, [.ref q_over])), (q_over, .inl (cI, 8, .inl o3.2)), (q_p1, .inr (6, [.int v_p1_stands, .int v_p1_lent, .int v_p1_pipe, .int v_p1_houses, .ref q_p1_room, .ref q_p1_daily, .ref q_p1_drain, .ref q_p1_above])), (q_p1_room, .inl (cI, 8, .inl v_p1_room)), (q_p1_daily, .inl (cI, 8, .inl v_p1_daily)), (q_p1_drain, .inl (cI, 8, .inl v_p1_drain)), (q_p2, .inr (10, [.ref q_p2_kept, .ref q_p2_away, .int v_p2_days, .int v_p2_spilled, .int v_p2_river])), (q_p2_kept, .inl (cI, 8, .inl v_p2_kept))] → va_S A s.heap H locs → lv_has ls 7 [(4, .int o3.1), (0, .ref q_this), (1, .ref q_p1), (2, .ref q_p2), (3, .int a3)] → W p l e (headSpec wsX4_hold rmX4_hold).room s m (([.ref q_this, .ref q_p1, .ref q_p2, .int a3] : List Value).toArray) below meth c H locs 0 0 Q (F0 m 50 ls [])) → ∀ (H : Heap) (locs : List Loc) (ls : Array Slot), va_P (dC, dI) vwCl [(q_this, .inr (4, [.ref q_over])), (q_over, .inl (cI, 8, .inl w3.2)), (q_p1, .inr (6, [.int v_p1_stands, .int v_p1_lent, .int v_p1_pipe, .int v_p1_houses, .ref q_p1_room, .ref q_p1_daily, .ref q_p1_drain, .ref q_p1_above])), (q_p1_room, .inl (cI, 8, .inl v_p1_room)), (q_p1_daily, .inl (cI, 8, .inl v_p1_daily)), (q_p1_drain, .inl (cI, 8, .inl v_p1_drain)), (q_p2, .inr (10, [.ref q_p2_kept, .ref q_p2_away, .int v_p2_days, .int v_p2_spilled, .int v_p2_river])), (q_p2_kept, .inl (cI, 8, .inl v_p2_kept))] H → va_D A [(q_this, .inr (4, [.ref q_over])), (q_over, .inl (cI, 8, .inl w3.2)), (q_p1, .inr (6, [.int v_p1_stands, .int v_p1_lent, .int v_p1_pipe, .int v_p1_houses, .ref q_p1_room, .ref q_p1_daily, .ref q_p1_drain, .ref q_p1_above])), (q_p1_room, .inl (cI, 8, .inl v_p1_room)), (q_p1_daily, .inl (cI, 8, .inl v_p1_daily)), (q_p1_drain, .inl (cI, 8, .inl v_p1_drain)), (q_p2, .inr (10, [.ref q_p2_kept, .ref q_p2_away, .int v_p2_days, .int v_p2_spilled, .int v_p2_river])), (q_p2_kept, .inl (cI, 8, .inl v_p2_kept))] → va_S A s.heap H locs → lv_has ls 7 [(4, .int w3.1), (0, .ref q_this), (1, .ref q_p1), (2, .ref q_p2), (3, .int a3)] → W p l e (headSpec wsX4_hold rmX4_hold).room s m (([.ref q_this, .ref q_p1, .ref q_p2, .int a3] : List Value).toArray) below meth c H locs 0 0 Q (F0 m 3 ls []) := by
    intro n
    induction n with
    | zero => intro w3 o3 h9; exact (oz_zero h9).elim
    | succ n ih =>
      intro w3 o3 h9 hexit H locs ls hP hD hS hl
      obtain ⟨r9, hrun, hnext⟩ := oz_step h9
      unfold fX4_hold_b3 at hrun
      refine lv_iload hx hb dX4_hold_3 (lv_at hl 0 rfl) ?_
      refine lv_aload_n hx hb dX4_hold_5 rfl (lv_at hl 2 rfl) ?_
      refine va_get (D := (dC, dI)) (ci := 6) (v := .int v_p1_houses) (C := RX6) (T := TX6) (N := 8) hx hb hts hiX6 hown hK hP 2 rfl rfl 3 (by decide) hk15 (fun _ h9 => h9) rfl dX4_hold_6 ?_
      refine lv_icmp_ge (tgt := 50) hx hb dX4_hold_9 (by decide) (fun c1 => ?_) (fun c1 => ?_)
      · have hrun := oz_t hrun c1
        have hr9 := Option.some.inj hrun
        subst hr9
        have ho9 : (w3.1, w3.2) = o3 := hnext
        subst ho9
        exact hexit _ _ _ (hP.sub [0, 1, 2, 3, 4, 5, 6, 7] rfl) (hD.sub [0, 1, 2, 3, 4, 5, 6, 7] (by decide) rfl) hS (lv_sub hl [0, 1, 2, 3, 4] rfl)
      · have hrun := oz_f hrun c1
        refine lv_aload_n hx hb dX4_hold_12 rfl (lv_at hl 1 rfl) ?_
        refine va_get (D := (dC, dI)) (ci := 4) (v := .ref q_over) (C := RX4) (T := TX4) (N := 1) hx hb hts hiX4 hown hK hP 0 rfl rfl 0 (by decide) hk9 (fun _ h9 => h9) rfl dX4_hold_13 ?_
        refine lv_iload hx hb dX4_hold_16 (lv_at hl 0 rfl) ?_
        refine lv_aload_n hx hb dX4_hold_18 rfl (lv_at hl 3 rfl) ?_
        refine va_get (D := (dC, dI)) (ci := 10) (v := .ref q_p2_kept) (C := RX10) (T := TX10) (N := 5) hx hb hts hiX10 hown hK hP 6 rfl rfl 0 (by decide) hk21 (fun _ h9 => h9) rfl dX4_hold_19 ?_
        refine lv_iload hx hb dX4_hold_22 (lv_at hl 0 rfl) ?_
        obtain ⟨c2, hrun⟩ := oz_chk hrun
        refine va_iald hx hb hK hP 7 0 rfl rfl c2 dX4_hold_24 ?_
        refine lv_aload_n hx hb dX4_hold_25 rfl (lv_at hl 2 rfl) ?_
        refine va_get (D := (dC, dI)) (ci := 6) (v := .ref q_p1_daily) (C := RX6) (T := TX6) (N := 8) hx hb hts hiX6 hown hK hP 2 rfl rfl 5 (by decide) hk26 (fun _ h9 => h9) rfl dX4_hold_26 ?_
        refine lv_iload hx hb dX4_hold_29 (lv_at hl 0 rfl) ?_
        refine va_iald hx hb hK hP 4 0 rfl rfl c2 dX4_hold_31 ?_
        refine lv_iload_n hx hb dX4_hold_32 rfl (lv_at hl 4 rfl) ?_
        refine lv_imul hx hb dX4_hold_33 ?_
        refine lv_iadd hx hb dX4_hold_34 ?_
        refine lv_aload_n hx hb dX4_hold_35 rfl (lv_at hl 2 rfl) ?_
        refine va_get (D := (dC, dI)) (ci := 6) (v := .ref q_p1_room) (C := RX6) (T := TX6) (N := 8) hx hb hts hiX6 hown hK hP 2 rfl rfl 4 (by decide) hk29 (fun _ h9 => h9) rfl dX4_hold_36 ?_
        refine lv_iload hx hb dX4_hold_39 (lv_at hl 0 rfl) ?_
        refine va_iald hx hb hK hP 3 0 rfl rfl c2 dX4_hold_41 ?_
        refine lv_isub hx hb dX4_hold_42 ?_
        refine va_iast hx hb hK hP hD hS 1 0 rfl rfl c2 dX4_hold_43 (fun H locs hP hD hS => ?_)
        have hP : va_P (dC, dI) vwCl [(q_this, .inr (4, [.ref q_over])), (q_over, .inl (cI, 8, .inl (upd w3.2 (Int32.toNatClampNeg w3.1) (((v_p2_kept (Int32.toNatClampNeg w3.1)) + ((v_p1_daily (Int32.toNatClampNeg w3.1)) * a3)) - (v_p1_room (Int32.toNatClampNeg w3.1)))))), (q_p1, .inr (6, [.int v_p1_stands, .int v_p1_lent, .int v_p1_pipe, .int v_p1_houses, .ref q_p1_room, .ref q_p1_daily, .ref q_p1_drain, .ref q_p1_above])), (q_p1_room, .inl (cI, 8, .inl v_p1_room)), (q_p1_daily, .inl (cI, 8, .inl v_p1_daily)), (q_p1_drain, .inl (cI, 8, .inl v_p1_drain)), (q_p2, .inr (10, [.ref q_p2_kept, .ref q_p2_away, .int v_p2_days, .int v_p2_spilled, .int v_p2_river])), (q_p2_kept, .inl (cI, 8, .inl v_p2_kept))] H := hP
        have hD : va_D A [(q_this, .inr (4, [.ref q_over])), (q_over, .inl (cI, 8, .inl (upd w3.2 (Int32.toNatClampNeg w3.1) (((v_p2_kept (Int32.toNatClampNeg w3.1)) + ((v_p1_daily (Int32.toNatClampNeg w3.1)) * a3)) - (v_p1_room (Int32.toNatClampNeg w3.1)))))), (q_p1, .inr (6, [.int v_p1_stands, .int v_p1_lent, .int v_p1_pipe, .int v_p1_houses, .ref q_p1_room, .ref q_p1_daily, .ref q_p1_drain, .ref q_p1_above])), (q_p1_room, .inl (cI, 8, .inl v_p1_room)), (q_p1_daily, .inl (cI, 8, .inl v_p1_daily)), (q_p1_drain, .inl (cI, 8, .inl v_p1_drain)), (q_p2, .inr (10, [.ref q_p2_kept, .ref q_p2_away, .int v_p2_days, .int v_p2_spilled, .int v_p2_river])), (q_p2_kept, .inl (cI, 8, .inl v_p2_kept))] := hD
        refine lv_iinc (v := (w3.1 + 1)) (lv' := [(4, .int (w3.1 + 1)), (0, .ref q_this), (1, .ref q_p1), (2, .ref q_p2), (3, .int a3)]) hx hb dX4_hold_44 hl (k := 0) rfl rfl (by decide) rfl (fun ls hl => ?_)
        refine lv_goto (tgt := 3) hx hb dX4_hold_47 (by decide) ?_
        have hr9 := Option.some.inj hrun
        subst hr9
        exact ih ((w3.1 + 1), (upd w3.2 (Int32.toNatClampNeg w3.1) (((v_p2_kept (Int32.toNatClampNeg w3.1)) + ((v_p1_daily (Int32.toNatClampNeg w3.1)) * a3)) - (v_p1_room (Int32.toNatClampNeg w3.1))))) _ hnext hexit _ _ _ (hP.sub [0, 1, 2, 3, 4, 5, 6, 7] rfl) (hD.sub [0, 1, 2, 3, 4, 5, 6, 7] (by decide) rfl) hS (lv_sub hl [0, 1, 2, 3, 4] rfl)
  refine hL3 oz_fuel (0, v_over) o3 hlp3 (fun H locs ls hP hD hS hl => ?_) _ _ _ (hP.sub [0, 1, 2, 3, 4, 5, 6, 7] rfl) (hD.sub [0, 1, 2, 3, 4, 5, 6, 7] (by decide) rfl) hS (lv_sub hl [0, 1, 2, 3, 4] rfl)
  have hP : va_P (dC, dI) vwCl [(q_this, .inr (4, [.ref q_over])), (q_over, .inl (cI, 8, .inl o3.2)), (q_p1, .inr (6, [.int v_p1_stands, .int v_p1_lent, .int v_p1_pipe, .int v_p1_houses, .ref q_p1_room, .ref q_p1_daily, .ref q_p1_drain, .ref q_p1_above])), (q_p1_room, .inl (cI, 8, .inl v_p1_room)), (q_p1_daily, .inl (cI, 8, .inl v_p1_daily)), (q_p1_drain, .inl (cI, 8, .inl v_p1_drain)), (q_p2, .inr (10, [.ref q_p2_kept, .ref q_p2_away, .int v_p2_days, .int v_p2_spilled, .int v_p2_river])), (q_p2_kept, .inl (cI, 8, .inl v_p2_kept))] H := hP
  have hD : va_D A [(q_this, .inr (4, [.ref q_over])), (q_over, .inl (cI, 8, .inl o3.2)), (q_p1, .inr (6, [.int v_p1_stands, .int v_p1_lent, .int v_p1_pipe, .int v_p1_houses, .ref q_p1_room, .ref q_p1_daily, .ref q_p1_drain, .ref q_p1_above])), (q_p1_room, .inl (cI, 8, .inl v_p1_room)), (q_p1_daily, .inl (cI, 8, .inl v_p1_daily)), (q_p1_drain, .inl (cI, 8, .inl v_p1_drain)), (q_p2, .inr (10, [.ref q_p2_kept, .ref q_p2_away, .int v_p2_days, .int v_p2_spilled, .int v_p2_river])), (q_p2_kept, .inl (cI, 8, .inl v_p2_kept))] := hD
  have hl : lv_has ls 7 [(4, .int o3.1), (0, .ref q_this), (1, .ref q_p1), (2, .ref q_p2), (3, .int a3)] := hl
  refine lv_iconst (v := 0) hx hb dX4_hold_50 (by decide) ?_
  refine lv_istore (lv' := [(4, .int 0), (0, .ref q_this), (1, .ref q_p1), (2, .ref q_p2), (3, .int a3)]) hx hb dX4_hold_51 hl (by decide) rfl (fun ls hl => ?_)
  refine lv_aload_n hx hb dX4_hold_53 rfl (lv_at hl 2 rfl) ?_
  refine va_get (D := (dC, dI)) (ci := 6) (v := .int v_p1_houses) (C := RX6) (T := TX6) (N := 8) hx hb hts hiX6 hown hK hP 2 rfl rfl 3 (by decide) hk15 (fun _ h9 => h9) rfl dX4_hold_54 ?_
  refine lv_iconst (v := 1) hx hb dX4_hold_57 (by decide) ?_
  refine lv_isub hx hb dX4_hold_58 ?_
  refine lv_istore (lv' := [(5, .int (v_p1_houses - 1)), (4, .int 0), (0, .ref q_this), (1, .ref q_p1), (2, .ref q_p2), (3, .int a3)]) hx hb dX4_hold_59 hl (by decide) rfl (fun ls hl => ?_)
  obtain ⟨o61, hlp61, hrun⟩ := oz_bind hrun
  have hL61 : ∀ (n : Nat) (w61 : Int32 × Int32 × (Nat → Int32)) (o61 : Int32 × Int32 × (Nat → Int32)), oz_loop (fX4_hold_b61 v_p1_houses v_p1_drain) n w61 = some o61 → (∀ (H : Heap) (locs : List Loc) (ls : Array Slot), va_P (dC, dI) vwCl [(q_this, .inr (4, [.ref q_over])), (q_over, .inl (cI, 8, .inl o61.2.2)), (q_p1, .inr (6, [.int v_p1_stands, .int v_p1_lent, .int v_p1_pipe, .int v_p1_houses, .ref q_p1_room, .ref q_p1_daily, .ref q_p1_drain, .ref q_p1_above])), (q_p1_room, .inl (cI, 8, .inl v_p1_room)), (q_p1_daily, .inl (cI, 8, .inl v_p1_daily)), (q_p1_drain, .inl (cI, 8, .inl v_p1_drain)), (q_p2, .inr (10, [.ref q_p2_kept, .ref q_p2_away, .int v_p2_days, .int v_p2_spilled, .int v_p2_river])), (q_p2_kept, .inl (cI, 8, .inl v_p2_kept))] H → va_D A [(q_this, .inr (4, [.ref q_over])), (q_over, .inl (cI, 8, .inl o61.2.2)), (q_p1, .inr (6, [.int v_p1_stands, .int v_p1_lent, .int v_p1_pipe, .int v_p1_houses, .ref q_p1_room, .ref q_p1_daily, .ref q_p1_drain, .ref q_p1_above])), (q_p1_room, .inl (cI, 8, .inl v_p1_room)), (q_p1_daily, .inl (cI, 8, .inl v_p1_daily)), (q_p1_drain, .inl (cI, 8, .inl v_p1_drain)), (q_p2, .inr (10, [.ref q_p2_kept, .ref q_p2_away, .int v_p2_days, .int v_p2_spilled, .int v_p2_river])), (q_p2_kept, .inl (cI, 8, .inl v_p2_kept))] → va_S A s.heap H locs → lv_has ls 7 [(5, .int o61.1), (4, .int o61.2.1), (0, .ref q_this), (1, .ref q_p1)] → W p l e (headSpec wsX4_hold rmX4_hold).room s m (([.ref q_this, .ref q_p1, .ref q_p2, .int a3] : List Value).toArray) below meth c H locs 0 0 Q (F0 m 124 ls [])) → ∀ (H : Heap) (locs : List Loc) (ls : Array Slot), va_P (dC, dI) vwCl [(q_this, .inr (4, [.ref q_over])), (q_over, .inl (cI, 8, .inl w61.2.2)), (q_p1, .inr (6, [.int v_p1_stands, .int v_p1_lent, .int v_p1_pipe, .int v_p1_houses, .ref q_p1_room, .ref q_p1_daily, .ref q_p1_drain, .ref q_p1_above])), (q_p1_room, .inl (cI, 8, .inl v_p1_room)), (q_p1_daily, .inl (cI, 8, .inl v_p1_daily)), (q_p1_drain, .inl (cI, 8, .inl v_p1_drain)), (q_p2, .inr (10, [.ref q_p2_kept, .ref q_p2_away, .int v_p2_days, .int v_p2_spilled, .int v_p2_river])), (q_p2_kept, .inl (cI, 8, .inl v_p2_kept))] H → va_D A [(q_this, .inr (4, [.ref q_over])), (q_over, .inl (cI, 8, .inl w61.2.2)), (q_p1, .inr (6, [.int v_p1_stands, .int v_p1_lent, .int v_p1_pipe, .int v_p1_houses, .ref q_p1_room, .ref q_p1_daily, .ref q_p1_drain, .ref q_p1_above])), (q_p1_room, .inl (cI, 8, .inl v_p1_room)), (q_p1_daily, .inl (cI, 8, .inl v_p1_daily)), (q_p1_drain, .inl (cI, 8, .inl v_p1_drain)), (q_p2, .inr (10, [.ref q_p2_kept, .ref q_p2_away, .int v_p2_days, .int v_p2_spilled, .int v_p2_river])), (q_p2_kept, .inl (cI, 8, .inl v_p2_kept))] → va_S A s.heap H locs → lv_has ls 7 [(5, .int w61.1), (4, .int w61.2.1), (0, .ref q_this), (1, .ref q_p1)] → W p l e (headSpec wsX4_hold rmX4_hold).room s m (([.ref q_this, .ref q_p1, .ref q_p2, .int a3] : List Value).toArray) below meth c H locs 0 0 Q (F0 m 61 ls []) := by
    intro n
    induction n with
    | zero => intro w61 o61 h9; exact (oz_zero h9).elim
    | succ n ih =>
      intro w61 o61 h9 hexit H locs ls hP hD hS hl
      obtain ⟨r9, hrun, hnext⟩ := oz_step h9
      unfold fX4_hold_b61 at hrun
      refine lv_iload hx hb dX4_hold_61 (lv_at hl 0 rfl) ?_
      refine lv_if_lt (tgt := 124) hx hb dX4_hold_63 (by decide) (fun c3 => ?_) (fun c3 => ?_)
      · have hrun := oz_t hrun c3
        have hr9 := Option.some.inj hrun
        subst hr9
        have ho9 : (w61.1, w61.2.1, w61.2.2) = o61 := hnext
        subst ho9
        exact hexit _ _ _ (hP.sub [0, 1, 2, 3, 4, 5, 6, 7] rfl) (hD.sub [0, 1, 2, 3, 4, 5, 6, 7] (by decide) rfl) hS (lv_sub hl [0, 1, 2, 3] rfl)
      · have hrun := oz_f hrun c3
        refine lv_aload_n hx hb dX4_hold_66 rfl (lv_at hl 3 rfl) ?_
        refine va_get (D := (dC, dI)) (ci := 6) (v := .ref q_p1_drain) (C := RX6) (T := TX6) (N := 8) hx hb hts hiX6 hown hK hP 2 rfl rfl 6 (by decide) hk32 (fun _ h9 => h9) rfl dX4_hold_67 ?_
        refine lv_iload hx hb dX4_hold_70 (lv_at hl 0 rfl) ?_
        obtain ⟨c4, hrun⟩ := oz_chk hrun
        refine va_iald hx hb hK hP 5 0 rfl rfl c4 dX4_hold_72 ?_
        refine lv_istore (lv' := [(6, .int (v_p1_drain (Int32.toNatClampNeg w61.1))), (5, .int w61.1), (4, .int w61.2.1), (0, .ref q_this), (1, .ref q_p1)]) hx hb dX4_hold_73 hl (by decide) rfl (fun ls hl => ?_)
        refine lv_aload_n hx hb dX4_hold_75 rfl (lv_at hl 4 rfl) ?_
        refine lv_iload hx hb dX4_hold_76 (lv_at hl 0 rfl) ?_
        obtain ⟨y78, hc78, hrun⟩ := oz_bind hrun
        have hPc := hP.sub (ws' := [(q_p1, .inr (6, [.int v_p1_stands, .int v_p1_lent, .int v_p1_pipe, .int v_p1_houses, .ref q_p1_room, .ref q_p1_daily, .ref q_p1_drain, .ref q_p1_above]))]) [2] rfl
        have hDc := hD.sub (ws' := [(q_p1, .inr (6, [.int v_p1_stands, .int v_p1_lent, .int v_p1_pipe, .int v_p1_houses, .ref q_p1_room, .ref q_p1_daily, .ref q_p1_drain, .ref q_p1_above]))]) [2] (by decide) rfl
        have hFc := va_free (wc := [(q_p1, .inr (6, [.int v_p1_stands, .int v_p1_lent, .int v_p1_pipe, .int v_p1_houses, .ref q_p1_room, .ref q_p1_daily, .ref q_p1_drain, .ref q_p1_above]))]) hD hS hA [2] rfl
        refine va_calli (va_runV (As := [.int (v_p1_drain (Int32.toNatClampNeg w61.1))]) (rest := []) ⟨hx, hb, hml, hown, hts⟩ (tX6_has l dC dI cI cZ q_p1_above q_p1_daily q_p1_drain q_p1_room q_p1 H.size v_p1_stands v_p1_lent v_p1_pipe v_p1_houses (v_p1_drain (Int32.toNatClampNeg w61.1)) y78 hc78) (cwV 1 hts gX4_hold_X6_has rfl rfl rfl (by decide +kernel) ⟨Nat.le_of_ble_eq_true rfl, Nat.le_of_ble_eq_true rfl⟩) ⟨fun a U g mk q => by obtain ⟨q0, q1, qP, qK, qD⟩ := q; exact ⟨q0, q1, qP, va_K.moved (u := U) (U := U.calling g mk a) (Vm.Alike.refl U.vm) qK, qD⟩, va_recv hK hPc (ci := 6) (q0 := 0) rfl rfl, fun U hU hW => ⟨rfl, by rw [hU], by rw [hU]; exact hPc, va_K.moved hW.alike hK, hDc.weaken (fun _ _ _ _ => trivial)⟩⟩ rfl rfl hl.1 rfl (lv_room (Nat.le_of_ble_eq_true rfl)) dX4_hold_78 ⟨Nat.le_of_ble_eq_true rfl, Nat.le_of_ble_eq_true rfl⟩) hS (fun q _ h => hFc q h) hFc (fun r78 u9 t9 H1 locs ht9 hvm9 hw9 hB9 hz9 hkk9 hS => ?_)
        have hw9 : y78 = r78 := hw9.symm
        subst hw9
        obtain ⟨hP9, hK9, hD9⟩ := hB9
        rw [ht9] at hP9
        obtain ⟨hP, hD⟩ := va_join (wr := [(q_this, .inr (4, [.ref q_over])), (q_over, .inl (cI, 8, .inl w61.2.2)), (q_p1_room, .inl (cI, 8, .inl v_p1_room)), (q_p1_daily, .inl (cI, 8, .inl v_p1_daily)), (q_p1_drain, .inl (cI, 8, .inl v_p1_drain)), (q_p2, .inr (10, [.ref q_p2_kept, .ref q_p2_away, .int v_p2_days, .int v_p2_spilled, .int v_p2_river])), (q_p2_kept, .inl (cI, 8, .inl v_p2_kept))]) (w1 := [(q_p1, .inr (6, [.int v_p1_stands, .int v_p1_lent, .int v_p1_pipe, .int v_p1_houses, .ref q_p1_room, .ref q_p1_daily, .ref q_p1_drain, .ref q_p1_above]))]) hP hD [2] [0, 1, 3, 4, 5, 6, 7] rfl rfl (by decide) (by decide) hkk9 hFc hP9 hD9
        generalize H1 = H at hP hS ⊢
        have hP : va_P (dC, dI) vwCl [(q_this, .inr (4, [.ref q_over])), (q_over, .inl (cI, 8, .inl w61.2.2)), (q_p1_room, .inl (cI, 8, .inl v_p1_room)), (q_p1_daily, .inl (cI, 8, .inl v_p1_daily)), (q_p1_drain, .inl (cI, 8, .inl v_p1_drain)), (q_p2, .inr (10, [.ref q_p2_kept, .ref q_p2_away, .int v_p2_days, .int v_p2_spilled, .int v_p2_river])), (q_p2_kept, .inl (cI, 8, .inl v_p2_kept)), (q_p1, .inr (6, [.int v_p1_stands, .int v_p1_lent, .int v_p1_pipe, .int v_p1_houses, .ref q_p1_room, .ref q_p1_daily, .ref q_p1_drain, .ref q_p1_above]))] H := hP
        have hD : va_D A [(q_this, .inr (4, [.ref q_over])), (q_over, .inl (cI, 8, .inl w61.2.2)), (q_p1_room, .inl (cI, 8, .inl v_p1_room)), (q_p1_daily, .inl (cI, 8, .inl v_p1_daily)), (q_p1_drain, .inl (cI, 8, .inl v_p1_drain)), (q_p2, .inr (10, [.ref q_p2_kept, .ref q_p2_away, .int v_p2_days, .int v_p2_spilled, .int v_p2_river])), (q_p2_kept, .inl (cI, 8, .inl v_p2_kept)), (q_p1, .inr (6, [.int v_p1_stands, .int v_p1_lent, .int v_p1_pipe, .int v_p1_houses, .ref q_p1_room, .ref q_p1_daily, .ref q_p1_drain, .ref q_p1_above]))] := hD
        refine lv_if_eq (tgt := 118) hx hb dX4_hold_81 (by decide) (fun c5 => ?_) (fun c5 => ?_)
        · have hrun := oz_t hrun c5
          refine lv_iinc (v := (w61.1 + (-1))) (lv' := [(5, .int (w61.1 + (-1))), (6, .int (v_p1_drain (Int32.toNatClampNeg w61.1))), (4, .int w61.2.1), (0, .ref q_this), (1, .ref q_p1)]) hx hb dX4_hold_118 hl (k := 1) rfl rfl (by decide) rfl (fun ls hl => ?_)
          refine lv_goto (tgt := 61) hx hb dX4_hold_121 (by decide) ?_
          have hr9 := Option.some.inj hrun
          subst hr9
          exact ih ((w61.1 + (-1)), w61.2.1, w61.2.2) _ hnext hexit _ _ _ (hP.sub [0, 1, 7, 2, 3, 4, 5, 6] rfl) (hD.sub [0, 1, 7, 2, 3, 4, 5, 6] (by decide) rfl) hS (lv_sub hl [0, 2, 3, 4] rfl)
        · have hrun := oz_f hrun c5
          refine lv_iload hx hb dX4_hold_84 (lv_at hl 2 rfl) ?_
          refine lv_aload_n hx hb dX4_hold_86 rfl (lv_at hl 3 rfl) ?_
          refine va_get (D := (dC, dI)) (ci := 4) (v := .ref q_over) (C := RX4) (T := TX4) (N := 1) hx hb hts hiX4 hown hK hP 0 rfl rfl 0 (by decide) hk9 (fun _ h9 => h9) rfl dX4_hold_87 ?_
          refine lv_iload hx hb dX4_hold_90 (lv_at hl 1 rfl) ?_
          refine va_iald hx hb hK hP 1 0 rfl rfl c4 dX4_hold_92 ?_
          refine lv_if_le (tgt := 107) hx hb dX4_hold_93 (by decide) (fun c6 => ?_) (fun c6 => ?_)
          · have hrun := oz_t hrun c6
            refine lv_aload_n hx hb dX4_hold_107 rfl (lv_at hl 3 rfl) ?_
            refine lv_iload hx hb dX4_hold_108 (lv_at hl 0 rfl) ?_
            refine lv_iload hx hb dX4_hold_110 (lv_at hl 1 rfl) ?_
            obtain ⟨y112, hc112, hrun⟩ := oz_bind hrun
            have hPc := hP.sub (ws' := [(q_this, .inr (4, [.ref q_over])), (q_over, .inl (cI, 8, .inl w61.2.2))]) [0, 1] rfl
            have hDc := hD.sub (ws' := [(q_this, .inr (4, [.ref q_over])), (q_over, .inl (cI, 8, .inl w61.2.2))]) [0, 1] (by decide) rfl
            have hFc := va_free (wc := [(q_this, .inr (4, [.ref q_over])), (q_over, .inl (cI, 8, .inl w61.2.2))]) hD hS hA [0, 1] rfl
            refine va_calli (va_runV (As := [.int (v_p1_drain (Int32.toNatClampNeg w61.1)), .int w61.1]) (rest := [.int w61.2.1]) ⟨hx, hb, hml, hown, hts⟩ (tX4_settle l dC dI cI cZ q_over q_this H.size w61.2.2 (v_p1_drain (Int32.toNatClampNeg w61.1)) w61.1 y112 hc112) (cwV 2 hts gX4_hold_X4_settle rfl rfl rfl (by decide +kernel) ⟨Nat.le_of_ble_eq_true rfl, Nat.le_of_ble_eq_true rfl⟩) ⟨fun a U g mk q => by obtain ⟨q0, q1, qP, qK, qD⟩ := q; exact ⟨q0, q1, qP, va_K.moved (u := U) (U := U.calling g mk a) (Vm.Alike.refl U.vm) qK, qD⟩, va_recv hK hPc (ci := 4) (q0 := 0) rfl rfl, fun U hU hW => ⟨rfl, by rw [hU], by rw [hU]; exact hPc, va_K.moved hW.alike hK, hDc.weaken (fun _ _ _ _ => trivial)⟩⟩ rfl rfl hl.1 rfl (lv_room (Nat.le_of_ble_eq_true rfl)) dX4_hold_112 ⟨Nat.le_of_ble_eq_true rfl, Nat.le_of_ble_eq_true rfl⟩) hS (fun q _ h => hFc q h) hFc (fun r112 u9 t9 H1 locs ht9 hvm9 hw9 hB9 hz9 hkk9 hS => ?_)
            have hw9 : y112.1 = r112 := hw9.symm
            subst hw9
            obtain ⟨hP9, hK9, hD9⟩ := hB9
            rw [ht9] at hP9
            obtain ⟨hP, hD⟩ := va_join (wr := [(q_p1_room, .inl (cI, 8, .inl v_p1_room)), (q_p1_daily, .inl (cI, 8, .inl v_p1_daily)), (q_p1_drain, .inl (cI, 8, .inl v_p1_drain)), (q_p2, .inr (10, [.ref q_p2_kept, .ref q_p2_away, .int v_p2_days, .int v_p2_spilled, .int v_p2_river])), (q_p2_kept, .inl (cI, 8, .inl v_p2_kept)), (q_p1, .inr (6, [.int v_p1_stands, .int v_p1_lent, .int v_p1_pipe, .int v_p1_houses, .ref q_p1_room, .ref q_p1_daily, .ref q_p1_drain, .ref q_p1_above]))]) (w1 := [(q_this, .inr (4, [.ref q_over])), (q_over, .inl (cI, 8, .inl y112.2))]) hP hD [0, 1] [2, 3, 4, 5, 6, 7] rfl rfl (by decide) (by decide) hkk9 hFc hP9 hD9
            generalize H1 = H at hP hS ⊢
            have hP : va_P (dC, dI) vwCl [(q_p1_room, .inl (cI, 8, .inl v_p1_room)), (q_p1_daily, .inl (cI, 8, .inl v_p1_daily)), (q_p1_drain, .inl (cI, 8, .inl v_p1_drain)), (q_p2, .inr (10, [.ref q_p2_kept, .ref q_p2_away, .int v_p2_days, .int v_p2_spilled, .int v_p2_river])), (q_p2_kept, .inl (cI, 8, .inl v_p2_kept)), (q_p1, .inr (6, [.int v_p1_stands, .int v_p1_lent, .int v_p1_pipe, .int v_p1_houses, .ref q_p1_room, .ref q_p1_daily, .ref q_p1_drain, .ref q_p1_above])), (q_this, .inr (4, [.ref q_over])), (q_over, .inl (cI, 8, .inl y112.2))] H := hP
            have hD : va_D A [(q_p1_room, .inl (cI, 8, .inl v_p1_room)), (q_p1_daily, .inl (cI, 8, .inl v_p1_daily)), (q_p1_drain, .inl (cI, 8, .inl v_p1_drain)), (q_p2, .inr (10, [.ref q_p2_kept, .ref q_p2_away, .int v_p2_days, .int v_p2_spilled, .int v_p2_river])), (q_p2_kept, .inl (cI, 8, .inl v_p2_kept)), (q_p1, .inr (6, [.int v_p1_stands, .int v_p1_lent, .int v_p1_pipe, .int v_p1_houses, .ref q_p1_room, .ref q_p1_daily, .ref q_p1_drain, .ref q_p1_above])), (q_this, .inr (4, [.ref q_over])), (q_over, .inl (cI, 8, .inl y112.2))] := hD
            refine lv_iadd hx hb dX4_hold_115 ?_
            refine lv_istore (lv' := [(4, .int (w61.2.1 + y112.1)), (6, .int (v_p1_drain (Int32.toNatClampNeg w61.1))), (5, .int w61.1), (0, .ref q_this), (1, .ref q_p1)]) hx hb dX4_hold_116 hl (by decide) rfl (fun ls hl => ?_)
            refine lv_iinc (v := (w61.1 + (-1))) (lv' := [(5, .int (w61.1 + (-1))), (4, .int (w61.2.1 + y112.1)), (6, .int (v_p1_drain (Int32.toNatClampNeg w61.1))), (0, .ref q_this), (1, .ref q_p1)]) hx hb dX4_hold_118 hl (k := 2) rfl rfl (by decide) rfl (fun ls hl => ?_)
            refine lv_goto (tgt := 61) hx hb dX4_hold_121 (by decide) ?_
            have hr9 := Option.some.inj hrun
            subst hr9
            exact ih ((w61.1 + (-1)), (w61.2.1 + y112.1), y112.2) _ hnext hexit _ _ _ (hP.sub [6, 7, 5, 0, 1, 2, 3, 4] rfl) (hD.sub [6, 7, 5, 0, 1, 2, 3, 4] (by decide) rfl) hS (lv_sub hl [0, 1, 3, 4] rfl)
          · have hrun := oz_f hrun c6
            refine lv_aload_n hx hb dX4_hold_96 rfl (lv_at hl 3 rfl) ?_
            refine lv_iload hx hb dX4_hold_97 (lv_at hl 1 rfl) ?_
            refine lv_iload hx hb dX4_hold_99 (lv_at hl 0 rfl) ?_
            obtain ⟨y101, hc101, hrun⟩ := oz_bind hrun
            have hPc := hP.sub (ws' := [(q_this, .inr (4, [.ref q_over])), (q_over, .inl (cI, 8, .inl w61.2.2))]) [0, 1] rfl
            have hDc := hD.sub (ws' := [(q_this, .inr (4, [.ref q_over])), (q_over, .inl (cI, 8, .inl w61.2.2))]) [0, 1] (by decide) rfl
            have hFc := va_free (wc := [(q_this, .inr (4, [.ref q_over])), (q_over, .inl (cI, 8, .inl w61.2.2))]) hD hS hA [0, 1] rfl
            refine va_calli (va_runV (As := [.int w61.1, .int (v_p1_drain (Int32.toNatClampNeg w61.1))]) (rest := [.int w61.2.1]) ⟨hx, hb, hml, hown, hts⟩ (tX4_settle l dC dI cI cZ q_over q_this H.size w61.2.2 w61.1 (v_p1_drain (Int32.toNatClampNeg w61.1)) y101 hc101) (cwV 2 hts gX4_hold_X4_settle rfl rfl rfl (by decide +kernel) ⟨Nat.le_of_ble_eq_true rfl, Nat.le_of_ble_eq_true rfl⟩) ⟨fun a U g mk q => by obtain ⟨q0, q1, qP, qK, qD⟩ := q; exact ⟨q0, q1, qP, va_K.moved (u := U) (U := U.calling g mk a) (Vm.Alike.refl U.vm) qK, qD⟩, va_recv hK hPc (ci := 4) (q0 := 0) rfl rfl, fun U hU hW => ⟨rfl, by rw [hU], by rw [hU]; exact hPc, va_K.moved hW.alike hK, hDc.weaken (fun _ _ _ _ => trivial)⟩⟩ rfl rfl hl.1 rfl (lv_room (Nat.le_of_ble_eq_true rfl)) dX4_hold_101 ⟨Nat.le_of_ble_eq_true rfl, Nat.le_of_ble_eq_true rfl⟩) hS (fun q _ h => hFc q h) hFc (fun r101 u9 t9 H1 locs ht9 hvm9 hw9 hB9 hz9 hkk9 hS => ?_)
            have hw9 : y101.1 = r101 := hw9.symm
            subst hw9
            obtain ⟨hP9, hK9, hD9⟩ := hB9
            rw [ht9] at hP9
            obtain ⟨hP, hD⟩ := va_join (wr := [(q_p1_room, .inl (cI, 8, .inl v_p1_room)), (q_p1_daily, .inl (cI, 8, .inl v_p1_daily)), (q_p1_drain, .inl (cI, 8, .inl v_p1_drain)), (q_p2, .inr (10, [.ref q_p2_kept, .ref q_p2_away, .int v_p2_days, .int v_p2_spilled, .int v_p2_river])), (q_p2_kept, .inl (cI, 8, .inl v_p2_kept)), (q_p1, .inr (6, [.int v_p1_stands, .int v_p1_lent, .int v_p1_pipe, .int v_p1_houses, .ref q_p1_room, .ref q_p1_daily, .ref q_p1_drain, .ref q_p1_above]))]) (w1 := [(q_this, .inr (4, [.ref q_over])), (q_over, .inl (cI, 8, .inl y101.2))]) hP hD [0, 1] [2, 3, 4, 5, 6, 7] rfl rfl (by decide) (by decide) hkk9 hFc hP9 hD9
            generalize H1 = H at hP hS ⊢
            have hP : va_P (dC, dI) vwCl [(q_p1_room, .inl (cI, 8, .inl v_p1_room)), (q_p1_daily, .inl (cI, 8, .inl v_p1_daily)), (q_p1_drain, .inl (cI, 8, .inl v_p1_drain)), (q_p2, .inr (10, [.ref q_p2_kept, .ref q_p2_away, .int v_p2_days, .int v_p2_spilled, .int v_p2_river])), (q_p2_kept, .inl (cI, 8, .inl v_p2_kept)), (q_p1, .inr (6, [.int v_p1_stands, .int v_p1_lent, .int v_p1_pipe, .int v_p1_houses, .ref q_p1_room, .ref q_p1_daily, .ref q_p1_drain, .ref q_p1_above])), (q_this, .inr (4, [.ref q_over])), (q_over, .inl (cI, 8, .inl y101.2))] H := hP
            have hD : va_D A [(q_p1_room, .inl (cI, 8, .inl v_p1_room)), (q_p1_daily, .inl (cI, 8, .inl v_p1_daily)), (q_p1_drain, .inl (cI, 8, .inl v_p1_drain)), (q_p2, .inr (10, [.ref q_p2_kept, .ref q_p2_away, .int v_p2_days, .int v_p2_spilled, .int v_p2_river])), (q_p2_kept, .inl (cI, 8, .inl v_p2_kept)), (q_p1, .inr (6, [.int v_p1_stands, .int v_p1_lent, .int v_p1_pipe, .int v_p1_houses, .ref q_p1_room, .ref q_p1_daily, .ref q_p1_drain, .ref q_p1_above])), (q_this, .inr (4, [.ref q_over])), (q_over, .inl (cI, 8, .inl y101.2))] := hD
            refine lv_goto (tgt := 115) hx hb dX4_hold_104 (by decide) ?_
            refine lv_iadd hx hb dX4_hold_115 ?_
            refine lv_istore (lv' := [(4, .int (w61.2.1 + y101.1)), (6, .int (v_p1_drain (Int32.toNatClampNeg w61.1))), (5, .int w61.1), (0, .ref q_this), (1, .ref q_p1)]) hx hb dX4_hold_116 hl (by decide) rfl (fun ls hl => ?_)
            refine lv_iinc (v := (w61.1 + (-1))) (lv' := [(5, .int (w61.1 + (-1))), (4, .int (w61.2.1 + y101.1)), (6, .int (v_p1_drain (Int32.toNatClampNeg w61.1))), (0, .ref q_this), (1, .ref q_p1)]) hx hb dX4_hold_118 hl (k := 2) rfl rfl (by decide) rfl (fun ls hl => ?_)
            refine lv_goto (tgt := 61) hx hb dX4_hold_121 (by decide) ?_
            have hr9 := Option.some.inj hrun
            subst hr9
            exact ih ((w61.1 + (-1)), (w61.2.1 + y101.1), y101.2) _ hnext hexit _ _ _ (hP.sub [6, 7, 5, 0, 1, 2, 3, 4] rfl) (hD.sub [6, 7, 5, 0, 1, 2, 3, 4] (by decide) rfl) hS (lv_sub hl [0, 1, 3, 4] rfl)
  refine hL61 oz_fuel ((v_p1_houses - 1), 0, o3.2) o61 hlp61 (fun H locs ls hP hD hS hl => ?_) _ _ _ (hP.sub [0, 1, 2, 3, 4, 5, 6, 7] rfl) (hD.sub [0, 1, 2, 3, 4, 5, 6, 7] (by decide) rfl) hS (lv_sub hl [0, 1, 2, 3] rfl)
  have hP : va_P (dC, dI) vwCl [(q_this, .inr (4, [.ref q_over])), (q_over, .inl (cI, 8, .inl o61.2.2)), (q_p1, .inr (6, [.int v_p1_stands, .int v_p1_lent, .int v_p1_pipe, .int v_p1_houses, .ref q_p1_room, .ref q_p1_daily, .ref q_p1_drain, .ref q_p1_above])), (q_p1_room, .inl (cI, 8, .inl v_p1_room)), (q_p1_daily, .inl (cI, 8, .inl v_p1_daily)), (q_p1_drain, .inl (cI, 8, .inl v_p1_drain)), (q_p2, .inr (10, [.ref q_p2_kept, .ref q_p2_away, .int v_p2_days, .int v_p2_spilled, .int v_p2_river])), (q_p2_kept, .inl (cI, 8, .inl v_p2_kept))] H := hP
  have hD : va_D A [(q_this, .inr (4, [.ref q_over])), (q_over, .inl (cI, 8, .inl o61.2.2)), (q_p1, .inr (6, [.int v_p1_stands, .int v_p1_lent, .int v_p1_pipe, .int v_p1_houses, .ref q_p1_room, .ref q_p1_daily, .ref q_p1_drain, .ref q_p1_above])), (q_p1_room, .inl (cI, 8, .inl v_p1_room)), (q_p1_daily, .inl (cI, 8, .inl v_p1_daily)), (q_p1_drain, .inl (cI, 8, .inl v_p1_drain)), (q_p2, .inr (10, [.ref q_p2_kept, .ref q_p2_away, .int v_p2_days, .int v_p2_spilled, .int v_p2_river])), (q_p2_kept, .inl (cI, 8, .inl v_p2_kept))] := hD
  have hl : lv_has ls 7 [(5, .int o61.1), (4, .int o61.2.1), (0, .ref q_this), (1, .ref q_p1)] := hl
  refine lv_iload hx hb dX4_hold_124 (lv_at hl 1 rfl) ?_
  have ho9 := Option.some.inj hrun
  subst ho9
  have hP9 := hP.sub (ws' := [(q_this, .inr (4, [.ref q_over])), (q_over, .inl (cI, 8, .inl o61.2.2)), (q_p1, .inr (6, [.int v_p1_stands, .int v_p1_lent, .int v_p1_pipe, .int v_p1_houses, .ref q_p1_room, .ref q_p1_daily, .ref q_p1_drain, .ref q_p1_above])), (q_p1_room, .inl (cI, 8, .inl v_p1_room)), (q_p1_daily, .inl (cI, 8, .inl v_p1_daily)), (q_p1_drain, .inl (cI, 8, .inl v_p1_drain)), (q_p2, .inr (10, [.ref q_p2_kept, .ref q_p2_away, .int v_p2_days, .int v_p2_spilled, .int v_p2_river])), (q_p2_kept, .inl (cI, 8, .inl v_p2_kept))]) [0, 1, 2, 3, 4, 5, 6, 7] rfl
  have hD9 := hD.sub (ws' := [(q_this, .inr (4, [.ref q_over])), (q_over, .inl (cI, 8, .inl o61.2.2)), (q_p1, .inr (6, [.int v_p1_stands, .int v_p1_lent, .int v_p1_pipe, .int v_p1_houses, .ref q_p1_room, .ref q_p1_daily, .ref q_p1_drain, .ref q_p1_above])), (q_p1_room, .inl (cI, 8, .inl v_p1_room)), (q_p1_daily, .inl (cI, 8, .inl v_p1_daily)), (q_p1_drain, .inl (cI, 8, .inl v_p1_drain)), (q_p2, .inr (10, [.ref q_p2_kept, .ref q_p2_away, .int v_p2_days, .int v_p2_spilled, .int v_p2_river])), (q_p2_kept, .inl (cI, 8, .inl v_p2_kept))]) [0, 1, 2, 3, 4, 5, 6, 7] (by decide) rfl
  rw [hQ]
  exact W.iret (v := o61.2.1) hx hb hr (fun t ht hW => ⟨⟨o61.2.1, (), rfl, rfl, by rw [ht]; exact hP9, va_K.moved hW.alike hK, hD9⟩, hS.F ht⟩) hS.2.2 dX4_hold_126
def fX5_clear (v_seen : Int32) (v_entries : Int32) : Option (Int32 × Int32) :=
  some (0, 0)
def rmX5_clear : Room := { frames := 0, cells := 0, slots := 0, locals := 0 }
set_option maxHeartbeats 4000000 in
set_option maxRecDepth 100000 in
theorem tX5_clear (l : Launch) (dC : Nat → ClassId) (dI : Nat → Nat → Nat) (cI cZ : ClassId) (q_entryAmount q_entryHouse q_seenBy q_seenCame q_this : Nat) (sz : Nat) (v_seen : Int32) (v_entries : Int32) (out : Int32 × Int32) (hrun : fX5_clear v_seen v_entries = some out) : Met l yX5_clear wsX5_clear rmX5_clear (va_Pc [.ref q_this] (fun U => U.heap.size = sz ∧ va_P (dC, dI) vwCl [(q_this, .inr (5, [.ref q_seenBy, .ref q_seenCame, .ref q_entryHouse, .ref q_entryAmount, .int v_seen, .int v_entries]))] U.heap ∧ va_K (dC, dI) vwCl [(cI, .int), (cZ, .boolean)] U ∧ va_D (fun _ => True) [(q_this, .inr (5, [.ref q_seenBy, .ref q_seenCame, .ref q_entryHouse, .ref q_entryAmount, .int v_seen, .int v_entries]))])) (va_Qv (fun _ : Unit => True) (fun _ t => va_P (dC, dI) vwCl [(q_this, .inr (5, [.ref q_seenBy, .ref q_seenCame, .ref q_entryHouse, .ref q_entryAmount, .int out.1, .int out.2]))] t.heap ∧ va_K (dC, dI) vwCl [(cI, .int), (cZ, .boolean)] t ∧ va_D (va_A [(q_this, .inr (5, [.ref q_seenBy, .ref q_seenCame, .ref q_entryHouse, .ref q_entryAmount, .int v_seen, .int v_entries]))] sz) [(q_this, .inr (5, [.ref q_seenBy, .ref q_seenCame, .ref q_entryHouse, .ref q_entryAmount, .int out.1, .int out.2]))]) (va_A [(q_this, .inr (5, [.ref q_seenBy, .ref q_seenCame, .ref q_entryHouse, .ref q_entryAmount, .int v_seen, .int v_entries]))] sz)) 0 0 (va_A [(q_this, .inr (5, [.ref q_seenBy, .ref q_seenCame, .ref q_entryHouse, .ref q_entryAmount, .int v_seen, .int v_entries]))] sz) := by
  refine Met.ofW (cc := cX5_clear) (maxL := 1) (ret := none) (by decide) rfl ?_
  intro p e s m args below meth c s₁ B hml hv
  obtain ⟨rfl, hsz, hP, hK, hD0⟩ := hv
  have hx := B.exec
  have hb := B.bytes
  have hr := B.returns
  have hts := atoms_spec (ws := wsX5_clear) B.pre
  have hown : s.vm.findClass RX5 = some m.cls := findClass_of_methodNamed B.named
  have hlocks := B.notSynchronized
  subst hsz
  have hD := hD0.self (sz := s.heap.size)
  generalize hAe : va_A [(q_this, .inr (5, [.ref q_seenBy, .ref q_seenCame, .ref q_entryHouse, .ref q_entryAmount, .int v_seen, .int v_entries]))] s.heap.size = A at hD ⊢
  have hA : ∀ q : Nat, s.heap.size ≤ q → A q := fun q h => by rw [← hAe]; exact Or.inr h
  have hS : va_S A s.heap s.heap [] := va_S.rf
  have hl := lv_entry ([.ref q_this]) (n := 1) (Nat.le_of_ble_eq_true rfl)
  rw [lg_entry_eq]
  generalize (lg_sl ([.ref q_this]) ++ List.replicate (1 - (lg_sl ([.ref q_this])).length) Slot.unset).toArray = ls at hl ⊢
  have hl : lv_has ls 1 [(0, .ref q_this)] := hl
  unfold fX5_clear at hrun
  have hk25 := hts (.fieldLink RX5 25 "LentDrains$Notes" "seen" "I") (by decide +kernel)
  have hiX5 : ∀ w ∈ wsX50, w ∈ wsX5_clear := by decide +kernel
  have hk29 := hts (.fieldLink RX5 29 "LentDrains$Notes" "entries" "I") (by decide +kernel)
  refine oz_genQ (fun Q hQ => ?_)
  refine lv_aload_n hx hb dX5_clear_0 rfl (lv_at hl 0 rfl) ?_
  refine lv_iconst (v := 0) hx hb dX5_clear_1 (by decide) ?_
  refine va_put (D := (dC, dI)) (ci := 5) (v := .int 0) (ty := .int) (C := RX5) (T := TX5) (N := 6) hx hb hts hiX5 tyX5 tyX5_ok nmX5 hown hK hP hD hS 0 rfl rfl 4 (by decide) hk25 (fun _ h9 => h9) rfl (by decide +kernel) rfl rfl (Nat.le_of_ble_eq_true rfl) dX5_clear_2 (fun H locs hP hD hS => ?_)
  have hP : va_P (dC, dI) vwCl [(q_this, .inr (5, [.ref q_seenBy, .ref q_seenCame, .ref q_entryHouse, .ref q_entryAmount, .int 0, .int v_entries]))] H := hP
  have hD : va_D A [(q_this, .inr (5, [.ref q_seenBy, .ref q_seenCame, .ref q_entryHouse, .ref q_entryAmount, .int 0, .int v_entries]))] := hD
  refine lv_aload_n hx hb dX5_clear_5 rfl (lv_at hl 0 rfl) ?_
  refine lv_iconst (v := 0) hx hb dX5_clear_6 (by decide) ?_
  refine va_put (D := (dC, dI)) (ci := 5) (v := .int 0) (ty := .int) (C := RX5) (T := TX5) (N := 6) hx hb hts hiX5 tyX5 tyX5_ok nmX5 hown hK hP hD hS 0 rfl rfl 5 (by decide) hk29 (fun _ h9 => h9) rfl (by decide +kernel) rfl rfl (Nat.le_of_ble_eq_true rfl) dX5_clear_7 (fun H locs hP hD hS => ?_)
  have hP : va_P (dC, dI) vwCl [(q_this, .inr (5, [.ref q_seenBy, .ref q_seenCame, .ref q_entryHouse, .ref q_entryAmount, .int 0, .int 0]))] H := hP
  have hD : va_D A [(q_this, .inr (5, [.ref q_seenBy, .ref q_seenCame, .ref q_entryHouse, .ref q_entryAmount, .int 0, .int 0]))] := hD
  have ho9 := Option.some.inj hrun
  subst ho9
  have hP9 := hP.sub (ws' := [(q_this, .inr (5, [.ref q_seenBy, .ref q_seenCame, .ref q_entryHouse, .ref q_entryAmount, .int 0, .int 0]))]) [0] rfl
  have hD9 := hD.sub (ws' := [(q_this, .inr (5, [.ref q_seenBy, .ref q_seenCame, .ref q_entryHouse, .ref q_entryAmount, .int 0, .int 0]))]) [0] (by decide) rfl
  rw [hQ]
  exact W.vret hx hb hr (fun t ht hW => ⟨⟨(), rfl, trivial, by rw [ht]; exact hP9, va_K.moved hW.alike hK, hD9⟩, hS.F ht⟩) hS.2.2 dX5_clear_10
def fX5_addSeen (v_seen : Int32) (v_seenBy : Nat → Int32) (v_seenCame : Nat → Int32) (a1 : Int32) (a2 : Int32) : Option (Int32 × Int32 × (Nat → Int32) × (Nat → Int32)) :=
  if v_seen < 6 then (if (v_seen < 0 ∨ 6 ≤ Int32.toNatClampNeg v_seen) then none else some (1, (v_seen + 1), (upd v_seenBy (Int32.toNatClampNeg v_seen) a1), (upd v_seenCame (Int32.toNatClampNeg v_seen) (vp_nar .boolean a2)))) else (some (0, v_seen, v_seenBy, v_seenCame))
def rmX5_addSeen : Room := { frames := 0, cells := 0, slots := 0, locals := 0 }
set_option maxHeartbeats 4000000 in
set_option maxRecDepth 100000 in
theorem tX5_addSeen (l : Launch) (dC : Nat → ClassId) (dI : Nat → Nat → Nat) (cI cZ : ClassId) (q_entryAmount q_entryHouse q_seenBy q_seenCame q_this : Nat) (sz : Nat) (v_entries : Int32) (v_seen : Int32) (v_seenBy : Nat → Int32) (v_seenCame : Nat → Int32) (a1 : Int32) (a2 : Int32) (out : Int32 × Int32 × (Nat → Int32) × (Nat → Int32)) (hrun : fX5_addSeen v_seen v_seenBy v_seenCame a1 a2 = some out) : Met l yX5_addSeen wsX5_addSeen rmX5_addSeen (va_Pc [.ref q_this, .int a1, .int a2] (fun U => U.heap.size = sz ∧ va_P (dC, dI) vwCl [(q_this, .inr (5, [.ref q_seenBy, .ref q_seenCame, .ref q_entryHouse, .ref q_entryAmount, .int v_seen, .int v_entries])), (q_seenBy, .inl (cI, 6, .inl v_seenBy)), (q_seenCame, .inl (cZ, 6, .inl v_seenCame))] U.heap ∧ va_K (dC, dI) vwCl [(cI, .int), (cZ, .boolean)] U ∧ va_D (fun _ => True) [(q_this, .inr (5, [.ref q_seenBy, .ref q_seenCame, .ref q_entryHouse, .ref q_entryAmount, .int v_seen, .int v_entries])), (q_seenBy, .inl (cI, 6, .inl v_seenBy)), (q_seenCame, .inl (cZ, 6, .inl v_seenCame))])) (va_Qi (fun (r : Int32) (_ : Unit) => r = out.1) (fun _ t => va_P (dC, dI) vwCl [(q_this, .inr (5, [.ref q_seenBy, .ref q_seenCame, .ref q_entryHouse, .ref q_entryAmount, .int out.2.1, .int v_entries])), (q_seenBy, .inl (cI, 6, .inl out.2.2.1)), (q_seenCame, .inl (cZ, 6, .inl out.2.2.2))] t.heap ∧ va_K (dC, dI) vwCl [(cI, .int), (cZ, .boolean)] t ∧ va_D (va_A [(q_this, .inr (5, [.ref q_seenBy, .ref q_seenCame, .ref q_entryHouse, .ref q_entryAmount, .int v_seen, .int v_entries])), (q_seenBy, .inl (cI, 6, .inl v_seenBy)), (q_seenCame, .inl (cZ, 6, .inl v_seenCame))] sz) [(q_this, .inr (5, [.ref q_seenBy, .ref q_seenCame, .ref q_entryHouse, .ref q_entryAmount, .int out.2.1, .int v_entries])), (q_seenBy, .inl (cI, 6, .inl out.2.2.1)), (q_seenCame, .inl (cZ, 6, .inl out.2.2.2))]) (va_A [(q_this, .inr (5, [.ref q_seenBy, .ref q_seenCame, .ref q_entryHouse, .ref q_entryAmount, .int v_seen, .int v_entries])), (q_seenBy, .inl (cI, 6, .inl v_seenBy)), (q_seenCame, .inl (cZ, 6, .inl v_seenCame))] sz)) 0 0 (va_A [(q_this, .inr (5, [.ref q_seenBy, .ref q_seenCame, .ref q_entryHouse, .ref q_entryAmount, .int v_seen, .int v_entries])), (q_seenBy, .inl (cI, 6, .inl v_seenBy)), (q_seenCame, .inl (cZ, 6, .inl v_seenCame))] sz) := by
  refine Met.ofW (cc := cX5_addSeen) (maxL := 3) (ret := (some .boolean)) (by decide) rfl ?_
  intro p e s m args below meth c s₁ B hml hv
  obtain ⟨rfl, hsz, hP, hK, hD0⟩ := hv
  have hx := B.exec
  have hb := B.bytes
  have hr := B.returns
  have hts := atoms_spec (ws := wsX5_addSeen) B.pre
  have hown : s.vm.findClass RX5 = some m.cls := findClass_of_methodNamed B.named
  have hlocks := B.notSynchronized
  subst hsz
  have hD := hD0.self (sz := s.heap.size)
  generalize hAe : va_A [(q_this, .inr (5, [.ref q_seenBy, .ref q_seenCame, .ref q_entryHouse, .ref q_entryAmount, .int v_seen, .int v_entries])), (q_seenBy, .inl (cI, 6, .inl v_seenBy)), (q_seenCame, .inl (cZ, 6, .inl v_seenCame))] s.heap.size = A at hD ⊢
  have hA : ∀ q : Nat, s.heap.size ≤ q → A q := fun q h => by rw [← hAe]; exact Or.inr h
  have hS : va_S A s.heap s.heap [] := va_S.rf
  have hl := lv_entry ([.ref q_this, .int a1, .int a2]) (n := 3) (Nat.le_of_ble_eq_true rfl)
  rw [lg_entry_eq]
  generalize (lg_sl ([.ref q_this, .int a1, .int a2]) ++ List.replicate (3 - (lg_sl ([.ref q_this, .int a1, .int a2])).length) Slot.unset).toArray = ls at hl ⊢
  have hl : lv_has ls 3 [(0, .ref q_this), (1, .int a1), (2, .int a2)] := hl
  unfold fX5_addSeen at hrun
  have hk25 := hts (.fieldLink RX5 25 "LentDrains$Notes" "seen" "I") (by decide +kernel)
  have hiX5 : ∀ w ∈ wsX50, w ∈ wsX5_addSeen := by decide +kernel
  have hk11 := hts (.fieldLink RX5 11 "LentDrains$Notes" "seenBy" "[I") (by decide +kernel)
  have hk15 := hts (.fieldLink RX5 15 "LentDrains$Notes" "seenCame" "[Z") (by decide +kernel)
  refine oz_genQ (fun Q hQ => ?_)
  refine lv_aload_n hx hb dX5_addSeen_0 rfl (lv_at hl 0 rfl) ?_
  refine va_get (D := (dC, dI)) (ci := 5) (v := .int v_seen) (C := RX5) (T := TX5) (N := 6) hx hb hts hiX5 hown hK hP 0 rfl rfl 4 (by decide) hk25 (fun _ h9 => h9) rfl dX5_addSeen_1 ?_
  refine lv_bipush (v := 6) hx hb dX5_addSeen_4 (by decide) ?_
  refine lv_icmp_lt (tgt := 11) hx hb dX5_addSeen_6 (by decide) (fun c1 => ?_) (fun c1 => ?_)
  · have hrun := oz_t hrun c1
    refine lv_aload_n hx hb dX5_addSeen_11 rfl (lv_at hl 0 rfl) ?_
    refine va_get (D := (dC, dI)) (ci := 5) (v := .ref q_seenBy) (C := RX5) (T := TX5) (N := 6) hx hb hts hiX5 hown hK hP 0 rfl rfl 0 (by decide) hk11 (fun _ h9 => h9) rfl dX5_addSeen_12 ?_
    refine lv_aload_n hx hb dX5_addSeen_15 rfl (lv_at hl 0 rfl) ?_
    refine va_get (D := (dC, dI)) (ci := 5) (v := .int v_seen) (C := RX5) (T := TX5) (N := 6) hx hb hts hiX5 hown hK hP 0 rfl rfl 4 (by decide) hk25 (fun _ h9 => h9) rfl dX5_addSeen_16 ?_
    refine lv_iload_n hx hb dX5_addSeen_19 rfl (lv_at hl 1 rfl) ?_
    obtain ⟨c2, hrun⟩ := oz_chk hrun
    refine va_iast hx hb hK hP hD hS 1 0 rfl rfl c2 dX5_addSeen_20 (fun H locs hP hD hS => ?_)
    have hP : va_P (dC, dI) vwCl [(q_this, .inr (5, [.ref q_seenBy, .ref q_seenCame, .ref q_entryHouse, .ref q_entryAmount, .int v_seen, .int v_entries])), (q_seenBy, .inl (cI, 6, .inl (upd v_seenBy (Int32.toNatClampNeg v_seen) a1))), (q_seenCame, .inl (cZ, 6, .inl v_seenCame))] H := hP
    have hD : va_D A [(q_this, .inr (5, [.ref q_seenBy, .ref q_seenCame, .ref q_entryHouse, .ref q_entryAmount, .int v_seen, .int v_entries])), (q_seenBy, .inl (cI, 6, .inl (upd v_seenBy (Int32.toNatClampNeg v_seen) a1))), (q_seenCame, .inl (cZ, 6, .inl v_seenCame))] := hD
    refine lv_aload_n hx hb dX5_addSeen_21 rfl (lv_at hl 0 rfl) ?_
    refine va_get (D := (dC, dI)) (ci := 5) (v := .ref q_seenCame) (C := RX5) (T := TX5) (N := 6) hx hb hts hiX5 hown hK hP 0 rfl rfl 1 (by decide) hk15 (fun _ h9 => h9) rfl dX5_addSeen_22 ?_
    refine lv_aload_n hx hb dX5_addSeen_25 rfl (lv_at hl 0 rfl) ?_
    refine va_get (D := (dC, dI)) (ci := 5) (v := .int v_seen) (C := RX5) (T := TX5) (N := 6) hx hb hts hiX5 hown hK hP 0 rfl rfl 4 (by decide) hk25 (fun _ h9 => h9) rfl dX5_addSeen_26 ?_
    refine lv_iload_n hx hb dX5_addSeen_29 rfl (lv_at hl 2 rfl) ?_
    refine va_zast hx hb hK hP hD hS 2 1 rfl rfl c2 dX5_addSeen_30 (fun H locs hP hD hS => ?_)
    have hP : va_P (dC, dI) vwCl [(q_this, .inr (5, [.ref q_seenBy, .ref q_seenCame, .ref q_entryHouse, .ref q_entryAmount, .int v_seen, .int v_entries])), (q_seenBy, .inl (cI, 6, .inl (upd v_seenBy (Int32.toNatClampNeg v_seen) a1))), (q_seenCame, .inl (cZ, 6, .inl (upd v_seenCame (Int32.toNatClampNeg v_seen) (vp_nar .boolean a2))))] H := hP
    have hD : va_D A [(q_this, .inr (5, [.ref q_seenBy, .ref q_seenCame, .ref q_entryHouse, .ref q_entryAmount, .int v_seen, .int v_entries])), (q_seenBy, .inl (cI, 6, .inl (upd v_seenBy (Int32.toNatClampNeg v_seen) a1))), (q_seenCame, .inl (cZ, 6, .inl (upd v_seenCame (Int32.toNatClampNeg v_seen) (vp_nar .boolean a2))))] := hD
    refine lv_aload_n hx hb dX5_addSeen_31 rfl (lv_at hl 0 rfl) ?_
    refine lv_dup hx hb dX5_addSeen_32 rfl ?_
    refine va_get (D := (dC, dI)) (ci := 5) (v := .int v_seen) (C := RX5) (T := TX5) (N := 6) hx hb hts hiX5 hown hK hP 0 rfl rfl 4 (by decide) hk25 (fun _ h9 => h9) rfl dX5_addSeen_33 ?_
    refine lv_iconst (v := 1) hx hb dX5_addSeen_36 (by decide) ?_
    refine lv_iadd hx hb dX5_addSeen_37 ?_
    refine va_put (D := (dC, dI)) (ci := 5) (v := .int (v_seen + 1)) (ty := .int) (C := RX5) (T := TX5) (N := 6) hx hb hts hiX5 tyX5 tyX5_ok nmX5 hown hK hP hD hS 0 rfl rfl 4 (by decide) hk25 (fun _ h9 => h9) rfl (by decide +kernel) rfl rfl (Nat.le_of_ble_eq_true rfl) dX5_addSeen_38 (fun H locs hP hD hS => ?_)
    have hP : va_P (dC, dI) vwCl [(q_this, .inr (5, [.ref q_seenBy, .ref q_seenCame, .ref q_entryHouse, .ref q_entryAmount, .int (v_seen + 1), .int v_entries])), (q_seenBy, .inl (cI, 6, .inl (upd v_seenBy (Int32.toNatClampNeg v_seen) a1))), (q_seenCame, .inl (cZ, 6, .inl (upd v_seenCame (Int32.toNatClampNeg v_seen) (vp_nar .boolean a2))))] H := hP
    have hD : va_D A [(q_this, .inr (5, [.ref q_seenBy, .ref q_seenCame, .ref q_entryHouse, .ref q_entryAmount, .int (v_seen + 1), .int v_entries])), (q_seenBy, .inl (cI, 6, .inl (upd v_seenBy (Int32.toNatClampNeg v_seen) a1))), (q_seenCame, .inl (cZ, 6, .inl (upd v_seenCame (Int32.toNatClampNeg v_seen) (vp_nar .boolean a2))))] := hD
    refine lv_iconst (v := 1) hx hb dX5_addSeen_41 (by decide) ?_
    have ho9 := Option.some.inj hrun
    subst ho9
    have hP9 := hP.sub (ws' := [(q_this, .inr (5, [.ref q_seenBy, .ref q_seenCame, .ref q_entryHouse, .ref q_entryAmount, .int (v_seen + 1), .int v_entries])), (q_seenBy, .inl (cI, 6, .inl (upd v_seenBy (Int32.toNatClampNeg v_seen) a1))), (q_seenCame, .inl (cZ, 6, .inl (upd v_seenCame (Int32.toNatClampNeg v_seen) (vp_nar .boolean a2))))]) [0, 1, 2] rfl
    have hD9 := hD.sub (ws' := [(q_this, .inr (5, [.ref q_seenBy, .ref q_seenCame, .ref q_entryHouse, .ref q_entryAmount, .int (v_seen + 1), .int v_entries])), (q_seenBy, .inl (cI, 6, .inl (upd v_seenBy (Int32.toNatClampNeg v_seen) a1))), (q_seenCame, .inl (cZ, 6, .inl (upd v_seenCame (Int32.toNatClampNeg v_seen) (vp_nar .boolean a2))))]) [0, 1, 2] (by decide) rfl
    rw [hQ]
    exact W.zret (v := 1) (ty := .boolean) hx hb hr rfl (fun t ht hW => ⟨⟨1, (), rfl, rfl, by rw [ht]; exact hP9, va_K.moved hW.alike hK, hD9⟩, hS.F ht⟩) hS.2.2 dX5_addSeen_42
  · have hrun := oz_f hrun c1
    refine lv_iconst (v := 0) hx hb dX5_addSeen_9 (by decide) ?_
    have ho9 := Option.some.inj hrun
    subst ho9
    have hP9 := hP.sub (ws' := [(q_this, .inr (5, [.ref q_seenBy, .ref q_seenCame, .ref q_entryHouse, .ref q_entryAmount, .int v_seen, .int v_entries])), (q_seenBy, .inl (cI, 6, .inl v_seenBy)), (q_seenCame, .inl (cZ, 6, .inl v_seenCame))]) [0, 1, 2] rfl
    have hD9 := hD.sub (ws' := [(q_this, .inr (5, [.ref q_seenBy, .ref q_seenCame, .ref q_entryHouse, .ref q_entryAmount, .int v_seen, .int v_entries])), (q_seenBy, .inl (cI, 6, .inl v_seenBy)), (q_seenCame, .inl (cZ, 6, .inl v_seenCame))]) [0, 1, 2] (by decide) rfl
    rw [hQ]
    exact W.zret (v := 0) (ty := .boolean) hx hb hr rfl (fun t ht hW => ⟨⟨0, (), rfl, rfl, by rw [ht]; exact hP9, va_K.moved hW.alike hK, hD9⟩, hS.F ht⟩) hS.2.2 dX5_addSeen_10
def fX5_addEntry (v_entries : Int32) (v_entryHouse : Nat → Int32) (v_entryAmount : Nat → Int32) (a1 : Int32) (a2 : Int32) : Option (Int32 × Int32 × (Nat → Int32) × (Nat → Int32)) :=
  if v_entries < 20 then (if (v_entries < 0 ∨ 20 ≤ Int32.toNatClampNeg v_entries) then none else some (1, (v_entries + 1), (upd v_entryHouse (Int32.toNatClampNeg v_entries) a1), (upd v_entryAmount (Int32.toNatClampNeg v_entries) a2))) else (some (0, v_entries, v_entryHouse, v_entryAmount))
def rmX5_addEntry : Room := { frames := 0, cells := 0, slots := 0, locals := 0 }
set_option maxHeartbeats 4000000 in
set_option maxRecDepth 100000 in
theorem tX5_addEntry (l : Launch) (dC : Nat → ClassId) (dI : Nat → Nat → Nat) (cI cZ : ClassId) (q_entryAmount q_entryHouse q_seenBy q_seenCame q_this : Nat) (sz : Nat) (v_seen : Int32) (v_entries : Int32) (v_entryHouse : Nat → Int32) (v_entryAmount : Nat → Int32) (a1 : Int32) (a2 : Int32) (out : Int32 × Int32 × (Nat → Int32) × (Nat → Int32)) (hrun : fX5_addEntry v_entries v_entryHouse v_entryAmount a1 a2 = some out) : Met l yX5_addEntry wsX5_addEntry rmX5_addEntry (va_Pc [.ref q_this, .int a1, .int a2] (fun U => U.heap.size = sz ∧ va_P (dC, dI) vwCl [(q_this, .inr (5, [.ref q_seenBy, .ref q_seenCame, .ref q_entryHouse, .ref q_entryAmount, .int v_seen, .int v_entries])), (q_entryHouse, .inl (cI, 20, .inl v_entryHouse)), (q_entryAmount, .inl (cI, 20, .inl v_entryAmount))] U.heap ∧ va_K (dC, dI) vwCl [(cI, .int), (cZ, .boolean)] U ∧ va_D (fun _ => True) [(q_this, .inr (5, [.ref q_seenBy, .ref q_seenCame, .ref q_entryHouse, .ref q_entryAmount, .int v_seen, .int v_entries])), (q_entryHouse, .inl (cI, 20, .inl v_entryHouse)), (q_entryAmount, .inl (cI, 20, .inl v_entryAmount))])) (va_Qi (fun (r : Int32) (_ : Unit) => r = out.1) (fun _ t => va_P (dC, dI) vwCl [(q_this, .inr (5, [.ref q_seenBy, .ref q_seenCame, .ref q_entryHouse, .ref q_entryAmount, .int v_seen, .int out.2.1])), (q_entryHouse, .inl (cI, 20, .inl out.2.2.1)), (q_entryAmount, .inl (cI, 20, .inl out.2.2.2))] t.heap ∧ va_K (dC, dI) vwCl [(cI, .int), (cZ, .boolean)] t ∧ va_D (va_A [(q_this, .inr (5, [.ref q_seenBy, .ref q_seenCame, .ref q_entryHouse, .ref q_entryAmount, .int v_seen, .int v_entries])), (q_entryHouse, .inl (cI, 20, .inl v_entryHouse)), (q_entryAmount, .inl (cI, 20, .inl v_entryAmount))] sz) [(q_this, .inr (5, [.ref q_seenBy, .ref q_seenCame, .ref q_entryHouse, .ref q_entryAmount, .int v_seen, .int out.2.1])), (q_entryHouse, .inl (cI, 20, .inl out.2.2.1)), (q_entryAmount, .inl (cI, 20, .inl out.2.2.2))]) (va_A [(q_this, .inr (5, [.ref q_seenBy, .ref q_seenCame, .ref q_entryHouse, .ref q_entryAmount, .int v_seen, .int v_entries])), (q_entryHouse, .inl (cI, 20, .inl v_entryHouse)), (q_entryAmount, .inl (cI, 20, .inl v_entryAmount))] sz)) 0 0 (va_A [(q_this, .inr (5, [.ref q_seenBy, .ref q_seenCame, .ref q_entryHouse, .ref q_entryAmount, .int v_seen, .int v_entries])), (q_entryHouse, .inl (cI, 20, .inl v_entryHouse)), (q_entryAmount, .inl (cI, 20, .inl v_entryAmount))] sz) := by
  refine Met.ofW (cc := cX5_addEntry) (maxL := 3) (ret := (some .boolean)) (by decide) rfl ?_
  intro p e s m args below meth c s₁ B hml hv
  obtain ⟨rfl, hsz, hP, hK, hD0⟩ := hv
  have hx := B.exec
  have hb := B.bytes
  have hr := B.returns
  have hts := atoms_spec (ws := wsX5_addEntry) B.pre
  have hown : s.vm.findClass RX5 = some m.cls := findClass_of_methodNamed B.named
  have hlocks := B.notSynchronized
  subst hsz
  have hD := hD0.self (sz := s.heap.size)
  generalize hAe : va_A [(q_this, .inr (5, [.ref q_seenBy, .ref q_seenCame, .ref q_entryHouse, .ref q_entryAmount, .int v_seen, .int v_entries])), (q_entryHouse, .inl (cI, 20, .inl v_entryHouse)), (q_entryAmount, .inl (cI, 20, .inl v_entryAmount))] s.heap.size = A at hD ⊢
  have hA : ∀ q : Nat, s.heap.size ≤ q → A q := fun q h => by rw [← hAe]; exact Or.inr h
  have hS : va_S A s.heap s.heap [] := va_S.rf
  have hl := lv_entry ([.ref q_this, .int a1, .int a2]) (n := 3) (Nat.le_of_ble_eq_true rfl)
  rw [lg_entry_eq]
  generalize (lg_sl ([.ref q_this, .int a1, .int a2]) ++ List.replicate (3 - (lg_sl ([.ref q_this, .int a1, .int a2])).length) Slot.unset).toArray = ls at hl ⊢
  have hl : lv_has ls 3 [(0, .ref q_this), (1, .int a1), (2, .int a2)] := hl
  unfold fX5_addEntry at hrun
  have hk29 := hts (.fieldLink RX5 29 "LentDrains$Notes" "entries" "I") (by decide +kernel)
  have hiX5 : ∀ w ∈ wsX50, w ∈ wsX5_addEntry := by decide +kernel
  have hk19 := hts (.fieldLink RX5 19 "LentDrains$Notes" "entryHouse" "[I") (by decide +kernel)
  have hk22 := hts (.fieldLink RX5 22 "LentDrains$Notes" "entryAmount" "[I") (by decide +kernel)
  refine oz_genQ (fun Q hQ => ?_)
  refine lv_aload_n hx hb dX5_addEntry_0 rfl (lv_at hl 0 rfl) ?_
  refine va_get (D := (dC, dI)) (ci := 5) (v := .int v_entries) (C := RX5) (T := TX5) (N := 6) hx hb hts hiX5 hown hK hP 0 rfl rfl 5 (by decide) hk29 (fun _ h9 => h9) rfl dX5_addEntry_1 ?_
  refine lv_bipush (v := 20) hx hb dX5_addEntry_4 (by decide) ?_
  refine lv_icmp_lt (tgt := 11) hx hb dX5_addEntry_6 (by decide) (fun c1 => ?_) (fun c1 => ?_)
  · have hrun := oz_t hrun c1
    refine lv_aload_n hx hb dX5_addEntry_11 rfl (lv_at hl 0 rfl) ?_
    refine va_get (D := (dC, dI)) (ci := 5) (v := .ref q_entryHouse) (C := RX5) (T := TX5) (N := 6) hx hb hts hiX5 hown hK hP 0 rfl rfl 2 (by decide) hk19 (fun _ h9 => h9) rfl dX5_addEntry_12 ?_
    refine lv_aload_n hx hb dX5_addEntry_15 rfl (lv_at hl 0 rfl) ?_
    refine va_get (D := (dC, dI)) (ci := 5) (v := .int v_entries) (C := RX5) (T := TX5) (N := 6) hx hb hts hiX5 hown hK hP 0 rfl rfl 5 (by decide) hk29 (fun _ h9 => h9) rfl dX5_addEntry_16 ?_
    refine lv_iload_n hx hb dX5_addEntry_19 rfl (lv_at hl 1 rfl) ?_
    obtain ⟨c2, hrun⟩ := oz_chk hrun
    refine va_iast hx hb hK hP hD hS 1 0 rfl rfl c2 dX5_addEntry_20 (fun H locs hP hD hS => ?_)
    have hP : va_P (dC, dI) vwCl [(q_this, .inr (5, [.ref q_seenBy, .ref q_seenCame, .ref q_entryHouse, .ref q_entryAmount, .int v_seen, .int v_entries])), (q_entryHouse, .inl (cI, 20, .inl (upd v_entryHouse (Int32.toNatClampNeg v_entries) a1))), (q_entryAmount, .inl (cI, 20, .inl v_entryAmount))] H := hP
    have hD : va_D A [(q_this, .inr (5, [.ref q_seenBy, .ref q_seenCame, .ref q_entryHouse, .ref q_entryAmount, .int v_seen, .int v_entries])), (q_entryHouse, .inl (cI, 20, .inl (upd v_entryHouse (Int32.toNatClampNeg v_entries) a1))), (q_entryAmount, .inl (cI, 20, .inl v_entryAmount))] := hD
    refine lv_aload_n hx hb dX5_addEntry_21 rfl (lv_at hl 0 rfl) ?_
    refine va_get (D := (dC, dI)) (ci := 5) (v := .ref q_entryAmount) (C := RX5) (T := TX5) (N := 6) hx hb hts hiX5 hown hK hP 0 rfl rfl 3 (by decide) hk22 (fun _ h9 => h9) rfl dX5_addEntry_22 ?_
    refine lv_aload_n hx hb dX5_addEntry_25 rfl (lv_at hl 0 rfl) ?_
    refine va_get (D := (dC, dI)) (ci := 5) (v := .int v_entries) (C := RX5) (T := TX5) (N := 6) hx hb hts hiX5 hown hK hP 0 rfl rfl 5 (by decide) hk29 (fun _ h9 => h9) rfl dX5_addEntry_26 ?_
    refine lv_iload_n hx hb dX5_addEntry_29 rfl (lv_at hl 2 rfl) ?_
    refine va_iast hx hb hK hP hD hS 2 0 rfl rfl c2 dX5_addEntry_30 (fun H locs hP hD hS => ?_)
    have hP : va_P (dC, dI) vwCl [(q_this, .inr (5, [.ref q_seenBy, .ref q_seenCame, .ref q_entryHouse, .ref q_entryAmount, .int v_seen, .int v_entries])), (q_entryHouse, .inl (cI, 20, .inl (upd v_entryHouse (Int32.toNatClampNeg v_entries) a1))), (q_entryAmount, .inl (cI, 20, .inl (upd v_entryAmount (Int32.toNatClampNeg v_entries) a2)))] H := hP
    have hD : va_D A [(q_this, .inr (5, [.ref q_seenBy, .ref q_seenCame, .ref q_entryHouse, .ref q_entryAmount, .int v_seen, .int v_entries])), (q_entryHouse, .inl (cI, 20, .inl (upd v_entryHouse (Int32.toNatClampNeg v_entries) a1))), (q_entryAmount, .inl (cI, 20, .inl (upd v_entryAmount (Int32.toNatClampNeg v_entries) a2)))] := hD
    refine lv_aload_n hx hb dX5_addEntry_31 rfl (lv_at hl 0 rfl) ?_
    refine lv_dup hx hb dX5_addEntry_32 rfl ?_
    refine va_get (D := (dC, dI)) (ci := 5) (v := .int v_entries) (C := RX5) (T := TX5) (N := 6) hx hb hts hiX5 hown hK hP 0 rfl rfl 5 (by decide) hk29 (fun _ h9 => h9) rfl dX5_addEntry_33 ?_
    refine lv_iconst (v := 1) hx hb dX5_addEntry_36 (by decide) ?_
    refine lv_iadd hx hb dX5_addEntry_37 ?_
    refine va_put (D := (dC, dI)) (ci := 5) (v := .int (v_entries + 1)) (ty := .int) (C := RX5) (T := TX5) (N := 6) hx hb hts hiX5 tyX5 tyX5_ok nmX5 hown hK hP hD hS 0 rfl rfl 5 (by decide) hk29 (fun _ h9 => h9) rfl (by decide +kernel) rfl rfl (Nat.le_of_ble_eq_true rfl) dX5_addEntry_38 (fun H locs hP hD hS => ?_)
    have hP : va_P (dC, dI) vwCl [(q_this, .inr (5, [.ref q_seenBy, .ref q_seenCame, .ref q_entryHouse, .ref q_entryAmount, .int v_seen, .int (v_entries + 1)])), (q_entryHouse, .inl (cI, 20, .inl (upd v_entryHouse (Int32.toNatClampNeg v_entries) a1))), (q_entryAmount, .inl (cI, 20, .inl (upd v_entryAmount (Int32.toNatClampNeg v_entries) a2)))] H := hP
    have hD : va_D A [(q_this, .inr (5, [.ref q_seenBy, .ref q_seenCame, .ref q_entryHouse, .ref q_entryAmount, .int v_seen, .int (v_entries + 1)])), (q_entryHouse, .inl (cI, 20, .inl (upd v_entryHouse (Int32.toNatClampNeg v_entries) a1))), (q_entryAmount, .inl (cI, 20, .inl (upd v_entryAmount (Int32.toNatClampNeg v_entries) a2)))] := hD
    refine lv_iconst (v := 1) hx hb dX5_addEntry_41 (by decide) ?_
    have ho9 := Option.some.inj hrun
    subst ho9
    have hP9 := hP.sub (ws' := [(q_this, .inr (5, [.ref q_seenBy, .ref q_seenCame, .ref q_entryHouse, .ref q_entryAmount, .int v_seen, .int (v_entries + 1)])), (q_entryHouse, .inl (cI, 20, .inl (upd v_entryHouse (Int32.toNatClampNeg v_entries) a1))), (q_entryAmount, .inl (cI, 20, .inl (upd v_entryAmount (Int32.toNatClampNeg v_entries) a2)))]) [0, 1, 2] rfl
    have hD9 := hD.sub (ws' := [(q_this, .inr (5, [.ref q_seenBy, .ref q_seenCame, .ref q_entryHouse, .ref q_entryAmount, .int v_seen, .int (v_entries + 1)])), (q_entryHouse, .inl (cI, 20, .inl (upd v_entryHouse (Int32.toNatClampNeg v_entries) a1))), (q_entryAmount, .inl (cI, 20, .inl (upd v_entryAmount (Int32.toNatClampNeg v_entries) a2)))]) [0, 1, 2] (by decide) rfl
    rw [hQ]
    exact W.zret (v := 1) (ty := .boolean) hx hb hr rfl (fun t ht hW => ⟨⟨1, (), rfl, rfl, by rw [ht]; exact hP9, va_K.moved hW.alike hK, hD9⟩, hS.F ht⟩) hS.2.2 dX5_addEntry_42
  · have hrun := oz_f hrun c1
    refine lv_iconst (v := 0) hx hb dX5_addEntry_9 (by decide) ?_
    have ho9 := Option.some.inj hrun
    subst ho9
    have hP9 := hP.sub (ws' := [(q_this, .inr (5, [.ref q_seenBy, .ref q_seenCame, .ref q_entryHouse, .ref q_entryAmount, .int v_seen, .int v_entries])), (q_entryHouse, .inl (cI, 20, .inl v_entryHouse)), (q_entryAmount, .inl (cI, 20, .inl v_entryAmount))]) [0, 1, 2] rfl
    have hD9 := hD.sub (ws' := [(q_this, .inr (5, [.ref q_seenBy, .ref q_seenCame, .ref q_entryHouse, .ref q_entryAmount, .int v_seen, .int v_entries])), (q_entryHouse, .inl (cI, 20, .inl v_entryHouse)), (q_entryAmount, .inl (cI, 20, .inl v_entryAmount))]) [0, 1, 2] (by decide) rfl
    rw [hQ]
    exact W.zret (v := 0) (ty := .boolean) hx hb hr rfl (fun t ht hW => ⟨⟨0, (), rfl, rfl, by rw [ht]; exact hP9, va_K.moved hW.alike hK, hD9⟩, hS.F ht⟩) hS.2.2 dX5_addEntry_10
def fX5_fitting_b11 (v_seen : Int32) (v_seenBy : Nat → Int32) (v_seenCame : Nat → Int32) (v_p1_houses : Int32) (v_p1_above : Nat → Int32) (w11 : Int32 × Int32) : Option ((Int32 × Int32) ⊕ (Int32 × Int32)) :=
  if v_seen ≤ w11.1 then (some (.inr (w11.1, w11.2))) else (if (w11.1 < 0 ∨ 6 ≤ Int32.toNatClampNeg w11.1) then none else Option.bind (fX6_has v_p1_houses (v_seenBy (Int32.toNatClampNeg w11.1))) (fun y26 => if y26 = 0 then (some (.inl ((w11.1 + 1), w11.2))) else (if ((v_seenBy (Int32.toNatClampNeg w11.1)) < 0 ∨ 8 ≤ Int32.toNatClampNeg (v_seenBy (Int32.toNatClampNeg w11.1))) then none else if (v_seenCame (Int32.toNatClampNeg w11.1)) = 0 then (some (.inl ((w11.1 + 1), (w11.2 &&& ((v_p1_above (Int32.toNatClampNeg (v_seenBy (Int32.toNatClampNeg w11.1)))) ^^^ (-1)))))) else (some (.inl ((w11.1 + 1), (w11.2 &&& (v_p1_above (Int32.toNatClampNeg (v_seenBy (Int32.toNatClampNeg w11.1)))))))))))
def fX5_fitting (v_seen : Int32) (v_seenBy : Nat → Int32) (v_seenCame : Nat → Int32) (v_p1_houses : Int32) (v_p1_above : Nat → Int32) : Option (Int32) :=
  Option.bind (oz_loop (fX5_fitting_b11 v_seen v_seenBy v_seenCame v_p1_houses v_p1_above) oz_fuel (0, ((1 <<< (v_p1_houses &&& 31)) - 1))) (fun o11 => some o11.2)
def rmX5_fitting : Room := { frames := 1, cells := 0, slots := 0, locals := 21 }
set_option maxHeartbeats 4000000 in
set_option maxRecDepth 100000 in
theorem tX5_fitting (l : Launch) (dC : Nat → ClassId) (dI : Nat → Nat → Nat) (cI cZ : ClassId) (q_entryAmount q_entryHouse q_p1 q_p1_above q_p1_daily q_p1_drain q_p1_room q_seenBy q_seenCame q_this : Nat) (sz : Nat) (v_entries : Int32) (v_p1_stands : Int32) (v_p1_lent : Int32) (v_p1_pipe : Int32) (v_seen : Int32) (v_seenBy : Nat → Int32) (v_seenCame : Nat → Int32) (v_p1_houses : Int32) (v_p1_above : Nat → Int32) (out : Int32) (hrun : fX5_fitting v_seen v_seenBy v_seenCame v_p1_houses v_p1_above = some out) : Met l yX5_fitting wsX5_fitting rmX5_fitting (va_Pc [.ref q_this, .ref q_p1] (fun U => U.heap.size = sz ∧ va_P (dC, dI) vwCl [(q_this, .inr (5, [.ref q_seenBy, .ref q_seenCame, .ref q_entryHouse, .ref q_entryAmount, .int v_seen, .int v_entries])), (q_seenBy, .inl (cI, 6, .inl v_seenBy)), (q_seenCame, .inl (cZ, 6, .inl v_seenCame)), (q_p1, .inr (6, [.int v_p1_stands, .int v_p1_lent, .int v_p1_pipe, .int v_p1_houses, .ref q_p1_room, .ref q_p1_daily, .ref q_p1_drain, .ref q_p1_above])), (q_p1_above, .inl (cI, 8, .inl v_p1_above))] U.heap ∧ va_K (dC, dI) vwCl [(cI, .int), (cZ, .boolean)] U ∧ va_D (fun _ => True) [(q_this, .inr (5, [.ref q_seenBy, .ref q_seenCame, .ref q_entryHouse, .ref q_entryAmount, .int v_seen, .int v_entries])), (q_seenBy, .inl (cI, 6, .inl v_seenBy)), (q_seenCame, .inl (cZ, 6, .inl v_seenCame)), (q_p1, .inr (6, [.int v_p1_stands, .int v_p1_lent, .int v_p1_pipe, .int v_p1_houses, .ref q_p1_room, .ref q_p1_daily, .ref q_p1_drain, .ref q_p1_above])), (q_p1_above, .inl (cI, 8, .inl v_p1_above))])) (va_Qi (fun (r : Int32) (_ : Unit) => r = out) (fun _ t => va_P (dC, dI) vwCl [(q_this, .inr (5, [.ref q_seenBy, .ref q_seenCame, .ref q_entryHouse, .ref q_entryAmount, .int v_seen, .int v_entries])), (q_seenBy, .inl (cI, 6, .inl v_seenBy)), (q_seenCame, .inl (cZ, 6, .inl v_seenCame)), (q_p1, .inr (6, [.int v_p1_stands, .int v_p1_lent, .int v_p1_pipe, .int v_p1_houses, .ref q_p1_room, .ref q_p1_daily, .ref q_p1_drain, .ref q_p1_above])), (q_p1_above, .inl (cI, 8, .inl v_p1_above))] t.heap ∧ va_K (dC, dI) vwCl [(cI, .int), (cZ, .boolean)] t ∧ va_D (va_A [(q_this, .inr (5, [.ref q_seenBy, .ref q_seenCame, .ref q_entryHouse, .ref q_entryAmount, .int v_seen, .int v_entries])), (q_seenBy, .inl (cI, 6, .inl v_seenBy)), (q_seenCame, .inl (cZ, 6, .inl v_seenCame)), (q_p1, .inr (6, [.int v_p1_stands, .int v_p1_lent, .int v_p1_pipe, .int v_p1_houses, .ref q_p1_room, .ref q_p1_daily, .ref q_p1_drain, .ref q_p1_above])), (q_p1_above, .inl (cI, 8, .inl v_p1_above))] sz) [(q_this, .inr (5, [.ref q_seenBy, .ref q_seenCame, .ref q_entryHouse, .ref q_entryAmount, .int v_seen, .int v_entries])), (q_seenBy, .inl (cI, 6, .inl v_seenBy)), (q_seenCame, .inl (cZ, 6, .inl v_seenCame)), (q_p1, .inr (6, [.int v_p1_stands, .int v_p1_lent, .int v_p1_pipe, .int v_p1_houses, .ref q_p1_room, .ref q_p1_daily, .ref q_p1_drain, .ref q_p1_above])), (q_p1_above, .inl (cI, 8, .inl v_p1_above))]) (va_A [(q_this, .inr (5, [.ref q_seenBy, .ref q_seenCame, .ref q_entryHouse, .ref q_entryAmount, .int v_seen, .int v_entries])), (q_seenBy, .inl (cI, 6, .inl v_seenBy)), (q_seenCame, .inl (cZ, 6, .inl v_seenCame)), (q_p1, .inr (6, [.int v_p1_stands, .int v_p1_lent, .int v_p1_pipe, .int v_p1_houses, .ref q_p1_room, .ref q_p1_daily, .ref q_p1_drain, .ref q_p1_above])), (q_p1_above, .inl (cI, 8, .inl v_p1_above))] sz)) 0 0 (va_A [(q_this, .inr (5, [.ref q_seenBy, .ref q_seenCame, .ref q_entryHouse, .ref q_entryAmount, .int v_seen, .int v_entries])), (q_seenBy, .inl (cI, 6, .inl v_seenBy)), (q_seenCame, .inl (cZ, 6, .inl v_seenCame)), (q_p1, .inr (6, [.int v_p1_stands, .int v_p1_lent, .int v_p1_pipe, .int v_p1_houses, .ref q_p1_room, .ref q_p1_daily, .ref q_p1_drain, .ref q_p1_above])), (q_p1_above, .inl (cI, 8, .inl v_p1_above))] sz) := by
  refine Met.ofW (cc := cX5_fitting) (maxL := 5) (ret := (some .int)) (by decide) rfl ?_
  intro p e s m args below meth c s₁ B hml hv
  obtain ⟨rfl, hsz, hP, hK, hD0⟩ := hv
  have hx := B.exec
  have hb := B.bytes
  have hr := B.returns
  have hts := atoms_spec (ws := wsX5_fitting) B.pre
  have hown : s.vm.findClass RX5 = some m.cls := findClass_of_methodNamed B.named
  have hlocks := B.notSynchronized
  subst hsz
  have hD := hD0.self (sz := s.heap.size)
  generalize hAe : va_A [(q_this, .inr (5, [.ref q_seenBy, .ref q_seenCame, .ref q_entryHouse, .ref q_entryAmount, .int v_seen, .int v_entries])), (q_seenBy, .inl (cI, 6, .inl v_seenBy)), (q_seenCame, .inl (cZ, 6, .inl v_seenCame)), (q_p1, .inr (6, [.int v_p1_stands, .int v_p1_lent, .int v_p1_pipe, .int v_p1_houses, .ref q_p1_room, .ref q_p1_daily, .ref q_p1_drain, .ref q_p1_above])), (q_p1_above, .inl (cI, 8, .inl v_p1_above))] s.heap.size = A at hD ⊢
  have hA : ∀ q : Nat, s.heap.size ≤ q → A q := fun q h => by rw [← hAe]; exact Or.inr h
  have hS : va_S A s.heap s.heap [] := va_S.rf
  have hl := lv_entry ([.ref q_this, .ref q_p1]) (n := 5) (Nat.le_of_ble_eq_true rfl)
  rw [lg_entry_eq]
  generalize (lg_sl ([.ref q_this, .ref q_p1]) ++ List.replicate (5 - (lg_sl ([.ref q_this, .ref q_p1])).length) Slot.unset).toArray = ls at hl ⊢
  have hl : lv_has ls 5 [(0, .ref q_this), (1, .ref q_p1)] := hl
  unfold fX5_fitting at hrun
  have hk32 := hts (.fieldLink RX5 32 "LentDrains$Plan" "houses" "I") (by decide +kernel)
  have hiX6 : ∀ w ∈ wsX60, w ∈ wsX5_fitting := by decide +kernel
  have hk25 := hts (.fieldLink RX5 25 "LentDrains$Notes" "seen" "I") (by decide +kernel)
  have hiX5 : ∀ w ∈ wsX50, w ∈ wsX5_fitting := by decide +kernel
  have hk11 := hts (.fieldLink RX5 11 "LentDrains$Notes" "seenBy" "[I") (by decide +kernel)
  have hk41 := hts (.fieldLink RX5 41 "LentDrains$Plan" "above" "[I") (by decide +kernel)
  have hk15 := hts (.fieldLink RX5 15 "LentDrains$Notes" "seenCame" "[Z") (by decide +kernel)
  refine oz_genQ (fun Q hQ => ?_)
  refine lv_iconst (v := 1) hx hb dX5_fitting_0 (by decide) ?_
  refine lv_aload_n hx hb dX5_fitting_1 rfl (lv_at hl 1 rfl) ?_
  refine va_get (D := (dC, dI)) (ci := 6) (v := .int v_p1_houses) (C := RX6) (T := TX6) (N := 8) hx hb hts hiX6 hown hK hP 3 rfl rfl 3 (by decide) hk32 (fun _ h9 => h9) rfl dX5_fitting_2 ?_
  refine lv_ishl hx hb dX5_fitting_5 ?_
  refine lv_iconst (v := 1) hx hb dX5_fitting_6 (by decide) ?_
  refine lv_isub hx hb dX5_fitting_7 ?_
  refine lv_istore_n (lv' := [(2, .int ((1 <<< (v_p1_houses &&& 31)) - 1)), (0, .ref q_this), (1, .ref q_p1)]) hx hb dX5_fitting_8 rfl hl (by decide) rfl (fun ls hl => ?_)
  refine lv_iconst (v := 0) hx hb dX5_fitting_9 (by decide) ?_
  refine lv_istore_n (lv' := [(3, .int 0), (2, .int ((1 <<< (v_p1_houses &&& 31)) - 1)), (0, .ref q_this), (1, .ref q_p1)]) hx hb dX5_fitting_10 rfl hl (by decide) rfl (fun ls hl => ?_)
  obtain ⟨o11, hlp11, hrun⟩ := oz_bind hrun
  have hL11 : ∀ (n : Nat) (w11 : Int32 × Int32) (o11 : Int32 × Int32), oz_loop (fX5_fitting_b11 v_seen v_seenBy v_seenCame v_p1_houses v_p1_above) n w11 = some o11 → (∀ (H : Heap) (locs : List Loc) (ls : Array Slot), va_P (dC, dI) vwCl [(q_this, .inr (5, [.ref q_seenBy, .ref q_seenCame, .ref q_entryHouse, .ref q_entryAmount, .int v_seen, .int v_entries])), (q_seenBy, .inl (cI, 6, .inl v_seenBy)), (q_seenCame, .inl (cZ, 6, .inl v_seenCame)), (q_p1, .inr (6, [.int v_p1_stands, .int v_p1_lent, .int v_p1_pipe, .int v_p1_houses, .ref q_p1_room, .ref q_p1_daily, .ref q_p1_drain, .ref q_p1_above])), (q_p1_above, .inl (cI, 8, .inl v_p1_above))] H → va_D A [(q_this, .inr (5, [.ref q_seenBy, .ref q_seenCame, .ref q_entryHouse, .ref q_entryAmount, .int v_seen, .int v_entries])), (q_seenBy, .inl (cI, 6, .inl v_seenBy)), (q_seenCame, .inl (cZ, 6, .inl v_seenCame)), (q_p1, .inr (6, [.int v_p1_stands, .int v_p1_lent, .int v_p1_pipe, .int v_p1_houses, .ref q_p1_room, .ref q_p1_daily, .ref q_p1_drain, .ref q_p1_above])), (q_p1_above, .inl (cI, 8, .inl v_p1_above))] → va_S A s.heap H locs → lv_has ls 5 [(3, .int o11.1), (2, .int o11.2), (0, .ref q_this), (1, .ref q_p1)] → W p l e (headSpec wsX5_fitting rmX5_fitting).room s m (([.ref q_this, .ref q_p1] : List Value).toArray) below meth c H locs 0 0 Q (F0 m 72 ls [])) → ∀ (H : Heap) (locs : List Loc) (ls : Array Slot), va_P (dC, dI) vwCl [(q_this, .inr (5, [.ref q_seenBy, .ref q_seenCame, .ref q_entryHouse, .ref q_entryAmount, .int v_seen, .int v_entries])), (q_seenBy, .inl (cI, 6, .inl v_seenBy)), (q_seenCame, .inl (cZ, 6, .inl v_seenCame)), (q_p1, .inr (6, [.int v_p1_stands, .int v_p1_lent, .int v_p1_pipe, .int v_p1_houses, .ref q_p1_room, .ref q_p1_daily, .ref q_p1_drain, .ref q_p1_above])), (q_p1_above, .inl (cI, 8, .inl v_p1_above))] H → va_D A [(q_this, .inr (5, [.ref q_seenBy, .ref q_seenCame, .ref q_entryHouse, .ref q_entryAmount, .int v_seen, .int v_entries])), (q_seenBy, .inl (cI, 6, .inl v_seenBy)), (q_seenCame, .inl (cZ, 6, .inl v_seenCame)), (q_p1, .inr (6, [.int v_p1_stands, .int v_p1_lent, .int v_p1_pipe, .int v_p1_houses, .ref q_p1_room, .ref q_p1_daily, .ref q_p1_drain, .ref q_p1_above])), (q_p1_above, .inl (cI, 8, .inl v_p1_above))] → va_S A s.heap H locs → lv_has ls 5 [(3, .int w11.1), (2, .int w11.2), (0, .ref q_this), (1, .ref q_p1)] → W p l e (headSpec wsX5_fitting rmX5_fitting).room s m (([.ref q_this, .ref q_p1] : List Value).toArray) below meth c H locs 0 0 Q (F0 m 11 ls []) := by
    intro n
    induction n with
    | zero => intro w11 o11 h9; exact (oz_zero h9).elim
    | succ n ih =>
      intro w11 o11 h9 hexit H locs ls hP hD hS hl
      obtain ⟨r9, hrun, hnext⟩ := oz_step h9
      unfold fX5_fitting_b11 at hrun
      refine lv_iload_n hx hb dX5_fitting_11 rfl (lv_at hl 0 rfl) ?_
      refine lv_aload_n hx hb dX5_fitting_12 rfl (lv_at hl 2 rfl) ?_
      refine va_get (D := (dC, dI)) (ci := 5) (v := .int v_seen) (C := RX5) (T := TX5) (N := 6) hx hb hts hiX5 hown hK hP 0 rfl rfl 4 (by decide) hk25 (fun _ h9 => h9) rfl dX5_fitting_13 ?_
      refine lv_icmp_ge (tgt := 72) hx hb dX5_fitting_16 (by decide) (fun c1 => ?_) (fun c1 => ?_)
      · have hrun := oz_t hrun c1
        have hr9 := Option.some.inj hrun
        subst hr9
        have ho9 : (w11.1, w11.2) = o11 := hnext
        subst ho9
        exact hexit _ _ _ (hP.sub [0, 1, 2, 3, 4] rfl) (hD.sub [0, 1, 2, 3, 4] (by decide) rfl) hS (lv_sub hl [0, 1, 2, 3] rfl)
      · have hrun := oz_f hrun c1
        refine lv_aload_n hx hb dX5_fitting_19 rfl (lv_at hl 3 rfl) ?_
        refine lv_aload_n hx hb dX5_fitting_20 rfl (lv_at hl 2 rfl) ?_
        refine va_get (D := (dC, dI)) (ci := 5) (v := .ref q_seenBy) (C := RX5) (T := TX5) (N := 6) hx hb hts hiX5 hown hK hP 0 rfl rfl 0 (by decide) hk11 (fun _ h9 => h9) rfl dX5_fitting_21 ?_
        refine lv_iload_n hx hb dX5_fitting_24 rfl (lv_at hl 0 rfl) ?_
        obtain ⟨c2, hrun⟩ := oz_chk hrun
        refine va_iald hx hb hK hP 1 0 rfl rfl c2 dX5_fitting_25 ?_
        obtain ⟨y26, hc26, hrun⟩ := oz_bind hrun
        have hPc := hP.sub (ws' := [(q_p1, .inr (6, [.int v_p1_stands, .int v_p1_lent, .int v_p1_pipe, .int v_p1_houses, .ref q_p1_room, .ref q_p1_daily, .ref q_p1_drain, .ref q_p1_above]))]) [3] rfl
        have hDc := hD.sub (ws' := [(q_p1, .inr (6, [.int v_p1_stands, .int v_p1_lent, .int v_p1_pipe, .int v_p1_houses, .ref q_p1_room, .ref q_p1_daily, .ref q_p1_drain, .ref q_p1_above]))]) [3] (by decide) rfl
        have hFc := va_free (wc := [(q_p1, .inr (6, [.int v_p1_stands, .int v_p1_lent, .int v_p1_pipe, .int v_p1_houses, .ref q_p1_room, .ref q_p1_daily, .ref q_p1_drain, .ref q_p1_above]))]) hD hS hA [3] rfl
        refine va_calli (va_runV (As := [.int (v_seenBy (Int32.toNatClampNeg w11.1))]) (rest := []) ⟨hx, hb, hml, hown, hts⟩ (tX6_has l dC dI cI cZ q_p1_above q_p1_daily q_p1_drain q_p1_room q_p1 H.size v_p1_stands v_p1_lent v_p1_pipe v_p1_houses (v_seenBy (Int32.toNatClampNeg w11.1)) y26 hc26) (cwV 1 hts gX5_fitting_X6_has rfl rfl rfl (by decide +kernel) ⟨Nat.le_of_ble_eq_true rfl, Nat.le_of_ble_eq_true rfl⟩) ⟨fun a U g mk q => by obtain ⟨q0, q1, qP, qK, qD⟩ := q; exact ⟨q0, q1, qP, va_K.moved (u := U) (U := U.calling g mk a) (Vm.Alike.refl U.vm) qK, qD⟩, va_recv hK hPc (ci := 6) (q0 := 0) rfl rfl, fun U hU hW => ⟨rfl, by rw [hU], by rw [hU]; exact hPc, va_K.moved hW.alike hK, hDc.weaken (fun _ _ _ _ => trivial)⟩⟩ rfl rfl hl.1 rfl (lv_room (Nat.le_of_ble_eq_true rfl)) dX5_fitting_26 ⟨Nat.le_of_ble_eq_true rfl, Nat.le_of_ble_eq_true rfl⟩) hS (fun q _ h => hFc q h) hFc (fun r26 u9 t9 H1 locs ht9 hvm9 hw9 hB9 hz9 hkk9 hS => ?_)
        have hw9 : y26 = r26 := hw9.symm
        subst hw9
        obtain ⟨hP9, hK9, hD9⟩ := hB9
        rw [ht9] at hP9
        obtain ⟨hP, hD⟩ := va_join (wr := [(q_this, .inr (5, [.ref q_seenBy, .ref q_seenCame, .ref q_entryHouse, .ref q_entryAmount, .int v_seen, .int v_entries])), (q_seenBy, .inl (cI, 6, .inl v_seenBy)), (q_seenCame, .inl (cZ, 6, .inl v_seenCame)), (q_p1_above, .inl (cI, 8, .inl v_p1_above))]) (w1 := [(q_p1, .inr (6, [.int v_p1_stands, .int v_p1_lent, .int v_p1_pipe, .int v_p1_houses, .ref q_p1_room, .ref q_p1_daily, .ref q_p1_drain, .ref q_p1_above]))]) hP hD [3] [0, 1, 2, 4] rfl rfl (by decide) (by decide) hkk9 hFc hP9 hD9
        generalize H1 = H at hP hS ⊢
        have hP : va_P (dC, dI) vwCl [(q_this, .inr (5, [.ref q_seenBy, .ref q_seenCame, .ref q_entryHouse, .ref q_entryAmount, .int v_seen, .int v_entries])), (q_seenBy, .inl (cI, 6, .inl v_seenBy)), (q_seenCame, .inl (cZ, 6, .inl v_seenCame)), (q_p1_above, .inl (cI, 8, .inl v_p1_above)), (q_p1, .inr (6, [.int v_p1_stands, .int v_p1_lent, .int v_p1_pipe, .int v_p1_houses, .ref q_p1_room, .ref q_p1_daily, .ref q_p1_drain, .ref q_p1_above]))] H := hP
        have hD : va_D A [(q_this, .inr (5, [.ref q_seenBy, .ref q_seenCame, .ref q_entryHouse, .ref q_entryAmount, .int v_seen, .int v_entries])), (q_seenBy, .inl (cI, 6, .inl v_seenBy)), (q_seenCame, .inl (cZ, 6, .inl v_seenCame)), (q_p1_above, .inl (cI, 8, .inl v_p1_above)), (q_p1, .inr (6, [.int v_p1_stands, .int v_p1_lent, .int v_p1_pipe, .int v_p1_houses, .ref q_p1_room, .ref q_p1_daily, .ref q_p1_drain, .ref q_p1_above]))] := hD
        refine lv_if_eq (tgt := 66) hx hb dX5_fitting_29 (by decide) (fun c3 => ?_) (fun c3 => ?_)
        · have hrun := oz_t hrun c3
          refine lv_iinc (v := (w11.1 + 1)) (lv' := [(3, .int (w11.1 + 1)), (2, .int w11.2), (0, .ref q_this), (1, .ref q_p1)]) hx hb dX5_fitting_66 hl (k := 0) rfl rfl (by decide) rfl (fun ls hl => ?_)
          refine lv_goto (tgt := 11) hx hb dX5_fitting_69 (by decide) ?_
          have hr9 := Option.some.inj hrun
          subst hr9
          exact ih ((w11.1 + 1), w11.2) _ hnext hexit _ _ _ (hP.sub [0, 1, 2, 4, 3] rfl) (hD.sub [0, 1, 2, 4, 3] (by decide) rfl) hS (lv_sub hl [0, 1, 2, 3] rfl)
        · have hrun := oz_f hrun c3
          refine lv_aload_n hx hb dX5_fitting_32 rfl (lv_at hl 3 rfl) ?_
          refine va_get (D := (dC, dI)) (ci := 6) (v := .ref q_p1_above) (C := RX6) (T := TX6) (N := 8) hx hb hts hiX6 hown hK hP 4 rfl rfl 7 (by decide) hk41 (fun _ h9 => h9) rfl dX5_fitting_33 ?_
          refine lv_aload_n hx hb dX5_fitting_36 rfl (lv_at hl 2 rfl) ?_
          refine va_get (D := (dC, dI)) (ci := 5) (v := .ref q_seenBy) (C := RX5) (T := TX5) (N := 6) hx hb hts hiX5 hown hK hP 0 rfl rfl 0 (by decide) hk11 (fun _ h9 => h9) rfl dX5_fitting_37 ?_
          refine lv_iload_n hx hb dX5_fitting_40 rfl (lv_at hl 0 rfl) ?_
          refine va_iald hx hb hK hP 1 0 rfl rfl c2 dX5_fitting_41 ?_
          obtain ⟨c4, hrun⟩ := oz_chk hrun
          refine va_iald hx hb hK hP 3 0 rfl rfl c4 dX5_fitting_42 ?_
          refine lv_istore (lv' := [(4, .int (v_p1_above (Int32.toNatClampNeg (v_seenBy (Int32.toNatClampNeg w11.1))))), (3, .int w11.1), (2, .int w11.2), (0, .ref q_this), (1, .ref q_p1)]) hx hb dX5_fitting_43 hl (by decide) rfl (fun ls hl => ?_)
          refine lv_iload_n hx hb dX5_fitting_45 rfl (lv_at hl 2 rfl) ?_
          refine lv_aload_n hx hb dX5_fitting_46 rfl (lv_at hl 3 rfl) ?_
          refine va_get (D := (dC, dI)) (ci := 5) (v := .ref q_seenCame) (C := RX5) (T := TX5) (N := 6) hx hb hts hiX5 hown hK hP 0 rfl rfl 1 (by decide) hk15 (fun _ h9 => h9) rfl dX5_fitting_47 ?_
          refine lv_iload_n hx hb dX5_fitting_50 rfl (lv_at hl 1 rfl) ?_
          refine va_zald hx hb hK hP 2 1 rfl rfl c2 dX5_fitting_51 ?_
          refine lv_if_eq (tgt := 60) hx hb dX5_fitting_52 (by decide) (fun c5 => ?_) (fun c5 => ?_)
          · have hrun := oz_t hrun c5
            refine lv_iload hx hb dX5_fitting_60 (lv_at hl 0 rfl) ?_
            refine lv_iconst (v := (-1)) hx hb dX5_fitting_62 (by decide) ?_
            refine lv_ixor hx hb dX5_fitting_63 ?_
            refine lv_iand hx hb dX5_fitting_64 ?_
            refine lv_istore_n (lv' := [(2, .int (w11.2 &&& ((v_p1_above (Int32.toNatClampNeg (v_seenBy (Int32.toNatClampNeg w11.1)))) ^^^ (-1)))), (4, .int (v_p1_above (Int32.toNatClampNeg (v_seenBy (Int32.toNatClampNeg w11.1))))), (3, .int w11.1), (0, .ref q_this), (1, .ref q_p1)]) hx hb dX5_fitting_65 rfl hl (by decide) rfl (fun ls hl => ?_)
            refine lv_iinc (v := (w11.1 + 1)) (lv' := [(3, .int (w11.1 + 1)), (2, .int (w11.2 &&& ((v_p1_above (Int32.toNatClampNeg (v_seenBy (Int32.toNatClampNeg w11.1)))) ^^^ (-1)))), (4, .int (v_p1_above (Int32.toNatClampNeg (v_seenBy (Int32.toNatClampNeg w11.1))))), (0, .ref q_this), (1, .ref q_p1)]) hx hb dX5_fitting_66 hl (k := 2) rfl rfl (by decide) rfl (fun ls hl => ?_)
            refine lv_goto (tgt := 11) hx hb dX5_fitting_69 (by decide) ?_
            have hr9 := Option.some.inj hrun
            subst hr9
            exact ih ((w11.1 + 1), (w11.2 &&& ((v_p1_above (Int32.toNatClampNeg (v_seenBy (Int32.toNatClampNeg w11.1)))) ^^^ (-1)))) _ hnext hexit _ _ _ (hP.sub [0, 1, 2, 4, 3] rfl) (hD.sub [0, 1, 2, 4, 3] (by decide) rfl) hS (lv_sub hl [0, 1, 3, 4] rfl)
          · have hrun := oz_f hrun c5
            refine lv_iload hx hb dX5_fitting_55 (lv_at hl 0 rfl) ?_
            refine lv_goto (tgt := 64) hx hb dX5_fitting_57 (by decide) ?_
            refine lv_iand hx hb dX5_fitting_64 ?_
            refine lv_istore_n (lv' := [(2, .int (w11.2 &&& (v_p1_above (Int32.toNatClampNeg (v_seenBy (Int32.toNatClampNeg w11.1)))))), (4, .int (v_p1_above (Int32.toNatClampNeg (v_seenBy (Int32.toNatClampNeg w11.1))))), (3, .int w11.1), (0, .ref q_this), (1, .ref q_p1)]) hx hb dX5_fitting_65 rfl hl (by decide) rfl (fun ls hl => ?_)
            refine lv_iinc (v := (w11.1 + 1)) (lv' := [(3, .int (w11.1 + 1)), (2, .int (w11.2 &&& (v_p1_above (Int32.toNatClampNeg (v_seenBy (Int32.toNatClampNeg w11.1)))))), (4, .int (v_p1_above (Int32.toNatClampNeg (v_seenBy (Int32.toNatClampNeg w11.1))))), (0, .ref q_this), (1, .ref q_p1)]) hx hb dX5_fitting_66 hl (k := 2) rfl rfl (by decide) rfl (fun ls hl => ?_)
            refine lv_goto (tgt := 11) hx hb dX5_fitting_69 (by decide) ?_
            have hr9 := Option.some.inj hrun
            subst hr9
            exact ih ((w11.1 + 1), (w11.2 &&& (v_p1_above (Int32.toNatClampNeg (v_seenBy (Int32.toNatClampNeg w11.1)))))) _ hnext hexit _ _ _ (hP.sub [0, 1, 2, 4, 3] rfl) (hD.sub [0, 1, 2, 4, 3] (by decide) rfl) hS (lv_sub hl [0, 1, 3, 4] rfl)
  refine hL11 oz_fuel (0, ((1 <<< (v_p1_houses &&& 31)) - 1)) o11 hlp11 (fun H locs ls hP hD hS hl => ?_) _ _ _ (hP.sub [0, 1, 2, 3, 4] rfl) (hD.sub [0, 1, 2, 3, 4] (by decide) rfl) hS (lv_sub hl [0, 1, 2, 3] rfl)
  have hP : va_P (dC, dI) vwCl [(q_this, .inr (5, [.ref q_seenBy, .ref q_seenCame, .ref q_entryHouse, .ref q_entryAmount, .int v_seen, .int v_entries])), (q_seenBy, .inl (cI, 6, .inl v_seenBy)), (q_seenCame, .inl (cZ, 6, .inl v_seenCame)), (q_p1, .inr (6, [.int v_p1_stands, .int v_p1_lent, .int v_p1_pipe, .int v_p1_houses, .ref q_p1_room, .ref q_p1_daily, .ref q_p1_drain, .ref q_p1_above])), (q_p1_above, .inl (cI, 8, .inl v_p1_above))] H := hP
  have hD : va_D A [(q_this, .inr (5, [.ref q_seenBy, .ref q_seenCame, .ref q_entryHouse, .ref q_entryAmount, .int v_seen, .int v_entries])), (q_seenBy, .inl (cI, 6, .inl v_seenBy)), (q_seenCame, .inl (cZ, 6, .inl v_seenCame)), (q_p1, .inr (6, [.int v_p1_stands, .int v_p1_lent, .int v_p1_pipe, .int v_p1_houses, .ref q_p1_room, .ref q_p1_daily, .ref q_p1_drain, .ref q_p1_above])), (q_p1_above, .inl (cI, 8, .inl v_p1_above))] := hD
  have hl : lv_has ls 5 [(3, .int o11.1), (2, .int o11.2), (0, .ref q_this), (1, .ref q_p1)] := hl
  refine lv_iload_n hx hb dX5_fitting_72 rfl (lv_at hl 1 rfl) ?_
  have ho9 := Option.some.inj hrun
  subst ho9
  have hP9 := hP.sub (ws' := [(q_this, .inr (5, [.ref q_seenBy, .ref q_seenCame, .ref q_entryHouse, .ref q_entryAmount, .int v_seen, .int v_entries])), (q_seenBy, .inl (cI, 6, .inl v_seenBy)), (q_seenCame, .inl (cZ, 6, .inl v_seenCame)), (q_p1, .inr (6, [.int v_p1_stands, .int v_p1_lent, .int v_p1_pipe, .int v_p1_houses, .ref q_p1_room, .ref q_p1_daily, .ref q_p1_drain, .ref q_p1_above])), (q_p1_above, .inl (cI, 8, .inl v_p1_above))]) [0, 1, 2, 3, 4] rfl
  have hD9 := hD.sub (ws' := [(q_this, .inr (5, [.ref q_seenBy, .ref q_seenCame, .ref q_entryHouse, .ref q_entryAmount, .int v_seen, .int v_entries])), (q_seenBy, .inl (cI, 6, .inl v_seenBy)), (q_seenCame, .inl (cZ, 6, .inl v_seenCame)), (q_p1, .inr (6, [.int v_p1_stands, .int v_p1_lent, .int v_p1_pipe, .int v_p1_houses, .ref q_p1_room, .ref q_p1_daily, .ref q_p1_drain, .ref q_p1_above])), (q_p1_above, .inl (cI, 8, .inl v_p1_above))]) [0, 1, 2, 3, 4] (by decide) rfl
  rw [hQ]
  exact W.iret (v := o11.2) hx hb hr (fun t ht hW => ⟨⟨o11.2, (), rfl, rfl, by rw [ht]; exact hP9, va_K.moved hW.alike hK, hD9⟩, hS.F ht⟩) hS.2.2 dX5_fitting_73
def fX5_firstWrong_b2 (v_entries : Int32) (v_entryHouse : Nat → Int32) (v_entryAmount : Nat → Int32) (v_p1_houses : Int32) (v_p2_kept : Nat → Int32) (w2 : Int32) : Option ((Int32) ⊕ (Int32)) :=
  if v_entries ≤ w2 then (some (.inr (-1))) else (if (w2 < 0 ∨ 20 ≤ Int32.toNatClampNeg w2) then none else Option.bind (fX6_has v_p1_houses (v_entryHouse (Int32.toNatClampNeg w2))) (fun y17 => if y17 = 0 then (some (.inl (w2 + 1))) else (if ((v_entryHouse (Int32.toNatClampNeg w2)) < 0 ∨ 8 ≤ Int32.toNatClampNeg (v_entryHouse (Int32.toNatClampNeg w2))) then none else if (v_p2_kept (Int32.toNatClampNeg (v_entryHouse (Int32.toNatClampNeg w2)))) = (v_entryAmount (Int32.toNatClampNeg w2)) then (some (.inl (w2 + 1))) else (some (.inr w2)))))
def fX5_firstWrong (v_entries : Int32) (v_entryHouse : Nat → Int32) (v_entryAmount : Nat → Int32) (v_p1_houses : Int32) (v_p2_kept : Nat → Int32) : Option (Int32) :=
  oz_loop (fX5_firstWrong_b2 v_entries v_entryHouse v_entryAmount v_p1_houses v_p2_kept) oz_fuel 0
def rmX5_firstWrong : Room := { frames := 1, cells := 0, slots := 0, locals := 21 }
set_option maxHeartbeats 4000000 in
set_option maxRecDepth 100000 in
theorem tX5_firstWrong (l : Launch) (dC : Nat → ClassId) (dI : Nat → Nat → Nat) (cI cZ : ClassId) (q_entryAmount q_entryHouse q_p1 q_p1_above q_p1_daily q_p1_drain q_p1_room q_p2 q_p2_away q_p2_kept q_seenBy q_seenCame q_this : Nat) (sz : Nat) (v_seen : Int32) (v_p1_stands : Int32) (v_p1_lent : Int32) (v_p1_pipe : Int32) (v_p2_days : Int32) (v_p2_spilled : Int32) (v_p2_river : Int32) (v_entries : Int32) (v_entryHouse : Nat → Int32) (v_entryAmount : Nat → Int32) (v_p1_houses : Int32) (v_p2_kept : Nat → Int32) (out : Int32) (hrun : fX5_firstWrong v_entries v_entryHouse v_entryAmount v_p1_houses v_p2_kept = some out) : Met l yX5_firstWrong wsX5_firstWrong rmX5_firstWrong (va_Pc [.ref q_this, .ref q_p1, .ref q_p2] (fun U => U.heap.size = sz ∧ va_P (dC, dI) vwCl [(q_this, .inr (5, [.ref q_seenBy, .ref q_seenCame, .ref q_entryHouse, .ref q_entryAmount, .int v_seen, .int v_entries])), (q_entryHouse, .inl (cI, 20, .inl v_entryHouse)), (q_entryAmount, .inl (cI, 20, .inl v_entryAmount)), (q_p1, .inr (6, [.int v_p1_stands, .int v_p1_lent, .int v_p1_pipe, .int v_p1_houses, .ref q_p1_room, .ref q_p1_daily, .ref q_p1_drain, .ref q_p1_above])), (q_p2, .inr (10, [.ref q_p2_kept, .ref q_p2_away, .int v_p2_days, .int v_p2_spilled, .int v_p2_river])), (q_p2_kept, .inl (cI, 8, .inl v_p2_kept))] U.heap ∧ va_K (dC, dI) vwCl [(cI, .int), (cZ, .boolean)] U ∧ va_D (fun _ => True) [(q_this, .inr (5, [.ref q_seenBy, .ref q_seenCame, .ref q_entryHouse, .ref q_entryAmount, .int v_seen, .int v_entries])), (q_entryHouse, .inl (cI, 20, .inl v_entryHouse)), (q_entryAmount, .inl (cI, 20, .inl v_entryAmount)), (q_p1, .inr (6, [.int v_p1_stands, .int v_p1_lent, .int v_p1_pipe, .int v_p1_houses, .ref q_p1_room, .ref q_p1_daily, .ref q_p1_drain, .ref q_p1_above])), (q_p2, .inr (10, [.ref q_p2_kept, .ref q_p2_away, .int v_p2_days, .int v_p2_spilled, .int v_p2_river])), (q_p2_kept, .inl (cI, 8, .inl v_p2_kept))])) (va_Qi (fun (r : Int32) (_ : Unit) => r = out) (fun _ t => va_P (dC, dI) vwCl [(q_this, .inr (5, [.ref q_seenBy, .ref q_seenCame, .ref q_entryHouse, .ref q_entryAmount, .int v_seen, .int v_entries])), (q_entryHouse, .inl (cI, 20, .inl v_entryHouse)), (q_entryAmount, .inl (cI, 20, .inl v_entryAmount)), (q_p1, .inr (6, [.int v_p1_stands, .int v_p1_lent, .int v_p1_pipe, .int v_p1_houses, .ref q_p1_room, .ref q_p1_daily, .ref q_p1_drain, .ref q_p1_above])), (q_p2, .inr (10, [.ref q_p2_kept, .ref q_p2_away, .int v_p2_days, .int v_p2_spilled, .int v_p2_river])), (q_p2_kept, .inl (cI, 8, .inl v_p2_kept))] t.heap ∧ va_K (dC, dI) vwCl [(cI, .int), (cZ, .boolean)] t ∧ va_D (va_A [(q_this, .inr (5, [.ref q_seenBy, .ref q_seenCame, .ref q_entryHouse, .ref q_entryAmount, .int v_seen, .int v_entries])), (q_entryHouse, .inl (cI, 20, .inl v_entryHouse)), (q_entryAmount, .inl (cI, 20, .inl v_entryAmount)), (q_p1, .inr (6, [.int v_p1_stands, .int v_p1_lent, .int v_p1_pipe, .int v_p1_houses, .ref q_p1_room, .ref q_p1_daily, .ref q_p1_drain, .ref q_p1_above])), (q_p2, .inr (10, [.ref q_p2_kept, .ref q_p2_away, .int v_p2_days, .int v_p2_spilled, .int v_p2_river])), (q_p2_kept, .inl (cI, 8, .inl v_p2_kept))] sz) [(q_this, .inr (5, [.ref q_seenBy, .ref q_seenCame, .ref q_entryHouse, .ref q_entryAmount, .int v_seen, .int v_entries])), (q_entryHouse, .inl (cI, 20, .inl v_entryHouse)), (q_entryAmount, .inl (cI, 20, .inl v_entryAmount)), (q_p1, .inr (6, [.int v_p1_stands, .int v_p1_lent, .int v_p1_pipe, .int v_p1_houses, .ref q_p1_room, .ref q_p1_daily, .ref q_p1_drain, .ref q_p1_above])), (q_p2, .inr (10, [.ref q_p2_kept, .ref q_p2_away, .int v_p2_days, .int v_p2_spilled, .int v_p2_river])), (q_p2_kept, .inl (cI, 8, .inl v_p2_kept))]) (va_A [(q_this, .inr (5, [.ref q_seenBy, .ref q_seenCame, .ref q_entryHouse, .ref q_entryAmount, .int v_seen, .int v_entries])), (q_entryHouse, .inl (cI, 20, .inl v_entryHouse)), (q_entryAmount, .inl (cI, 20, .inl v_entryAmount)), (q_p1, .inr (6, [.int v_p1_stands, .int v_p1_lent, .int v_p1_pipe, .int v_p1_houses, .ref q_p1_room, .ref q_p1_daily, .ref q_p1_drain, .ref q_p1_above])), (q_p2, .inr (10, [.ref q_p2_kept, .ref q_p2_away, .int v_p2_days, .int v_p2_spilled, .int v_p2_river])), (q_p2_kept, .inl (cI, 8, .inl v_p2_kept))] sz)) 0 0 (va_A [(q_this, .inr (5, [.ref q_seenBy, .ref q_seenCame, .ref q_entryHouse, .ref q_entryAmount, .int v_seen, .int v_entries])), (q_entryHouse, .inl (cI, 20, .inl v_entryHouse)), (q_entryAmount, .inl (cI, 20, .inl v_entryAmount)), (q_p1, .inr (6, [.int v_p1_stands, .int v_p1_lent, .int v_p1_pipe, .int v_p1_houses, .ref q_p1_room, .ref q_p1_daily, .ref q_p1_drain, .ref q_p1_above])), (q_p2, .inr (10, [.ref q_p2_kept, .ref q_p2_away, .int v_p2_days, .int v_p2_spilled, .int v_p2_river])), (q_p2_kept, .inl (cI, 8, .inl v_p2_kept))] sz) := by
  refine Met.ofW (cc := cX5_firstWrong) (maxL := 4) (ret := (some .int)) (by decide) rfl ?_
  intro p e s m args below meth c s₁ B hml hv
  obtain ⟨rfl, hsz, hP, hK, hD0⟩ := hv
  have hx := B.exec
  have hb := B.bytes
  have hr := B.returns
  have hts := atoms_spec (ws := wsX5_firstWrong) B.pre
  have hown : s.vm.findClass RX5 = some m.cls := findClass_of_methodNamed B.named
  have hlocks := B.notSynchronized
  subst hsz
  have hD := hD0.self (sz := s.heap.size)
  generalize hAe : va_A [(q_this, .inr (5, [.ref q_seenBy, .ref q_seenCame, .ref q_entryHouse, .ref q_entryAmount, .int v_seen, .int v_entries])), (q_entryHouse, .inl (cI, 20, .inl v_entryHouse)), (q_entryAmount, .inl (cI, 20, .inl v_entryAmount)), (q_p1, .inr (6, [.int v_p1_stands, .int v_p1_lent, .int v_p1_pipe, .int v_p1_houses, .ref q_p1_room, .ref q_p1_daily, .ref q_p1_drain, .ref q_p1_above])), (q_p2, .inr (10, [.ref q_p2_kept, .ref q_p2_away, .int v_p2_days, .int v_p2_spilled, .int v_p2_river])), (q_p2_kept, .inl (cI, 8, .inl v_p2_kept))] s.heap.size = A at hD ⊢
  have hA : ∀ q : Nat, s.heap.size ≤ q → A q := fun q h => by rw [← hAe]; exact Or.inr h
  have hS : va_S A s.heap s.heap [] := va_S.rf
  have hl := lv_entry ([.ref q_this, .ref q_p1, .ref q_p2]) (n := 4) (Nat.le_of_ble_eq_true rfl)
  rw [lg_entry_eq]
  generalize (lg_sl ([.ref q_this, .ref q_p1, .ref q_p2]) ++ List.replicate (4 - (lg_sl ([.ref q_this, .ref q_p1, .ref q_p2])).length) Slot.unset).toArray = ls at hl ⊢
  have hl : lv_has ls 4 [(0, .ref q_this), (1, .ref q_p1), (2, .ref q_p2)] := hl
  unfold fX5_firstWrong at hrun
  have hk29 := hts (.fieldLink RX5 29 "LentDrains$Notes" "entries" "I") (by decide +kernel)
  have hiX5 : ∀ w ∈ wsX50, w ∈ wsX5_firstWrong := by decide +kernel
  have hk19 := hts (.fieldLink RX5 19 "LentDrains$Notes" "entryHouse" "[I") (by decide +kernel)
  have hk44 := hts (.fieldLink RX5 44 "LentDrains$State" "kept" "[I") (by decide +kernel)
  have hiX10 : ∀ w ∈ wsX100, w ∈ wsX5_firstWrong := by decide +kernel
  have hk22 := hts (.fieldLink RX5 22 "LentDrains$Notes" "entryAmount" "[I") (by decide +kernel)
  refine oz_genQ (fun Q hQ => ?_)
  refine lv_iconst (v := 0) hx hb dX5_firstWrong_0 (by decide) ?_
  refine lv_istore_n (lv' := [(3, .int 0), (0, .ref q_this), (1, .ref q_p1), (2, .ref q_p2)]) hx hb dX5_firstWrong_1 rfl hl (by decide) rfl (fun ls hl => ?_)
  have hL2 : ∀ (n : Nat) (w2 : Int32), oz_loop (fX5_firstWrong_b2 v_entries v_entryHouse v_entryAmount v_p1_houses v_p2_kept) n w2 = some out → ∀ (H : Heap) (locs : List Loc) (ls : Array Slot), va_P (dC, dI) vwCl [(q_this, .inr (5, [.ref q_seenBy, .ref q_seenCame, .ref q_entryHouse, .ref q_entryAmount, .int v_seen, .int v_entries])), (q_entryHouse, .inl (cI, 20, .inl v_entryHouse)), (q_entryAmount, .inl (cI, 20, .inl v_entryAmount)), (q_p1, .inr (6, [.int v_p1_stands, .int v_p1_lent, .int v_p1_pipe, .int v_p1_houses, .ref q_p1_room, .ref q_p1_daily, .ref q_p1_drain, .ref q_p1_above])), (q_p2, .inr (10, [.ref q_p2_kept, .ref q_p2_away, .int v_p2_days, .int v_p2_spilled, .int v_p2_river])), (q_p2_kept, .inl (cI, 8, .inl v_p2_kept))] H → va_D A [(q_this, .inr (5, [.ref q_seenBy, .ref q_seenCame, .ref q_entryHouse, .ref q_entryAmount, .int v_seen, .int v_entries])), (q_entryHouse, .inl (cI, 20, .inl v_entryHouse)), (q_entryAmount, .inl (cI, 20, .inl v_entryAmount)), (q_p1, .inr (6, [.int v_p1_stands, .int v_p1_lent, .int v_p1_pipe, .int v_p1_houses, .ref q_p1_room, .ref q_p1_daily, .ref q_p1_drain, .ref q_p1_above])), (q_p2, .inr (10, [.ref q_p2_kept, .ref q_p2_away, .int v_p2_days, .int v_p2_spilled, .int v_p2_river])), (q_p2_kept, .inl (cI, 8, .inl v_p2_kept))] → va_S A s.heap H locs → lv_has ls 4 [(3, .int w2), (0, .ref q_this), (1, .ref q_p1), (2, .ref q_p2)] → W p l e (headSpec wsX5_firstWrong rmX5_firstWrong).room s m (([.ref q_this, .ref q_p1, .ref q_p2] : List Value).toArray) below meth c H locs 0 0 Q (F0 m 2 ls []) := by
    intro n
    induction n with
    | zero => intro w2 h9; exact (oz_zero h9).elim
    | succ n ih =>
      intro w2 h9 H locs ls hP hD hS hl
      obtain ⟨r9, hrun, hnext⟩ := oz_step h9
      unfold fX5_firstWrong_b2 at hrun
      refine lv_iload_n hx hb dX5_firstWrong_2 rfl (lv_at hl 0 rfl) ?_
      refine lv_aload_n hx hb dX5_firstWrong_3 rfl (lv_at hl 1 rfl) ?_
      refine va_get (D := (dC, dI)) (ci := 5) (v := .int v_entries) (C := RX5) (T := TX5) (N := 6) hx hb hts hiX5 hown hK hP 0 rfl rfl 5 (by decide) hk29 (fun _ h9 => h9) rfl dX5_firstWrong_4 ?_
      refine lv_icmp_ge (tgt := 51) hx hb dX5_firstWrong_7 (by decide) (fun c1 => ?_) (fun c1 => ?_)
      · have hrun := oz_t hrun c1
        refine lv_iconst (v := (-1)) hx hb dX5_firstWrong_51 (by decide) ?_
        have hr9 := Option.some.inj hrun
        subst hr9
        have ho9 : (-1) = out := hnext
        subst ho9
        have hP9 := hP.sub (ws' := [(q_this, .inr (5, [.ref q_seenBy, .ref q_seenCame, .ref q_entryHouse, .ref q_entryAmount, .int v_seen, .int v_entries])), (q_entryHouse, .inl (cI, 20, .inl v_entryHouse)), (q_entryAmount, .inl (cI, 20, .inl v_entryAmount)), (q_p1, .inr (6, [.int v_p1_stands, .int v_p1_lent, .int v_p1_pipe, .int v_p1_houses, .ref q_p1_room, .ref q_p1_daily, .ref q_p1_drain, .ref q_p1_above])), (q_p2, .inr (10, [.ref q_p2_kept, .ref q_p2_away, .int v_p2_days, .int v_p2_spilled, .int v_p2_river])), (q_p2_kept, .inl (cI, 8, .inl v_p2_kept))]) [0, 1, 2, 3, 4, 5] rfl
        have hD9 := hD.sub (ws' := [(q_this, .inr (5, [.ref q_seenBy, .ref q_seenCame, .ref q_entryHouse, .ref q_entryAmount, .int v_seen, .int v_entries])), (q_entryHouse, .inl (cI, 20, .inl v_entryHouse)), (q_entryAmount, .inl (cI, 20, .inl v_entryAmount)), (q_p1, .inr (6, [.int v_p1_stands, .int v_p1_lent, .int v_p1_pipe, .int v_p1_houses, .ref q_p1_room, .ref q_p1_daily, .ref q_p1_drain, .ref q_p1_above])), (q_p2, .inr (10, [.ref q_p2_kept, .ref q_p2_away, .int v_p2_days, .int v_p2_spilled, .int v_p2_river])), (q_p2_kept, .inl (cI, 8, .inl v_p2_kept))]) [0, 1, 2, 3, 4, 5] (by decide) rfl
        rw [hQ]
        exact W.iret (v := (-1)) hx hb hr (fun t ht hW => ⟨⟨(-1), (), rfl, rfl, by rw [ht]; exact hP9, va_K.moved hW.alike hK, hD9⟩, hS.F ht⟩) hS.2.2 dX5_firstWrong_52
      · have hrun := oz_f hrun c1
        refine lv_aload_n hx hb dX5_firstWrong_10 rfl (lv_at hl 2 rfl) ?_
        refine lv_aload_n hx hb dX5_firstWrong_11 rfl (lv_at hl 1 rfl) ?_
        refine va_get (D := (dC, dI)) (ci := 5) (v := .ref q_entryHouse) (C := RX5) (T := TX5) (N := 6) hx hb hts hiX5 hown hK hP 0 rfl rfl 2 (by decide) hk19 (fun _ h9 => h9) rfl dX5_firstWrong_12 ?_
        refine lv_iload_n hx hb dX5_firstWrong_15 rfl (lv_at hl 0 rfl) ?_
        obtain ⟨c2, hrun⟩ := oz_chk hrun
        refine va_iald hx hb hK hP 1 0 rfl rfl c2 dX5_firstWrong_16 ?_
        obtain ⟨y17, hc17, hrun⟩ := oz_bind hrun
        have hPc := hP.sub (ws' := [(q_p1, .inr (6, [.int v_p1_stands, .int v_p1_lent, .int v_p1_pipe, .int v_p1_houses, .ref q_p1_room, .ref q_p1_daily, .ref q_p1_drain, .ref q_p1_above]))]) [3] rfl
        have hDc := hD.sub (ws' := [(q_p1, .inr (6, [.int v_p1_stands, .int v_p1_lent, .int v_p1_pipe, .int v_p1_houses, .ref q_p1_room, .ref q_p1_daily, .ref q_p1_drain, .ref q_p1_above]))]) [3] (by decide) rfl
        have hFc := va_free (wc := [(q_p1, .inr (6, [.int v_p1_stands, .int v_p1_lent, .int v_p1_pipe, .int v_p1_houses, .ref q_p1_room, .ref q_p1_daily, .ref q_p1_drain, .ref q_p1_above]))]) hD hS hA [3] rfl
        refine va_calli (va_runV (As := [.int (v_entryHouse (Int32.toNatClampNeg w2))]) (rest := []) ⟨hx, hb, hml, hown, hts⟩ (tX6_has l dC dI cI cZ q_p1_above q_p1_daily q_p1_drain q_p1_room q_p1 H.size v_p1_stands v_p1_lent v_p1_pipe v_p1_houses (v_entryHouse (Int32.toNatClampNeg w2)) y17 hc17) (cwV 1 hts gX5_firstWrong_X6_has rfl rfl rfl (by decide +kernel) ⟨Nat.le_of_ble_eq_true rfl, Nat.le_of_ble_eq_true rfl⟩) ⟨fun a U g mk q => by obtain ⟨q0, q1, qP, qK, qD⟩ := q; exact ⟨q0, q1, qP, va_K.moved (u := U) (U := U.calling g mk a) (Vm.Alike.refl U.vm) qK, qD⟩, va_recv hK hPc (ci := 6) (q0 := 0) rfl rfl, fun U hU hW => ⟨rfl, by rw [hU], by rw [hU]; exact hPc, va_K.moved hW.alike hK, hDc.weaken (fun _ _ _ _ => trivial)⟩⟩ rfl rfl hl.1 rfl (lv_room (Nat.le_of_ble_eq_true rfl)) dX5_firstWrong_17 ⟨Nat.le_of_ble_eq_true rfl, Nat.le_of_ble_eq_true rfl⟩) hS (fun q _ h => hFc q h) hFc (fun r17 u9 t9 H1 locs ht9 hvm9 hw9 hB9 hz9 hkk9 hS => ?_)
        have hw9 : y17 = r17 := hw9.symm
        subst hw9
        obtain ⟨hP9, hK9, hD9⟩ := hB9
        rw [ht9] at hP9
        obtain ⟨hP, hD⟩ := va_join (wr := [(q_this, .inr (5, [.ref q_seenBy, .ref q_seenCame, .ref q_entryHouse, .ref q_entryAmount, .int v_seen, .int v_entries])), (q_entryHouse, .inl (cI, 20, .inl v_entryHouse)), (q_entryAmount, .inl (cI, 20, .inl v_entryAmount)), (q_p2, .inr (10, [.ref q_p2_kept, .ref q_p2_away, .int v_p2_days, .int v_p2_spilled, .int v_p2_river])), (q_p2_kept, .inl (cI, 8, .inl v_p2_kept))]) (w1 := [(q_p1, .inr (6, [.int v_p1_stands, .int v_p1_lent, .int v_p1_pipe, .int v_p1_houses, .ref q_p1_room, .ref q_p1_daily, .ref q_p1_drain, .ref q_p1_above]))]) hP hD [3] [0, 1, 2, 4, 5] rfl rfl (by decide) (by decide) hkk9 hFc hP9 hD9
        generalize H1 = H at hP hS ⊢
        have hP : va_P (dC, dI) vwCl [(q_this, .inr (5, [.ref q_seenBy, .ref q_seenCame, .ref q_entryHouse, .ref q_entryAmount, .int v_seen, .int v_entries])), (q_entryHouse, .inl (cI, 20, .inl v_entryHouse)), (q_entryAmount, .inl (cI, 20, .inl v_entryAmount)), (q_p2, .inr (10, [.ref q_p2_kept, .ref q_p2_away, .int v_p2_days, .int v_p2_spilled, .int v_p2_river])), (q_p2_kept, .inl (cI, 8, .inl v_p2_kept)), (q_p1, .inr (6, [.int v_p1_stands, .int v_p1_lent, .int v_p1_pipe, .int v_p1_houses, .ref q_p1_room, .ref q_p1_daily, .ref q_p1_drain, .ref q_p1_above]))] H := hP
        have hD : va_D A [(q_this, .inr (5, [.ref q_seenBy, .ref q_seenCame, .ref q_entryHouse, .ref q_entryAmount, .int v_seen, .int v_entries])), (q_entryHouse, .inl (cI, 20, .inl v_entryHouse)), (q_entryAmount, .inl (cI, 20, .inl v_entryAmount)), (q_p2, .inr (10, [.ref q_p2_kept, .ref q_p2_away, .int v_p2_days, .int v_p2_spilled, .int v_p2_river])), (q_p2_kept, .inl (cI, 8, .inl v_p2_kept)), (q_p1, .inr (6, [.int v_p1_stands, .int v_p1_lent, .int v_p1_pipe, .int v_p1_houses, .ref q_p1_room, .ref q_p1_daily, .ref q_p1_drain, .ref q_p1_above]))] := hD
        refine lv_if_eq (tgt := 45) hx hb dX5_firstWrong_20 (by decide) (fun c3 => ?_) (fun c3 => ?_)
        · have hrun := oz_t hrun c3
          refine lv_iinc (v := (w2 + 1)) (lv' := [(3, .int (w2 + 1)), (0, .ref q_this), (1, .ref q_p1), (2, .ref q_p2)]) hx hb dX5_firstWrong_45 hl (k := 0) rfl rfl (by decide) rfl (fun ls hl => ?_)
          refine lv_goto (tgt := 2) hx hb dX5_firstWrong_48 (by decide) ?_
          have hr9 := Option.some.inj hrun
          subst hr9
          exact ih (w2 + 1) hnext _ _ _ (hP.sub [0, 1, 2, 5, 3, 4] rfl) (hD.sub [0, 1, 2, 5, 3, 4] (by decide) rfl) hS (lv_sub hl [0, 1, 2, 3] rfl)
        · have hrun := oz_f hrun c3
          refine lv_aload_n hx hb dX5_firstWrong_23 rfl (lv_at hl 3 rfl) ?_
          refine va_get (D := (dC, dI)) (ci := 10) (v := .ref q_p2_kept) (C := RX10) (T := TX10) (N := 5) hx hb hts hiX10 hown hK hP 3 rfl rfl 0 (by decide) hk44 (fun _ h9 => h9) rfl dX5_firstWrong_24 ?_
          refine lv_aload_n hx hb dX5_firstWrong_27 rfl (lv_at hl 1 rfl) ?_
          refine va_get (D := (dC, dI)) (ci := 5) (v := .ref q_entryHouse) (C := RX5) (T := TX5) (N := 6) hx hb hts hiX5 hown hK hP 0 rfl rfl 2 (by decide) hk19 (fun _ h9 => h9) rfl dX5_firstWrong_28 ?_
          refine lv_iload_n hx hb dX5_firstWrong_31 rfl (lv_at hl 0 rfl) ?_
          refine va_iald hx hb hK hP 1 0 rfl rfl c2 dX5_firstWrong_32 ?_
          obtain ⟨c4, hrun⟩ := oz_chk hrun
          refine va_iald hx hb hK hP 4 0 rfl rfl c4 dX5_firstWrong_33 ?_
          refine lv_aload_n hx hb dX5_firstWrong_34 rfl (lv_at hl 1 rfl) ?_
          refine va_get (D := (dC, dI)) (ci := 5) (v := .ref q_entryAmount) (C := RX5) (T := TX5) (N := 6) hx hb hts hiX5 hown hK hP 0 rfl rfl 3 (by decide) hk22 (fun _ h9 => h9) rfl dX5_firstWrong_35 ?_
          refine lv_iload_n hx hb dX5_firstWrong_38 rfl (lv_at hl 0 rfl) ?_
          refine va_iald hx hb hK hP 2 0 rfl rfl c2 dX5_firstWrong_39 ?_
          refine lv_icmp_eq (tgt := 45) hx hb dX5_firstWrong_40 (by decide) (fun c5 => ?_) (fun c5 => ?_)
          · have hrun := oz_t hrun c5
            refine lv_iinc (v := (w2 + 1)) (lv' := [(3, .int (w2 + 1)), (0, .ref q_this), (1, .ref q_p1), (2, .ref q_p2)]) hx hb dX5_firstWrong_45 hl (k := 0) rfl rfl (by decide) rfl (fun ls hl => ?_)
            refine lv_goto (tgt := 2) hx hb dX5_firstWrong_48 (by decide) ?_
            have hr9 := Option.some.inj hrun
            subst hr9
            exact ih (w2 + 1) hnext _ _ _ (hP.sub [0, 1, 2, 5, 3, 4] rfl) (hD.sub [0, 1, 2, 5, 3, 4] (by decide) rfl) hS (lv_sub hl [0, 1, 2, 3] rfl)
          · have hrun := oz_f hrun c5
            refine lv_iload_n hx hb dX5_firstWrong_43 rfl (lv_at hl 0 rfl) ?_
            have hr9 := Option.some.inj hrun
            subst hr9
            have ho9 : w2 = out := hnext
            subst ho9
            have hP9 := hP.sub (ws' := [(q_this, .inr (5, [.ref q_seenBy, .ref q_seenCame, .ref q_entryHouse, .ref q_entryAmount, .int v_seen, .int v_entries])), (q_entryHouse, .inl (cI, 20, .inl v_entryHouse)), (q_entryAmount, .inl (cI, 20, .inl v_entryAmount)), (q_p1, .inr (6, [.int v_p1_stands, .int v_p1_lent, .int v_p1_pipe, .int v_p1_houses, .ref q_p1_room, .ref q_p1_daily, .ref q_p1_drain, .ref q_p1_above])), (q_p2, .inr (10, [.ref q_p2_kept, .ref q_p2_away, .int v_p2_days, .int v_p2_spilled, .int v_p2_river])), (q_p2_kept, .inl (cI, 8, .inl v_p2_kept))]) [0, 1, 2, 5, 3, 4] rfl
            have hD9 := hD.sub (ws' := [(q_this, .inr (5, [.ref q_seenBy, .ref q_seenCame, .ref q_entryHouse, .ref q_entryAmount, .int v_seen, .int v_entries])), (q_entryHouse, .inl (cI, 20, .inl v_entryHouse)), (q_entryAmount, .inl (cI, 20, .inl v_entryAmount)), (q_p1, .inr (6, [.int v_p1_stands, .int v_p1_lent, .int v_p1_pipe, .int v_p1_houses, .ref q_p1_room, .ref q_p1_daily, .ref q_p1_drain, .ref q_p1_above])), (q_p2, .inr (10, [.ref q_p2_kept, .ref q_p2_away, .int v_p2_days, .int v_p2_spilled, .int v_p2_river])), (q_p2_kept, .inl (cI, 8, .inl v_p2_kept))]) [0, 1, 2, 5, 3, 4] (by decide) rfl
            rw [hQ]
            exact W.iret (v := w2) hx hb hr (fun t ht hW => ⟨⟨w2, (), rfl, rfl, by rw [ht]; exact hP9, va_K.moved hW.alike hK, hD9⟩, hS.F ht⟩) hS.2.2 dX5_firstWrong_44
  exact hL2 oz_fuel 0 hrun _ _ _ (hP.sub [0, 1, 2, 3, 4, 5] rfl) (hD.sub [0, 1, 2, 3, 4, 5] (by decide) rfl) hS (lv_sub hl [0, 1, 2, 3] rfl)
