def fX10_clear_b2 (w2 : Int32 × (Nat → Int32) × (Nat → Int32)) : Option ((Int32 × (Nat → Int32) × (Nat → Int32)) ⊕ (Int32 × (Nat → Int32) × (Nat → Int32))) :=
  if 8 ≤ w2.1 then (some (.inr (w2.1, w2.2.1, w2.2.2))) else (if (w2.1 < 0 ∨ 8 ≤ Int32.toNatClampNeg w2.1) then none else some (.inl ((w2.1 + 1), (upd w2.2.1 (Int32.toNatClampNeg w2.1) 0), (upd w2.2.2 (Int32.toNatClampNeg w2.1) 0))))
def fX10_clear (v_days : Int32) (v_spilled : Int32) (v_river : Int32) (v_kept : Nat → Int32) (v_away : Nat → Int32) : Option (Int32 × Int32 × Int32 × (Nat → Int32) × (Nat → Int32)) :=
  Option.bind (oz_loop fX10_clear_b2 oz_fuel (0, v_kept, v_away)) (fun o2 => some (0, 0, 0, o2.2.1, o2.2.2))
def rmX10_clear : Room := { frames := 0, cells := 0, slots := 0, locals := 0 }
set_option maxHeartbeats 4000000 in
set_option maxRecDepth 100000 in
theorem tX10_clear (l : Launch) (dC : Nat → ClassId) (dI : Nat → Nat → Nat) (cI cZ : ClassId) (q_away q_kept q_this : Nat) (sz : Nat) (v_days : Int32) (v_spilled : Int32) (v_river : Int32) (v_kept : Nat → Int32) (v_away : Nat → Int32) (out : Int32 × Int32 × Int32 × (Nat → Int32) × (Nat → Int32)) (hrun : fX10_clear v_days v_spilled v_river v_kept v_away = some out) : Met l yX10_clear wsX10_clear rmX10_clear (va_Pc [.ref q_this] (fun U => U.heap.size = sz ∧ va_P (dC, dI) vwCl [(q_this, .inr (10, [.ref q_kept, .ref q_away, .int v_days, .int v_spilled, .int v_river])), (q_kept, .inl (cI, 8, .inl v_kept)), (q_away, .inl (cI, 8, .inl v_away))] U.heap ∧ va_K (dC, dI) vwCl [(cI, .int), (cZ, .boolean)] U ∧ va_D (fun _ => True) [(q_this, .inr (10, [.ref q_kept, .ref q_away, .int v_days, .int v_spilled, .int v_river])), (q_kept, .inl (cI, 8, .inl v_kept)), (q_away, .inl (cI, 8, .inl v_away))])) (va_Qv (fun _ : Unit => True) (fun _ t => va_P (dC, dI) vwCl [(q_this, .inr (10, [.ref q_kept, .ref q_away, .int out.1, .int out.2.1, .int out.2.2.1])), (q_kept, .inl (cI, 8, .inl out.2.2.2.1)), (q_away, .inl (cI, 8, .inl out.2.2.2.2))] t.heap ∧ va_K (dC, dI) vwCl [(cI, .int), (cZ, .boolean)] t ∧ va_D (va_A [(q_this, .inr (10, [.ref q_kept, .ref q_away, .int v_days, .int v_spilled, .int v_river])), (q_kept, .inl (cI, 8, .inl v_kept)), (q_away, .inl (cI, 8, .inl v_away))] sz) [(q_this, .inr (10, [.ref q_kept, .ref q_away, .int out.1, .int out.2.1, .int out.2.2.1])), (q_kept, .inl (cI, 8, .inl out.2.2.2.1)), (q_away, .inl (cI, 8, .inl out.2.2.2.2))]) (va_A [(q_this, .inr (10, [.ref q_kept, .ref q_away, .int v_days, .int v_spilled, .int v_river])), (q_kept, .inl (cI, 8, .inl v_kept)), (q_away, .inl (cI, 8, .inl v_away))] sz)) 0 0 (va_A [(q_this, .inr (10, [.ref q_kept, .ref q_away, .int v_days, .int v_spilled, .int v_river])), (q_kept, .inl (cI, 8, .inl v_kept)), (q_away, .inl (cI, 8, .inl v_away))] sz) := by
  refine Met.ofW (cc := cX10_clear) (maxL := 2) (ret := none) (by decide) rfl ?_
  intro p e s m args below meth c s₁ B hml hv
  obtain ⟨rfl, hsz, hP, hK, hD0⟩ := hv
  have hx := B.exec
  have hb := B.bytes
  have hr := B.returns
  have hts := atoms_spec (ws := wsX10_clear) B.pre
  have hown : s.vm.findClass RX10 = some m.cls := findClass_of_methodNamed B.named
  have hlocks := B.notSynchronized
  subst hsz
  have hD := hD0.self (sz := s.heap.size)
  generalize hAe : va_A [(q_this, .inr (10, [.ref q_kept, .ref q_away, .int v_days, .int v_spilled, .int v_river])), (q_kept, .inl (cI, 8, .inl v_kept)), (q_away, .inl (cI, 8, .inl v_away))] s.heap.size = A at hD ⊢
  have hA : ∀ q : Nat, s.heap.size ≤ q → A q := fun q h => by rw [← hAe]; exact Or.inr h
  have hS : va_S A s.heap s.heap [] := va_S.rf
  have hl := lv_entry ([.ref q_this]) (n := 2) (Nat.le_of_ble_eq_true rfl)
  rw [lg_entry_eq]
  generalize (lg_sl ([.ref q_this]) ++ List.replicate (2 - (lg_sl ([.ref q_this])).length) Slot.unset).toArray = ls at hl ⊢
  have hl : lv_has ls 2 [(0, .ref q_this)] := hl
  unfold fX10_clear at hrun
  have hk9 := hts (.fieldLink RX10 9 "LentDrains$State" "kept" "[I") (by decide +kernel)
  have hiX10 : ∀ w ∈ wsX100, w ∈ wsX10_clear := by decide +kernel
  have hk15 := hts (.fieldLink RX10 15 "LentDrains$State" "away" "[I") (by decide +kernel)
  have hk18 := hts (.fieldLink RX10 18 "LentDrains$State" "days" "I") (by decide +kernel)
  have hk22 := hts (.fieldLink RX10 22 "LentDrains$State" "spilled" "I") (by decide +kernel)
  have hk25 := hts (.fieldLink RX10 25 "LentDrains$State" "river" "I") (by decide +kernel)
  refine oz_genQ (fun Q hQ => ?_)
  refine lv_iconst (v := 0) hx hb dX10_clear_0 (by decide) ?_
  refine lv_istore_n (lv' := [(1, .int 0), (0, .ref q_this)]) hx hb dX10_clear_1 rfl hl (by decide) rfl (fun ls hl => ?_)
  obtain ⟨o2, hlp2, hrun⟩ := oz_bind hrun
  have hL2 : ∀ (n : Nat) (w2 : Int32 × (Nat → Int32) × (Nat → Int32)) (o2 : Int32 × (Nat → Int32) × (Nat → Int32)), oz_loop fX10_clear_b2 n w2 = some o2 → (∀ (H : Heap) (locs : List Loc) (ls : Array Slot), va_P (dC, dI) vwCl [(q_this, .inr (10, [.ref q_kept, .ref q_away, .int v_days, .int v_spilled, .int v_river])), (q_kept, .inl (cI, 8, .inl o2.2.1)), (q_away, .inl (cI, 8, .inl o2.2.2))] H → va_D A [(q_this, .inr (10, [.ref q_kept, .ref q_away, .int v_days, .int v_spilled, .int v_river])), (q_kept, .inl (cI, 8, .inl o2.2.1)), (q_away, .inl (cI, 8, .inl o2.2.2))] → va_S A s.heap H locs → lv_has ls 2 [(1, .int o2.1), (0, .ref q_this)] → W p l e (headSpec wsX10_clear rmX10_clear).room s m (([.ref q_this] : List Value).toArray) below meth c H locs 0 0 Q (F0 m 28 ls [])) → ∀ (H : Heap) (locs : List Loc) (ls : Array Slot), va_P (dC, dI) vwCl [(q_this, .inr (10, [.ref q_kept, .ref q_away, .int v_days, .int v_spilled, .int v_river])), (q_kept, .inl (cI, 8, .inl w2.2.1)), (q_away, .inl (cI, 8, .inl w2.2.2))] H → va_D A [(q_this, .inr (10, [.ref q_kept, .ref q_away, .int v_days, .int v_spilled, .int v_river])), (q_kept, .inl (cI, 8, .inl w2.2.1)), (q_away, .inl (cI, 8, .inl w2.2.2))] → va_S A s.heap H locs → lv_has ls 2 [(1, .int w2.1), (0, .ref q_this)] → W p l e (headSpec wsX10_clear rmX10_clear).room s m (([.ref q_this] : List Value).toArray) below meth c H locs 0 0 Q (F0 m 2 ls []) := by
    intro n
    induction n with
    | zero => intro w2 o2 h9; exact (oz_zero h9).elim
    | succ n ih =>
      intro w2 o2 h9 hexit H locs ls hP hD hS hl
      obtain ⟨r9, hrun, hnext⟩ := oz_step h9
      unfold fX10_clear_b2 at hrun
      refine lv_iload_n hx hb dX10_clear_2 rfl (lv_at hl 0 rfl) ?_
      refine lv_bipush (v := 8) hx hb dX10_clear_3 (by decide) ?_
      refine lv_icmp_ge (tgt := 28) hx hb dX10_clear_5 (by decide) (fun c1 => ?_) (fun c1 => ?_)
      · have hrun := oz_t hrun c1
        have hr9 := Option.some.inj hrun
        subst hr9
        have ho9 : (w2.1, w2.2.1, w2.2.2) = o2 := hnext
        subst ho9
        exact hexit _ _ _ (hP.sub [0, 1, 2] rfl) (hD.sub [0, 1, 2] (by decide) rfl) hS (lv_sub hl [0, 1] rfl)
      · have hrun := oz_f hrun c1
        refine lv_aload_n hx hb dX10_clear_8 rfl (lv_at hl 1 rfl) ?_
        refine va_get (D := (dC, dI)) (ci := 10) (v := .ref q_kept) (C := RX10) (T := TX10) (N := 5) hx hb hts hiX10 hown hK hP 0 rfl rfl 0 (by decide) hk9 (fun _ h9 => h9) rfl dX10_clear_9 ?_
        refine lv_iload_n hx hb dX10_clear_12 rfl (lv_at hl 0 rfl) ?_
        refine lv_iconst (v := 0) hx hb dX10_clear_13 (by decide) ?_
        obtain ⟨c2, hrun⟩ := oz_chk hrun
        refine va_iast hx hb hK hP hD hS 1 0 rfl rfl c2 dX10_clear_14 (fun H locs hP hD hS => ?_)
        have hP : va_P (dC, dI) vwCl [(q_this, .inr (10, [.ref q_kept, .ref q_away, .int v_days, .int v_spilled, .int v_river])), (q_kept, .inl (cI, 8, .inl (upd w2.2.1 (Int32.toNatClampNeg w2.1) 0))), (q_away, .inl (cI, 8, .inl w2.2.2))] H := hP
        have hD : va_D A [(q_this, .inr (10, [.ref q_kept, .ref q_away, .int v_days, .int v_spilled, .int v_river])), (q_kept, .inl (cI, 8, .inl (upd w2.2.1 (Int32.toNatClampNeg w2.1) 0))), (q_away, .inl (cI, 8, .inl w2.2.2))] := hD
        refine lv_aload_n hx hb dX10_clear_15 rfl (lv_at hl 1 rfl) ?_
        refine va_get (D := (dC, dI)) (ci := 10) (v := .ref q_away) (C := RX10) (T := TX10) (N := 5) hx hb hts hiX10 hown hK hP 0 rfl rfl 1 (by decide) hk15 (fun _ h9 => h9) rfl dX10_clear_16 ?_
        refine lv_iload_n hx hb dX10_clear_19 rfl (lv_at hl 0 rfl) ?_
        refine lv_iconst (v := 0) hx hb dX10_clear_20 (by decide) ?_
        refine va_iast hx hb hK hP hD hS 2 0 rfl rfl c2 dX10_clear_21 (fun H locs hP hD hS => ?_)
        have hP : va_P (dC, dI) vwCl [(q_this, .inr (10, [.ref q_kept, .ref q_away, .int v_days, .int v_spilled, .int v_river])), (q_kept, .inl (cI, 8, .inl (upd w2.2.1 (Int32.toNatClampNeg w2.1) 0))), (q_away, .inl (cI, 8, .inl (upd w2.2.2 (Int32.toNatClampNeg w2.1) 0)))] H := hP
        have hD : va_D A [(q_this, .inr (10, [.ref q_kept, .ref q_away, .int v_days, .int v_spilled, .int v_river])), (q_kept, .inl (cI, 8, .inl (upd w2.2.1 (Int32.toNatClampNeg w2.1) 0))), (q_away, .inl (cI, 8, .inl (upd w2.2.2 (Int32.toNatClampNeg w2.1) 0)))] := hD
        refine lv_iinc (v := (w2.1 + 1)) (lv' := [(1, .int (w2.1 + 1)), (0, .ref q_this)]) hx hb dX10_clear_22 hl (k := 0) rfl rfl (by decide) rfl (fun ls hl => ?_)
        refine lv_goto (tgt := 2) hx hb dX10_clear_25 (by decide) ?_
        have hr9 := Option.some.inj hrun
        subst hr9
        exact ih ((w2.1 + 1), (upd w2.2.1 (Int32.toNatClampNeg w2.1) 0), (upd w2.2.2 (Int32.toNatClampNeg w2.1) 0)) _ hnext hexit _ _ _ (hP.sub [0, 1, 2] rfl) (hD.sub [0, 1, 2] (by decide) rfl) hS (lv_sub hl [0, 1] rfl)
  refine hL2 oz_fuel (0, v_kept, v_away) o2 hlp2 (fun H locs ls hP hD hS hl => ?_) _ _ _ (hP.sub [0, 1, 2] rfl) (hD.sub [0, 1, 2] (by decide) rfl) hS (lv_sub hl [0, 1] rfl)
  have hP : va_P (dC, dI) vwCl [(q_this, .inr (10, [.ref q_kept, .ref q_away, .int v_days, .int v_spilled, .int v_river])), (q_kept, .inl (cI, 8, .inl o2.2.1)), (q_away, .inl (cI, 8, .inl o2.2.2))] H := hP
  have hD : va_D A [(q_this, .inr (10, [.ref q_kept, .ref q_away, .int v_days, .int v_spilled, .int v_river])), (q_kept, .inl (cI, 8, .inl o2.2.1)), (q_away, .inl (cI, 8, .inl o2.2.2))] := hD
  have hl : lv_has ls 2 [(1, .int o2.1), (0, .ref q_this)] := hl
  refine lv_aload_n hx hb dX10_clear_28 rfl (lv_at hl 1 rfl) ?_
  refine lv_iconst (v := 0) hx hb dX10_clear_29 (by decide) ?_
  refine va_put (D := (dC, dI)) (ci := 10) (v := .int 0) (ty := .int) (C := RX10) (T := TX10) (N := 5) hx hb hts hiX10 tyX10 tyX10_ok nmX10 hown hK hP hD hS 0 rfl rfl 2 (by decide) hk18 (fun _ h9 => h9) rfl (by decide +kernel) rfl rfl (Nat.le_of_ble_eq_true rfl) dX10_clear_30 (fun H locs hP hD hS => ?_)
  have hP : va_P (dC, dI) vwCl [(q_this, .inr (10, [.ref q_kept, .ref q_away, .int 0, .int v_spilled, .int v_river])), (q_kept, .inl (cI, 8, .inl o2.2.1)), (q_away, .inl (cI, 8, .inl o2.2.2))] H := hP
  have hD : va_D A [(q_this, .inr (10, [.ref q_kept, .ref q_away, .int 0, .int v_spilled, .int v_river])), (q_kept, .inl (cI, 8, .inl o2.2.1)), (q_away, .inl (cI, 8, .inl o2.2.2))] := hD
  refine lv_aload_n hx hb dX10_clear_33 rfl (lv_at hl 1 rfl) ?_
  refine lv_iconst (v := 0) hx hb dX10_clear_34 (by decide) ?_
  refine va_put (D := (dC, dI)) (ci := 10) (v := .int 0) (ty := .int) (C := RX10) (T := TX10) (N := 5) hx hb hts hiX10 tyX10 tyX10_ok nmX10 hown hK hP hD hS 0 rfl rfl 3 (by decide) hk22 (fun _ h9 => h9) rfl (by decide +kernel) rfl rfl (Nat.le_of_ble_eq_true rfl) dX10_clear_35 (fun H locs hP hD hS => ?_)
  have hP : va_P (dC, dI) vwCl [(q_this, .inr (10, [.ref q_kept, .ref q_away, .int 0, .int 0, .int v_river])), (q_kept, .inl (cI, 8, .inl o2.2.1)), (q_away, .inl (cI, 8, .inl o2.2.2))] H := hP
  have hD : va_D A [(q_this, .inr (10, [.ref q_kept, .ref q_away, .int 0, .int 0, .int v_river])), (q_kept, .inl (cI, 8, .inl o2.2.1)), (q_away, .inl (cI, 8, .inl o2.2.2))] := hD
  refine lv_aload_n hx hb dX10_clear_38 rfl (lv_at hl 1 rfl) ?_
  refine lv_iconst (v := 0) hx hb dX10_clear_39 (by decide) ?_
  refine va_put (D := (dC, dI)) (ci := 10) (v := .int 0) (ty := .int) (C := RX10) (T := TX10) (N := 5) hx hb hts hiX10 tyX10 tyX10_ok nmX10 hown hK hP hD hS 0 rfl rfl 4 (by decide) hk25 (fun _ h9 => h9) rfl (by decide +kernel) rfl rfl (Nat.le_of_ble_eq_true rfl) dX10_clear_40 (fun H locs hP hD hS => ?_)
  have hP : va_P (dC, dI) vwCl [(q_this, .inr (10, [.ref q_kept, .ref q_away, .int 0, .int 0, .int 0])), (q_kept, .inl (cI, 8, .inl o2.2.1)), (q_away, .inl (cI, 8, .inl o2.2.2))] H := hP
  have hD : va_D A [(q_this, .inr (10, [.ref q_kept, .ref q_away, .int 0, .int 0, .int 0])), (q_kept, .inl (cI, 8, .inl o2.2.1)), (q_away, .inl (cI, 8, .inl o2.2.2))] := hD
  have ho9 := Option.some.inj hrun
  subst ho9
  have hP9 := hP.sub (ws' := [(q_this, .inr (10, [.ref q_kept, .ref q_away, .int 0, .int 0, .int 0])), (q_kept, .inl (cI, 8, .inl o2.2.1)), (q_away, .inl (cI, 8, .inl o2.2.2))]) [0, 1, 2] rfl
  have hD9 := hD.sub (ws' := [(q_this, .inr (10, [.ref q_kept, .ref q_away, .int 0, .int 0, .int 0])), (q_kept, .inl (cI, 8, .inl o2.2.1)), (q_away, .inl (cI, 8, .inl o2.2.2))]) [0, 1, 2] (by decide) rfl
  rw [hQ]
  exact W.vret hx hb hr (fun t ht hW => ⟨⟨(), rfl, trivial, by rw [ht]; exact hP9, va_K.moved hW.alike hK, hD9⟩, hS.F ht⟩) hS.2.2 dX10_clear_43
def fX10_copyFrom (v_days : Int32) (v_spilled : Int32) (v_river : Int32) (v_kept : Nat → Int32) (v_away : Nat → Int32) (v_p1_days : Int32) (v_p1_spilled : Int32) (v_p1_river : Int32) (v_p1_kept : Nat → Int32) (v_p1_away : Nat → Int32) : Option (Int32 × Int32 × Int32 × (Nat → Int32) × (Nat → Int32)) :=
  some (v_p1_days, v_p1_spilled, v_p1_river, (va_cpy v_p1_kept v_kept (Int32.toNatClampNeg (0 : Int32)) (Int32.toNatClampNeg (0 : Int32)) (Int32.toNatClampNeg (8 : Int32))), (va_cpy v_p1_away v_away (Int32.toNatClampNeg (0 : Int32)) (Int32.toNatClampNeg (0 : Int32)) (Int32.toNatClampNeg (8 : Int32))))
def rmX10_copyFrom : Room := { frames := 1, cells := 0, slots := 0, locals := 26 }
set_option maxHeartbeats 4000000 in
set_option maxRecDepth 100000 in
theorem tX10_copyFrom (l : Launch) (dC : Nat → ClassId) (dI : Nat → Nat → Nat) (cI cZ : ClassId) (q_away q_kept q_p1 q_p1_away q_p1_kept q_this : Nat) (sz : Nat) (v_days : Int32) (v_spilled : Int32) (v_river : Int32) (v_kept : Nat → Int32) (v_away : Nat → Int32) (v_p1_days : Int32) (v_p1_spilled : Int32) (v_p1_river : Int32) (v_p1_kept : Nat → Int32) (v_p1_away : Nat → Int32) (out : Int32 × Int32 × Int32 × (Nat → Int32) × (Nat → Int32)) (hrun : fX10_copyFrom v_days v_spilled v_river v_kept v_away v_p1_days v_p1_spilled v_p1_river v_p1_kept v_p1_away = some out) : Met l yX10_copyFrom wsX10_copyFrom rmX10_copyFrom (va_Pc [.ref q_this, .ref q_p1] (fun U => U.heap.size = sz ∧ va_P (dC, dI) vwCl [(q_this, .inr (10, [.ref q_kept, .ref q_away, .int v_days, .int v_spilled, .int v_river])), (q_kept, .inl (cI, 8, .inl v_kept)), (q_away, .inl (cI, 8, .inl v_away)), (q_p1, .inr (10, [.ref q_p1_kept, .ref q_p1_away, .int v_p1_days, .int v_p1_spilled, .int v_p1_river])), (q_p1_kept, .inl (cI, 8, .inl v_p1_kept)), (q_p1_away, .inl (cI, 8, .inl v_p1_away))] U.heap ∧ va_K (dC, dI) vwCl [(cI, .int), (cZ, .boolean)] U ∧ va_D (fun _ => True) [(q_this, .inr (10, [.ref q_kept, .ref q_away, .int v_days, .int v_spilled, .int v_river])), (q_kept, .inl (cI, 8, .inl v_kept)), (q_away, .inl (cI, 8, .inl v_away)), (q_p1, .inr (10, [.ref q_p1_kept, .ref q_p1_away, .int v_p1_days, .int v_p1_spilled, .int v_p1_river])), (q_p1_kept, .inl (cI, 8, .inl v_p1_kept)), (q_p1_away, .inl (cI, 8, .inl v_p1_away))])) (va_Qv (fun _ : Unit => True) (fun _ t => va_P (dC, dI) vwCl [(q_this, .inr (10, [.ref q_kept, .ref q_away, .int out.1, .int out.2.1, .int out.2.2.1])), (q_kept, .inl (cI, 8, .inl out.2.2.2.1)), (q_away, .inl (cI, 8, .inl out.2.2.2.2)), (q_p1, .inr (10, [.ref q_p1_kept, .ref q_p1_away, .int v_p1_days, .int v_p1_spilled, .int v_p1_river])), (q_p1_kept, .inl (cI, 8, .inl v_p1_kept)), (q_p1_away, .inl (cI, 8, .inl v_p1_away))] t.heap ∧ va_K (dC, dI) vwCl [(cI, .int), (cZ, .boolean)] t ∧ va_D (va_A [(q_this, .inr (10, [.ref q_kept, .ref q_away, .int v_days, .int v_spilled, .int v_river])), (q_kept, .inl (cI, 8, .inl v_kept)), (q_away, .inl (cI, 8, .inl v_away)), (q_p1, .inr (10, [.ref q_p1_kept, .ref q_p1_away, .int v_p1_days, .int v_p1_spilled, .int v_p1_river])), (q_p1_kept, .inl (cI, 8, .inl v_p1_kept)), (q_p1_away, .inl (cI, 8, .inl v_p1_away))] sz) [(q_this, .inr (10, [.ref q_kept, .ref q_away, .int out.1, .int out.2.1, .int out.2.2.1])), (q_kept, .inl (cI, 8, .inl out.2.2.2.1)), (q_away, .inl (cI, 8, .inl out.2.2.2.2)), (q_p1, .inr (10, [.ref q_p1_kept, .ref q_p1_away, .int v_p1_days, .int v_p1_spilled, .int v_p1_river])), (q_p1_kept, .inl (cI, 8, .inl v_p1_kept)), (q_p1_away, .inl (cI, 8, .inl v_p1_away))]) (va_A [(q_this, .inr (10, [.ref q_kept, .ref q_away, .int v_days, .int v_spilled, .int v_river])), (q_kept, .inl (cI, 8, .inl v_kept)), (q_away, .inl (cI, 8, .inl v_away)), (q_p1, .inr (10, [.ref q_p1_kept, .ref q_p1_away, .int v_p1_days, .int v_p1_spilled, .int v_p1_river])), (q_p1_kept, .inl (cI, 8, .inl v_p1_kept)), (q_p1_away, .inl (cI, 8, .inl v_p1_away))] sz)) 0 0 (va_A [(q_this, .inr (10, [.ref q_kept, .ref q_away, .int v_days, .int v_spilled, .int v_river])), (q_kept, .inl (cI, 8, .inl v_kept)), (q_away, .inl (cI, 8, .inl v_away)), (q_p1, .inr (10, [.ref q_p1_kept, .ref q_p1_away, .int v_p1_days, .int v_p1_spilled, .int v_p1_river])), (q_p1_kept, .inl (cI, 8, .inl v_p1_kept)), (q_p1_away, .inl (cI, 8, .inl v_p1_away))] sz) := by
  refine Met.ofW (cc := cX10_copyFrom) (maxL := 2) (ret := none) (by decide) rfl ?_
  intro p e s m args below meth c s₁ B hml hv
  obtain ⟨rfl, hsz, hP, hK, hD0⟩ := hv
  have hx := B.exec
  have hb := B.bytes
  have hr := B.returns
  have hts := atoms_spec (ws := wsX10_copyFrom) B.pre
  have hown : s.vm.findClass RX10 = some m.cls := findClass_of_methodNamed B.named
  have hlocks := B.notSynchronized
  subst hsz
  have hD := hD0.self (sz := s.heap.size)
  generalize hAe : va_A [(q_this, .inr (10, [.ref q_kept, .ref q_away, .int v_days, .int v_spilled, .int v_river])), (q_kept, .inl (cI, 8, .inl v_kept)), (q_away, .inl (cI, 8, .inl v_away)), (q_p1, .inr (10, [.ref q_p1_kept, .ref q_p1_away, .int v_p1_days, .int v_p1_spilled, .int v_p1_river])), (q_p1_kept, .inl (cI, 8, .inl v_p1_kept)), (q_p1_away, .inl (cI, 8, .inl v_p1_away))] s.heap.size = A at hD ⊢
  have hA : ∀ q : Nat, s.heap.size ≤ q → A q := fun q h => by rw [← hAe]; exact Or.inr h
  have hS : va_S A s.heap s.heap [] := va_S.rf
  have hl := lv_entry ([.ref q_this, .ref q_p1]) (n := 2) (Nat.le_of_ble_eq_true rfl)
  rw [lg_entry_eq]
  generalize (lg_sl ([.ref q_this, .ref q_p1]) ++ List.replicate (2 - (lg_sl ([.ref q_this, .ref q_p1])).length) Slot.unset).toArray = ls at hl ⊢
  have hl : lv_has ls 2 [(0, .ref q_this), (1, .ref q_p1)] := hl
  unfold fX10_copyFrom at hrun
  have hk9 := hts (.fieldLink RX10 9 "LentDrains$State" "kept" "[I") (by decide +kernel)
  have hiX10 : ∀ w ∈ wsX100, w ∈ wsX10_copyFrom := by decide +kernel
  have hk28 := hts (.methodLink RX10 28 arraycopyName) (by decide +kernel)
  have hacn := hts (.native arraycopyName) (by decide +kernel)
  have hacs := hts (.static arraycopyName) (by decide +kernel)
  have haci := hts (.initialized "java/lang/System") (by decide +kernel)
  have hk15 := hts (.fieldLink RX10 15 "LentDrains$State" "away" "[I") (by decide +kernel)
  have hk18 := hts (.fieldLink RX10 18 "LentDrains$State" "days" "I") (by decide +kernel)
  have hk22 := hts (.fieldLink RX10 22 "LentDrains$State" "spilled" "I") (by decide +kernel)
  have hk25 := hts (.fieldLink RX10 25 "LentDrains$State" "river" "I") (by decide +kernel)
  refine oz_genQ (fun Q hQ => ?_)
  refine lv_aload_n hx hb dX10_copyFrom_0 rfl (lv_at hl 1 rfl) ?_
  refine va_get (D := (dC, dI)) (ci := 10) (v := .ref q_p1_kept) (C := RX10) (T := TX10) (N := 5) hx hb hts hiX10 hown hK hP 3 rfl rfl 0 (by decide) hk9 (fun _ h9 => h9) rfl dX10_copyFrom_1 ?_
  refine lv_iconst (v := 0) hx hb dX10_copyFrom_4 (by decide) ?_
  refine lv_aload_n hx hb dX10_copyFrom_5 rfl (lv_at hl 0 rfl) ?_
  refine va_get (D := (dC, dI)) (ci := 10) (v := .ref q_kept) (C := RX10) (T := TX10) (N := 5) hx hb hts hiX10 hown hK hP 0 rfl rfl 0 (by decide) hk9 (fun _ h9 => h9) rfl dX10_copyFrom_6 ?_
  refine lv_iconst (v := 0) hx hb dX10_copyFrom_9 (by decide) ?_
  refine lv_bipush (v := 8) hx hb dX10_copyFrom_10 (by decide) ?_
  refine va_copyi (ty := .int) hx hb (hml.trans hl.1.symm) hown hk28 hacn hacs haci hK hP hD hS 4 1 0 0 rfl rfl rfl rfl rfl (by decide) (by decide) (by decide) (by decide) (by decide) (fun _ _ => rfl) (Nat.le_of_ble_eq_true rfl) (by decide +kernel) dX10_copyFrom_12 (fun H locs hP hD hS => ?_)
  have hP : va_P (dC, dI) vwCl [(q_this, .inr (10, [.ref q_kept, .ref q_away, .int v_days, .int v_spilled, .int v_river])), (q_kept, .inl (cI, 8, .inl (va_cpy v_p1_kept v_kept (Int32.toNatClampNeg (0 : Int32)) (Int32.toNatClampNeg (0 : Int32)) (Int32.toNatClampNeg (8 : Int32))))), (q_away, .inl (cI, 8, .inl v_away)), (q_p1, .inr (10, [.ref q_p1_kept, .ref q_p1_away, .int v_p1_days, .int v_p1_spilled, .int v_p1_river])), (q_p1_kept, .inl (cI, 8, .inl v_p1_kept)), (q_p1_away, .inl (cI, 8, .inl v_p1_away))] H := hP
  have hD : va_D A [(q_this, .inr (10, [.ref q_kept, .ref q_away, .int v_days, .int v_spilled, .int v_river])), (q_kept, .inl (cI, 8, .inl (va_cpy v_p1_kept v_kept (Int32.toNatClampNeg (0 : Int32)) (Int32.toNatClampNeg (0 : Int32)) (Int32.toNatClampNeg (8 : Int32))))), (q_away, .inl (cI, 8, .inl v_away)), (q_p1, .inr (10, [.ref q_p1_kept, .ref q_p1_away, .int v_p1_days, .int v_p1_spilled, .int v_p1_river])), (q_p1_kept, .inl (cI, 8, .inl v_p1_kept)), (q_p1_away, .inl (cI, 8, .inl v_p1_away))] := hD
  refine lv_aload_n hx hb dX10_copyFrom_15 rfl (lv_at hl 1 rfl) ?_
  refine va_get (D := (dC, dI)) (ci := 10) (v := .ref q_p1_away) (C := RX10) (T := TX10) (N := 5) hx hb hts hiX10 hown hK hP 3 rfl rfl 1 (by decide) hk15 (fun _ h9 => h9) rfl dX10_copyFrom_16 ?_
  refine lv_iconst (v := 0) hx hb dX10_copyFrom_19 (by decide) ?_
  refine lv_aload_n hx hb dX10_copyFrom_20 rfl (lv_at hl 0 rfl) ?_
  refine va_get (D := (dC, dI)) (ci := 10) (v := .ref q_away) (C := RX10) (T := TX10) (N := 5) hx hb hts hiX10 hown hK hP 0 rfl rfl 1 (by decide) hk15 (fun _ h9 => h9) rfl dX10_copyFrom_21 ?_
  refine lv_iconst (v := 0) hx hb dX10_copyFrom_24 (by decide) ?_
  refine lv_bipush (v := 8) hx hb dX10_copyFrom_25 (by decide) ?_
  refine va_copyi (ty := .int) hx hb (hml.trans hl.1.symm) hown hk28 hacn hacs haci hK hP hD hS 5 2 0 0 rfl rfl rfl rfl rfl (by decide) (by decide) (by decide) (by decide) (by decide) (fun _ _ => rfl) (Nat.le_of_ble_eq_true rfl) (by decide +kernel) dX10_copyFrom_27 (fun H locs hP hD hS => ?_)
  have hP : va_P (dC, dI) vwCl [(q_this, .inr (10, [.ref q_kept, .ref q_away, .int v_days, .int v_spilled, .int v_river])), (q_kept, .inl (cI, 8, .inl (va_cpy v_p1_kept v_kept (Int32.toNatClampNeg (0 : Int32)) (Int32.toNatClampNeg (0 : Int32)) (Int32.toNatClampNeg (8 : Int32))))), (q_away, .inl (cI, 8, .inl (va_cpy v_p1_away v_away (Int32.toNatClampNeg (0 : Int32)) (Int32.toNatClampNeg (0 : Int32)) (Int32.toNatClampNeg (8 : Int32))))), (q_p1, .inr (10, [.ref q_p1_kept, .ref q_p1_away, .int v_p1_days, .int v_p1_spilled, .int v_p1_river])), (q_p1_kept, .inl (cI, 8, .inl v_p1_kept)), (q_p1_away, .inl (cI, 8, .inl v_p1_away))] H := hP
  have hD : va_D A [(q_this, .inr (10, [.ref q_kept, .ref q_away, .int v_days, .int v_spilled, .int v_river])), (q_kept, .inl (cI, 8, .inl (va_cpy v_p1_kept v_kept (Int32.toNatClampNeg (0 : Int32)) (Int32.toNatClampNeg (0 : Int32)) (Int32.toNatClampNeg (8 : Int32))))), (q_away, .inl (cI, 8, .inl (va_cpy v_p1_away v_away (Int32.toNatClampNeg (0 : Int32)) (Int32.toNatClampNeg (0 : Int32)) (Int32.toNatClampNeg (8 : Int32))))), (q_p1, .inr (10, [.ref q_p1_kept, .ref q_p1_away, .int v_p1_days, .int v_p1_spilled, .int v_p1_river])), (q_p1_kept, .inl (cI, 8, .inl v_p1_kept)), (q_p1_away, .inl (cI, 8, .inl v_p1_away))] := hD
  refine lv_aload_n hx hb dX10_copyFrom_30 rfl (lv_at hl 0 rfl) ?_
  refine lv_aload_n hx hb dX10_copyFrom_31 rfl (lv_at hl 1 rfl) ?_
  refine va_get (D := (dC, dI)) (ci := 10) (v := .int v_p1_days) (C := RX10) (T := TX10) (N := 5) hx hb hts hiX10 hown hK hP 3 rfl rfl 2 (by decide) hk18 (fun _ h9 => h9) rfl dX10_copyFrom_32 ?_
  refine va_put (D := (dC, dI)) (ci := 10) (v := .int v_p1_days) (ty := .int) (C := RX10) (T := TX10) (N := 5) hx hb hts hiX10 tyX10 tyX10_ok nmX10 hown hK hP hD hS 0 rfl rfl 2 (by decide) hk18 (fun _ h9 => h9) rfl (by decide +kernel) rfl rfl (Nat.le_of_ble_eq_true rfl) dX10_copyFrom_35 (fun H locs hP hD hS => ?_)
  have hP : va_P (dC, dI) vwCl [(q_this, .inr (10, [.ref q_kept, .ref q_away, .int v_p1_days, .int v_spilled, .int v_river])), (q_kept, .inl (cI, 8, .inl (va_cpy v_p1_kept v_kept (Int32.toNatClampNeg (0 : Int32)) (Int32.toNatClampNeg (0 : Int32)) (Int32.toNatClampNeg (8 : Int32))))), (q_away, .inl (cI, 8, .inl (va_cpy v_p1_away v_away (Int32.toNatClampNeg (0 : Int32)) (Int32.toNatClampNeg (0 : Int32)) (Int32.toNatClampNeg (8 : Int32))))), (q_p1, .inr (10, [.ref q_p1_kept, .ref q_p1_away, .int v_p1_days, .int v_p1_spilled, .int v_p1_river])), (q_p1_kept, .inl (cI, 8, .inl v_p1_kept)), (q_p1_away, .inl (cI, 8, .inl v_p1_away))] H := hP
  have hD : va_D A [(q_this, .inr (10, [.ref q_kept, .ref q_away, .int v_p1_days, .int v_spilled, .int v_river])), (q_kept, .inl (cI, 8, .inl (va_cpy v_p1_kept v_kept (Int32.toNatClampNeg (0 : Int32)) (Int32.toNatClampNeg (0 : Int32)) (Int32.toNatClampNeg (8 : Int32))))), (q_away, .inl (cI, 8, .inl (va_cpy v_p1_away v_away (Int32.toNatClampNeg (0 : Int32)) (Int32.toNatClampNeg (0 : Int32)) (Int32.toNatClampNeg (8 : Int32))))), (q_p1, .inr (10, [.ref q_p1_kept, .ref q_p1_away, .int v_p1_days, .int v_p1_spilled, .int v_p1_river])), (q_p1_kept, .inl (cI, 8, .inl v_p1_kept)), (q_p1_away, .inl (cI, 8, .inl v_p1_away))] := hD
  refine lv_aload_n hx hb dX10_copyFrom_38 rfl (lv_at hl 0 rfl) ?_
  refine lv_aload_n hx hb dX10_copyFrom_39 rfl (lv_at hl 1 rfl) ?_
  refine va_get (D := (dC, dI)) (ci := 10) (v := .int v_p1_spilled) (C := RX10) (T := TX10) (N := 5) hx hb hts hiX10 hown hK hP 3 rfl rfl 3 (by decide) hk22 (fun _ h9 => h9) rfl dX10_copyFrom_40 ?_
  refine va_put (D := (dC, dI)) (ci := 10) (v := .int v_p1_spilled) (ty := .int) (C := RX10) (T := TX10) (N := 5) hx hb hts hiX10 tyX10 tyX10_ok nmX10 hown hK hP hD hS 0 rfl rfl 3 (by decide) hk22 (fun _ h9 => h9) rfl (by decide +kernel) rfl rfl (Nat.le_of_ble_eq_true rfl) dX10_copyFrom_43 (fun H locs hP hD hS => ?_)
  have hP : va_P (dC, dI) vwCl [(q_this, .inr (10, [.ref q_kept, .ref q_away, .int v_p1_days, .int v_p1_spilled, .int v_river])), (q_kept, .inl (cI, 8, .inl (va_cpy v_p1_kept v_kept (Int32.toNatClampNeg (0 : Int32)) (Int32.toNatClampNeg (0 : Int32)) (Int32.toNatClampNeg (8 : Int32))))), (q_away, .inl (cI, 8, .inl (va_cpy v_p1_away v_away (Int32.toNatClampNeg (0 : Int32)) (Int32.toNatClampNeg (0 : Int32)) (Int32.toNatClampNeg (8 : Int32))))), (q_p1, .inr (10, [.ref q_p1_kept, .ref q_p1_away, .int v_p1_days, .int v_p1_spilled, .int v_p1_river])), (q_p1_kept, .inl (cI, 8, .inl v_p1_kept)), (q_p1_away, .inl (cI, 8, .inl v_p1_away))] H := hP
  have hD : va_D A [(q_this, .inr (10, [.ref q_kept, .ref q_away, .int v_p1_days, .int v_p1_spilled, .int v_river])), (q_kept, .inl (cI, 8, .inl (va_cpy v_p1_kept v_kept (Int32.toNatClampNeg (0 : Int32)) (Int32.toNatClampNeg (0 : Int32)) (Int32.toNatClampNeg (8 : Int32))))), (q_away, .inl (cI, 8, .inl (va_cpy v_p1_away v_away (Int32.toNatClampNeg (0 : Int32)) (Int32.toNatClampNeg (0 : Int32)) (Int32.toNatClampNeg (8 : Int32))))), (q_p1, .inr (10, [.ref q_p1_kept, .ref q_p1_away, .int v_p1_days, .int v_p1_spilled, .int v_p1_river])), (q_p1_kept, .inl (cI, 8, .inl v_p1_kept)), (q_p1_away, .inl (cI, 8, .inl v_p1_away))] := hD
  refine lv_aload_n hx hb dX10_copyFrom_46 rfl (lv_at hl 0 rfl) ?_
  refine lv_aload_n hx hb dX10_copyFrom_47 rfl (lv_at hl 1 rfl) ?_
  refine va_get (D := (dC, dI)) (ci := 10) (v := .int v_p1_river) (C := RX10) (T := TX10) (N := 5) hx hb hts hiX10 hown hK hP 3 rfl rfl 4 (by decide) hk25 (fun _ h9 => h9) rfl dX10_copyFrom_48 ?_
  refine va_put (D := (dC, dI)) (ci := 10) (v := .int v_p1_river) (ty := .int) (C := RX10) (T := TX10) (N := 5) hx hb hts hiX10 tyX10 tyX10_ok nmX10 hown hK hP hD hS 0 rfl rfl 4 (by decide) hk25 (fun _ h9 => h9) rfl (by decide +kernel) rfl rfl (Nat.le_of_ble_eq_true rfl) dX10_copyFrom_51 (fun H locs hP hD hS => ?_)
  have hP : va_P (dC, dI) vwCl [(q_this, .inr (10, [.ref q_kept, .ref q_away, .int v_p1_days, .int v_p1_spilled, .int v_p1_river])), (q_kept, .inl (cI, 8, .inl (va_cpy v_p1_kept v_kept (Int32.toNatClampNeg (0 : Int32)) (Int32.toNatClampNeg (0 : Int32)) (Int32.toNatClampNeg (8 : Int32))))), (q_away, .inl (cI, 8, .inl (va_cpy v_p1_away v_away (Int32.toNatClampNeg (0 : Int32)) (Int32.toNatClampNeg (0 : Int32)) (Int32.toNatClampNeg (8 : Int32))))), (q_p1, .inr (10, [.ref q_p1_kept, .ref q_p1_away, .int v_p1_days, .int v_p1_spilled, .int v_p1_river])), (q_p1_kept, .inl (cI, 8, .inl v_p1_kept)), (q_p1_away, .inl (cI, 8, .inl v_p1_away))] H := hP
  have hD : va_D A [(q_this, .inr (10, [.ref q_kept, .ref q_away, .int v_p1_days, .int v_p1_spilled, .int v_p1_river])), (q_kept, .inl (cI, 8, .inl (va_cpy v_p1_kept v_kept (Int32.toNatClampNeg (0 : Int32)) (Int32.toNatClampNeg (0 : Int32)) (Int32.toNatClampNeg (8 : Int32))))), (q_away, .inl (cI, 8, .inl (va_cpy v_p1_away v_away (Int32.toNatClampNeg (0 : Int32)) (Int32.toNatClampNeg (0 : Int32)) (Int32.toNatClampNeg (8 : Int32))))), (q_p1, .inr (10, [.ref q_p1_kept, .ref q_p1_away, .int v_p1_days, .int v_p1_spilled, .int v_p1_river])), (q_p1_kept, .inl (cI, 8, .inl v_p1_kept)), (q_p1_away, .inl (cI, 8, .inl v_p1_away))] := hD
  have ho9 := Option.some.inj hrun
  subst ho9
  have hP9 := hP.sub (ws' := [(q_this, .inr (10, [.ref q_kept, .ref q_away, .int v_p1_days, .int v_p1_spilled, .int v_p1_river])), (q_kept, .inl (cI, 8, .inl (va_cpy v_p1_kept v_kept (Int32.toNatClampNeg (0 : Int32)) (Int32.toNatClampNeg (0 : Int32)) (Int32.toNatClampNeg (8 : Int32))))), (q_away, .inl (cI, 8, .inl (va_cpy v_p1_away v_away (Int32.toNatClampNeg (0 : Int32)) (Int32.toNatClampNeg (0 : Int32)) (Int32.toNatClampNeg (8 : Int32))))), (q_p1, .inr (10, [.ref q_p1_kept, .ref q_p1_away, .int v_p1_days, .int v_p1_spilled, .int v_p1_river])), (q_p1_kept, .inl (cI, 8, .inl v_p1_kept)), (q_p1_away, .inl (cI, 8, .inl v_p1_away))]) [0, 1, 2, 3, 4, 5] rfl
  have hD9 := hD.sub (ws' := [(q_this, .inr (10, [.ref q_kept, .ref q_away, .int v_p1_days, .int v_p1_spilled, .int v_p1_river])), (q_kept, .inl (cI, 8, .inl (va_cpy v_p1_kept v_kept (Int32.toNatClampNeg (0 : Int32)) (Int32.toNatClampNeg (0 : Int32)) (Int32.toNatClampNeg (8 : Int32))))), (q_away, .inl (cI, 8, .inl (va_cpy v_p1_away v_away (Int32.toNatClampNeg (0 : Int32)) (Int32.toNatClampNeg (0 : Int32)) (Int32.toNatClampNeg (8 : Int32))))), (q_p1, .inr (10, [.ref q_p1_kept, .ref q_p1_away, .int v_p1_days, .int v_p1_spilled, .int v_p1_river])), (q_p1_kept, .inl (cI, 8, .inl v_p1_kept)), (q_p1_away, .inl (cI, 8, .inl v_p1_away))]) [0, 1, 2, 3, 4, 5] (by decide) rfl
  rw [hQ]
  exact W.vret hx hb hr (fun t ht hW => ⟨⟨(), rfl, trivial, by rw [ht]; exact hP9, va_K.moved hW.alike hK, hD9⟩, hS.F ht⟩) hS.2.2 dX10_copyFrom_54
def fX10_addToRiver (v_river : Int32) (a1 : Int32) : Option (Int32) :=
  some (if (v_river + a1) < 9999999 then (v_river + a1) else 9999999)
def rmX10_addToRiver : Room := { frames := 1, cells := 0, slots := 0, locals := 26 }
set_option maxHeartbeats 4000000 in
set_option maxRecDepth 100000 in
theorem tX10_addToRiver (l : Launch) (dC : Nat → ClassId) (dI : Nat → Nat → Nat) (cI cZ : ClassId) (q_away q_kept q_this : Nat) (sz : Nat) (v_days : Int32) (v_spilled : Int32) (v_river : Int32) (a1 : Int32) (out : Int32) (hrun : fX10_addToRiver v_river a1 = some out) : Met l yX10_addToRiver wsX10_addToRiver rmX10_addToRiver (va_Pc [.ref q_this, .int a1] (fun U => U.heap.size = sz ∧ va_P (dC, dI) vwCl [(q_this, .inr (10, [.ref q_kept, .ref q_away, .int v_days, .int v_spilled, .int v_river]))] U.heap ∧ va_K (dC, dI) vwCl [(cI, .int), (cZ, .boolean)] U ∧ va_D (fun _ => True) [(q_this, .inr (10, [.ref q_kept, .ref q_away, .int v_days, .int v_spilled, .int v_river]))])) (va_Qv (fun _ : Unit => True) (fun _ t => va_P (dC, dI) vwCl [(q_this, .inr (10, [.ref q_kept, .ref q_away, .int v_days, .int v_spilled, .int out]))] t.heap ∧ va_K (dC, dI) vwCl [(cI, .int), (cZ, .boolean)] t ∧ va_D (va_A [(q_this, .inr (10, [.ref q_kept, .ref q_away, .int v_days, .int v_spilled, .int v_river]))] sz) [(q_this, .inr (10, [.ref q_kept, .ref q_away, .int v_days, .int v_spilled, .int out]))]) (va_A [(q_this, .inr (10, [.ref q_kept, .ref q_away, .int v_days, .int v_spilled, .int v_river]))] sz)) 0 0 (va_A [(q_this, .inr (10, [.ref q_kept, .ref q_away, .int v_days, .int v_spilled, .int v_river]))] sz) := by
  refine Met.ofW (cc := cX10_addToRiver) (maxL := 2) (ret := none) (by decide) rfl ?_
  intro p e s m args below meth c s₁ B hml hv
  obtain ⟨rfl, hsz, hP, hK, hD0⟩ := hv
  have hx := B.exec
  have hb := B.bytes
  have hr := B.returns
  have hts := atoms_spec (ws := wsX10_addToRiver) B.pre
  have hown : s.vm.findClass RX10 = some m.cls := findClass_of_methodNamed B.named
  have hlocks := B.notSynchronized
  subst hsz
  have hD := hD0.self (sz := s.heap.size)
  generalize hAe : va_A [(q_this, .inr (10, [.ref q_kept, .ref q_away, .int v_days, .int v_spilled, .int v_river]))] s.heap.size = A at hD ⊢
  have hA : ∀ q : Nat, s.heap.size ≤ q → A q := fun q h => by rw [← hAe]; exact Or.inr h
  have hS : va_S A s.heap s.heap [] := va_S.rf
  have hl := lv_entry ([.ref q_this, .int a1]) (n := 2) (Nat.le_of_ble_eq_true rfl)
  rw [lg_entry_eq]
  generalize (lg_sl ([.ref q_this, .int a1]) ++ List.replicate (2 - (lg_sl ([.ref q_this, .int a1])).length) Slot.unset).toArray = ls at hl ⊢
  have hl : lv_has ls 2 [(0, .ref q_this), (1, .int a1)] := hl
  unfold fX10_addToRiver at hrun
  have hk72 := hts (.constant RX10 72 (9999999)) (by decide +kernel)
  have hk25 := hts (.fieldLink RX10 25 "LentDrains$State" "river" "I") (by decide +kernel)
  have hiX10 : ∀ w ∈ wsX100, w ∈ wsX10_addToRiver := by decide +kernel
  have hk56 := hts (.methodLink RX10 56 Lib.Math.min.name) (by decide +kernel)
  have hst_min := hts (.static Lib.Math.min.name) (by decide +kernel)
  have hiniM := hts (.initialized "java/lang/Math") (by decide +kernel)
  have hcd_min := hts (.code Lib.Math.min.name Lib.Math.min.code 2 (some .int)) (by decide +kernel)
  refine oz_genQ (fun Q hQ => ?_)
  refine lv_aload_n hx hb dX10_addToRiver_0 rfl (lv_at hl 0 rfl) ?_
  refine lv_ldc hx hb hown hk72 dX10_addToRiver_1 ?_
  refine lv_aload_n hx hb dX10_addToRiver_3 rfl (lv_at hl 0 rfl) ?_
  refine va_get (D := (dC, dI)) (ci := 10) (v := .int v_river) (C := RX10) (T := TX10) (N := 5) hx hb hts hiX10 hown hK hP 0 rfl rfl 4 (by decide) hk25 (fun _ h9 => h9) rfl dX10_addToRiver_4 ?_
  refine lv_iload_n hx hb dX10_addToRiver_7 rfl (lv_at hl 1 rfl) ?_
  refine lv_iadd hx hb dX10_addToRiver_8 ?_
  refine va_mmin hx hb (hml.trans hl.1.symm) hown hk56 hst_min hiniM hcd_min (Nat.le_of_ble_eq_true rfl) (Nat.le_of_ble_eq_true rfl) (Nat.zero_le _) (Nat.zero_le _) dX10_addToRiver_9 ?_
  refine va_put (D := (dC, dI)) (ci := 10) (v := .int (if (v_river + a1) < 9999999 then (v_river + a1) else 9999999)) (ty := .int) (C := RX10) (T := TX10) (N := 5) hx hb hts hiX10 tyX10 tyX10_ok nmX10 hown hK hP hD hS 0 rfl rfl 4 (by decide) hk25 (fun _ h9 => h9) rfl (by decide +kernel) rfl rfl (Nat.le_of_ble_eq_true rfl) dX10_addToRiver_12 (fun H locs hP hD hS => ?_)
  have hP : va_P (dC, dI) vwCl [(q_this, .inr (10, [.ref q_kept, .ref q_away, .int v_days, .int v_spilled, .int (if (v_river + a1) < 9999999 then (v_river + a1) else 9999999)]))] H := hP
  have hD : va_D A [(q_this, .inr (10, [.ref q_kept, .ref q_away, .int v_days, .int v_spilled, .int (if (v_river + a1) < 9999999 then (v_river + a1) else 9999999)]))] := hD
  have ho9 := Option.some.inj hrun
  subst ho9
  have hP9 := hP.sub (ws' := [(q_this, .inr (10, [.ref q_kept, .ref q_away, .int v_days, .int v_spilled, .int (if (v_river + a1) < 9999999 then (v_river + a1) else 9999999)]))]) [0] rfl
  have hD9 := hD.sub (ws' := [(q_this, .inr (10, [.ref q_kept, .ref q_away, .int v_days, .int v_spilled, .int (if (v_river + a1) < 9999999 then (v_river + a1) else 9999999)]))]) [0] (by decide) rfl
  rw [hQ]
  exact W.vret hx hb hr (fun t ht hW => ⟨⟨(), rfl, trivial, by rw [ht]; exact hP9, va_K.moved hW.alike hK, hD9⟩, hS.F ht⟩) hS.2.2 dX10_addToRiver_15
def fX10_spillOver_b2 (v_p1_houses : Int32) (v_p1_room : Nat → Int32) (w2 : Int32 × Int32 × (Nat → Int32)) : Option ((Int32 × Int32 × (Nat → Int32)) ⊕ (Int32 × Int32 × (Nat → Int32))) :=
  if v_p1_houses ≤ w2.1 then (some (.inr (w2.1, w2.2.1, w2.2.2))) else (if (w2.1 < 0 ∨ 8 ≤ Int32.toNatClampNeg w2.1) then none else if (w2.2.2 (Int32.toNatClampNeg w2.1)) ≤ (v_p1_room (Int32.toNatClampNeg w2.1)) then (some (.inl ((w2.1 + 1), w2.2.1, w2.2.2))) else (some (.inl ((w2.1 + 1), (if ((w2.2.1 + (w2.2.2 (Int32.toNatClampNeg w2.1))) - (v_p1_room (Int32.toNatClampNeg w2.1))) < 9999999 then ((w2.2.1 + (w2.2.2 (Int32.toNatClampNeg w2.1))) - (v_p1_room (Int32.toNatClampNeg w2.1))) else 9999999), (upd w2.2.2 (Int32.toNatClampNeg w2.1) (v_p1_room (Int32.toNatClampNeg w2.1)))))))
def fX10_spillOver (v_spilled : Int32) (v_kept : Nat → Int32) (v_p1_houses : Int32) (v_p1_room : Nat → Int32) : Option (Int32 × (Nat → Int32)) :=
  Option.bind (oz_loop (fX10_spillOver_b2 v_p1_houses v_p1_room) oz_fuel (0, v_spilled, v_kept)) (fun o2 => some (o2.2.1, o2.2.2))
def rmX10_spillOver : Room := { frames := 1, cells := 0, slots := 0, locals := 26 }
set_option maxHeartbeats 4000000 in
set_option maxRecDepth 100000 in
theorem tX10_spillOver (l : Launch) (dC : Nat → ClassId) (dI : Nat → Nat → Nat) (cI cZ : ClassId) (q_away q_kept q_p1 q_p1_above q_p1_daily q_p1_drain q_p1_room q_this : Nat) (sz : Nat) (v_days : Int32) (v_river : Int32) (v_p1_stands : Int32) (v_p1_lent : Int32) (v_p1_pipe : Int32) (v_spilled : Int32) (v_kept : Nat → Int32) (v_p1_houses : Int32) (v_p1_room : Nat → Int32) (out : Int32 × (Nat → Int32)) (hrun : fX10_spillOver v_spilled v_kept v_p1_houses v_p1_room = some out) : Met l yX10_spillOver wsX10_spillOver rmX10_spillOver (va_Pc [.ref q_this, .ref q_p1] (fun U => U.heap.size = sz ∧ va_P (dC, dI) vwCl [(q_this, .inr (10, [.ref q_kept, .ref q_away, .int v_days, .int v_spilled, .int v_river])), (q_kept, .inl (cI, 8, .inl v_kept)), (q_p1, .inr (6, [.int v_p1_stands, .int v_p1_lent, .int v_p1_pipe, .int v_p1_houses, .ref q_p1_room, .ref q_p1_daily, .ref q_p1_drain, .ref q_p1_above])), (q_p1_room, .inl (cI, 8, .inl v_p1_room))] U.heap ∧ va_K (dC, dI) vwCl [(cI, .int), (cZ, .boolean)] U ∧ va_D (fun _ => True) [(q_this, .inr (10, [.ref q_kept, .ref q_away, .int v_days, .int v_spilled, .int v_river])), (q_kept, .inl (cI, 8, .inl v_kept)), (q_p1, .inr (6, [.int v_p1_stands, .int v_p1_lent, .int v_p1_pipe, .int v_p1_houses, .ref q_p1_room, .ref q_p1_daily, .ref q_p1_drain, .ref q_p1_above])), (q_p1_room, .inl (cI, 8, .inl v_p1_room))])) (va_Qv (fun _ : Unit => True) (fun _ t => va_P (dC, dI) vwCl [(q_this, .inr (10, [.ref q_kept, .ref q_away, .int v_days, .int out.1, .int v_river])), (q_kept, .inl (cI, 8, .inl out.2)), (q_p1, .inr (6, [.int v_p1_stands, .int v_p1_lent, .int v_p1_pipe, .int v_p1_houses, .ref q_p1_room, .ref q_p1_daily, .ref q_p1_drain, .ref q_p1_above])), (q_p1_room, .inl (cI, 8, .inl v_p1_room))] t.heap ∧ va_K (dC, dI) vwCl [(cI, .int), (cZ, .boolean)] t ∧ va_D (va_A [(q_this, .inr (10, [.ref q_kept, .ref q_away, .int v_days, .int v_spilled, .int v_river])), (q_kept, .inl (cI, 8, .inl v_kept)), (q_p1, .inr (6, [.int v_p1_stands, .int v_p1_lent, .int v_p1_pipe, .int v_p1_houses, .ref q_p1_room, .ref q_p1_daily, .ref q_p1_drain, .ref q_p1_above])), (q_p1_room, .inl (cI, 8, .inl v_p1_room))] sz) [(q_this, .inr (10, [.ref q_kept, .ref q_away, .int v_days, .int out.1, .int v_river])), (q_kept, .inl (cI, 8, .inl out.2)), (q_p1, .inr (6, [.int v_p1_stands, .int v_p1_lent, .int v_p1_pipe, .int v_p1_houses, .ref q_p1_room, .ref q_p1_daily, .ref q_p1_drain, .ref q_p1_above])), (q_p1_room, .inl (cI, 8, .inl v_p1_room))]) (va_A [(q_this, .inr (10, [.ref q_kept, .ref q_away, .int v_days, .int v_spilled, .int v_river])), (q_kept, .inl (cI, 8, .inl v_kept)), (q_p1, .inr (6, [.int v_p1_stands, .int v_p1_lent, .int v_p1_pipe, .int v_p1_houses, .ref q_p1_room, .ref q_p1_daily, .ref q_p1_drain, .ref q_p1_above])), (q_p1_room, .inl (cI, 8, .inl v_p1_room))] sz)) 0 0 (va_A [(q_this, .inr (10, [.ref q_kept, .ref q_away, .int v_days, .int v_spilled, .int v_river])), (q_kept, .inl (cI, 8, .inl v_kept)), (q_p1, .inr (6, [.int v_p1_stands, .int v_p1_lent, .int v_p1_pipe, .int v_p1_houses, .ref q_p1_room, .ref q_p1_daily, .ref q_p1_drain, .ref q_p1_above])), (q_p1_room, .inl (cI, 8, .inl v_p1_room))] sz) := by
  refine Met.ofW (cc := cX10_spillOver) (maxL := 3) (ret := none) (by decide) rfl ?_
  intro p e s m args below meth c s₁ B hml hv
  obtain ⟨rfl, hsz, hP, hK, hD0⟩ := hv
  have hx := B.exec
  have hb := B.bytes
  have hr := B.returns
  have hts := atoms_spec (ws := wsX10_spillOver) B.pre
  have hown : s.vm.findClass RX10 = some m.cls := findClass_of_methodNamed B.named
  have hlocks := B.notSynchronized
  subst hsz
  have hD := hD0.self (sz := s.heap.size)
  generalize hAe : va_A [(q_this, .inr (10, [.ref q_kept, .ref q_away, .int v_days, .int v_spilled, .int v_river])), (q_kept, .inl (cI, 8, .inl v_kept)), (q_p1, .inr (6, [.int v_p1_stands, .int v_p1_lent, .int v_p1_pipe, .int v_p1_houses, .ref q_p1_room, .ref q_p1_daily, .ref q_p1_drain, .ref q_p1_above])), (q_p1_room, .inl (cI, 8, .inl v_p1_room))] s.heap.size = A at hD ⊢
  have hA : ∀ q : Nat, s.heap.size ≤ q → A q := fun q h => by rw [← hAe]; exact Or.inr h
  have hS : va_S A s.heap s.heap [] := va_S.rf
  have hl := lv_entry ([.ref q_this, .ref q_p1]) (n := 3) (Nat.le_of_ble_eq_true rfl)
  rw [lg_entry_eq]
  generalize (lg_sl ([.ref q_this, .ref q_p1]) ++ List.replicate (3 - (lg_sl ([.ref q_this, .ref q_p1])).length) Slot.unset).toArray = ls at hl ⊢
  have hl : lv_has ls 3 [(0, .ref q_this), (1, .ref q_p1)] := hl
  unfold fX10_spillOver at hrun
  have hk39 := hts (.fieldLink RX10 39 "LentDrains$Plan" "houses" "I") (by decide +kernel)
  have hiX6 : ∀ w ∈ wsX60, w ∈ wsX10_spillOver := by decide +kernel
  have hk9 := hts (.fieldLink RX10 9 "LentDrains$State" "kept" "[I") (by decide +kernel)
  have hiX10 : ∀ w ∈ wsX100, w ∈ wsX10_spillOver := by decide +kernel
  have hk69 := hts (.fieldLink RX10 69 "LentDrains$Plan" "room" "[I") (by decide +kernel)
  have hk72 := hts (.constant RX10 72 (9999999)) (by decide +kernel)
  have hk22 := hts (.fieldLink RX10 22 "LentDrains$State" "spilled" "I") (by decide +kernel)
  have hk56 := hts (.methodLink RX10 56 Lib.Math.min.name) (by decide +kernel)
  have hst_min := hts (.static Lib.Math.min.name) (by decide +kernel)
  have hiniM := hts (.initialized "java/lang/Math") (by decide +kernel)
  have hcd_min := hts (.code Lib.Math.min.name Lib.Math.min.code 2 (some .int)) (by decide +kernel)
  refine oz_genQ (fun Q hQ => ?_)
  refine lv_iconst (v := 0) hx hb dX10_spillOver_0 (by decide) ?_
  refine lv_istore_n (lv' := [(2, .int 0), (0, .ref q_this), (1, .ref q_p1)]) hx hb dX10_spillOver_1 rfl hl (by decide) rfl (fun ls hl => ?_)
  obtain ⟨o2, hlp2, hrun⟩ := oz_bind hrun
  have hL2 : ∀ (n : Nat) (w2 : Int32 × Int32 × (Nat → Int32)) (o2 : Int32 × Int32 × (Nat → Int32)), oz_loop (fX10_spillOver_b2 v_p1_houses v_p1_room) n w2 = some o2 → (∀ (H : Heap) (locs : List Loc) (ls : Array Slot), va_P (dC, dI) vwCl [(q_this, .inr (10, [.ref q_kept, .ref q_away, .int v_days, .int o2.2.1, .int v_river])), (q_kept, .inl (cI, 8, .inl o2.2.2)), (q_p1, .inr (6, [.int v_p1_stands, .int v_p1_lent, .int v_p1_pipe, .int v_p1_houses, .ref q_p1_room, .ref q_p1_daily, .ref q_p1_drain, .ref q_p1_above])), (q_p1_room, .inl (cI, 8, .inl v_p1_room))] H → va_D A [(q_this, .inr (10, [.ref q_kept, .ref q_away, .int v_days, .int o2.2.1, .int v_river])), (q_kept, .inl (cI, 8, .inl o2.2.2)), (q_p1, .inr (6, [.int v_p1_stands, .int v_p1_lent, .int v_p1_pipe, .int v_p1_houses, .ref q_p1_room, .ref q_p1_daily, .ref q_p1_drain, .ref q_p1_above])), (q_p1_room, .inl (cI, 8, .inl v_p1_room))] → va_S A s.heap H locs → lv_has ls 3 [(2, .int o2.1), (0, .ref q_this), (1, .ref q_p1)] → W p l e (headSpec wsX10_spillOver rmX10_spillOver).room s m (([.ref q_this, .ref q_p1] : List Value).toArray) below meth c H locs 0 0 Q (F0 m 70 ls [])) → ∀ (H : Heap) (locs : List Loc) (ls : Array Slot), va_P (dC, dI) vwCl [(q_this, .inr (10, [.ref q_kept, .ref q_away, .int v_days, .int w2.2.1, .int v_river])), (q_kept, .inl (cI, 8, .inl w2.2.2)), (q_p1, .inr (6, [.int v_p1_stands, .int v_p1_lent, .int v_p1_pipe, .int v_p1_houses, .ref q_p1_room, .ref q_p1_daily, .ref q_p1_drain, .ref q_p1_above])), (q_p1_room, .inl (cI, 8, .inl v_p1_room))] H → va_D A [(q_this, .inr (10, [.ref q_kept, .ref q_away, .int v_days, .int w2.2.1, .int v_river])), (q_kept, .inl (cI, 8, .inl w2.2.2)), (q_p1, .inr (6, [.int v_p1_stands, .int v_p1_lent, .int v_p1_pipe, .int v_p1_houses, .ref q_p1_room, .ref q_p1_daily, .ref q_p1_drain, .ref q_p1_above])), (q_p1_room, .inl (cI, 8, .inl v_p1_room))] → va_S A s.heap H locs → lv_has ls 3 [(2, .int w2.1), (0, .ref q_this), (1, .ref q_p1)] → W p l e (headSpec wsX10_spillOver rmX10_spillOver).room s m (([.ref q_this, .ref q_p1] : List Value).toArray) below meth c H locs 0 0 Q (F0 m 2 ls []) := by
    intro n
    induction n with
    | zero => intro w2 o2 h9; exact (oz_zero h9).elim
    | succ n ih =>
      intro w2 o2 h9 hexit H locs ls hP hD hS hl
      obtain ⟨r9, hrun, hnext⟩ := oz_step h9
      unfold fX10_spillOver_b2 at hrun
      refine lv_iload_n hx hb dX10_spillOver_2 rfl (lv_at hl 0 rfl) ?_
      refine lv_aload_n hx hb dX10_spillOver_3 rfl (lv_at hl 2 rfl) ?_
      refine va_get (D := (dC, dI)) (ci := 6) (v := .int v_p1_houses) (C := RX6) (T := TX6) (N := 8) hx hb hts hiX6 hown hK hP 2 rfl rfl 3 (by decide) hk39 (fun _ h9 => h9) rfl dX10_spillOver_4 ?_
      refine lv_icmp_ge (tgt := 70) hx hb dX10_spillOver_7 (by decide) (fun c1 => ?_) (fun c1 => ?_)
      · have hrun := oz_t hrun c1
        have hr9 := Option.some.inj hrun
        subst hr9
        have ho9 : (w2.1, w2.2.1, w2.2.2) = o2 := hnext
        subst ho9
        exact hexit _ _ _ (hP.sub [0, 1, 2, 3] rfl) (hD.sub [0, 1, 2, 3] (by decide) rfl) hS (lv_sub hl [0, 1, 2] rfl)
      · have hrun := oz_f hrun c1
        refine lv_aload_n hx hb dX10_spillOver_10 rfl (lv_at hl 1 rfl) ?_
        refine va_get (D := (dC, dI)) (ci := 10) (v := .ref q_kept) (C := RX10) (T := TX10) (N := 5) hx hb hts hiX10 hown hK hP 0 rfl rfl 0 (by decide) hk9 (fun _ h9 => h9) rfl dX10_spillOver_11 ?_
        refine lv_iload_n hx hb dX10_spillOver_14 rfl (lv_at hl 0 rfl) ?_
        obtain ⟨c2, hrun⟩ := oz_chk hrun
        refine va_iald hx hb hK hP 1 0 rfl rfl c2 dX10_spillOver_15 ?_
        refine lv_aload_n hx hb dX10_spillOver_16 rfl (lv_at hl 2 rfl) ?_
        refine va_get (D := (dC, dI)) (ci := 6) (v := .ref q_p1_room) (C := RX6) (T := TX6) (N := 8) hx hb hts hiX6 hown hK hP 2 rfl rfl 4 (by decide) hk69 (fun _ h9 => h9) rfl dX10_spillOver_17 ?_
        refine lv_iload_n hx hb dX10_spillOver_20 rfl (lv_at hl 0 rfl) ?_
        refine va_iald hx hb hK hP 3 0 rfl rfl c2 dX10_spillOver_21 ?_
        refine lv_icmp_le (tgt := 64) hx hb dX10_spillOver_22 (by decide) (fun c3 => ?_) (fun c3 => ?_)
        · have hrun := oz_t hrun c3
          refine lv_iinc (v := (w2.1 + 1)) (lv' := [(2, .int (w2.1 + 1)), (0, .ref q_this), (1, .ref q_p1)]) hx hb dX10_spillOver_64 hl (k := 0) rfl rfl (by decide) rfl (fun ls hl => ?_)
          refine lv_goto (tgt := 2) hx hb dX10_spillOver_67 (by decide) ?_
          have hr9 := Option.some.inj hrun
          subst hr9
          exact ih ((w2.1 + 1), w2.2.1, w2.2.2) _ hnext hexit _ _ _ (hP.sub [0, 1, 2, 3] rfl) (hD.sub [0, 1, 2, 3] (by decide) rfl) hS (lv_sub hl [0, 1, 2] rfl)
        · have hrun := oz_f hrun c3
          refine lv_aload_n hx hb dX10_spillOver_25 rfl (lv_at hl 1 rfl) ?_
          refine lv_ldc hx hb hown hk72 dX10_spillOver_26 ?_
          refine lv_aload_n hx hb dX10_spillOver_28 rfl (lv_at hl 1 rfl) ?_
          refine va_get (D := (dC, dI)) (ci := 10) (v := .int w2.2.1) (C := RX10) (T := TX10) (N := 5) hx hb hts hiX10 hown hK hP 0 rfl rfl 3 (by decide) hk22 (fun _ h9 => h9) rfl dX10_spillOver_29 ?_
          refine lv_aload_n hx hb dX10_spillOver_32 rfl (lv_at hl 1 rfl) ?_
          refine va_get (D := (dC, dI)) (ci := 10) (v := .ref q_kept) (C := RX10) (T := TX10) (N := 5) hx hb hts hiX10 hown hK hP 0 rfl rfl 0 (by decide) hk9 (fun _ h9 => h9) rfl dX10_spillOver_33 ?_
          refine lv_iload_n hx hb dX10_spillOver_36 rfl (lv_at hl 0 rfl) ?_
          refine va_iald hx hb hK hP 1 0 rfl rfl c2 dX10_spillOver_37 ?_
          refine lv_iadd hx hb dX10_spillOver_38 ?_
          refine lv_aload_n hx hb dX10_spillOver_39 rfl (lv_at hl 2 rfl) ?_
          refine va_get (D := (dC, dI)) (ci := 6) (v := .ref q_p1_room) (C := RX6) (T := TX6) (N := 8) hx hb hts hiX6 hown hK hP 2 rfl rfl 4 (by decide) hk69 (fun _ h9 => h9) rfl dX10_spillOver_40 ?_
          refine lv_iload_n hx hb dX10_spillOver_43 rfl (lv_at hl 0 rfl) ?_
          refine va_iald hx hb hK hP 3 0 rfl rfl c2 dX10_spillOver_44 ?_
          refine lv_isub hx hb dX10_spillOver_45 ?_
          refine va_mmin hx hb (hml.trans hl.1.symm) hown hk56 hst_min hiniM hcd_min (Nat.le_of_ble_eq_true rfl) (Nat.le_of_ble_eq_true rfl) (Nat.zero_le _) (Nat.zero_le _) dX10_spillOver_46 ?_
          refine va_put (D := (dC, dI)) (ci := 10) (v := .int (if ((w2.2.1 + (w2.2.2 (Int32.toNatClampNeg w2.1))) - (v_p1_room (Int32.toNatClampNeg w2.1))) < 9999999 then ((w2.2.1 + (w2.2.2 (Int32.toNatClampNeg w2.1))) - (v_p1_room (Int32.toNatClampNeg w2.1))) else 9999999)) (ty := .int) (C := RX10) (T := TX10) (N := 5) hx hb hts hiX10 tyX10 tyX10_ok nmX10 hown hK hP hD hS 0 rfl rfl 3 (by decide) hk22 (fun _ h9 => h9) rfl (by decide +kernel) rfl rfl (Nat.le_of_ble_eq_true rfl) dX10_spillOver_49 (fun H locs hP hD hS => ?_)
          have hP : va_P (dC, dI) vwCl [(q_this, .inr (10, [.ref q_kept, .ref q_away, .int v_days, .int (if ((w2.2.1 + (w2.2.2 (Int32.toNatClampNeg w2.1))) - (v_p1_room (Int32.toNatClampNeg w2.1))) < 9999999 then ((w2.2.1 + (w2.2.2 (Int32.toNatClampNeg w2.1))) - (v_p1_room (Int32.toNatClampNeg w2.1))) else 9999999), .int v_river])), (q_kept, .inl (cI, 8, .inl w2.2.2)), (q_p1, .inr (6, [.int v_p1_stands, .int v_p1_lent, .int v_p1_pipe, .int v_p1_houses, .ref q_p1_room, .ref q_p1_daily, .ref q_p1_drain, .ref q_p1_above])), (q_p1_room, .inl (cI, 8, .inl v_p1_room))] H := hP
          have hD : va_D A [(q_this, .inr (10, [.ref q_kept, .ref q_away, .int v_days, .int (if ((w2.2.1 + (w2.2.2 (Int32.toNatClampNeg w2.1))) - (v_p1_room (Int32.toNatClampNeg w2.1))) < 9999999 then ((w2.2.1 + (w2.2.2 (Int32.toNatClampNeg w2.1))) - (v_p1_room (Int32.toNatClampNeg w2.1))) else 9999999), .int v_river])), (q_kept, .inl (cI, 8, .inl w2.2.2)), (q_p1, .inr (6, [.int v_p1_stands, .int v_p1_lent, .int v_p1_pipe, .int v_p1_houses, .ref q_p1_room, .ref q_p1_daily, .ref q_p1_drain, .ref q_p1_above])), (q_p1_room, .inl (cI, 8, .inl v_p1_room))] := hD
          refine lv_aload_n hx hb dX10_spillOver_52 rfl (lv_at hl 1 rfl) ?_
          refine va_get (D := (dC, dI)) (ci := 10) (v := .ref q_kept) (C := RX10) (T := TX10) (N := 5) hx hb hts hiX10 hown hK hP 0 rfl rfl 0 (by decide) hk9 (fun _ h9 => h9) rfl dX10_spillOver_53 ?_
          refine lv_iload_n hx hb dX10_spillOver_56 rfl (lv_at hl 0 rfl) ?_
          refine lv_aload_n hx hb dX10_spillOver_57 rfl (lv_at hl 2 rfl) ?_
          refine va_get (D := (dC, dI)) (ci := 6) (v := .ref q_p1_room) (C := RX6) (T := TX6) (N := 8) hx hb hts hiX6 hown hK hP 2 rfl rfl 4 (by decide) hk69 (fun _ h9 => h9) rfl dX10_spillOver_58 ?_
          refine lv_iload_n hx hb dX10_spillOver_61 rfl (lv_at hl 0 rfl) ?_
          refine va_iald hx hb hK hP 3 0 rfl rfl c2 dX10_spillOver_62 ?_
          refine va_iast hx hb hK hP hD hS 1 0 rfl rfl c2 dX10_spillOver_63 (fun H locs hP hD hS => ?_)
          have hP : va_P (dC, dI) vwCl [(q_this, .inr (10, [.ref q_kept, .ref q_away, .int v_days, .int (if ((w2.2.1 + (w2.2.2 (Int32.toNatClampNeg w2.1))) - (v_p1_room (Int32.toNatClampNeg w2.1))) < 9999999 then ((w2.2.1 + (w2.2.2 (Int32.toNatClampNeg w2.1))) - (v_p1_room (Int32.toNatClampNeg w2.1))) else 9999999), .int v_river])), (q_kept, .inl (cI, 8, .inl (upd w2.2.2 (Int32.toNatClampNeg w2.1) (v_p1_room (Int32.toNatClampNeg w2.1))))), (q_p1, .inr (6, [.int v_p1_stands, .int v_p1_lent, .int v_p1_pipe, .int v_p1_houses, .ref q_p1_room, .ref q_p1_daily, .ref q_p1_drain, .ref q_p1_above])), (q_p1_room, .inl (cI, 8, .inl v_p1_room))] H := hP
          have hD : va_D A [(q_this, .inr (10, [.ref q_kept, .ref q_away, .int v_days, .int (if ((w2.2.1 + (w2.2.2 (Int32.toNatClampNeg w2.1))) - (v_p1_room (Int32.toNatClampNeg w2.1))) < 9999999 then ((w2.2.1 + (w2.2.2 (Int32.toNatClampNeg w2.1))) - (v_p1_room (Int32.toNatClampNeg w2.1))) else 9999999), .int v_river])), (q_kept, .inl (cI, 8, .inl (upd w2.2.2 (Int32.toNatClampNeg w2.1) (v_p1_room (Int32.toNatClampNeg w2.1))))), (q_p1, .inr (6, [.int v_p1_stands, .int v_p1_lent, .int v_p1_pipe, .int v_p1_houses, .ref q_p1_room, .ref q_p1_daily, .ref q_p1_drain, .ref q_p1_above])), (q_p1_room, .inl (cI, 8, .inl v_p1_room))] := hD
          refine lv_iinc (v := (w2.1 + 1)) (lv' := [(2, .int (w2.1 + 1)), (0, .ref q_this), (1, .ref q_p1)]) hx hb dX10_spillOver_64 hl (k := 0) rfl rfl (by decide) rfl (fun ls hl => ?_)
          refine lv_goto (tgt := 2) hx hb dX10_spillOver_67 (by decide) ?_
          have hr9 := Option.some.inj hrun
          subst hr9
          exact ih ((w2.1 + 1), (if ((w2.2.1 + (w2.2.2 (Int32.toNatClampNeg w2.1))) - (v_p1_room (Int32.toNatClampNeg w2.1))) < 9999999 then ((w2.2.1 + (w2.2.2 (Int32.toNatClampNeg w2.1))) - (v_p1_room (Int32.toNatClampNeg w2.1))) else 9999999), (upd w2.2.2 (Int32.toNatClampNeg w2.1) (v_p1_room (Int32.toNatClampNeg w2.1)))) _ hnext hexit _ _ _ (hP.sub [0, 1, 2, 3] rfl) (hD.sub [0, 1, 2, 3] (by decide) rfl) hS (lv_sub hl [0, 1, 2] rfl)
  refine hL2 oz_fuel (0, v_spilled, v_kept) o2 hlp2 (fun H locs ls hP hD hS hl => ?_) _ _ _ (hP.sub [0, 1, 2, 3] rfl) (hD.sub [0, 1, 2, 3] (by decide) rfl) hS (lv_sub hl [0, 1, 2] rfl)
  have hP : va_P (dC, dI) vwCl [(q_this, .inr (10, [.ref q_kept, .ref q_away, .int v_days, .int o2.2.1, .int v_river])), (q_kept, .inl (cI, 8, .inl o2.2.2)), (q_p1, .inr (6, [.int v_p1_stands, .int v_p1_lent, .int v_p1_pipe, .int v_p1_houses, .ref q_p1_room, .ref q_p1_daily, .ref q_p1_drain, .ref q_p1_above])), (q_p1_room, .inl (cI, 8, .inl v_p1_room))] H := hP
  have hD : va_D A [(q_this, .inr (10, [.ref q_kept, .ref q_away, .int v_days, .int o2.2.1, .int v_river])), (q_kept, .inl (cI, 8, .inl o2.2.2)), (q_p1, .inr (6, [.int v_p1_stands, .int v_p1_lent, .int v_p1_pipe, .int v_p1_houses, .ref q_p1_room, .ref q_p1_daily, .ref q_p1_drain, .ref q_p1_above])), (q_p1_room, .inl (cI, 8, .inl v_p1_room))] := hD
  have hl : lv_has ls 3 [(2, .int o2.1), (0, .ref q_this), (1, .ref q_p1)] := hl
  have ho9 := Option.some.inj hrun
  subst ho9
  have hP9 := hP.sub (ws' := [(q_this, .inr (10, [.ref q_kept, .ref q_away, .int v_days, .int o2.2.1, .int v_river])), (q_kept, .inl (cI, 8, .inl o2.2.2)), (q_p1, .inr (6, [.int v_p1_stands, .int v_p1_lent, .int v_p1_pipe, .int v_p1_houses, .ref q_p1_room, .ref q_p1_daily, .ref q_p1_drain, .ref q_p1_above])), (q_p1_room, .inl (cI, 8, .inl v_p1_room))]) [0, 1, 2, 3] rfl
  have hD9 := hD.sub (ws' := [(q_this, .inr (10, [.ref q_kept, .ref q_away, .int v_days, .int o2.2.1, .int v_river])), (q_kept, .inl (cI, 8, .inl o2.2.2)), (q_p1, .inr (6, [.int v_p1_stands, .int v_p1_lent, .int v_p1_pipe, .int v_p1_houses, .ref q_p1_room, .ref q_p1_daily, .ref q_p1_drain, .ref q_p1_above])), (q_p1_room, .inl (cI, 8, .inl v_p1_room))]) [0, 1, 2, 3] (by decide) rfl
  rw [hQ]
  exact W.vret hx hb hr (fun t ht hW => ⟨⟨(), rfl, trivial, by rw [ht]; exact hP9, va_K.moved hW.alike hK, hD9⟩, hS.F ht⟩) hS.2.2 dX10_spillOver_70
def fX10_passDay_b21 (v_p1_houses : Int32) (v_p1_daily : Nat → Int32) (a2 : Int32) (a3 : Int32) (w21 : Int32 × Int32 × (Nat → Int32) × (Nat → Int32)) : Option ((Int32 × Int32 × (Nat → Int32) × (Nat → Int32)) ⊕ (Int32 × Int32 × (Nat → Int32) × (Nat → Int32))) :=
  if v_p1_houses ≤ w21.1 then (some (.inr (w21.1, w21.2.1, w21.2.2.1, w21.2.2.2))) else (if (w21.1 < 0 ∨ 8 ≤ Int32.toNatClampNeg w21.1) then none else if w21.1 = a2 then (if (w21.2.2.2 (Int32.toNatClampNeg w21.1)) ≤ 0 then (Option.bind (fX10_addToRiver w21.2.1 ((v_p1_daily (Int32.toNatClampNeg w21.1)) + a3)) (fun y98 => some (.inl ((w21.1 + 1), y98, w21.2.2.1, w21.2.2.2)))) else (some (.inl ((w21.1 + 1), w21.2.1, w21.2.2.1, (upd w21.2.2.2 (Int32.toNatClampNeg w21.1) ((w21.2.2.2 (Int32.toNatClampNeg w21.1)) - 1)))))) else (if (w21.2.2.2 (Int32.toNatClampNeg w21.1)) ≤ 0 then (Option.bind (fX10_addToRiver w21.2.1 ((v_p1_daily (Int32.toNatClampNeg w21.1)) + 0)) (fun y98 => some (.inl ((w21.1 + 1), y98, w21.2.2.1, w21.2.2.2)))) else (some (.inl ((w21.1 + 1), w21.2.1, w21.2.2.1, (upd w21.2.2.2 (Int32.toNatClampNeg w21.1) ((w21.2.2.2 (Int32.toNatClampNeg w21.1)) - 1)))))))
def fX10_passDay_b21_1 (v_p1_houses : Int32) (v_p1_daily : Nat → Int32) (a2 : Int32) (a3 : Int32) (w21 : Int32 × Int32 × (Nat → Int32) × (Nat → Int32)) : Option ((Int32 × Int32 × (Nat → Int32) × (Nat → Int32)) ⊕ (Int32 × Int32 × (Nat → Int32) × (Nat → Int32))) :=
  if v_p1_houses ≤ w21.1 then (some (.inr (w21.1, w21.2.1, w21.2.2.1, w21.2.2.2))) else (if (w21.1 < 0 ∨ 8 ≤ Int32.toNatClampNeg w21.1) then none else if w21.1 = a2 then (if (w21.2.2.2 (Int32.toNatClampNeg w21.1)) ≤ 0 then (some (.inl ((w21.1 + 1), w21.2.1, (upd w21.2.2.1 (Int32.toNatClampNeg w21.1) ((w21.2.2.1 (Int32.toNatClampNeg w21.1)) + ((v_p1_daily (Int32.toNatClampNeg w21.1)) + a3))), w21.2.2.2))) else (some (.inl ((w21.1 + 1), w21.2.1, w21.2.2.1, (upd w21.2.2.2 (Int32.toNatClampNeg w21.1) ((w21.2.2.2 (Int32.toNatClampNeg w21.1)) - 1)))))) else (if (w21.2.2.2 (Int32.toNatClampNeg w21.1)) ≤ 0 then (some (.inl ((w21.1 + 1), w21.2.1, (upd w21.2.2.1 (Int32.toNatClampNeg w21.1) ((w21.2.2.1 (Int32.toNatClampNeg w21.1)) + ((v_p1_daily (Int32.toNatClampNeg w21.1)) + 0))), w21.2.2.2))) else (some (.inl ((w21.1 + 1), w21.2.1, w21.2.2.1, (upd w21.2.2.2 (Int32.toNatClampNeg w21.1) ((w21.2.2.2 (Int32.toNatClampNeg w21.1)) - 1)))))))
def fX10_passDay (v_days : Int32) (v_spilled : Int32) (v_river : Int32) (v_kept : Nat → Int32) (v_away : Nat → Int32) (v_p1_lent : Int32) (v_p1_houses : Int32) (v_p1_room : Nat → Int32) (v_p1_daily : Nat → Int32) (a2 : Int32) (a3 : Int32) : Option (Int32 × Int32 × Int32 × (Nat → Int32) × (Nat → Int32)) :=
  if v_p1_lent ≤ v_days then (Option.bind (oz_loop (fX10_passDay_b21 v_p1_houses v_p1_daily a2 a3) oz_fuel (0, v_river, v_kept, v_away)) (fun o21 => Option.bind (fX10_spillOver v_spilled o21.2.2.1 v_p1_houses v_p1_room) (fun y109 => some ((v_days + 1), y109.1, o21.2.1, y109.2, o21.2.2.2)))) else (Option.bind (oz_loop (fX10_passDay_b21_1 v_p1_houses v_p1_daily a2 a3) oz_fuel (0, v_river, v_kept, v_away)) (fun o21 => Option.bind (fX10_spillOver v_spilled o21.2.2.1 v_p1_houses v_p1_room) (fun y109 => some ((v_days + 1), y109.1, o21.2.1, y109.2, o21.2.2.2))))
def rmX10_passDay : Room := { frames := 2, cells := 0, slots := 0, locals := 48 }
set_option maxHeartbeats 4000000 in
set_option maxRecDepth 100000 in
theorem tX10_passDay (l : Launch) (dC : Nat → ClassId) (dI : Nat → Nat → Nat) (cI cZ : ClassId) (q_away q_kept q_p1 q_p1_above q_p1_daily q_p1_drain q_p1_room q_this : Nat) (sz : Nat) (v_p1_stands : Int32) (v_p1_pipe : Int32) (v_days : Int32) (v_spilled : Int32) (v_river : Int32) (v_kept : Nat → Int32) (v_away : Nat → Int32) (v_p1_lent : Int32) (v_p1_houses : Int32) (v_p1_room : Nat → Int32) (v_p1_daily : Nat → Int32) (a2 : Int32) (a3 : Int32) (out : Int32 × Int32 × Int32 × (Nat → Int32) × (Nat → Int32)) (hrun : fX10_passDay v_days v_spilled v_river v_kept v_away v_p1_lent v_p1_houses v_p1_room v_p1_daily a2 a3 = some out) : Met l yX10_passDay wsX10_passDay rmX10_passDay (va_Pc [.ref q_this, .ref q_p1, .int a2, .int a3] (fun U => U.heap.size = sz ∧ va_P (dC, dI) vwCl [(q_this, .inr (10, [.ref q_kept, .ref q_away, .int v_days, .int v_spilled, .int v_river])), (q_kept, .inl (cI, 8, .inl v_kept)), (q_away, .inl (cI, 8, .inl v_away)), (q_p1, .inr (6, [.int v_p1_stands, .int v_p1_lent, .int v_p1_pipe, .int v_p1_houses, .ref q_p1_room, .ref q_p1_daily, .ref q_p1_drain, .ref q_p1_above])), (q_p1_room, .inl (cI, 8, .inl v_p1_room)), (q_p1_daily, .inl (cI, 8, .inl v_p1_daily))] U.heap ∧ va_K (dC, dI) vwCl [(cI, .int), (cZ, .boolean)] U ∧ va_D (fun _ => True) [(q_this, .inr (10, [.ref q_kept, .ref q_away, .int v_days, .int v_spilled, .int v_river])), (q_kept, .inl (cI, 8, .inl v_kept)), (q_away, .inl (cI, 8, .inl v_away)), (q_p1, .inr (6, [.int v_p1_stands, .int v_p1_lent, .int v_p1_pipe, .int v_p1_houses, .ref q_p1_room, .ref q_p1_daily, .ref q_p1_drain, .ref q_p1_above])), (q_p1_room, .inl (cI, 8, .inl v_p1_room)), (q_p1_daily, .inl (cI, 8, .inl v_p1_daily))])) (va_Qv (fun _ : Unit => True) (fun _ t => va_P (dC, dI) vwCl [(q_this, .inr (10, [.ref q_kept, .ref q_away, .int out.1, .int out.2.1, .int out.2.2.1])), (q_kept, .inl (cI, 8, .inl out.2.2.2.1)), (q_away, .inl (cI, 8, .inl out.2.2.2.2)), (q_p1, .inr (6, [.int v_p1_stands, .int v_p1_lent, .int v_p1_pipe, .int v_p1_houses, .ref q_p1_room, .ref q_p1_daily, .ref q_p1_drain, .ref q_p1_above])), (q_p1_room, .inl (cI, 8, .inl v_p1_room)), (q_p1_daily, .inl (cI, 8, .inl v_p1_daily))] t.heap ∧ va_K (dC, dI) vwCl [(cI, .int), (cZ, .boolean)] t ∧ va_D (va_A [(q_this, .inr (10, [.ref q_kept, .ref q_away, .int v_days, .int v_spilled, .int v_river])), (q_kept, .inl (cI, 8, .inl v_kept)), (q_away, .inl (cI, 8, .inl v_away)), (q_p1, .inr (6, [.int v_p1_stands, .int v_p1_lent, .int v_p1_pipe, .int v_p1_houses, .ref q_p1_room, .ref q_p1_daily, .ref q_p1_drain, .ref q_p1_above])), (q_p1_room, .inl (cI, 8, .inl v_p1_room)), (q_p1_daily, .inl (cI, 8, .inl v_p1_daily))] sz) [(q_this, .inr (10, [.ref q_kept, .ref q_away, .int out.1, .int out.2.1, .int out.2.2.1])), (q_kept, .inl (cI, 8, .inl out.2.2.2.1)), (q_away, .inl (cI, 8, .inl out.2.2.2.2)), (q_p1, .inr (6, [.int v_p1_stands, .int v_p1_lent, .int v_p1_pipe, .int v_p1_houses, .ref q_p1_room, .ref q_p1_daily, .ref q_p1_drain, .ref q_p1_above])), (q_p1_room, .inl (cI, 8, .inl v_p1_room)), (q_p1_daily, .inl (cI, 8, .inl v_p1_daily))]) (va_A [(q_this, .inr (10, [.ref q_kept, .ref q_away, .int v_days, .int v_spilled, .int v_river])), (q_kept, .inl (cI, 8, .inl v_kept)), (q_away, .inl (cI, 8, .inl v_away)), (q_p1, .inr (6, [.int v_p1_stands, .int v_p1_lent, .int v_p1_pipe, .int v_p1_houses, .ref q_p1_room, .ref q_p1_daily, .ref q_p1_drain, .ref q_p1_above])), (q_p1_room, .inl (cI, 8, .inl v_p1_room)), (q_p1_daily, .inl (cI, 8, .inl v_p1_daily))] sz)) 0 0 (va_A [(q_this, .inr (10, [.ref q_kept, .ref q_away, .int v_days, .int v_spilled, .int v_river])), (q_kept, .inl (cI, 8, .inl v_kept)), (q_away, .inl (cI, 8, .inl v_away)), (q_p1, .inr (6, [.int v_p1_stands, .int v_p1_lent, .int v_p1_pipe, .int v_p1_houses, .ref q_p1_room, .ref q_p1_daily, .ref q_p1_drain, .ref q_p1_above])), (q_p1_room, .inl (cI, 8, .inl v_p1_room)), (q_p1_daily, .inl (cI, 8, .inl v_p1_daily))] sz) := by
  refine Met.ofW (cc := cX10_passDay) (maxL := 7) (ret := none) (by decide) rfl ?_
  intro p e s m args below meth c s₁ B hml hv
  obtain ⟨rfl, hsz, hP, hK, hD0⟩ := hv
  have hx := B.exec
  have hb := B.bytes
  have hr := B.returns
  have hts := atoms_spec (ws := wsX10_passDay) B.pre
  have hown : s.vm.findClass RX10 = some m.cls := findClass_of_methodNamed B.named
  have hlocks := B.notSynchronized
  subst hsz
  have hD := hD0.self (sz := s.heap.size)
  generalize hAe : va_A [(q_this, .inr (10, [.ref q_kept, .ref q_away, .int v_days, .int v_spilled, .int v_river])), (q_kept, .inl (cI, 8, .inl v_kept)), (q_away, .inl (cI, 8, .inl v_away)), (q_p1, .inr (6, [.int v_p1_stands, .int v_p1_lent, .int v_p1_pipe, .int v_p1_houses, .ref q_p1_room, .ref q_p1_daily, .ref q_p1_drain, .ref q_p1_above])), (q_p1_room, .inl (cI, 8, .inl v_p1_room)), (q_p1_daily, .inl (cI, 8, .inl v_p1_daily))] s.heap.size = A at hD ⊢
  have hA : ∀ q : Nat, s.heap.size ≤ q → A q := fun q h => by rw [← hAe]; exact Or.inr h
  have hS : va_S A s.heap s.heap [] := va_S.rf
  have hl := lv_entry ([.ref q_this, .ref q_p1, .int a2, .int a3]) (n := 7) (Nat.le_of_ble_eq_true rfl)
  rw [lg_entry_eq]
  generalize (lg_sl ([.ref q_this, .ref q_p1, .int a2, .int a3]) ++ List.replicate (7 - (lg_sl ([.ref q_this, .ref q_p1, .int a2, .int a3])).length) Slot.unset).toArray = ls at hl ⊢
  have hl : lv_has ls 7 [(0, .ref q_this), (1, .ref q_p1), (2, .int a2), (3, .int a3)] := hl
  unfold fX10_passDay at hrun
  have hk18 := hts (.fieldLink RX10 18 "LentDrains$State" "days" "I") (by decide +kernel)
  have hiX10 : ∀ w ∈ wsX100, w ∈ wsX10_passDay := by decide +kernel
  have hk34 := hts (.fieldLink RX10 34 "LentDrains$Plan" "lent" "I") (by decide +kernel)
  have hiX6 : ∀ w ∈ wsX60, w ∈ wsX10_passDay := by decide +kernel
  have hk39 := hts (.fieldLink RX10 39 "LentDrains$Plan" "houses" "I") (by decide +kernel)
  have hk42 := hts (.fieldLink RX10 42 "LentDrains$Plan" "daily" "[I") (by decide +kernel)
  have hk15 := hts (.fieldLink RX10 15 "LentDrains$State" "away" "[I") (by decide +kernel)
  have hk9 := hts (.fieldLink RX10 9 "LentDrains$State" "kept" "[I") (by decide +kernel)
  refine oz_genQ (fun Q hQ => ?_)
  refine lv_aload_n hx hb dX10_passDay_0 rfl (lv_at hl 0 rfl) ?_
  refine va_get (D := (dC, dI)) (ci := 10) (v := .int v_days) (C := RX10) (T := TX10) (N := 5) hx hb hts hiX10 hown hK hP 0 rfl rfl 2 (by decide) hk18 (fun _ h9 => h9) rfl dX10_passDay_1 ?_
  refine lv_aload_n hx hb dX10_passDay_4 rfl (lv_at hl 1 rfl) ?_
  refine va_get (D := (dC, dI)) (ci := 6) (v := .int v_p1_lent) (C := RX6) (T := TX6) (N := 8) hx hb hts hiX6 hown hK hP 3 rfl rfl 1 (by decide) hk34 (fun _ h9 => h9) rfl dX10_passDay_5 ?_
  refine lv_icmp_ge (tgt := 15) hx hb dX10_passDay_8 (by decide) (fun c1 => ?_) (fun c1 => ?_)
  · have hrun := oz_t hrun c1
    refine lv_iconst (v := 0) hx hb dX10_passDay_15 (by decide) ?_
    refine lv_istore (lv' := [(4, .int 0), (0, .ref q_this), (1, .ref q_p1), (2, .int a2), (3, .int a3)]) hx hb dX10_passDay_16 hl (by decide) rfl (fun ls hl => ?_)
    refine lv_iconst (v := 0) hx hb dX10_passDay_18 (by decide) ?_
    refine lv_istore (lv' := [(5, .int 0), (4, .int 0), (0, .ref q_this), (1, .ref q_p1), (2, .int a2), (3, .int a3)]) hx hb dX10_passDay_19 hl (by decide) rfl (fun ls hl => ?_)
    obtain ⟨o21, hlp21, hrun⟩ := oz_bind hrun
    have hL21 : ∀ (n : Nat) (w21 : Int32 × Int32 × (Nat → Int32) × (Nat → Int32)) (o21 : Int32 × Int32 × (Nat → Int32) × (Nat → Int32)), oz_loop (fX10_passDay_b21 v_p1_houses v_p1_daily a2 a3) n w21 = some o21 → (∀ (H : Heap) (locs : List Loc) (ls : Array Slot), va_P (dC, dI) vwCl [(q_this, .inr (10, [.ref q_kept, .ref q_away, .int v_days, .int v_spilled, .int o21.2.1])), (q_kept, .inl (cI, 8, .inl o21.2.2.1)), (q_away, .inl (cI, 8, .inl o21.2.2.2)), (q_p1, .inr (6, [.int v_p1_stands, .int v_p1_lent, .int v_p1_pipe, .int v_p1_houses, .ref q_p1_room, .ref q_p1_daily, .ref q_p1_drain, .ref q_p1_above])), (q_p1_room, .inl (cI, 8, .inl v_p1_room)), (q_p1_daily, .inl (cI, 8, .inl v_p1_daily))] H → va_D A [(q_this, .inr (10, [.ref q_kept, .ref q_away, .int v_days, .int v_spilled, .int o21.2.1])), (q_kept, .inl (cI, 8, .inl o21.2.2.1)), (q_away, .inl (cI, 8, .inl o21.2.2.2)), (q_p1, .inr (6, [.int v_p1_stands, .int v_p1_lent, .int v_p1_pipe, .int v_p1_houses, .ref q_p1_room, .ref q_p1_daily, .ref q_p1_drain, .ref q_p1_above])), (q_p1_room, .inl (cI, 8, .inl v_p1_room)), (q_p1_daily, .inl (cI, 8, .inl v_p1_daily))] → va_S A s.heap H locs → lv_has ls 7 [(5, .int o21.1), (4, .int 0), (0, .ref q_this), (1, .ref q_p1), (2, .int a2), (3, .int a3)] → W p l e (headSpec wsX10_passDay rmX10_passDay).room s m (([.ref q_this, .ref q_p1, .int a2, .int a3] : List Value).toArray) below meth c H locs 0 0 Q (F0 m 107 ls [])) → ∀ (H : Heap) (locs : List Loc) (ls : Array Slot), va_P (dC, dI) vwCl [(q_this, .inr (10, [.ref q_kept, .ref q_away, .int v_days, .int v_spilled, .int w21.2.1])), (q_kept, .inl (cI, 8, .inl w21.2.2.1)), (q_away, .inl (cI, 8, .inl w21.2.2.2)), (q_p1, .inr (6, [.int v_p1_stands, .int v_p1_lent, .int v_p1_pipe, .int v_p1_houses, .ref q_p1_room, .ref q_p1_daily, .ref q_p1_drain, .ref q_p1_above])), (q_p1_room, .inl (cI, 8, .inl v_p1_room)), (q_p1_daily, .inl (cI, 8, .inl v_p1_daily))] H → va_D A [(q_this, .inr (10, [.ref q_kept, .ref q_away, .int v_days, .int v_spilled, .int w21.2.1])), (q_kept, .inl (cI, 8, .inl w21.2.2.1)), (q_away, .inl (cI, 8, .inl w21.2.2.2)), (q_p1, .inr (6, [.int v_p1_stands, .int v_p1_lent, .int v_p1_pipe, .int v_p1_houses, .ref q_p1_room, .ref q_p1_daily, .ref q_p1_drain, .ref q_p1_above])), (q_p1_room, .inl (cI, 8, .inl v_p1_room)), (q_p1_daily, .inl (cI, 8, .inl v_p1_daily))] → va_S A s.heap H locs → lv_has ls 7 [(5, .int w21.1), (4, .int 0), (0, .ref q_this), (1, .ref q_p1), (2, .int a2), (3, .int a3)] → W p l e (headSpec wsX10_passDay rmX10_passDay).room s m (([.ref q_this, .ref q_p1, .int a2, .int a3] : List Value).toArray) below meth c H locs 0 0 Q (F0 m 21 ls []) := by
      intro n
      induction n with
      | zero => intro w21 o21 h9; exact (oz_zero h9).elim
      | succ n ih =>
        intro w21 o21 h9 hexit H locs ls hP hD hS hl
        obtain ⟨r9, hrun, hnext⟩ := oz_step h9
        unfold fX10_passDay_b21 at hrun
        refine lv_iload hx hb dX10_passDay_21 (lv_at hl 0 rfl) ?_
        refine lv_aload_n hx hb dX10_passDay_23 rfl (lv_at hl 3 rfl) ?_
        refine va_get (D := (dC, dI)) (ci := 6) (v := .int v_p1_houses) (C := RX6) (T := TX6) (N := 8) hx hb hts hiX6 hown hK hP 3 rfl rfl 3 (by decide) hk39 (fun _ h9 => h9) rfl dX10_passDay_24 ?_
        refine lv_icmp_ge (tgt := 107) hx hb dX10_passDay_27 (by decide) (fun c2 => ?_) (fun c2 => ?_)
        · have hrun := oz_t hrun c2
          have hr9 := Option.some.inj hrun
          subst hr9
          have ho9 : (w21.1, w21.2.1, w21.2.2.1, w21.2.2.2) = o21 := hnext
          subst ho9
          exact hexit _ _ _ (hP.sub [0, 1, 2, 3, 4, 5] rfl) (hD.sub [0, 1, 2, 3, 4, 5] (by decide) rfl) hS (lv_sub hl [0, 1, 2, 3, 4, 5] rfl)
        · have hrun := oz_f hrun c2
          refine lv_aload_n hx hb dX10_passDay_30 rfl (lv_at hl 3 rfl) ?_
          refine va_get (D := (dC, dI)) (ci := 6) (v := .ref q_p1_daily) (C := RX6) (T := TX6) (N := 8) hx hb hts hiX6 hown hK hP 3 rfl rfl 5 (by decide) hk42 (fun _ h9 => h9) rfl dX10_passDay_31 ?_
          refine lv_iload hx hb dX10_passDay_34 (lv_at hl 0 rfl) ?_
          obtain ⟨c3, hrun⟩ := oz_chk hrun
          refine va_iald hx hb hK hP 5 0 rfl rfl c3 dX10_passDay_36 ?_
          refine lv_iload hx hb dX10_passDay_37 (lv_at hl 0 rfl) ?_
          refine lv_iload_n hx hb dX10_passDay_39 rfl (lv_at hl 4 rfl) ?_
          refine lv_icmp_ne (tgt := 47) hx hb dX10_passDay_40 (by decide) (fun c4 => ?_) (fun c4 => ?_)
          · have hrun := oz_f hrun c4
            refine lv_iconst (v := 0) hx hb dX10_passDay_47 (by decide) ?_
            refine lv_iadd hx hb dX10_passDay_48 ?_
            refine lv_istore (lv' := [(6, .int ((v_p1_daily (Int32.toNatClampNeg w21.1)) + 0)), (5, .int w21.1), (4, .int 0), (0, .ref q_this), (1, .ref q_p1), (2, .int a2), (3, .int a3)]) hx hb dX10_passDay_49 hl (by decide) rfl (fun ls hl => ?_)
            refine lv_aload_n hx hb dX10_passDay_51 rfl (lv_at hl 3 rfl) ?_
            refine va_get (D := (dC, dI)) (ci := 10) (v := .ref q_away) (C := RX10) (T := TX10) (N := 5) hx hb hts hiX10 hown hK hP 0 rfl rfl 1 (by decide) hk15 (fun _ h9 => h9) rfl dX10_passDay_52 ?_
            refine lv_iload hx hb dX10_passDay_55 (lv_at hl 1 rfl) ?_
            refine va_iald hx hb hK hP 2 0 rfl rfl c3 dX10_passDay_57 ?_
            refine lv_if_le (tgt := 75) hx hb dX10_passDay_58 (by decide) (fun c5 => ?_) (fun c5 => ?_)
            · have hrun := oz_t hrun c5
              refine lv_iload hx hb dX10_passDay_75 (lv_at hl 2 rfl) ?_
              refine lv_if_eq (tgt := 95) hx hb dX10_passDay_77 (by decide) (fun _ => ?_) (fun z9 => absurd (by decide) z9)
              refine lv_aload_n hx hb dX10_passDay_95 rfl (lv_at hl 3 rfl) ?_
              refine lv_iload hx hb dX10_passDay_96 (lv_at hl 0 rfl) ?_
              obtain ⟨y98, hc98, hrun⟩ := oz_bind hrun
              have hPc := hP.sub (ws' := [(q_this, .inr (10, [.ref q_kept, .ref q_away, .int v_days, .int v_spilled, .int w21.2.1]))]) [0] rfl
              have hDc := hD.sub (ws' := [(q_this, .inr (10, [.ref q_kept, .ref q_away, .int v_days, .int v_spilled, .int w21.2.1]))]) [0] (by decide) rfl
              have hFc := va_free (wc := [(q_this, .inr (10, [.ref q_kept, .ref q_away, .int v_days, .int v_spilled, .int w21.2.1]))]) hD hS hA [0] rfl
              refine va_callv (va_runV (As := [.int ((v_p1_daily (Int32.toNatClampNeg w21.1)) + 0)]) (rest := []) ⟨hx, hb, hml, hown, hts⟩ (tX10_addToRiver l dC dI cI cZ q_away q_kept q_this H.size v_days v_spilled w21.2.1 ((v_p1_daily (Int32.toNatClampNeg w21.1)) + 0) y98 hc98) (cwV 1 hts gX10_passDay_X10_addToRiver rfl rfl rfl (by decide +kernel) ⟨Nat.le_of_ble_eq_true rfl, Nat.le_of_ble_eq_true rfl⟩) ⟨fun a U g mk q => by obtain ⟨q0, q1, qP, qK, qD⟩ := q; exact ⟨q0, q1, qP, va_K.moved (u := U) (U := U.calling g mk a) (Vm.Alike.refl U.vm) qK, qD⟩, va_recv hK hPc (ci := 10) (q0 := 0) rfl rfl, fun U hU hW => ⟨rfl, by rw [hU], by rw [hU]; exact hPc, va_K.moved hW.alike hK, hDc.weaken (fun _ _ _ _ => trivial)⟩⟩ rfl rfl hl.1 rfl (lv_room (Nat.le_of_ble_eq_true rfl)) dX10_passDay_98 ⟨Nat.le_of_ble_eq_true rfl, Nat.le_of_ble_eq_true rfl⟩) hS (fun q _ h => hFc q h) hFc (fun u9 t9 H1 locs ht9 hvm9 hw9 hB9 hz9 hkk9 hS => ?_)
              obtain ⟨hP9, hK9, hD9⟩ := hB9
              rw [ht9] at hP9
              obtain ⟨hP, hD⟩ := va_join (wr := [(q_kept, .inl (cI, 8, .inl w21.2.2.1)), (q_away, .inl (cI, 8, .inl w21.2.2.2)), (q_p1, .inr (6, [.int v_p1_stands, .int v_p1_lent, .int v_p1_pipe, .int v_p1_houses, .ref q_p1_room, .ref q_p1_daily, .ref q_p1_drain, .ref q_p1_above])), (q_p1_room, .inl (cI, 8, .inl v_p1_room)), (q_p1_daily, .inl (cI, 8, .inl v_p1_daily))]) (w1 := [(q_this, .inr (10, [.ref q_kept, .ref q_away, .int v_days, .int v_spilled, .int y98]))]) hP hD [0] [1, 2, 3, 4, 5] rfl rfl (by decide) (by decide) hkk9 hFc hP9 hD9
              generalize H1 = H at hP hS ⊢
              have hP : va_P (dC, dI) vwCl [(q_kept, .inl (cI, 8, .inl w21.2.2.1)), (q_away, .inl (cI, 8, .inl w21.2.2.2)), (q_p1, .inr (6, [.int v_p1_stands, .int v_p1_lent, .int v_p1_pipe, .int v_p1_houses, .ref q_p1_room, .ref q_p1_daily, .ref q_p1_drain, .ref q_p1_above])), (q_p1_room, .inl (cI, 8, .inl v_p1_room)), (q_p1_daily, .inl (cI, 8, .inl v_p1_daily)), (q_this, .inr (10, [.ref q_kept, .ref q_away, .int v_days, .int v_spilled, .int y98]))] H := hP
              have hD : va_D A [(q_kept, .inl (cI, 8, .inl w21.2.2.1)), (q_away, .inl (cI, 8, .inl w21.2.2.2)), (q_p1, .inr (6, [.int v_p1_stands, .int v_p1_lent, .int v_p1_pipe, .int v_p1_houses, .ref q_p1_room, .ref q_p1_daily, .ref q_p1_drain, .ref q_p1_above])), (q_p1_room, .inl (cI, 8, .inl v_p1_room)), (q_p1_daily, .inl (cI, 8, .inl v_p1_daily)), (q_this, .inr (10, [.ref q_kept, .ref q_away, .int v_days, .int v_spilled, .int y98]))] := hD
              refine lv_iinc (v := (w21.1 + 1)) (lv' := [(5, .int (w21.1 + 1)), (6, .int ((v_p1_daily (Int32.toNatClampNeg w21.1)) + 0)), (4, .int 0), (0, .ref q_this), (1, .ref q_p1), (2, .int a2), (3, .int a3)]) hx hb dX10_passDay_101 hl (k := 1) rfl rfl (by decide) rfl (fun ls hl => ?_)
              refine lv_goto (tgt := 21) hx hb dX10_passDay_104 (by decide) ?_
              have hr9 := Option.some.inj hrun
              subst hr9
              exact ih ((w21.1 + 1), y98, w21.2.2.1, w21.2.2.2) _ hnext hexit _ _ _ (hP.sub [5, 0, 1, 2, 3, 4] rfl) (hD.sub [5, 0, 1, 2, 3, 4] (by decide) rfl) hS (lv_sub hl [0, 2, 3, 4, 5, 6] rfl)
            · have hrun := oz_f hrun c5
              refine lv_aload_n hx hb dX10_passDay_61 rfl (lv_at hl 3 rfl) ?_
              refine va_get (D := (dC, dI)) (ci := 10) (v := .ref q_away) (C := RX10) (T := TX10) (N := 5) hx hb hts hiX10 hown hK hP 0 rfl rfl 1 (by decide) hk15 (fun _ h9 => h9) rfl dX10_passDay_62 ?_
              refine lv_iload hx hb dX10_passDay_65 (lv_at hl 1 rfl) ?_
              refine lv_dup2_11 hx hb dX10_passDay_67 rfl rfl ?_
              refine va_iald hx hb hK hP 2 0 rfl rfl c3 dX10_passDay_68 ?_
              refine lv_iconst (v := 1) hx hb dX10_passDay_69 (by decide) ?_
              refine lv_isub hx hb dX10_passDay_70 ?_
              refine va_iast hx hb hK hP hD hS 2 0 rfl rfl c3 dX10_passDay_71 (fun H locs hP hD hS => ?_)
              have hP : va_P (dC, dI) vwCl [(q_this, .inr (10, [.ref q_kept, .ref q_away, .int v_days, .int v_spilled, .int w21.2.1])), (q_kept, .inl (cI, 8, .inl w21.2.2.1)), (q_away, .inl (cI, 8, .inl (upd w21.2.2.2 (Int32.toNatClampNeg w21.1) ((w21.2.2.2 (Int32.toNatClampNeg w21.1)) - 1)))), (q_p1, .inr (6, [.int v_p1_stands, .int v_p1_lent, .int v_p1_pipe, .int v_p1_houses, .ref q_p1_room, .ref q_p1_daily, .ref q_p1_drain, .ref q_p1_above])), (q_p1_room, .inl (cI, 8, .inl v_p1_room)), (q_p1_daily, .inl (cI, 8, .inl v_p1_daily))] H := hP
              have hD : va_D A [(q_this, .inr (10, [.ref q_kept, .ref q_away, .int v_days, .int v_spilled, .int w21.2.1])), (q_kept, .inl (cI, 8, .inl w21.2.2.1)), (q_away, .inl (cI, 8, .inl (upd w21.2.2.2 (Int32.toNatClampNeg w21.1) ((w21.2.2.2 (Int32.toNatClampNeg w21.1)) - 1)))), (q_p1, .inr (6, [.int v_p1_stands, .int v_p1_lent, .int v_p1_pipe, .int v_p1_houses, .ref q_p1_room, .ref q_p1_daily, .ref q_p1_drain, .ref q_p1_above])), (q_p1_room, .inl (cI, 8, .inl v_p1_room)), (q_p1_daily, .inl (cI, 8, .inl v_p1_daily))] := hD
              refine lv_goto (tgt := 101) hx hb dX10_passDay_72 (by decide) ?_
              refine lv_iinc (v := (w21.1 + 1)) (lv' := [(5, .int (w21.1 + 1)), (6, .int ((v_p1_daily (Int32.toNatClampNeg w21.1)) + 0)), (4, .int 0), (0, .ref q_this), (1, .ref q_p1), (2, .int a2), (3, .int a3)]) hx hb dX10_passDay_101 hl (k := 1) rfl rfl (by decide) rfl (fun ls hl => ?_)
              refine lv_goto (tgt := 21) hx hb dX10_passDay_104 (by decide) ?_
              have hr9 := Option.some.inj hrun
              subst hr9
              exact ih ((w21.1 + 1), w21.2.1, w21.2.2.1, (upd w21.2.2.2 (Int32.toNatClampNeg w21.1) ((w21.2.2.2 (Int32.toNatClampNeg w21.1)) - 1))) _ hnext hexit _ _ _ (hP.sub [0, 1, 2, 3, 4, 5] rfl) (hD.sub [0, 1, 2, 3, 4, 5] (by decide) rfl) hS (lv_sub hl [0, 2, 3, 4, 5, 6] rfl)
          · have hrun := oz_t hrun c4
            refine lv_iload_n hx hb dX10_passDay_43 rfl (lv_at hl 5 rfl) ?_
            refine lv_goto (tgt := 48) hx hb dX10_passDay_44 (by decide) ?_
            refine lv_iadd hx hb dX10_passDay_48 ?_
            refine lv_istore (lv' := [(6, .int ((v_p1_daily (Int32.toNatClampNeg w21.1)) + a3)), (5, .int w21.1), (4, .int 0), (0, .ref q_this), (1, .ref q_p1), (2, .int a2), (3, .int a3)]) hx hb dX10_passDay_49 hl (by decide) rfl (fun ls hl => ?_)
            refine lv_aload_n hx hb dX10_passDay_51 rfl (lv_at hl 3 rfl) ?_
            refine va_get (D := (dC, dI)) (ci := 10) (v := .ref q_away) (C := RX10) (T := TX10) (N := 5) hx hb hts hiX10 hown hK hP 0 rfl rfl 1 (by decide) hk15 (fun _ h9 => h9) rfl dX10_passDay_52 ?_
            refine lv_iload hx hb dX10_passDay_55 (lv_at hl 1 rfl) ?_
            refine va_iald hx hb hK hP 2 0 rfl rfl c3 dX10_passDay_57 ?_
            refine lv_if_le (tgt := 75) hx hb dX10_passDay_58 (by decide) (fun c6 => ?_) (fun c6 => ?_)
            · have hrun := oz_t hrun c6
              refine lv_iload hx hb dX10_passDay_75 (lv_at hl 2 rfl) ?_
              refine lv_if_eq (tgt := 95) hx hb dX10_passDay_77 (by decide) (fun _ => ?_) (fun z9 => absurd (by decide) z9)
              refine lv_aload_n hx hb dX10_passDay_95 rfl (lv_at hl 3 rfl) ?_
              refine lv_iload hx hb dX10_passDay_96 (lv_at hl 0 rfl) ?_
              obtain ⟨y98, hc98, hrun⟩ := oz_bind hrun
              have hPc := hP.sub (ws' := [(q_this, .inr (10, [.ref q_kept, .ref q_away, .int v_days, .int v_spilled, .int w21.2.1]))]) [0] rfl
              have hDc := hD.sub (ws' := [(q_this, .inr (10, [.ref q_kept, .ref q_away, .int v_days, .int v_spilled, .int w21.2.1]))]) [0] (by decide) rfl
              have hFc := va_free (wc := [(q_this, .inr (10, [.ref q_kept, .ref q_away, .int v_days, .int v_spilled, .int w21.2.1]))]) hD hS hA [0] rfl
              refine va_callv (va_runV (As := [.int ((v_p1_daily (Int32.toNatClampNeg w21.1)) + a3)]) (rest := []) ⟨hx, hb, hml, hown, hts⟩ (tX10_addToRiver l dC dI cI cZ q_away q_kept q_this H.size v_days v_spilled w21.2.1 ((v_p1_daily (Int32.toNatClampNeg w21.1)) + a3) y98 hc98) (cwV 1 hts gX10_passDay_X10_addToRiver rfl rfl rfl (by decide +kernel) ⟨Nat.le_of_ble_eq_true rfl, Nat.le_of_ble_eq_true rfl⟩) ⟨fun a U g mk q => by obtain ⟨q0, q1, qP, qK, qD⟩ := q; exact ⟨q0, q1, qP, va_K.moved (u := U) (U := U.calling g mk a) (Vm.Alike.refl U.vm) qK, qD⟩, va_recv hK hPc (ci := 10) (q0 := 0) rfl rfl, fun U hU hW => ⟨rfl, by rw [hU], by rw [hU]; exact hPc, va_K.moved hW.alike hK, hDc.weaken (fun _ _ _ _ => trivial)⟩⟩ rfl rfl hl.1 rfl (lv_room (Nat.le_of_ble_eq_true rfl)) dX10_passDay_98 ⟨Nat.le_of_ble_eq_true rfl, Nat.le_of_ble_eq_true rfl⟩) hS (fun q _ h => hFc q h) hFc (fun u9 t9 H1 locs ht9 hvm9 hw9 hB9 hz9 hkk9 hS => ?_)
              obtain ⟨hP9, hK9, hD9⟩ := hB9
              rw [ht9] at hP9
              obtain ⟨hP, hD⟩ := va_join (wr := [(q_kept, .inl (cI, 8, .inl w21.2.2.1)), (q_away, .inl (cI, 8, .inl w21.2.2.2)), (q_p1, .inr (6, [.int v_p1_stands, .int v_p1_lent, .int v_p1_pipe, .int v_p1_houses, .ref q_p1_room, .ref q_p1_daily, .ref q_p1_drain, .ref q_p1_above])), (q_p1_room, .inl (cI, 8, .inl v_p1_room)), (q_p1_daily, .inl (cI, 8, .inl v_p1_daily))]) (w1 := [(q_this, .inr (10, [.ref q_kept, .ref q_away, .int v_days, .int v_spilled, .int y98]))]) hP hD [0] [1, 2, 3, 4, 5] rfl rfl (by decide) (by decide) hkk9 hFc hP9 hD9
              generalize H1 = H at hP hS ⊢
              have hP : va_P (dC, dI) vwCl [(q_kept, .inl (cI, 8, .inl w21.2.2.1)), (q_away, .inl (cI, 8, .inl w21.2.2.2)), (q_p1, .inr (6, [.int v_p1_stands, .int v_p1_lent, .int v_p1_pipe, .int v_p1_houses, .ref q_p1_room, .ref q_p1_daily, .ref q_p1_drain, .ref q_p1_above])), (q_p1_room, .inl (cI, 8, .inl v_p1_room)), (q_p1_daily, .inl (cI, 8, .inl v_p1_daily)), (q_this, .inr (10, [.ref q_kept, .ref q_away, .int v_days, .int v_spilled, .int y98]))] H := hP
              have hD : va_D A [(q_kept, .inl (cI, 8, .inl w21.2.2.1)), (q_away, .inl (cI, 8, .inl w21.2.2.2)), (q_p1, .inr (6, [.int v_p1_stands, .int v_p1_lent, .int v_p1_pipe, .int v_p1_houses, .ref q_p1_room, .ref q_p1_daily, .ref q_p1_drain, .ref q_p1_above])), (q_p1_room, .inl (cI, 8, .inl v_p1_room)), (q_p1_daily, .inl (cI, 8, .inl v_p1_daily)), (q_this, .inr (10, [.ref q_kept, .ref q_away, .int v_days, .int v_spilled, .int y98]))] := hD
              refine lv_iinc (v := (w21.1 + 1)) (lv' := [(5, .int (w21.1 + 1)), (6, .int ((v_p1_daily (Int32.toNatClampNeg w21.1)) + a3)), (4, .int 0), (0, .ref q_this), (1, .ref q_p1), (2, .int a2), (3, .int a3)]) hx hb dX10_passDay_101 hl (k := 1) rfl rfl (by decide) rfl (fun ls hl => ?_)
              refine lv_goto (tgt := 21) hx hb dX10_passDay_104 (by decide) ?_
              have hr9 := Option.some.inj hrun
              subst hr9
              exact ih ((w21.1 + 1), y98, w21.2.2.1, w21.2.2.2) _ hnext hexit _ _ _ (hP.sub [5, 0, 1, 2, 3, 4] rfl) (hD.sub [5, 0, 1, 2, 3, 4] (by decide) rfl) hS (lv_sub hl [0, 2, 3, 4, 5, 6] rfl)
            · have hrun := oz_f hrun c6
              refine lv_aload_n hx hb dX10_passDay_61 rfl (lv_at hl 3 rfl) ?_
              refine va_get (D := (dC, dI)) (ci := 10) (v := .ref q_away) (C := RX10) (T := TX10) (N := 5) hx hb hts hiX10 hown hK hP 0 rfl rfl 1 (by decide) hk15 (fun _ h9 => h9) rfl dX10_passDay_62 ?_
              refine lv_iload hx hb dX10_passDay_65 (lv_at hl 1 rfl) ?_
              refine lv_dup2_11 hx hb dX10_passDay_67 rfl rfl ?_
              refine va_iald hx hb hK hP 2 0 rfl rfl c3 dX10_passDay_68 ?_
              refine lv_iconst (v := 1) hx hb dX10_passDay_69 (by decide) ?_
              refine lv_isub hx hb dX10_passDay_70 ?_
              refine va_iast hx hb hK hP hD hS 2 0 rfl rfl c3 dX10_passDay_71 (fun H locs hP hD hS => ?_)
              have hP : va_P (dC, dI) vwCl [(q_this, .inr (10, [.ref q_kept, .ref q_away, .int v_days, .int v_spilled, .int w21.2.1])), (q_kept, .inl (cI, 8, .inl w21.2.2.1)), (q_away, .inl (cI, 8, .inl (upd w21.2.2.2 (Int32.toNatClampNeg w21.1) ((w21.2.2.2 (Int32.toNatClampNeg w21.1)) - 1)))), (q_p1, .inr (6, [.int v_p1_stands, .int v_p1_lent, .int v_p1_pipe, .int v_p1_houses, .ref q_p1_room, .ref q_p1_daily, .ref q_p1_drain, .ref q_p1_above])), (q_p1_room, .inl (cI, 8, .inl v_p1_room)), (q_p1_daily, .inl (cI, 8, .inl v_p1_daily))] H := hP
              have hD : va_D A [(q_this, .inr (10, [.ref q_kept, .ref q_away, .int v_days, .int v_spilled, .int w21.2.1])), (q_kept, .inl (cI, 8, .inl w21.2.2.1)), (q_away, .inl (cI, 8, .inl (upd w21.2.2.2 (Int32.toNatClampNeg w21.1) ((w21.2.2.2 (Int32.toNatClampNeg w21.1)) - 1)))), (q_p1, .inr (6, [.int v_p1_stands, .int v_p1_lent, .int v_p1_pipe, .int v_p1_houses, .ref q_p1_room, .ref q_p1_daily, .ref q_p1_drain, .ref q_p1_above])), (q_p1_room, .inl (cI, 8, .inl v_p1_room)), (q_p1_daily, .inl (cI, 8, .inl v_p1_daily))] := hD
              refine lv_goto (tgt := 101) hx hb dX10_passDay_72 (by decide) ?_
              refine lv_iinc (v := (w21.1 + 1)) (lv' := [(5, .int (w21.1 + 1)), (6, .int ((v_p1_daily (Int32.toNatClampNeg w21.1)) + a3)), (4, .int 0), (0, .ref q_this), (1, .ref q_p1), (2, .int a2), (3, .int a3)]) hx hb dX10_passDay_101 hl (k := 1) rfl rfl (by decide) rfl (fun ls hl => ?_)
              refine lv_goto (tgt := 21) hx hb dX10_passDay_104 (by decide) ?_
              have hr9 := Option.some.inj hrun
              subst hr9
              exact ih ((w21.1 + 1), w21.2.1, w21.2.2.1, (upd w21.2.2.2 (Int32.toNatClampNeg w21.1) ((w21.2.2.2 (Int32.toNatClampNeg w21.1)) - 1))) _ hnext hexit _ _ _ (hP.sub [0, 1, 2, 3, 4, 5] rfl) (hD.sub [0, 1, 2, 3, 4, 5] (by decide) rfl) hS (lv_sub hl [0, 2, 3, 4, 5, 6] rfl)
    refine hL21 oz_fuel (0, v_river, v_kept, v_away) o21 hlp21 (fun H locs ls hP hD hS hl => ?_) _ _ _ (hP.sub [0, 1, 2, 3, 4, 5] rfl) (hD.sub [0, 1, 2, 3, 4, 5] (by decide) rfl) hS (lv_sub hl [0, 1, 2, 3, 4, 5] rfl)
    have hP : va_P (dC, dI) vwCl [(q_this, .inr (10, [.ref q_kept, .ref q_away, .int v_days, .int v_spilled, .int o21.2.1])), (q_kept, .inl (cI, 8, .inl o21.2.2.1)), (q_away, .inl (cI, 8, .inl o21.2.2.2)), (q_p1, .inr (6, [.int v_p1_stands, .int v_p1_lent, .int v_p1_pipe, .int v_p1_houses, .ref q_p1_room, .ref q_p1_daily, .ref q_p1_drain, .ref q_p1_above])), (q_p1_room, .inl (cI, 8, .inl v_p1_room)), (q_p1_daily, .inl (cI, 8, .inl v_p1_daily))] H := hP
    have hD : va_D A [(q_this, .inr (10, [.ref q_kept, .ref q_away, .int v_days, .int v_spilled, .int o21.2.1])), (q_kept, .inl (cI, 8, .inl o21.2.2.1)), (q_away, .inl (cI, 8, .inl o21.2.2.2)), (q_p1, .inr (6, [.int v_p1_stands, .int v_p1_lent, .int v_p1_pipe, .int v_p1_houses, .ref q_p1_room, .ref q_p1_daily, .ref q_p1_drain, .ref q_p1_above])), (q_p1_room, .inl (cI, 8, .inl v_p1_room)), (q_p1_daily, .inl (cI, 8, .inl v_p1_daily))] := hD
    have hl : lv_has ls 7 [(5, .int o21.1), (4, .int 0), (0, .ref q_this), (1, .ref q_p1), (2, .int a2), (3, .int a3)] := hl
    refine lv_aload_n hx hb dX10_passDay_107 rfl (lv_at hl 2 rfl) ?_
    refine lv_aload_n hx hb dX10_passDay_108 rfl (lv_at hl 3 rfl) ?_
    obtain ⟨y109, hc109, hrun⟩ := oz_bind hrun
    have hPc := hP.sub (ws' := [(q_this, .inr (10, [.ref q_kept, .ref q_away, .int v_days, .int v_spilled, .int o21.2.1])), (q_kept, .inl (cI, 8, .inl o21.2.2.1)), (q_p1, .inr (6, [.int v_p1_stands, .int v_p1_lent, .int v_p1_pipe, .int v_p1_houses, .ref q_p1_room, .ref q_p1_daily, .ref q_p1_drain, .ref q_p1_above])), (q_p1_room, .inl (cI, 8, .inl v_p1_room))]) [0, 1, 3, 4] rfl
    have hDc := hD.sub (ws' := [(q_this, .inr (10, [.ref q_kept, .ref q_away, .int v_days, .int v_spilled, .int o21.2.1])), (q_kept, .inl (cI, 8, .inl o21.2.2.1)), (q_p1, .inr (6, [.int v_p1_stands, .int v_p1_lent, .int v_p1_pipe, .int v_p1_houses, .ref q_p1_room, .ref q_p1_daily, .ref q_p1_drain, .ref q_p1_above])), (q_p1_room, .inl (cI, 8, .inl v_p1_room))]) [0, 1, 3, 4] (by decide) rfl
    have hFc := va_free (wc := [(q_this, .inr (10, [.ref q_kept, .ref q_away, .int v_days, .int v_spilled, .int o21.2.1])), (q_kept, .inl (cI, 8, .inl o21.2.2.1)), (q_p1, .inr (6, [.int v_p1_stands, .int v_p1_lent, .int v_p1_pipe, .int v_p1_houses, .ref q_p1_room, .ref q_p1_daily, .ref q_p1_drain, .ref q_p1_above])), (q_p1_room, .inl (cI, 8, .inl v_p1_room))]) hD hS hA [0, 1, 3, 4] rfl
    refine va_callv (va_runV (As := [.ref q_p1]) (rest := []) ⟨hx, hb, hml, hown, hts⟩ (tX10_spillOver l dC dI cI cZ q_away q_kept q_p1 q_p1_above q_p1_daily q_p1_drain q_p1_room q_this H.size v_days o21.2.1 v_p1_stands v_p1_lent v_p1_pipe v_spilled o21.2.2.1 v_p1_houses v_p1_room y109 hc109) (cwV 1 hts gX10_passDay_X10_spillOver rfl rfl rfl (by decide +kernel) ⟨Nat.le_of_ble_eq_true rfl, Nat.le_of_ble_eq_true rfl⟩) ⟨fun a U g mk q => by obtain ⟨q0, q1, qP, qK, qD⟩ := q; exact ⟨q0, q1, qP, va_K.moved (u := U) (U := U.calling g mk a) (Vm.Alike.refl U.vm) qK, qD⟩, va_recv hK hPc (ci := 10) (q0 := 0) rfl rfl, fun U hU hW => ⟨rfl, by rw [hU], by rw [hU]; exact hPc, va_K.moved hW.alike hK, hDc.weaken (fun _ _ _ _ => trivial)⟩⟩ rfl rfl hl.1 rfl (lv_room (Nat.le_of_ble_eq_true rfl)) dX10_passDay_109 ⟨Nat.le_of_ble_eq_true rfl, Nat.le_of_ble_eq_true rfl⟩) hS (fun q _ h => hFc q h) hFc (fun u9 t9 H1 locs ht9 hvm9 hw9 hB9 hz9 hkk9 hS => ?_)
    obtain ⟨hP9, hK9, hD9⟩ := hB9
    rw [ht9] at hP9
    obtain ⟨hP, hD⟩ := va_join (wr := [(q_away, .inl (cI, 8, .inl o21.2.2.2)), (q_p1_daily, .inl (cI, 8, .inl v_p1_daily))]) (w1 := [(q_this, .inr (10, [.ref q_kept, .ref q_away, .int v_days, .int y109.1, .int o21.2.1])), (q_kept, .inl (cI, 8, .inl y109.2)), (q_p1, .inr (6, [.int v_p1_stands, .int v_p1_lent, .int v_p1_pipe, .int v_p1_houses, .ref q_p1_room, .ref q_p1_daily, .ref q_p1_drain, .ref q_p1_above])), (q_p1_room, .inl (cI, 8, .inl v_p1_room))]) hP hD [0, 1, 3, 4] [2, 5] rfl rfl (by decide) (by decide) hkk9 hFc hP9 hD9
    generalize H1 = H at hP hS ⊢
    have hP : va_P (dC, dI) vwCl [(q_away, .inl (cI, 8, .inl o21.2.2.2)), (q_p1_daily, .inl (cI, 8, .inl v_p1_daily)), (q_this, .inr (10, [.ref q_kept, .ref q_away, .int v_days, .int y109.1, .int o21.2.1])), (q_kept, .inl (cI, 8, .inl y109.2)), (q_p1, .inr (6, [.int v_p1_stands, .int v_p1_lent, .int v_p1_pipe, .int v_p1_houses, .ref q_p1_room, .ref q_p1_daily, .ref q_p1_drain, .ref q_p1_above])), (q_p1_room, .inl (cI, 8, .inl v_p1_room))] H := hP
    have hD : va_D A [(q_away, .inl (cI, 8, .inl o21.2.2.2)), (q_p1_daily, .inl (cI, 8, .inl v_p1_daily)), (q_this, .inr (10, [.ref q_kept, .ref q_away, .int v_days, .int y109.1, .int o21.2.1])), (q_kept, .inl (cI, 8, .inl y109.2)), (q_p1, .inr (6, [.int v_p1_stands, .int v_p1_lent, .int v_p1_pipe, .int v_p1_houses, .ref q_p1_room, .ref q_p1_daily, .ref q_p1_drain, .ref q_p1_above])), (q_p1_room, .inl (cI, 8, .inl v_p1_room))] := hD
    refine lv_aload_n hx hb dX10_passDay_112 rfl (lv_at hl 2 rfl) ?_
    refine lv_dup hx hb dX10_passDay_113 rfl ?_
    refine va_get (D := (dC, dI)) (ci := 10) (v := .int v_days) (C := RX10) (T := TX10) (N := 5) hx hb hts hiX10 hown hK hP 2 rfl rfl 2 (by decide) hk18 (fun _ h9 => h9) rfl dX10_passDay_114 ?_
    refine lv_iconst (v := 1) hx hb dX10_passDay_117 (by decide) ?_
    refine lv_iadd hx hb dX10_passDay_118 ?_
    refine va_put (D := (dC, dI)) (ci := 10) (v := .int (v_days + 1)) (ty := .int) (C := RX10) (T := TX10) (N := 5) hx hb hts hiX10 tyX10 tyX10_ok nmX10 hown hK hP hD hS 2 rfl rfl 2 (by decide) hk18 (fun _ h9 => h9) rfl (by decide +kernel) rfl rfl (Nat.le_of_ble_eq_true rfl) dX10_passDay_119 (fun H locs hP hD hS => ?_)
    have hP : va_P (dC, dI) vwCl [(q_away, .inl (cI, 8, .inl o21.2.2.2)), (q_p1_daily, .inl (cI, 8, .inl v_p1_daily)), (q_this, .inr (10, [.ref q_kept, .ref q_away, .int (v_days + 1), .int y109.1, .int o21.2.1])), (q_kept, .inl (cI, 8, .inl y109.2)), (q_p1, .inr (6, [.int v_p1_stands, .int v_p1_lent, .int v_p1_pipe, .int v_p1_houses, .ref q_p1_room, .ref q_p1_daily, .ref q_p1_drain, .ref q_p1_above])), (q_p1_room, .inl (cI, 8, .inl v_p1_room))] H := hP
    have hD : va_D A [(q_away, .inl (cI, 8, .inl o21.2.2.2)), (q_p1_daily, .inl (cI, 8, .inl v_p1_daily)), (q_this, .inr (10, [.ref q_kept, .ref q_away, .int (v_days + 1), .int y109.1, .int o21.2.1])), (q_kept, .inl (cI, 8, .inl y109.2)), (q_p1, .inr (6, [.int v_p1_stands, .int v_p1_lent, .int v_p1_pipe, .int v_p1_houses, .ref q_p1_room, .ref q_p1_daily, .ref q_p1_drain, .ref q_p1_above])), (q_p1_room, .inl (cI, 8, .inl v_p1_room))] := hD
    have ho9 := Option.some.inj hrun
    subst ho9
    have hP9 := hP.sub (ws' := [(q_this, .inr (10, [.ref q_kept, .ref q_away, .int (v_days + 1), .int y109.1, .int o21.2.1])), (q_kept, .inl (cI, 8, .inl y109.2)), (q_away, .inl (cI, 8, .inl o21.2.2.2)), (q_p1, .inr (6, [.int v_p1_stands, .int v_p1_lent, .int v_p1_pipe, .int v_p1_houses, .ref q_p1_room, .ref q_p1_daily, .ref q_p1_drain, .ref q_p1_above])), (q_p1_room, .inl (cI, 8, .inl v_p1_room)), (q_p1_daily, .inl (cI, 8, .inl v_p1_daily))]) [2, 3, 0, 4, 5, 1] rfl
    have hD9 := hD.sub (ws' := [(q_this, .inr (10, [.ref q_kept, .ref q_away, .int (v_days + 1), .int y109.1, .int o21.2.1])), (q_kept, .inl (cI, 8, .inl y109.2)), (q_away, .inl (cI, 8, .inl o21.2.2.2)), (q_p1, .inr (6, [.int v_p1_stands, .int v_p1_lent, .int v_p1_pipe, .int v_p1_houses, .ref q_p1_room, .ref q_p1_daily, .ref q_p1_drain, .ref q_p1_above])), (q_p1_room, .inl (cI, 8, .inl v_p1_room)), (q_p1_daily, .inl (cI, 8, .inl v_p1_daily))]) [2, 3, 0, 4, 5, 1] (by decide) rfl
    rw [hQ]
    exact W.vret hx hb hr (fun t ht hW => ⟨⟨(), rfl, trivial, by rw [ht]; exact hP9, va_K.moved hW.alike hK, hD9⟩, hS.F ht⟩) hS.2.2 dX10_passDay_122
  · have hrun := oz_f hrun c1
    refine lv_iconst (v := 1) hx hb dX10_passDay_11 (by decide) ?_
    refine lv_goto (tgt := 16) hx hb dX10_passDay_12 (by decide) ?_
    refine lv_istore (lv' := [(4, .int 1), (0, .ref q_this), (1, .ref q_p1), (2, .int a2), (3, .int a3)]) hx hb dX10_passDay_16 hl (by decide) rfl (fun ls hl => ?_)
    refine lv_iconst (v := 0) hx hb dX10_passDay_18 (by decide) ?_
    refine lv_istore (lv' := [(5, .int 0), (4, .int 1), (0, .ref q_this), (1, .ref q_p1), (2, .int a2), (3, .int a3)]) hx hb dX10_passDay_19 hl (by decide) rfl (fun ls hl => ?_)
    obtain ⟨o21, hlp21, hrun⟩ := oz_bind hrun
    have hL21 : ∀ (n : Nat) (w21 : Int32 × Int32 × (Nat → Int32) × (Nat → Int32)) (o21 : Int32 × Int32 × (Nat → Int32) × (Nat → Int32)), oz_loop (fX10_passDay_b21_1 v_p1_houses v_p1_daily a2 a3) n w21 = some o21 → (∀ (H : Heap) (locs : List Loc) (ls : Array Slot), va_P (dC, dI) vwCl [(q_this, .inr (10, [.ref q_kept, .ref q_away, .int v_days, .int v_spilled, .int o21.2.1])), (q_kept, .inl (cI, 8, .inl o21.2.2.1)), (q_away, .inl (cI, 8, .inl o21.2.2.2)), (q_p1, .inr (6, [.int v_p1_stands, .int v_p1_lent, .int v_p1_pipe, .int v_p1_houses, .ref q_p1_room, .ref q_p1_daily, .ref q_p1_drain, .ref q_p1_above])), (q_p1_room, .inl (cI, 8, .inl v_p1_room)), (q_p1_daily, .inl (cI, 8, .inl v_p1_daily))] H → va_D A [(q_this, .inr (10, [.ref q_kept, .ref q_away, .int v_days, .int v_spilled, .int o21.2.1])), (q_kept, .inl (cI, 8, .inl o21.2.2.1)), (q_away, .inl (cI, 8, .inl o21.2.2.2)), (q_p1, .inr (6, [.int v_p1_stands, .int v_p1_lent, .int v_p1_pipe, .int v_p1_houses, .ref q_p1_room, .ref q_p1_daily, .ref q_p1_drain, .ref q_p1_above])), (q_p1_room, .inl (cI, 8, .inl v_p1_room)), (q_p1_daily, .inl (cI, 8, .inl v_p1_daily))] → va_S A s.heap H locs → lv_has ls 7 [(5, .int o21.1), (4, .int 1), (0, .ref q_this), (1, .ref q_p1), (2, .int a2), (3, .int a3)] → W p l e (headSpec wsX10_passDay rmX10_passDay).room s m (([.ref q_this, .ref q_p1, .int a2, .int a3] : List Value).toArray) below meth c H locs 0 0 Q (F0 m 107 ls [])) → ∀ (H : Heap) (locs : List Loc) (ls : Array Slot), va_P (dC, dI) vwCl [(q_this, .inr (10, [.ref q_kept, .ref q_away, .int v_days, .int v_spilled, .int w21.2.1])), (q_kept, .inl (cI, 8, .inl w21.2.2.1)), (q_away, .inl (cI, 8, .inl w21.2.2.2)), (q_p1, .inr (6, [.int v_p1_stands, .int v_p1_lent, .int v_p1_pipe, .int v_p1_houses, .ref q_p1_room, .ref q_p1_daily, .ref q_p1_drain, .ref q_p1_above])), (q_p1_room, .inl (cI, 8, .inl v_p1_room)), (q_p1_daily, .inl (cI, 8, .inl v_p1_daily))] H → va_D A [(q_this, .inr (10, [.ref q_kept, .ref q_away, .int v_days, .int v_spilled, .int w21.2.1])), (q_kept, .inl (cI, 8, .inl w21.2.2.1)), (q_away, .inl (cI, 8, .inl w21.2.2.2)), (q_p1, .inr (6, [.int v_p1_stands, .int v_p1_lent, .int v_p1_pipe, .int v_p1_houses, .ref q_p1_room, .ref q_p1_daily, .ref q_p1_drain, .ref q_p1_above])), (q_p1_room, .inl (cI, 8, .inl v_p1_room)), (q_p1_daily, .inl (cI, 8, .inl v_p1_daily))] → va_S A s.heap H locs → lv_has ls 7 [(5, .int w21.1), (4, .int 1), (0, .ref q_this), (1, .ref q_p1), (2, .int a2), (3, .int a3)] → W p l e (headSpec wsX10_passDay rmX10_passDay).room s m (([.ref q_this, .ref q_p1, .int a2, .int a3] : List Value).toArray) below meth c H locs 0 0 Q (F0 m 21 ls []) := by
      intro n
      induction n with
      | zero => intro w21 o21 h9; exact (oz_zero h9).elim
      | succ n ih =>
        intro w21 o21 h9 hexit H locs ls hP hD hS hl
        obtain ⟨r9, hrun, hnext⟩ := oz_step h9
        unfold fX10_passDay_b21_1 at hrun
        refine lv_iload hx hb dX10_passDay_21 (lv_at hl 0 rfl) ?_
        refine lv_aload_n hx hb dX10_passDay_23 rfl (lv_at hl 3 rfl) ?_
        refine va_get (D := (dC, dI)) (ci := 6) (v := .int v_p1_houses) (C := RX6) (T := TX6) (N := 8) hx hb hts hiX6 hown hK hP 3 rfl rfl 3 (by decide) hk39 (fun _ h9 => h9) rfl dX10_passDay_24 ?_
        refine lv_icmp_ge (tgt := 107) hx hb dX10_passDay_27 (by decide) (fun c7 => ?_) (fun c7 => ?_)
        · have hrun := oz_t hrun c7
          have hr9 := Option.some.inj hrun
          subst hr9
          have ho9 : (w21.1, w21.2.1, w21.2.2.1, w21.2.2.2) = o21 := hnext
          subst ho9
          exact hexit _ _ _ (hP.sub [0, 1, 2, 3, 4, 5] rfl) (hD.sub [0, 1, 2, 3, 4, 5] (by decide) rfl) hS (lv_sub hl [0, 1, 2, 3, 4, 5] rfl)
        · have hrun := oz_f hrun c7
          refine lv_aload_n hx hb dX10_passDay_30 rfl (lv_at hl 3 rfl) ?_
          refine va_get (D := (dC, dI)) (ci := 6) (v := .ref q_p1_daily) (C := RX6) (T := TX6) (N := 8) hx hb hts hiX6 hown hK hP 3 rfl rfl 5 (by decide) hk42 (fun _ h9 => h9) rfl dX10_passDay_31 ?_
          refine lv_iload hx hb dX10_passDay_34 (lv_at hl 0 rfl) ?_
          obtain ⟨c8, hrun⟩ := oz_chk hrun
          refine va_iald hx hb hK hP 5 0 rfl rfl c8 dX10_passDay_36 ?_
          refine lv_iload hx hb dX10_passDay_37 (lv_at hl 0 rfl) ?_
          refine lv_iload_n hx hb dX10_passDay_39 rfl (lv_at hl 4 rfl) ?_
          refine lv_icmp_ne (tgt := 47) hx hb dX10_passDay_40 (by decide) (fun c9 => ?_) (fun c9 => ?_)
          · have hrun := oz_f hrun c9
            refine lv_iconst (v := 0) hx hb dX10_passDay_47 (by decide) ?_
            refine lv_iadd hx hb dX10_passDay_48 ?_
            refine lv_istore (lv' := [(6, .int ((v_p1_daily (Int32.toNatClampNeg w21.1)) + 0)), (5, .int w21.1), (4, .int 1), (0, .ref q_this), (1, .ref q_p1), (2, .int a2), (3, .int a3)]) hx hb dX10_passDay_49 hl (by decide) rfl (fun ls hl => ?_)
            refine lv_aload_n hx hb dX10_passDay_51 rfl (lv_at hl 3 rfl) ?_
            refine va_get (D := (dC, dI)) (ci := 10) (v := .ref q_away) (C := RX10) (T := TX10) (N := 5) hx hb hts hiX10 hown hK hP 0 rfl rfl 1 (by decide) hk15 (fun _ h9 => h9) rfl dX10_passDay_52 ?_
            refine lv_iload hx hb dX10_passDay_55 (lv_at hl 1 rfl) ?_
            refine va_iald hx hb hK hP 2 0 rfl rfl c8 dX10_passDay_57 ?_
            refine lv_if_le (tgt := 75) hx hb dX10_passDay_58 (by decide) (fun c10 => ?_) (fun c10 => ?_)
            · have hrun := oz_t hrun c10
              refine lv_iload hx hb dX10_passDay_75 (lv_at hl 2 rfl) ?_
              refine lv_if_eq (tgt := 95) hx hb dX10_passDay_77 (by decide) (fun z9 => absurd z9 (by decide)) (fun _ => ?_)
              refine lv_aload_n hx hb dX10_passDay_80 rfl (lv_at hl 3 rfl) ?_
              refine va_get (D := (dC, dI)) (ci := 10) (v := .ref q_kept) (C := RX10) (T := TX10) (N := 5) hx hb hts hiX10 hown hK hP 0 rfl rfl 0 (by decide) hk9 (fun _ h9 => h9) rfl dX10_passDay_81 ?_
              refine lv_iload hx hb dX10_passDay_84 (lv_at hl 1 rfl) ?_
              refine lv_dup2_11 hx hb dX10_passDay_86 rfl rfl ?_
              refine va_iald hx hb hK hP 1 0 rfl rfl c8 dX10_passDay_87 ?_
              refine lv_iload hx hb dX10_passDay_88 (lv_at hl 0 rfl) ?_
              refine lv_iadd hx hb dX10_passDay_90 ?_
              refine va_iast hx hb hK hP hD hS 1 0 rfl rfl c8 dX10_passDay_91 (fun H locs hP hD hS => ?_)
              have hP : va_P (dC, dI) vwCl [(q_this, .inr (10, [.ref q_kept, .ref q_away, .int v_days, .int v_spilled, .int w21.2.1])), (q_kept, .inl (cI, 8, .inl (upd w21.2.2.1 (Int32.toNatClampNeg w21.1) ((w21.2.2.1 (Int32.toNatClampNeg w21.1)) + ((v_p1_daily (Int32.toNatClampNeg w21.1)) + 0))))), (q_away, .inl (cI, 8, .inl w21.2.2.2)), (q_p1, .inr (6, [.int v_p1_stands, .int v_p1_lent, .int v_p1_pipe, .int v_p1_houses, .ref q_p1_room, .ref q_p1_daily, .ref q_p1_drain, .ref q_p1_above])), (q_p1_room, .inl (cI, 8, .inl v_p1_room)), (q_p1_daily, .inl (cI, 8, .inl v_p1_daily))] H := hP
              have hD : va_D A [(q_this, .inr (10, [.ref q_kept, .ref q_away, .int v_days, .int v_spilled, .int w21.2.1])), (q_kept, .inl (cI, 8, .inl (upd w21.2.2.1 (Int32.toNatClampNeg w21.1) ((w21.2.2.1 (Int32.toNatClampNeg w21.1)) + ((v_p1_daily (Int32.toNatClampNeg w21.1)) + 0))))), (q_away, .inl (cI, 8, .inl w21.2.2.2)), (q_p1, .inr (6, [.int v_p1_stands, .int v_p1_lent, .int v_p1_pipe, .int v_p1_houses, .ref q_p1_room, .ref q_p1_daily, .ref q_p1_drain, .ref q_p1_above])), (q_p1_room, .inl (cI, 8, .inl v_p1_room)), (q_p1_daily, .inl (cI, 8, .inl v_p1_daily))] := hD
              refine lv_goto (tgt := 101) hx hb dX10_passDay_92 (by decide) ?_
              refine lv_iinc (v := (w21.1 + 1)) (lv' := [(5, .int (w21.1 + 1)), (6, .int ((v_p1_daily (Int32.toNatClampNeg w21.1)) + 0)), (4, .int 1), (0, .ref q_this), (1, .ref q_p1), (2, .int a2), (3, .int a3)]) hx hb dX10_passDay_101 hl (k := 1) rfl rfl (by decide) rfl (fun ls hl => ?_)
              refine lv_goto (tgt := 21) hx hb dX10_passDay_104 (by decide) ?_
              have hr9 := Option.some.inj hrun
              subst hr9
              exact ih ((w21.1 + 1), w21.2.1, (upd w21.2.2.1 (Int32.toNatClampNeg w21.1) ((w21.2.2.1 (Int32.toNatClampNeg w21.1)) + ((v_p1_daily (Int32.toNatClampNeg w21.1)) + 0))), w21.2.2.2) _ hnext hexit _ _ _ (hP.sub [0, 1, 2, 3, 4, 5] rfl) (hD.sub [0, 1, 2, 3, 4, 5] (by decide) rfl) hS (lv_sub hl [0, 2, 3, 4, 5, 6] rfl)
            · have hrun := oz_f hrun c10
              refine lv_aload_n hx hb dX10_passDay_61 rfl (lv_at hl 3 rfl) ?_
              refine va_get (D := (dC, dI)) (ci := 10) (v := .ref q_away) (C := RX10) (T := TX10) (N := 5) hx hb hts hiX10 hown hK hP 0 rfl rfl 1 (by decide) hk15 (fun _ h9 => h9) rfl dX10_passDay_62 ?_
              refine lv_iload hx hb dX10_passDay_65 (lv_at hl 1 rfl) ?_
              refine lv_dup2_11 hx hb dX10_passDay_67 rfl rfl ?_
              refine va_iald hx hb hK hP 2 0 rfl rfl c8 dX10_passDay_68 ?_
              refine lv_iconst (v := 1) hx hb dX10_passDay_69 (by decide) ?_
              refine lv_isub hx hb dX10_passDay_70 ?_
              refine va_iast hx hb hK hP hD hS 2 0 rfl rfl c8 dX10_passDay_71 (fun H locs hP hD hS => ?_)
              have hP : va_P (dC, dI) vwCl [(q_this, .inr (10, [.ref q_kept, .ref q_away, .int v_days, .int v_spilled, .int w21.2.1])), (q_kept, .inl (cI, 8, .inl w21.2.2.1)), (q_away, .inl (cI, 8, .inl (upd w21.2.2.2 (Int32.toNatClampNeg w21.1) ((w21.2.2.2 (Int32.toNatClampNeg w21.1)) - 1)))), (q_p1, .inr (6, [.int v_p1_stands, .int v_p1_lent, .int v_p1_pipe, .int v_p1_houses, .ref q_p1_room, .ref q_p1_daily, .ref q_p1_drain, .ref q_p1_above])), (q_p1_room, .inl (cI, 8, .inl v_p1_room)), (q_p1_daily, .inl (cI, 8, .inl v_p1_daily))] H := hP
              have hD : va_D A [(q_this, .inr (10, [.ref q_kept, .ref q_away, .int v_days, .int v_spilled, .int w21.2.1])), (q_kept, .inl (cI, 8, .inl w21.2.2.1)), (q_away, .inl (cI, 8, .inl (upd w21.2.2.2 (Int32.toNatClampNeg w21.1) ((w21.2.2.2 (Int32.toNatClampNeg w21.1)) - 1)))), (q_p1, .inr (6, [.int v_p1_stands, .int v_p1_lent, .int v_p1_pipe, .int v_p1_houses, .ref q_p1_room, .ref q_p1_daily, .ref q_p1_drain, .ref q_p1_above])), (q_p1_room, .inl (cI, 8, .inl v_p1_room)), (q_p1_daily, .inl (cI, 8, .inl v_p1_daily))] := hD
              refine lv_goto (tgt := 101) hx hb dX10_passDay_72 (by decide) ?_
              refine lv_iinc (v := (w21.1 + 1)) (lv' := [(5, .int (w21.1 + 1)), (6, .int ((v_p1_daily (Int32.toNatClampNeg w21.1)) + 0)), (4, .int 1), (0, .ref q_this), (1, .ref q_p1), (2, .int a2), (3, .int a3)]) hx hb dX10_passDay_101 hl (k := 1) rfl rfl (by decide) rfl (fun ls hl => ?_)
              refine lv_goto (tgt := 21) hx hb dX10_passDay_104 (by decide) ?_
              have hr9 := Option.some.inj hrun
              subst hr9
              exact ih ((w21.1 + 1), w21.2.1, w21.2.2.1, (upd w21.2.2.2 (Int32.toNatClampNeg w21.1) ((w21.2.2.2 (Int32.toNatClampNeg w21.1)) - 1))) _ hnext hexit _ _ _ (hP.sub [0, 1, 2, 3, 4, 5] rfl) (hD.sub [0, 1, 2, 3, 4, 5] (by decide) rfl) hS (lv_sub hl [0, 2, 3, 4, 5, 6] rfl)
          · have hrun := oz_t hrun c9
            refine lv_iload_n hx hb dX10_passDay_43 rfl (lv_at hl 5 rfl) ?_
            refine lv_goto (tgt := 48) hx hb dX10_passDay_44 (by decide) ?_
            refine lv_iadd hx hb dX10_passDay_48 ?_
            refine lv_istore (lv' := [(6, .int ((v_p1_daily (Int32.toNatClampNeg w21.1)) + a3)), (5, .int w21.1), (4, .int 1), (0, .ref q_this), (1, .ref q_p1), (2, .int a2), (3, .int a3)]) hx hb dX10_passDay_49 hl (by decide) rfl (fun ls hl => ?_)
            refine lv_aload_n hx hb dX10_passDay_51 rfl (lv_at hl 3 rfl) ?_
            refine va_get (D := (dC, dI)) (ci := 10) (v := .ref q_away) (C := RX10) (T := TX10) (N := 5) hx hb hts hiX10 hown hK hP 0 rfl rfl 1 (by decide) hk15 (fun _ h9 => h9) rfl dX10_passDay_52 ?_
            refine lv_iload hx hb dX10_passDay_55 (lv_at hl 1 rfl) ?_
            refine va_iald hx hb hK hP 2 0 rfl rfl c8 dX10_passDay_57 ?_
            refine lv_if_le (tgt := 75) hx hb dX10_passDay_58 (by decide) (fun c11 => ?_) (fun c11 => ?_)
            · have hrun := oz_t hrun c11
              refine lv_iload hx hb dX10_passDay_75 (lv_at hl 2 rfl) ?_
              refine lv_if_eq (tgt := 95) hx hb dX10_passDay_77 (by decide) (fun z9 => absurd z9 (by decide)) (fun _ => ?_)
              refine lv_aload_n hx hb dX10_passDay_80 rfl (lv_at hl 3 rfl) ?_
              refine va_get (D := (dC, dI)) (ci := 10) (v := .ref q_kept) (C := RX10) (T := TX10) (N := 5) hx hb hts hiX10 hown hK hP 0 rfl rfl 0 (by decide) hk9 (fun _ h9 => h9) rfl dX10_passDay_81 ?_
              refine lv_iload hx hb dX10_passDay_84 (lv_at hl 1 rfl) ?_
              refine lv_dup2_11 hx hb dX10_passDay_86 rfl rfl ?_
              refine va_iald hx hb hK hP 1 0 rfl rfl c8 dX10_passDay_87 ?_
              refine lv_iload hx hb dX10_passDay_88 (lv_at hl 0 rfl) ?_
              refine lv_iadd hx hb dX10_passDay_90 ?_
              refine va_iast hx hb hK hP hD hS 1 0 rfl rfl c8 dX10_passDay_91 (fun H locs hP hD hS => ?_)
              have hP : va_P (dC, dI) vwCl [(q_this, .inr (10, [.ref q_kept, .ref q_away, .int v_days, .int v_spilled, .int w21.2.1])), (q_kept, .inl (cI, 8, .inl (upd w21.2.2.1 (Int32.toNatClampNeg w21.1) ((w21.2.2.1 (Int32.toNatClampNeg w21.1)) + ((v_p1_daily (Int32.toNatClampNeg w21.1)) + a3))))), (q_away, .inl (cI, 8, .inl w21.2.2.2)), (q_p1, .inr (6, [.int v_p1_stands, .int v_p1_lent, .int v_p1_pipe, .int v_p1_houses, .ref q_p1_room, .ref q_p1_daily, .ref q_p1_drain, .ref q_p1_above])), (q_p1_room, .inl (cI, 8, .inl v_p1_room)), (q_p1_daily, .inl (cI, 8, .inl v_p1_daily))] H := hP
              have hD : va_D A [(q_this, .inr (10, [.ref q_kept, .ref q_away, .int v_days, .int v_spilled, .int w21.2.1])), (q_kept, .inl (cI, 8, .inl (upd w21.2.2.1 (Int32.toNatClampNeg w21.1) ((w21.2.2.1 (Int32.toNatClampNeg w21.1)) + ((v_p1_daily (Int32.toNatClampNeg w21.1)) + a3))))), (q_away, .inl (cI, 8, .inl w21.2.2.2)), (q_p1, .inr (6, [.int v_p1_stands, .int v_p1_lent, .int v_p1_pipe, .int v_p1_houses, .ref q_p1_room, .ref q_p1_daily, .ref q_p1_drain, .ref q_p1_above])), (q_p1_room, .inl (cI, 8, .inl v_p1_room)), (q_p1_daily, .inl (cI, 8, .inl v_p1_daily))] := hD
              refine lv_goto (tgt := 101) hx hb dX10_passDay_92 (by decide) ?_
              refine lv_iinc (v := (w21.1 + 1)) (lv' := [(5, .int (w21.1 + 1)), (6, .int ((v_p1_daily (Int32.toNatClampNeg w21.1)) + a3)), (4, .int 1), (0, .ref q_this), (1, .ref q_p1), (2, .int a2), (3, .int a3)]) hx hb dX10_passDay_101 hl (k := 1) rfl rfl (by decide) rfl (fun ls hl => ?_)
              refine lv_goto (tgt := 21) hx hb dX10_passDay_104 (by decide) ?_
              have hr9 := Option.some.inj hrun
              subst hr9
              exact ih ((w21.1 + 1), w21.2.1, (upd w21.2.2.1 (Int32.toNatClampNeg w21.1) ((w21.2.2.1 (Int32.toNatClampNeg w21.1)) + ((v_p1_daily (Int32.toNatClampNeg w21.1)) + a3))), w21.2.2.2) _ hnext hexit _ _ _ (hP.sub [0, 1, 2, 3, 4, 5] rfl) (hD.sub [0, 1, 2, 3, 4, 5] (by decide) rfl) hS (lv_sub hl [0, 2, 3, 4, 5, 6] rfl)
            · have hrun := oz_f hrun c11
              refine lv_aload_n hx hb dX10_passDay_61 rfl (lv_at hl 3 rfl) ?_
              refine va_get (D := (dC, dI)) (ci := 10) (v := .ref q_away) (C := RX10) (T := TX10) (N := 5) hx hb hts hiX10 hown hK hP 0 rfl rfl 1 (by decide) hk15 (fun _ h9 => h9) rfl dX10_passDay_62 ?_
              refine lv_iload hx hb dX10_passDay_65 (lv_at hl 1 rfl) ?_
              refine lv_dup2_11 hx hb dX10_passDay_67 rfl rfl ?_
              refine va_iald hx hb hK hP 2 0 rfl rfl c8 dX10_passDay_68 ?_
              refine lv_iconst (v := 1) hx hb dX10_passDay_69 (by decide) ?_
              refine lv_isub hx hb dX10_passDay_70 ?_
              refine va_iast hx hb hK hP hD hS 2 0 rfl rfl c8 dX10_passDay_71 (fun H locs hP hD hS => ?_)
              have hP : va_P (dC, dI) vwCl [(q_this, .inr (10, [.ref q_kept, .ref q_away, .int v_days, .int v_spilled, .int w21.2.1])), (q_kept, .inl (cI, 8, .inl w21.2.2.1)), (q_away, .inl (cI, 8, .inl (upd w21.2.2.2 (Int32.toNatClampNeg w21.1) ((w21.2.2.2 (Int32.toNatClampNeg w21.1)) - 1)))), (q_p1, .inr (6, [.int v_p1_stands, .int v_p1_lent, .int v_p1_pipe, .int v_p1_houses, .ref q_p1_room, .ref q_p1_daily, .ref q_p1_drain, .ref q_p1_above])), (q_p1_room, .inl (cI, 8, .inl v_p1_room)), (q_p1_daily, .inl (cI, 8, .inl v_p1_daily))] H := hP
              have hD : va_D A [(q_this, .inr (10, [.ref q_kept, .ref q_away, .int v_days, .int v_spilled, .int w21.2.1])), (q_kept, .inl (cI, 8, .inl w21.2.2.1)), (q_away, .inl (cI, 8, .inl (upd w21.2.2.2 (Int32.toNatClampNeg w21.1) ((w21.2.2.2 (Int32.toNatClampNeg w21.1)) - 1)))), (q_p1, .inr (6, [.int v_p1_stands, .int v_p1_lent, .int v_p1_pipe, .int v_p1_houses, .ref q_p1_room, .ref q_p1_daily, .ref q_p1_drain, .ref q_p1_above])), (q_p1_room, .inl (cI, 8, .inl v_p1_room)), (q_p1_daily, .inl (cI, 8, .inl v_p1_daily))] := hD
              refine lv_goto (tgt := 101) hx hb dX10_passDay_72 (by decide) ?_
              refine lv_iinc (v := (w21.1 + 1)) (lv' := [(5, .int (w21.1 + 1)), (6, .int ((v_p1_daily (Int32.toNatClampNeg w21.1)) + a3)), (4, .int 1), (0, .ref q_this), (1, .ref q_p1), (2, .int a2), (3, .int a3)]) hx hb dX10_passDay_101 hl (k := 1) rfl rfl (by decide) rfl (fun ls hl => ?_)
              refine lv_goto (tgt := 21) hx hb dX10_passDay_104 (by decide) ?_
              have hr9 := Option.some.inj hrun
              subst hr9
              exact ih ((w21.1 + 1), w21.2.1, w21.2.2.1, (upd w21.2.2.2 (Int32.toNatClampNeg w21.1) ((w21.2.2.2 (Int32.toNatClampNeg w21.1)) - 1))) _ hnext hexit _ _ _ (hP.sub [0, 1, 2, 3, 4, 5] rfl) (hD.sub [0, 1, 2, 3, 4, 5] (by decide) rfl) hS (lv_sub hl [0, 2, 3, 4, 5, 6] rfl)
    refine hL21 oz_fuel (0, v_river, v_kept, v_away) o21 hlp21 (fun H locs ls hP hD hS hl => ?_) _ _ _ (hP.sub [0, 1, 2, 3, 4, 5] rfl) (hD.sub [0, 1, 2, 3, 4, 5] (by decide) rfl) hS (lv_sub hl [0, 1, 2, 3, 4, 5] rfl)
    have hP : va_P (dC, dI) vwCl [(q_this, .inr (10, [.ref q_kept, .ref q_away, .int v_days, .int v_spilled, .int o21.2.1])), (q_kept, .inl (cI, 8, .inl o21.2.2.1)), (q_away, .inl (cI, 8, .inl o21.2.2.2)), (q_p1, .inr (6, [.int v_p1_stands, .int v_p1_lent, .int v_p1_pipe, .int v_p1_houses, .ref q_p1_room, .ref q_p1_daily, .ref q_p1_drain, .ref q_p1_above])), (q_p1_room, .inl (cI, 8, .inl v_p1_room)), (q_p1_daily, .inl (cI, 8, .inl v_p1_daily))] H := hP
    have hD : va_D A [(q_this, .inr (10, [.ref q_kept, .ref q_away, .int v_days, .int v_spilled, .int o21.2.1])), (q_kept, .inl (cI, 8, .inl o21.2.2.1)), (q_away, .inl (cI, 8, .inl o21.2.2.2)), (q_p1, .inr (6, [.int v_p1_stands, .int v_p1_lent, .int v_p1_pipe, .int v_p1_houses, .ref q_p1_room, .ref q_p1_daily, .ref q_p1_drain, .ref q_p1_above])), (q_p1_room, .inl (cI, 8, .inl v_p1_room)), (q_p1_daily, .inl (cI, 8, .inl v_p1_daily))] := hD
    have hl : lv_has ls 7 [(5, .int o21.1), (4, .int 1), (0, .ref q_this), (1, .ref q_p1), (2, .int a2), (3, .int a3)] := hl
    refine lv_aload_n hx hb dX10_passDay_107 rfl (lv_at hl 2 rfl) ?_
    refine lv_aload_n hx hb dX10_passDay_108 rfl (lv_at hl 3 rfl) ?_
    obtain ⟨y109, hc109, hrun⟩ := oz_bind hrun
    have hPc := hP.sub (ws' := [(q_this, .inr (10, [.ref q_kept, .ref q_away, .int v_days, .int v_spilled, .int o21.2.1])), (q_kept, .inl (cI, 8, .inl o21.2.2.1)), (q_p1, .inr (6, [.int v_p1_stands, .int v_p1_lent, .int v_p1_pipe, .int v_p1_houses, .ref q_p1_room, .ref q_p1_daily, .ref q_p1_drain, .ref q_p1_above])), (q_p1_room, .inl (cI, 8, .inl v_p1_room))]) [0, 1, 3, 4] rfl
    have hDc := hD.sub (ws' := [(q_this, .inr (10, [.ref q_kept, .ref q_away, .int v_days, .int v_spilled, .int o21.2.1])), (q_kept, .inl (cI, 8, .inl o21.2.2.1)), (q_p1, .inr (6, [.int v_p1_stands, .int v_p1_lent, .int v_p1_pipe, .int v_p1_houses, .ref q_p1_room, .ref q_p1_daily, .ref q_p1_drain, .ref q_p1_above])), (q_p1_room, .inl (cI, 8, .inl v_p1_room))]) [0, 1, 3, 4] (by decide) rfl
    have hFc := va_free (wc := [(q_this, .inr (10, [.ref q_kept, .ref q_away, .int v_days, .int v_spilled, .int o21.2.1])), (q_kept, .inl (cI, 8, .inl o21.2.2.1)), (q_p1, .inr (6, [.int v_p1_stands, .int v_p1_lent, .int v_p1_pipe, .int v_p1_houses, .ref q_p1_room, .ref q_p1_daily, .ref q_p1_drain, .ref q_p1_above])), (q_p1_room, .inl (cI, 8, .inl v_p1_room))]) hD hS hA [0, 1, 3, 4] rfl
    refine va_callv (va_runV (As := [.ref q_p1]) (rest := []) ⟨hx, hb, hml, hown, hts⟩ (tX10_spillOver l dC dI cI cZ q_away q_kept q_p1 q_p1_above q_p1_daily q_p1_drain q_p1_room q_this H.size v_days o21.2.1 v_p1_stands v_p1_lent v_p1_pipe v_spilled o21.2.2.1 v_p1_houses v_p1_room y109 hc109) (cwV 1 hts gX10_passDay_X10_spillOver rfl rfl rfl (by decide +kernel) ⟨Nat.le_of_ble_eq_true rfl, Nat.le_of_ble_eq_true rfl⟩) ⟨fun a U g mk q => by obtain ⟨q0, q1, qP, qK, qD⟩ := q; exact ⟨q0, q1, qP, va_K.moved (u := U) (U := U.calling g mk a) (Vm.Alike.refl U.vm) qK, qD⟩, va_recv hK hPc (ci := 10) (q0 := 0) rfl rfl, fun U hU hW => ⟨rfl, by rw [hU], by rw [hU]; exact hPc, va_K.moved hW.alike hK, hDc.weaken (fun _ _ _ _ => trivial)⟩⟩ rfl rfl hl.1 rfl (lv_room (Nat.le_of_ble_eq_true rfl)) dX10_passDay_109 ⟨Nat.le_of_ble_eq_true rfl, Nat.le_of_ble_eq_true rfl⟩) hS (fun q _ h => hFc q h) hFc (fun u9 t9 H1 locs ht9 hvm9 hw9 hB9 hz9 hkk9 hS => ?_)
    obtain ⟨hP9, hK9, hD9⟩ := hB9
    rw [ht9] at hP9
    obtain ⟨hP, hD⟩ := va_join (wr := [(q_away, .inl (cI, 8, .inl o21.2.2.2)), (q_p1_daily, .inl (cI, 8, .inl v_p1_daily))]) (w1 := [(q_this, .inr (10, [.ref q_kept, .ref q_away, .int v_days, .int y109.1, .int o21.2.1])), (q_kept, .inl (cI, 8, .inl y109.2)), (q_p1, .inr (6, [.int v_p1_stands, .int v_p1_lent, .int v_p1_pipe, .int v_p1_houses, .ref q_p1_room, .ref q_p1_daily, .ref q_p1_drain, .ref q_p1_above])), (q_p1_room, .inl (cI, 8, .inl v_p1_room))]) hP hD [0, 1, 3, 4] [2, 5] rfl rfl (by decide) (by decide) hkk9 hFc hP9 hD9
    generalize H1 = H at hP hS ⊢
    have hP : va_P (dC, dI) vwCl [(q_away, .inl (cI, 8, .inl o21.2.2.2)), (q_p1_daily, .inl (cI, 8, .inl v_p1_daily)), (q_this, .inr (10, [.ref q_kept, .ref q_away, .int v_days, .int y109.1, .int o21.2.1])), (q_kept, .inl (cI, 8, .inl y109.2)), (q_p1, .inr (6, [.int v_p1_stands, .int v_p1_lent, .int v_p1_pipe, .int v_p1_houses, .ref q_p1_room, .ref q_p1_daily, .ref q_p1_drain, .ref q_p1_above])), (q_p1_room, .inl (cI, 8, .inl v_p1_room))] H := hP
    have hD : va_D A [(q_away, .inl (cI, 8, .inl o21.2.2.2)), (q_p1_daily, .inl (cI, 8, .inl v_p1_daily)), (q_this, .inr (10, [.ref q_kept, .ref q_away, .int v_days, .int y109.1, .int o21.2.1])), (q_kept, .inl (cI, 8, .inl y109.2)), (q_p1, .inr (6, [.int v_p1_stands, .int v_p1_lent, .int v_p1_pipe, .int v_p1_houses, .ref q_p1_room, .ref q_p1_daily, .ref q_p1_drain, .ref q_p1_above])), (q_p1_room, .inl (cI, 8, .inl v_p1_room))] := hD
    refine lv_aload_n hx hb dX10_passDay_112 rfl (lv_at hl 2 rfl) ?_
    refine lv_dup hx hb dX10_passDay_113 rfl ?_
    refine va_get (D := (dC, dI)) (ci := 10) (v := .int v_days) (C := RX10) (T := TX10) (N := 5) hx hb hts hiX10 hown hK hP 2 rfl rfl 2 (by decide) hk18 (fun _ h9 => h9) rfl dX10_passDay_114 ?_
    refine lv_iconst (v := 1) hx hb dX10_passDay_117 (by decide) ?_
    refine lv_iadd hx hb dX10_passDay_118 ?_
    refine va_put (D := (dC, dI)) (ci := 10) (v := .int (v_days + 1)) (ty := .int) (C := RX10) (T := TX10) (N := 5) hx hb hts hiX10 tyX10 tyX10_ok nmX10 hown hK hP hD hS 2 rfl rfl 2 (by decide) hk18 (fun _ h9 => h9) rfl (by decide +kernel) rfl rfl (Nat.le_of_ble_eq_true rfl) dX10_passDay_119 (fun H locs hP hD hS => ?_)
    have hP : va_P (dC, dI) vwCl [(q_away, .inl (cI, 8, .inl o21.2.2.2)), (q_p1_daily, .inl (cI, 8, .inl v_p1_daily)), (q_this, .inr (10, [.ref q_kept, .ref q_away, .int (v_days + 1), .int y109.1, .int o21.2.1])), (q_kept, .inl (cI, 8, .inl y109.2)), (q_p1, .inr (6, [.int v_p1_stands, .int v_p1_lent, .int v_p1_pipe, .int v_p1_houses, .ref q_p1_room, .ref q_p1_daily, .ref q_p1_drain, .ref q_p1_above])), (q_p1_room, .inl (cI, 8, .inl v_p1_room))] H := hP
    have hD : va_D A [(q_away, .inl (cI, 8, .inl o21.2.2.2)), (q_p1_daily, .inl (cI, 8, .inl v_p1_daily)), (q_this, .inr (10, [.ref q_kept, .ref q_away, .int (v_days + 1), .int y109.1, .int o21.2.1])), (q_kept, .inl (cI, 8, .inl y109.2)), (q_p1, .inr (6, [.int v_p1_stands, .int v_p1_lent, .int v_p1_pipe, .int v_p1_houses, .ref q_p1_room, .ref q_p1_daily, .ref q_p1_drain, .ref q_p1_above])), (q_p1_room, .inl (cI, 8, .inl v_p1_room))] := hD
    have ho9 := Option.some.inj hrun
    subst ho9
    have hP9 := hP.sub (ws' := [(q_this, .inr (10, [.ref q_kept, .ref q_away, .int (v_days + 1), .int y109.1, .int o21.2.1])), (q_kept, .inl (cI, 8, .inl y109.2)), (q_away, .inl (cI, 8, .inl o21.2.2.2)), (q_p1, .inr (6, [.int v_p1_stands, .int v_p1_lent, .int v_p1_pipe, .int v_p1_houses, .ref q_p1_room, .ref q_p1_daily, .ref q_p1_drain, .ref q_p1_above])), (q_p1_room, .inl (cI, 8, .inl v_p1_room)), (q_p1_daily, .inl (cI, 8, .inl v_p1_daily))]) [2, 3, 0, 4, 5, 1] rfl
    have hD9 := hD.sub (ws' := [(q_this, .inr (10, [.ref q_kept, .ref q_away, .int (v_days + 1), .int y109.1, .int o21.2.1])), (q_kept, .inl (cI, 8, .inl y109.2)), (q_away, .inl (cI, 8, .inl o21.2.2.2)), (q_p1, .inr (6, [.int v_p1_stands, .int v_p1_lent, .int v_p1_pipe, .int v_p1_houses, .ref q_p1_room, .ref q_p1_daily, .ref q_p1_drain, .ref q_p1_above])), (q_p1_room, .inl (cI, 8, .inl v_p1_room)), (q_p1_daily, .inl (cI, 8, .inl v_p1_daily))]) [2, 3, 0, 4, 5, 1] (by decide) rfl
    rw [hQ]
    exact W.vret hx hb hr (fun t ht hW => ⟨⟨(), rfl, trivial, by rw [ht]; exact hP9, va_K.moved hW.alike hK, hD9⟩, hS.F ht⟩) hS.2.2 dX10_passDay_122
def fX10_passHour_b2 (v_p1_pipe : Int32) (v_p1_houses : Int32) (v_p1_drain : Nat → Int32) (w2 : Int32 × Int32 × (Nat → Int32)) : Option ((Int32 × Int32 × (Nat → Int32)) ⊕ (Int32 × Int32 × (Nat → Int32))) :=
  if v_p1_houses ≤ w2.1 then (some (.inr (w2.1, w2.2.1, w2.2.2))) else (if (w2.1 < 0 ∨ 8 ≤ Int32.toNatClampNeg w2.1) then none else Option.bind (fX6_has v_p1_houses (v_p1_drain (Int32.toNatClampNeg w2.1))) (fun y45 => if y45 = 0 then (Option.bind (fX10_addToRiver w2.2.1 (if (w2.2.2 (Int32.toNatClampNeg w2.1)) < v_p1_pipe then (w2.2.2 (Int32.toNatClampNeg w2.1)) else v_p1_pipe)) (fun y67 => some (.inl ((w2.1 + 1), y67, (upd w2.2.2 (Int32.toNatClampNeg w2.1) ((w2.2.2 (Int32.toNatClampNeg w2.1)) - (if (w2.2.2 (Int32.toNatClampNeg w2.1)) < v_p1_pipe then (w2.2.2 (Int32.toNatClampNeg w2.1)) else v_p1_pipe))))))) else (if ((v_p1_drain (Int32.toNatClampNeg w2.1)) < 0 ∨ 8 ≤ Int32.toNatClampNeg (v_p1_drain (Int32.toNatClampNeg w2.1))) then none else some (.inl ((w2.1 + 1), w2.2.1, (upd (upd w2.2.2 (Int32.toNatClampNeg w2.1) ((w2.2.2 (Int32.toNatClampNeg w2.1)) - (if (w2.2.2 (Int32.toNatClampNeg w2.1)) < v_p1_pipe then (w2.2.2 (Int32.toNatClampNeg w2.1)) else v_p1_pipe))) (Int32.toNatClampNeg (v_p1_drain (Int32.toNatClampNeg w2.1))) (((upd w2.2.2 (Int32.toNatClampNeg w2.1) ((w2.2.2 (Int32.toNatClampNeg w2.1)) - (if (w2.2.2 (Int32.toNatClampNeg w2.1)) < v_p1_pipe then (w2.2.2 (Int32.toNatClampNeg w2.1)) else v_p1_pipe))) (Int32.toNatClampNeg (v_p1_drain (Int32.toNatClampNeg w2.1)))) + (if (w2.2.2 (Int32.toNatClampNeg w2.1)) < v_p1_pipe then (w2.2.2 (Int32.toNatClampNeg w2.1)) else v_p1_pipe))))))))
def fX10_passHour (v_spilled : Int32) (v_river : Int32) (v_kept : Nat → Int32) (v_p1_pipe : Int32) (v_p1_houses : Int32) (v_p1_room : Nat → Int32) (v_p1_drain : Nat → Int32) : Option (Int32 × Int32 × (Nat → Int32)) :=
  Option.bind (oz_loop (fX10_passHour_b2 v_p1_pipe v_p1_houses v_p1_drain) oz_fuel (0, v_river, v_kept)) (fun o2 => Option.bind (fX10_spillOver v_spilled o2.2.2 v_p1_houses v_p1_room) (fun y78 => some (y78.1, o2.2.1, y78.2)))
def rmX10_passHour : Room := { frames := 2, cells := 0, slots := 0, locals := 48 }
set_option maxHeartbeats 4000000 in
set_option maxRecDepth 100000 in
theorem tX10_passHour (l : Launch) (dC : Nat → ClassId) (dI : Nat → Nat → Nat) (cI cZ : ClassId) (q_away q_kept q_p1 q_p1_above q_p1_daily q_p1_drain q_p1_room q_this : Nat) (sz : Nat) (v_days : Int32) (v_p1_stands : Int32) (v_p1_lent : Int32) (v_spilled : Int32) (v_river : Int32) (v_kept : Nat → Int32) (v_p1_pipe : Int32) (v_p1_houses : Int32) (v_p1_room : Nat → Int32) (v_p1_drain : Nat → Int32) (out : Int32 × Int32 × (Nat → Int32)) (hrun : fX10_passHour v_spilled v_river v_kept v_p1_pipe v_p1_houses v_p1_room v_p1_drain = some out) : Met l yX10_passHour wsX10_passHour rmX10_passHour (va_Pc [.ref q_this, .ref q_p1] (fun U => U.heap.size = sz ∧ va_P (dC, dI) vwCl [(q_this, .inr (10, [.ref q_kept, .ref q_away, .int v_days, .int v_spilled, .int v_river])), (q_kept, .inl (cI, 8, .inl v_kept)), (q_p1, .inr (6, [.int v_p1_stands, .int v_p1_lent, .int v_p1_pipe, .int v_p1_houses, .ref q_p1_room, .ref q_p1_daily, .ref q_p1_drain, .ref q_p1_above])), (q_p1_room, .inl (cI, 8, .inl v_p1_room)), (q_p1_drain, .inl (cI, 8, .inl v_p1_drain))] U.heap ∧ va_K (dC, dI) vwCl [(cI, .int), (cZ, .boolean)] U ∧ va_D (fun _ => True) [(q_this, .inr (10, [.ref q_kept, .ref q_away, .int v_days, .int v_spilled, .int v_river])), (q_kept, .inl (cI, 8, .inl v_kept)), (q_p1, .inr (6, [.int v_p1_stands, .int v_p1_lent, .int v_p1_pipe, .int v_p1_houses, .ref q_p1_room, .ref q_p1_daily, .ref q_p1_drain, .ref q_p1_above])), (q_p1_room, .inl (cI, 8, .inl v_p1_room)), (q_p1_drain, .inl (cI, 8, .inl v_p1_drain))])) (va_Qv (fun _ : Unit => True) (fun _ t => va_P (dC, dI) vwCl [(q_this, .inr (10, [.ref q_kept, .ref q_away, .int v_days, .int out.1, .int out.2.1])), (q_kept, .inl (cI, 8, .inl out.2.2)), (q_p1, .inr (6, [.int v_p1_stands, .int v_p1_lent, .int v_p1_pipe, .int v_p1_houses, .ref q_p1_room, .ref q_p1_daily, .ref q_p1_drain, .ref q_p1_above])), (q_p1_room, .inl (cI, 8, .inl v_p1_room)), (q_p1_drain, .inl (cI, 8, .inl v_p1_drain))] t.heap ∧ va_K (dC, dI) vwCl [(cI, .int), (cZ, .boolean)] t ∧ va_D (va_A [(q_this, .inr (10, [.ref q_kept, .ref q_away, .int v_days, .int v_spilled, .int v_river])), (q_kept, .inl (cI, 8, .inl v_kept)), (q_p1, .inr (6, [.int v_p1_stands, .int v_p1_lent, .int v_p1_pipe, .int v_p1_houses, .ref q_p1_room, .ref q_p1_daily, .ref q_p1_drain, .ref q_p1_above])), (q_p1_room, .inl (cI, 8, .inl v_p1_room)), (q_p1_drain, .inl (cI, 8, .inl v_p1_drain))] sz) [(q_this, .inr (10, [.ref q_kept, .ref q_away, .int v_days, .int out.1, .int out.2.1])), (q_kept, .inl (cI, 8, .inl out.2.2)), (q_p1, .inr (6, [.int v_p1_stands, .int v_p1_lent, .int v_p1_pipe, .int v_p1_houses, .ref q_p1_room, .ref q_p1_daily, .ref q_p1_drain, .ref q_p1_above])), (q_p1_room, .inl (cI, 8, .inl v_p1_room)), (q_p1_drain, .inl (cI, 8, .inl v_p1_drain))]) (va_A [(q_this, .inr (10, [.ref q_kept, .ref q_away, .int v_days, .int v_spilled, .int v_river])), (q_kept, .inl (cI, 8, .inl v_kept)), (q_p1, .inr (6, [.int v_p1_stands, .int v_p1_lent, .int v_p1_pipe, .int v_p1_houses, .ref q_p1_room, .ref q_p1_daily, .ref q_p1_drain, .ref q_p1_above])), (q_p1_room, .inl (cI, 8, .inl v_p1_room)), (q_p1_drain, .inl (cI, 8, .inl v_p1_drain))] sz)) 0 0 (va_A [(q_this, .inr (10, [.ref q_kept, .ref q_away, .int v_days, .int v_spilled, .int v_river])), (q_kept, .inl (cI, 8, .inl v_kept)), (q_p1, .inr (6, [.int v_p1_stands, .int v_p1_lent, .int v_p1_pipe, .int v_p1_houses, .ref q_p1_room, .ref q_p1_daily, .ref q_p1_drain, .ref q_p1_above])), (q_p1_room, .inl (cI, 8, .inl v_p1_room)), (q_p1_drain, .inl (cI, 8, .inl v_p1_drain))] sz) := by
  refine Met.ofW (cc := cX10_passHour) (maxL := 5) (ret := none) (by decide) rfl ?_
  intro p e s m args below meth c s₁ B hml hv
  obtain ⟨rfl, hsz, hP, hK, hD0⟩ := hv
  have hx := B.exec
  have hb := B.bytes
  have hr := B.returns
  have hts := atoms_spec (ws := wsX10_passHour) B.pre
  have hown : s.vm.findClass RX10 = some m.cls := findClass_of_methodNamed B.named
  have hlocks := B.notSynchronized
  subst hsz
  have hD := hD0.self (sz := s.heap.size)
  generalize hAe : va_A [(q_this, .inr (10, [.ref q_kept, .ref q_away, .int v_days, .int v_spilled, .int v_river])), (q_kept, .inl (cI, 8, .inl v_kept)), (q_p1, .inr (6, [.int v_p1_stands, .int v_p1_lent, .int v_p1_pipe, .int v_p1_houses, .ref q_p1_room, .ref q_p1_daily, .ref q_p1_drain, .ref q_p1_above])), (q_p1_room, .inl (cI, 8, .inl v_p1_room)), (q_p1_drain, .inl (cI, 8, .inl v_p1_drain))] s.heap.size = A at hD ⊢
  have hA : ∀ q : Nat, s.heap.size ≤ q → A q := fun q h => by rw [← hAe]; exact Or.inr h
  have hS : va_S A s.heap s.heap [] := va_S.rf
  have hl := lv_entry ([.ref q_this, .ref q_p1]) (n := 5) (Nat.le_of_ble_eq_true rfl)
  rw [lg_entry_eq]
  generalize (lg_sl ([.ref q_this, .ref q_p1]) ++ List.replicate (5 - (lg_sl ([.ref q_this, .ref q_p1])).length) Slot.unset).toArray = ls at hl ⊢
  have hl : lv_has ls 5 [(0, .ref q_this), (1, .ref q_p1)] := hl
  unfold fX10_passHour at hrun
  have hk39 := hts (.fieldLink RX10 39 "LentDrains$Plan" "houses" "I") (by decide +kernel)
  have hiX6 : ∀ w ∈ wsX60, w ∈ wsX10_passHour := by decide +kernel
  have hk53 := hts (.fieldLink RX10 53 "LentDrains$Plan" "pipe" "I") (by decide +kernel)
  have hk9 := hts (.fieldLink RX10 9 "LentDrains$State" "kept" "[I") (by decide +kernel)
  have hiX10 : ∀ w ∈ wsX100, w ∈ wsX10_passHour := by decide +kernel
  have hk56 := hts (.methodLink RX10 56 Lib.Math.min.name) (by decide +kernel)
  have hst_min := hts (.static Lib.Math.min.name) (by decide +kernel)
  have hiniM := hts (.initialized "java/lang/Math") (by decide +kernel)
  have hcd_min := hts (.code Lib.Math.min.name Lib.Math.min.code 2 (some .int)) (by decide +kernel)
  have hk62 := hts (.fieldLink RX10 62 "LentDrains$Plan" "drain" "[I") (by decide +kernel)
  refine oz_genQ (fun Q hQ => ?_)
  refine lv_iconst (v := 0) hx hb dX10_passHour_0 (by decide) ?_
  refine lv_istore_n (lv' := [(2, .int 0), (0, .ref q_this), (1, .ref q_p1)]) hx hb dX10_passHour_1 rfl hl (by decide) rfl (fun ls hl => ?_)
  obtain ⟨o2, hlp2, hrun⟩ := oz_bind hrun
  have hL2 : ∀ (n : Nat) (w2 : Int32 × Int32 × (Nat → Int32)) (o2 : Int32 × Int32 × (Nat → Int32)), oz_loop (fX10_passHour_b2 v_p1_pipe v_p1_houses v_p1_drain) n w2 = some o2 → (∀ (H : Heap) (locs : List Loc) (ls : Array Slot), va_P (dC, dI) vwCl [(q_this, .inr (10, [.ref q_kept, .ref q_away, .int v_days, .int v_spilled, .int o2.2.1])), (q_kept, .inl (cI, 8, .inl o2.2.2)), (q_p1, .inr (6, [.int v_p1_stands, .int v_p1_lent, .int v_p1_pipe, .int v_p1_houses, .ref q_p1_room, .ref q_p1_daily, .ref q_p1_drain, .ref q_p1_above])), (q_p1_room, .inl (cI, 8, .inl v_p1_room)), (q_p1_drain, .inl (cI, 8, .inl v_p1_drain))] H → va_D A [(q_this, .inr (10, [.ref q_kept, .ref q_away, .int v_days, .int v_spilled, .int o2.2.1])), (q_kept, .inl (cI, 8, .inl o2.2.2)), (q_p1, .inr (6, [.int v_p1_stands, .int v_p1_lent, .int v_p1_pipe, .int v_p1_houses, .ref q_p1_room, .ref q_p1_daily, .ref q_p1_drain, .ref q_p1_above])), (q_p1_room, .inl (cI, 8, .inl v_p1_room)), (q_p1_drain, .inl (cI, 8, .inl v_p1_drain))] → va_S A s.heap H locs → lv_has ls 5 [(2, .int o2.1), (0, .ref q_this), (1, .ref q_p1)] → W p l e (headSpec wsX10_passHour rmX10_passHour).room s m (([.ref q_this, .ref q_p1] : List Value).toArray) below meth c H locs 0 0 Q (F0 m 76 ls [])) → ∀ (H : Heap) (locs : List Loc) (ls : Array Slot), va_P (dC, dI) vwCl [(q_this, .inr (10, [.ref q_kept, .ref q_away, .int v_days, .int v_spilled, .int w2.2.1])), (q_kept, .inl (cI, 8, .inl w2.2.2)), (q_p1, .inr (6, [.int v_p1_stands, .int v_p1_lent, .int v_p1_pipe, .int v_p1_houses, .ref q_p1_room, .ref q_p1_daily, .ref q_p1_drain, .ref q_p1_above])), (q_p1_room, .inl (cI, 8, .inl v_p1_room)), (q_p1_drain, .inl (cI, 8, .inl v_p1_drain))] H → va_D A [(q_this, .inr (10, [.ref q_kept, .ref q_away, .int v_days, .int v_spilled, .int w2.2.1])), (q_kept, .inl (cI, 8, .inl w2.2.2)), (q_p1, .inr (6, [.int v_p1_stands, .int v_p1_lent, .int v_p1_pipe, .int v_p1_houses, .ref q_p1_room, .ref q_p1_daily, .ref q_p1_drain, .ref q_p1_above])), (q_p1_room, .inl (cI, 8, .inl v_p1_room)), (q_p1_drain, .inl (cI, 8, .inl v_p1_drain))] → va_S A s.heap H locs → lv_has ls 5 [(2, .int w2.1), (0, .ref q_this), (1, .ref q_p1)] → W p l e (headSpec wsX10_passHour rmX10_passHour).room s m (([.ref q_this, .ref q_p1] : List Value).toArray) below meth c H locs 0 0 Q (F0 m 2 ls []) := by
    intro n
    induction n with
    | zero => intro w2 o2 h9; exact (oz_zero h9).elim
    | succ n ih =>
      intro w2 o2 h9 hexit H locs ls hP hD hS hl
      obtain ⟨r9, hrun, hnext⟩ := oz_step h9
      unfold fX10_passHour_b2 at hrun
      refine lv_iload_n hx hb dX10_passHour_2 rfl (lv_at hl 0 rfl) ?_
      refine lv_aload_n hx hb dX10_passHour_3 rfl (lv_at hl 2 rfl) ?_
      refine va_get (D := (dC, dI)) (ci := 6) (v := .int v_p1_houses) (C := RX6) (T := TX6) (N := 8) hx hb hts hiX6 hown hK hP 2 rfl rfl 3 (by decide) hk39 (fun _ h9 => h9) rfl dX10_passHour_4 ?_
      refine lv_icmp_ge (tgt := 76) hx hb dX10_passHour_7 (by decide) (fun c1 => ?_) (fun c1 => ?_)
      · have hrun := oz_t hrun c1
        have hr9 := Option.some.inj hrun
        subst hr9
        have ho9 : (w2.1, w2.2.1, w2.2.2) = o2 := hnext
        subst ho9
        exact hexit _ _ _ (hP.sub [0, 1, 2, 3, 4] rfl) (hD.sub [0, 1, 2, 3, 4] (by decide) rfl) hS (lv_sub hl [0, 1, 2] rfl)
      · have hrun := oz_f hrun c1
        refine lv_aload_n hx hb dX10_passHour_10 rfl (lv_at hl 2 rfl) ?_
        refine va_get (D := (dC, dI)) (ci := 6) (v := .int v_p1_pipe) (C := RX6) (T := TX6) (N := 8) hx hb hts hiX6 hown hK hP 2 rfl rfl 2 (by decide) hk53 (fun _ h9 => h9) rfl dX10_passHour_11 ?_
        refine lv_aload_n hx hb dX10_passHour_14 rfl (lv_at hl 1 rfl) ?_
        refine va_get (D := (dC, dI)) (ci := 10) (v := .ref q_kept) (C := RX10) (T := TX10) (N := 5) hx hb hts hiX10 hown hK hP 0 rfl rfl 0 (by decide) hk9 (fun _ h9 => h9) rfl dX10_passHour_15 ?_
        refine lv_iload_n hx hb dX10_passHour_18 rfl (lv_at hl 0 rfl) ?_
        obtain ⟨c2, hrun⟩ := oz_chk hrun
        refine va_iald hx hb hK hP 1 0 rfl rfl c2 dX10_passHour_19 ?_
        refine va_mmin hx hb (hml.trans hl.1.symm) hown hk56 hst_min hiniM hcd_min (Nat.le_of_ble_eq_true rfl) (Nat.le_of_ble_eq_true rfl) (Nat.zero_le _) (Nat.zero_le _) dX10_passHour_20 ?_
        refine lv_istore_n (lv' := [(3, .int (if (w2.2.2 (Int32.toNatClampNeg w2.1)) < v_p1_pipe then (w2.2.2 (Int32.toNatClampNeg w2.1)) else v_p1_pipe)), (2, .int w2.1), (0, .ref q_this), (1, .ref q_p1)]) hx hb dX10_passHour_23 rfl hl (by decide) rfl (fun ls hl => ?_)
        refine lv_aload_n hx hb dX10_passHour_24 rfl (lv_at hl 3 rfl) ?_
        refine va_get (D := (dC, dI)) (ci := 6) (v := .ref q_p1_drain) (C := RX6) (T := TX6) (N := 8) hx hb hts hiX6 hown hK hP 2 rfl rfl 6 (by decide) hk62 (fun _ h9 => h9) rfl dX10_passHour_25 ?_
        refine lv_iload_n hx hb dX10_passHour_28 rfl (lv_at hl 1 rfl) ?_
        refine va_iald hx hb hK hP 4 0 rfl rfl c2 dX10_passHour_29 ?_
        refine lv_istore (lv' := [(4, .int (v_p1_drain (Int32.toNatClampNeg w2.1))), (3, .int (if (w2.2.2 (Int32.toNatClampNeg w2.1)) < v_p1_pipe then (w2.2.2 (Int32.toNatClampNeg w2.1)) else v_p1_pipe)), (2, .int w2.1), (0, .ref q_this), (1, .ref q_p1)]) hx hb dX10_passHour_30 hl (by decide) rfl (fun ls hl => ?_)
        refine lv_aload_n hx hb dX10_passHour_32 rfl (lv_at hl 3 rfl) ?_
        refine va_get (D := (dC, dI)) (ci := 10) (v := .ref q_kept) (C := RX10) (T := TX10) (N := 5) hx hb hts hiX10 hown hK hP 0 rfl rfl 0 (by decide) hk9 (fun _ h9 => h9) rfl dX10_passHour_33 ?_
        refine lv_iload_n hx hb dX10_passHour_36 rfl (lv_at hl 2 rfl) ?_
        refine lv_dup2_11 hx hb dX10_passHour_37 rfl rfl ?_
        refine va_iald hx hb hK hP 1 0 rfl rfl c2 dX10_passHour_38 ?_
        refine lv_iload_n hx hb dX10_passHour_39 rfl (lv_at hl 1 rfl) ?_
        refine lv_isub hx hb dX10_passHour_40 ?_
        refine va_iast hx hb hK hP hD hS 1 0 rfl rfl c2 dX10_passHour_41 (fun H locs hP hD hS => ?_)
        have hP : va_P (dC, dI) vwCl [(q_this, .inr (10, [.ref q_kept, .ref q_away, .int v_days, .int v_spilled, .int w2.2.1])), (q_kept, .inl (cI, 8, .inl (upd w2.2.2 (Int32.toNatClampNeg w2.1) ((w2.2.2 (Int32.toNatClampNeg w2.1)) - (if (w2.2.2 (Int32.toNatClampNeg w2.1)) < v_p1_pipe then (w2.2.2 (Int32.toNatClampNeg w2.1)) else v_p1_pipe))))), (q_p1, .inr (6, [.int v_p1_stands, .int v_p1_lent, .int v_p1_pipe, .int v_p1_houses, .ref q_p1_room, .ref q_p1_daily, .ref q_p1_drain, .ref q_p1_above])), (q_p1_room, .inl (cI, 8, .inl v_p1_room)), (q_p1_drain, .inl (cI, 8, .inl v_p1_drain))] H := hP
        have hD : va_D A [(q_this, .inr (10, [.ref q_kept, .ref q_away, .int v_days, .int v_spilled, .int w2.2.1])), (q_kept, .inl (cI, 8, .inl (upd w2.2.2 (Int32.toNatClampNeg w2.1) ((w2.2.2 (Int32.toNatClampNeg w2.1)) - (if (w2.2.2 (Int32.toNatClampNeg w2.1)) < v_p1_pipe then (w2.2.2 (Int32.toNatClampNeg w2.1)) else v_p1_pipe))))), (q_p1, .inr (6, [.int v_p1_stands, .int v_p1_lent, .int v_p1_pipe, .int v_p1_houses, .ref q_p1_room, .ref q_p1_daily, .ref q_p1_drain, .ref q_p1_above])), (q_p1_room, .inl (cI, 8, .inl v_p1_room)), (q_p1_drain, .inl (cI, 8, .inl v_p1_drain))] := hD
        refine lv_aload_n hx hb dX10_passHour_42 rfl (lv_at hl 4 rfl) ?_
        refine lv_iload hx hb dX10_passHour_43 (lv_at hl 0 rfl) ?_
        obtain ⟨y45, hc45, hrun⟩ := oz_bind hrun
        have hPc := hP.sub (ws' := [(q_p1, .inr (6, [.int v_p1_stands, .int v_p1_lent, .int v_p1_pipe, .int v_p1_houses, .ref q_p1_room, .ref q_p1_daily, .ref q_p1_drain, .ref q_p1_above]))]) [2] rfl
        have hDc := hD.sub (ws' := [(q_p1, .inr (6, [.int v_p1_stands, .int v_p1_lent, .int v_p1_pipe, .int v_p1_houses, .ref q_p1_room, .ref q_p1_daily, .ref q_p1_drain, .ref q_p1_above]))]) [2] (by decide) rfl
        have hFc := va_free (wc := [(q_p1, .inr (6, [.int v_p1_stands, .int v_p1_lent, .int v_p1_pipe, .int v_p1_houses, .ref q_p1_room, .ref q_p1_daily, .ref q_p1_drain, .ref q_p1_above]))]) hD hS hA [2] rfl
        refine va_calli (va_runV (As := [.int (v_p1_drain (Int32.toNatClampNeg w2.1))]) (rest := []) ⟨hx, hb, hml, hown, hts⟩ (tX6_has l dC dI cI cZ q_p1_above q_p1_daily q_p1_drain q_p1_room q_p1 H.size v_p1_stands v_p1_lent v_p1_pipe v_p1_houses (v_p1_drain (Int32.toNatClampNeg w2.1)) y45 hc45) (cwV 1 hts gX10_passHour_X6_has rfl rfl rfl (by decide +kernel) ⟨Nat.le_of_ble_eq_true rfl, Nat.le_of_ble_eq_true rfl⟩) ⟨fun a U g mk q => by obtain ⟨q0, q1, qP, qK, qD⟩ := q; exact ⟨q0, q1, qP, va_K.moved (u := U) (U := U.calling g mk a) (Vm.Alike.refl U.vm) qK, qD⟩, va_recv hK hPc (ci := 6) (q0 := 0) rfl rfl, fun U hU hW => ⟨rfl, by rw [hU], by rw [hU]; exact hPc, va_K.moved hW.alike hK, hDc.weaken (fun _ _ _ _ => trivial)⟩⟩ rfl rfl hl.1 rfl (lv_room (Nat.le_of_ble_eq_true rfl)) dX10_passHour_45 ⟨Nat.le_of_ble_eq_true rfl, Nat.le_of_ble_eq_true rfl⟩) hS (fun q _ h => hFc q h) hFc (fun r45 u9 t9 H1 locs ht9 hvm9 hw9 hB9 hz9 hkk9 hS => ?_)
        have hw9 : y45 = r45 := hw9.symm
        subst hw9
        obtain ⟨hP9, hK9, hD9⟩ := hB9
        rw [ht9] at hP9
        obtain ⟨hP, hD⟩ := va_join (wr := [(q_this, .inr (10, [.ref q_kept, .ref q_away, .int v_days, .int v_spilled, .int w2.2.1])), (q_kept, .inl (cI, 8, .inl (upd w2.2.2 (Int32.toNatClampNeg w2.1) ((w2.2.2 (Int32.toNatClampNeg w2.1)) - (if (w2.2.2 (Int32.toNatClampNeg w2.1)) < v_p1_pipe then (w2.2.2 (Int32.toNatClampNeg w2.1)) else v_p1_pipe))))), (q_p1_room, .inl (cI, 8, .inl v_p1_room)), (q_p1_drain, .inl (cI, 8, .inl v_p1_drain))]) (w1 := [(q_p1, .inr (6, [.int v_p1_stands, .int v_p1_lent, .int v_p1_pipe, .int v_p1_houses, .ref q_p1_room, .ref q_p1_daily, .ref q_p1_drain, .ref q_p1_above]))]) hP hD [2] [0, 1, 3, 4] rfl rfl (by decide) (by decide) hkk9 hFc hP9 hD9
        generalize H1 = H at hP hS ⊢
        have hP : va_P (dC, dI) vwCl [(q_this, .inr (10, [.ref q_kept, .ref q_away, .int v_days, .int v_spilled, .int w2.2.1])), (q_kept, .inl (cI, 8, .inl (upd w2.2.2 (Int32.toNatClampNeg w2.1) ((w2.2.2 (Int32.toNatClampNeg w2.1)) - (if (w2.2.2 (Int32.toNatClampNeg w2.1)) < v_p1_pipe then (w2.2.2 (Int32.toNatClampNeg w2.1)) else v_p1_pipe))))), (q_p1_room, .inl (cI, 8, .inl v_p1_room)), (q_p1_drain, .inl (cI, 8, .inl v_p1_drain)), (q_p1, .inr (6, [.int v_p1_stands, .int v_p1_lent, .int v_p1_pipe, .int v_p1_houses, .ref q_p1_room, .ref q_p1_daily, .ref q_p1_drain, .ref q_p1_above]))] H := hP
        have hD : va_D A [(q_this, .inr (10, [.ref q_kept, .ref q_away, .int v_days, .int v_spilled, .int w2.2.1])), (q_kept, .inl (cI, 8, .inl (upd w2.2.2 (Int32.toNatClampNeg w2.1) ((w2.2.2 (Int32.toNatClampNeg w2.1)) - (if (w2.2.2 (Int32.toNatClampNeg w2.1)) < v_p1_pipe then (w2.2.2 (Int32.toNatClampNeg w2.1)) else v_p1_pipe))))), (q_p1_room, .inl (cI, 8, .inl v_p1_room)), (q_p1_drain, .inl (cI, 8, .inl v_p1_drain)), (q_p1, .inr (6, [.int v_p1_stands, .int v_p1_lent, .int v_p1_pipe, .int v_p1_houses, .ref q_p1_room, .ref q_p1_daily, .ref q_p1_drain, .ref q_p1_above]))] := hD
        refine lv_if_eq (tgt := 65) hx hb dX10_passHour_48 (by decide) (fun c3 => ?_) (fun c3 => ?_)
        · have hrun := oz_t hrun c3
          refine lv_aload_n hx hb dX10_passHour_65 rfl (lv_at hl 3 rfl) ?_
          refine lv_iload_n hx hb dX10_passHour_66 rfl (lv_at hl 1 rfl) ?_
          obtain ⟨y67, hc67, hrun⟩ := oz_bind hrun
          have hPc := hP.sub (ws' := [(q_this, .inr (10, [.ref q_kept, .ref q_away, .int v_days, .int v_spilled, .int w2.2.1]))]) [0] rfl
          have hDc := hD.sub (ws' := [(q_this, .inr (10, [.ref q_kept, .ref q_away, .int v_days, .int v_spilled, .int w2.2.1]))]) [0] (by decide) rfl
          have hFc := va_free (wc := [(q_this, .inr (10, [.ref q_kept, .ref q_away, .int v_days, .int v_spilled, .int w2.2.1]))]) hD hS hA [0] rfl
          refine va_callv (va_runV (As := [.int (if (w2.2.2 (Int32.toNatClampNeg w2.1)) < v_p1_pipe then (w2.2.2 (Int32.toNatClampNeg w2.1)) else v_p1_pipe)]) (rest := []) ⟨hx, hb, hml, hown, hts⟩ (tX10_addToRiver l dC dI cI cZ q_away q_kept q_this H.size v_days v_spilled w2.2.1 (if (w2.2.2 (Int32.toNatClampNeg w2.1)) < v_p1_pipe then (w2.2.2 (Int32.toNatClampNeg w2.1)) else v_p1_pipe) y67 hc67) (cwV 1 hts gX10_passHour_X10_addToRiver rfl rfl rfl (by decide +kernel) ⟨Nat.le_of_ble_eq_true rfl, Nat.le_of_ble_eq_true rfl⟩) ⟨fun a U g mk q => by obtain ⟨q0, q1, qP, qK, qD⟩ := q; exact ⟨q0, q1, qP, va_K.moved (u := U) (U := U.calling g mk a) (Vm.Alike.refl U.vm) qK, qD⟩, va_recv hK hPc (ci := 10) (q0 := 0) rfl rfl, fun U hU hW => ⟨rfl, by rw [hU], by rw [hU]; exact hPc, va_K.moved hW.alike hK, hDc.weaken (fun _ _ _ _ => trivial)⟩⟩ rfl rfl hl.1 rfl (lv_room (Nat.le_of_ble_eq_true rfl)) dX10_passHour_67 ⟨Nat.le_of_ble_eq_true rfl, Nat.le_of_ble_eq_true rfl⟩) hS (fun q _ h => hFc q h) hFc (fun u9 t9 H1 locs ht9 hvm9 hw9 hB9 hz9 hkk9 hS => ?_)
          obtain ⟨hP9, hK9, hD9⟩ := hB9
          rw [ht9] at hP9
          obtain ⟨hP, hD⟩ := va_join (wr := [(q_kept, .inl (cI, 8, .inl (upd w2.2.2 (Int32.toNatClampNeg w2.1) ((w2.2.2 (Int32.toNatClampNeg w2.1)) - (if (w2.2.2 (Int32.toNatClampNeg w2.1)) < v_p1_pipe then (w2.2.2 (Int32.toNatClampNeg w2.1)) else v_p1_pipe))))), (q_p1_room, .inl (cI, 8, .inl v_p1_room)), (q_p1_drain, .inl (cI, 8, .inl v_p1_drain)), (q_p1, .inr (6, [.int v_p1_stands, .int v_p1_lent, .int v_p1_pipe, .int v_p1_houses, .ref q_p1_room, .ref q_p1_daily, .ref q_p1_drain, .ref q_p1_above]))]) (w1 := [(q_this, .inr (10, [.ref q_kept, .ref q_away, .int v_days, .int v_spilled, .int y67]))]) hP hD [0] [1, 2, 3, 4] rfl rfl (by decide) (by decide) hkk9 hFc hP9 hD9
          generalize H1 = H at hP hS ⊢
          have hP : va_P (dC, dI) vwCl [(q_kept, .inl (cI, 8, .inl (upd w2.2.2 (Int32.toNatClampNeg w2.1) ((w2.2.2 (Int32.toNatClampNeg w2.1)) - (if (w2.2.2 (Int32.toNatClampNeg w2.1)) < v_p1_pipe then (w2.2.2 (Int32.toNatClampNeg w2.1)) else v_p1_pipe))))), (q_p1_room, .inl (cI, 8, .inl v_p1_room)), (q_p1_drain, .inl (cI, 8, .inl v_p1_drain)), (q_p1, .inr (6, [.int v_p1_stands, .int v_p1_lent, .int v_p1_pipe, .int v_p1_houses, .ref q_p1_room, .ref q_p1_daily, .ref q_p1_drain, .ref q_p1_above])), (q_this, .inr (10, [.ref q_kept, .ref q_away, .int v_days, .int v_spilled, .int y67]))] H := hP
          have hD : va_D A [(q_kept, .inl (cI, 8, .inl (upd w2.2.2 (Int32.toNatClampNeg w2.1) ((w2.2.2 (Int32.toNatClampNeg w2.1)) - (if (w2.2.2 (Int32.toNatClampNeg w2.1)) < v_p1_pipe then (w2.2.2 (Int32.toNatClampNeg w2.1)) else v_p1_pipe))))), (q_p1_room, .inl (cI, 8, .inl v_p1_room)), (q_p1_drain, .inl (cI, 8, .inl v_p1_drain)), (q_p1, .inr (6, [.int v_p1_stands, .int v_p1_lent, .int v_p1_pipe, .int v_p1_houses, .ref q_p1_room, .ref q_p1_daily, .ref q_p1_drain, .ref q_p1_above])), (q_this, .inr (10, [.ref q_kept, .ref q_away, .int v_days, .int v_spilled, .int y67]))] := hD
          refine lv_iinc (v := (w2.1 + 1)) (lv' := [(2, .int (w2.1 + 1)), (4, .int (v_p1_drain (Int32.toNatClampNeg w2.1))), (3, .int (if (w2.2.2 (Int32.toNatClampNeg w2.1)) < v_p1_pipe then (w2.2.2 (Int32.toNatClampNeg w2.1)) else v_p1_pipe)), (0, .ref q_this), (1, .ref q_p1)]) hx hb dX10_passHour_70 hl (k := 2) rfl rfl (by decide) rfl (fun ls hl => ?_)
          refine lv_goto (tgt := 2) hx hb dX10_passHour_73 (by decide) ?_
          have hr9 := Option.some.inj hrun
          subst hr9
          exact ih ((w2.1 + 1), y67, (upd w2.2.2 (Int32.toNatClampNeg w2.1) ((w2.2.2 (Int32.toNatClampNeg w2.1)) - (if (w2.2.2 (Int32.toNatClampNeg w2.1)) < v_p1_pipe then (w2.2.2 (Int32.toNatClampNeg w2.1)) else v_p1_pipe)))) _ hnext hexit _ _ _ (hP.sub [4, 0, 3, 1, 2] rfl) (hD.sub [4, 0, 3, 1, 2] (by decide) rfl) hS (lv_sub hl [0, 3, 4] rfl)
        · have hrun := oz_f hrun c3
          refine lv_aload_n hx hb dX10_passHour_51 rfl (lv_at hl 3 rfl) ?_
          refine va_get (D := (dC, dI)) (ci := 10) (v := .ref q_kept) (C := RX10) (T := TX10) (N := 5) hx hb hts hiX10 hown hK hP 0 rfl rfl 0 (by decide) hk9 (fun _ h9 => h9) rfl dX10_passHour_52 ?_
          refine lv_iload hx hb dX10_passHour_55 (lv_at hl 0 rfl) ?_
          refine lv_dup2_11 hx hb dX10_passHour_57 rfl rfl ?_
          obtain ⟨c4, hrun⟩ := oz_chk hrun
          refine va_iald hx hb hK hP 1 0 rfl rfl c4 dX10_passHour_58 ?_
          refine lv_iload_n hx hb dX10_passHour_59 rfl (lv_at hl 1 rfl) ?_
          refine lv_iadd hx hb dX10_passHour_60 ?_
          refine va_iast hx hb hK hP hD hS 1 0 rfl rfl c4 dX10_passHour_61 (fun H locs hP hD hS => ?_)
          have hP : va_P (dC, dI) vwCl [(q_this, .inr (10, [.ref q_kept, .ref q_away, .int v_days, .int v_spilled, .int w2.2.1])), (q_kept, .inl (cI, 8, .inl (upd (upd w2.2.2 (Int32.toNatClampNeg w2.1) ((w2.2.2 (Int32.toNatClampNeg w2.1)) - (if (w2.2.2 (Int32.toNatClampNeg w2.1)) < v_p1_pipe then (w2.2.2 (Int32.toNatClampNeg w2.1)) else v_p1_pipe))) (Int32.toNatClampNeg (v_p1_drain (Int32.toNatClampNeg w2.1))) (((upd w2.2.2 (Int32.toNatClampNeg w2.1) ((w2.2.2 (Int32.toNatClampNeg w2.1)) - (if (w2.2.2 (Int32.toNatClampNeg w2.1)) < v_p1_pipe then (w2.2.2 (Int32.toNatClampNeg w2.1)) else v_p1_pipe))) (Int32.toNatClampNeg (v_p1_drain (Int32.toNatClampNeg w2.1)))) + (if (w2.2.2 (Int32.toNatClampNeg w2.1)) < v_p1_pipe then (w2.2.2 (Int32.toNatClampNeg w2.1)) else v_p1_pipe))))), (q_p1_room, .inl (cI, 8, .inl v_p1_room)), (q_p1_drain, .inl (cI, 8, .inl v_p1_drain)), (q_p1, .inr (6, [.int v_p1_stands, .int v_p1_lent, .int v_p1_pipe, .int v_p1_houses, .ref q_p1_room, .ref q_p1_daily, .ref q_p1_drain, .ref q_p1_above]))] H := hP
          have hD : va_D A [(q_this, .inr (10, [.ref q_kept, .ref q_away, .int v_days, .int v_spilled, .int w2.2.1])), (q_kept, .inl (cI, 8, .inl (upd (upd w2.2.2 (Int32.toNatClampNeg w2.1) ((w2.2.2 (Int32.toNatClampNeg w2.1)) - (if (w2.2.2 (Int32.toNatClampNeg w2.1)) < v_p1_pipe then (w2.2.2 (Int32.toNatClampNeg w2.1)) else v_p1_pipe))) (Int32.toNatClampNeg (v_p1_drain (Int32.toNatClampNeg w2.1))) (((upd w2.2.2 (Int32.toNatClampNeg w2.1) ((w2.2.2 (Int32.toNatClampNeg w2.1)) - (if (w2.2.2 (Int32.toNatClampNeg w2.1)) < v_p1_pipe then (w2.2.2 (Int32.toNatClampNeg w2.1)) else v_p1_pipe))) (Int32.toNatClampNeg (v_p1_drain (Int32.toNatClampNeg w2.1)))) + (if (w2.2.2 (Int32.toNatClampNeg w2.1)) < v_p1_pipe then (w2.2.2 (Int32.toNatClampNeg w2.1)) else v_p1_pipe))))), (q_p1_room, .inl (cI, 8, .inl v_p1_room)), (q_p1_drain, .inl (cI, 8, .inl v_p1_drain)), (q_p1, .inr (6, [.int v_p1_stands, .int v_p1_lent, .int v_p1_pipe, .int v_p1_houses, .ref q_p1_room, .ref q_p1_daily, .ref q_p1_drain, .ref q_p1_above]))] := hD
          refine lv_goto (tgt := 70) hx hb dX10_passHour_62 (by decide) ?_
          refine lv_iinc (v := (w2.1 + 1)) (lv' := [(2, .int (w2.1 + 1)), (4, .int (v_p1_drain (Int32.toNatClampNeg w2.1))), (3, .int (if (w2.2.2 (Int32.toNatClampNeg w2.1)) < v_p1_pipe then (w2.2.2 (Int32.toNatClampNeg w2.1)) else v_p1_pipe)), (0, .ref q_this), (1, .ref q_p1)]) hx hb dX10_passHour_70 hl (k := 2) rfl rfl (by decide) rfl (fun ls hl => ?_)
          refine lv_goto (tgt := 2) hx hb dX10_passHour_73 (by decide) ?_
          have hr9 := Option.some.inj hrun
          subst hr9
          exact ih ((w2.1 + 1), w2.2.1, (upd (upd w2.2.2 (Int32.toNatClampNeg w2.1) ((w2.2.2 (Int32.toNatClampNeg w2.1)) - (if (w2.2.2 (Int32.toNatClampNeg w2.1)) < v_p1_pipe then (w2.2.2 (Int32.toNatClampNeg w2.1)) else v_p1_pipe))) (Int32.toNatClampNeg (v_p1_drain (Int32.toNatClampNeg w2.1))) (((upd w2.2.2 (Int32.toNatClampNeg w2.1) ((w2.2.2 (Int32.toNatClampNeg w2.1)) - (if (w2.2.2 (Int32.toNatClampNeg w2.1)) < v_p1_pipe then (w2.2.2 (Int32.toNatClampNeg w2.1)) else v_p1_pipe))) (Int32.toNatClampNeg (v_p1_drain (Int32.toNatClampNeg w2.1)))) + (if (w2.2.2 (Int32.toNatClampNeg w2.1)) < v_p1_pipe then (w2.2.2 (Int32.toNatClampNeg w2.1)) else v_p1_pipe)))) _ hnext hexit _ _ _ (hP.sub [0, 1, 4, 2, 3] rfl) (hD.sub [0, 1, 4, 2, 3] (by decide) rfl) hS (lv_sub hl [0, 3, 4] rfl)
  refine hL2 oz_fuel (0, v_river, v_kept) o2 hlp2 (fun H locs ls hP hD hS hl => ?_) _ _ _ (hP.sub [0, 1, 2, 3, 4] rfl) (hD.sub [0, 1, 2, 3, 4] (by decide) rfl) hS (lv_sub hl [0, 1, 2] rfl)
  have hP : va_P (dC, dI) vwCl [(q_this, .inr (10, [.ref q_kept, .ref q_away, .int v_days, .int v_spilled, .int o2.2.1])), (q_kept, .inl (cI, 8, .inl o2.2.2)), (q_p1, .inr (6, [.int v_p1_stands, .int v_p1_lent, .int v_p1_pipe, .int v_p1_houses, .ref q_p1_room, .ref q_p1_daily, .ref q_p1_drain, .ref q_p1_above])), (q_p1_room, .inl (cI, 8, .inl v_p1_room)), (q_p1_drain, .inl (cI, 8, .inl v_p1_drain))] H := hP
  have hD : va_D A [(q_this, .inr (10, [.ref q_kept, .ref q_away, .int v_days, .int v_spilled, .int o2.2.1])), (q_kept, .inl (cI, 8, .inl o2.2.2)), (q_p1, .inr (6, [.int v_p1_stands, .int v_p1_lent, .int v_p1_pipe, .int v_p1_houses, .ref q_p1_room, .ref q_p1_daily, .ref q_p1_drain, .ref q_p1_above])), (q_p1_room, .inl (cI, 8, .inl v_p1_room)), (q_p1_drain, .inl (cI, 8, .inl v_p1_drain))] := hD
  have hl : lv_has ls 5 [(2, .int o2.1), (0, .ref q_this), (1, .ref q_p1)] := hl
  refine lv_aload_n hx hb dX10_passHour_76 rfl (lv_at hl 1 rfl) ?_
  refine lv_aload_n hx hb dX10_passHour_77 rfl (lv_at hl 2 rfl) ?_
  obtain ⟨y78, hc78, hrun⟩ := oz_bind hrun
  have hPc := hP.sub (ws' := [(q_this, .inr (10, [.ref q_kept, .ref q_away, .int v_days, .int v_spilled, .int o2.2.1])), (q_kept, .inl (cI, 8, .inl o2.2.2)), (q_p1, .inr (6, [.int v_p1_stands, .int v_p1_lent, .int v_p1_pipe, .int v_p1_houses, .ref q_p1_room, .ref q_p1_daily, .ref q_p1_drain, .ref q_p1_above])), (q_p1_room, .inl (cI, 8, .inl v_p1_room))]) [0, 1, 2, 3] rfl
  have hDc := hD.sub (ws' := [(q_this, .inr (10, [.ref q_kept, .ref q_away, .int v_days, .int v_spilled, .int o2.2.1])), (q_kept, .inl (cI, 8, .inl o2.2.2)), (q_p1, .inr (6, [.int v_p1_stands, .int v_p1_lent, .int v_p1_pipe, .int v_p1_houses, .ref q_p1_room, .ref q_p1_daily, .ref q_p1_drain, .ref q_p1_above])), (q_p1_room, .inl (cI, 8, .inl v_p1_room))]) [0, 1, 2, 3] (by decide) rfl
  have hFc := va_free (wc := [(q_this, .inr (10, [.ref q_kept, .ref q_away, .int v_days, .int v_spilled, .int o2.2.1])), (q_kept, .inl (cI, 8, .inl o2.2.2)), (q_p1, .inr (6, [.int v_p1_stands, .int v_p1_lent, .int v_p1_pipe, .int v_p1_houses, .ref q_p1_room, .ref q_p1_daily, .ref q_p1_drain, .ref q_p1_above])), (q_p1_room, .inl (cI, 8, .inl v_p1_room))]) hD hS hA [0, 1, 2, 3] rfl
  refine va_callv (va_runV (As := [.ref q_p1]) (rest := []) ⟨hx, hb, hml, hown, hts⟩ (tX10_spillOver l dC dI cI cZ q_away q_kept q_p1 q_p1_above q_p1_daily q_p1_drain q_p1_room q_this H.size v_days o2.2.1 v_p1_stands v_p1_lent v_p1_pipe v_spilled o2.2.2 v_p1_houses v_p1_room y78 hc78) (cwV 1 hts gX10_passHour_X10_spillOver rfl rfl rfl (by decide +kernel) ⟨Nat.le_of_ble_eq_true rfl, Nat.le_of_ble_eq_true rfl⟩) ⟨fun a U g mk q => by obtain ⟨q0, q1, qP, qK, qD⟩ := q; exact ⟨q0, q1, qP, va_K.moved (u := U) (U := U.calling g mk a) (Vm.Alike.refl U.vm) qK, qD⟩, va_recv hK hPc (ci := 10) (q0 := 0) rfl rfl, fun U hU hW => ⟨rfl, by rw [hU], by rw [hU]; exact hPc, va_K.moved hW.alike hK, hDc.weaken (fun _ _ _ _ => trivial)⟩⟩ rfl rfl hl.1 rfl (lv_room (Nat.le_of_ble_eq_true rfl)) dX10_passHour_78 ⟨Nat.le_of_ble_eq_true rfl, Nat.le_of_ble_eq_true rfl⟩) hS (fun q _ h => hFc q h) hFc (fun u9 t9 H1 locs ht9 hvm9 hw9 hB9 hz9 hkk9 hS => ?_)
  obtain ⟨hP9, hK9, hD9⟩ := hB9
  rw [ht9] at hP9
  obtain ⟨hP, hD⟩ := va_join (wr := [(q_p1_drain, .inl (cI, 8, .inl v_p1_drain))]) (w1 := [(q_this, .inr (10, [.ref q_kept, .ref q_away, .int v_days, .int y78.1, .int o2.2.1])), (q_kept, .inl (cI, 8, .inl y78.2)), (q_p1, .inr (6, [.int v_p1_stands, .int v_p1_lent, .int v_p1_pipe, .int v_p1_houses, .ref q_p1_room, .ref q_p1_daily, .ref q_p1_drain, .ref q_p1_above])), (q_p1_room, .inl (cI, 8, .inl v_p1_room))]) hP hD [0, 1, 2, 3] [4] rfl rfl (by decide) (by decide) hkk9 hFc hP9 hD9
  generalize H1 = H at hP hS ⊢
  have hP : va_P (dC, dI) vwCl [(q_p1_drain, .inl (cI, 8, .inl v_p1_drain)), (q_this, .inr (10, [.ref q_kept, .ref q_away, .int v_days, .int y78.1, .int o2.2.1])), (q_kept, .inl (cI, 8, .inl y78.2)), (q_p1, .inr (6, [.int v_p1_stands, .int v_p1_lent, .int v_p1_pipe, .int v_p1_houses, .ref q_p1_room, .ref q_p1_daily, .ref q_p1_drain, .ref q_p1_above])), (q_p1_room, .inl (cI, 8, .inl v_p1_room))] H := hP
  have hD : va_D A [(q_p1_drain, .inl (cI, 8, .inl v_p1_drain)), (q_this, .inr (10, [.ref q_kept, .ref q_away, .int v_days, .int y78.1, .int o2.2.1])), (q_kept, .inl (cI, 8, .inl y78.2)), (q_p1, .inr (6, [.int v_p1_stands, .int v_p1_lent, .int v_p1_pipe, .int v_p1_houses, .ref q_p1_room, .ref q_p1_daily, .ref q_p1_drain, .ref q_p1_above])), (q_p1_room, .inl (cI, 8, .inl v_p1_room))] := hD
  have ho9 := Option.some.inj hrun
  subst ho9
  have hP9 := hP.sub (ws' := [(q_this, .inr (10, [.ref q_kept, .ref q_away, .int v_days, .int y78.1, .int o2.2.1])), (q_kept, .inl (cI, 8, .inl y78.2)), (q_p1, .inr (6, [.int v_p1_stands, .int v_p1_lent, .int v_p1_pipe, .int v_p1_houses, .ref q_p1_room, .ref q_p1_daily, .ref q_p1_drain, .ref q_p1_above])), (q_p1_room, .inl (cI, 8, .inl v_p1_room)), (q_p1_drain, .inl (cI, 8, .inl v_p1_drain))]) [1, 2, 3, 4, 0] rfl
  have hD9 := hD.sub (ws' := [(q_this, .inr (10, [.ref q_kept, .ref q_away, .int v_days, .int y78.1, .int o2.2.1])), (q_kept, .inl (cI, 8, .inl y78.2)), (q_p1, .inr (6, [.int v_p1_stands, .int v_p1_lent, .int v_p1_pipe, .int v_p1_houses, .ref q_p1_room, .ref q_p1_daily, .ref q_p1_drain, .ref q_p1_above])), (q_p1_room, .inl (cI, 8, .inl v_p1_room)), (q_p1_drain, .inl (cI, 8, .inl v_p1_drain))]) [1, 2, 3, 4, 0] (by decide) rfl
  rw [hQ]
  exact W.vret hx hb hr (fun t ht hW => ⟨⟨(), rfl, trivial, by rw [ht]; exact hP9, va_K.moved hW.alike hK, hD9⟩, hS.F ht⟩) hS.2.2 dX10_passHour_81
def fX10_inAll_b4 (v_kept : Nat → Int32) (v_p1_houses : Int32) (w4 : Int32 × Int32) : Option ((Int32 × Int32) ⊕ (Int32 × Int32)) :=
  if v_p1_houses ≤ w4.1 then (some (.inr (w4.1, w4.2))) else (if (w4.1 < 0 ∨ 8 ≤ Int32.toNatClampNeg w4.1) then none else some (.inl ((w4.1 + 1), (w4.2 + (v_kept (Int32.toNatClampNeg w4.1))))))
def fX10_inAll (v_kept : Nat → Int32) (v_p1_houses : Int32) : Option (Int32) :=
  Option.bind (oz_loop (fX10_inAll_b4 v_kept v_p1_houses) oz_fuel (0, 0)) (fun o4 => some o4.2)
def rmX10_inAll : Room := { frames := 0, cells := 0, slots := 0, locals := 0 }
set_option maxHeartbeats 4000000 in
set_option maxRecDepth 100000 in
theorem tX10_inAll (l : Launch) (dC : Nat → ClassId) (dI : Nat → Nat → Nat) (cI cZ : ClassId) (q_away q_kept q_p1 q_p1_above q_p1_daily q_p1_drain q_p1_room q_this : Nat) (sz : Nat) (v_days : Int32) (v_spilled : Int32) (v_river : Int32) (v_p1_stands : Int32) (v_p1_lent : Int32) (v_p1_pipe : Int32) (v_kept : Nat → Int32) (v_p1_houses : Int32) (out : Int32) (hrun : fX10_inAll v_kept v_p1_houses = some out) : Met l yX10_inAll wsX10_inAll rmX10_inAll (va_Pc [.ref q_this, .ref q_p1] (fun U => U.heap.size = sz ∧ va_P (dC, dI) vwCl [(q_this, .inr (10, [.ref q_kept, .ref q_away, .int v_days, .int v_spilled, .int v_river])), (q_kept, .inl (cI, 8, .inl v_kept)), (q_p1, .inr (6, [.int v_p1_stands, .int v_p1_lent, .int v_p1_pipe, .int v_p1_houses, .ref q_p1_room, .ref q_p1_daily, .ref q_p1_drain, .ref q_p1_above]))] U.heap ∧ va_K (dC, dI) vwCl [(cI, .int), (cZ, .boolean)] U ∧ va_D (fun _ => True) [(q_this, .inr (10, [.ref q_kept, .ref q_away, .int v_days, .int v_spilled, .int v_river])), (q_kept, .inl (cI, 8, .inl v_kept)), (q_p1, .inr (6, [.int v_p1_stands, .int v_p1_lent, .int v_p1_pipe, .int v_p1_houses, .ref q_p1_room, .ref q_p1_daily, .ref q_p1_drain, .ref q_p1_above]))])) (va_Qi (fun (r : Int32) (_ : Unit) => r = out) (fun _ t => va_P (dC, dI) vwCl [(q_this, .inr (10, [.ref q_kept, .ref q_away, .int v_days, .int v_spilled, .int v_river])), (q_kept, .inl (cI, 8, .inl v_kept)), (q_p1, .inr (6, [.int v_p1_stands, .int v_p1_lent, .int v_p1_pipe, .int v_p1_houses, .ref q_p1_room, .ref q_p1_daily, .ref q_p1_drain, .ref q_p1_above]))] t.heap ∧ va_K (dC, dI) vwCl [(cI, .int), (cZ, .boolean)] t ∧ va_D (va_A [(q_this, .inr (10, [.ref q_kept, .ref q_away, .int v_days, .int v_spilled, .int v_river])), (q_kept, .inl (cI, 8, .inl v_kept)), (q_p1, .inr (6, [.int v_p1_stands, .int v_p1_lent, .int v_p1_pipe, .int v_p1_houses, .ref q_p1_room, .ref q_p1_daily, .ref q_p1_drain, .ref q_p1_above]))] sz) [(q_this, .inr (10, [.ref q_kept, .ref q_away, .int v_days, .int v_spilled, .int v_river])), (q_kept, .inl (cI, 8, .inl v_kept)), (q_p1, .inr (6, [.int v_p1_stands, .int v_p1_lent, .int v_p1_pipe, .int v_p1_houses, .ref q_p1_room, .ref q_p1_daily, .ref q_p1_drain, .ref q_p1_above]))]) (va_A [(q_this, .inr (10, [.ref q_kept, .ref q_away, .int v_days, .int v_spilled, .int v_river])), (q_kept, .inl (cI, 8, .inl v_kept)), (q_p1, .inr (6, [.int v_p1_stands, .int v_p1_lent, .int v_p1_pipe, .int v_p1_houses, .ref q_p1_room, .ref q_p1_daily, .ref q_p1_drain, .ref q_p1_above]))] sz)) 0 0 (va_A [(q_this, .inr (10, [.ref q_kept, .ref q_away, .int v_days, .int v_spilled, .int v_river])), (q_kept, .inl (cI, 8, .inl v_kept)), (q_p1, .inr (6, [.int v_p1_stands, .int v_p1_lent, .int v_p1_pipe, .int v_p1_houses, .ref q_p1_room, .ref q_p1_daily, .ref q_p1_drain, .ref q_p1_above]))] sz) := by
  refine Met.ofW (cc := cX10_inAll) (maxL := 4) (ret := (some .int)) (by decide) rfl ?_
  intro p e s m args below meth c s₁ B hml hv
  obtain ⟨rfl, hsz, hP, hK, hD0⟩ := hv
  have hx := B.exec
  have hb := B.bytes
  have hr := B.returns
  have hts := atoms_spec (ws := wsX10_inAll) B.pre
  have hown : s.vm.findClass RX10 = some m.cls := findClass_of_methodNamed B.named
  have hlocks := B.notSynchronized
  subst hsz
  have hD := hD0.self (sz := s.heap.size)
  generalize hAe : va_A [(q_this, .inr (10, [.ref q_kept, .ref q_away, .int v_days, .int v_spilled, .int v_river])), (q_kept, .inl (cI, 8, .inl v_kept)), (q_p1, .inr (6, [.int v_p1_stands, .int v_p1_lent, .int v_p1_pipe, .int v_p1_houses, .ref q_p1_room, .ref q_p1_daily, .ref q_p1_drain, .ref q_p1_above]))] s.heap.size = A at hD ⊢
  have hA : ∀ q : Nat, s.heap.size ≤ q → A q := fun q h => by rw [← hAe]; exact Or.inr h
  have hS : va_S A s.heap s.heap [] := va_S.rf
  have hl := lv_entry ([.ref q_this, .ref q_p1]) (n := 4) (Nat.le_of_ble_eq_true rfl)
  rw [lg_entry_eq]
  generalize (lg_sl ([.ref q_this, .ref q_p1]) ++ List.replicate (4 - (lg_sl ([.ref q_this, .ref q_p1])).length) Slot.unset).toArray = ls at hl ⊢
  have hl : lv_has ls 4 [(0, .ref q_this), (1, .ref q_p1)] := hl
  unfold fX10_inAll at hrun
  have hk39 := hts (.fieldLink RX10 39 "LentDrains$Plan" "houses" "I") (by decide +kernel)
  have hiX6 : ∀ w ∈ wsX60, w ∈ wsX10_inAll := by decide +kernel
  have hk9 := hts (.fieldLink RX10 9 "LentDrains$State" "kept" "[I") (by decide +kernel)
  have hiX10 : ∀ w ∈ wsX100, w ∈ wsX10_inAll := by decide +kernel
  refine oz_genQ (fun Q hQ => ?_)
  refine lv_iconst (v := 0) hx hb dX10_inAll_0 (by decide) ?_
  refine lv_istore_n (lv' := [(2, .int 0), (0, .ref q_this), (1, .ref q_p1)]) hx hb dX10_inAll_1 rfl hl (by decide) rfl (fun ls hl => ?_)
  refine lv_iconst (v := 0) hx hb dX10_inAll_2 (by decide) ?_
  refine lv_istore_n (lv' := [(3, .int 0), (2, .int 0), (0, .ref q_this), (1, .ref q_p1)]) hx hb dX10_inAll_3 rfl hl (by decide) rfl (fun ls hl => ?_)
  obtain ⟨o4, hlp4, hrun⟩ := oz_bind hrun
  have hL4 : ∀ (n : Nat) (w4 : Int32 × Int32) (o4 : Int32 × Int32), oz_loop (fX10_inAll_b4 v_kept v_p1_houses) n w4 = some o4 → (∀ (H : Heap) (locs : List Loc) (ls : Array Slot), va_P (dC, dI) vwCl [(q_this, .inr (10, [.ref q_kept, .ref q_away, .int v_days, .int v_spilled, .int v_river])), (q_kept, .inl (cI, 8, .inl v_kept)), (q_p1, .inr (6, [.int v_p1_stands, .int v_p1_lent, .int v_p1_pipe, .int v_p1_houses, .ref q_p1_room, .ref q_p1_daily, .ref q_p1_drain, .ref q_p1_above]))] H → va_D A [(q_this, .inr (10, [.ref q_kept, .ref q_away, .int v_days, .int v_spilled, .int v_river])), (q_kept, .inl (cI, 8, .inl v_kept)), (q_p1, .inr (6, [.int v_p1_stands, .int v_p1_lent, .int v_p1_pipe, .int v_p1_houses, .ref q_p1_room, .ref q_p1_daily, .ref q_p1_drain, .ref q_p1_above]))] → va_S A s.heap H locs → lv_has ls 4 [(3, .int o4.1), (2, .int o4.2), (0, .ref q_this), (1, .ref q_p1)] → W p l e (headSpec wsX10_inAll rmX10_inAll).room s m (([.ref q_this, .ref q_p1] : List Value).toArray) below meth c H locs 0 0 Q (F0 m 27 ls [])) → ∀ (H : Heap) (locs : List Loc) (ls : Array Slot), va_P (dC, dI) vwCl [(q_this, .inr (10, [.ref q_kept, .ref q_away, .int v_days, .int v_spilled, .int v_river])), (q_kept, .inl (cI, 8, .inl v_kept)), (q_p1, .inr (6, [.int v_p1_stands, .int v_p1_lent, .int v_p1_pipe, .int v_p1_houses, .ref q_p1_room, .ref q_p1_daily, .ref q_p1_drain, .ref q_p1_above]))] H → va_D A [(q_this, .inr (10, [.ref q_kept, .ref q_away, .int v_days, .int v_spilled, .int v_river])), (q_kept, .inl (cI, 8, .inl v_kept)), (q_p1, .inr (6, [.int v_p1_stands, .int v_p1_lent, .int v_p1_pipe, .int v_p1_houses, .ref q_p1_room, .ref q_p1_daily, .ref q_p1_drain, .ref q_p1_above]))] → va_S A s.heap H locs → lv_has ls 4 [(3, .int w4.1), (2, .int w4.2), (0, .ref q_this), (1, .ref q_p1)] → W p l e (headSpec wsX10_inAll rmX10_inAll).room s m (([.ref q_this, .ref q_p1] : List Value).toArray) below meth c H locs 0 0 Q (F0 m 4 ls []) := by
    intro n
    induction n with
    | zero => intro w4 o4 h9; exact (oz_zero h9).elim
    | succ n ih =>
      intro w4 o4 h9 hexit H locs ls hP hD hS hl
      obtain ⟨r9, hrun, hnext⟩ := oz_step h9
      unfold fX10_inAll_b4 at hrun
      refine lv_iload_n hx hb dX10_inAll_4 rfl (lv_at hl 0 rfl) ?_
      refine lv_aload_n hx hb dX10_inAll_5 rfl (lv_at hl 3 rfl) ?_
      refine va_get (D := (dC, dI)) (ci := 6) (v := .int v_p1_houses) (C := RX6) (T := TX6) (N := 8) hx hb hts hiX6 hown hK hP 2 rfl rfl 3 (by decide) hk39 (fun _ h9 => h9) rfl dX10_inAll_6 ?_
      refine lv_icmp_ge (tgt := 27) hx hb dX10_inAll_9 (by decide) (fun c1 => ?_) (fun c1 => ?_)
      · have hrun := oz_t hrun c1
        have hr9 := Option.some.inj hrun
        subst hr9
        have ho9 : (w4.1, w4.2) = o4 := hnext
        subst ho9
        exact hexit _ _ _ (hP.sub [0, 1, 2] rfl) (hD.sub [0, 1, 2] (by decide) rfl) hS (lv_sub hl [0, 1, 2, 3] rfl)
      · have hrun := oz_f hrun c1
        refine lv_iload_n hx hb dX10_inAll_12 rfl (lv_at hl 1 rfl) ?_
        refine lv_aload_n hx hb dX10_inAll_13 rfl (lv_at hl 2 rfl) ?_
        refine va_get (D := (dC, dI)) (ci := 10) (v := .ref q_kept) (C := RX10) (T := TX10) (N := 5) hx hb hts hiX10 hown hK hP 0 rfl rfl 0 (by decide) hk9 (fun _ h9 => h9) rfl dX10_inAll_14 ?_
        refine lv_iload_n hx hb dX10_inAll_17 rfl (lv_at hl 0 rfl) ?_
        obtain ⟨c2, hrun⟩ := oz_chk hrun
        refine va_iald hx hb hK hP 1 0 rfl rfl c2 dX10_inAll_18 ?_
        refine lv_iadd hx hb dX10_inAll_19 ?_
        refine lv_istore_n (lv' := [(2, .int (w4.2 + (v_kept (Int32.toNatClampNeg w4.1)))), (3, .int w4.1), (0, .ref q_this), (1, .ref q_p1)]) hx hb dX10_inAll_20 rfl hl (by decide) rfl (fun ls hl => ?_)
        refine lv_iinc (v := (w4.1 + 1)) (lv' := [(3, .int (w4.1 + 1)), (2, .int (w4.2 + (v_kept (Int32.toNatClampNeg w4.1)))), (0, .ref q_this), (1, .ref q_p1)]) hx hb dX10_inAll_21 hl (k := 1) rfl rfl (by decide) rfl (fun ls hl => ?_)
        refine lv_goto (tgt := 4) hx hb dX10_inAll_24 (by decide) ?_
        have hr9 := Option.some.inj hrun
        subst hr9
        exact ih ((w4.1 + 1), (w4.2 + (v_kept (Int32.toNatClampNeg w4.1)))) _ hnext hexit _ _ _ (hP.sub [0, 1, 2] rfl) (hD.sub [0, 1, 2] (by decide) rfl) hS (lv_sub hl [0, 1, 2, 3] rfl)
  refine hL4 oz_fuel (0, 0) o4 hlp4 (fun H locs ls hP hD hS hl => ?_) _ _ _ (hP.sub [0, 1, 2] rfl) (hD.sub [0, 1, 2] (by decide) rfl) hS (lv_sub hl [0, 1, 2, 3] rfl)
  have hP : va_P (dC, dI) vwCl [(q_this, .inr (10, [.ref q_kept, .ref q_away, .int v_days, .int v_spilled, .int v_river])), (q_kept, .inl (cI, 8, .inl v_kept)), (q_p1, .inr (6, [.int v_p1_stands, .int v_p1_lent, .int v_p1_pipe, .int v_p1_houses, .ref q_p1_room, .ref q_p1_daily, .ref q_p1_drain, .ref q_p1_above]))] H := hP
  have hD : va_D A [(q_this, .inr (10, [.ref q_kept, .ref q_away, .int v_days, .int v_spilled, .int v_river])), (q_kept, .inl (cI, 8, .inl v_kept)), (q_p1, .inr (6, [.int v_p1_stands, .int v_p1_lent, .int v_p1_pipe, .int v_p1_houses, .ref q_p1_room, .ref q_p1_daily, .ref q_p1_drain, .ref q_p1_above]))] := hD
  have hl : lv_has ls 4 [(3, .int o4.1), (2, .int o4.2), (0, .ref q_this), (1, .ref q_p1)] := hl
  refine lv_iload_n hx hb dX10_inAll_27 rfl (lv_at hl 1 rfl) ?_
  have ho9 := Option.some.inj hrun
  subst ho9
  have hP9 := hP.sub (ws' := [(q_this, .inr (10, [.ref q_kept, .ref q_away, .int v_days, .int v_spilled, .int v_river])), (q_kept, .inl (cI, 8, .inl v_kept)), (q_p1, .inr (6, [.int v_p1_stands, .int v_p1_lent, .int v_p1_pipe, .int v_p1_houses, .ref q_p1_room, .ref q_p1_daily, .ref q_p1_drain, .ref q_p1_above]))]) [0, 1, 2] rfl
  have hD9 := hD.sub (ws' := [(q_this, .inr (10, [.ref q_kept, .ref q_away, .int v_days, .int v_spilled, .int v_river])), (q_kept, .inl (cI, 8, .inl v_kept)), (q_p1, .inr (6, [.int v_p1_stands, .int v_p1_lent, .int v_p1_pipe, .int v_p1_houses, .ref q_p1_room, .ref q_p1_daily, .ref q_p1_drain, .ref q_p1_above]))]) [0, 1, 2] (by decide) rfl
  rw [hQ]
  exact W.iret (v := o4.2) hx hb hr (fun t ht hW => ⟨⟨o4.2, (), rfl, rfl, by rw [ht]; exact hP9, va_K.moved hW.alike hK, hD9⟩, hS.F ht⟩) hS.2.2 dX10_inAll_28
def fX10_awaySet_b4 (v_away : Nat → Int32) (v_p1_houses : Int32) (w4 : Int32 × Int32) : Option ((Int32 × Int32) ⊕ (Int32 × Int32)) :=
  if v_p1_houses ≤ w4.1 then (some (.inr (w4.1, w4.2))) else (if (w4.1 < 0 ∨ 8 ≤ Int32.toNatClampNeg w4.1) then none else if (v_away (Int32.toNatClampNeg w4.1)) ≤ 0 then (some (.inl ((w4.1 + 1), w4.2))) else (some (.inl ((w4.1 + 1), (w4.2 ||| (1 <<< (w4.1 &&& 31)))))))
def fX10_awaySet (v_away : Nat → Int32) (v_p1_houses : Int32) : Option (Int32) :=
  Option.bind (oz_loop (fX10_awaySet_b4 v_away v_p1_houses) oz_fuel (0, 0)) (fun o4 => some o4.2)
def rmX10_awaySet : Room := { frames := 0, cells := 0, slots := 0, locals := 0 }
set_option maxHeartbeats 4000000 in
set_option maxRecDepth 100000 in
theorem tX10_awaySet (l : Launch) (dC : Nat → ClassId) (dI : Nat → Nat → Nat) (cI cZ : ClassId) (q_away q_kept q_p1 q_p1_above q_p1_daily q_p1_drain q_p1_room q_this : Nat) (sz : Nat) (v_days : Int32) (v_spilled : Int32) (v_river : Int32) (v_p1_stands : Int32) (v_p1_lent : Int32) (v_p1_pipe : Int32) (v_away : Nat → Int32) (v_p1_houses : Int32) (out : Int32) (hrun : fX10_awaySet v_away v_p1_houses = some out) : Met l yX10_awaySet wsX10_awaySet rmX10_awaySet (va_Pc [.ref q_this, .ref q_p1] (fun U => U.heap.size = sz ∧ va_P (dC, dI) vwCl [(q_this, .inr (10, [.ref q_kept, .ref q_away, .int v_days, .int v_spilled, .int v_river])), (q_away, .inl (cI, 8, .inl v_away)), (q_p1, .inr (6, [.int v_p1_stands, .int v_p1_lent, .int v_p1_pipe, .int v_p1_houses, .ref q_p1_room, .ref q_p1_daily, .ref q_p1_drain, .ref q_p1_above]))] U.heap ∧ va_K (dC, dI) vwCl [(cI, .int), (cZ, .boolean)] U ∧ va_D (fun _ => True) [(q_this, .inr (10, [.ref q_kept, .ref q_away, .int v_days, .int v_spilled, .int v_river])), (q_away, .inl (cI, 8, .inl v_away)), (q_p1, .inr (6, [.int v_p1_stands, .int v_p1_lent, .int v_p1_pipe, .int v_p1_houses, .ref q_p1_room, .ref q_p1_daily, .ref q_p1_drain, .ref q_p1_above]))])) (va_Qi (fun (r : Int32) (_ : Unit) => r = out) (fun _ t => va_P (dC, dI) vwCl [(q_this, .inr (10, [.ref q_kept, .ref q_away, .int v_days, .int v_spilled, .int v_river])), (q_away, .inl (cI, 8, .inl v_away)), (q_p1, .inr (6, [.int v_p1_stands, .int v_p1_lent, .int v_p1_pipe, .int v_p1_houses, .ref q_p1_room, .ref q_p1_daily, .ref q_p1_drain, .ref q_p1_above]))] t.heap ∧ va_K (dC, dI) vwCl [(cI, .int), (cZ, .boolean)] t ∧ va_D (va_A [(q_this, .inr (10, [.ref q_kept, .ref q_away, .int v_days, .int v_spilled, .int v_river])), (q_away, .inl (cI, 8, .inl v_away)), (q_p1, .inr (6, [.int v_p1_stands, .int v_p1_lent, .int v_p1_pipe, .int v_p1_houses, .ref q_p1_room, .ref q_p1_daily, .ref q_p1_drain, .ref q_p1_above]))] sz) [(q_this, .inr (10, [.ref q_kept, .ref q_away, .int v_days, .int v_spilled, .int v_river])), (q_away, .inl (cI, 8, .inl v_away)), (q_p1, .inr (6, [.int v_p1_stands, .int v_p1_lent, .int v_p1_pipe, .int v_p1_houses, .ref q_p1_room, .ref q_p1_daily, .ref q_p1_drain, .ref q_p1_above]))]) (va_A [(q_this, .inr (10, [.ref q_kept, .ref q_away, .int v_days, .int v_spilled, .int v_river])), (q_away, .inl (cI, 8, .inl v_away)), (q_p1, .inr (6, [.int v_p1_stands, .int v_p1_lent, .int v_p1_pipe, .int v_p1_houses, .ref q_p1_room, .ref q_p1_daily, .ref q_p1_drain, .ref q_p1_above]))] sz)) 0 0 (va_A [(q_this, .inr (10, [.ref q_kept, .ref q_away, .int v_days, .int v_spilled, .int v_river])), (q_away, .inl (cI, 8, .inl v_away)), (q_p1, .inr (6, [.int v_p1_stands, .int v_p1_lent, .int v_p1_pipe, .int v_p1_houses, .ref q_p1_room, .ref q_p1_daily, .ref q_p1_drain, .ref q_p1_above]))] sz) := by
  refine Met.ofW (cc := cX10_awaySet) (maxL := 4) (ret := (some .int)) (by decide) rfl ?_
  intro p e s m args below meth c s₁ B hml hv
  obtain ⟨rfl, hsz, hP, hK, hD0⟩ := hv
  have hx := B.exec
  have hb := B.bytes
  have hr := B.returns
  have hts := atoms_spec (ws := wsX10_awaySet) B.pre
  have hown : s.vm.findClass RX10 = some m.cls := findClass_of_methodNamed B.named
  have hlocks := B.notSynchronized
  subst hsz
  have hD := hD0.self (sz := s.heap.size)
  generalize hAe : va_A [(q_this, .inr (10, [.ref q_kept, .ref q_away, .int v_days, .int v_spilled, .int v_river])), (q_away, .inl (cI, 8, .inl v_away)), (q_p1, .inr (6, [.int v_p1_stands, .int v_p1_lent, .int v_p1_pipe, .int v_p1_houses, .ref q_p1_room, .ref q_p1_daily, .ref q_p1_drain, .ref q_p1_above]))] s.heap.size = A at hD ⊢
  have hA : ∀ q : Nat, s.heap.size ≤ q → A q := fun q h => by rw [← hAe]; exact Or.inr h
  have hS : va_S A s.heap s.heap [] := va_S.rf
  have hl := lv_entry ([.ref q_this, .ref q_p1]) (n := 4) (Nat.le_of_ble_eq_true rfl)
  rw [lg_entry_eq]
  generalize (lg_sl ([.ref q_this, .ref q_p1]) ++ List.replicate (4 - (lg_sl ([.ref q_this, .ref q_p1])).length) Slot.unset).toArray = ls at hl ⊢
  have hl : lv_has ls 4 [(0, .ref q_this), (1, .ref q_p1)] := hl
  unfold fX10_awaySet at hrun
  have hk39 := hts (.fieldLink RX10 39 "LentDrains$Plan" "houses" "I") (by decide +kernel)
  have hiX6 : ∀ w ∈ wsX60, w ∈ wsX10_awaySet := by decide +kernel
  have hk15 := hts (.fieldLink RX10 15 "LentDrains$State" "away" "[I") (by decide +kernel)
  have hiX10 : ∀ w ∈ wsX100, w ∈ wsX10_awaySet := by decide +kernel
  refine oz_genQ (fun Q hQ => ?_)
  refine lv_iconst (v := 0) hx hb dX10_awaySet_0 (by decide) ?_
  refine lv_istore_n (lv' := [(2, .int 0), (0, .ref q_this), (1, .ref q_p1)]) hx hb dX10_awaySet_1 rfl hl (by decide) rfl (fun ls hl => ?_)
  refine lv_iconst (v := 0) hx hb dX10_awaySet_2 (by decide) ?_
  refine lv_istore_n (lv' := [(3, .int 0), (2, .int 0), (0, .ref q_this), (1, .ref q_p1)]) hx hb dX10_awaySet_3 rfl hl (by decide) rfl (fun ls hl => ?_)
  obtain ⟨o4, hlp4, hrun⟩ := oz_bind hrun
  have hL4 : ∀ (n : Nat) (w4 : Int32 × Int32) (o4 : Int32 × Int32), oz_loop (fX10_awaySet_b4 v_away v_p1_houses) n w4 = some o4 → (∀ (H : Heap) (locs : List Loc) (ls : Array Slot), va_P (dC, dI) vwCl [(q_this, .inr (10, [.ref q_kept, .ref q_away, .int v_days, .int v_spilled, .int v_river])), (q_away, .inl (cI, 8, .inl v_away)), (q_p1, .inr (6, [.int v_p1_stands, .int v_p1_lent, .int v_p1_pipe, .int v_p1_houses, .ref q_p1_room, .ref q_p1_daily, .ref q_p1_drain, .ref q_p1_above]))] H → va_D A [(q_this, .inr (10, [.ref q_kept, .ref q_away, .int v_days, .int v_spilled, .int v_river])), (q_away, .inl (cI, 8, .inl v_away)), (q_p1, .inr (6, [.int v_p1_stands, .int v_p1_lent, .int v_p1_pipe, .int v_p1_houses, .ref q_p1_room, .ref q_p1_daily, .ref q_p1_drain, .ref q_p1_above]))] → va_S A s.heap H locs → lv_has ls 4 [(3, .int o4.1), (2, .int o4.2), (0, .ref q_this), (1, .ref q_p1)] → W p l e (headSpec wsX10_awaySet rmX10_awaySet).room s m (([.ref q_this, .ref q_p1] : List Value).toArray) below meth c H locs 0 0 Q (F0 m 33 ls [])) → ∀ (H : Heap) (locs : List Loc) (ls : Array Slot), va_P (dC, dI) vwCl [(q_this, .inr (10, [.ref q_kept, .ref q_away, .int v_days, .int v_spilled, .int v_river])), (q_away, .inl (cI, 8, .inl v_away)), (q_p1, .inr (6, [.int v_p1_stands, .int v_p1_lent, .int v_p1_pipe, .int v_p1_houses, .ref q_p1_room, .ref q_p1_daily, .ref q_p1_drain, .ref q_p1_above]))] H → va_D A [(q_this, .inr (10, [.ref q_kept, .ref q_away, .int v_days, .int v_spilled, .int v_river])), (q_away, .inl (cI, 8, .inl v_away)), (q_p1, .inr (6, [.int v_p1_stands, .int v_p1_lent, .int v_p1_pipe, .int v_p1_houses, .ref q_p1_room, .ref q_p1_daily, .ref q_p1_drain, .ref q_p1_above]))] → va_S A s.heap H locs → lv_has ls 4 [(3, .int w4.1), (2, .int w4.2), (0, .ref q_this), (1, .ref q_p1)] → W p l e (headSpec wsX10_awaySet rmX10_awaySet).room s m (([.ref q_this, .ref q_p1] : List Value).toArray) below meth c H locs 0 0 Q (F0 m 4 ls []) := by
    intro n
    induction n with
    | zero => intro w4 o4 h9; exact (oz_zero h9).elim
    | succ n ih =>
      intro w4 o4 h9 hexit H locs ls hP hD hS hl
      obtain ⟨r9, hrun, hnext⟩ := oz_step h9
      unfold fX10_awaySet_b4 at hrun
      refine lv_iload_n hx hb dX10_awaySet_4 rfl (lv_at hl 0 rfl) ?_
      refine lv_aload_n hx hb dX10_awaySet_5 rfl (lv_at hl 3 rfl) ?_
      refine va_get (D := (dC, dI)) (ci := 6) (v := .int v_p1_houses) (C := RX6) (T := TX6) (N := 8) hx hb hts hiX6 hown hK hP 2 rfl rfl 3 (by decide) hk39 (fun _ h9 => h9) rfl dX10_awaySet_6 ?_
      refine lv_icmp_ge (tgt := 33) hx hb dX10_awaySet_9 (by decide) (fun c1 => ?_) (fun c1 => ?_)
      · have hrun := oz_t hrun c1
        have hr9 := Option.some.inj hrun
        subst hr9
        have ho9 : (w4.1, w4.2) = o4 := hnext
        subst ho9
        exact hexit _ _ _ (hP.sub [0, 1, 2] rfl) (hD.sub [0, 1, 2] (by decide) rfl) hS (lv_sub hl [0, 1, 2, 3] rfl)
      · have hrun := oz_f hrun c1
        refine lv_aload_n hx hb dX10_awaySet_12 rfl (lv_at hl 2 rfl) ?_
        refine va_get (D := (dC, dI)) (ci := 10) (v := .ref q_away) (C := RX10) (T := TX10) (N := 5) hx hb hts hiX10 hown hK hP 0 rfl rfl 1 (by decide) hk15 (fun _ h9 => h9) rfl dX10_awaySet_13 ?_
        refine lv_iload_n hx hb dX10_awaySet_16 rfl (lv_at hl 0 rfl) ?_
        obtain ⟨c2, hrun⟩ := oz_chk hrun
        refine va_iald hx hb hK hP 1 0 rfl rfl c2 dX10_awaySet_17 ?_
        refine lv_if_le (tgt := 27) hx hb dX10_awaySet_18 (by decide) (fun c3 => ?_) (fun c3 => ?_)
        · have hrun := oz_t hrun c3
          refine lv_iinc (v := (w4.1 + 1)) (lv' := [(3, .int (w4.1 + 1)), (2, .int w4.2), (0, .ref q_this), (1, .ref q_p1)]) hx hb dX10_awaySet_27 hl (k := 0) rfl rfl (by decide) rfl (fun ls hl => ?_)
          refine lv_goto (tgt := 4) hx hb dX10_awaySet_30 (by decide) ?_
          have hr9 := Option.some.inj hrun
          subst hr9
          exact ih ((w4.1 + 1), w4.2) _ hnext hexit _ _ _ (hP.sub [0, 1, 2] rfl) (hD.sub [0, 1, 2] (by decide) rfl) hS (lv_sub hl [0, 1, 2, 3] rfl)
        · have hrun := oz_f hrun c3
          refine lv_iload_n hx hb dX10_awaySet_21 rfl (lv_at hl 1 rfl) ?_
          refine lv_iconst (v := 1) hx hb dX10_awaySet_22 (by decide) ?_
          refine lv_iload_n hx hb dX10_awaySet_23 rfl (lv_at hl 0 rfl) ?_
          refine lv_ishl hx hb dX10_awaySet_24 ?_
          refine lv_ior hx hb dX10_awaySet_25 ?_
          refine lv_istore_n (lv' := [(2, .int (w4.2 ||| (1 <<< (w4.1 &&& 31)))), (3, .int w4.1), (0, .ref q_this), (1, .ref q_p1)]) hx hb dX10_awaySet_26 rfl hl (by decide) rfl (fun ls hl => ?_)
          refine lv_iinc (v := (w4.1 + 1)) (lv' := [(3, .int (w4.1 + 1)), (2, .int (w4.2 ||| (1 <<< (w4.1 &&& 31)))), (0, .ref q_this), (1, .ref q_p1)]) hx hb dX10_awaySet_27 hl (k := 1) rfl rfl (by decide) rfl (fun ls hl => ?_)
          refine lv_goto (tgt := 4) hx hb dX10_awaySet_30 (by decide) ?_
          have hr9 := Option.some.inj hrun
          subst hr9
          exact ih ((w4.1 + 1), (w4.2 ||| (1 <<< (w4.1 &&& 31)))) _ hnext hexit _ _ _ (hP.sub [0, 1, 2] rfl) (hD.sub [0, 1, 2] (by decide) rfl) hS (lv_sub hl [0, 1, 2, 3] rfl)
  refine hL4 oz_fuel (0, 0) o4 hlp4 (fun H locs ls hP hD hS hl => ?_) _ _ _ (hP.sub [0, 1, 2] rfl) (hD.sub [0, 1, 2] (by decide) rfl) hS (lv_sub hl [0, 1, 2, 3] rfl)
  have hP : va_P (dC, dI) vwCl [(q_this, .inr (10, [.ref q_kept, .ref q_away, .int v_days, .int v_spilled, .int v_river])), (q_away, .inl (cI, 8, .inl v_away)), (q_p1, .inr (6, [.int v_p1_stands, .int v_p1_lent, .int v_p1_pipe, .int v_p1_houses, .ref q_p1_room, .ref q_p1_daily, .ref q_p1_drain, .ref q_p1_above]))] H := hP
  have hD : va_D A [(q_this, .inr (10, [.ref q_kept, .ref q_away, .int v_days, .int v_spilled, .int v_river])), (q_away, .inl (cI, 8, .inl v_away)), (q_p1, .inr (6, [.int v_p1_stands, .int v_p1_lent, .int v_p1_pipe, .int v_p1_houses, .ref q_p1_room, .ref q_p1_daily, .ref q_p1_drain, .ref q_p1_above]))] := hD
  have hl : lv_has ls 4 [(3, .int o4.1), (2, .int o4.2), (0, .ref q_this), (1, .ref q_p1)] := hl
  refine lv_iload_n hx hb dX10_awaySet_33 rfl (lv_at hl 1 rfl) ?_
  have ho9 := Option.some.inj hrun
  subst ho9
  have hP9 := hP.sub (ws' := [(q_this, .inr (10, [.ref q_kept, .ref q_away, .int v_days, .int v_spilled, .int v_river])), (q_away, .inl (cI, 8, .inl v_away)), (q_p1, .inr (6, [.int v_p1_stands, .int v_p1_lent, .int v_p1_pipe, .int v_p1_houses, .ref q_p1_room, .ref q_p1_daily, .ref q_p1_drain, .ref q_p1_above]))]) [0, 1, 2] rfl
  have hD9 := hD.sub (ws' := [(q_this, .inr (10, [.ref q_kept, .ref q_away, .int v_days, .int v_spilled, .int v_river])), (q_away, .inl (cI, 8, .inl v_away)), (q_p1, .inr (6, [.int v_p1_stands, .int v_p1_lent, .int v_p1_pipe, .int v_p1_houses, .ref q_p1_room, .ref q_p1_daily, .ref q_p1_drain, .ref q_p1_above]))]) [0, 1, 2] (by decide) rfl
  rw [hQ]
  exact W.iret (v := o4.2) hx hb hr (fun t ht hW => ⟨⟨o4.2, (), rfl, rfl, by rw [ht]; exact hP9, va_K.moved hW.alike hK, hD9⟩, hS.F ht⟩) hS.2.2 dX10_awaySet_34
