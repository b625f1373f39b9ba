def fX7_firstOrder_b4 (a1 : Int32) (w4 : Int32 × Int32) : Option ((Int32 × Int32) ⊕ (Int32 × Int32)) :=
  if a1 ≤ w4.1 then (some (.inr (w4.1, w4.2))) else (if 6 < a1 then (some (.inr (w4.1, w4.2))) else (some (.inl ((w4.1 + 1), (((w4.2 * 10) + w4.1) + 1)))))
def fX7_firstOrder (a1 : Int32) : Option (Int32) :=
  Option.bind (oz_loop (fX7_firstOrder_b4 a1) oz_fuel (0, 0)) (fun o4 => some o4.2)
def rmX7_firstOrder : Room := { frames := 0, cells := 0, slots := 0, locals := 0 }
set_option maxHeartbeats 4000000 in
set_option maxRecDepth 100000 in
theorem tX7_firstOrder (l : Launch) (dC : Nat → ClassId) (dI : Nat → Nat → Nat) (cI cZ : ClassId) (q_this : Nat) (sz : Nat) (a1 : Int32) (out : Int32) (hrun : fX7_firstOrder a1 = some out) : Met l yX7_firstOrder wsX7_firstOrder rmX7_firstOrder (va_Pc [.ref q_this, .int a1] (fun U => U.heap.size = sz ∧ va_P (dC, dI) vwCl [] U.heap ∧ va_K (dC, dI) vwCl [(cI, .int), (cZ, .boolean)] U ∧ va_D (fun _ => True) [])) (va_Qi (fun (r : Int32) (_ : Unit) => r = out) (fun _ t => va_P (dC, dI) vwCl [] t.heap ∧ va_K (dC, dI) vwCl [(cI, .int), (cZ, .boolean)] t ∧ va_D (va_A [] sz) []) (va_A [] sz)) 0 0 (va_A [] sz) := by
  refine Met.ofW (cc := cX7_firstOrder) (maxL := 4) (ret := (some .int)) (by decide) rfl ?_
  intro p e s m args below meth c s₁ B hml hv
  obtain ⟨rfl, hsz, hP, hK, hD0⟩ := hv
  have hx := B.exec
  have hb := B.bytes
  have hr := B.returns
  have hts := atoms_spec (ws := wsX7_firstOrder) B.pre
  have hown : s.vm.findClass RX7 = some m.cls := findClass_of_methodNamed B.named
  have hlocks := B.notSynchronized
  subst hsz
  have hD := hD0.self (sz := s.heap.size)
  generalize hAe : va_A [] s.heap.size = A at hD ⊢
  have hA : ∀ q : Nat, s.heap.size ≤ q → A q := fun q h => by rw [← hAe]; exact Or.inr h
  have hS : va_S A s.heap s.heap [] := va_S.rf
  have hl := lv_entry ([.ref q_this, .int a1]) (n := 4) (Nat.le_of_ble_eq_true rfl)
  rw [lg_entry_eq]
  generalize (lg_sl ([.ref q_this, .int a1]) ++ List.replicate (4 - (lg_sl ([.ref q_this, .int a1])).length) Slot.unset).toArray = ls at hl ⊢
  have hl : lv_has ls 4 [(0, .ref q_this), (1, .int a1)] := hl
  unfold fX7_firstOrder at hrun
  refine oz_genQ (fun Q hQ => ?_)
  refine lv_iconst (v := 0) hx hb dX7_firstOrder_0 (by decide) ?_
  refine lv_istore_n (lv' := [(2, .int 0), (0, .ref q_this), (1, .int a1)]) hx hb dX7_firstOrder_1 rfl hl (by decide) rfl (fun ls hl => ?_)
  refine lv_iconst (v := 0) hx hb dX7_firstOrder_2 (by decide) ?_
  refine lv_istore_n (lv' := [(3, .int 0), (2, .int 0), (0, .ref q_this), (1, .int a1)]) hx hb dX7_firstOrder_3 rfl hl (by decide) rfl (fun ls hl => ?_)
  obtain ⟨o4, hlp4, hrun⟩ := oz_bind hrun
  have hL4 : ∀ (n : Nat) (w4 : Int32 × Int32) (o4 : Int32 × Int32), oz_loop (fX7_firstOrder_b4 a1) n w4 = some o4 → (∀ (H : Heap) (locs : List Loc) (ls : Array Slot), va_P (dC, dI) vwCl [] H → va_D A [] → va_S A s.heap H locs → lv_has ls 4 [(3, .int o4.1), (2, .int o4.2), (1, .int a1)] → W p l e (headSpec wsX7_firstOrder rmX7_firstOrder).room s m (([.ref q_this, .int a1] : List Value).toArray) below meth c H locs 0 0 Q (F0 m 30 ls [])) → ∀ (H : Heap) (locs : List Loc) (ls : Array Slot), va_P (dC, dI) vwCl [] H → va_D A [] → va_S A s.heap H locs → lv_has ls 4 [(3, .int w4.1), (2, .int w4.2), (1, .int a1)] → W p l e (headSpec wsX7_firstOrder rmX7_firstOrder).room s m (([.ref q_this, .int a1] : List Value).toArray) below meth c H locs 0 0 Q (F0 m 4 ls []) := by
    intro n
    induction n with
    | zero => intro w4 o4 h9; exact (oz_zero h9).elim
    | succ n ih =>
      intro w4 o4 h9 hexit H locs ls hP hD hS hl
      obtain ⟨r9, hrun, hnext⟩ := oz_step h9
      unfold fX7_firstOrder_b4 at hrun
      refine lv_iload_n hx hb dX7_firstOrder_4 rfl (lv_at hl 0 rfl) ?_
      refine lv_iload_n hx hb dX7_firstOrder_5 rfl (lv_at hl 2 rfl) ?_
      refine lv_icmp_ge (tgt := 30) hx hb dX7_firstOrder_6 (by decide) (fun c1 => ?_) (fun c1 => ?_)
      · have hrun := oz_t hrun c1
        have hr9 := Option.some.inj hrun
        subst hr9
        have ho9 : (w4.1, w4.2) = o4 := hnext
        subst ho9
        exact hexit _ _ _ (hP.sub [] rfl) (hD.sub [] (by decide) rfl) hS (lv_sub hl [0, 1, 2] rfl)
      · have hrun := oz_f hrun c1
        refine lv_iload_n hx hb dX7_firstOrder_9 rfl (lv_at hl 2 rfl) ?_
        refine lv_bipush (v := 6) hx hb dX7_firstOrder_10 (by decide) ?_
        refine lv_icmp_gt (tgt := 30) hx hb dX7_firstOrder_12 (by decide) (fun c2 => ?_) (fun c2 => ?_)
        · have hrun := oz_t hrun c2
          have hr9 := Option.some.inj hrun
          subst hr9
          have ho9 : (w4.1, w4.2) = o4 := hnext
          subst ho9
          exact hexit _ _ _ (hP.sub [] rfl) (hD.sub [] (by decide) rfl) hS (lv_sub hl [0, 1, 2] rfl)
        · have hrun := oz_f hrun c2
          refine lv_iload_n hx hb dX7_firstOrder_15 rfl (lv_at hl 1 rfl) ?_
          refine lv_bipush (v := 10) hx hb dX7_firstOrder_16 (by decide) ?_
          refine lv_imul hx hb dX7_firstOrder_18 ?_
          refine lv_iload_n hx hb dX7_firstOrder_19 rfl (lv_at hl 0 rfl) ?_
          refine lv_iadd hx hb dX7_firstOrder_20 ?_
          refine lv_iconst (v := 1) hx hb dX7_firstOrder_21 (by decide) ?_
          refine lv_iadd hx hb dX7_firstOrder_22 ?_
          refine lv_istore_n (lv' := [(2, .int (((w4.2 * 10) + w4.1) + 1)), (3, .int w4.1), (1, .int a1)]) hx hb dX7_firstOrder_23 rfl hl (by decide) rfl (fun ls hl => ?_)
          refine lv_iinc (v := (w4.1 + 1)) (lv' := [(3, .int (w4.1 + 1)), (2, .int (((w4.2 * 10) + w4.1) + 1)), (1, .int a1)]) hx hb dX7_firstOrder_24 hl (k := 1) rfl rfl (by decide) rfl (fun ls hl => ?_)
          refine lv_goto (tgt := 4) hx hb dX7_firstOrder_27 (by decide) ?_
          have hr9 := Option.some.inj hrun
          subst hr9
          exact ih ((w4.1 + 1), (((w4.2 * 10) + w4.1) + 1)) _ hnext hexit _ _ _ (hP.sub [] rfl) (hD.sub [] (by decide) rfl) hS (lv_sub hl [0, 1, 2] rfl)
  refine hL4 oz_fuel (0, 0) o4 hlp4 (fun H locs ls hP hD hS hl => ?_) _ _ _ (hP.sub [] rfl) (hD.sub [] (by decide) rfl) hS (lv_sub hl [0, 1, 3] rfl)
  have hP : va_P (dC, dI) vwCl [] H := hP
  have hD : va_D A [] := hD
  have hl : lv_has ls 4 [(3, .int o4.1), (2, .int o4.2), (1, .int a1)] := hl
  refine lv_iload_n hx hb dX7_firstOrder_30 rfl (lv_at hl 1 rfl) ?_
  have ho9 := Option.some.inj hrun
  subst ho9
  have hP9 := hP.sub (ws' := []) [] rfl
  have hD9 := hD.sub (ws' := []) [] (by decide) rfl
  rw [hQ]
  exact W.iret (v := o4.2) hx hb hr (fun t ht hW => ⟨⟨o4.2, (), rfl, rfl, by rw [ht]; exact hP9, va_K.moved hW.alike hK, hD9⟩, hS.F ht⟩) hS.2.2 dX7_firstOrder_31
def fX7_readOrder_b33 (a2 : Int32) (w33 : Int32 × Int32 × Int32 × (Nat → Int32)) : Option ((Int32 × Int32 × Int32 × (Nat → Int32)) ⊕ (Int32 × Int32 × (Nat → Int32))) :=
  if w33.1 < 0 then (if w33.2.2.1 = 0 then (some (.inr (1, a2, w33.2.2.2))) else (some (.inr (0, a2, w33.2.2.2)))) else (if ((w33.2.2.1 - w33.2.2.1 / 10 * 10) - 1) < 0 then (some (.inr (0, a2, w33.2.2.2))) else (if a2 ≤ ((w33.2.2.1 - w33.2.2.1 / 10 * 10) - 1) then (some (.inr (0, a2, w33.2.2.2))) else (if ((w33.2.1 >>> (((w33.2.2.1 - w33.2.2.1 / 10 * 10) - 1) &&& 31)) &&& 1) = 1 then (some (.inr (0, a2, w33.2.2.2))) else (if (w33.1 < 0 ∨ 6 ≤ Int32.toNatClampNeg w33.1) then none else some (.inl ((w33.1 + (-1)), (w33.2.1 ||| (1 <<< (((w33.2.2.1 - w33.2.2.1 / 10 * 10) - 1) &&& 31))), (w33.2.2.1 / 10), (upd w33.2.2.2 (Int32.toNatClampNeg w33.1) ((w33.2.2.1 - w33.2.2.1 / 10 * 10) - 1))))))))
def fX7_readOrder (v_count : Int32) (v_order : Nat → Int32) (a1 : Int32) (a2 : Int32) : Option (Int32 × Int32 × (Nat → Int32)) :=
  if a2 < 1 then (some (0, v_count, v_order)) else (if 6 < a2 then (some (0, v_count, v_order)) else (if 1 ≤ a1 then (oz_loop (fX7_readOrder_b33 a2) oz_fuel ((a2 - 1), 0, a1, v_order)) else (some (0, v_count, v_order))))
def rmX7_readOrder : Room := { frames := 0, cells := 0, slots := 0, locals := 0 }
set_option maxHeartbeats 4000000 in
set_option maxRecDepth 100000 in
theorem tX7_readOrder (l : Launch) (dC : Nat → ClassId) (dI : Nat → Nat → Nat) (cI cZ : ClassId) (q_order q_standing q_this : Nat) (sz : Nat) (v_pulledSet : Int32) (v_count : Int32) (v_order : Nat → Int32) (a1 : Int32) (a2 : Int32) (out : Int32 × Int32 × (Nat → Int32)) (hrun : fX7_readOrder v_count v_order a1 a2 = some out) : Met l yX7_readOrder wsX7_readOrder rmX7_readOrder (va_Pc [.ref q_this, .int a1, .int a2] (fun U => U.heap.size = sz ∧ va_P (dC, dI) vwCl [(q_this, .inr (7, [.ref q_order, .ref q_standing, .int v_count, .int v_pulledSet])), (q_order, .inl (cI, 6, .inl v_order))] U.heap ∧ va_K (dC, dI) vwCl [(cI, .int), (cZ, .boolean)] U ∧ va_D (fun _ => True) [(q_this, .inr (7, [.ref q_order, .ref q_standing, .int v_count, .int v_pulledSet])), (q_order, .inl (cI, 6, .inl v_order))])) (va_Qi (fun (r : Int32) (_ : Unit) => r = out.1) (fun _ t => va_P (dC, dI) vwCl [(q_this, .inr (7, [.ref q_order, .ref q_standing, .int out.2.1, .int v_pulledSet])), (q_order, .inl (cI, 6, .inl out.2.2))] t.heap ∧ va_K (dC, dI) vwCl [(cI, .int), (cZ, .boolean)] t ∧ va_D (va_A [(q_this, .inr (7, [.ref q_order, .ref q_standing, .int v_count, .int v_pulledSet])), (q_order, .inl (cI, 6, .inl v_order))] sz) [(q_this, .inr (7, [.ref q_order, .ref q_standing, .int out.2.1, .int v_pulledSet])), (q_order, .inl (cI, 6, .inl out.2.2))]) (va_A [(q_this, .inr (7, [.ref q_order, .ref q_standing, .int v_count, .int v_pulledSet])), (q_order, .inl (cI, 6, .inl v_order))] sz)) 0 0 (va_A [(q_this, .inr (7, [.ref q_order, .ref q_standing, .int v_count, .int v_pulledSet])), (q_order, .inl (cI, 6, .inl v_order))] sz) := by
  refine Met.ofW (cc := cX7_readOrder) (maxL := 7) (ret := (some .boolean)) (by decide) rfl ?_
  intro p e s m args below meth c s₁ B hml hv
  obtain ⟨rfl, hsz, hP, hK, hD0⟩ := hv
  have hx := B.exec
  have hb := B.bytes
  have hr := B.returns
  have hts := atoms_spec (ws := wsX7_readOrder) B.pre
  have hown : s.vm.findClass RX7 = some m.cls := findClass_of_methodNamed B.named
  have hlocks := B.notSynchronized
  subst hsz
  have hD := hD0.self (sz := s.heap.size)
  generalize hAe : va_A [(q_this, .inr (7, [.ref q_order, .ref q_standing, .int v_count, .int v_pulledSet])), (q_order, .inl (cI, 6, .inl v_order))] s.heap.size = A at hD ⊢
  have hA : ∀ q : Nat, s.heap.size ≤ q → A q := fun q h => by rw [← hAe]; exact Or.inr h
  have hS : va_S A s.heap s.heap [] := va_S.rf
  have hl := lv_entry ([.ref q_this, .int a1, .int a2]) (n := 7) (Nat.le_of_ble_eq_true rfl)
  rw [lg_entry_eq]
  generalize (lg_sl ([.ref q_this, .int a1, .int a2]) ++ List.replicate (7 - (lg_sl ([.ref q_this, .int a1, .int a2])).length) Slot.unset).toArray = ls at hl ⊢
  have hl : lv_has ls 7 [(0, .ref q_this), (1, .int a1), (2, .int a2)] := hl
  unfold fX7_readOrder at hrun
  have hk18 := hts (.fieldLink RX7 18 "LentDrains$Plugs" "count" "I") (by decide +kernel)
  have hiX7 : ∀ w ∈ wsX70, w ∈ wsX7_readOrder := by decide +kernel
  have hk11 := hts (.fieldLink RX7 11 "LentDrains$Plugs" "order" "[I") (by decide +kernel)
  refine oz_genQ (fun Q hQ => ?_)
  refine lv_iload_n hx hb dX7_readOrder_0 rfl (lv_at hl 2 rfl) ?_
  refine lv_iconst (v := 1) hx hb dX7_readOrder_1 (by decide) ?_
  refine lv_icmp_lt (tgt := 16) hx hb dX7_readOrder_2 (by decide) (fun c1 => ?_) (fun c1 => ?_)
  · have hrun := oz_t hrun c1
    refine lv_iconst (v := 0) hx hb dX7_readOrder_16 (by decide) ?_
    have ho9 := Option.some.inj hrun
    subst ho9
    have hP9 := hP.sub (ws' := [(q_this, .inr (7, [.ref q_order, .ref q_standing, .int v_count, .int v_pulledSet])), (q_order, .inl (cI, 6, .inl v_order))]) [0, 1] rfl
    have hD9 := hD.sub (ws' := [(q_this, .inr (7, [.ref q_order, .ref q_standing, .int v_count, .int v_pulledSet])), (q_order, .inl (cI, 6, .inl v_order))]) [0, 1] (by decide) rfl
    rw [hQ]
    exact W.zret (v := 0) (ty := .boolean) hx hb hr rfl (fun t ht hW => ⟨⟨0, (), rfl, rfl, by rw [ht]; exact hP9, va_K.moved hW.alike hK, hD9⟩, hS.F ht⟩) hS.2.2 dX7_readOrder_17
  · have hrun := oz_f hrun c1
    refine lv_iload_n hx hb dX7_readOrder_5 rfl (lv_at hl 2 rfl) ?_
    refine lv_bipush (v := 6) hx hb dX7_readOrder_6 (by decide) ?_
    refine lv_icmp_gt (tgt := 16) hx hb dX7_readOrder_8 (by decide) (fun c2 => ?_) (fun c2 => ?_)
    · have hrun := oz_t hrun c2
      refine lv_iconst (v := 0) hx hb dX7_readOrder_16 (by decide) ?_
      have ho9 := Option.some.inj hrun
      subst ho9
      have hP9 := hP.sub (ws' := [(q_this, .inr (7, [.ref q_order, .ref q_standing, .int v_count, .int v_pulledSet])), (q_order, .inl (cI, 6, .inl v_order))]) [0, 1] rfl
      have hD9 := hD.sub (ws' := [(q_this, .inr (7, [.ref q_order, .ref q_standing, .int v_count, .int v_pulledSet])), (q_order, .inl (cI, 6, .inl v_order))]) [0, 1] (by decide) rfl
      rw [hQ]
      exact W.zret (v := 0) (ty := .boolean) hx hb hr rfl (fun t ht hW => ⟨⟨0, (), rfl, rfl, by rw [ht]; exact hP9, va_K.moved hW.alike hK, hD9⟩, hS.F ht⟩) hS.2.2 dX7_readOrder_17
    · have hrun := oz_f hrun c2
      refine lv_iload_n hx hb dX7_readOrder_11 rfl (lv_at hl 1 rfl) ?_
      refine lv_iconst (v := 1) hx hb dX7_readOrder_12 (by decide) ?_
      refine lv_icmp_ge (tgt := 18) hx hb dX7_readOrder_13 (by decide) (fun c3 => ?_) (fun c3 => ?_)
      · have hrun := oz_t hrun c3
        refine lv_aload_n hx hb dX7_readOrder_18 rfl (lv_at hl 0 rfl) ?_
        refine lv_iload_n hx hb dX7_readOrder_19 rfl (lv_at hl 2 rfl) ?_
        refine va_put (D := (dC, dI)) (ci := 7) (v := .int a2) (ty := .int) (C := RX7) (T := TX7) (N := 4) hx hb hts hiX7 tyX7 tyX7_ok nmX7 hown hK hP hD hS 0 rfl rfl 2 (by decide) hk18 (fun _ h9 => h9) rfl (by decide +kernel) rfl rfl (Nat.le_of_ble_eq_true rfl) dX7_readOrder_20 (fun H locs hP hD hS => ?_)
        have hP : va_P (dC, dI) vwCl [(q_this, .inr (7, [.ref q_order, .ref q_standing, .int a2, .int v_pulledSet])), (q_order, .inl (cI, 6, .inl v_order))] H := hP
        have hD : va_D A [(q_this, .inr (7, [.ref q_order, .ref q_standing, .int a2, .int v_pulledSet])), (q_order, .inl (cI, 6, .inl v_order))] := hD
        refine lv_iload_n hx hb dX7_readOrder_23 rfl (lv_at hl 1 rfl) ?_
        refine lv_istore_n (lv' := [(3, .int a1), (0, .ref q_this), (1, .int a1), (2, .int a2)]) hx hb dX7_readOrder_24 rfl hl (by decide) rfl (fun ls hl => ?_)
        refine lv_iconst (v := 0) hx hb dX7_readOrder_25 (by decide) ?_
        refine lv_istore (lv' := [(4, .int 0), (3, .int a1), (0, .ref q_this), (1, .int a1), (2, .int a2)]) hx hb dX7_readOrder_26 hl (by decide) rfl (fun ls hl => ?_)
        refine lv_iload_n hx hb dX7_readOrder_28 rfl (lv_at hl 4 rfl) ?_
        refine lv_iconst (v := 1) hx hb dX7_readOrder_29 (by decide) ?_
        refine lv_isub hx hb dX7_readOrder_30 ?_
        refine lv_istore (lv' := [(5, .int (a2 - 1)), (4, .int 0), (3, .int a1), (0, .ref q_this), (1, .int a1), (2, .int a2)]) hx hb dX7_readOrder_31 hl (by decide) rfl (fun ls hl => ?_)
        have hL33 : ∀ (n : Nat) (w33 : Int32 × Int32 × Int32 × (Nat → Int32)), oz_loop (fX7_readOrder_b33 a2) n w33 = some out → ∀ (H : Heap) (locs : List Loc) (ls : Array Slot), va_P (dC, dI) vwCl [(q_this, .inr (7, [.ref q_order, .ref q_standing, .int a2, .int v_pulledSet])), (q_order, .inl (cI, 6, .inl w33.2.2.2))] H → va_D A [(q_this, .inr (7, [.ref q_order, .ref q_standing, .int a2, .int v_pulledSet])), (q_order, .inl (cI, 6, .inl w33.2.2.2))] → va_S A s.heap H locs → lv_has ls 7 [(5, .int w33.1), (4, .int w33.2.1), (3, .int w33.2.2.1), (0, .ref q_this), (2, .int a2)] → W p l e (headSpec wsX7_readOrder rmX7_readOrder).room s m (([.ref q_this, .int a1, .int a2] : List Value).toArray) below meth c H locs 0 0 Q (F0 m 33 ls []) := by
          intro n
          induction n with
          | zero => intro w33 h9; exact (oz_zero h9).elim
          | succ n ih =>
            intro w33 h9 H locs ls hP hD hS hl
            obtain ⟨r9, hrun, hnext⟩ := oz_step h9
            unfold fX7_readOrder_b33 at hrun
            refine lv_iload hx hb dX7_readOrder_33 (lv_at hl 0 rfl) ?_
            refine lv_if_lt (tgt := 99) hx hb dX7_readOrder_35 (by decide) (fun c4 => ?_) (fun c4 => ?_)
            · have hrun := oz_t hrun c4
              refine lv_iload_n hx hb dX7_readOrder_99 rfl (lv_at hl 2 rfl) ?_
              refine lv_if_ne (tgt := 107) hx hb dX7_readOrder_100 (by decide) (fun c5 => ?_) (fun c5 => ?_)
              · have hrun := oz_f hrun c5
                refine lv_iconst (v := 0) hx hb dX7_readOrder_107 (by decide) ?_
                have hr9 := Option.some.inj hrun
                subst hr9
                have ho9 : (0, a2, w33.2.2.2) = out := hnext
                subst ho9
                have hP9 := hP.sub (ws' := [(q_this, .inr (7, [.ref q_order, .ref q_standing, .int a2, .int v_pulledSet])), (q_order, .inl (cI, 6, .inl w33.2.2.2))]) [0, 1] rfl
                have hD9 := hD.sub (ws' := [(q_this, .inr (7, [.ref q_order, .ref q_standing, .int a2, .int v_pulledSet])), (q_order, .inl (cI, 6, .inl w33.2.2.2))]) [0, 1] (by decide) rfl
                rw [hQ]
                exact W.zret (v := 0) (ty := .boolean) hx hb hr rfl (fun t ht hW => ⟨⟨0, (), rfl, rfl, by rw [ht]; exact hP9, va_K.moved hW.alike hK, hD9⟩, hS.F ht⟩) hS.2.2 dX7_readOrder_108
              · have hrun := oz_t hrun c5
                refine lv_iconst (v := 1) hx hb dX7_readOrder_103 (by decide) ?_
                refine lv_goto (tgt := 108) hx hb dX7_readOrder_104 (by decide) ?_
                have hr9 := Option.some.inj hrun
                subst hr9
                have ho9 : (1, a2, w33.2.2.2) = out := hnext
                subst ho9
                have hP9 := hP.sub (ws' := [(q_this, .inr (7, [.ref q_order, .ref q_standing, .int a2, .int v_pulledSet])), (q_order, .inl (cI, 6, .inl w33.2.2.2))]) [0, 1] rfl
                have hD9 := hD.sub (ws' := [(q_this, .inr (7, [.ref q_order, .ref q_standing, .int a2, .int v_pulledSet])), (q_order, .inl (cI, 6, .inl w33.2.2.2))]) [0, 1] (by decide) rfl
                rw [hQ]
                exact W.zret (v := 1) (ty := .boolean) hx hb hr rfl (fun t ht hW => ⟨⟨1, (), rfl, rfl, by rw [ht]; exact hP9, va_K.moved hW.alike hK, hD9⟩, hS.F ht⟩) hS.2.2 dX7_readOrder_108
            · have hrun := oz_f hrun c4
              refine lv_iload_n hx hb dX7_readOrder_38 rfl (lv_at hl 2 rfl) ?_
              refine lv_bipush (v := 10) hx hb dX7_readOrder_39 (by decide) ?_
              refine lv_irem hx hb dX7_readOrder_41 (by decide) ?_
              refine lv_iconst (v := 1) hx hb dX7_readOrder_42 (by decide) ?_
              refine lv_isub hx hb dX7_readOrder_43 ?_
              refine lv_istore (lv' := [(6, .int ((w33.2.2.1 - w33.2.2.1 / 10 * 10) - 1)), (5, .int w33.1), (4, .int w33.2.1), (3, .int w33.2.2.1), (0, .ref q_this), (2, .int a2)]) hx hb dX7_readOrder_44 hl (by decide) rfl (fun ls hl => ?_)
              refine lv_iload hx hb dX7_readOrder_46 (lv_at hl 0 rfl) ?_
              refine lv_if_lt (tgt := 68) hx hb dX7_readOrder_48 (by decide) (fun c6 => ?_) (fun c6 => ?_)
              · have hrun := oz_t hrun c6
                refine lv_iconst (v := 0) hx hb dX7_readOrder_68 (by decide) ?_
                have hr9 := Option.some.inj hrun
                subst hr9
                have ho9 : (0, a2, w33.2.2.2) = out := hnext
                subst ho9
                have hP9 := hP.sub (ws' := [(q_this, .inr (7, [.ref q_order, .ref q_standing, .int a2, .int v_pulledSet])), (q_order, .inl (cI, 6, .inl w33.2.2.2))]) [0, 1] rfl
                have hD9 := hD.sub (ws' := [(q_this, .inr (7, [.ref q_order, .ref q_standing, .int a2, .int v_pulledSet])), (q_order, .inl (cI, 6, .inl w33.2.2.2))]) [0, 1] (by decide) rfl
                rw [hQ]
                exact W.zret (v := 0) (ty := .boolean) hx hb hr rfl (fun t ht hW => ⟨⟨0, (), rfl, rfl, by rw [ht]; exact hP9, va_K.moved hW.alike hK, hD9⟩, hS.F ht⟩) hS.2.2 dX7_readOrder_69
              · have hrun := oz_f hrun c6
                refine lv_iload hx hb dX7_readOrder_51 (lv_at hl 0 rfl) ?_
                refine lv_iload_n hx hb dX7_readOrder_53 rfl (lv_at hl 5 rfl) ?_
                refine lv_icmp_ge (tgt := 68) hx hb dX7_readOrder_54 (by decide) (fun c7 => ?_) (fun c7 => ?_)
                · have hrun := oz_t hrun c7
                  refine lv_iconst (v := 0) hx hb dX7_readOrder_68 (by decide) ?_
                  have hr9 := Option.some.inj hrun
                  subst hr9
                  have ho9 : (0, a2, w33.2.2.2) = out := hnext
                  subst ho9
                  have hP9 := hP.sub (ws' := [(q_this, .inr (7, [.ref q_order, .ref q_standing, .int a2, .int v_pulledSet])), (q_order, .inl (cI, 6, .inl w33.2.2.2))]) [0, 1] rfl
                  have hD9 := hD.sub (ws' := [(q_this, .inr (7, [.ref q_order, .ref q_standing, .int a2, .int v_pulledSet])), (q_order, .inl (cI, 6, .inl w33.2.2.2))]) [0, 1] (by decide) rfl
                  rw [hQ]
                  exact W.zret (v := 0) (ty := .boolean) hx hb hr rfl (fun t ht hW => ⟨⟨0, (), rfl, rfl, by rw [ht]; exact hP9, va_K.moved hW.alike hK, hD9⟩, hS.F ht⟩) hS.2.2 dX7_readOrder_69
                · have hrun := oz_f hrun c7
                  refine lv_iload hx hb dX7_readOrder_57 (lv_at hl 2 rfl) ?_
                  refine lv_iload hx hb dX7_readOrder_59 (lv_at hl 0 rfl) ?_
                  refine lv_ishr hx hb dX7_readOrder_61 ?_
                  refine lv_iconst (v := 1) hx hb dX7_readOrder_62 (by decide) ?_
                  refine lv_iand hx hb dX7_readOrder_63 ?_
                  refine lv_iconst (v := 1) hx hb dX7_readOrder_64 (by decide) ?_
                  refine lv_icmp_ne (tgt := 70) hx hb dX7_readOrder_65 (by decide) (fun c8 => ?_) (fun c8 => ?_)
                  · have hrun := oz_f hrun c8
                    refine lv_iload hx hb dX7_readOrder_70 (lv_at hl 2 rfl) ?_
                    refine lv_iconst (v := 1) hx hb dX7_readOrder_72 (by decide) ?_
                    refine lv_iload hx hb dX7_readOrder_73 (lv_at hl 0 rfl) ?_
                    refine lv_ishl hx hb dX7_readOrder_75 ?_
                    refine lv_ior hx hb dX7_readOrder_76 ?_
                    refine lv_istore (lv' := [(4, .int (w33.2.1 ||| (1 <<< (((w33.2.2.1 - w33.2.2.1 / 10 * 10) - 1) &&& 31)))), (6, .int ((w33.2.2.1 - w33.2.2.1 / 10 * 10) - 1)), (5, .int w33.1), (3, .int w33.2.2.1), (0, .ref q_this), (2, .int a2)]) hx hb dX7_readOrder_77 hl (by decide) rfl (fun ls hl => ?_)
                    refine lv_aload_n hx hb dX7_readOrder_79 rfl (lv_at hl 4 rfl) ?_
                    refine va_get (D := (dC, dI)) (ci := 7) (v := .ref q_order) (C := RX7) (T := TX7) (N := 4) hx hb hts hiX7 hown hK hP 0 rfl rfl 0 (by decide) hk11 (fun _ h9 => h9) rfl dX7_readOrder_80 ?_
                    refine lv_iload hx hb dX7_readOrder_83 (lv_at hl 2 rfl) ?_
                    refine lv_iload hx hb dX7_readOrder_85 (lv_at hl 1 rfl) ?_
                    obtain ⟨c9, hrun⟩ := oz_chk hrun
                    refine va_iast hx hb hK hP hD hS 1 0 rfl rfl c9 dX7_readOrder_87 (fun H locs hP hD hS => ?_)
                    have hP : va_P (dC, dI) vwCl [(q_this, .inr (7, [.ref q_order, .ref q_standing, .int a2, .int v_pulledSet])), (q_order, .inl (cI, 6, .inl (upd w33.2.2.2 (Int32.toNatClampNeg w33.1) ((w33.2.2.1 - w33.2.2.1 / 10 * 10) - 1))))] H := hP
                    have hD : va_D A [(q_this, .inr (7, [.ref q_order, .ref q_standing, .int a2, .int v_pulledSet])), (q_order, .inl (cI, 6, .inl (upd w33.2.2.2 (Int32.toNatClampNeg w33.1) ((w33.2.2.1 - w33.2.2.1 / 10 * 10) - 1))))] := hD
                    refine lv_iload_n hx hb dX7_readOrder_88 rfl (lv_at hl 3 rfl) ?_
                    refine lv_bipush (v := 10) hx hb dX7_readOrder_89 (by decide) ?_
                    refine lv_idiv hx hb dX7_readOrder_91 (by decide) ?_
                    refine lv_istore_n (lv' := [(3, .int (w33.2.2.1 / 10)), (4, .int (w33.2.1 ||| (1 <<< (((w33.2.2.1 - w33.2.2.1 / 10 * 10) - 1) &&& 31)))), (6, .int ((w33.2.2.1 - w33.2.2.1 / 10 * 10) - 1)), (5, .int w33.1), (0, .ref q_this), (2, .int a2)]) hx hb dX7_readOrder_92 rfl hl (by decide) rfl (fun ls hl => ?_)
                    refine lv_iinc (v := (w33.1 + (-1))) (lv' := [(5, .int (w33.1 + (-1))), (3, .int (w33.2.2.1 / 10)), (4, .int (w33.2.1 ||| (1 <<< (((w33.2.2.1 - w33.2.2.1 / 10 * 10) - 1) &&& 31)))), (6, .int ((w33.2.2.1 - w33.2.2.1 / 10 * 10) - 1)), (0, .ref q_this), (2, .int a2)]) hx hb dX7_readOrder_93 hl (k := 3) rfl rfl (by decide) rfl (fun ls hl => ?_)
                    refine lv_goto (tgt := 33) hx hb dX7_readOrder_96 (by decide) ?_
                    have hr9 := Option.some.inj hrun
                    subst hr9
                    exact ih ((w33.1 + (-1)), (w33.2.1 ||| (1 <<< (((w33.2.2.1 - w33.2.2.1 / 10 * 10) - 1) &&& 31))), (w33.2.2.1 / 10), (upd w33.2.2.2 (Int32.toNatClampNeg w33.1) ((w33.2.2.1 - w33.2.2.1 / 10 * 10) - 1))) hnext _ _ _ (hP.sub [0, 1] rfl) (hD.sub [0, 1] (by decide) rfl) hS (lv_sub hl [0, 2, 1, 4, 5] rfl)
                  · have hrun := oz_t hrun c8
                    refine lv_iconst (v := 0) hx hb dX7_readOrder_68 (by decide) ?_
                    have hr9 := Option.some.inj hrun
                    subst hr9
                    have ho9 : (0, a2, w33.2.2.2) = out := hnext
                    subst ho9
                    have hP9 := hP.sub (ws' := [(q_this, .inr (7, [.ref q_order, .ref q_standing, .int a2, .int v_pulledSet])), (q_order, .inl (cI, 6, .inl w33.2.2.2))]) [0, 1] rfl
                    have hD9 := hD.sub (ws' := [(q_this, .inr (7, [.ref q_order, .ref q_standing, .int a2, .int v_pulledSet])), (q_order, .inl (cI, 6, .inl w33.2.2.2))]) [0, 1] (by decide) rfl
                    rw [hQ]
                    exact W.zret (v := 0) (ty := .boolean) hx hb hr rfl (fun t ht hW => ⟨⟨0, (), rfl, rfl, by rw [ht]; exact hP9, va_K.moved hW.alike hK, hD9⟩, hS.F ht⟩) hS.2.2 dX7_readOrder_69
        exact hL33 oz_fuel ((a2 - 1), 0, a1, v_order) hrun _ _ _ (hP.sub [0, 1] rfl) (hD.sub [0, 1] (by decide) rfl) hS (lv_sub hl [0, 1, 2, 3, 5] rfl)
      · have hrun := oz_f hrun c3
        refine lv_iconst (v := 0) hx hb dX7_readOrder_16 (by decide) ?_
        have ho9 := Option.some.inj hrun
        subst ho9
        have hP9 := hP.sub (ws' := [(q_this, .inr (7, [.ref q_order, .ref q_standing, .int v_count, .int v_pulledSet])), (q_order, .inl (cI, 6, .inl v_order))]) [0, 1] rfl
        have hD9 := hD.sub (ws' := [(q_this, .inr (7, [.ref q_order, .ref q_standing, .int v_count, .int v_pulledSet])), (q_order, .inl (cI, 6, .inl v_order))]) [0, 1] (by decide) rfl
        rw [hQ]
        exact W.zret (v := 0) (ty := .boolean) hx hb hr rfl (fun t ht hW => ⟨⟨0, (), rfl, rfl, by rw [ht]; exact hP9, va_K.moved hW.alike hK, hD9⟩, hS.F ht⟩) hS.2.2 dX7_readOrder_17
def fX7_pull_b42 (v_p1_houses : Int32) (v_p1_drain : Nat → Int32) (k42_1 : Int32) (w42 : Int32 × Int32) : Option ((Int32 × Int32) ⊕ (Int32 × Int32)) :=
  if 8 ≤ w42.1 then (some (.inr (w42.1, w42.2))) else (Option.bind (fX6_has v_p1_houses w42.2) (fun y52 => if y52 = 0 then (some (.inr (w42.1, w42.2))) else (if ((k42_1 >>> (w42.2 &&& 31)) &&& 1) = 1 then (if (w42.2 < 0 ∨ 8 ≤ Int32.toNatClampNeg w42.2) then none else some (.inl ((w42.1 + 1), (v_p1_drain (Int32.toNatClampNeg w42.2))))) else (some (.inr (w42.1, w42.2))))))
def fX7_pull (v_pulledSet : Int32) (v_standing : Nat → Int32) (v_p1_houses : Int32) (v_p1_drain : Nat → Int32) (a2 : Int32) : Option (Int32 × Int32 × (Nat → Int32)) :=
  Option.bind (fX6_has v_p1_houses a2) (fun y2 => if y2 = 0 then (some (0, v_pulledSet, v_standing)) else (if (a2 < 0 ∨ 8 ≤ Int32.toNatClampNeg a2) then none else Option.bind (oz_loop (fX7_pull_b42 v_p1_houses v_p1_drain (v_pulledSet ||| (1 <<< (a2 &&& 31)))) oz_fuel (0, a2)) (fun o42 => Option.bind (fX6_has v_p1_houses o42.2) (fun y89 => if y89 = 0 then (some (0, (v_pulledSet ||| (1 <<< (a2 &&& 31))), (upd v_standing (Int32.toNatClampNeg a2) 0))) else (if (o42.2 < 0 ∨ 8 ≤ Int32.toNatClampNeg o42.2) then none else some (((upd (upd v_standing (Int32.toNatClampNeg a2) 0) (Int32.toNatClampNeg o42.2) (((upd v_standing (Int32.toNatClampNeg a2) 0) (Int32.toNatClampNeg o42.2)) + (v_standing (Int32.toNatClampNeg a2)))) (Int32.toNatClampNeg o42.2)), (v_pulledSet ||| (1 <<< (a2 &&& 31))), (upd (upd v_standing (Int32.toNatClampNeg a2) 0) (Int32.toNatClampNeg o42.2) (((upd v_standing (Int32.toNatClampNeg a2) 0) (Int32.toNatClampNeg o42.2)) + (v_standing (Int32.toNatClampNeg a2))))))))))
def rmX7_pull : Room := { frames := 1, cells := 0, slots := 0, locals := 21 }
set_option maxHeartbeats 4000000 in
set_option maxRecDepth 100000 in
theorem tX7_pull (l : Launch) (dC : Nat → ClassId) (dI : Nat → Nat → Nat) (cI cZ : ClassId) (q_order q_p1 q_p1_above q_p1_daily q_p1_drain q_p1_room q_standing q_this : Nat) (sz : Nat) (v_count : Int32) (v_p1_stands : Int32) (v_p1_lent : Int32) (v_p1_pipe : Int32) (v_pulledSet : Int32) (v_standing : Nat → Int32) (v_p1_houses : Int32) (v_p1_drain : Nat → Int32) (a2 : Int32) (out : Int32 × Int32 × (Nat → Int32)) (hrun : fX7_pull v_pulledSet v_standing v_p1_houses v_p1_drain a2 = some out) : Met l yX7_pull wsX7_pull rmX7_pull (va_Pc [.ref q_this, .ref q_p1, .int a2] (fun U => U.heap.size = sz ∧ va_P (dC, dI) vwCl [(q_this, .inr (7, [.ref q_order, .ref q_standing, .int v_count, .int v_pulledSet])), (q_standing, .inl (cI, 8, .inl v_standing)), (q_p1, .inr (6, [.int v_p1_stands, .int v_p1_lent, .int v_p1_pipe, .int v_p1_houses, .ref q_p1_room, .ref q_p1_daily, .ref q_p1_drain, .ref q_p1_above])), (q_p1_drain, .inl (cI, 8, .inl v_p1_drain))] U.heap ∧ va_K (dC, dI) vwCl [(cI, .int), (cZ, .boolean)] U ∧ va_D (fun _ => True) [(q_this, .inr (7, [.ref q_order, .ref q_standing, .int v_count, .int v_pulledSet])), (q_standing, .inl (cI, 8, .inl v_standing)), (q_p1, .inr (6, [.int v_p1_stands, .int v_p1_lent, .int v_p1_pipe, .int v_p1_houses, .ref q_p1_room, .ref q_p1_daily, .ref q_p1_drain, .ref q_p1_above])), (q_p1_drain, .inl (cI, 8, .inl v_p1_drain))])) (va_Qi (fun (r : Int32) (_ : Unit) => r = out.1) (fun _ t => va_P (dC, dI) vwCl [(q_this, .inr (7, [.ref q_order, .ref q_standing, .int v_count, .int out.2.1])), (q_standing, .inl (cI, 8, .inl out.2.2)), (q_p1, .inr (6, [.int v_p1_stands, .int v_p1_lent, .int v_p1_pipe, .int v_p1_houses, .ref q_p1_room, .ref q_p1_daily, .ref q_p1_drain, .ref q_p1_above])), (q_p1_drain, .inl (cI, 8, .inl v_p1_drain))] t.heap ∧ va_K (dC, dI) vwCl [(cI, .int), (cZ, .boolean)] t ∧ va_D (va_A [(q_this, .inr (7, [.ref q_order, .ref q_standing, .int v_count, .int v_pulledSet])), (q_standing, .inl (cI, 8, .inl v_standing)), (q_p1, .inr (6, [.int v_p1_stands, .int v_p1_lent, .int v_p1_pipe, .int v_p1_houses, .ref q_p1_room, .ref q_p1_daily, .ref q_p1_drain, .ref q_p1_above])), (q_p1_drain, .inl (cI, 8, .inl v_p1_drain))] sz) [(q_this, .inr (7, [.ref q_order, .ref q_standing, .int v_count, .int out.2.1])), (q_standing, .inl (cI, 8, .inl out.2.2)), (q_p1, .inr (6, [.int v_p1_stands, .int v_p1_lent, .int v_p1_pipe, .int v_p1_houses, .ref q_p1_room, .ref q_p1_daily, .ref q_p1_drain, .ref q_p1_above])), (q_p1_drain, .inl (cI, 8, .inl v_p1_drain))]) (va_A [(q_this, .inr (7, [.ref q_order, .ref q_standing, .int v_count, .int v_pulledSet])), (q_standing, .inl (cI, 8, .inl v_standing)), (q_p1, .inr (6, [.int v_p1_stands, .int v_p1_lent, .int v_p1_pipe, .int v_p1_houses, .ref q_p1_room, .ref q_p1_daily, .ref q_p1_drain, .ref q_p1_above])), (q_p1_drain, .inl (cI, 8, .inl v_p1_drain))] sz)) 0 0 (va_A [(q_this, .inr (7, [.ref q_order, .ref q_standing, .int v_count, .int v_pulledSet])), (q_standing, .inl (cI, 8, .inl v_standing)), (q_p1, .inr (6, [.int v_p1_stands, .int v_p1_lent, .int v_p1_pipe, .int v_p1_houses, .ref q_p1_room, .ref q_p1_daily, .ref q_p1_drain, .ref q_p1_above])), (q_p1_drain, .inl (cI, 8, .inl v_p1_drain))] sz) := by
  refine Met.ofW (cc := cX7_pull) (maxL := 6) (ret := (some .int)) (by decide) rfl ?_
  intro p e s m args below meth c s₁ B hml hv
  obtain ⟨rfl, hsz, hP, hK, hD0⟩ := hv
  have hx := B.exec
  have hb := B.bytes
  have hr := B.returns
  have hts := atoms_spec (ws := wsX7_pull) B.pre
  have hown : s.vm.findClass RX7 = some m.cls := findClass_of_methodNamed B.named
  have hlocks := B.notSynchronized
  subst hsz
  have hD := hD0.self (sz := s.heap.size)
  generalize hAe : va_A [(q_this, .inr (7, [.ref q_order, .ref q_standing, .int v_count, .int v_pulledSet])), (q_standing, .inl (cI, 8, .inl v_standing)), (q_p1, .inr (6, [.int v_p1_stands, .int v_p1_lent, .int v_p1_pipe, .int v_p1_houses, .ref q_p1_room, .ref q_p1_daily, .ref q_p1_drain, .ref q_p1_above])), (q_p1_drain, .inl (cI, 8, .inl v_p1_drain))] s.heap.size = A at hD ⊢
  have hA : ∀ q : Nat, s.heap.size ≤ q → A q := fun q h => by rw [← hAe]; exact Or.inr h
  have hS : va_S A s.heap s.heap [] := va_S.rf
  have hl := lv_entry ([.ref q_this, .ref q_p1, .int a2]) (n := 6) (Nat.le_of_ble_eq_true rfl)
  rw [lg_entry_eq]
  generalize (lg_sl ([.ref q_this, .ref q_p1, .int a2]) ++ List.replicate (6 - (lg_sl ([.ref q_this, .ref q_p1, .int a2])).length) Slot.unset).toArray = ls at hl ⊢
  have hl : lv_has ls 6 [(0, .ref q_this), (1, .ref q_p1), (2, .int a2)] := hl
  unfold fX7_pull at hrun
  have hk22 := hts (.fieldLink RX7 22 "LentDrains$Plugs" "pulledSet" "I") (by decide +kernel)
  have hiX7 : ∀ w ∈ wsX70, w ∈ wsX7_pull := by decide +kernel
  have hk15 := hts (.fieldLink RX7 15 "LentDrains$Plugs" "standing" "[I") (by decide +kernel)
  have hk49 := hts (.fieldLink RX7 49 "LentDrains$Plan" "drain" "[I") (by decide +kernel)
  have hiX6 : ∀ w ∈ wsX60, w ∈ wsX7_pull := by decide +kernel
  refine oz_genQ (fun Q hQ => ?_)
  refine lv_aload_n hx hb dX7_pull_0 rfl (lv_at hl 1 rfl) ?_
  refine lv_iload_n hx hb dX7_pull_1 rfl (lv_at hl 2 rfl) ?_
  obtain ⟨y2, hc2, hrun⟩ := oz_bind hrun
  have hPc := hP.sub (ws' := [(q_p1, .inr (6, [.int v_p1_stands, .int v_p1_lent, .int v_p1_pipe, .int v_p1_houses, .ref q_p1_room, .ref q_p1_daily, .ref q_p1_drain, .ref q_p1_above]))]) [2] rfl
  have hDc := hD.sub (ws' := [(q_p1, .inr (6, [.int v_p1_stands, .int v_p1_lent, .int v_p1_pipe, .int v_p1_houses, .ref q_p1_room, .ref q_p1_daily, .ref q_p1_drain, .ref q_p1_above]))]) [2] (by decide) rfl
  have hFc := va_free (wc := [(q_p1, .inr (6, [.int v_p1_stands, .int v_p1_lent, .int v_p1_pipe, .int v_p1_houses, .ref q_p1_room, .ref q_p1_daily, .ref q_p1_drain, .ref q_p1_above]))]) hD hS hA [2] rfl
  refine va_calli (va_runV (As := [.int a2]) (rest := []) ⟨hx, hb, hml, hown, hts⟩ (tX6_has l dC dI cI cZ q_p1_above q_p1_daily q_p1_drain q_p1_room q_p1 s.heap.size v_p1_stands v_p1_lent v_p1_pipe v_p1_houses a2 y2 hc2) (cwV 1 hts gX7_pull_X6_has rfl rfl rfl (by decide +kernel) ⟨Nat.le_of_ble_eq_true rfl, Nat.le_of_ble_eq_true rfl⟩) ⟨fun a U g mk q => by obtain ⟨q0, q1, qP, qK, qD⟩ := q; exact ⟨q0, q1, qP, va_K.moved (u := U) (U := U.calling g mk a) (Vm.Alike.refl U.vm) qK, qD⟩, va_recv hK hPc (ci := 6) (q0 := 0) rfl rfl, fun U hU hW => ⟨rfl, by rw [hU], by rw [hU]; exact hPc, va_K.moved hW.alike hK, hDc.weaken (fun _ _ _ _ => trivial)⟩⟩ rfl rfl hl.1 rfl (lv_room (Nat.le_of_ble_eq_true rfl)) dX7_pull_2 ⟨Nat.le_of_ble_eq_true rfl, Nat.le_of_ble_eq_true rfl⟩) hS (fun q _ h => hFc q h) hFc (fun r2 u9 t9 H1 locs ht9 hvm9 hw9 hB9 hz9 hkk9 hS => ?_)
  have hw9 : y2 = r2 := hw9.symm
  subst hw9
  obtain ⟨hP9, hK9, hD9⟩ := hB9
  rw [ht9] at hP9
  obtain ⟨hP, hD⟩ := va_join (wr := [(q_this, .inr (7, [.ref q_order, .ref q_standing, .int v_count, .int v_pulledSet])), (q_standing, .inl (cI, 8, .inl v_standing)), (q_p1_drain, .inl (cI, 8, .inl v_p1_drain))]) (w1 := [(q_p1, .inr (6, [.int v_p1_stands, .int v_p1_lent, .int v_p1_pipe, .int v_p1_houses, .ref q_p1_room, .ref q_p1_daily, .ref q_p1_drain, .ref q_p1_above]))]) hP hD [2] [0, 1, 3] rfl rfl (by decide) (by decide) hkk9 hFc hP9 hD9
  generalize H1 = H at hP hS ⊢
  have hP : va_P (dC, dI) vwCl [(q_this, .inr (7, [.ref q_order, .ref q_standing, .int v_count, .int v_pulledSet])), (q_standing, .inl (cI, 8, .inl v_standing)), (q_p1_drain, .inl (cI, 8, .inl v_p1_drain)), (q_p1, .inr (6, [.int v_p1_stands, .int v_p1_lent, .int v_p1_pipe, .int v_p1_houses, .ref q_p1_room, .ref q_p1_daily, .ref q_p1_drain, .ref q_p1_above]))] H := hP
  have hD : va_D A [(q_this, .inr (7, [.ref q_order, .ref q_standing, .int v_count, .int v_pulledSet])), (q_standing, .inl (cI, 8, .inl v_standing)), (q_p1_drain, .inl (cI, 8, .inl v_p1_drain)), (q_p1, .inr (6, [.int v_p1_stands, .int v_p1_lent, .int v_p1_pipe, .int v_p1_houses, .ref q_p1_room, .ref q_p1_daily, .ref q_p1_drain, .ref q_p1_above]))] := hD
  refine lv_if_ne (tgt := 10) hx hb dX7_pull_5 (by decide) (fun c1 => ?_) (fun c1 => ?_)
  · have hrun := oz_f hrun c1
    refine lv_aload_n hx hb dX7_pull_10 rfl (lv_at hl 0 rfl) ?_
    refine lv_dup hx hb dX7_pull_11 rfl ?_
    refine va_get (D := (dC, dI)) (ci := 7) (v := .int v_pulledSet) (C := RX7) (T := TX7) (N := 4) hx hb hts hiX7 hown hK hP 0 rfl rfl 3 (by decide) hk22 (fun _ h9 => h9) rfl dX7_pull_12 ?_
    refine lv_iconst (v := 1) hx hb dX7_pull_15 (by decide) ?_
    refine lv_iload_n hx hb dX7_pull_16 rfl (lv_at hl 2 rfl) ?_
    refine lv_ishl hx hb dX7_pull_17 ?_
    refine lv_ior hx hb dX7_pull_18 ?_
    refine va_put (D := (dC, dI)) (ci := 7) (v := .int (v_pulledSet ||| (1 <<< (a2 &&& 31)))) (ty := .int) (C := RX7) (T := TX7) (N := 4) hx hb hts hiX7 tyX7 tyX7_ok nmX7 hown hK hP hD hS 0 rfl rfl 3 (by decide) hk22 (fun _ h9 => h9) rfl (by decide +kernel) rfl rfl (Nat.le_of_ble_eq_true rfl) dX7_pull_19 (fun H locs hP hD hS => ?_)
    have hP : va_P (dC, dI) vwCl [(q_this, .inr (7, [.ref q_order, .ref q_standing, .int v_count, .int (v_pulledSet ||| (1 <<< (a2 &&& 31)))])), (q_standing, .inl (cI, 8, .inl v_standing)), (q_p1_drain, .inl (cI, 8, .inl v_p1_drain)), (q_p1, .inr (6, [.int v_p1_stands, .int v_p1_lent, .int v_p1_pipe, .int v_p1_houses, .ref q_p1_room, .ref q_p1_daily, .ref q_p1_drain, .ref q_p1_above]))] H := hP
    have hD : va_D A [(q_this, .inr (7, [.ref q_order, .ref q_standing, .int v_count, .int (v_pulledSet ||| (1 <<< (a2 &&& 31)))])), (q_standing, .inl (cI, 8, .inl v_standing)), (q_p1_drain, .inl (cI, 8, .inl v_p1_drain)), (q_p1, .inr (6, [.int v_p1_stands, .int v_p1_lent, .int v_p1_pipe, .int v_p1_houses, .ref q_p1_room, .ref q_p1_daily, .ref q_p1_drain, .ref q_p1_above]))] := hD
    refine lv_aload_n hx hb dX7_pull_22 rfl (lv_at hl 0 rfl) ?_
    refine va_get (D := (dC, dI)) (ci := 7) (v := .ref q_standing) (C := RX7) (T := TX7) (N := 4) hx hb hts hiX7 hown hK hP 0 rfl rfl 1 (by decide) hk15 (fun _ h9 => h9) rfl dX7_pull_23 ?_
    refine lv_iload_n hx hb dX7_pull_26 rfl (lv_at hl 2 rfl) ?_
    obtain ⟨c2, hrun⟩ := oz_chk hrun
    refine va_iald hx hb hK hP 1 0 rfl rfl c2 dX7_pull_27 ?_
    refine lv_istore_n (lv' := [(3, .int (v_standing (Int32.toNatClampNeg a2))), (0, .ref q_this), (1, .ref q_p1), (2, .int a2)]) hx hb dX7_pull_28 rfl hl (by decide) rfl (fun ls hl => ?_)
    refine lv_aload_n hx hb dX7_pull_29 rfl (lv_at hl 1 rfl) ?_
    refine va_get (D := (dC, dI)) (ci := 7) (v := .ref q_standing) (C := RX7) (T := TX7) (N := 4) hx hb hts hiX7 hown hK hP 0 rfl rfl 1 (by decide) hk15 (fun _ h9 => h9) rfl dX7_pull_30 ?_
    refine lv_iload_n hx hb dX7_pull_33 rfl (lv_at hl 3 rfl) ?_
    refine lv_iconst (v := 0) hx hb dX7_pull_34 (by decide) ?_
    refine va_iast hx hb hK hP hD hS 1 0 rfl rfl c2 dX7_pull_35 (fun H locs hP hD hS => ?_)
    have hP : va_P (dC, dI) vwCl [(q_this, .inr (7, [.ref q_order, .ref q_standing, .int v_count, .int (v_pulledSet ||| (1 <<< (a2 &&& 31)))])), (q_standing, .inl (cI, 8, .inl (upd v_standing (Int32.toNatClampNeg a2) 0))), (q_p1_drain, .inl (cI, 8, .inl v_p1_drain)), (q_p1, .inr (6, [.int v_p1_stands, .int v_p1_lent, .int v_p1_pipe, .int v_p1_houses, .ref q_p1_room, .ref q_p1_daily, .ref q_p1_drain, .ref q_p1_above]))] H := hP
    have hD : va_D A [(q_this, .inr (7, [.ref q_order, .ref q_standing, .int v_count, .int (v_pulledSet ||| (1 <<< (a2 &&& 31)))])), (q_standing, .inl (cI, 8, .inl (upd v_standing (Int32.toNatClampNeg a2) 0))), (q_p1_drain, .inl (cI, 8, .inl v_p1_drain)), (q_p1, .inr (6, [.int v_p1_stands, .int v_p1_lent, .int v_p1_pipe, .int v_p1_houses, .ref q_p1_room, .ref q_p1_daily, .ref q_p1_drain, .ref q_p1_above]))] := hD
    refine lv_iload_n hx hb dX7_pull_36 rfl (lv_at hl 3 rfl) ?_
    refine lv_istore (lv' := [(4, .int a2), (3, .int (v_standing (Int32.toNatClampNeg a2))), (0, .ref q_this), (1, .ref q_p1), (2, .int a2)]) hx hb dX7_pull_37 hl (by decide) rfl (fun ls hl => ?_)
    refine lv_iconst (v := 0) hx hb dX7_pull_39 (by decide) ?_
    refine lv_istore (lv' := [(5, .int 0), (4, .int a2), (3, .int (v_standing (Int32.toNatClampNeg a2))), (0, .ref q_this), (1, .ref q_p1), (2, .int a2)]) hx hb dX7_pull_40 hl (by decide) rfl (fun ls hl => ?_)
    obtain ⟨o42, hlp42, hrun⟩ := oz_bind hrun
    have hL42 : ∀ (k42_0 : Int32) (k42_1 : Int32) (n : Nat) (w42 : Int32 × Int32) (o42 : Int32 × Int32), oz_loop (fX7_pull_b42 v_p1_houses v_p1_drain k42_1) n w42 = some o42 → (∀ (H : Heap) (locs : List Loc) (ls : Array Slot), va_P (dC, dI) vwCl [(q_this, .inr (7, [.ref q_order, .ref q_standing, .int v_count, .int k42_1])), (q_standing, .inl (cI, 8, .inl (upd v_standing (Int32.toNatClampNeg a2) 0))), (q_p1, .inr (6, [.int v_p1_stands, .int v_p1_lent, .int v_p1_pipe, .int v_p1_houses, .ref q_p1_room, .ref q_p1_daily, .ref q_p1_drain, .ref q_p1_above])), (q_p1_drain, .inl (cI, 8, .inl v_p1_drain))] H → va_D A [(q_this, .inr (7, [.ref q_order, .ref q_standing, .int v_count, .int k42_1])), (q_standing, .inl (cI, 8, .inl (upd v_standing (Int32.toNatClampNeg a2) 0))), (q_p1, .inr (6, [.int v_p1_stands, .int v_p1_lent, .int v_p1_pipe, .int v_p1_houses, .ref q_p1_room, .ref q_p1_daily, .ref q_p1_drain, .ref q_p1_above])), (q_p1_drain, .inl (cI, 8, .inl v_p1_drain))] → va_S A s.heap H locs → lv_has ls 6 [(5, .int o42.1), (4, .int o42.2), (3, .int k42_0), (0, .ref q_this), (1, .ref q_p1)] → W p l e (headSpec wsX7_pull rmX7_pull).room s m (([.ref q_this, .ref q_p1, .int a2] : List Value).toArray) below meth c H locs 0 0 Q (F0 m 86 ls [])) → ∀ (H : Heap) (locs : List Loc) (ls : Array Slot), va_P (dC, dI) vwCl [(q_this, .inr (7, [.ref q_order, .ref q_standing, .int v_count, .int k42_1])), (q_standing, .inl (cI, 8, .inl (upd v_standing (Int32.toNatClampNeg a2) 0))), (q_p1, .inr (6, [.int v_p1_stands, .int v_p1_lent, .int v_p1_pipe, .int v_p1_houses, .ref q_p1_room, .ref q_p1_daily, .ref q_p1_drain, .ref q_p1_above])), (q_p1_drain, .inl (cI, 8, .inl v_p1_drain))] H → va_D A [(q_this, .inr (7, [.ref q_order, .ref q_standing, .int v_count, .int k42_1])), (q_standing, .inl (cI, 8, .inl (upd v_standing (Int32.toNatClampNeg a2) 0))), (q_p1, .inr (6, [.int v_p1_stands, .int v_p1_lent, .int v_p1_pipe, .int v_p1_houses, .ref q_p1_room, .ref q_p1_daily, .ref q_p1_drain, .ref q_p1_above])), (q_p1_drain, .inl (cI, 8, .inl v_p1_drain))] → va_S A s.heap H locs → lv_has ls 6 [(5, .int w42.1), (4, .int w42.2), (3, .int k42_0), (0, .ref q_this), (1, .ref q_p1)] → W p l e (headSpec wsX7_pull rmX7_pull).room s m (([.ref q_this, .ref q_p1, .int a2] : List Value).toArray) below meth c H locs 0 0 Q (F0 m 42 ls []) := by
      intro k42_0 k42_1 n
      induction n with
      | zero => intro w42 o42 h9; exact (oz_zero h9).elim
      | succ n ih =>
        intro w42 o42 h9 hexit H locs ls hP hD hS hl
        obtain ⟨r9, hrun, hnext⟩ := oz_step h9
        unfold fX7_pull_b42 at hrun
        refine lv_iload hx hb dX7_pull_42 (lv_at hl 0 rfl) ?_
        refine lv_bipush (v := 8) hx hb dX7_pull_44 (by decide) ?_
        refine lv_icmp_ge (tgt := 86) hx hb dX7_pull_46 (by decide) (fun c3 => ?_) (fun c3 => ?_)
        · have hrun := oz_t hrun c3
          have hr9 := Option.some.inj hrun
          subst hr9
          have ho9 : (w42.1, w42.2) = o42 := hnext
          subst ho9
          exact hexit _ _ _ (hP.sub [0, 1, 2, 3] rfl) (hD.sub [0, 1, 2, 3] (by decide) rfl) hS (lv_sub hl [0, 1, 2, 3, 4] rfl)
        · have hrun := oz_f hrun c3
          refine lv_aload_n hx hb dX7_pull_49 rfl (lv_at hl 4 rfl) ?_
          refine lv_iload hx hb dX7_pull_50 (lv_at hl 1 rfl) ?_
          obtain ⟨y52, hc52, hrun⟩ := oz_bind hrun
          have hPc := hP.sub (ws' := [(q_p1, .inr (6, [.int v_p1_stands, .int v_p1_lent, .int v_p1_pipe, .int v_p1_houses, .ref q_p1_room, .ref q_p1_daily, .ref q_p1_drain, .ref q_p1_above]))]) [2] rfl
          have hDc := hD.sub (ws' := [(q_p1, .inr (6, [.int v_p1_stands, .int v_p1_lent, .int v_p1_pipe, .int v_p1_houses, .ref q_p1_room, .ref q_p1_daily, .ref q_p1_drain, .ref q_p1_above]))]) [2] (by decide) rfl
          have hFc := va_free (wc := [(q_p1, .inr (6, [.int v_p1_stands, .int v_p1_lent, .int v_p1_pipe, .int v_p1_houses, .ref q_p1_room, .ref q_p1_daily, .ref q_p1_drain, .ref q_p1_above]))]) hD hS hA [2] rfl
          refine va_calli (va_runV (As := [.int w42.2]) (rest := []) ⟨hx, hb, hml, hown, hts⟩ (tX6_has l dC dI cI cZ q_p1_above q_p1_daily q_p1_drain q_p1_room q_p1 H.size v_p1_stands v_p1_lent v_p1_pipe v_p1_houses w42.2 y52 hc52) (cwV 1 hts gX7_pull_X6_has rfl rfl rfl (by decide +kernel) ⟨Nat.le_of_ble_eq_true rfl, Nat.le_of_ble_eq_true rfl⟩) ⟨fun a U g mk q => by obtain ⟨q0, q1, qP, qK, qD⟩ := q; exact ⟨q0, q1, qP, va_K.moved (u := U) (U := U.calling g mk a) (Vm.Alike.refl U.vm) qK, qD⟩, va_recv hK hPc (ci := 6) (q0 := 0) rfl rfl, fun U hU hW => ⟨rfl, by rw [hU], by rw [hU]; exact hPc, va_K.moved hW.alike hK, hDc.weaken (fun _ _ _ _ => trivial)⟩⟩ rfl rfl hl.1 rfl (lv_room (Nat.le_of_ble_eq_true rfl)) dX7_pull_52 ⟨Nat.le_of_ble_eq_true rfl, Nat.le_of_ble_eq_true rfl⟩) hS (fun q _ h => hFc q h) hFc (fun r52 u9 t9 H1 locs ht9 hvm9 hw9 hB9 hz9 hkk9 hS => ?_)
          have hw9 : y52 = r52 := hw9.symm
          subst hw9
          obtain ⟨hP9, hK9, hD9⟩ := hB9
          rw [ht9] at hP9
          obtain ⟨hP, hD⟩ := va_join (wr := [(q_this, .inr (7, [.ref q_order, .ref q_standing, .int v_count, .int k42_1])), (q_standing, .inl (cI, 8, .inl (upd v_standing (Int32.toNatClampNeg a2) 0))), (q_p1_drain, .inl (cI, 8, .inl v_p1_drain))]) (w1 := [(q_p1, .inr (6, [.int v_p1_stands, .int v_p1_lent, .int v_p1_pipe, .int v_p1_houses, .ref q_p1_room, .ref q_p1_daily, .ref q_p1_drain, .ref q_p1_above]))]) hP hD [2] [0, 1, 3] rfl rfl (by decide) (by decide) hkk9 hFc hP9 hD9
          generalize H1 = H at hP hS ⊢
          have hP : va_P (dC, dI) vwCl [(q_this, .inr (7, [.ref q_order, .ref q_standing, .int v_count, .int k42_1])), (q_standing, .inl (cI, 8, .inl (upd v_standing (Int32.toNatClampNeg a2) 0))), (q_p1_drain, .inl (cI, 8, .inl v_p1_drain)), (q_p1, .inr (6, [.int v_p1_stands, .int v_p1_lent, .int v_p1_pipe, .int v_p1_houses, .ref q_p1_room, .ref q_p1_daily, .ref q_p1_drain, .ref q_p1_above]))] H := hP
          have hD : va_D A [(q_this, .inr (7, [.ref q_order, .ref q_standing, .int v_count, .int k42_1])), (q_standing, .inl (cI, 8, .inl (upd v_standing (Int32.toNatClampNeg a2) 0))), (q_p1_drain, .inl (cI, 8, .inl v_p1_drain)), (q_p1, .inr (6, [.int v_p1_stands, .int v_p1_lent, .int v_p1_pipe, .int v_p1_houses, .ref q_p1_room, .ref q_p1_daily, .ref q_p1_drain, .ref q_p1_above]))] := hD
          refine lv_if_eq (tgt := 86) hx hb dX7_pull_55 (by decide) (fun c4 => ?_) (fun c4 => ?_)
          · have hrun := oz_t hrun c4
            have hr9 := Option.some.inj hrun
            subst hr9
            have ho9 : (w42.1, w42.2) = o42 := hnext
            subst ho9
            exact hexit _ _ _ (hP.sub [0, 1, 3, 2] rfl) (hD.sub [0, 1, 3, 2] (by decide) rfl) hS (lv_sub hl [0, 1, 2, 3, 4] rfl)
          · have hrun := oz_f hrun c4
            refine lv_aload_n hx hb dX7_pull_58 rfl (lv_at hl 3 rfl) ?_
            refine va_get (D := (dC, dI)) (ci := 7) (v := .int k42_1) (C := RX7) (T := TX7) (N := 4) hx hb hts hiX7 hown hK hP 0 rfl rfl 3 (by decide) hk22 (fun _ h9 => h9) rfl dX7_pull_59 ?_
            refine lv_iload hx hb dX7_pull_62 (lv_at hl 1 rfl) ?_
            refine lv_ishr hx hb dX7_pull_64 ?_
            refine lv_iconst (v := 1) hx hb dX7_pull_65 (by decide) ?_
            refine lv_iand hx hb dX7_pull_66 ?_
            refine lv_iconst (v := 1) hx hb dX7_pull_67 (by decide) ?_
            refine lv_icmp_ne (tgt := 86) hx hb dX7_pull_68 (by decide) (fun c5 => ?_) (fun c5 => ?_)
            · have hrun := oz_f hrun c5
              have hr9 := Option.some.inj hrun
              subst hr9
              have ho9 : (w42.1, w42.2) = o42 := hnext
              subst ho9
              exact hexit _ _ _ (hP.sub [0, 1, 3, 2] rfl) (hD.sub [0, 1, 3, 2] (by decide) rfl) hS (lv_sub hl [0, 1, 2, 3, 4] rfl)
            · have hrun := oz_t hrun c5
              refine lv_aload_n hx hb dX7_pull_71 rfl (lv_at hl 4 rfl) ?_
              refine va_get (D := (dC, dI)) (ci := 6) (v := .ref q_p1_drain) (C := RX6) (T := TX6) (N := 8) hx hb hts hiX6 hown hK hP 3 rfl rfl 6 (by decide) hk49 (fun _ h9 => h9) rfl dX7_pull_72 ?_
              refine lv_iload hx hb dX7_pull_75 (lv_at hl 1 rfl) ?_
              obtain ⟨c6, hrun⟩ := oz_chk hrun
              refine va_iald hx hb hK hP 2 0 rfl rfl c6 dX7_pull_77 ?_
              refine lv_istore (lv' := [(4, .int (v_p1_drain (Int32.toNatClampNeg w42.2))), (5, .int w42.1), (3, .int k42_0), (0, .ref q_this), (1, .ref q_p1)]) hx hb dX7_pull_78 hl (by decide) rfl (fun ls hl => ?_)
              refine lv_iinc (v := (w42.1 + 1)) (lv' := [(5, .int (w42.1 + 1)), (4, .int (v_p1_drain (Int32.toNatClampNeg w42.2))), (3, .int k42_0), (0, .ref q_this), (1, .ref q_p1)]) hx hb dX7_pull_80 hl (k := 1) rfl rfl (by decide) rfl (fun ls hl => ?_)
              refine lv_goto (tgt := 42) hx hb dX7_pull_83 (by decide) ?_
              have hr9 := Option.some.inj hrun
              subst hr9
              exact ih ((w42.1 + 1), (v_p1_drain (Int32.toNatClampNeg w42.2))) _ hnext hexit _ _ _ (hP.sub [0, 1, 3, 2] rfl) (hD.sub [0, 1, 3, 2] (by decide) rfl) hS (lv_sub hl [0, 1, 2, 3, 4] rfl)
    refine hL42 (v_standing (Int32.toNatClampNeg a2)) (v_pulledSet ||| (1 <<< (a2 &&& 31))) oz_fuel (0, a2) o42 hlp42 (fun H locs ls hP hD hS hl => ?_) _ _ _ (hP.sub [0, 1, 3, 2] rfl) (hD.sub [0, 1, 3, 2] (by decide) rfl) hS (lv_sub hl [0, 1, 2, 3, 4] rfl)
    have hP : va_P (dC, dI) vwCl [(q_this, .inr (7, [.ref q_order, .ref q_standing, .int v_count, .int (v_pulledSet ||| (1 <<< (a2 &&& 31)))])), (q_standing, .inl (cI, 8, .inl (upd v_standing (Int32.toNatClampNeg a2) 0))), (q_p1, .inr (6, [.int v_p1_stands, .int v_p1_lent, .int v_p1_pipe, .int v_p1_houses, .ref q_p1_room, .ref q_p1_daily, .ref q_p1_drain, .ref q_p1_above])), (q_p1_drain, .inl (cI, 8, .inl v_p1_drain))] H := hP
    have hD : va_D A [(q_this, .inr (7, [.ref q_order, .ref q_standing, .int v_count, .int (v_pulledSet ||| (1 <<< (a2 &&& 31)))])), (q_standing, .inl (cI, 8, .inl (upd v_standing (Int32.toNatClampNeg a2) 0))), (q_p1, .inr (6, [.int v_p1_stands, .int v_p1_lent, .int v_p1_pipe, .int v_p1_houses, .ref q_p1_room, .ref q_p1_daily, .ref q_p1_drain, .ref q_p1_above])), (q_p1_drain, .inl (cI, 8, .inl v_p1_drain))] := hD
    have hl : lv_has ls 6 [(5, .int o42.1), (4, .int o42.2), (3, .int (v_standing (Int32.toNatClampNeg a2))), (0, .ref q_this), (1, .ref q_p1)] := hl
    refine lv_aload_n hx hb dX7_pull_86 rfl (lv_at hl 4 rfl) ?_
    refine lv_iload hx hb dX7_pull_87 (lv_at hl 1 rfl) ?_
    obtain ⟨y89, hc89, hrun⟩ := oz_bind hrun
    have hPc := hP.sub (ws' := [(q_p1, .inr (6, [.int v_p1_stands, .int v_p1_lent, .int v_p1_pipe, .int v_p1_houses, .ref q_p1_room, .ref q_p1_daily, .ref q_p1_drain, .ref q_p1_above]))]) [2] rfl
    have hDc := hD.sub (ws' := [(q_p1, .inr (6, [.int v_p1_stands, .int v_p1_lent, .int v_p1_pipe, .int v_p1_houses, .ref q_p1_room, .ref q_p1_daily, .ref q_p1_drain, .ref q_p1_above]))]) [2] (by decide) rfl
    have hFc := va_free (wc := [(q_p1, .inr (6, [.int v_p1_stands, .int v_p1_lent, .int v_p1_pipe, .int v_p1_houses, .ref q_p1_room, .ref q_p1_daily, .ref q_p1_drain, .ref q_p1_above]))]) hD hS hA [2] rfl
    refine va_calli (va_runV (As := [.int o42.2]) (rest := []) ⟨hx, hb, hml, hown, hts⟩ (tX6_has l dC dI cI cZ q_p1_above q_p1_daily q_p1_drain q_p1_room q_p1 H.size v_p1_stands v_p1_lent v_p1_pipe v_p1_houses o42.2 y89 hc89) (cwV 1 hts gX7_pull_X6_has rfl rfl rfl (by decide +kernel) ⟨Nat.le_of_ble_eq_true rfl, Nat.le_of_ble_eq_true rfl⟩) ⟨fun a U g mk q => by obtain ⟨q0, q1, qP, qK, qD⟩ := q; exact ⟨q0, q1, qP, va_K.moved (u := U) (U := U.calling g mk a) (Vm.Alike.refl U.vm) qK, qD⟩, va_recv hK hPc (ci := 6) (q0 := 0) rfl rfl, fun U hU hW => ⟨rfl, by rw [hU], by rw [hU]; exact hPc, va_K.moved hW.alike hK, hDc.weaken (fun _ _ _ _ => trivial)⟩⟩ rfl rfl hl.1 rfl (lv_room (Nat.le_of_ble_eq_true rfl)) dX7_pull_89 ⟨Nat.le_of_ble_eq_true rfl, Nat.le_of_ble_eq_true rfl⟩) hS (fun q _ h => hFc q h) hFc (fun r89 u9 t9 H1 locs ht9 hvm9 hw9 hB9 hz9 hkk9 hS => ?_)
    have hw9 : y89 = r89 := hw9.symm
    subst hw9
    obtain ⟨hP9, hK9, hD9⟩ := hB9
    rw [ht9] at hP9
    obtain ⟨hP, hD⟩ := va_join (wr := [(q_this, .inr (7, [.ref q_order, .ref q_standing, .int v_count, .int (v_pulledSet ||| (1 <<< (a2 &&& 31)))])), (q_standing, .inl (cI, 8, .inl (upd v_standing (Int32.toNatClampNeg a2) 0))), (q_p1_drain, .inl (cI, 8, .inl v_p1_drain))]) (w1 := [(q_p1, .inr (6, [.int v_p1_stands, .int v_p1_lent, .int v_p1_pipe, .int v_p1_houses, .ref q_p1_room, .ref q_p1_daily, .ref q_p1_drain, .ref q_p1_above]))]) hP hD [2] [0, 1, 3] rfl rfl (by decide) (by decide) hkk9 hFc hP9 hD9
    generalize H1 = H at hP hS ⊢
    have hP : va_P (dC, dI) vwCl [(q_this, .inr (7, [.ref q_order, .ref q_standing, .int v_count, .int (v_pulledSet ||| (1 <<< (a2 &&& 31)))])), (q_standing, .inl (cI, 8, .inl (upd v_standing (Int32.toNatClampNeg a2) 0))), (q_p1_drain, .inl (cI, 8, .inl v_p1_drain)), (q_p1, .inr (6, [.int v_p1_stands, .int v_p1_lent, .int v_p1_pipe, .int v_p1_houses, .ref q_p1_room, .ref q_p1_daily, .ref q_p1_drain, .ref q_p1_above]))] H := hP
    have hD : va_D A [(q_this, .inr (7, [.ref q_order, .ref q_standing, .int v_count, .int (v_pulledSet ||| (1 <<< (a2 &&& 31)))])), (q_standing, .inl (cI, 8, .inl (upd v_standing (Int32.toNatClampNeg a2) 0))), (q_p1_drain, .inl (cI, 8, .inl v_p1_drain)), (q_p1, .inr (6, [.int v_p1_stands, .int v_p1_lent, .int v_p1_pipe, .int v_p1_houses, .ref q_p1_room, .ref q_p1_daily, .ref q_p1_drain, .ref q_p1_above]))] := hD
    refine lv_if_ne (tgt := 97) hx hb dX7_pull_92 (by decide) (fun c7 => ?_) (fun c7 => ?_)
    · have hrun := oz_f hrun c7
      refine lv_aload_n hx hb dX7_pull_97 rfl (lv_at hl 3 rfl) ?_
      refine va_get (D := (dC, dI)) (ci := 7) (v := .ref q_standing) (C := RX7) (T := TX7) (N := 4) hx hb hts hiX7 hown hK hP 0 rfl rfl 1 (by decide) hk15 (fun _ h9 => h9) rfl dX7_pull_98 ?_
      refine lv_iload hx hb dX7_pull_101 (lv_at hl 1 rfl) ?_
      refine lv_dup2_11 hx hb dX7_pull_103 rfl rfl ?_
      obtain ⟨c8, hrun⟩ := oz_chk hrun
      refine va_iald hx hb hK hP 1 0 rfl rfl c8 dX7_pull_104 ?_
      refine lv_iload_n hx hb dX7_pull_105 rfl (lv_at hl 2 rfl) ?_
      refine lv_iadd hx hb dX7_pull_106 ?_
      refine va_iast hx hb hK hP hD hS 1 0 rfl rfl c8 dX7_pull_107 (fun H locs hP hD hS => ?_)
      have hP : va_P (dC, dI) vwCl [(q_this, .inr (7, [.ref q_order, .ref q_standing, .int v_count, .int (v_pulledSet ||| (1 <<< (a2 &&& 31)))])), (q_standing, .inl (cI, 8, .inl (upd (upd v_standing (Int32.toNatClampNeg a2) 0) (Int32.toNatClampNeg o42.2) (((upd v_standing (Int32.toNatClampNeg a2) 0) (Int32.toNatClampNeg o42.2)) + (v_standing (Int32.toNatClampNeg a2)))))), (q_p1_drain, .inl (cI, 8, .inl v_p1_drain)), (q_p1, .inr (6, [.int v_p1_stands, .int v_p1_lent, .int v_p1_pipe, .int v_p1_houses, .ref q_p1_room, .ref q_p1_daily, .ref q_p1_drain, .ref q_p1_above]))] H := hP
      have hD : va_D A [(q_this, .inr (7, [.ref q_order, .ref q_standing, .int v_count, .int (v_pulledSet ||| (1 <<< (a2 &&& 31)))])), (q_standing, .inl (cI, 8, .inl (upd (upd v_standing (Int32.toNatClampNeg a2) 0) (Int32.toNatClampNeg o42.2) (((upd v_standing (Int32.toNatClampNeg a2) 0) (Int32.toNatClampNeg o42.2)) + (v_standing (Int32.toNatClampNeg a2)))))), (q_p1_drain, .inl (cI, 8, .inl v_p1_drain)), (q_p1, .inr (6, [.int v_p1_stands, .int v_p1_lent, .int v_p1_pipe, .int v_p1_houses, .ref q_p1_room, .ref q_p1_daily, .ref q_p1_drain, .ref q_p1_above]))] := hD
      refine lv_aload_n hx hb dX7_pull_108 rfl (lv_at hl 3 rfl) ?_
      refine va_get (D := (dC, dI)) (ci := 7) (v := .ref q_standing) (C := RX7) (T := TX7) (N := 4) hx hb hts hiX7 hown hK hP 0 rfl rfl 1 (by decide) hk15 (fun _ h9 => h9) rfl dX7_pull_109 ?_
      refine lv_iload hx hb dX7_pull_112 (lv_at hl 1 rfl) ?_
      refine va_iald hx hb hK hP 1 0 rfl rfl c8 dX7_pull_114 ?_
      have ho9 := Option.some.inj hrun
      subst ho9
      have hP9 := hP.sub (ws' := [(q_this, .inr (7, [.ref q_order, .ref q_standing, .int v_count, .int (v_pulledSet ||| (1 <<< (a2 &&& 31)))])), (q_standing, .inl (cI, 8, .inl (upd (upd v_standing (Int32.toNatClampNeg a2) 0) (Int32.toNatClampNeg o42.2) (((upd v_standing (Int32.toNatClampNeg a2) 0) (Int32.toNatClampNeg o42.2)) + (v_standing (Int32.toNatClampNeg a2)))))), (q_p1, .inr (6, [.int v_p1_stands, .int v_p1_lent, .int v_p1_pipe, .int v_p1_houses, .ref q_p1_room, .ref q_p1_daily, .ref q_p1_drain, .ref q_p1_above])), (q_p1_drain, .inl (cI, 8, .inl v_p1_drain))]) [0, 1, 3, 2] rfl
      have hD9 := hD.sub (ws' := [(q_this, .inr (7, [.ref q_order, .ref q_standing, .int v_count, .int (v_pulledSet ||| (1 <<< (a2 &&& 31)))])), (q_standing, .inl (cI, 8, .inl (upd (upd v_standing (Int32.toNatClampNeg a2) 0) (Int32.toNatClampNeg o42.2) (((upd v_standing (Int32.toNatClampNeg a2) 0) (Int32.toNatClampNeg o42.2)) + (v_standing (Int32.toNatClampNeg a2)))))), (q_p1, .inr (6, [.int v_p1_stands, .int v_p1_lent, .int v_p1_pipe, .int v_p1_houses, .ref q_p1_room, .ref q_p1_daily, .ref q_p1_drain, .ref q_p1_above])), (q_p1_drain, .inl (cI, 8, .inl v_p1_drain))]) [0, 1, 3, 2] (by decide) rfl
      rw [hQ]
      exact W.iret (v := ((upd (upd v_standing (Int32.toNatClampNeg a2) 0) (Int32.toNatClampNeg o42.2) (((upd v_standing (Int32.toNatClampNeg a2) 0) (Int32.toNatClampNeg o42.2)) + (v_standing (Int32.toNatClampNeg a2)))) (Int32.toNatClampNeg o42.2))) hx hb hr (fun t ht hW => ⟨⟨((upd (upd v_standing (Int32.toNatClampNeg a2) 0) (Int32.toNatClampNeg o42.2) (((upd v_standing (Int32.toNatClampNeg a2) 0) (Int32.toNatClampNeg o42.2)) + (v_standing (Int32.toNatClampNeg a2)))) (Int32.toNatClampNeg o42.2)), (), rfl, rfl, by rw [ht]; exact hP9, va_K.moved hW.alike hK, hD9⟩, hS.F ht⟩) hS.2.2 dX7_pull_115
    · have hrun := oz_t hrun c7
      refine lv_iconst (v := 0) hx hb dX7_pull_95 (by decide) ?_
      have ho9 := Option.some.inj hrun
      subst ho9
      have hP9 := hP.sub (ws' := [(q_this, .inr (7, [.ref q_order, .ref q_standing, .int v_count, .int (v_pulledSet ||| (1 <<< (a2 &&& 31)))])), (q_standing, .inl (cI, 8, .inl (upd v_standing (Int32.toNatClampNeg a2) 0))), (q_p1, .inr (6, [.int v_p1_stands, .int v_p1_lent, .int v_p1_pipe, .int v_p1_houses, .ref q_p1_room, .ref q_p1_daily, .ref q_p1_drain, .ref q_p1_above])), (q_p1_drain, .inl (cI, 8, .inl v_p1_drain))]) [0, 1, 3, 2] rfl
      have hD9 := hD.sub (ws' := [(q_this, .inr (7, [.ref q_order, .ref q_standing, .int v_count, .int (v_pulledSet ||| (1 <<< (a2 &&& 31)))])), (q_standing, .inl (cI, 8, .inl (upd v_standing (Int32.toNatClampNeg a2) 0))), (q_p1, .inr (6, [.int v_p1_stands, .int v_p1_lent, .int v_p1_pipe, .int v_p1_houses, .ref q_p1_room, .ref q_p1_daily, .ref q_p1_drain, .ref q_p1_above])), (q_p1_drain, .inl (cI, 8, .inl v_p1_drain))]) [0, 1, 3, 2] (by decide) rfl
      rw [hQ]
      exact W.iret (v := 0) hx hb hr (fun t ht hW => ⟨⟨0, (), rfl, rfl, by rw [ht]; exact hP9, va_K.moved hW.alike hK, hD9⟩, hS.F ht⟩) hS.2.2 dX7_pull_96
  · have hrun := oz_t hrun c1
    refine lv_iconst (v := 0) hx hb dX7_pull_8 (by decide) ?_
    have ho9 := Option.some.inj hrun
    subst ho9
    have hP9 := hP.sub (ws' := [(q_this, .inr (7, [.ref q_order, .ref q_standing, .int v_count, .int v_pulledSet])), (q_standing, .inl (cI, 8, .inl v_standing)), (q_p1, .inr (6, [.int v_p1_stands, .int v_p1_lent, .int v_p1_pipe, .int v_p1_houses, .ref q_p1_room, .ref q_p1_daily, .ref q_p1_drain, .ref q_p1_above])), (q_p1_drain, .inl (cI, 8, .inl v_p1_drain))]) [0, 1, 3, 2] rfl
    have hD9 := hD.sub (ws' := [(q_this, .inr (7, [.ref q_order, .ref q_standing, .int v_count, .int v_pulledSet])), (q_standing, .inl (cI, 8, .inl v_standing)), (q_p1, .inr (6, [.int v_p1_stands, .int v_p1_lent, .int v_p1_pipe, .int v_p1_houses, .ref q_p1_room, .ref q_p1_daily, .ref q_p1_drain, .ref q_p1_above])), (q_p1_drain, .inl (cI, 8, .inl v_p1_drain))]) [0, 1, 3, 2] (by decide) rfl
    rw [hQ]
    exact W.iret (v := 0) hx hb hr (fun t ht hW => ⟨⟨0, (), rfl, rfl, by rw [ht]; exact hP9, va_K.moved hW.alike hK, hD9⟩, hS.F ht⟩) hS.2.2 dX7_pull_9
def fX7_greatest_b5 (v_p1_houses : Int32) (v_p2_kept : Nat → Int32) (w5 : Int32 × Int32 × (Nat → Int32)) : Option ((Int32 × Int32 × (Nat → Int32)) ⊕ (Int32 × Int32 × (Nat → Int32))) :=
  if v_p1_houses ≤ w5.1 then (some (.inr (w5.1, w5.2.1, w5.2.2))) else (if (w5.1 < 0 ∨ 8 ≤ Int32.toNatClampNeg w5.1) then none else some (.inl ((w5.1 + 1), (if w5.2.1 < ((upd w5.2.2 (Int32.toNatClampNeg w5.1) (v_p2_kept (Int32.toNatClampNeg w5.1))) (Int32.toNatClampNeg w5.1)) then ((upd w5.2.2 (Int32.toNatClampNeg w5.1) (v_p2_kept (Int32.toNatClampNeg w5.1))) (Int32.toNatClampNeg w5.1)) else w5.2.1), (upd w5.2.2 (Int32.toNatClampNeg w5.1) (v_p2_kept (Int32.toNatClampNeg w5.1))))))
def fX7_greatest_b54 (v_count : Int32) (v_order : Nat → Int32) (v_p1_houses : Int32) (v_p1_drain : Nat → Int32) (w54 : Int32 × Int32 × Int32 × (Nat → Int32)) : Option ((Int32 × Int32 × Int32 × (Nat → Int32)) ⊕ (Int32 × Int32 × Int32 × (Nat → Int32))) :=
  if v_count ≤ w54.1 then (some (.inr (w54.1, w54.2.1, w54.2.2.1, w54.2.2.2))) else (if (w54.1 < 0 ∨ 6 ≤ Int32.toNatClampNeg w54.1) then none else Option.bind (fX7_pull w54.2.2.1 w54.2.2.2 v_p1_houses v_p1_drain (v_order (Int32.toNatClampNeg w54.1))) (fun y73 => some (.inl ((w54.1 + 1), (if w54.2.1 < y73.1 then y73.1 else w54.2.1), y73.2.1, y73.2.2))))
def fX7_greatest (v_count : Int32) (v_pulledSet : Int32) (v_order : Nat → Int32) (v_standing : Nat → Int32) (v_p1_houses : Int32) (v_p1_drain : Nat → Int32) (v_p2_kept : Nat → Int32) : Option (Int32 × Int32 × (Nat → Int32)) :=
  Option.bind (oz_loop (fX7_greatest_b5 v_p1_houses v_p2_kept) oz_fuel (0, 0, v_standing)) (fun o5 => Option.bind (oz_loop (fX7_greatest_b54 v_count v_order v_p1_houses v_p1_drain) oz_fuel (0, o5.2.1, 0, o5.2.2)) (fun o54 => some (o54.2.1, o54.2.2.1, o54.2.2.2)))
def rmX7_greatest : Room := { frames := 2, cells := 0, slots := 0, locals := 46 }
set_option maxHeartbeats 4000000 in
set_option maxRecDepth 100000 in
theorem tX7_greatest (l : Launch) (dC : Nat → ClassId) (dI : Nat → Nat → Nat) (cI cZ : ClassId) (q_order q_p1 q_p1_above q_p1_daily q_p1_drain q_p1_room q_p2 q_p2_away q_p2_kept q_standing q_this : Nat) (sz : Nat) (v_p1_stands : Int32) (v_p1_lent : Int32) (v_p1_pipe : Int32) (v_p2_days : Int32) (v_p2_spilled : Int32) (v_p2_river : Int32) (v_count : Int32) (v_pulledSet : Int32) (v_order : Nat → Int32) (v_standing : Nat → Int32) (v_p1_houses : Int32) (v_p1_drain : Nat → Int32) (v_p2_kept : Nat → Int32) (out : Int32 × Int32 × (Nat → Int32)) (hrun : fX7_greatest v_count v_pulledSet v_order v_standing v_p1_houses v_p1_drain v_p2_kept = some out) : Met l yX7_greatest wsX7_greatest rmX7_greatest (va_Pc [.ref q_this, .ref q_p1, .ref q_p2] (fun U => U.heap.size = sz ∧ va_P (dC, dI) vwCl [(q_this, .inr (7, [.ref q_order, .ref q_standing, .int v_count, .int v_pulledSet])), (q_order, .inl (cI, 6, .inl v_order)), (q_standing, .inl (cI, 8, .inl v_standing)), (q_p1, .inr (6, [.int v_p1_stands, .int v_p1_lent, .int v_p1_pipe, .int v_p1_houses, .ref q_p1_room, .ref q_p1_daily, .ref q_p1_drain, .ref q_p1_above])), (q_p1_drain, .inl (cI, 8, .inl v_p1_drain)), (q_p2, .inr (10, [.ref q_p2_kept, .ref q_p2_away, .int v_p2_days, .int v_p2_spilled, .int v_p2_river])), (q_p2_kept, .inl (cI, 8, .inl v_p2_kept))] U.heap ∧ va_K (dC, dI) vwCl [(cI, .int), (cZ, .boolean)] U ∧ va_D (fun _ => True) [(q_this, .inr (7, [.ref q_order, .ref q_standing, .int v_count, .int v_pulledSet])), (q_order, .inl (cI, 6, .inl v_order)), (q_standing, .inl (cI, 8, .inl v_standing)), (q_p1, .inr (6, [.int v_p1_stands, .int v_p1_lent, .int v_p1_pipe, .int v_p1_houses, .ref q_p1_room, .ref q_p1_daily, .ref q_p1_drain, .ref q_p1_above])), (q_p1_drain, .inl (cI, 8, .inl v_p1_drain)), (q_p2, .inr (10, [.ref q_p2_kept, .ref q_p2_away, .int v_p2_days, .int v_p2_spilled, .int v_p2_river])), (q_p2_kept, .inl (cI, 8, .inl v_p2_kept))])) (va_Qi (fun (r : Int32) (_ : Unit) => r = out.1) (fun _ t => va_P (dC, dI) vwCl [(q_this, .inr (7, [.ref q_order, .ref q_standing, .int v_count, .int out.2.1])), (q_order, .inl (cI, 6, .inl v_order)), (q_standing, .inl (cI, 8, .inl out.2.2)), (q_p1, .inr (6, [.int v_p1_stands, .int v_p1_lent, .int v_p1_pipe, .int v_p1_houses, .ref q_p1_room, .ref q_p1_daily, .ref q_p1_drain, .ref q_p1_above])), (q_p1_drain, .inl (cI, 8, .inl v_p1_drain)), (q_p2, .inr (10, [.ref q_p2_kept, .ref q_p2_away, .int v_p2_days, .int v_p2_spilled, .int v_p2_river])), (q_p2_kept, .inl (cI, 8, .inl v_p2_kept))] t.heap ∧ va_K (dC, dI) vwCl [(cI, .int), (cZ, .boolean)] t ∧ va_D (va_A [(q_this, .inr (7, [.ref q_order, .ref q_standing, .int v_count, .int v_pulledSet])), (q_order, .inl (cI, 6, .inl v_order)), (q_standing, .inl (cI, 8, .inl v_standing)), (q_p1, .inr (6, [.int v_p1_stands, .int v_p1_lent, .int v_p1_pipe, .int v_p1_houses, .ref q_p1_room, .ref q_p1_daily, .ref q_p1_drain, .ref q_p1_above])), (q_p1_drain, .inl (cI, 8, .inl v_p1_drain)), (q_p2, .inr (10, [.ref q_p2_kept, .ref q_p2_away, .int v_p2_days, .int v_p2_spilled, .int v_p2_river])), (q_p2_kept, .inl (cI, 8, .inl v_p2_kept))] sz) [(q_this, .inr (7, [.ref q_order, .ref q_standing, .int v_count, .int out.2.1])), (q_order, .inl (cI, 6, .inl v_order)), (q_standing, .inl (cI, 8, .inl out.2.2)), (q_p1, .inr (6, [.int v_p1_stands, .int v_p1_lent, .int v_p1_pipe, .int v_p1_houses, .ref q_p1_room, .ref q_p1_daily, .ref q_p1_drain, .ref q_p1_above])), (q_p1_drain, .inl (cI, 8, .inl v_p1_drain)), (q_p2, .inr (10, [.ref q_p2_kept, .ref q_p2_away, .int v_p2_days, .int v_p2_spilled, .int v_p2_river])), (q_p2_kept, .inl (cI, 8, .inl v_p2_kept))]) (va_A [(q_this, .inr (7, [.ref q_order, .ref q_standing, .int v_count, .int v_pulledSet])), (q_order, .inl (cI, 6, .inl v_order)), (q_standing, .inl (cI, 8, .inl v_standing)), (q_p1, .inr (6, [.int v_p1_stands, .int v_p1_lent, .int v_p1_pipe, .int v_p1_houses, .ref q_p1_room, .ref q_p1_daily, .ref q_p1_drain, .ref q_p1_above])), (q_p1_drain, .inl (cI, 8, .inl v_p1_drain)), (q_p2, .inr (10, [.ref q_p2_kept, .ref q_p2_away, .int v_p2_days, .int v_p2_spilled, .int v_p2_river])), (q_p2_kept, .inl (cI, 8, .inl v_p2_kept))] sz)) 0 0 (va_A [(q_this, .inr (7, [.ref q_order, .ref q_standing, .int v_count, .int v_pulledSet])), (q_order, .inl (cI, 6, .inl v_order)), (q_standing, .inl (cI, 8, .inl v_standing)), (q_p1, .inr (6, [.int v_p1_stands, .int v_p1_lent, .int v_p1_pipe, .int v_p1_houses, .ref q_p1_room, .ref q_p1_daily, .ref q_p1_drain, .ref q_p1_above])), (q_p1_drain, .inl (cI, 8, .inl v_p1_drain)), (q_p2, .inr (10, [.ref q_p2_kept, .ref q_p2_away, .int v_p2_days, .int v_p2_spilled, .int v_p2_river])), (q_p2_kept, .inl (cI, 8, .inl v_p2_kept))] sz) := by
  refine Met.ofW (cc := cX7_greatest) (maxL := 5) (ret := (some .int)) (by decide) rfl ?_
  intro p e s m args below meth c s₁ B hml hv
  obtain ⟨rfl, hsz, hP, hK, hD0⟩ := hv
  have hx := B.exec
  have hb := B.bytes
  have hr := B.returns
  have hts := atoms_spec (ws := wsX7_greatest) B.pre
  have hown : s.vm.findClass RX7 = some m.cls := findClass_of_methodNamed B.named
  have hlocks := B.notSynchronized
  subst hsz
  have hD := hD0.self (sz := s.heap.size)
  generalize hAe : va_A [(q_this, .inr (7, [.ref q_order, .ref q_standing, .int v_count, .int v_pulledSet])), (q_order, .inl (cI, 6, .inl v_order)), (q_standing, .inl (cI, 8, .inl v_standing)), (q_p1, .inr (6, [.int v_p1_stands, .int v_p1_lent, .int v_p1_pipe, .int v_p1_houses, .ref q_p1_room, .ref q_p1_daily, .ref q_p1_drain, .ref q_p1_above])), (q_p1_drain, .inl (cI, 8, .inl v_p1_drain)), (q_p2, .inr (10, [.ref q_p2_kept, .ref q_p2_away, .int v_p2_days, .int v_p2_spilled, .int v_p2_river])), (q_p2_kept, .inl (cI, 8, .inl v_p2_kept))] s.heap.size = A at hD ⊢
  have hA : ∀ q : Nat, s.heap.size ≤ q → A q := fun q h => by rw [← hAe]; exact Or.inr h
  have hS : va_S A s.heap s.heap [] := va_S.rf
  have hl := lv_entry ([.ref q_this, .ref q_p1, .ref q_p2]) (n := 5) (Nat.le_of_ble_eq_true rfl)
  rw [lg_entry_eq]
  generalize (lg_sl ([.ref q_this, .ref q_p1, .ref q_p2]) ++ List.replicate (5 - (lg_sl ([.ref q_this, .ref q_p1, .ref q_p2])).length) Slot.unset).toArray = ls at hl ⊢
  have hl : lv_has ls 5 [(0, .ref q_this), (1, .ref q_p1), (2, .ref q_p2)] := hl
  unfold fX7_greatest at hrun
  have hk25 := hts (.fieldLink RX7 25 "LentDrains$Plan" "houses" "I") (by decide +kernel)
  have hiX6 : ∀ w ∈ wsX60, w ∈ wsX7_greatest := by decide +kernel
  have hk15 := hts (.fieldLink RX7 15 "LentDrains$Plugs" "standing" "[I") (by decide +kernel)
  have hiX7 : ∀ w ∈ wsX70, w ∈ wsX7_greatest := by decide +kernel
  have hk30 := hts (.fieldLink RX7 30 "LentDrains$State" "kept" "[I") (by decide +kernel)
  have hiX10 : ∀ w ∈ wsX100, w ∈ wsX7_greatest := by decide +kernel
  have hk35 := hts (.methodLink RX7 35 Lib.Math.max.name) (by decide +kernel)
  have hst_max := hts (.static Lib.Math.max.name) (by decide +kernel)
  have hiniM := hts (.initialized "java/lang/Math") (by decide +kernel)
  have hcd_max := hts (.code Lib.Math.max.name Lib.Math.max.code 2 (some .int)) (by decide +kernel)
  have hk22 := hts (.fieldLink RX7 22 "LentDrains$Plugs" "pulledSet" "I") (by decide +kernel)
  have hk18 := hts (.fieldLink RX7 18 "LentDrains$Plugs" "count" "I") (by decide +kernel)
  have hk11 := hts (.fieldLink RX7 11 "LentDrains$Plugs" "order" "[I") (by decide +kernel)
  refine oz_genQ (fun Q hQ => ?_)
  refine lv_iconst (v := 0) hx hb dX7_greatest_0 (by decide) ?_
  refine lv_istore_n (lv' := [(3, .int 0), (0, .ref q_this), (1, .ref q_p1), (2, .ref q_p2)]) hx hb dX7_greatest_1 rfl hl (by decide) rfl (fun ls hl => ?_)
  refine lv_iconst (v := 0) hx hb dX7_greatest_2 (by decide) ?_
  refine lv_istore (lv' := [(4, .int 0), (3, .int 0), (0, .ref q_this), (1, .ref q_p1), (2, .ref q_p2)]) hx hb dX7_greatest_3 hl (by decide) rfl (fun ls hl => ?_)
  obtain ⟨o5, hlp5, hrun⟩ := oz_bind hrun
  have hL5 : ∀ (n : Nat) (w5 : Int32 × Int32 × (Nat → Int32)) (o5 : Int32 × Int32 × (Nat → Int32)), oz_loop (fX7_greatest_b5 v_p1_houses v_p2_kept) n w5 = some o5 → (∀ (H : Heap) (locs : List Loc) (ls : Array Slot), va_P (dC, dI) vwCl [(q_this, .inr (7, [.ref q_order, .ref q_standing, .int v_count, .int v_pulledSet])), (q_order, .inl (cI, 6, .inl v_order)), (q_standing, .inl (cI, 8, .inl o5.2.2)), (q_p1, .inr (6, [.int v_p1_stands, .int v_p1_lent, .int v_p1_pipe, .int v_p1_houses, .ref q_p1_room, .ref q_p1_daily, .ref q_p1_drain, .ref q_p1_above])), (q_p1_drain, .inl (cI, 8, .inl v_p1_drain)), (q_p2, .inr (10, [.ref q_p2_kept, .ref q_p2_away, .int v_p2_days, .int v_p2_spilled, .int v_p2_river])), (q_p2_kept, .inl (cI, 8, .inl v_p2_kept))] H → va_D A [(q_this, .inr (7, [.ref q_order, .ref q_standing, .int v_count, .int v_pulledSet])), (q_order, .inl (cI, 6, .inl v_order)), (q_standing, .inl (cI, 8, .inl o5.2.2)), (q_p1, .inr (6, [.int v_p1_stands, .int v_p1_lent, .int v_p1_pipe, .int v_p1_houses, .ref q_p1_room, .ref q_p1_daily, .ref q_p1_drain, .ref q_p1_above])), (q_p1_drain, .inl (cI, 8, .inl v_p1_drain)), (q_p2, .inr (10, [.ref q_p2_kept, .ref q_p2_away, .int v_p2_days, .int v_p2_spilled, .int v_p2_river])), (q_p2_kept, .inl (cI, 8, .inl v_p2_kept))] → va_S A s.heap H locs → lv_has ls 5 [(4, .int o5.1), (3, .int o5.2.1), (0, .ref q_this), (1, .ref q_p1), (2, .ref q_p2)] → W p l e (headSpec wsX7_greatest rmX7_greatest).room s m (([.ref q_this, .ref q_p1, .ref q_p2] : List Value).toArray) below meth c H locs 0 0 Q (F0 m 46 ls [])) → ∀ (H : Heap) (locs : List Loc) (ls : Array Slot), va_P (dC, dI) vwCl [(q_this, .inr (7, [.ref q_order, .ref q_standing, .int v_count, .int v_pulledSet])), (q_order, .inl (cI, 6, .inl v_order)), (q_standing, .inl (cI, 8, .inl w5.2.2)), (q_p1, .inr (6, [.int v_p1_stands, .int v_p1_lent, .int v_p1_pipe, .int v_p1_houses, .ref q_p1_room, .ref q_p1_daily, .ref q_p1_drain, .ref q_p1_above])), (q_p1_drain, .inl (cI, 8, .inl v_p1_drain)), (q_p2, .inr (10, [.ref q_p2_kept, .ref q_p2_away, .int v_p2_days, .int v_p2_spilled, .int v_p2_river])), (q_p2_kept, .inl (cI, 8, .inl v_p2_kept))] H → va_D A [(q_this, .inr (7, [.ref q_order, .ref q_standing, .int v_count, .int v_pulledSet])), (q_order, .inl (cI, 6, .inl v_order)), (q_standing, .inl (cI, 8, .inl w5.2.2)), (q_p1, .inr (6, [.int v_p1_stands, .int v_p1_lent, .int v_p1_pipe, .int v_p1_houses, .ref q_p1_room, .ref q_p1_daily, .ref q_p1_drain, .ref q_p1_above])), (q_p1_drain, .inl (cI, 8, .inl v_p1_drain)), (q_p2, .inr (10, [.ref q_p2_kept, .ref q_p2_away, .int v_p2_days, .int v_p2_spilled, .int v_p2_river])), (q_p2_kept, .inl (cI, 8, .inl v_p2_kept))] → va_S A s.heap H locs → lv_has ls 5 [(4, .int w5.1), (3, .int w5.2.1), (0, .ref q_this), (1, .ref q_p1), (2, .ref q_p2)] → W p l e (headSpec wsX7_greatest rmX7_greatest).room s m (([.ref q_this, .ref q_p1, .ref q_p2] : List Value).toArray) below meth c H locs 0 0 Q (F0 m 5 ls []) := by
    intro n
    induction n with
    | zero => intro w5 o5 h9; exact (oz_zero h9).elim
    | succ n ih =>
      intro w5 o5 h9 hexit H locs ls hP hD hS hl
      obtain ⟨r9, hrun, hnext⟩ := oz_step h9
      unfold fX7_greatest_b5 at hrun
      refine lv_iload hx hb dX7_greatest_5 (lv_at hl 0 rfl) ?_
      refine lv_aload_n hx hb dX7_greatest_7 rfl (lv_at hl 3 rfl) ?_
      refine va_get (D := (dC, dI)) (ci := 6) (v := .int v_p1_houses) (C := RX6) (T := TX6) (N := 8) hx hb hts hiX6 hown hK hP 3 rfl rfl 3 (by decide) hk25 (fun _ h9 => h9) rfl dX7_greatest_8 ?_
      refine lv_icmp_ge (tgt := 46) hx hb dX7_greatest_11 (by decide) (fun c1 => ?_) (fun c1 => ?_)
      · have hrun := oz_t hrun c1
        have hr9 := Option.some.inj hrun
        subst hr9
        have ho9 : (w5.1, w5.2.1, w5.2.2) = o5 := hnext
        subst ho9
        exact hexit _ _ _ (hP.sub [0, 1, 2, 3, 4, 5, 6] rfl) (hD.sub [0, 1, 2, 3, 4, 5, 6] (by decide) rfl) hS (lv_sub hl [0, 1, 2, 3, 4] rfl)
      · have hrun := oz_f hrun c1
        refine lv_aload_n hx hb dX7_greatest_14 rfl (lv_at hl 2 rfl) ?_
        refine va_get (D := (dC, dI)) (ci := 7) (v := .ref q_standing) (C := RX7) (T := TX7) (N := 4) hx hb hts hiX7 hown hK hP 0 rfl rfl 1 (by decide) hk15 (fun _ h9 => h9) rfl dX7_greatest_15 ?_
        refine lv_iload hx hb dX7_greatest_18 (lv_at hl 0 rfl) ?_
        refine lv_aload_n hx hb dX7_greatest_20 rfl (lv_at hl 4 rfl) ?_
        refine va_get (D := (dC, dI)) (ci := 10) (v := .ref q_p2_kept) (C := RX10) (T := TX10) (N := 5) hx hb hts hiX10 hown hK hP 5 rfl rfl 0 (by decide) hk30 (fun _ h9 => h9) rfl dX7_greatest_21 ?_
        refine lv_iload hx hb dX7_greatest_24 (lv_at hl 0 rfl) ?_
        obtain ⟨c2, hrun⟩ := oz_chk hrun
        refine va_iald hx hb hK hP 6 0 rfl rfl c2 dX7_greatest_26 ?_
        refine va_iast hx hb hK hP hD hS 2 0 rfl rfl c2 dX7_greatest_27 (fun H locs hP hD hS => ?_)
        have hP : va_P (dC, dI) vwCl [(q_this, .inr (7, [.ref q_order, .ref q_standing, .int v_count, .int v_pulledSet])), (q_order, .inl (cI, 6, .inl v_order)), (q_standing, .inl (cI, 8, .inl (upd w5.2.2 (Int32.toNatClampNeg w5.1) (v_p2_kept (Int32.toNatClampNeg w5.1))))), (q_p1, .inr (6, [.int v_p1_stands, .int v_p1_lent, .int v_p1_pipe, .int v_p1_houses, .ref q_p1_room, .ref q_p1_daily, .ref q_p1_drain, .ref q_p1_above])), (q_p1_drain, .inl (cI, 8, .inl v_p1_drain)), (q_p2, .inr (10, [.ref q_p2_kept, .ref q_p2_away, .int v_p2_days, .int v_p2_spilled, .int v_p2_river])), (q_p2_kept, .inl (cI, 8, .inl v_p2_kept))] H := hP
        have hD : va_D A [(q_this, .inr (7, [.ref q_order, .ref q_standing, .int v_count, .int v_pulledSet])), (q_order, .inl (cI, 6, .inl v_order)), (q_standing, .inl (cI, 8, .inl (upd w5.2.2 (Int32.toNatClampNeg w5.1) (v_p2_kept (Int32.toNatClampNeg w5.1))))), (q_p1, .inr (6, [.int v_p1_stands, .int v_p1_lent, .int v_p1_pipe, .int v_p1_houses, .ref q_p1_room, .ref q_p1_daily, .ref q_p1_drain, .ref q_p1_above])), (q_p1_drain, .inl (cI, 8, .inl v_p1_drain)), (q_p2, .inr (10, [.ref q_p2_kept, .ref q_p2_away, .int v_p2_days, .int v_p2_spilled, .int v_p2_river])), (q_p2_kept, .inl (cI, 8, .inl v_p2_kept))] := hD
        refine lv_iload_n hx hb dX7_greatest_28 rfl (lv_at hl 1 rfl) ?_
        refine lv_aload_n hx hb dX7_greatest_29 rfl (lv_at hl 2 rfl) ?_
        refine va_get (D := (dC, dI)) (ci := 7) (v := .ref q_standing) (C := RX7) (T := TX7) (N := 4) hx hb hts hiX7 hown hK hP 0 rfl rfl 1 (by decide) hk15 (fun _ h9 => h9) rfl dX7_greatest_30 ?_
        refine lv_iload hx hb dX7_greatest_33 (lv_at hl 0 rfl) ?_
        refine va_iald hx hb hK hP 2 0 rfl rfl c2 dX7_greatest_35 ?_
        refine va_mmax hx hb (hml.trans hl.1.symm) hown hk35 hst_max hiniM hcd_max (Nat.le_of_ble_eq_true rfl) (Nat.le_of_ble_eq_true rfl) (Nat.zero_le _) (Nat.zero_le _) dX7_greatest_36 ?_
        refine lv_istore_n (lv' := [(3, .int (if w5.2.1 < ((upd w5.2.2 (Int32.toNatClampNeg w5.1) (v_p2_kept (Int32.toNatClampNeg w5.1))) (Int32.toNatClampNeg w5.1)) then ((upd w5.2.2 (Int32.toNatClampNeg w5.1) (v_p2_kept (Int32.toNatClampNeg w5.1))) (Int32.toNatClampNeg w5.1)) else w5.2.1)), (4, .int w5.1), (0, .ref q_this), (1, .ref q_p1), (2, .ref q_p2)]) hx hb dX7_greatest_39 rfl hl (by decide) rfl (fun ls hl => ?_)
        refine lv_iinc (v := (w5.1 + 1)) (lv' := [(4, .int (w5.1 + 1)), (3, .int (if w5.2.1 < ((upd w5.2.2 (Int32.toNatClampNeg w5.1) (v_p2_kept (Int32.toNatClampNeg w5.1))) (Int32.toNatClampNeg w5.1)) then ((upd w5.2.2 (Int32.toNatClampNeg w5.1) (v_p2_kept (Int32.toNatClampNeg w5.1))) (Int32.toNatClampNeg w5.1)) else w5.2.1)), (0, .ref q_this), (1, .ref q_p1), (2, .ref q_p2)]) hx hb dX7_greatest_40 hl (k := 1) rfl rfl (by decide) rfl (fun ls hl => ?_)
        refine lv_goto (tgt := 5) hx hb dX7_greatest_43 (by decide) ?_
        have hr9 := Option.some.inj hrun
        subst hr9
        exact ih ((w5.1 + 1), (if w5.2.1 < ((upd w5.2.2 (Int32.toNatClampNeg w5.1) (v_p2_kept (Int32.toNatClampNeg w5.1))) (Int32.toNatClampNeg w5.1)) then ((upd w5.2.2 (Int32.toNatClampNeg w5.1) (v_p2_kept (Int32.toNatClampNeg w5.1))) (Int32.toNatClampNeg w5.1)) else w5.2.1), (upd w5.2.2 (Int32.toNatClampNeg w5.1) (v_p2_kept (Int32.toNatClampNeg w5.1)))) _ hnext hexit _ _ _ (hP.sub [0, 1, 2, 3, 4, 5, 6] rfl) (hD.sub [0, 1, 2, 3, 4, 5, 6] (by decide) rfl) hS (lv_sub hl [0, 1, 2, 3, 4] rfl)
  refine hL5 oz_fuel (0, 0, v_standing) o5 hlp5 (fun H locs ls hP hD hS hl => ?_) _ _ _ (hP.sub [0, 1, 2, 3, 4, 5, 6] rfl) (hD.sub [0, 1, 2, 3, 4, 5, 6] (by decide) rfl) hS (lv_sub hl [0, 1, 2, 3, 4] rfl)
  have hP : va_P (dC, dI) vwCl [(q_this, .inr (7, [.ref q_order, .ref q_standing, .int v_count, .int v_pulledSet])), (q_order, .inl (cI, 6, .inl v_order)), (q_standing, .inl (cI, 8, .inl o5.2.2)), (q_p1, .inr (6, [.int v_p1_stands, .int v_p1_lent, .int v_p1_pipe, .int v_p1_houses, .ref q_p1_room, .ref q_p1_daily, .ref q_p1_drain, .ref q_p1_above])), (q_p1_drain, .inl (cI, 8, .inl v_p1_drain)), (q_p2, .inr (10, [.ref q_p2_kept, .ref q_p2_away, .int v_p2_days, .int v_p2_spilled, .int v_p2_river])), (q_p2_kept, .inl (cI, 8, .inl v_p2_kept))] H := hP
  have hD : va_D A [(q_this, .inr (7, [.ref q_order, .ref q_standing, .int v_count, .int v_pulledSet])), (q_order, .inl (cI, 6, .inl v_order)), (q_standing, .inl (cI, 8, .inl o5.2.2)), (q_p1, .inr (6, [.int v_p1_stands, .int v_p1_lent, .int v_p1_pipe, .int v_p1_houses, .ref q_p1_room, .ref q_p1_daily, .ref q_p1_drain, .ref q_p1_above])), (q_p1_drain, .inl (cI, 8, .inl v_p1_drain)), (q_p2, .inr (10, [.ref q_p2_kept, .ref q_p2_away, .int v_p2_days, .int v_p2_spilled, .int v_p2_river])), (q_p2_kept, .inl (cI, 8, .inl v_p2_kept))] := hD
  have hl : lv_has ls 5 [(4, .int o5.1), (3, .int o5.2.1), (0, .ref q_this), (1, .ref q_p1), (2, .ref q_p2)] := hl
  refine lv_aload_n hx hb dX7_greatest_46 rfl (lv_at hl 2 rfl) ?_
  refine lv_iconst (v := 0) hx hb dX7_greatest_47 (by decide) ?_
  refine va_put (D := (dC, dI)) (ci := 7) (v := .int 0) (ty := .int) (C := RX7) (T := TX7) (N := 4) hx hb hts hiX7 tyX7 tyX7_ok nmX7 hown hK hP hD hS 0 rfl rfl 3 (by decide) hk22 (fun _ h9 => h9) rfl (by decide +kernel) rfl rfl (Nat.le_of_ble_eq_true rfl) dX7_greatest_48 (fun H locs hP hD hS => ?_)
  have hP : va_P (dC, dI) vwCl [(q_this, .inr (7, [.ref q_order, .ref q_standing, .int v_count, .int 0])), (q_order, .inl (cI, 6, .inl v_order)), (q_standing, .inl (cI, 8, .inl o5.2.2)), (q_p1, .inr (6, [.int v_p1_stands, .int v_p1_lent, .int v_p1_pipe, .int v_p1_houses, .ref q_p1_room, .ref q_p1_daily, .ref q_p1_drain, .ref q_p1_above])), (q_p1_drain, .inl (cI, 8, .inl v_p1_drain)), (q_p2, .inr (10, [.ref q_p2_kept, .ref q_p2_away, .int v_p2_days, .int v_p2_spilled, .int v_p2_river])), (q_p2_kept, .inl (cI, 8, .inl v_p2_kept))] H := hP
  have hD : va_D A [(q_this, .inr (7, [.ref q_order, .ref q_standing, .int v_count, .int 0])), (q_order, .inl (cI, 6, .inl v_order)), (q_standing, .inl (cI, 8, .inl o5.2.2)), (q_p1, .inr (6, [.int v_p1_stands, .int v_p1_lent, .int v_p1_pipe, .int v_p1_houses, .ref q_p1_room, .ref q_p1_daily, .ref q_p1_drain, .ref q_p1_above])), (q_p1_drain, .inl (cI, 8, .inl v_p1_drain)), (q_p2, .inr (10, [.ref q_p2_kept, .ref q_p2_away, .int v_p2_days, .int v_p2_spilled, .int v_p2_river])), (q_p2_kept, .inl (cI, 8, .inl v_p2_kept))] := hD
  refine lv_iconst (v := 0) hx hb dX7_greatest_51 (by decide) ?_
  refine lv_istore (lv' := [(4, .int 0), (3, .int o5.2.1), (0, .ref q_this), (1, .ref q_p1), (2, .ref q_p2)]) hx hb dX7_greatest_52 hl (by decide) rfl (fun ls hl => ?_)
  obtain ⟨o54, hlp54, hrun⟩ := oz_bind hrun
  have hL54 : ∀ (n : Nat) (w54 : Int32 × Int32 × Int32 × (Nat → Int32)) (o54 : Int32 × Int32 × Int32 × (Nat → Int32)), oz_loop (fX7_greatest_b54 v_count v_order v_p1_houses v_p1_drain) n w54 = some o54 → (∀ (H : Heap) (locs : List Loc) (ls : Array Slot), va_P (dC, dI) vwCl [(q_this, .inr (7, [.ref q_order, .ref q_standing, .int v_count, .int o54.2.2.1])), (q_order, .inl (cI, 6, .inl v_order)), (q_standing, .inl (cI, 8, .inl o54.2.2.2)), (q_p1, .inr (6, [.int v_p1_stands, .int v_p1_lent, .int v_p1_pipe, .int v_p1_houses, .ref q_p1_room, .ref q_p1_daily, .ref q_p1_drain, .ref q_p1_above])), (q_p1_drain, .inl (cI, 8, .inl v_p1_drain)), (q_p2, .inr (10, [.ref q_p2_kept, .ref q_p2_away, .int v_p2_days, .int v_p2_spilled, .int v_p2_river])), (q_p2_kept, .inl (cI, 8, .inl v_p2_kept))] H → va_D A [(q_this, .inr (7, [.ref q_order, .ref q_standing, .int v_count, .int o54.2.2.1])), (q_order, .inl (cI, 6, .inl v_order)), (q_standing, .inl (cI, 8, .inl o54.2.2.2)), (q_p1, .inr (6, [.int v_p1_stands, .int v_p1_lent, .int v_p1_pipe, .int v_p1_houses, .ref q_p1_room, .ref q_p1_daily, .ref q_p1_drain, .ref q_p1_above])), (q_p1_drain, .inl (cI, 8, .inl v_p1_drain)), (q_p2, .inr (10, [.ref q_p2_kept, .ref q_p2_away, .int v_p2_days, .int v_p2_spilled, .int v_p2_river])), (q_p2_kept, .inl (cI, 8, .inl v_p2_kept))] → va_S A s.heap H locs → lv_has ls 5 [(4, .int o54.1), (3, .int o54.2.1), (0, .ref q_this), (1, .ref q_p1)] → W p l e (headSpec wsX7_greatest rmX7_greatest).room s m (([.ref q_this, .ref q_p1, .ref q_p2] : List Value).toArray) below meth c H locs 0 0 Q (F0 m 86 ls [])) → ∀ (H : Heap) (locs : List Loc) (ls : Array Slot), va_P (dC, dI) vwCl [(q_this, .inr (7, [.ref q_order, .ref q_standing, .int v_count, .int w54.2.2.1])), (q_order, .inl (cI, 6, .inl v_order)), (q_standing, .inl (cI, 8, .inl w54.2.2.2)), (q_p1, .inr (6, [.int v_p1_stands, .int v_p1_lent, .int v_p1_pipe, .int v_p1_houses, .ref q_p1_room, .ref q_p1_daily, .ref q_p1_drain, .ref q_p1_above])), (q_p1_drain, .inl (cI, 8, .inl v_p1_drain)), (q_p2, .inr (10, [.ref q_p2_kept, .ref q_p2_away, .int v_p2_days, .int v_p2_spilled, .int v_p2_river])), (q_p2_kept, .inl (cI, 8, .inl v_p2_kept))] H → va_D A [(q_this, .inr (7, [.ref q_order, .ref q_standing, .int v_count, .int w54.2.2.1])), (q_order, .inl (cI, 6, .inl v_order)), (q_standing, .inl (cI, 8, .inl w54.2.2.2)), (q_p1, .inr (6, [.int v_p1_stands, .int v_p1_lent, .int v_p1_pipe, .int v_p1_houses, .ref q_p1_room, .ref q_p1_daily, .ref q_p1_drain, .ref q_p1_above])), (q_p1_drain, .inl (cI, 8, .inl v_p1_drain)), (q_p2, .inr (10, [.ref q_p2_kept, .ref q_p2_away, .int v_p2_days, .int v_p2_spilled, .int v_p2_river])), (q_p2_kept, .inl (cI, 8, .inl v_p2_kept))] → va_S A s.heap H locs → lv_has ls 5 [(4, .int w54.1), (3, .int w54.2.1), (0, .ref q_this), (1, .ref q_p1)] → W p l e (headSpec wsX7_greatest rmX7_greatest).room s m (([.ref q_this, .ref q_p1, .ref q_p2] : List Value).toArray) below meth c H locs 0 0 Q (F0 m 54 ls []) := by
    intro n
    induction n with
    | zero => intro w54 o54 h9; exact (oz_zero h9).elim
    | succ n ih =>
      intro w54 o54 h9 hexit H locs ls hP hD hS hl
      obtain ⟨r9, hrun, hnext⟩ := oz_step h9
      unfold fX7_greatest_b54 at hrun
      refine lv_iload hx hb dX7_greatest_54 (lv_at hl 0 rfl) ?_
      refine lv_aload_n hx hb dX7_greatest_56 rfl (lv_at hl 2 rfl) ?_
      refine va_get (D := (dC, dI)) (ci := 7) (v := .int v_count) (C := RX7) (T := TX7) (N := 4) hx hb hts hiX7 hown hK hP 0 rfl rfl 2 (by decide) hk18 (fun _ h9 => h9) rfl dX7_greatest_57 ?_
      refine lv_icmp_ge (tgt := 86) hx hb dX7_greatest_60 (by decide) (fun c3 => ?_) (fun c3 => ?_)
      · have hrun := oz_t hrun c3
        have hr9 := Option.some.inj hrun
        subst hr9
        have ho9 : (w54.1, w54.2.1, w54.2.2.1, w54.2.2.2) = o54 := hnext
        subst ho9
        exact hexit _ _ _ (hP.sub [0, 1, 2, 3, 4, 5, 6] rfl) (hD.sub [0, 1, 2, 3, 4, 5, 6] (by decide) rfl) hS (lv_sub hl [0, 1, 2, 3] rfl)
      · have hrun := oz_f hrun c3
        refine lv_iload_n hx hb dX7_greatest_63 rfl (lv_at hl 1 rfl) ?_
        refine lv_aload_n hx hb dX7_greatest_64 rfl (lv_at hl 2 rfl) ?_
        refine lv_aload_n hx hb dX7_greatest_65 rfl (lv_at hl 3 rfl) ?_
        refine lv_aload_n hx hb dX7_greatest_66 rfl (lv_at hl 2 rfl) ?_
        refine va_get (D := (dC, dI)) (ci := 7) (v := .ref q_order) (C := RX7) (T := TX7) (N := 4) hx hb hts hiX7 hown hK hP 0 rfl rfl 0 (by decide) hk11 (fun _ h9 => h9) rfl dX7_greatest_67 ?_
        refine lv_iload hx hb dX7_greatest_70 (lv_at hl 0 rfl) ?_
        obtain ⟨c4, hrun⟩ := oz_chk hrun
        refine va_iald hx hb hK hP 1 0 rfl rfl c4 dX7_greatest_72 ?_
        obtain ⟨y73, hc73, hrun⟩ := oz_bind hrun
        have hPc := hP.sub (ws' := [(q_this, .inr (7, [.ref q_order, .ref q_standing, .int v_count, .int w54.2.2.1])), (q_standing, .inl (cI, 8, .inl w54.2.2.2)), (q_p1, .inr (6, [.int v_p1_stands, .int v_p1_lent, .int v_p1_pipe, .int v_p1_houses, .ref q_p1_room, .ref q_p1_daily, .ref q_p1_drain, .ref q_p1_above])), (q_p1_drain, .inl (cI, 8, .inl v_p1_drain))]) [0, 2, 3, 4] rfl
        have hDc := hD.sub (ws' := [(q_this, .inr (7, [.ref q_order, .ref q_standing, .int v_count, .int w54.2.2.1])), (q_standing, .inl (cI, 8, .inl w54.2.2.2)), (q_p1, .inr (6, [.int v_p1_stands, .int v_p1_lent, .int v_p1_pipe, .int v_p1_houses, .ref q_p1_room, .ref q_p1_daily, .ref q_p1_drain, .ref q_p1_above])), (q_p1_drain, .inl (cI, 8, .inl v_p1_drain))]) [0, 2, 3, 4] (by decide) rfl
        have hFc := va_free (wc := [(q_this, .inr (7, [.ref q_order, .ref q_standing, .int v_count, .int w54.2.2.1])), (q_standing, .inl (cI, 8, .inl w54.2.2.2)), (q_p1, .inr (6, [.int v_p1_stands, .int v_p1_lent, .int v_p1_pipe, .int v_p1_houses, .ref q_p1_room, .ref q_p1_daily, .ref q_p1_drain, .ref q_p1_above])), (q_p1_drain, .inl (cI, 8, .inl v_p1_drain))]) hD hS hA [0, 2, 3, 4] rfl
        refine va_calli (va_runV (As := [.ref q_p1, .int (v_order (Int32.toNatClampNeg w54.1))]) (rest := [.int w54.2.1]) ⟨hx, hb, hml, hown, hts⟩ (tX7_pull l dC dI cI cZ q_order q_p1 q_p1_above q_p1_daily q_p1_drain q_p1_room q_standing q_this H.size v_count v_p1_stands v_p1_lent v_p1_pipe w54.2.2.1 w54.2.2.2 v_p1_houses v_p1_drain (v_order (Int32.toNatClampNeg w54.1)) y73 hc73) (cwV 2 hts gX7_greatest_X7_pull rfl rfl rfl (by decide +kernel) ⟨Nat.le_of_ble_eq_true rfl, Nat.le_of_ble_eq_true rfl⟩) ⟨fun a U g mk q => by obtain ⟨q0, q1, qP, qK, qD⟩ := q; exact ⟨q0, q1, qP, va_K.moved (u := U) (U := U.calling g mk a) (Vm.Alike.refl U.vm) qK, qD⟩, va_recv hK hPc (ci := 7) (q0 := 0) rfl rfl, fun U hU hW => ⟨rfl, by rw [hU], by rw [hU]; exact hPc, va_K.moved hW.alike hK, hDc.weaken (fun _ _ _ _ => trivial)⟩⟩ rfl rfl hl.1 rfl (lv_room (Nat.le_of_ble_eq_true rfl)) dX7_greatest_73 ⟨Nat.le_of_ble_eq_true rfl, Nat.le_of_ble_eq_true rfl⟩) hS (fun q _ h => hFc q h) hFc (fun r73 u9 t9 H1 locs ht9 hvm9 hw9 hB9 hz9 hkk9 hS => ?_)
        have hw9 : y73.1 = r73 := hw9.symm
        subst hw9
        obtain ⟨hP9, hK9, hD9⟩ := hB9
        rw [ht9] at hP9
        obtain ⟨hP, hD⟩ := va_join (wr := [(q_order, .inl (cI, 6, .inl v_order)), (q_p2, .inr (10, [.ref q_p2_kept, .ref q_p2_away, .int v_p2_days, .int v_p2_spilled, .int v_p2_river])), (q_p2_kept, .inl (cI, 8, .inl v_p2_kept))]) (w1 := [(q_this, .inr (7, [.ref q_order, .ref q_standing, .int v_count, .int y73.2.1])), (q_standing, .inl (cI, 8, .inl y73.2.2)), (q_p1, .inr (6, [.int v_p1_stands, .int v_p1_lent, .int v_p1_pipe, .int v_p1_houses, .ref q_p1_room, .ref q_p1_daily, .ref q_p1_drain, .ref q_p1_above])), (q_p1_drain, .inl (cI, 8, .inl v_p1_drain))]) hP hD [0, 2, 3, 4] [1, 5, 6] rfl rfl (by decide) (by decide) hkk9 hFc hP9 hD9
        generalize H1 = H at hP hS ⊢
        have hP : va_P (dC, dI) vwCl [(q_order, .inl (cI, 6, .inl v_order)), (q_p2, .inr (10, [.ref q_p2_kept, .ref q_p2_away, .int v_p2_days, .int v_p2_spilled, .int v_p2_river])), (q_p2_kept, .inl (cI, 8, .inl v_p2_kept)), (q_this, .inr (7, [.ref q_order, .ref q_standing, .int v_count, .int y73.2.1])), (q_standing, .inl (cI, 8, .inl y73.2.2)), (q_p1, .inr (6, [.int v_p1_stands, .int v_p1_lent, .int v_p1_pipe, .int v_p1_houses, .ref q_p1_room, .ref q_p1_daily, .ref q_p1_drain, .ref q_p1_above])), (q_p1_drain, .inl (cI, 8, .inl v_p1_drain))] H := hP
        have hD : va_D A [(q_order, .inl (cI, 6, .inl v_order)), (q_p2, .inr (10, [.ref q_p2_kept, .ref q_p2_away, .int v_p2_days, .int v_p2_spilled, .int v_p2_river])), (q_p2_kept, .inl (cI, 8, .inl v_p2_kept)), (q_this, .inr (7, [.ref q_order, .ref q_standing, .int v_count, .int y73.2.1])), (q_standing, .inl (cI, 8, .inl y73.2.2)), (q_p1, .inr (6, [.int v_p1_stands, .int v_p1_lent, .int v_p1_pipe, .int v_p1_houses, .ref q_p1_room, .ref q_p1_daily, .ref q_p1_drain, .ref q_p1_above])), (q_p1_drain, .inl (cI, 8, .inl v_p1_drain))] := hD
        refine va_mmax hx hb (hml.trans hl.1.symm) hown hk35 hst_max hiniM hcd_max (Nat.le_of_ble_eq_true rfl) (Nat.le_of_ble_eq_true rfl) (Nat.zero_le _) (Nat.zero_le _) dX7_greatest_76 ?_
        refine lv_istore_n (lv' := [(3, .int (if w54.2.1 < y73.1 then y73.1 else w54.2.1)), (4, .int w54.1), (0, .ref q_this), (1, .ref q_p1)]) hx hb dX7_greatest_79 rfl hl (by decide) rfl (fun ls hl => ?_)
        refine lv_iinc (v := (w54.1 + 1)) (lv' := [(4, .int (w54.1 + 1)), (3, .int (if w54.2.1 < y73.1 then y73.1 else w54.2.1)), (0, .ref q_this), (1, .ref q_p1)]) hx hb dX7_greatest_80 hl (k := 1) rfl rfl (by decide) rfl (fun ls hl => ?_)
        refine lv_goto (tgt := 54) hx hb dX7_greatest_83 (by decide) ?_
        have hr9 := Option.some.inj hrun
        subst hr9
        exact ih ((w54.1 + 1), (if w54.2.1 < y73.1 then y73.1 else w54.2.1), y73.2.1, y73.2.2) _ hnext hexit _ _ _ (hP.sub [3, 0, 4, 5, 6, 1, 2] rfl) (hD.sub [3, 0, 4, 5, 6, 1, 2] (by decide) rfl) hS (lv_sub hl [0, 1, 2, 3] rfl)
  refine hL54 oz_fuel (0, o5.2.1, 0, o5.2.2) o54 hlp54 (fun H locs ls hP hD hS hl => ?_) _ _ _ (hP.sub [0, 1, 2, 3, 4, 5, 6] rfl) (hD.sub [0, 1, 2, 3, 4, 5, 6] (by decide) rfl) hS (lv_sub hl [0, 1, 2, 3] rfl)
  have hP : va_P (dC, dI) vwCl [(q_this, .inr (7, [.ref q_order, .ref q_standing, .int v_count, .int o54.2.2.1])), (q_order, .inl (cI, 6, .inl v_order)), (q_standing, .inl (cI, 8, .inl o54.2.2.2)), (q_p1, .inr (6, [.int v_p1_stands, .int v_p1_lent, .int v_p1_pipe, .int v_p1_houses, .ref q_p1_room, .ref q_p1_daily, .ref q_p1_drain, .ref q_p1_above])), (q_p1_drain, .inl (cI, 8, .inl v_p1_drain)), (q_p2, .inr (10, [.ref q_p2_kept, .ref q_p2_away, .int v_p2_days, .int v_p2_spilled, .int v_p2_river])), (q_p2_kept, .inl (cI, 8, .inl v_p2_kept))] H := hP
  have hD : va_D A [(q_this, .inr (7, [.ref q_order, .ref q_standing, .int v_count, .int o54.2.2.1])), (q_order, .inl (cI, 6, .inl v_order)), (q_standing, .inl (cI, 8, .inl o54.2.2.2)), (q_p1, .inr (6, [.int v_p1_stands, .int v_p1_lent, .int v_p1_pipe, .int v_p1_houses, .ref q_p1_room, .ref q_p1_daily, .ref q_p1_drain, .ref q_p1_above])), (q_p1_drain, .inl (cI, 8, .inl v_p1_drain)), (q_p2, .inr (10, [.ref q_p2_kept, .ref q_p2_away, .int v_p2_days, .int v_p2_spilled, .int v_p2_river])), (q_p2_kept, .inl (cI, 8, .inl v_p2_kept))] := hD
  have hl : lv_has ls 5 [(4, .int o54.1), (3, .int o54.2.1), (0, .ref q_this), (1, .ref q_p1)] := hl
  refine lv_iload_n hx hb dX7_greatest_86 rfl (lv_at hl 1 rfl) ?_
  have ho9 := Option.some.inj hrun
  subst ho9
  have hP9 := hP.sub (ws' := [(q_this, .inr (7, [.ref q_order, .ref q_standing, .int v_count, .int o54.2.2.1])), (q_order, .inl (cI, 6, .inl v_order)), (q_standing, .inl (cI, 8, .inl o54.2.2.2)), (q_p1, .inr (6, [.int v_p1_stands, .int v_p1_lent, .int v_p1_pipe, .int v_p1_houses, .ref q_p1_room, .ref q_p1_daily, .ref q_p1_drain, .ref q_p1_above])), (q_p1_drain, .inl (cI, 8, .inl v_p1_drain)), (q_p2, .inr (10, [.ref q_p2_kept, .ref q_p2_away, .int v_p2_days, .int v_p2_spilled, .int v_p2_river])), (q_p2_kept, .inl (cI, 8, .inl v_p2_kept))]) [0, 1, 2, 3, 4, 5, 6] rfl
  have hD9 := hD.sub (ws' := [(q_this, .inr (7, [.ref q_order, .ref q_standing, .int v_count, .int o54.2.2.1])), (q_order, .inl (cI, 6, .inl v_order)), (q_standing, .inl (cI, 8, .inl o54.2.2.2)), (q_p1, .inr (6, [.int v_p1_stands, .int v_p1_lent, .int v_p1_pipe, .int v_p1_houses, .ref q_p1_room, .ref q_p1_daily, .ref q_p1_drain, .ref q_p1_above])), (q_p1_drain, .inl (cI, 8, .inl v_p1_drain)), (q_p2, .inr (10, [.ref q_p2_kept, .ref q_p2_away, .int v_p2_days, .int v_p2_spilled, .int v_p2_river])), (q_p2_kept, .inl (cI, 8, .inl v_p2_kept))]) [0, 1, 2, 3, 4, 5, 6] (by decide) rfl
  rw [hQ]
  exact W.iret (v := o54.2.1) hx hb hr (fun t ht hW => ⟨⟨o54.2.1, (), rfl, rfl, by rw [ht]; exact hP9, va_K.moved hW.alike hK, hD9⟩, hS.F ht⟩) hS.2.2 dX7_greatest_87
def fJ6_bitCount_0f7a4 (a0 : Int32) : Option (Int32) :=
  some ((((((((a0 - ((Int32.toUInt32 a0 >>> (Int32.toUInt32 1 &&& Int32.toUInt32 31)).toInt32 &&& 1431655765)) &&& 858993459) + ((Int32.toUInt32 (a0 - ((Int32.toUInt32 a0 >>> (Int32.toUInt32 1 &&& Int32.toUInt32 31)).toInt32 &&& 1431655765)) >>> (Int32.toUInt32 2 &&& Int32.toUInt32 31)).toInt32 &&& 858993459)) + (Int32.toUInt32 (((a0 - ((Int32.toUInt32 a0 >>> (Int32.toUInt32 1 &&& Int32.toUInt32 31)).toInt32 &&& 1431655765)) &&& 858993459) + ((Int32.toUInt32 (a0 - ((Int32.toUInt32 a0 >>> (Int32.toUInt32 1 &&& Int32.toUInt32 31)).toInt32 &&& 1431655765)) >>> (Int32.toUInt32 2 &&& Int32.toUInt32 31)).toInt32 &&& 858993459)) >>> (Int32.toUInt32 4 &&& Int32.toUInt32 31)).toInt32) &&& 252645135) + (Int32.toUInt32 (((((a0 - ((Int32.toUInt32 a0 >>> (Int32.toUInt32 1 &&& Int32.toUInt32 31)).toInt32 &&& 1431655765)) &&& 858993459) + ((Int32.toUInt32 (a0 - ((Int32.toUInt32 a0 >>> (Int32.toUInt32 1 &&& Int32.toUInt32 31)).toInt32 &&& 1431655765)) >>> (Int32.toUInt32 2 &&& Int32.toUInt32 31)).toInt32 &&& 858993459)) + (Int32.toUInt32 (((a0 - ((Int32.toUInt32 a0 >>> (Int32.toUInt32 1 &&& Int32.toUInt32 31)).toInt32 &&& 1431655765)) &&& 858993459) + ((Int32.toUInt32 (a0 - ((Int32.toUInt32 a0 >>> (Int32.toUInt32 1 &&& Int32.toUInt32 31)).toInt32 &&& 1431655765)) >>> (Int32.toUInt32 2 &&& Int32.toUInt32 31)).toInt32 &&& 858993459)) >>> (Int32.toUInt32 4 &&& Int32.toUInt32 31)).toInt32) &&& 252645135) >>> (Int32.toUInt32 8 &&& Int32.toUInt32 31)).toInt32) + (Int32.toUInt32 ((((((a0 - ((Int32.toUInt32 a0 >>> (Int32.toUInt32 1 &&& Int32.toUInt32 31)).toInt32 &&& 1431655765)) &&& 858993459) + ((Int32.toUInt32 (a0 - ((Int32.toUInt32 a0 >>> (Int32.toUInt32 1 &&& Int32.toUInt32 31)).toInt32 &&& 1431655765)) >>> (Int32.toUInt32 2 &&& Int32.toUInt32 31)).toInt32 &&& 858993459)) + (Int32.toUInt32 (((a0 - ((Int32.toUInt32 a0 >>> (Int32.toUInt32 1 &&& Int32.toUInt32 31)).toInt32 &&& 1431655765)) &&& 858993459) + ((Int32.toUInt32 (a0 - ((Int32.toUInt32 a0 >>> (Int32.toUInt32 1 &&& Int32.toUInt32 31)).toInt32 &&& 1431655765)) >>> (Int32.toUInt32 2 &&& Int32.toUInt32 31)).toInt32 &&& 858993459)) >>> (Int32.toUInt32 4 &&& Int32.toUInt32 31)).toInt32) &&& 252645135) + (Int32.toUInt32 (((((a0 - ((Int32.toUInt32 a0 >>> (Int32.toUInt32 1 &&& Int32.toUInt32 31)).toInt32 &&& 1431655765)) &&& 858993459) + ((Int32.toUInt32 (a0 - ((Int32.toUInt32 a0 >>> (Int32.toUInt32 1 &&& Int32.toUInt32 31)).toInt32 &&& 1431655765)) >>> (Int32.toUInt32 2 &&& Int32.toUInt32 31)).toInt32 &&& 858993459)) + (Int32.toUInt32 (((a0 - ((Int32.toUInt32 a0 >>> (Int32.toUInt32 1 &&& Int32.toUInt32 31)).toInt32 &&& 1431655765)) &&& 858993459) + ((Int32.toUInt32 (a0 - ((Int32.toUInt32 a0 >>> (Int32.toUInt32 1 &&& Int32.toUInt32 31)).toInt32 &&& 1431655765)) >>> (Int32.toUInt32 2 &&& Int32.toUInt32 31)).toInt32 &&& 858993459)) >>> (Int32.toUInt32 4 &&& Int32.toUInt32 31)).toInt32) &&& 252645135) >>> (Int32.toUInt32 8 &&& Int32.toUInt32 31)).toInt32) >>> (Int32.toUInt32 16 &&& Int32.toUInt32 31)).toInt32) &&& 63)
def rmJ6_bitCount_0f7a4 : Room := { frames := 0, cells := 0, slots := 0, locals := 0 }
set_option maxHeartbeats 4000000 in
set_option maxRecDepth 100000 in
theorem tJ6_bitCount_0f7a4 (l : Launch) (dC : Nat → ClassId) (dI : Nat → Nat → Nat) (cI cZ : ClassId) (sz : Nat) (a0 : Int32) (out : Int32) (hrun : fJ6_bitCount_0f7a4 a0 = some out) : Met l yJ6_bitCount_0f7a4 wsJ6_bitCount_0f7a4 rmJ6_bitCount_0f7a4 (va_Pc [.int a0] (fun U => U.heap.size = sz ∧ va_P (dC, dI) vwCl [] U.heap ∧ va_K (dC, dI) vwCl [(cI, .int), (cZ, .boolean)] U ∧ va_D (fun _ => True) [])) (va_Qi (fun (r : Int32) (_ : Unit) => r = out) (fun _ t => va_P (dC, dI) vwCl [] t.heap ∧ va_K (dC, dI) vwCl [(cI, .int), (cZ, .boolean)] t ∧ va_D (va_A [] sz) []) (va_A [] sz)) 0 0 (va_A [] sz) := by
  refine Met.ofW (cc := cJ6_bitCount_0f7a4) (maxL := 1) (ret := (some .int)) (by decide) rfl ?_
  intro p e s m args below meth c s₁ B hml hv
  obtain ⟨rfl, hsz, hP, hK, hD0⟩ := hv
  have hx := B.exec
  have hb := B.bytes
  have hr := B.returns
  have hts := atoms_spec (ws := wsJ6_bitCount_0f7a4) B.pre
  have hown : s.vm.findClass RJ6 = some m.cls := findClass_of_methodNamed B.named
  have hlocks := B.notSynchronized
  subst hsz
  have hD := hD0.self (sz := s.heap.size)
  generalize hAe : va_A [] s.heap.size = A at hD ⊢
  have hA : ∀ q : Nat, s.heap.size ≤ q → A q := fun q h => by rw [← hAe]; exact Or.inr h
  have hS : va_S A s.heap s.heap [] := va_S.rf
  have hl := lv_entry ([.int a0]) (n := 1) (Nat.le_of_ble_eq_true rfl)
  rw [lg_entry_eq]
  generalize (lg_sl ([.int a0]) ++ List.replicate (1 - (lg_sl ([.int a0])).length) Slot.unset).toArray = ls at hl ⊢
  have hl : lv_has ls 1 [(0, .int a0)] := hl
  unfold fJ6_bitCount_0f7a4 at hrun
  have hk265 := hts (.constant RJ6 265 (1431655765)) (by decide +kernel)
  have hk266 := hts (.constant RJ6 266 (858993459)) (by decide +kernel)
  have hk267 := hts (.constant RJ6 267 (252645135)) (by decide +kernel)
  refine oz_genQ (fun Q hQ => ?_)
  refine lv_iload_n hx hb dJ6_bitCount_0f7a4_0 rfl (lv_at hl 0 rfl) ?_
  refine lv_iload_n hx hb dJ6_bitCount_0f7a4_1 rfl (lv_at hl 0 rfl) ?_
  refine lv_iconst (v := 1) hx hb dJ6_bitCount_0f7a4_2 (by decide) ?_
  refine lv_iushr hx hb dJ6_bitCount_0f7a4_3 rfl ?_
  refine lv_ldcw hx hb hown hk265 dJ6_bitCount_0f7a4_4 ?_
  refine lv_iand hx hb dJ6_bitCount_0f7a4_7 ?_
  refine lv_isub hx hb dJ6_bitCount_0f7a4_8 ?_
  refine lv_istore_n (lv' := [(0, .int (a0 - ((Int32.toUInt32 a0 >>> (Int32.toUInt32 1 &&& Int32.toUInt32 31)).toInt32 &&& 1431655765)))]) hx hb dJ6_bitCount_0f7a4_9 rfl hl (by decide) rfl (fun ls hl => ?_)
  refine lv_iload_n hx hb dJ6_bitCount_0f7a4_10 rfl (lv_at hl 0 rfl) ?_
  refine lv_ldcw hx hb hown hk266 dJ6_bitCount_0f7a4_11 ?_
  refine lv_iand hx hb dJ6_bitCount_0f7a4_14 ?_
  refine lv_iload_n hx hb dJ6_bitCount_0f7a4_15 rfl (lv_at hl 0 rfl) ?_
  refine lv_iconst (v := 2) hx hb dJ6_bitCount_0f7a4_16 (by decide) ?_
  refine lv_iushr hx hb dJ6_bitCount_0f7a4_17 rfl ?_
  refine lv_ldcw hx hb hown hk266 dJ6_bitCount_0f7a4_18 ?_
  refine lv_iand hx hb dJ6_bitCount_0f7a4_21 ?_
  refine lv_iadd hx hb dJ6_bitCount_0f7a4_22 ?_
  refine lv_istore_n (lv' := [(0, .int (((a0 - ((Int32.toUInt32 a0 >>> (Int32.toUInt32 1 &&& Int32.toUInt32 31)).toInt32 &&& 1431655765)) &&& 858993459) + ((Int32.toUInt32 (a0 - ((Int32.toUInt32 a0 >>> (Int32.toUInt32 1 &&& Int32.toUInt32 31)).toInt32 &&& 1431655765)) >>> (Int32.toUInt32 2 &&& Int32.toUInt32 31)).toInt32 &&& 858993459)))]) hx hb dJ6_bitCount_0f7a4_23 rfl hl (by decide) rfl (fun ls hl => ?_)
  refine lv_iload_n hx hb dJ6_bitCount_0f7a4_24 rfl (lv_at hl 0 rfl) ?_
  refine lv_iload_n hx hb dJ6_bitCount_0f7a4_25 rfl (lv_at hl 0 rfl) ?_
  refine lv_iconst (v := 4) hx hb dJ6_bitCount_0f7a4_26 (by decide) ?_
  refine lv_iushr hx hb dJ6_bitCount_0f7a4_27 rfl ?_
  refine lv_iadd hx hb dJ6_bitCount_0f7a4_28 ?_
  refine lv_ldcw hx hb hown hk267 dJ6_bitCount_0f7a4_29 ?_
  refine lv_iand hx hb dJ6_bitCount_0f7a4_32 ?_
  refine lv_istore_n (lv' := [(0, .int (((((a0 - ((Int32.toUInt32 a0 >>> (Int32.toUInt32 1 &&& Int32.toUInt32 31)).toInt32 &&& 1431655765)) &&& 858993459) + ((Int32.toUInt32 (a0 - ((Int32.toUInt32 a0 >>> (Int32.toUInt32 1 &&& Int32.toUInt32 31)).toInt32 &&& 1431655765)) >>> (Int32.toUInt32 2 &&& Int32.toUInt32 31)).toInt32 &&& 858993459)) + (Int32.toUInt32 (((a0 - ((Int32.toUInt32 a0 >>> (Int32.toUInt32 1 &&& Int32.toUInt32 31)).toInt32 &&& 1431655765)) &&& 858993459) + ((Int32.toUInt32 (a0 - ((Int32.toUInt32 a0 >>> (Int32.toUInt32 1 &&& Int32.toUInt32 31)).toInt32 &&& 1431655765)) >>> (Int32.toUInt32 2 &&& Int32.toUInt32 31)).toInt32 &&& 858993459)) >>> (Int32.toUInt32 4 &&& Int32.toUInt32 31)).toInt32) &&& 252645135))]) hx hb dJ6_bitCount_0f7a4_33 rfl hl (by decide) rfl (fun ls hl => ?_)
  refine lv_iload_n hx hb dJ6_bitCount_0f7a4_34 rfl (lv_at hl 0 rfl) ?_
  refine lv_iload_n hx hb dJ6_bitCount_0f7a4_35 rfl (lv_at hl 0 rfl) ?_
  refine lv_bipush (v := 8) hx hb dJ6_bitCount_0f7a4_36 (by decide) ?_
  refine lv_iushr hx hb dJ6_bitCount_0f7a4_38 rfl ?_
  refine lv_iadd hx hb dJ6_bitCount_0f7a4_39 ?_
  refine lv_istore_n (lv' := [(0, .int ((((((a0 - ((Int32.toUInt32 a0 >>> (Int32.toUInt32 1 &&& Int32.toUInt32 31)).toInt32 &&& 1431655765)) &&& 858993459) + ((Int32.toUInt32 (a0 - ((Int32.toUInt32 a0 >>> (Int32.toUInt32 1 &&& Int32.toUInt32 31)).toInt32 &&& 1431655765)) >>> (Int32.toUInt32 2 &&& Int32.toUInt32 31)).toInt32 &&& 858993459)) + (Int32.toUInt32 (((a0 - ((Int32.toUInt32 a0 >>> (Int32.toUInt32 1 &&& Int32.toUInt32 31)).toInt32 &&& 1431655765)) &&& 858993459) + ((Int32.toUInt32 (a0 - ((Int32.toUInt32 a0 >>> (Int32.toUInt32 1 &&& Int32.toUInt32 31)).toInt32 &&& 1431655765)) >>> (Int32.toUInt32 2 &&& Int32.toUInt32 31)).toInt32 &&& 858993459)) >>> (Int32.toUInt32 4 &&& Int32.toUInt32 31)).toInt32) &&& 252645135) + (Int32.toUInt32 (((((a0 - ((Int32.toUInt32 a0 >>> (Int32.toUInt32 1 &&& Int32.toUInt32 31)).toInt32 &&& 1431655765)) &&& 858993459) + ((Int32.toUInt32 (a0 - ((Int32.toUInt32 a0 >>> (Int32.toUInt32 1 &&& Int32.toUInt32 31)).toInt32 &&& 1431655765)) >>> (Int32.toUInt32 2 &&& Int32.toUInt32 31)).toInt32 &&& 858993459)) + (Int32.toUInt32 (((a0 - ((Int32.toUInt32 a0 >>> (Int32.toUInt32 1 &&& Int32.toUInt32 31)).toInt32 &&& 1431655765)) &&& 858993459) + ((Int32.toUInt32 (a0 - ((Int32.toUInt32 a0 >>> (Int32.toUInt32 1 &&& Int32.toUInt32 31)).toInt32 &&& 1431655765)) >>> (Int32.toUInt32 2 &&& Int32.toUInt32 31)).toInt32 &&& 858993459)) >>> (Int32.toUInt32 4 &&& Int32.toUInt32 31)).toInt32) &&& 252645135) >>> (Int32.toUInt32 8 &&& Int32.toUInt32 31)).toInt32))]) hx hb dJ6_bitCount_0f7a4_40 rfl hl (by decide) rfl (fun ls hl => ?_)
  refine lv_iload_n hx hb dJ6_bitCount_0f7a4_41 rfl (lv_at hl 0 rfl) ?_
  refine lv_iload_n hx hb dJ6_bitCount_0f7a4_42 rfl (lv_at hl 0 rfl) ?_
  refine lv_bipush (v := 16) hx hb dJ6_bitCount_0f7a4_43 (by decide) ?_
  refine lv_iushr hx hb dJ6_bitCount_0f7a4_45 rfl ?_
  refine lv_iadd hx hb dJ6_bitCount_0f7a4_46 ?_
  refine lv_istore_n (lv' := [(0, .int (((((((a0 - ((Int32.toUInt32 a0 >>> (Int32.toUInt32 1 &&& Int32.toUInt32 31)).toInt32 &&& 1431655765)) &&& 858993459) + ((Int32.toUInt32 (a0 - ((Int32.toUInt32 a0 >>> (Int32.toUInt32 1 &&& Int32.toUInt32 31)).toInt32 &&& 1431655765)) >>> (Int32.toUInt32 2 &&& Int32.toUInt32 31)).toInt32 &&& 858993459)) + (Int32.toUInt32 (((a0 - ((Int32.toUInt32 a0 >>> (Int32.toUInt32 1 &&& Int32.toUInt32 31)).toInt32 &&& 1431655765)) &&& 858993459) + ((Int32.toUInt32 (a0 - ((Int32.toUInt32 a0 >>> (Int32.toUInt32 1 &&& Int32.toUInt32 31)).toInt32 &&& 1431655765)) >>> (Int32.toUInt32 2 &&& Int32.toUInt32 31)).toInt32 &&& 858993459)) >>> (Int32.toUInt32 4 &&& Int32.toUInt32 31)).toInt32) &&& 252645135) + (Int32.toUInt32 (((((a0 - ((Int32.toUInt32 a0 >>> (Int32.toUInt32 1 &&& Int32.toUInt32 31)).toInt32 &&& 1431655765)) &&& 858993459) + ((Int32.toUInt32 (a0 - ((Int32.toUInt32 a0 >>> (Int32.toUInt32 1 &&& Int32.toUInt32 31)).toInt32 &&& 1431655765)) >>> (Int32.toUInt32 2 &&& Int32.toUInt32 31)).toInt32 &&& 858993459)) + (Int32.toUInt32 (((a0 - ((Int32.toUInt32 a0 >>> (Int32.toUInt32 1 &&& Int32.toUInt32 31)).toInt32 &&& 1431655765)) &&& 858993459) + ((Int32.toUInt32 (a0 - ((Int32.toUInt32 a0 >>> (Int32.toUInt32 1 &&& Int32.toUInt32 31)).toInt32 &&& 1431655765)) >>> (Int32.toUInt32 2 &&& Int32.toUInt32 31)).toInt32 &&& 858993459)) >>> (Int32.toUInt32 4 &&& Int32.toUInt32 31)).toInt32) &&& 252645135) >>> (Int32.toUInt32 8 &&& Int32.toUInt32 31)).toInt32) + (Int32.toUInt32 ((((((a0 - ((Int32.toUInt32 a0 >>> (Int32.toUInt32 1 &&& Int32.toUInt32 31)).toInt32 &&& 1431655765)) &&& 858993459) + ((Int32.toUInt32 (a0 - ((Int32.toUInt32 a0 >>> (Int32.toUInt32 1 &&& Int32.toUInt32 31)).toInt32 &&& 1431655765)) >>> (Int32.toUInt32 2 &&& Int32.toUInt32 31)).toInt32 &&& 858993459)) + (Int32.toUInt32 (((a0 - ((Int32.toUInt32 a0 >>> (Int32.toUInt32 1 &&& Int32.toUInt32 31)).toInt32 &&& 1431655765)) &&& 858993459) + ((Int32.toUInt32 (a0 - ((Int32.toUInt32 a0 >>> (Int32.toUInt32 1 &&& Int32.toUInt32 31)).toInt32 &&& 1431655765)) >>> (Int32.toUInt32 2 &&& Int32.toUInt32 31)).toInt32 &&& 858993459)) >>> (Int32.toUInt32 4 &&& Int32.toUInt32 31)).toInt32) &&& 252645135) + (Int32.toUInt32 (((((a0 - ((Int32.toUInt32 a0 >>> (Int32.toUInt32 1 &&& Int32.toUInt32 31)).toInt32 &&& 1431655765)) &&& 858993459) + ((Int32.toUInt32 (a0 - ((Int32.toUInt32 a0 >>> (Int32.toUInt32 1 &&& Int32.toUInt32 31)).toInt32 &&& 1431655765)) >>> (Int32.toUInt32 2 &&& Int32.toUInt32 31)).toInt32 &&& 858993459)) + (Int32.toUInt32 (((a0 - ((Int32.toUInt32 a0 >>> (Int32.toUInt32 1 &&& Int32.toUInt32 31)).toInt32 &&& 1431655765)) &&& 858993459) + ((Int32.toUInt32 (a0 - ((Int32.toUInt32 a0 >>> (Int32.toUInt32 1 &&& Int32.toUInt32 31)).toInt32 &&& 1431655765)) >>> (Int32.toUInt32 2 &&& Int32.toUInt32 31)).toInt32 &&& 858993459)) >>> (Int32.toUInt32 4 &&& Int32.toUInt32 31)).toInt32) &&& 252645135) >>> (Int32.toUInt32 8 &&& Int32.toUInt32 31)).toInt32) >>> (Int32.toUInt32 16 &&& Int32.toUInt32 31)).toInt32))]) hx hb dJ6_bitCount_0f7a4_47 rfl hl (by decide) rfl (fun ls hl => ?_)
  refine lv_iload_n hx hb dJ6_bitCount_0f7a4_48 rfl (lv_at hl 0 rfl) ?_
  refine lv_bipush (v := 63) hx hb dJ6_bitCount_0f7a4_49 (by decide) ?_
  refine lv_iand hx hb dJ6_bitCount_0f7a4_51 ?_
  have ho9 := Option.some.inj hrun
  subst ho9
  have hP9 := hP.sub (ws' := []) [] rfl
  have hD9 := hD.sub (ws' := []) [] (by decide) rfl
  rw [hQ]
  exact W.iret (v := ((((((((a0 - ((Int32.toUInt32 a0 >>> (Int32.toUInt32 1 &&& Int32.toUInt32 31)).toInt32 &&& 1431655765)) &&& 858993459) + ((Int32.toUInt32 (a0 - ((Int32.toUInt32 a0 >>> (Int32.toUInt32 1 &&& Int32.toUInt32 31)).toInt32 &&& 1431655765)) >>> (Int32.toUInt32 2 &&& Int32.toUInt32 31)).toInt32 &&& 858993459)) + (Int32.toUInt32 (((a0 - ((Int32.toUInt32 a0 >>> (Int32.toUInt32 1 &&& Int32.toUInt32 31)).toInt32 &&& 1431655765)) &&& 858993459) + ((Int32.toUInt32 (a0 - ((Int32.toUInt32 a0 >>> (Int32.toUInt32 1 &&& Int32.toUInt32 31)).toInt32 &&& 1431655765)) >>> (Int32.toUInt32 2 &&& Int32.toUInt32 31)).toInt32 &&& 858993459)) >>> (Int32.toUInt32 4 &&& Int32.toUInt32 31)).toInt32) &&& 252645135) + (Int32.toUInt32 (((((a0 - ((Int32.toUInt32 a0 >>> (Int32.toUInt32 1 &&& Int32.toUInt32 31)).toInt32 &&& 1431655765)) &&& 858993459) + ((Int32.toUInt32 (a0 - ((Int32.toUInt32 a0 >>> (Int32.toUInt32 1 &&& Int32.toUInt32 31)).toInt32 &&& 1431655765)) >>> (Int32.toUInt32 2 &&& Int32.toUInt32 31)).toInt32 &&& 858993459)) + (Int32.toUInt32 (((a0 - ((Int32.toUInt32 a0 >>> (Int32.toUInt32 1 &&& Int32.toUInt32 31)).toInt32 &&& 1431655765)) &&& 858993459) + ((Int32.toUInt32 (a0 - ((Int32.toUInt32 a0 >>> (Int32.toUInt32 1 &&& Int32.toUInt32 31)).toInt32 &&& 1431655765)) >>> (Int32.toUInt32 2 &&& Int32.toUInt32 31)).toInt32 &&& 858993459)) >>> (Int32.toUInt32 4 &&& Int32.toUInt32 31)).toInt32) &&& 252645135) >>> (Int32.toUInt32 8 &&& Int32.toUInt32 31)).toInt32) + (Int32.toUInt32 ((((((a0 - ((Int32.toUInt32 a0 >>> (Int32.toUInt32 1 &&& Int32.toUInt32 31)).toInt32 &&& 1431655765)) &&& 858993459) + ((Int32.toUInt32 (a0 - ((Int32.toUInt32 a0 >>> (Int32.toUInt32 1 &&& Int32.toUInt32 31)).toInt32 &&& 1431655765)) >>> (Int32.toUInt32 2 &&& Int32.toUInt32 31)).toInt32 &&& 858993459)) + (Int32.toUInt32 (((a0 - ((Int32.toUInt32 a0 >>> (Int32.toUInt32 1 &&& Int32.toUInt32 31)).toInt32 &&& 1431655765)) &&& 858993459) + ((Int32.toUInt32 (a0 - ((Int32.toUInt32 a0 >>> (Int32.toUInt32 1 &&& Int32.toUInt32 31)).toInt32 &&& 1431655765)) >>> (Int32.toUInt32 2 &&& Int32.toUInt32 31)).toInt32 &&& 858993459)) >>> (Int32.toUInt32 4 &&& Int32.toUInt32 31)).toInt32) &&& 252645135) + (Int32.toUInt32 (((((a0 - ((Int32.toUInt32 a0 >>> (Int32.toUInt32 1 &&& Int32.toUInt32 31)).toInt32 &&& 1431655765)) &&& 858993459) + ((Int32.toUInt32 (a0 - ((Int32.toUInt32 a0 >>> (Int32.toUInt32 1 &&& Int32.toUInt32 31)).toInt32 &&& 1431655765)) >>> (Int32.toUInt32 2 &&& Int32.toUInt32 31)).toInt32 &&& 858993459)) + (Int32.toUInt32 (((a0 - ((Int32.toUInt32 a0 >>> (Int32.toUInt32 1 &&& Int32.toUInt32 31)).toInt32 &&& 1431655765)) &&& 858993459) + ((Int32.toUInt32 (a0 - ((Int32.toUInt32 a0 >>> (Int32.toUInt32 1 &&& Int32.toUInt32 31)).toInt32 &&& 1431655765)) >>> (Int32.toUInt32 2 &&& Int32.toUInt32 31)).toInt32 &&& 858993459)) >>> (Int32.toUInt32 4 &&& Int32.toUInt32 31)).toInt32) &&& 252645135) >>> (Int32.toUInt32 8 &&& Int32.toUInt32 31)).toInt32) >>> (Int32.toUInt32 16 &&& Int32.toUInt32 31)).toInt32) &&& 63)) hx hb hr (fun t ht hW => ⟨⟨((((((((a0 - ((Int32.toUInt32 a0 >>> (Int32.toUInt32 1 &&& Int32.toUInt32 31)).toInt32 &&& 1431655765)) &&& 858993459) + ((Int32.toUInt32 (a0 - ((Int32.toUInt32 a0 >>> (Int32.toUInt32 1 &&& Int32.toUInt32 31)).toInt32 &&& 1431655765)) >>> (Int32.toUInt32 2 &&& Int32.toUInt32 31)).toInt32 &&& 858993459)) + (Int32.toUInt32 (((a0 - ((Int32.toUInt32 a0 >>> (Int32.toUInt32 1 &&& Int32.toUInt32 31)).toInt32 &&& 1431655765)) &&& 858993459) + ((Int32.toUInt32 (a0 - ((Int32.toUInt32 a0 >>> (Int32.toUInt32 1 &&& Int32.toUInt32 31)).toInt32 &&& 1431655765)) >>> (Int32.toUInt32 2 &&& Int32.toUInt32 31)).toInt32 &&& 858993459)) >>> (Int32.toUInt32 4 &&& Int32.toUInt32 31)).toInt32) &&& 252645135) + (Int32.toUInt32 (((((a0 - ((Int32.toUInt32 a0 >>> (Int32.toUInt32 1 &&& Int32.toUInt32 31)).toInt32 &&& 1431655765)) &&& 858993459) + ((Int32.toUInt32 (a0 - ((Int32.toUInt32 a0 >>> (Int32.toUInt32 1 &&& Int32.toUInt32 31)).toInt32 &&& 1431655765)) >>> (Int32.toUInt32 2 &&& Int32.toUInt32 31)).toInt32 &&& 858993459)) + (Int32.toUInt32 (((a0 - ((Int32.toUInt32 a0 >>> (Int32.toUInt32 1 &&& Int32.toUInt32 31)).toInt32 &&& 1431655765)) &&& 858993459) + ((Int32.toUInt32 (a0 - ((Int32.toUInt32 a0 >>> (Int32.toUInt32 1 &&& Int32.toUInt32 31)).toInt32 &&& 1431655765)) >>> (Int32.toUInt32 2 &&& Int32.toUInt32 31)).toInt32 &&& 858993459)) >>> (Int32.toUInt32 4 &&& Int32.toUInt32 31)).toInt32) &&& 252645135) >>> (Int32.toUInt32 8 &&& Int32.toUInt32 31)).toInt32) + (Int32.toUInt32 ((((((a0 - ((Int32.toUInt32 a0 >>> (Int32.toUInt32 1 &&& Int32.toUInt32 31)).toInt32 &&& 1431655765)) &&& 858993459) + ((Int32.toUInt32 (a0 - ((Int32.toUInt32 a0 >>> (Int32.toUInt32 1 &&& Int32.toUInt32 31)).toInt32 &&& 1431655765)) >>> (Int32.toUInt32 2 &&& Int32.toUInt32 31)).toInt32 &&& 858993459)) + (Int32.toUInt32 (((a0 - ((Int32.toUInt32 a0 >>> (Int32.toUInt32 1 &&& Int32.toUInt32 31)).toInt32 &&& 1431655765)) &&& 858993459) + ((Int32.toUInt32 (a0 - ((Int32.toUInt32 a0 >>> (Int32.toUInt32 1 &&& Int32.toUInt32 31)).toInt32 &&& 1431655765)) >>> (Int32.toUInt32 2 &&& Int32.toUInt32 31)).toInt32 &&& 858993459)) >>> (Int32.toUInt32 4 &&& Int32.toUInt32 31)).toInt32) &&& 252645135) + (Int32.toUInt32 (((((a0 - ((Int32.toUInt32 a0 >>> (Int32.toUInt32 1 &&& Int32.toUInt32 31)).toInt32 &&& 1431655765)) &&& 858993459) + ((Int32.toUInt32 (a0 - ((Int32.toUInt32 a0 >>> (Int32.toUInt32 1 &&& Int32.toUInt32 31)).toInt32 &&& 1431655765)) >>> (Int32.toUInt32 2 &&& Int32.toUInt32 31)).toInt32 &&& 858993459)) + (Int32.toUInt32 (((a0 - ((Int32.toUInt32 a0 >>> (Int32.toUInt32 1 &&& Int32.toUInt32 31)).toInt32 &&& 1431655765)) &&& 858993459) + ((Int32.toUInt32 (a0 - ((Int32.toUInt32 a0 >>> (Int32.toUInt32 1 &&& Int32.toUInt32 31)).toInt32 &&& 1431655765)) >>> (Int32.toUInt32 2 &&& Int32.toUInt32 31)).toInt32 &&& 858993459)) >>> (Int32.toUInt32 4 &&& Int32.toUInt32 31)).toInt32) &&& 252645135) >>> (Int32.toUInt32 8 &&& Int32.toUInt32 31)).toInt32) >>> (Int32.toUInt32 16 &&& Int32.toUInt32 31)).toInt32) &&& 63), (), rfl, rfl, by rw [ht]; exact hP9, va_K.moved hW.alike hK, hD9⟩, hS.F ht⟩) hS.2.2 dJ6_bitCount_0f7a4_52
def fX0_lookRound_b2 (v_p1_houses : Int32) (v_p2_kept : Nat → Int32) (w2 : Int32 × Int32 × Int32) : Option ((Int32 × Int32 × Int32) ⊕ (Int32 × Int32 × Int32)) :=
  if v_p1_houses ≤ w2.1 then (some (.inr (w2.1, w2.2.1, w2.2.2))) else (if (w2.1 < 0 ∨ 8 ≤ Int32.toNatClampNeg w2.1) then none else if (v_p2_kept (Int32.toNatClampNeg w2.1)) ≤ w2.2.1 then (some (.inl ((w2.1 + 1), w2.2.1, w2.2.2))) else (some (.inl ((w2.1 + 1), (v_p2_kept (Int32.toNatClampNeg w2.1)), w2.1))))
def fX0_lookRound (v_greatest : Int32) (v_whose : Int32) (v_p1_houses : Int32) (v_p2_kept : Nat → Int32) : Option (Int32 × Int32) :=
  Option.bind (oz_loop (fX0_lookRound_b2 v_p1_houses v_p2_kept) oz_fuel (0, v_greatest, v_whose)) (fun o2 => some (o2.2.1, o2.2.2))
def rmX0_lookRound : Room := { frames := 0, cells := 0, slots := 0, locals := 0 }
set_option maxHeartbeats 4000000 in
set_option maxRecDepth 100000 in
theorem tX0_lookRound (l : Launch) (dC : Nat → ClassId) (dI : Nat → Nat → Nat) (cI cZ : ClassId) (q_p1 q_p1_above q_p1_daily q_p1_drain q_p1_room q_p2 q_p2_away q_p2_kept q_this : Nat) (sz : Nat) (v_hours : Int32) (v_p1_stands : Int32) (v_p1_lent : Int32) (v_p1_pipe : Int32) (v_p2_days : Int32) (v_p2_spilled : Int32) (v_p2_river : Int32) (v_greatest : Int32) (v_whose : Int32) (v_p1_houses : Int32) (v_p2_kept : Nat → Int32) (out : Int32 × Int32) (hrun : fX0_lookRound v_greatest v_whose v_p1_houses v_p2_kept = some out) : Met l yX0_lookRound wsX0_lookRound rmX0_lookRound (va_Pc [.ref q_this, .ref q_p1, .ref q_p2] (fun U => U.heap.size = sz ∧ va_P (dC, dI) vwCl [(q_this, .inr (0, [.int v_hours, .int v_greatest, .int v_whose])), (q_p1, .inr (6, [.int v_p1_stands, .int v_p1_lent, .int v_p1_pipe, .int v_p1_houses, .ref q_p1_room, .ref q_p1_daily, .ref q_p1_drain, .ref q_p1_above])), (q_p2, .inr (10, [.ref q_p2_kept, .ref q_p2_away, .int v_p2_days, .int v_p2_spilled, .int v_p2_river])), (q_p2_kept, .inl (cI, 8, .inl v_p2_kept))] U.heap ∧ va_K (dC, dI) vwCl [(cI, .int), (cZ, .boolean)] U ∧ va_D (fun _ => True) [(q_this, .inr (0, [.int v_hours, .int v_greatest, .int v_whose])), (q_p1, .inr (6, [.int v_p1_stands, .int v_p1_lent, .int v_p1_pipe, .int v_p1_houses, .ref q_p1_room, .ref q_p1_daily, .ref q_p1_drain, .ref q_p1_above])), (q_p2, .inr (10, [.ref q_p2_kept, .ref q_p2_away, .int v_p2_days, .int v_p2_spilled, .int v_p2_river])), (q_p2_kept, .inl (cI, 8, .inl v_p2_kept))])) (va_Qv (fun _ : Unit => True) (fun _ t => va_P (dC, dI) vwCl [(q_this, .inr (0, [.int v_hours, .int out.1, .int out.2])), (q_p1, .inr (6, [.int v_p1_stands, .int v_p1_lent, .int v_p1_pipe, .int v_p1_houses, .ref q_p1_room, .ref q_p1_daily, .ref q_p1_drain, .ref q_p1_above])), (q_p2, .inr (10, [.ref q_p2_kept, .ref q_p2_away, .int v_p2_days, .int v_p2_spilled, .int v_p2_river])), (q_p2_kept, .inl (cI, 8, .inl v_p2_kept))] t.heap ∧ va_K (dC, dI) vwCl [(cI, .int), (cZ, .boolean)] t ∧ va_D (va_A [(q_this, .inr (0, [.int v_hours, .int v_greatest, .int v_whose])), (q_p1, .inr (6, [.int v_p1_stands, .int v_p1_lent, .int v_p1_pipe, .int v_p1_houses, .ref q_p1_room, .ref q_p1_daily, .ref q_p1_drain, .ref q_p1_above])), (q_p2, .inr (10, [.ref q_p2_kept, .ref q_p2_away, .int v_p2_days, .int v_p2_spilled, .int v_p2_river])), (q_p2_kept, .inl (cI, 8, .inl v_p2_kept))] sz) [(q_this, .inr (0, [.int v_hours, .int out.1, .int out.2])), (q_p1, .inr (6, [.int v_p1_stands, .int v_p1_lent, .int v_p1_pipe, .int v_p1_houses, .ref q_p1_room, .ref q_p1_daily, .ref q_p1_drain, .ref q_p1_above])), (q_p2, .inr (10, [.ref q_p2_kept, .ref q_p2_away, .int v_p2_days, .int v_p2_spilled, .int v_p2_river])), (q_p2_kept, .inl (cI, 8, .inl v_p2_kept))]) (va_A [(q_this, .inr (0, [.int v_hours, .int v_greatest, .int v_whose])), (q_p1, .inr (6, [.int v_p1_stands, .int v_p1_lent, .int v_p1_pipe, .int v_p1_houses, .ref q_p1_room, .ref q_p1_daily, .ref q_p1_drain, .ref q_p1_above])), (q_p2, .inr (10, [.ref q_p2_kept, .ref q_p2_away, .int v_p2_days, .int v_p2_spilled, .int v_p2_river])), (q_p2_kept, .inl (cI, 8, .inl v_p2_kept))] sz)) 0 0 (va_A [(q_this, .inr (0, [.int v_hours, .int v_greatest, .int v_whose])), (q_p1, .inr (6, [.int v_p1_stands, .int v_p1_lent, .int v_p1_pipe, .int v_p1_houses, .ref q_p1_room, .ref q_p1_daily, .ref q_p1_drain, .ref q_p1_above])), (q_p2, .inr (10, [.ref q_p2_kept, .ref q_p2_away, .int v_p2_days, .int v_p2_spilled, .int v_p2_river])), (q_p2_kept, .inl (cI, 8, .inl v_p2_kept))] sz) := by
  refine Met.ofW (cc := cX0_lookRound) (maxL := 4) (ret := none) (by decide) rfl ?_
  intro p e s m args below meth c s₁ B hml hv
  obtain ⟨rfl, hsz, hP, hK, hD0⟩ := hv
  have hx := B.exec
  have hb := B.bytes
  have hr := B.returns
  have hts := atoms_spec (ws := wsX0_lookRound) B.pre
  have hown : s.vm.findClass RX0 = some m.cls := findClass_of_methodNamed B.named
  have hlocks := B.notSynchronized
  subst hsz
  have hD := hD0.self (sz := s.heap.size)
  generalize hAe : va_A [(q_this, .inr (0, [.int v_hours, .int v_greatest, .int v_whose])), (q_p1, .inr (6, [.int v_p1_stands, .int v_p1_lent, .int v_p1_pipe, .int v_p1_houses, .ref q_p1_room, .ref q_p1_daily, .ref q_p1_drain, .ref q_p1_above])), (q_p2, .inr (10, [.ref q_p2_kept, .ref q_p2_away, .int v_p2_days, .int v_p2_spilled, .int v_p2_river])), (q_p2_kept, .inl (cI, 8, .inl v_p2_kept))] s.heap.size = A at hD ⊢
  have hA : ∀ q : Nat, s.heap.size ≤ q → A q := fun q h => by rw [← hAe]; exact Or.inr h
  have hS : va_S A s.heap s.heap [] := va_S.rf
  have hl := lv_entry ([.ref q_this, .ref q_p1, .ref q_p2]) (n := 4) (Nat.le_of_ble_eq_true rfl)
  rw [lg_entry_eq]
  generalize (lg_sl ([.ref q_this, .ref q_p1, .ref q_p2]) ++ List.replicate (4 - (lg_sl ([.ref q_this, .ref q_p1, .ref q_p2])).length) Slot.unset).toArray = ls at hl ⊢
  have hl : lv_has ls 4 [(0, .ref q_this), (1, .ref q_p1), (2, .ref q_p2)] := hl
  unfold fX0_lookRound at hrun
  have hk38 := hts (.fieldLink RX0 38 "LentDrains$Plan" "houses" "I") (by decide +kernel)
  have hiX6 : ∀ w ∈ wsX60, w ∈ wsX0_lookRound := by decide +kernel
  have hk43 := hts (.fieldLink RX0 43 "LentDrains$State" "kept" "[I") (by decide +kernel)
  have hiX10 : ∀ w ∈ wsX100, w ∈ wsX0_lookRound := by decide +kernel
  have hk15 := hts (.fieldLink RX0 15 "LentDrains$Breath" "greatest" "I") (by decide +kernel)
  have hiX0 : ∀ w ∈ wsX00, w ∈ wsX0_lookRound := by decide +kernel
  have hk18 := hts (.fieldLink RX0 18 "LentDrains$Breath" "whose" "I") (by decide +kernel)
  refine oz_genQ (fun Q hQ => ?_)
  refine lv_iconst (v := 0) hx hb dX0_lookRound_0 (by decide) ?_
  refine lv_istore_n (lv' := [(3, .int 0), (0, .ref q_this), (1, .ref q_p1), (2, .ref q_p2)]) hx hb dX0_lookRound_1 rfl hl (by decide) rfl (fun ls hl => ?_)
  obtain ⟨o2, hlp2, hrun⟩ := oz_bind hrun
  have hL2 : ∀ (n : Nat) (w2 : Int32 × Int32 × Int32) (o2 : Int32 × Int32 × Int32), oz_loop (fX0_lookRound_b2 v_p1_houses v_p2_kept) n w2 = some o2 → (∀ (H : Heap) (locs : List Loc) (ls : Array Slot), va_P (dC, dI) vwCl [(q_this, .inr (0, [.int v_hours, .int o2.2.1, .int o2.2.2])), (q_p1, .inr (6, [.int v_p1_stands, .int v_p1_lent, .int v_p1_pipe, .int v_p1_houses, .ref q_p1_room, .ref q_p1_daily, .ref q_p1_drain, .ref q_p1_above])), (q_p2, .inr (10, [.ref q_p2_kept, .ref q_p2_away, .int v_p2_days, .int v_p2_spilled, .int v_p2_river])), (q_p2_kept, .inl (cI, 8, .inl v_p2_kept))] H → va_D A [(q_this, .inr (0, [.int v_hours, .int o2.2.1, .int o2.2.2])), (q_p1, .inr (6, [.int v_p1_stands, .int v_p1_lent, .int v_p1_pipe, .int v_p1_houses, .ref q_p1_room, .ref q_p1_daily, .ref q_p1_drain, .ref q_p1_above])), (q_p2, .inr (10, [.ref q_p2_kept, .ref q_p2_away, .int v_p2_days, .int v_p2_spilled, .int v_p2_river])), (q_p2_kept, .inl (cI, 8, .inl v_p2_kept))] → va_S A s.heap H locs → lv_has ls 4 [(3, .int o2.1), (0, .ref q_this), (1, .ref q_p1), (2, .ref q_p2)] → W p l e (headSpec wsX0_lookRound rmX0_lookRound).room s m (([.ref q_this, .ref q_p1, .ref q_p2] : List Value).toArray) below meth c H locs 0 0 Q (F0 m 44 ls [])) → ∀ (H : Heap) (locs : List Loc) (ls : Array Slot), va_P (dC, dI) vwCl [(q_this, .inr (0, [.int v_hours, .int w2.2.1, .int w2.2.2])), (q_p1, .inr (6, [.int v_p1_stands, .int v_p1_lent, .int v_p1_pipe, .int v_p1_houses, .ref q_p1_room, .ref q_p1_daily, .ref q_p1_drain, .ref q_p1_above])), (q_p2, .inr (10, [.ref q_p2_kept, .ref q_p2_away, .int v_p2_days, .int v_p2_spilled, .int v_p2_river])), (q_p2_kept, .inl (cI, 8, .inl v_p2_kept))] H → va_D A [(q_this, .inr (0, [.int v_hours, .int w2.2.1, .int w2.2.2])), (q_p1, .inr (6, [.int v_p1_stands, .int v_p1_lent, .int v_p1_pipe, .int v_p1_houses, .ref q_p1_room, .ref q_p1_daily, .ref q_p1_drain, .ref q_p1_above])), (q_p2, .inr (10, [.ref q_p2_kept, .ref q_p2_away, .int v_p2_days, .int v_p2_spilled, .int v_p2_river])), (q_p2_kept, .inl (cI, 8, .inl v_p2_kept))] → va_S A s.heap H locs → lv_has ls 4 [(3, .int w2.1), (0, .ref q_this), (1, .ref q_p1), (2, .ref q_p2)] → W p l e (headSpec wsX0_lookRound rmX0_lookRound).room s m (([.ref q_this, .ref q_p1, .ref q_p2] : List Value).toArray) below meth c H locs 0 0 Q (F0 m 2 ls []) := by
    intro n
    induction n with
    | zero => intro w2 o2 h9; exact (oz_zero h9).elim
    | succ n ih =>
      intro w2 o2 h9 hexit H locs ls hP hD hS hl
      obtain ⟨r9, hrun, hnext⟩ := oz_step h9
      unfold fX0_lookRound_b2 at hrun
      refine lv_iload_n hx hb dX0_lookRound_2 rfl (lv_at hl 0 rfl) ?_
      refine lv_aload_n hx hb dX0_lookRound_3 rfl (lv_at hl 2 rfl) ?_
      refine va_get (D := (dC, dI)) (ci := 6) (v := .int v_p1_houses) (C := RX6) (T := TX6) (N := 8) hx hb hts hiX6 hown hK hP 1 rfl rfl 3 (by decide) hk38 (fun _ h9 => h9) rfl dX0_lookRound_4 ?_
      refine lv_icmp_ge (tgt := 44) hx hb dX0_lookRound_7 (by decide) (fun c1 => ?_) (fun c1 => ?_)
      · have hrun := oz_t hrun c1
        have hr9 := Option.some.inj hrun
        subst hr9
        have ho9 : (w2.1, w2.2.1, w2.2.2) = o2 := hnext
        subst ho9
        exact hexit _ _ _ (hP.sub [0, 1, 2, 3] rfl) (hD.sub [0, 1, 2, 3] (by decide) rfl) hS (lv_sub hl [0, 1, 2, 3] rfl)
      · have hrun := oz_f hrun c1
        refine lv_aload_n hx hb dX0_lookRound_10 rfl (lv_at hl 3 rfl) ?_
        refine va_get (D := (dC, dI)) (ci := 10) (v := .ref q_p2_kept) (C := RX10) (T := TX10) (N := 5) hx hb hts hiX10 hown hK hP 2 rfl rfl 0 (by decide) hk43 (fun _ h9 => h9) rfl dX0_lookRound_11 ?_
        refine lv_iload_n hx hb dX0_lookRound_14 rfl (lv_at hl 0 rfl) ?_
        obtain ⟨c2, hrun⟩ := oz_chk hrun
        refine va_iald hx hb hK hP 3 0 rfl rfl c2 dX0_lookRound_15 ?_
        refine lv_aload_n hx hb dX0_lookRound_16 rfl (lv_at hl 1 rfl) ?_
        refine va_get (D := (dC, dI)) (ci := 0) (v := .int w2.2.1) (C := RX0) (T := TX0) (N := 3) hx hb hts hiX0 hown hK hP 0 rfl rfl 1 (by decide) hk15 (fun _ h9 => h9) rfl dX0_lookRound_17 ?_
        refine lv_icmp_le (tgt := 38) hx hb dX0_lookRound_20 (by decide) (fun c3 => ?_) (fun c3 => ?_)
        · have hrun := oz_t hrun c3
          refine lv_iinc (v := (w2.1 + 1)) (lv' := [(3, .int (w2.1 + 1)), (0, .ref q_this), (1, .ref q_p1), (2, .ref q_p2)]) hx hb dX0_lookRound_38 hl (k := 0) rfl rfl (by decide) rfl (fun ls hl => ?_)
          refine lv_goto (tgt := 2) hx hb dX0_lookRound_41 (by decide) ?_
          have hr9 := Option.some.inj hrun
          subst hr9
          exact ih ((w2.1 + 1), w2.2.1, w2.2.2) _ hnext hexit _ _ _ (hP.sub [0, 1, 2, 3] rfl) (hD.sub [0, 1, 2, 3] (by decide) rfl) hS (lv_sub hl [0, 1, 2, 3] rfl)
        · have hrun := oz_f hrun c3
          refine lv_aload_n hx hb dX0_lookRound_23 rfl (lv_at hl 1 rfl) ?_
          refine lv_aload_n hx hb dX0_lookRound_24 rfl (lv_at hl 3 rfl) ?_
          refine va_get (D := (dC, dI)) (ci := 10) (v := .ref q_p2_kept) (C := RX10) (T := TX10) (N := 5) hx hb hts hiX10 hown hK hP 2 rfl rfl 0 (by decide) hk43 (fun _ h9 => h9) rfl dX0_lookRound_25 ?_
          refine lv_iload_n hx hb dX0_lookRound_28 rfl (lv_at hl 0 rfl) ?_
          refine va_iald hx hb hK hP 3 0 rfl rfl c2 dX0_lookRound_29 ?_
          refine va_put (D := (dC, dI)) (ci := 0) (v := .int (v_p2_kept (Int32.toNatClampNeg w2.1))) (ty := .int) (C := RX0) (T := TX0) (N := 3) hx hb hts hiX0 tyX0 tyX0_ok nmX0 hown hK hP hD hS 0 rfl rfl 1 (by decide) hk15 (fun _ h9 => h9) rfl (by decide +kernel) rfl rfl (Nat.le_of_ble_eq_true rfl) dX0_lookRound_30 (fun H locs hP hD hS => ?_)
          have hP : va_P (dC, dI) vwCl [(q_this, .inr (0, [.int v_hours, .int (v_p2_kept (Int32.toNatClampNeg w2.1)), .int w2.2.2])), (q_p1, .inr (6, [.int v_p1_stands, .int v_p1_lent, .int v_p1_pipe, .int v_p1_houses, .ref q_p1_room, .ref q_p1_daily, .ref q_p1_drain, .ref q_p1_above])), (q_p2, .inr (10, [.ref q_p2_kept, .ref q_p2_away, .int v_p2_days, .int v_p2_spilled, .int v_p2_river])), (q_p2_kept, .inl (cI, 8, .inl v_p2_kept))] H := hP
          have hD : va_D A [(q_this, .inr (0, [.int v_hours, .int (v_p2_kept (Int32.toNatClampNeg w2.1)), .int w2.2.2])), (q_p1, .inr (6, [.int v_p1_stands, .int v_p1_lent, .int v_p1_pipe, .int v_p1_houses, .ref q_p1_room, .ref q_p1_daily, .ref q_p1_drain, .ref q_p1_above])), (q_p2, .inr (10, [.ref q_p2_kept, .ref q_p2_away, .int v_p2_days, .int v_p2_spilled, .int v_p2_river])), (q_p2_kept, .inl (cI, 8, .inl v_p2_kept))] := hD
          refine lv_aload_n hx hb dX0_lookRound_33 rfl (lv_at hl 1 rfl) ?_
          refine lv_iload_n hx hb dX0_lookRound_34 rfl (lv_at hl 0 rfl) ?_
          refine va_put (D := (dC, dI)) (ci := 0) (v := .int w2.1) (ty := .int) (C := RX0) (T := TX0) (N := 3) hx hb hts hiX0 tyX0 tyX0_ok nmX0 hown hK hP hD hS 0 rfl rfl 2 (by decide) hk18 (fun _ h9 => h9) rfl (by decide +kernel) rfl rfl (Nat.le_of_ble_eq_true rfl) dX0_lookRound_35 (fun H locs hP hD hS => ?_)
          have hP : va_P (dC, dI) vwCl [(q_this, .inr (0, [.int v_hours, .int (v_p2_kept (Int32.toNatClampNeg w2.1)), .int w2.1])), (q_p1, .inr (6, [.int v_p1_stands, .int v_p1_lent, .int v_p1_pipe, .int v_p1_houses, .ref q_p1_room, .ref q_p1_daily, .ref q_p1_drain, .ref q_p1_above])), (q_p2, .inr (10, [.ref q_p2_kept, .ref q_p2_away, .int v_p2_days, .int v_p2_spilled, .int v_p2_river])), (q_p2_kept, .inl (cI, 8, .inl v_p2_kept))] H := hP
          have hD : va_D A [(q_this, .inr (0, [.int v_hours, .int (v_p2_kept (Int32.toNatClampNeg w2.1)), .int w2.1])), (q_p1, .inr (6, [.int v_p1_stands, .int v_p1_lent, .int v_p1_pipe, .int v_p1_houses, .ref q_p1_room, .ref q_p1_daily, .ref q_p1_drain, .ref q_p1_above])), (q_p2, .inr (10, [.ref q_p2_kept, .ref q_p2_away, .int v_p2_days, .int v_p2_spilled, .int v_p2_river])), (q_p2_kept, .inl (cI, 8, .inl v_p2_kept))] := hD
          refine lv_iinc (v := (w2.1 + 1)) (lv' := [(3, .int (w2.1 + 1)), (0, .ref q_this), (1, .ref q_p1), (2, .ref q_p2)]) hx hb dX0_lookRound_38 hl (k := 0) rfl rfl (by decide) rfl (fun ls hl => ?_)
          refine lv_goto (tgt := 2) hx hb dX0_lookRound_41 (by decide) ?_
          have hr9 := Option.some.inj hrun
          subst hr9
          exact ih ((w2.1 + 1), (v_p2_kept (Int32.toNatClampNeg w2.1)), w2.1) _ hnext hexit _ _ _ (hP.sub [0, 1, 2, 3] rfl) (hD.sub [0, 1, 2, 3] (by decide) rfl) hS (lv_sub hl [0, 1, 2, 3] rfl)
  refine hL2 oz_fuel (0, v_greatest, v_whose) o2 hlp2 (fun H locs ls hP hD hS hl => ?_) _ _ _ (hP.sub [0, 1, 2, 3] rfl) (hD.sub [0, 1, 2, 3] (by decide) rfl) hS (lv_sub hl [0, 1, 2, 3] rfl)
  have hP : va_P (dC, dI) vwCl [(q_this, .inr (0, [.int v_hours, .int o2.2.1, .int o2.2.2])), (q_p1, .inr (6, [.int v_p1_stands, .int v_p1_lent, .int v_p1_pipe, .int v_p1_houses, .ref q_p1_room, .ref q_p1_daily, .ref q_p1_drain, .ref q_p1_above])), (q_p2, .inr (10, [.ref q_p2_kept, .ref q_p2_away, .int v_p2_days, .int v_p2_spilled, .int v_p2_river])), (q_p2_kept, .inl (cI, 8, .inl v_p2_kept))] H := hP
  have hD : va_D A [(q_this, .inr (0, [.int v_hours, .int o2.2.1, .int o2.2.2])), (q_p1, .inr (6, [.int v_p1_stands, .int v_p1_lent, .int v_p1_pipe, .int v_p1_houses, .ref q_p1_room, .ref q_p1_daily, .ref q_p1_drain, .ref q_p1_above])), (q_p2, .inr (10, [.ref q_p2_kept, .ref q_p2_away, .int v_p2_days, .int v_p2_spilled, .int v_p2_river])), (q_p2_kept, .inl (cI, 8, .inl v_p2_kept))] := hD
  have hl : lv_has ls 4 [(3, .int o2.1), (0, .ref q_this), (1, .ref q_p1), (2, .ref q_p2)] := hl
  have ho9 := Option.some.inj hrun
  subst ho9
  have hP9 := hP.sub (ws' := [(q_this, .inr (0, [.int v_hours, .int o2.2.1, .int o2.2.2])), (q_p1, .inr (6, [.int v_p1_stands, .int v_p1_lent, .int v_p1_pipe, .int v_p1_houses, .ref q_p1_room, .ref q_p1_daily, .ref q_p1_drain, .ref q_p1_above])), (q_p2, .inr (10, [.ref q_p2_kept, .ref q_p2_away, .int v_p2_days, .int v_p2_spilled, .int v_p2_river])), (q_p2_kept, .inl (cI, 8, .inl v_p2_kept))]) [0, 1, 2, 3] rfl
  have hD9 := hD.sub (ws' := [(q_this, .inr (0, [.int v_hours, .int o2.2.1, .int o2.2.2])), (q_p1, .inr (6, [.int v_p1_stands, .int v_p1_lent, .int v_p1_pipe, .int v_p1_houses, .ref q_p1_room, .ref q_p1_daily, .ref q_p1_drain, .ref q_p1_above])), (q_p2, .inr (10, [.ref q_p2_kept, .ref q_p2_away, .int v_p2_days, .int v_p2_spilled, .int v_p2_river])), (q_p2_kept, .inl (cI, 8, .inl v_p2_kept))]) [0, 1, 2, 3] (by decide) rfl
  rw [hQ]
  exact W.vret hx hb hr (fun t ht hW => ⟨⟨(), rfl, trivial, by rw [ht]; exact hP9, va_K.moved hW.alike hK, hD9⟩, hS.F ht⟩) hS.2.2 dX0_lookRound_44
def fX0_draw_b23 (v_p1_pipe : Int32) (v_p1_houses : Int32) (v_p1_room : Nat → Int32) (v_p1_drain : Nat → Int32) (w23 : Int32 × Int32 × Int32 × Int32 × Int32 × (Nat → Int32)) : Option ((Int32 × Int32 × Int32 × Int32 × Int32 × (Nat → Int32)) ⊕ (Int32 × Int32 × Int32 × Int32 × Int32 × (Nat → Int32))) :=
  if 999 ≤ w23.1 then (some (.inr (w23.1, w23.2.1, w23.2.2.1, w23.2.2.2.1, w23.2.2.2.2.1, w23.2.2.2.2.2))) else (Option.bind (fX10_inAll w23.2.2.2.2.2 v_p1_houses) (fun y32 => if y32 ≤ 0 then (some (.inr (w23.1, w23.2.1, w23.2.2.1, w23.2.2.2.1, w23.2.2.2.2.1, w23.2.2.2.2.2))) else (Option.bind (fX10_passHour w23.2.2.2.1 w23.2.2.2.2.1 w23.2.2.2.2.2 v_p1_pipe v_p1_houses v_p1_room v_p1_drain) (fun y40 => Option.bind (fX0_lookRound w23.2.1 w23.2.2.1 v_p1_houses y40.2.2) (fun y46 => some (.inl ((w23.1 + 1), y46.1, y46.2, y40.1, y40.2.1, y40.2.2)))))))
def fX0_draw (v_hours : Int32) (v_greatest : Int32) (v_whose : Int32) (v_p1_pipe : Int32) (v_p1_houses : Int32) (v_p1_room : Nat → Int32) (v_p1_drain : Nat → Int32) (v_p2_spilled : Int32) (v_p2_river : Int32) (v_p2_kept : Nat → Int32) : Option (Int32 × Int32 × Int32 × Int32 × Int32 × (Nat → Int32)) :=
  Option.bind (fX0_lookRound (-1) (-1) v_p1_houses v_p2_kept) (fun y18 => Option.bind (oz_loop (fX0_draw_b23 v_p1_pipe v_p1_houses v_p1_room v_p1_drain) oz_fuel (0, y18.1, y18.2, 0, v_p2_river, v_p2_kept)) (fun o23 => Option.bind (fX10_inAll o23.2.2.2.2.2 v_p1_houses) (fun y58 => if y58 = 0 then (some (o23.1, o23.2.1, o23.2.2.1, o23.2.2.2.1, o23.2.2.2.2.1, o23.2.2.2.2.2)) else (some ((-1), o23.2.1, o23.2.2.1, o23.2.2.2.1, o23.2.2.2.2.1, o23.2.2.2.2.2)))))
def rmX0_draw : Room := { frames := 3, cells := 0, slots := 0, locals := 72 }
set_option maxHeartbeats 4000000 in
set_option maxRecDepth 100000 in
theorem tX0_draw (l : Launch) (dC : Nat → ClassId) (dI : Nat → Nat → Nat) (cI cZ : ClassId) (q_p1 q_p1_above q_p1_daily q_p1_drain q_p1_room q_p2 q_p2_away q_p2_kept q_this : Nat) (sz : Nat) (v_p1_stands : Int32) (v_p1_lent : Int32) (v_p2_days : Int32) (v_hours : Int32) (v_greatest : Int32) (v_whose : Int32) (v_p1_pipe : Int32) (v_p1_houses : Int32) (v_p1_room : Nat → Int32) (v_p1_drain : Nat → Int32) (v_p2_spilled : Int32) (v_p2_river : Int32) (v_p2_kept : Nat → Int32) (out : Int32 × Int32 × Int32 × Int32 × Int32 × (Nat → Int32)) (hrun : fX0_draw v_hours v_greatest v_whose v_p1_pipe v_p1_houses v_p1_room v_p1_drain v_p2_spilled v_p2_river v_p2_kept = some out) : Met l yX0_draw wsX0_draw rmX0_draw (va_Pc [.ref q_this, .ref q_p1, .ref q_p2] (fun U => U.heap.size = sz ∧ va_P (dC, dI) vwCl [(q_this, .inr (0, [.int v_hours, .int v_greatest, .int v_whose])), (q_p1, .inr (6, [.int v_p1_stands, .int v_p1_lent, .int v_p1_pipe, .int v_p1_houses, .ref q_p1_room, .ref q_p1_daily, .ref q_p1_drain, .ref q_p1_above])), (q_p1_room, .inl (cI, 8, .inl v_p1_room)), (q_p1_drain, .inl (cI, 8, .inl v_p1_drain)), (q_p2, .inr (10, [.ref q_p2_kept, .ref q_p2_away, .int v_p2_days, .int v_p2_spilled, .int v_p2_river])), (q_p2_kept, .inl (cI, 8, .inl v_p2_kept))] U.heap ∧ va_K (dC, dI) vwCl [(cI, .int), (cZ, .boolean)] U ∧ va_D (fun _ => True) [(q_this, .inr (0, [.int v_hours, .int v_greatest, .int v_whose])), (q_p1, .inr (6, [.int v_p1_stands, .int v_p1_lent, .int v_p1_pipe, .int v_p1_houses, .ref q_p1_room, .ref q_p1_daily, .ref q_p1_drain, .ref q_p1_above])), (q_p1_room, .inl (cI, 8, .inl v_p1_room)), (q_p1_drain, .inl (cI, 8, .inl v_p1_drain)), (q_p2, .inr (10, [.ref q_p2_kept, .ref q_p2_away, .int v_p2_days, .int v_p2_spilled, .int v_p2_river])), (q_p2_kept, .inl (cI, 8, .inl v_p2_kept))])) (va_Qv (fun _ : Unit => True) (fun _ t => va_P (dC, dI) vwCl [(q_this, .inr (0, [.int out.1, .int out.2.1, .int out.2.2.1])), (q_p1, .inr (6, [.int v_p1_stands, .int v_p1_lent, .int v_p1_pipe, .int v_p1_houses, .ref q_p1_room, .ref q_p1_daily, .ref q_p1_drain, .ref q_p1_above])), (q_p1_room, .inl (cI, 8, .inl v_p1_room)), (q_p1_drain, .inl (cI, 8, .inl v_p1_drain)), (q_p2, .inr (10, [.ref q_p2_kept, .ref q_p2_away, .int v_p2_days, .int out.2.2.2.1, .int out.2.2.2.2.1])), (q_p2_kept, .inl (cI, 8, .inl out.2.2.2.2.2))] t.heap ∧ va_K (dC, dI) vwCl [(cI, .int), (cZ, .boolean)] t ∧ va_D (va_A [(q_this, .inr (0, [.int v_hours, .int v_greatest, .int v_whose])), (q_p1, .inr (6, [.int v_p1_stands, .int v_p1_lent, .int v_p1_pipe, .int v_p1_houses, .ref q_p1_room, .ref q_p1_daily, .ref q_p1_drain, .ref q_p1_above])), (q_p1_room, .inl (cI, 8, .inl v_p1_room)), (q_p1_drain, .inl (cI, 8, .inl v_p1_drain)), (q_p2, .inr (10, [.ref q_p2_kept, .ref q_p2_away, .int v_p2_days, .int v_p2_spilled, .int v_p2_river])), (q_p2_kept, .inl (cI, 8, .inl v_p2_kept))] sz) [(q_this, .inr (0, [.int out.1, .int out.2.1, .int out.2.2.1])), (q_p1, .inr (6, [.int v_p1_stands, .int v_p1_lent, .int v_p1_pipe, .int v_p1_houses, .ref q_p1_room, .ref q_p1_daily, .ref q_p1_drain, .ref q_p1_above])), (q_p1_room, .inl (cI, 8, .inl v_p1_room)), (q_p1_drain, .inl (cI, 8, .inl v_p1_drain)), (q_p2, .inr (10, [.ref q_p2_kept, .ref q_p2_away, .int v_p2_days, .int out.2.2.2.1, .int out.2.2.2.2.1])), (q_p2_kept, .inl (cI, 8, .inl out.2.2.2.2.2))]) (va_A [(q_this, .inr (0, [.int v_hours, .int v_greatest, .int v_whose])), (q_p1, .inr (6, [.int v_p1_stands, .int v_p1_lent, .int v_p1_pipe, .int v_p1_houses, .ref q_p1_room, .ref q_p1_daily, .ref q_p1_drain, .ref q_p1_above])), (q_p1_room, .inl (cI, 8, .inl v_p1_room)), (q_p1_drain, .inl (cI, 8, .inl v_p1_drain)), (q_p2, .inr (10, [.ref q_p2_kept, .ref q_p2_away, .int v_p2_days, .int v_p2_spilled, .int v_p2_river])), (q_p2_kept, .inl (cI, 8, .inl v_p2_kept))] sz)) 0 0 (va_A [(q_this, .inr (0, [.int v_hours, .int v_greatest, .int v_whose])), (q_p1, .inr (6, [.int v_p1_stands, .int v_p1_lent, .int v_p1_pipe, .int v_p1_houses, .ref q_p1_room, .ref q_p1_daily, .ref q_p1_drain, .ref q_p1_above])), (q_p1_room, .inl (cI, 8, .inl v_p1_room)), (q_p1_drain, .inl (cI, 8, .inl v_p1_drain)), (q_p2, .inr (10, [.ref q_p2_kept, .ref q_p2_away, .int v_p2_days, .int v_p2_spilled, .int v_p2_river])), (q_p2_kept, .inl (cI, 8, .inl v_p2_kept))] sz) := by
  refine Met.ofW (cc := cX0_draw) (maxL := 4) (ret := none) (by decide) rfl ?_
  intro p e s m args below meth c s₁ B hml hv
  obtain ⟨rfl, hsz, hP, hK, hD0⟩ := hv
  have hx := B.exec
  have hb := B.bytes
  have hr := B.returns
  have hts := atoms_spec (ws := wsX0_draw) B.pre
  have hown : s.vm.findClass RX0 = some m.cls := findClass_of_methodNamed B.named
  have hlocks := B.notSynchronized
  subst hsz
  have hD := hD0.self (sz := s.heap.size)
  generalize hAe : va_A [(q_this, .inr (0, [.int v_hours, .int v_greatest, .int v_whose])), (q_p1, .inr (6, [.int v_p1_stands, .int v_p1_lent, .int v_p1_pipe, .int v_p1_houses, .ref q_p1_room, .ref q_p1_daily, .ref q_p1_drain, .ref q_p1_above])), (q_p1_room, .inl (cI, 8, .inl v_p1_room)), (q_p1_drain, .inl (cI, 8, .inl v_p1_drain)), (q_p2, .inr (10, [.ref q_p2_kept, .ref q_p2_away, .int v_p2_days, .int v_p2_spilled, .int v_p2_river])), (q_p2_kept, .inl (cI, 8, .inl v_p2_kept))] s.heap.size = A at hD ⊢
  have hA : ∀ q : Nat, s.heap.size ≤ q → A q := fun q h => by rw [← hAe]; exact Or.inr h
  have hS : va_S A s.heap s.heap [] := va_S.rf
  have hl := lv_entry ([.ref q_this, .ref q_p1, .ref q_p2]) (n := 4) (Nat.le_of_ble_eq_true rfl)
  rw [lg_entry_eq]
  generalize (lg_sl ([.ref q_this, .ref q_p1, .ref q_p2]) ++ List.replicate (4 - (lg_sl ([.ref q_this, .ref q_p1, .ref q_p2])).length) Slot.unset).toArray = ls at hl ⊢
  have hl : lv_has ls 4 [(0, .ref q_this), (1, .ref q_p1), (2, .ref q_p2)] := hl
  unfold fX0_draw at hrun
  have hk21 := hts (.fieldLink RX0 21 "LentDrains$State" "spilled" "I") (by decide +kernel)
  have hiX10 : ∀ w ∈ wsX100, w ∈ wsX0_draw := by decide +kernel
  have hk15 := hts (.fieldLink RX0 15 "LentDrains$Breath" "greatest" "I") (by decide +kernel)
  have hiX0 : ∀ w ∈ wsX00, w ∈ wsX0_draw := by decide +kernel
  have hk18 := hts (.fieldLink RX0 18 "LentDrains$Breath" "whose" "I") (by decide +kernel)
  have hk9 := hts (.fieldLink RX0 9 "LentDrains$Breath" "hours" "I") (by decide +kernel)
  refine oz_genQ (fun Q hQ => ?_)
  refine lv_aload_n hx hb dX0_draw_0 rfl (lv_at hl 2 rfl) ?_
  refine lv_iconst (v := 0) hx hb dX0_draw_1 (by decide) ?_
  refine va_put (D := (dC, dI)) (ci := 10) (v := .int 0) (ty := .int) (C := RX10) (T := TX10) (N := 5) hx hb hts hiX10 tyX10 tyX10_ok nmX10 hown hK hP hD hS 4 rfl rfl 3 (by decide) hk21 (fun _ h9 => h9) rfl (by decide +kernel) rfl rfl (Nat.le_of_ble_eq_true rfl) dX0_draw_2 (fun H locs hP hD hS => ?_)
  have hP : va_P (dC, dI) vwCl [(q_this, .inr (0, [.int v_hours, .int v_greatest, .int v_whose])), (q_p1, .inr (6, [.int v_p1_stands, .int v_p1_lent, .int v_p1_pipe, .int v_p1_houses, .ref q_p1_room, .ref q_p1_daily, .ref q_p1_drain, .ref q_p1_above])), (q_p1_room, .inl (cI, 8, .inl v_p1_room)), (q_p1_drain, .inl (cI, 8, .inl v_p1_drain)), (q_p2, .inr (10, [.ref q_p2_kept, .ref q_p2_away, .int v_p2_days, .int 0, .int v_p2_river])), (q_p2_kept, .inl (cI, 8, .inl v_p2_kept))] H := hP
  have hD : va_D A [(q_this, .inr (0, [.int v_hours, .int v_greatest, .int v_whose])), (q_p1, .inr (6, [.int v_p1_stands, .int v_p1_lent, .int v_p1_pipe, .int v_p1_houses, .ref q_p1_room, .ref q_p1_daily, .ref q_p1_drain, .ref q_p1_above])), (q_p1_room, .inl (cI, 8, .inl v_p1_room)), (q_p1_drain, .inl (cI, 8, .inl v_p1_drain)), (q_p2, .inr (10, [.ref q_p2_kept, .ref q_p2_away, .int v_p2_days, .int 0, .int v_p2_river])), (q_p2_kept, .inl (cI, 8, .inl v_p2_kept))] := hD
  refine lv_aload_n hx hb dX0_draw_5 rfl (lv_at hl 0 rfl) ?_
  refine lv_iconst (v := (-1)) hx hb dX0_draw_6 (by decide) ?_
  refine va_put (D := (dC, dI)) (ci := 0) (v := .int (-1)) (ty := .int) (C := RX0) (T := TX0) (N := 3) hx hb hts hiX0 tyX0 tyX0_ok nmX0 hown hK hP hD hS 0 rfl rfl 1 (by decide) hk15 (fun _ h9 => h9) rfl (by decide +kernel) rfl rfl (Nat.le_of_ble_eq_true rfl) dX0_draw_7 (fun H locs hP hD hS => ?_)
  have hP : va_P (dC, dI) vwCl [(q_this, .inr (0, [.int v_hours, .int (-1), .int v_whose])), (q_p1, .inr (6, [.int v_p1_stands, .int v_p1_lent, .int v_p1_pipe, .int v_p1_houses, .ref q_p1_room, .ref q_p1_daily, .ref q_p1_drain, .ref q_p1_above])), (q_p1_room, .inl (cI, 8, .inl v_p1_room)), (q_p1_drain, .inl (cI, 8, .inl v_p1_drain)), (q_p2, .inr (10, [.ref q_p2_kept, .ref q_p2_away, .int v_p2_days, .int 0, .int v_p2_river])), (q_p2_kept, .inl (cI, 8, .inl v_p2_kept))] H := hP
  have hD : va_D A [(q_this, .inr (0, [.int v_hours, .int (-1), .int v_whose])), (q_p1, .inr (6, [.int v_p1_stands, .int v_p1_lent, .int v_p1_pipe, .int v_p1_houses, .ref q_p1_room, .ref q_p1_daily, .ref q_p1_drain, .ref q_p1_above])), (q_p1_room, .inl (cI, 8, .inl v_p1_room)), (q_p1_drain, .inl (cI, 8, .inl v_p1_drain)), (q_p2, .inr (10, [.ref q_p2_kept, .ref q_p2_away, .int v_p2_days, .int 0, .int v_p2_river])), (q_p2_kept, .inl (cI, 8, .inl v_p2_kept))] := hD
  refine lv_aload_n hx hb dX0_draw_10 rfl (lv_at hl 0 rfl) ?_
  refine lv_iconst (v := (-1)) hx hb dX0_draw_11 (by decide) ?_
  refine va_put (D := (dC, dI)) (ci := 0) (v := .int (-1)) (ty := .int) (C := RX0) (T := TX0) (N := 3) hx hb hts hiX0 tyX0 tyX0_ok nmX0 hown hK hP hD hS 0 rfl rfl 2 (by decide) hk18 (fun _ h9 => h9) rfl (by decide +kernel) rfl rfl (Nat.le_of_ble_eq_true rfl) dX0_draw_12 (fun H locs hP hD hS => ?_)
  have hP : va_P (dC, dI) vwCl [(q_this, .inr (0, [.int v_hours, .int (-1), .int (-1)])), (q_p1, .inr (6, [.int v_p1_stands, .int v_p1_lent, .int v_p1_pipe, .int v_p1_houses, .ref q_p1_room, .ref q_p1_daily, .ref q_p1_drain, .ref q_p1_above])), (q_p1_room, .inl (cI, 8, .inl v_p1_room)), (q_p1_drain, .inl (cI, 8, .inl v_p1_drain)), (q_p2, .inr (10, [.ref q_p2_kept, .ref q_p2_away, .int v_p2_days, .int 0, .int v_p2_river])), (q_p2_kept, .inl (cI, 8, .inl v_p2_kept))] H := hP
  have hD : va_D A [(q_this, .inr (0, [.int v_hours, .int (-1), .int (-1)])), (q_p1, .inr (6, [.int v_p1_stands, .int v_p1_lent, .int v_p1_pipe, .int v_p1_houses, .ref q_p1_room, .ref q_p1_daily, .ref q_p1_drain, .ref q_p1_above])), (q_p1_room, .inl (cI, 8, .inl v_p1_room)), (q_p1_drain, .inl (cI, 8, .inl v_p1_drain)), (q_p2, .inr (10, [.ref q_p2_kept, .ref q_p2_away, .int v_p2_days, .int 0, .int v_p2_river])), (q_p2_kept, .inl (cI, 8, .inl v_p2_kept))] := hD
  refine lv_aload_n hx hb dX0_draw_15 rfl (lv_at hl 0 rfl) ?_
  refine lv_aload_n hx hb dX0_draw_16 rfl (lv_at hl 1 rfl) ?_
  refine lv_aload_n hx hb dX0_draw_17 rfl (lv_at hl 2 rfl) ?_
  obtain ⟨y18, hc18, hrun⟩ := oz_bind hrun
  have hPc := hP.sub (ws' := [(q_this, .inr (0, [.int v_hours, .int (-1), .int (-1)])), (q_p1, .inr (6, [.int v_p1_stands, .int v_p1_lent, .int v_p1_pipe, .int v_p1_houses, .ref q_p1_room, .ref q_p1_daily, .ref q_p1_drain, .ref q_p1_above])), (q_p2, .inr (10, [.ref q_p2_kept, .ref q_p2_away, .int v_p2_days, .int 0, .int v_p2_river])), (q_p2_kept, .inl (cI, 8, .inl v_p2_kept))]) [0, 1, 4, 5] rfl
  have hDc := hD.sub (ws' := [(q_this, .inr (0, [.int v_hours, .int (-1), .int (-1)])), (q_p1, .inr (6, [.int v_p1_stands, .int v_p1_lent, .int v_p1_pipe, .int v_p1_houses, .ref q_p1_room, .ref q_p1_daily, .ref q_p1_drain, .ref q_p1_above])), (q_p2, .inr (10, [.ref q_p2_kept, .ref q_p2_away, .int v_p2_days, .int 0, .int v_p2_river])), (q_p2_kept, .inl (cI, 8, .inl v_p2_kept))]) [0, 1, 4, 5] (by decide) rfl
  have hFc := va_free (wc := [(q_this, .inr (0, [.int v_hours, .int (-1), .int (-1)])), (q_p1, .inr (6, [.int v_p1_stands, .int v_p1_lent, .int v_p1_pipe, .int v_p1_houses, .ref q_p1_room, .ref q_p1_daily, .ref q_p1_drain, .ref q_p1_above])), (q_p2, .inr (10, [.ref q_p2_kept, .ref q_p2_away, .int v_p2_days, .int 0, .int v_p2_river])), (q_p2_kept, .inl (cI, 8, .inl v_p2_kept))]) hD hS hA [0, 1, 4, 5] rfl
  refine va_callv (va_runV (As := [.ref q_p1, .ref q_p2]) (rest := []) ⟨hx, hb, hml, hown, hts⟩ (tX0_lookRound l dC dI cI cZ q_p1 q_p1_above q_p1_daily q_p1_drain q_p1_room q_p2 q_p2_away q_p2_kept q_this H.size v_hours v_p1_stands v_p1_lent v_p1_pipe v_p2_days 0 v_p2_river (-1) (-1) v_p1_houses v_p2_kept y18 hc18) (cwV 2 hts gX0_draw_X0_lookRound rfl rfl rfl (by decide +kernel) ⟨Nat.le_of_ble_eq_true rfl, Nat.le_of_ble_eq_true rfl⟩) ⟨fun a U g mk q => by obtain ⟨q0, q1, qP, qK, qD⟩ := q; exact ⟨q0, q1, qP, va_K.moved (u := U) (U := U.calling g mk a) (Vm.Alike.refl U.vm) qK, qD⟩, va_recv hK hPc (ci := 0) (q0 := 0) rfl rfl, fun U hU hW => ⟨rfl, by rw [hU], by rw [hU]; exact hPc, va_K.moved hW.alike hK, hDc.weaken (fun _ _ _ _ => trivial)⟩⟩ rfl rfl hl.1 rfl (lv_room (Nat.le_of_ble_eq_true rfl)) dX0_draw_18 ⟨Nat.le_of_ble_eq_true rfl, Nat.le_of_ble_eq_true rfl⟩) hS (fun q _ h => hFc q h) hFc (fun u9 t9 H1 locs ht9 hvm9 hw9 hB9 hz9 hkk9 hS => ?_)
  obtain ⟨hP9, hK9, hD9⟩ := hB9
  rw [ht9] at hP9
  obtain ⟨hP, hD⟩ := va_join (wr := [(q_p1_room, .inl (cI, 8, .inl v_p1_room)), (q_p1_drain, .inl (cI, 8, .inl v_p1_drain))]) (w1 := [(q_this, .inr (0, [.int v_hours, .int y18.1, .int y18.2])), (q_p1, .inr (6, [.int v_p1_stands, .int v_p1_lent, .int v_p1_pipe, .int v_p1_houses, .ref q_p1_room, .ref q_p1_daily, .ref q_p1_drain, .ref q_p1_above])), (q_p2, .inr (10, [.ref q_p2_kept, .ref q_p2_away, .int v_p2_days, .int 0, .int v_p2_river])), (q_p2_kept, .inl (cI, 8, .inl v_p2_kept))]) hP hD [0, 1, 4, 5] [2, 3] rfl rfl (by decide) (by decide) hkk9 hFc hP9 hD9
  generalize H1 = H at hP hS ⊢
  have hP : va_P (dC, dI) vwCl [(q_p1_room, .inl (cI, 8, .inl v_p1_room)), (q_p1_drain, .inl (cI, 8, .inl v_p1_drain)), (q_this, .inr (0, [.int v_hours, .int y18.1, .int y18.2])), (q_p1, .inr (6, [.int v_p1_stands, .int v_p1_lent, .int v_p1_pipe, .int v_p1_houses, .ref q_p1_room, .ref q_p1_daily, .ref q_p1_drain, .ref q_p1_above])), (q_p2, .inr (10, [.ref q_p2_kept, .ref q_p2_away, .int v_p2_days, .int 0, .int v_p2_river])), (q_p2_kept, .inl (cI, 8, .inl v_p2_kept))] H := hP
  have hD : va_D A [(q_p1_room, .inl (cI, 8, .inl v_p1_room)), (q_p1_drain, .inl (cI, 8, .inl v_p1_drain)), (q_this, .inr (0, [.int v_hours, .int y18.1, .int y18.2])), (q_p1, .inr (6, [.int v_p1_stands, .int v_p1_lent, .int v_p1_pipe, .int v_p1_houses, .ref q_p1_room, .ref q_p1_daily, .ref q_p1_drain, .ref q_p1_above])), (q_p2, .inr (10, [.ref q_p2_kept, .ref q_p2_away, .int v_p2_days, .int 0, .int v_p2_river])), (q_p2_kept, .inl (cI, 8, .inl v_p2_kept))] := hD
  refine lv_iconst (v := 0) hx hb dX0_draw_21 (by decide) ?_
  refine lv_istore_n (lv' := [(3, .int 0), (0, .ref q_this), (1, .ref q_p1), (2, .ref q_p2)]) hx hb dX0_draw_22 rfl hl (by decide) rfl (fun ls hl => ?_)
  obtain ⟨o23, hlp23, hrun⟩ := oz_bind hrun
  have hL23 : ∀ (n : Nat) (w23 : Int32 × Int32 × Int32 × Int32 × Int32 × (Nat → Int32)) (o23 : Int32 × Int32 × Int32 × Int32 × Int32 × (Nat → Int32)), oz_loop (fX0_draw_b23 v_p1_pipe v_p1_houses v_p1_room v_p1_drain) n w23 = some o23 → (∀ (H : Heap) (locs : List Loc) (ls : Array Slot), va_P (dC, dI) vwCl [(q_this, .inr (0, [.int v_hours, .int o23.2.1, .int o23.2.2.1])), (q_p1, .inr (6, [.int v_p1_stands, .int v_p1_lent, .int v_p1_pipe, .int v_p1_houses, .ref q_p1_room, .ref q_p1_daily, .ref q_p1_drain, .ref q_p1_above])), (q_p1_room, .inl (cI, 8, .inl v_p1_room)), (q_p1_drain, .inl (cI, 8, .inl v_p1_drain)), (q_p2, .inr (10, [.ref q_p2_kept, .ref q_p2_away, .int v_p2_days, .int o23.2.2.2.1, .int o23.2.2.2.2.1])), (q_p2_kept, .inl (cI, 8, .inl o23.2.2.2.2.2))] H → va_D A [(q_this, .inr (0, [.int v_hours, .int o23.2.1, .int o23.2.2.1])), (q_p1, .inr (6, [.int v_p1_stands, .int v_p1_lent, .int v_p1_pipe, .int v_p1_houses, .ref q_p1_room, .ref q_p1_daily, .ref q_p1_drain, .ref q_p1_above])), (q_p1_room, .inl (cI, 8, .inl v_p1_room)), (q_p1_drain, .inl (cI, 8, .inl v_p1_drain)), (q_p2, .inr (10, [.ref q_p2_kept, .ref q_p2_away, .int v_p2_days, .int o23.2.2.2.1, .int o23.2.2.2.2.1])), (q_p2_kept, .inl (cI, 8, .inl o23.2.2.2.2.2))] → va_S A s.heap H locs → lv_has ls 4 [(3, .int o23.1), (0, .ref q_this), (1, .ref q_p1), (2, .ref q_p2)] → W p l e (headSpec wsX0_draw rmX0_draw).room s m (([.ref q_this, .ref q_p1, .ref q_p2] : List Value).toArray) below meth c H locs 0 0 Q (F0 m 55 ls [])) → ∀ (H : Heap) (locs : List Loc) (ls : Array Slot), va_P (dC, dI) vwCl [(q_this, .inr (0, [.int v_hours, .int w23.2.1, .int w23.2.2.1])), (q_p1, .inr (6, [.int v_p1_stands, .int v_p1_lent, .int v_p1_pipe, .int v_p1_houses, .ref q_p1_room, .ref q_p1_daily, .ref q_p1_drain, .ref q_p1_above])), (q_p1_room, .inl (cI, 8, .inl v_p1_room)), (q_p1_drain, .inl (cI, 8, .inl v_p1_drain)), (q_p2, .inr (10, [.ref q_p2_kept, .ref q_p2_away, .int v_p2_days, .int w23.2.2.2.1, .int w23.2.2.2.2.1])), (q_p2_kept, .inl (cI, 8, .inl w23.2.2.2.2.2))] H → va_D A [(q_this, .inr (0, [.int v_hours, .int w23.2.1, .int w23.2.2.1])), (q_p1, .inr (6, [.int v_p1_stands, .int v_p1_lent, .int v_p1_pipe, .int v_p1_houses, .ref q_p1_room, .ref q_p1_daily, .ref q_p1_drain, .ref q_p1_above])), (q_p1_room, .inl (cI, 8, .inl v_p1_room)), (q_p1_drain, .inl (cI, 8, .inl v_p1_drain)), (q_p2, .inr (10, [.ref q_p2_kept, .ref q_p2_away, .int v_p2_days, .int w23.2.2.2.1, .int w23.2.2.2.2.1])), (q_p2_kept, .inl (cI, 8, .inl w23.2.2.2.2.2))] → va_S A s.heap H locs → lv_has ls 4 [(3, .int w23.1), (0, .ref q_this), (1, .ref q_p1), (2, .ref q_p2)] → W p l e (headSpec wsX0_draw rmX0_draw).room s m (([.ref q_this, .ref q_p1, .ref q_p2] : List Value).toArray) below meth c H locs 0 0 Q (F0 m 23 ls []) := by
    intro n
    induction n with
    | zero => intro w23 o23 h9; exact (oz_zero h9).elim
    | succ n ih =>
      intro w23 o23 h9 hexit H locs ls hP hD hS hl
      obtain ⟨r9, hrun, hnext⟩ := oz_step h9
      unfold fX0_draw_b23 at hrun
      refine lv_iload_n hx hb dX0_draw_23 rfl (lv_at hl 0 rfl) ?_
      refine lv_sipush (v := 999) hx hb dX0_draw_24 (by decide) ?_
      refine lv_icmp_ge (tgt := 55) hx hb dX0_draw_27 (by decide) (fun c1 => ?_) (fun c1 => ?_)
      · have hrun := oz_t hrun c1
        have hr9 := Option.some.inj hrun
        subst hr9
        have ho9 : (w23.1, w23.2.1, w23.2.2.1, w23.2.2.2.1, w23.2.2.2.2.1, w23.2.2.2.2.2) = o23 := hnext
        subst ho9
        exact hexit _ _ _ (hP.sub [0, 1, 2, 3, 4, 5] rfl) (hD.sub [0, 1, 2, 3, 4, 5] (by decide) rfl) hS (lv_sub hl [0, 1, 2, 3] rfl)
      · have hrun := oz_f hrun c1
        refine lv_aload_n hx hb dX0_draw_30 rfl (lv_at hl 3 rfl) ?_
        refine lv_aload_n hx hb dX0_draw_31 rfl (lv_at hl 2 rfl) ?_
        obtain ⟨y32, hc32, hrun⟩ := oz_bind hrun
        have hPc := hP.sub (ws' := [(q_p2, .inr (10, [.ref q_p2_kept, .ref q_p2_away, .int v_p2_days, .int w23.2.2.2.1, .int w23.2.2.2.2.1])), (q_p2_kept, .inl (cI, 8, .inl w23.2.2.2.2.2)), (q_p1, .inr (6, [.int v_p1_stands, .int v_p1_lent, .int v_p1_pipe, .int v_p1_houses, .ref q_p1_room, .ref q_p1_daily, .ref q_p1_drain, .ref q_p1_above]))]) [4, 5, 1] rfl
        have hDc := hD.sub (ws' := [(q_p2, .inr (10, [.ref q_p2_kept, .ref q_p2_away, .int v_p2_days, .int w23.2.2.2.1, .int w23.2.2.2.2.1])), (q_p2_kept, .inl (cI, 8, .inl w23.2.2.2.2.2)), (q_p1, .inr (6, [.int v_p1_stands, .int v_p1_lent, .int v_p1_pipe, .int v_p1_houses, .ref q_p1_room, .ref q_p1_daily, .ref q_p1_drain, .ref q_p1_above]))]) [4, 5, 1] (by decide) rfl
        have hFc := va_free (wc := [(q_p2, .inr (10, [.ref q_p2_kept, .ref q_p2_away, .int v_p2_days, .int w23.2.2.2.1, .int w23.2.2.2.2.1])), (q_p2_kept, .inl (cI, 8, .inl w23.2.2.2.2.2)), (q_p1, .inr (6, [.int v_p1_stands, .int v_p1_lent, .int v_p1_pipe, .int v_p1_houses, .ref q_p1_room, .ref q_p1_daily, .ref q_p1_drain, .ref q_p1_above]))]) hD hS hA [4, 5, 1] rfl
        refine va_calli (va_runV (As := [.ref q_p1]) (rest := []) ⟨hx, hb, hml, hown, hts⟩ (tX10_inAll l dC dI cI cZ q_p2_away q_p2_kept q_p1 q_p1_above q_p1_daily q_p1_drain q_p1_room q_p2 H.size v_p2_days w23.2.2.2.1 w23.2.2.2.2.1 v_p1_stands v_p1_lent v_p1_pipe w23.2.2.2.2.2 v_p1_houses y32 hc32) (cwV 1 hts gX0_draw_X10_inAll rfl rfl rfl (by decide +kernel) ⟨Nat.le_of_ble_eq_true rfl, Nat.le_of_ble_eq_true rfl⟩) ⟨fun a U g mk q => by obtain ⟨q0, q1, qP, qK, qD⟩ := q; exact ⟨q0, q1, qP, va_K.moved (u := U) (U := U.calling g mk a) (Vm.Alike.refl U.vm) qK, qD⟩, va_recv hK hPc (ci := 10) (q0 := 0) rfl rfl, fun U hU hW => ⟨rfl, by rw [hU], by rw [hU]; exact hPc, va_K.moved hW.alike hK, hDc.weaken (fun _ _ _ _ => trivial)⟩⟩ rfl rfl hl.1 rfl (lv_room (Nat.le_of_ble_eq_true rfl)) dX0_draw_32 ⟨Nat.le_of_ble_eq_true rfl, Nat.le_of_ble_eq_true rfl⟩) hS (fun q _ h => hFc q h) hFc (fun r32 u9 t9 H1 locs ht9 hvm9 hw9 hB9 hz9 hkk9 hS => ?_)
        have hw9 : y32 = r32 := hw9.symm
        subst hw9
        obtain ⟨hP9, hK9, hD9⟩ := hB9
        rw [ht9] at hP9
        obtain ⟨hP, hD⟩ := va_join (wr := [(q_this, .inr (0, [.int v_hours, .int w23.2.1, .int w23.2.2.1])), (q_p1_room, .inl (cI, 8, .inl v_p1_room)), (q_p1_drain, .inl (cI, 8, .inl v_p1_drain))]) (w1 := [(q_p2, .inr (10, [.ref q_p2_kept, .ref q_p2_away, .int v_p2_days, .int w23.2.2.2.1, .int w23.2.2.2.2.1])), (q_p2_kept, .inl (cI, 8, .inl w23.2.2.2.2.2)), (q_p1, .inr (6, [.int v_p1_stands, .int v_p1_lent, .int v_p1_pipe, .int v_p1_houses, .ref q_p1_room, .ref q_p1_daily, .ref q_p1_drain, .ref q_p1_above]))]) hP hD [4, 5, 1] [0, 2, 3] rfl rfl (by decide) (by decide) hkk9 hFc hP9 hD9
        generalize H1 = H at hP hS ⊢
        have hP : va_P (dC, dI) vwCl [(q_this, .inr (0, [.int v_hours, .int w23.2.1, .int w23.2.2.1])), (q_p1_room, .inl (cI, 8, .inl v_p1_room)), (q_p1_drain, .inl (cI, 8, .inl v_p1_drain)), (q_p2, .inr (10, [.ref q_p2_kept, .ref q_p2_away, .int v_p2_days, .int w23.2.2.2.1, .int w23.2.2.2.2.1])), (q_p2_kept, .inl (cI, 8, .inl w23.2.2.2.2.2)), (q_p1, .inr (6, [.int v_p1_stands, .int v_p1_lent, .int v_p1_pipe, .int v_p1_houses, .ref q_p1_room, .ref q_p1_daily, .ref q_p1_drain, .ref q_p1_above]))] H := hP
        have hD : va_D A [(q_this, .inr (0, [.int v_hours, .int w23.2.1, .int w23.2.2.1])), (q_p1_room, .inl (cI, 8, .inl v_p1_room)), (q_p1_drain, .inl (cI, 8, .inl v_p1_drain)), (q_p2, .inr (10, [.ref q_p2_kept, .ref q_p2_away, .int v_p2_days, .int w23.2.2.2.1, .int w23.2.2.2.2.1])), (q_p2_kept, .inl (cI, 8, .inl w23.2.2.2.2.2)), (q_p1, .inr (6, [.int v_p1_stands, .int v_p1_lent, .int v_p1_pipe, .int v_p1_houses, .ref q_p1_room, .ref q_p1_daily, .ref q_p1_drain, .ref q_p1_above]))] := hD
        refine lv_if_le (tgt := 55) hx hb dX0_draw_35 (by decide) (fun c2 => ?_) (fun c2 => ?_)
        · have hrun := oz_t hrun c2
          have hr9 := Option.some.inj hrun
          subst hr9
          have ho9 : (w23.1, w23.2.1, w23.2.2.1, w23.2.2.2.1, w23.2.2.2.2.1, w23.2.2.2.2.2) = o23 := hnext
          subst ho9
          exact hexit _ _ _ (hP.sub [0, 5, 1, 2, 3, 4] rfl) (hD.sub [0, 5, 1, 2, 3, 4] (by decide) rfl) hS (lv_sub hl [0, 1, 2, 3] rfl)
        · have hrun := oz_f hrun c2
          refine lv_aload_n hx hb dX0_draw_38 rfl (lv_at hl 3 rfl) ?_
          refine lv_aload_n hx hb dX0_draw_39 rfl (lv_at hl 2 rfl) ?_
          obtain ⟨y40, hc40, hrun⟩ := oz_bind hrun
          have hPc := hP.sub (ws' := [(q_p2, .inr (10, [.ref q_p2_kept, .ref q_p2_away, .int v_p2_days, .int w23.2.2.2.1, .int w23.2.2.2.2.1])), (q_p2_kept, .inl (cI, 8, .inl w23.2.2.2.2.2)), (q_p1, .inr (6, [.int v_p1_stands, .int v_p1_lent, .int v_p1_pipe, .int v_p1_houses, .ref q_p1_room, .ref q_p1_daily, .ref q_p1_drain, .ref q_p1_above])), (q_p1_room, .inl (cI, 8, .inl v_p1_room)), (q_p1_drain, .inl (cI, 8, .inl v_p1_drain))]) [3, 4, 5, 1, 2] rfl
          have hDc := hD.sub (ws' := [(q_p2, .inr (10, [.ref q_p2_kept, .ref q_p2_away, .int v_p2_days, .int w23.2.2.2.1, .int w23.2.2.2.2.1])), (q_p2_kept, .inl (cI, 8, .inl w23.2.2.2.2.2)), (q_p1, .inr (6, [.int v_p1_stands, .int v_p1_lent, .int v_p1_pipe, .int v_p1_houses, .ref q_p1_room, .ref q_p1_daily, .ref q_p1_drain, .ref q_p1_above])), (q_p1_room, .inl (cI, 8, .inl v_p1_room)), (q_p1_drain, .inl (cI, 8, .inl v_p1_drain))]) [3, 4, 5, 1, 2] (by decide) rfl
          have hFc := va_free (wc := [(q_p2, .inr (10, [.ref q_p2_kept, .ref q_p2_away, .int v_p2_days, .int w23.2.2.2.1, .int w23.2.2.2.2.1])), (q_p2_kept, .inl (cI, 8, .inl w23.2.2.2.2.2)), (q_p1, .inr (6, [.int v_p1_stands, .int v_p1_lent, .int v_p1_pipe, .int v_p1_houses, .ref q_p1_room, .ref q_p1_daily, .ref q_p1_drain, .ref q_p1_above])), (q_p1_room, .inl (cI, 8, .inl v_p1_room)), (q_p1_drain, .inl (cI, 8, .inl v_p1_drain))]) hD hS hA [3, 4, 5, 1, 2] rfl
          refine va_callv (va_runV (As := [.ref q_p1]) (rest := []) ⟨hx, hb, hml, hown, hts⟩ (tX10_passHour l dC dI cI cZ q_p2_away q_p2_kept q_p1 q_p1_above q_p1_daily q_p1_drain q_p1_room q_p2 H.size v_p2_days v_p1_stands v_p1_lent w23.2.2.2.1 w23.2.2.2.2.1 w23.2.2.2.2.2 v_p1_pipe v_p1_houses v_p1_room v_p1_drain y40 hc40) (cwV 1 hts gX0_draw_X10_passHour rfl rfl rfl (by decide +kernel) ⟨Nat.le_of_ble_eq_true rfl, Nat.le_of_ble_eq_true rfl⟩) ⟨fun a U g mk q => by obtain ⟨q0, q1, qP, qK, qD⟩ := q; exact ⟨q0, q1, qP, va_K.moved (u := U) (U := U.calling g mk a) (Vm.Alike.refl U.vm) qK, qD⟩, va_recv hK hPc (ci := 10) (q0 := 0) rfl rfl, fun U hU hW => ⟨rfl, by rw [hU], by rw [hU]; exact hPc, va_K.moved hW.alike hK, hDc.weaken (fun _ _ _ _ => trivial)⟩⟩ rfl rfl hl.1 rfl (lv_room (Nat.le_of_ble_eq_true rfl)) dX0_draw_40 ⟨Nat.le_of_ble_eq_true rfl, Nat.le_of_ble_eq_true rfl⟩) hS (fun q _ h => hFc q h) hFc (fun u9 t9 H1 locs ht9 hvm9 hw9 hB9 hz9 hkk9 hS => ?_)
          obtain ⟨hP9, hK9, hD9⟩ := hB9
          rw [ht9] at hP9
          obtain ⟨hP, hD⟩ := va_join (wr := [(q_this, .inr (0, [.int v_hours, .int w23.2.1, .int w23.2.2.1]))]) (w1 := [(q_p2, .inr (10, [.ref q_p2_kept, .ref q_p2_away, .int v_p2_days, .int y40.1, .int y40.2.1])), (q_p2_kept, .inl (cI, 8, .inl y40.2.2)), (q_p1, .inr (6, [.int v_p1_stands, .int v_p1_lent, .int v_p1_pipe, .int v_p1_houses, .ref q_p1_room, .ref q_p1_daily, .ref q_p1_drain, .ref q_p1_above])), (q_p1_room, .inl (cI, 8, .inl v_p1_room)), (q_p1_drain, .inl (cI, 8, .inl v_p1_drain))]) hP hD [3, 4, 5, 1, 2] [0] rfl rfl (by decide) (by decide) hkk9 hFc hP9 hD9
          generalize H1 = H at hP hS ⊢
          have hP : va_P (dC, dI) vwCl [(q_this, .inr (0, [.int v_hours, .int w23.2.1, .int w23.2.2.1])), (q_p2, .inr (10, [.ref q_p2_kept, .ref q_p2_away, .int v_p2_days, .int y40.1, .int y40.2.1])), (q_p2_kept, .inl (cI, 8, .inl y40.2.2)), (q_p1, .inr (6, [.int v_p1_stands, .int v_p1_lent, .int v_p1_pipe, .int v_p1_houses, .ref q_p1_room, .ref q_p1_daily, .ref q_p1_drain, .ref q_p1_above])), (q_p1_room, .inl (cI, 8, .inl v_p1_room)), (q_p1_drain, .inl (cI, 8, .inl v_p1_drain))] H := hP
          have hD : va_D A [(q_this, .inr (0, [.int v_hours, .int w23.2.1, .int w23.2.2.1])), (q_p2, .inr (10, [.ref q_p2_kept, .ref q_p2_away, .int v_p2_days, .int y40.1, .int y40.2.1])), (q_p2_kept, .inl (cI, 8, .inl y40.2.2)), (q_p1, .inr (6, [.int v_p1_stands, .int v_p1_lent, .int v_p1_pipe, .int v_p1_houses, .ref q_p1_room, .ref q_p1_daily, .ref q_p1_drain, .ref q_p1_above])), (q_p1_room, .inl (cI, 8, .inl v_p1_room)), (q_p1_drain, .inl (cI, 8, .inl v_p1_drain))] := hD
          refine lv_aload_n hx hb dX0_draw_43 rfl (lv_at hl 1 rfl) ?_
          refine lv_aload_n hx hb dX0_draw_44 rfl (lv_at hl 2 rfl) ?_
          refine lv_aload_n hx hb dX0_draw_45 rfl (lv_at hl 3 rfl) ?_
          obtain ⟨y46, hc46, hrun⟩ := oz_bind hrun
          have hPc := hP.sub (ws' := [(q_this, .inr (0, [.int v_hours, .int w23.2.1, .int w23.2.2.1])), (q_p1, .inr (6, [.int v_p1_stands, .int v_p1_lent, .int v_p1_pipe, .int v_p1_houses, .ref q_p1_room, .ref q_p1_daily, .ref q_p1_drain, .ref q_p1_above])), (q_p2, .inr (10, [.ref q_p2_kept, .ref q_p2_away, .int v_p2_days, .int y40.1, .int y40.2.1])), (q_p2_kept, .inl (cI, 8, .inl y40.2.2))]) [0, 3, 1, 2] rfl
          have hDc := hD.sub (ws' := [(q_this, .inr (0, [.int v_hours, .int w23.2.1, .int w23.2.2.1])), (q_p1, .inr (6, [.int v_p1_stands, .int v_p1_lent, .int v_p1_pipe, .int v_p1_houses, .ref q_p1_room, .ref q_p1_daily, .ref q_p1_drain, .ref q_p1_above])), (q_p2, .inr (10, [.ref q_p2_kept, .ref q_p2_away, .int v_p2_days, .int y40.1, .int y40.2.1])), (q_p2_kept, .inl (cI, 8, .inl y40.2.2))]) [0, 3, 1, 2] (by decide) rfl
          have hFc := va_free (wc := [(q_this, .inr (0, [.int v_hours, .int w23.2.1, .int w23.2.2.1])), (q_p1, .inr (6, [.int v_p1_stands, .int v_p1_lent, .int v_p1_pipe, .int v_p1_houses, .ref q_p1_room, .ref q_p1_daily, .ref q_p1_drain, .ref q_p1_above])), (q_p2, .inr (10, [.ref q_p2_kept, .ref q_p2_away, .int v_p2_days, .int y40.1, .int y40.2.1])), (q_p2_kept, .inl (cI, 8, .inl y40.2.2))]) hD hS hA [0, 3, 1, 2] rfl
          refine va_callv (va_runV (As := [.ref q_p1, .ref q_p2]) (rest := []) ⟨hx, hb, hml, hown, hts⟩ (tX0_lookRound l dC dI cI cZ q_p1 q_p1_above q_p1_daily q_p1_drain q_p1_room q_p2 q_p2_away q_p2_kept q_this H.size v_hours v_p1_stands v_p1_lent v_p1_pipe v_p2_days y40.1 y40.2.1 w23.2.1 w23.2.2.1 v_p1_houses y40.2.2 y46 hc46) (cwV 2 hts gX0_draw_X0_lookRound rfl rfl rfl (by decide +kernel) ⟨Nat.le_of_ble_eq_true rfl, Nat.le_of_ble_eq_true rfl⟩) ⟨fun a U g mk q => by obtain ⟨q0, q1, qP, qK, qD⟩ := q; exact ⟨q0, q1, qP, va_K.moved (u := U) (U := U.calling g mk a) (Vm.Alike.refl U.vm) qK, qD⟩, va_recv hK hPc (ci := 0) (q0 := 0) rfl rfl, fun U hU hW => ⟨rfl, by rw [hU], by rw [hU]; exact hPc, va_K.moved hW.alike hK, hDc.weaken (fun _ _ _ _ => trivial)⟩⟩ rfl rfl hl.1 rfl (lv_room (Nat.le_of_ble_eq_true rfl)) dX0_draw_46 ⟨Nat.le_of_ble_eq_true rfl, Nat.le_of_ble_eq_true rfl⟩) hS (fun q _ h => hFc q h) hFc (fun u9 t9 H1 locs ht9 hvm9 hw9 hB9 hz9 hkk9 hS => ?_)
          obtain ⟨hP9, hK9, hD9⟩ := hB9
          rw [ht9] at hP9
          obtain ⟨hP, hD⟩ := va_join (wr := [(q_p1_room, .inl (cI, 8, .inl v_p1_room)), (q_p1_drain, .inl (cI, 8, .inl v_p1_drain))]) (w1 := [(q_this, .inr (0, [.int v_hours, .int y46.1, .int y46.2])), (q_p1, .inr (6, [.int v_p1_stands, .int v_p1_lent, .int v_p1_pipe, .int v_p1_houses, .ref q_p1_room, .ref q_p1_daily, .ref q_p1_drain, .ref q_p1_above])), (q_p2, .inr (10, [.ref q_p2_kept, .ref q_p2_away, .int v_p2_days, .int y40.1, .int y40.2.1])), (q_p2_kept, .inl (cI, 8, .inl y40.2.2))]) hP hD [0, 3, 1, 2] [4, 5] rfl rfl (by decide) (by decide) hkk9 hFc hP9 hD9
          generalize H1 = H at hP hS ⊢
          have hP : va_P (dC, dI) vwCl [(q_p1_room, .inl (cI, 8, .inl v_p1_room)), (q_p1_drain, .inl (cI, 8, .inl v_p1_drain)), (q_this, .inr (0, [.int v_hours, .int y46.1, .int y46.2])), (q_p1, .inr (6, [.int v_p1_stands, .int v_p1_lent, .int v_p1_pipe, .int v_p1_houses, .ref q_p1_room, .ref q_p1_daily, .ref q_p1_drain, .ref q_p1_above])), (q_p2, .inr (10, [.ref q_p2_kept, .ref q_p2_away, .int v_p2_days, .int y40.1, .int y40.2.1])), (q_p2_kept, .inl (cI, 8, .inl y40.2.2))] H := hP
          have hD : va_D A [(q_p1_room, .inl (cI, 8, .inl v_p1_room)), (q_p1_drain, .inl (cI, 8, .inl v_p1_drain)), (q_this, .inr (0, [.int v_hours, .int y46.1, .int y46.2])), (q_p1, .inr (6, [.int v_p1_stands, .int v_p1_lent, .int v_p1_pipe, .int v_p1_houses, .ref q_p1_room, .ref q_p1_daily, .ref q_p1_drain, .ref q_p1_above])), (q_p2, .inr (10, [.ref q_p2_kept, .ref q_p2_away, .int v_p2_days, .int y40.1, .int y40.2.1])), (q_p2_kept, .inl (cI, 8, .inl y40.2.2))] := hD
          refine lv_iinc (v := (w23.1 + 1)) (lv' := [(3, .int (w23.1 + 1)), (0, .ref q_this), (1, .ref q_p1), (2, .ref q_p2)]) hx hb dX0_draw_49 hl (k := 0) rfl rfl (by decide) rfl (fun ls hl => ?_)
          refine lv_goto (tgt := 23) hx hb dX0_draw_52 (by decide) ?_
          have hr9 := Option.some.inj hrun
          subst hr9
          exact ih ((w23.1 + 1), y46.1, y46.2, y40.1, y40.2.1, y40.2.2) _ hnext hexit _ _ _ (hP.sub [2, 3, 0, 1, 4, 5] rfl) (hD.sub [2, 3, 0, 1, 4, 5] (by decide) rfl) hS (lv_sub hl [0, 1, 2, 3] rfl)
  refine hL23 oz_fuel (0, y18.1, y18.2, 0, v_p2_river, v_p2_kept) o23 hlp23 (fun H locs ls hP hD hS hl => ?_) _ _ _ (hP.sub [2, 3, 0, 1, 4, 5] rfl) (hD.sub [2, 3, 0, 1, 4, 5] (by decide) rfl) hS (lv_sub hl [0, 1, 2, 3] rfl)
  have hP : va_P (dC, dI) vwCl [(q_this, .inr (0, [.int v_hours, .int o23.2.1, .int o23.2.2.1])), (q_p1, .inr (6, [.int v_p1_stands, .int v_p1_lent, .int v_p1_pipe, .int v_p1_houses, .ref q_p1_room, .ref q_p1_daily, .ref q_p1_drain, .ref q_p1_above])), (q_p1_room, .inl (cI, 8, .inl v_p1_room)), (q_p1_drain, .inl (cI, 8, .inl v_p1_drain)), (q_p2, .inr (10, [.ref q_p2_kept, .ref q_p2_away, .int v_p2_days, .int o23.2.2.2.1, .int o23.2.2.2.2.1])), (q_p2_kept, .inl (cI, 8, .inl o23.2.2.2.2.2))] H := hP
  have hD : va_D A [(q_this, .inr (0, [.int v_hours, .int o23.2.1, .int o23.2.2.1])), (q_p1, .inr (6, [.int v_p1_stands, .int v_p1_lent, .int v_p1_pipe, .int v_p1_houses, .ref q_p1_room, .ref q_p1_daily, .ref q_p1_drain, .ref q_p1_above])), (q_p1_room, .inl (cI, 8, .inl v_p1_room)), (q_p1_drain, .inl (cI, 8, .inl v_p1_drain)), (q_p2, .inr (10, [.ref q_p2_kept, .ref q_p2_away, .int v_p2_days, .int o23.2.2.2.1, .int o23.2.2.2.2.1])), (q_p2_kept, .inl (cI, 8, .inl o23.2.2.2.2.2))] := hD
  have hl : lv_has ls 4 [(3, .int o23.1), (0, .ref q_this), (1, .ref q_p1), (2, .ref q_p2)] := hl
  refine lv_aload_n hx hb dX0_draw_55 rfl (lv_at hl 1 rfl) ?_
  refine lv_aload_n hx hb dX0_draw_56 rfl (lv_at hl 3 rfl) ?_
  refine lv_aload_n hx hb dX0_draw_57 rfl (lv_at hl 2 rfl) ?_
  obtain ⟨y58, hc58, hrun⟩ := oz_bind hrun
  have hPc := hP.sub (ws' := [(q_p2, .inr (10, [.ref q_p2_kept, .ref q_p2_away, .int v_p2_days, .int o23.2.2.2.1, .int o23.2.2.2.2.1])), (q_p2_kept, .inl (cI, 8, .inl o23.2.2.2.2.2)), (q_p1, .inr (6, [.int v_p1_stands, .int v_p1_lent, .int v_p1_pipe, .int v_p1_houses, .ref q_p1_room, .ref q_p1_daily, .ref q_p1_drain, .ref q_p1_above]))]) [4, 5, 1] rfl
  have hDc := hD.sub (ws' := [(q_p2, .inr (10, [.ref q_p2_kept, .ref q_p2_away, .int v_p2_days, .int o23.2.2.2.1, .int o23.2.2.2.2.1])), (q_p2_kept, .inl (cI, 8, .inl o23.2.2.2.2.2)), (q_p1, .inr (6, [.int v_p1_stands, .int v_p1_lent, .int v_p1_pipe, .int v_p1_houses, .ref q_p1_room, .ref q_p1_daily, .ref q_p1_drain, .ref q_p1_above]))]) [4, 5, 1] (by decide) rfl
  have hFc := va_free (wc := [(q_p2, .inr (10, [.ref q_p2_kept, .ref q_p2_away, .int v_p2_days, .int o23.2.2.2.1, .int o23.2.2.2.2.1])), (q_p2_kept, .inl (cI, 8, .inl o23.2.2.2.2.2)), (q_p1, .inr (6, [.int v_p1_stands, .int v_p1_lent, .int v_p1_pipe, .int v_p1_houses, .ref q_p1_room, .ref q_p1_daily, .ref q_p1_drain, .ref q_p1_above]))]) hD hS hA [4, 5, 1] rfl
  refine va_calli (va_runV (As := [.ref q_p1]) (rest := [.ref q_this]) ⟨hx, hb, hml, hown, hts⟩ (tX10_inAll l dC dI cI cZ q_p2_away q_p2_kept q_p1 q_p1_above q_p1_daily q_p1_drain q_p1_room q_p2 H.size v_p2_days o23.2.2.2.1 o23.2.2.2.2.1 v_p1_stands v_p1_lent v_p1_pipe o23.2.2.2.2.2 v_p1_houses y58 hc58) (cwV 1 hts gX0_draw_X10_inAll rfl rfl rfl (by decide +kernel) ⟨Nat.le_of_ble_eq_true rfl, Nat.le_of_ble_eq_true rfl⟩) ⟨fun a U g mk q => by obtain ⟨q0, q1, qP, qK, qD⟩ := q; exact ⟨q0, q1, qP, va_K.moved (u := U) (U := U.calling g mk a) (Vm.Alike.refl U.vm) qK, qD⟩, va_recv hK hPc (ci := 10) (q0 := 0) rfl rfl, fun U hU hW => ⟨rfl, by rw [hU], by rw [hU]; exact hPc, va_K.moved hW.alike hK, hDc.weaken (fun _ _ _ _ => trivial)⟩⟩ rfl rfl hl.1 rfl (lv_room (Nat.le_of_ble_eq_true rfl)) dX0_draw_58 ⟨Nat.le_of_ble_eq_true rfl, Nat.le_of_ble_eq_true rfl⟩) hS (fun q _ h => hFc q h) hFc (fun r58 u9 t9 H1 locs ht9 hvm9 hw9 hB9 hz9 hkk9 hS => ?_)
  have hw9 : y58 = r58 := hw9.symm
  subst hw9
  obtain ⟨hP9, hK9, hD9⟩ := hB9
  rw [ht9] at hP9
  obtain ⟨hP, hD⟩ := va_join (wr := [(q_this, .inr (0, [.int v_hours, .int o23.2.1, .int o23.2.2.1])), (q_p1_room, .inl (cI, 8, .inl v_p1_room)), (q_p1_drain, .inl (cI, 8, .inl v_p1_drain))]) (w1 := [(q_p2, .inr (10, [.ref q_p2_kept, .ref q_p2_away, .int v_p2_days, .int o23.2.2.2.1, .int o23.2.2.2.2.1])), (q_p2_kept, .inl (cI, 8, .inl o23.2.2.2.2.2)), (q_p1, .inr (6, [.int v_p1_stands, .int v_p1_lent, .int v_p1_pipe, .int v_p1_houses, .ref q_p1_room, .ref q_p1_daily, .ref q_p1_drain, .ref q_p1_above]))]) hP hD [4, 5, 1] [0, 2, 3] rfl rfl (by decide) (by decide) hkk9 hFc hP9 hD9
  generalize H1 = H at hP hS ⊢
  have hP : va_P (dC, dI) vwCl [(q_this, .inr (0, [.int v_hours, .int o23.2.1, .int o23.2.2.1])), (q_p1_room, .inl (cI, 8, .inl v_p1_room)), (q_p1_drain, .inl (cI, 8, .inl v_p1_drain)), (q_p2, .inr (10, [.ref q_p2_kept, .ref q_p2_away, .int v_p2_days, .int o23.2.2.2.1, .int o23.2.2.2.2.1])), (q_p2_kept, .inl (cI, 8, .inl o23.2.2.2.2.2)), (q_p1, .inr (6, [.int v_p1_stands, .int v_p1_lent, .int v_p1_pipe, .int v_p1_houses, .ref q_p1_room, .ref q_p1_daily, .ref q_p1_drain, .ref q_p1_above]))] H := hP
  have hD : va_D A [(q_this, .inr (0, [.int v_hours, .int o23.2.1, .int o23.2.2.1])), (q_p1_room, .inl (cI, 8, .inl v_p1_room)), (q_p1_drain, .inl (cI, 8, .inl v_p1_drain)), (q_p2, .inr (10, [.ref q_p2_kept, .ref q_p2_away, .int v_p2_days, .int o23.2.2.2.1, .int o23.2.2.2.2.1])), (q_p2_kept, .inl (cI, 8, .inl o23.2.2.2.2.2)), (q_p1, .inr (6, [.int v_p1_stands, .int v_p1_lent, .int v_p1_pipe, .int v_p1_houses, .ref q_p1_room, .ref q_p1_daily, .ref q_p1_drain, .ref q_p1_above]))] := hD
  refine lv_if_ne (tgt := 68) hx hb dX0_draw_61 (by decide) (fun c3 => ?_) (fun c3 => ?_)
  · have hrun := oz_f hrun c3
    refine lv_iconst (v := (-1)) hx hb dX0_draw_68 (by decide) ?_
    refine va_put (D := (dC, dI)) (ci := 0) (v := .int (-1)) (ty := .int) (C := RX0) (T := TX0) (N := 3) hx hb hts hiX0 tyX0 tyX0_ok nmX0 hown hK hP hD hS 0 rfl rfl 0 (by decide) hk9 (fun _ h9 => h9) rfl (by decide +kernel) rfl rfl (Nat.le_of_ble_eq_true rfl) dX0_draw_69 (fun H locs hP hD hS => ?_)
    have hP : va_P (dC, dI) vwCl [(q_this, .inr (0, [.int (-1), .int o23.2.1, .int o23.2.2.1])), (q_p1_room, .inl (cI, 8, .inl v_p1_room)), (q_p1_drain, .inl (cI, 8, .inl v_p1_drain)), (q_p2, .inr (10, [.ref q_p2_kept, .ref q_p2_away, .int v_p2_days, .int o23.2.2.2.1, .int o23.2.2.2.2.1])), (q_p2_kept, .inl (cI, 8, .inl o23.2.2.2.2.2)), (q_p1, .inr (6, [.int v_p1_stands, .int v_p1_lent, .int v_p1_pipe, .int v_p1_houses, .ref q_p1_room, .ref q_p1_daily, .ref q_p1_drain, .ref q_p1_above]))] H := hP
    have hD : va_D A [(q_this, .inr (0, [.int (-1), .int o23.2.1, .int o23.2.2.1])), (q_p1_room, .inl (cI, 8, .inl v_p1_room)), (q_p1_drain, .inl (cI, 8, .inl v_p1_drain)), (q_p2, .inr (10, [.ref q_p2_kept, .ref q_p2_away, .int v_p2_days, .int o23.2.2.2.1, .int o23.2.2.2.2.1])), (q_p2_kept, .inl (cI, 8, .inl o23.2.2.2.2.2)), (q_p1, .inr (6, [.int v_p1_stands, .int v_p1_lent, .int v_p1_pipe, .int v_p1_houses, .ref q_p1_room, .ref q_p1_daily, .ref q_p1_drain, .ref q_p1_above]))] := hD
    have ho9 := Option.some.inj hrun
    subst ho9
    have hP9 := hP.sub (ws' := [(q_this, .inr (0, [.int (-1), .int o23.2.1, .int o23.2.2.1])), (q_p1, .inr (6, [.int v_p1_stands, .int v_p1_lent, .int v_p1_pipe, .int v_p1_houses, .ref q_p1_room, .ref q_p1_daily, .ref q_p1_drain, .ref q_p1_above])), (q_p1_room, .inl (cI, 8, .inl v_p1_room)), (q_p1_drain, .inl (cI, 8, .inl v_p1_drain)), (q_p2, .inr (10, [.ref q_p2_kept, .ref q_p2_away, .int v_p2_days, .int o23.2.2.2.1, .int o23.2.2.2.2.1])), (q_p2_kept, .inl (cI, 8, .inl o23.2.2.2.2.2))]) [0, 5, 1, 2, 3, 4] rfl
    have hD9 := hD.sub (ws' := [(q_this, .inr (0, [.int (-1), .int o23.2.1, .int o23.2.2.1])), (q_p1, .inr (6, [.int v_p1_stands, .int v_p1_lent, .int v_p1_pipe, .int v_p1_houses, .ref q_p1_room, .ref q_p1_daily, .ref q_p1_drain, .ref q_p1_above])), (q_p1_room, .inl (cI, 8, .inl v_p1_room)), (q_p1_drain, .inl (cI, 8, .inl v_p1_drain)), (q_p2, .inr (10, [.ref q_p2_kept, .ref q_p2_away, .int v_p2_days, .int o23.2.2.2.1, .int o23.2.2.2.2.1])), (q_p2_kept, .inl (cI, 8, .inl o23.2.2.2.2.2))]) [0, 5, 1, 2, 3, 4] (by decide) rfl
    rw [hQ]
    exact W.vret hx hb hr (fun t ht hW => ⟨⟨(), rfl, trivial, by rw [ht]; exact hP9, va_K.moved hW.alike hK, hD9⟩, hS.F ht⟩) hS.2.2 dX0_draw_72
  · have hrun := oz_t hrun c3
    refine lv_iload_n hx hb dX0_draw_64 rfl (lv_at hl 0 rfl) ?_
    refine lv_goto (tgt := 69) hx hb dX0_draw_65 (by decide) ?_
    refine va_put (D := (dC, dI)) (ci := 0) (v := .int o23.1) (ty := .int) (C := RX0) (T := TX0) (N := 3) hx hb hts hiX0 tyX0 tyX0_ok nmX0 hown hK hP hD hS 0 rfl rfl 0 (by decide) hk9 (fun _ h9 => h9) rfl (by decide +kernel) rfl rfl (Nat.le_of_ble_eq_true rfl) dX0_draw_69 (fun H locs hP hD hS => ?_)
    have hP : va_P (dC, dI) vwCl [(q_this, .inr (0, [.int o23.1, .int o23.2.1, .int o23.2.2.1])), (q_p1_room, .inl (cI, 8, .inl v_p1_room)), (q_p1_drain, .inl (cI, 8, .inl v_p1_drain)), (q_p2, .inr (10, [.ref q_p2_kept, .ref q_p2_away, .int v_p2_days, .int o23.2.2.2.1, .int o23.2.2.2.2.1])), (q_p2_kept, .inl (cI, 8, .inl o23.2.2.2.2.2)), (q_p1, .inr (6, [.int v_p1_stands, .int v_p1_lent, .int v_p1_pipe, .int v_p1_houses, .ref q_p1_room, .ref q_p1_daily, .ref q_p1_drain, .ref q_p1_above]))] H := hP
    have hD : va_D A [(q_this, .inr (0, [.int o23.1, .int o23.2.1, .int o23.2.2.1])), (q_p1_room, .inl (cI, 8, .inl v_p1_room)), (q_p1_drain, .inl (cI, 8, .inl v_p1_drain)), (q_p2, .inr (10, [.ref q_p2_kept, .ref q_p2_away, .int v_p2_days, .int o23.2.2.2.1, .int o23.2.2.2.2.1])), (q_p2_kept, .inl (cI, 8, .inl o23.2.2.2.2.2)), (q_p1, .inr (6, [.int v_p1_stands, .int v_p1_lent, .int v_p1_pipe, .int v_p1_houses, .ref q_p1_room, .ref q_p1_daily, .ref q_p1_drain, .ref q_p1_above]))] := hD
    have ho9 := Option.some.inj hrun
    subst ho9
    have hP9 := hP.sub (ws' := [(q_this, .inr (0, [.int o23.1, .int o23.2.1, .int o23.2.2.1])), (q_p1, .inr (6, [.int v_p1_stands, .int v_p1_lent, .int v_p1_pipe, .int v_p1_houses, .ref q_p1_room, .ref q_p1_daily, .ref q_p1_drain, .ref q_p1_above])), (q_p1_room, .inl (cI, 8, .inl v_p1_room)), (q_p1_drain, .inl (cI, 8, .inl v_p1_drain)), (q_p2, .inr (10, [.ref q_p2_kept, .ref q_p2_away, .int v_p2_days, .int o23.2.2.2.1, .int o23.2.2.2.2.1])), (q_p2_kept, .inl (cI, 8, .inl o23.2.2.2.2.2))]) [0, 5, 1, 2, 3, 4] rfl
    have hD9 := hD.sub (ws' := [(q_this, .inr (0, [.int o23.1, .int o23.2.1, .int o23.2.2.1])), (q_p1, .inr (6, [.int v_p1_stands, .int v_p1_lent, .int v_p1_pipe, .int v_p1_houses, .ref q_p1_room, .ref q_p1_daily, .ref q_p1_drain, .ref q_p1_above])), (q_p1_room, .inl (cI, 8, .inl v_p1_room)), (q_p1_drain, .inl (cI, 8, .inl v_p1_drain)), (q_p2, .inr (10, [.ref q_p2_kept, .ref q_p2_away, .int v_p2_days, .int o23.2.2.2.1, .int o23.2.2.2.2.1])), (q_p2_kept, .inl (cI, 8, .inl o23.2.2.2.2.2))]) [0, 5, 1, 2, 3, 4] (by decide) rfl
    rw [hQ]
    exact W.vret hx hb hr (fun t ht hW => ⟨⟨(), rfl, trivial, by rw [ht]; exact hP9, va_K.moved hW.alike hK, hD9⟩, hS.F ht⟩) hS.2.2 dX0_draw_72
