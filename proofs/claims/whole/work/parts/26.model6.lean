def fX12_breath_b56 (v_town : Nat → Int32) (w48 : Int32 × Int32 × Int32 × Int32 × (Nat → Int32) × (Nat → Int32)) (w56 : Int32 × Int32 × Int32) : Option ((Int32 × Int32 × Int32) ⊕ (Int32 × Int32 × Int32)) :=
  if (v_town (Int32.toNatClampNeg 2)) ≤ w56.1 then (some (.inr (w56.1, w56.2.1, w56.2.2))) else (if ((0 + w56.1) < 0 ∨ 19 ≤ Int32.toNatClampNeg (0 + w56.1)) then none else if (w48.2.2.2.2.1 (Int32.toNatClampNeg (0 + w56.1))) ≤ w56.2.2 then (if (w48.2.2.2.2.1 (Int32.toNatClampNeg (0 + w56.1))) ≤ w56.2.2 then (some (.inl ((w56.1 + 1), w56.2.1, w56.2.2))) else (some (.inl ((w56.1 + 1), w56.2.1, (w48.2.2.2.2.1 (Int32.toNatClampNeg (0 + w56.1))))))) else (if (w48.2.2.2.2.1 (Int32.toNatClampNeg (0 + w56.1))) ≤ w56.2.2 then (some (.inl ((w56.1 + 1), w56.1, w56.2.2))) else (some (.inl ((w56.1 + 1), w56.1, (w48.2.2.2.2.1 (Int32.toNatClampNeg (0 + w56.1))))))))
def fX12_breath_b48 (v_town : Nat → Int32) (w48 : Int32 × Int32 × Int32 × Int32 × (Nat → Int32) × (Nat → Int32)) : Option ((Int32 × Int32 × Int32 × Int32 × (Nat → Int32) × (Nat → Int32)) ⊕ (Int32 × Int32 × Int32 × Int32 × (Nat → Int32) × (Nat → Int32))) :=
  if w48.1 = 0 then (some (.inr (w48.1, w48.2.1, w48.2.2.1, w48.2.2.2.1, w48.2.2.2.2.1, w48.2.2.2.2.2))) else (Option.bind (oz_loop (fX12_breath_b56 v_town w48) oz_fuel (0, w48.2.2.1, w48.2.2.2.1)) (fun o56 => Option.bind (fX12_keptOf w48.2.2.2.2.1) (fun y124 => if y124 ≤ 0 then (some (.inl (0, w48.2.1, o56.2.1, o56.2.2, w48.2.2.2.2.1, w48.2.2.2.2.2))) else (if 999 ≤ w48.2.1 then (some (.inl (0, w48.2.1, o56.2.1, o56.2.2, w48.2.2.2.2.1, w48.2.2.2.2.2))) else (Option.bind (fX12_hourGoes v_town w48.2.2.2.2.2 w48.2.2.2.2.1) (fun y155 => some (.inl (1, (w48.2.1 + 1), o56.2.1, o56.2.2, y155.2, y155.1))))))))
def fX12_breath (v_town : Nat → Int32) (v_now : Nat → Int32) (v_aside : Nat → Int32) (v_went : Nat → Int32) (a1 : Int32) : Option (Int32 × (Nat → Int32) × (Nat → Int32)) :=
  Option.bind (fX12_in (Int32.toInt64 a1) (0 : Int64) (3 : Int64)) (fun y6 => if y6 = 0 then (some ((-1000000002), v_aside, v_went)) else (if (v_town (Int32.toNatClampNeg 2)) = 0 then (some ((-1), v_aside, v_went)) else (Option.bind (fX12_layAside v_now v_aside) (fun y27 => Option.bind (oz_loop (fX12_breath_b48 v_town) oz_fuel (1, 0, (-1), (-1), (upd y27 (Int32.toNatClampNeg 17) 0), v_went)) (fun o48 => if a1 = 0 then (Option.bind (fX12_keptOf o48.2.2.2.2.1) (fun y196 => if y196 ≤ 0 then (some (o48.2.1, o48.2.2.2.2.1, o48.2.2.2.2.2)) else (some ((-1), o48.2.2.2.2.1, o48.2.2.2.2.2)))) else if a1 = 1 then (some ((o48.2.2.2.2.1 (Int32.toNatClampNeg 17)), o48.2.2.2.2.1, o48.2.2.2.2.2)) else if a1 = 2 then (some (o48.2.2.2.1, o48.2.2.2.2.1, o48.2.2.2.2.2)) else (some (o48.2.2.1, o48.2.2.2.2.1, o48.2.2.2.2.2)))))))
def rmX12_breath : Room := { frames := 3, cells := 0, slots := 0, locals := 67 }
set_option maxHeartbeats 4000000 in
set_option maxRecDepth 100000 in
theorem tX12_breath (l : Launch) (dC : Nat → ClassId) (dI : Nat → Nat → Nat) (cI cZ : ClassId) (q_aside q_book q_free q_images q_kept q_now q_past q_read q_sights q_stands q_text q_this q_town q_went : Nat) (sz : Nat) (v_undos : Int32) (v_seed : Int64) (v_size : Int32) (v_fault : Int32) (v_sightMany : Int32) (v_bookMany : Int32) (v_at : Int32) (v_begin : Int32) (v_sign : Int32) (v_figures : Int32) (v_value : Int32) (v_wrong : Int32) (v_town : Nat → Int32) (v_now : Nat → Int32) (v_aside : Nat → Int32) (v_went : Nat → Int32) (a1 : Int32) (out : Int32 × (Nat → Int32) × (Nat → Int32)) (hrun : fX12_breath v_town v_now v_aside v_went a1 = some out) : Met l yX12_breath wsX12_breath rmX12_breath (va_Pc [.ref q_this, .int a1] (fun U => U.heap.size = sz ∧ va_P (dC, dI) vwCl [(q_this, .inr (12, [.ref q_town, .ref q_read, .ref q_now, .ref q_aside, .ref q_past, .int v_undos, .ref q_images, .ref q_kept, .long v_seed, .ref q_text, .int v_size, .int v_fault, .ref q_sights, .int v_sightMany, .ref q_book, .int v_bookMany, .int v_at, .int v_begin, .int v_sign, .int v_figures, .int v_value, .int v_wrong, .ref q_went, .ref q_free, .ref q_stands])), (q_town, .inl (cI, 27, .inl v_town)), (q_now, .inl (cI, 19, .inl v_now)), (q_aside, .inl (cI, 19, .inl v_aside)), (q_went, .inl (cI, 8, .inl v_went))] U.heap ∧ va_K (dC, dI) vwCl [(cI, .int), (cZ, .boolean)] U ∧ va_D (fun _ => True) [(q_this, .inr (12, [.ref q_town, .ref q_read, .ref q_now, .ref q_aside, .ref q_past, .int v_undos, .ref q_images, .ref q_kept, .long v_seed, .ref q_text, .int v_size, .int v_fault, .ref q_sights, .int v_sightMany, .ref q_book, .int v_bookMany, .int v_at, .int v_begin, .int v_sign, .int v_figures, .int v_value, .int v_wrong, .ref q_went, .ref q_free, .ref q_stands])), (q_town, .inl (cI, 27, .inl v_town)), (q_now, .inl (cI, 19, .inl v_now)), (q_aside, .inl (cI, 19, .inl v_aside)), (q_went, .inl (cI, 8, .inl v_went))])) (va_Qi (fun (r : Int32) (_ : Unit) => r = out.1) (fun _ t => va_P (dC, dI) vwCl [(q_this, .inr (12, [.ref q_town, .ref q_read, .ref q_now, .ref q_aside, .ref q_past, .int v_undos, .ref q_images, .ref q_kept, .long v_seed, .ref q_text, .int v_size, .int v_fault, .ref q_sights, .int v_sightMany, .ref q_book, .int v_bookMany, .int v_at, .int v_begin, .int v_sign, .int v_figures, .int v_value, .int v_wrong, .ref q_went, .ref q_free, .ref q_stands])), (q_town, .inl (cI, 27, .inl v_town)), (q_now, .inl (cI, 19, .inl v_now)), (q_aside, .inl (cI, 19, .inl out.2.1)), (q_went, .inl (cI, 8, .inl out.2.2))] t.heap ∧ va_K (dC, dI) vwCl [(cI, .int), (cZ, .boolean)] t ∧ va_D (va_A [(q_this, .inr (12, [.ref q_town, .ref q_read, .ref q_now, .ref q_aside, .ref q_past, .int v_undos, .ref q_images, .ref q_kept, .long v_seed, .ref q_text, .int v_size, .int v_fault, .ref q_sights, .int v_sightMany, .ref q_book, .int v_bookMany, .int v_at, .int v_begin, .int v_sign, .int v_figures, .int v_value, .int v_wrong, .ref q_went, .ref q_free, .ref q_stands])), (q_town, .inl (cI, 27, .inl v_town)), (q_now, .inl (cI, 19, .inl v_now)), (q_aside, .inl (cI, 19, .inl v_aside)), (q_went, .inl (cI, 8, .inl v_went))] sz) [(q_this, .inr (12, [.ref q_town, .ref q_read, .ref q_now, .ref q_aside, .ref q_past, .int v_undos, .ref q_images, .ref q_kept, .long v_seed, .ref q_text, .int v_size, .int v_fault, .ref q_sights, .int v_sightMany, .ref q_book, .int v_bookMany, .int v_at, .int v_begin, .int v_sign, .int v_figures, .int v_value, .int v_wrong, .ref q_went, .ref q_free, .ref q_stands])), (q_town, .inl (cI, 27, .inl v_town)), (q_now, .inl (cI, 19, .inl v_now)), (q_aside, .inl (cI, 19, .inl out.2.1)), (q_went, .inl (cI, 8, .inl out.2.2))]) (va_A [(q_this, .inr (12, [.ref q_town, .ref q_read, .ref q_now, .ref q_aside, .ref q_past, .int v_undos, .ref q_images, .ref q_kept, .long v_seed, .ref q_text, .int v_size, .int v_fault, .ref q_sights, .int v_sightMany, .ref q_book, .int v_bookMany, .int v_at, .int v_begin, .int v_sign, .int v_figures, .int v_value, .int v_wrong, .ref q_went, .ref q_free, .ref q_stands])), (q_town, .inl (cI, 27, .inl v_town)), (q_now, .inl (cI, 19, .inl v_now)), (q_aside, .inl (cI, 19, .inl v_aside)), (q_went, .inl (cI, 8, .inl v_went))] sz)) 0 0 (va_A [(q_this, .inr (12, [.ref q_town, .ref q_read, .ref q_now, .ref q_aside, .ref q_past, .int v_undos, .ref q_images, .ref q_kept, .long v_seed, .ref q_text, .int v_size, .int v_fault, .ref q_sights, .int v_sightMany, .ref q_book, .int v_bookMany, .int v_at, .int v_begin, .int v_sign, .int v_figures, .int v_value, .int v_wrong, .ref q_went, .ref q_free, .ref q_stands])), (q_town, .inl (cI, 27, .inl v_town)), (q_now, .inl (cI, 19, .inl v_now)), (q_aside, .inl (cI, 19, .inl v_aside)), (q_went, .inl (cI, 8, .inl v_went))] sz) := by
  refine Met.ofW (cc := cX12_breath) (maxL := 7) (ret := (some .int)) (by decide) rfl ?_
  intro p e s m args below meth c s₁ B hml hv
  obtain ⟨rfl, hsz, hP, hK, hD0⟩ := hv
  have hx := B.exec
  have hb := B.bytes
  have hr := B.returns
  have hts := atoms_spec (ws := wsX12_breath) B.pre
  have hown : s.vm.findClass RX12 = some m.cls := findClass_of_methodNamed B.named
  have hlocks := B.notSynchronized
  subst hsz
  have hD := hD0.self (sz := s.heap.size)
  generalize hAe : va_A [(q_this, .inr (12, [.ref q_town, .ref q_read, .ref q_now, .ref q_aside, .ref q_past, .int v_undos, .ref q_images, .ref q_kept, .long v_seed, .ref q_text, .int v_size, .int v_fault, .ref q_sights, .int v_sightMany, .ref q_book, .int v_bookMany, .int v_at, .int v_begin, .int v_sign, .int v_figures, .int v_value, .int v_wrong, .ref q_went, .ref q_free, .ref q_stands])), (q_town, .inl (cI, 27, .inl v_town)), (q_now, .inl (cI, 19, .inl v_now)), (q_aside, .inl (cI, 19, .inl v_aside)), (q_went, .inl (cI, 8, .inl v_went))] s.heap.size = A at hD ⊢
  have hA : ∀ q : Nat, s.heap.size ≤ q → A q := fun q h => by rw [← hAe]; exact Or.inr h
  have hS : va_S A s.heap s.heap [] := va_S.rf
  have hl := lv_entry ([.ref q_this, .int a1]) (n := 7) (Nat.le_of_ble_eq_true rfl)
  rw [lg_entry_eq]
  generalize (lg_sl ([.ref q_this, .int a1]) ++ List.replicate (7 - (lg_sl ([.ref q_this, .int a1])).length) Slot.unset).toArray = ls at hl ⊢
  have hl : lv_has ls 7 [(0, .ref q_this), (1, .int a1)] := hl
  unfold fX12_breath at hrun
  have hk212 := hts (.constantLong RX12 212 (3)) (by decide +kernel)
  have hk7 := hts (.fieldLink RX12 7 "LentDrainsModel" "town" "[I") (by decide +kernel)
  have hiX12 : ∀ w ∈ wsX120, w ∈ wsX12_breath := by decide +kernel
  have hk19 := hts (.fieldLink RX12 19 "LentDrainsModel" "aside" "[I") (by decide +kernel)
  have hk69 := hts (.constant RX12 69 (-1000000002)) (by decide +kernel)
  refine oz_genQ (fun Q hQ => ?_)
  refine lv_iload_n hx hb dX12_breath_0 rfl (lv_at hl 1 rfl) ?_
  refine lv_i2l hx hb dX12_breath_1 rfl ?_
  refine lv_lconst (v := 0) hx hb dX12_breath_2 (by decide) ?_
  refine lv_ldc2 hx hb hown hk212 dX12_breath_3 ?_
  obtain ⟨y6, hc6, hrun⟩ := oz_bind hrun
  have hPc := hP.sub (ws' := []) [] rfl
  have hDc := hD.sub (ws' := []) [] (by decide) rfl
  have hFc := va_free (wc := []) hD hS hA [] rfl
  refine va_calli (va_runS (As := [.long (Int32.toInt64 a1), .long (0 : Int64), .long (3 : Int64)]) (rest := []) ⟨hx, hb, hml, hown, hts⟩ (tX12_in l dC dI cI cZ s.heap.size (Int32.toInt64 a1) (0 : Int64) (3 : Int64) y6 hc6) (va_cwS 3 hts gX12_breath_X12_in rfl rfl rfl (by decide +kernel) ⟨Nat.le_of_ble_eq_true rfl, Nat.le_of_ble_eq_true rfl⟩) ⟨fun a U g mk q => by obtain ⟨q0, q1, qP, qK, qD⟩ := q; exact ⟨q0, q1, qP, va_K.moved (u := U) (U := U.calling g mk a) (Vm.Alike.refl U.vm) qK, qD⟩, fun U hU hW => ⟨rfl, by rw [hU], by rw [hU]; exact hPc, va_K.moved hW.alike hK, hDc.weaken (fun _ _ _ _ => trivial)⟩⟩ rfl rfl hl.1 rfl (lv_room (Nat.le_of_ble_eq_true rfl)) dX12_breath_6 ⟨Nat.le_of_ble_eq_true rfl, Nat.le_of_ble_eq_true rfl⟩) hS (fun q _ h => hFc q h) hFc (fun r6 u9 t9 H1 locs ht9 hvm9 hw9 hB9 hz9 hkk9 hS => ?_)
  have hw9 : y6 = r6 := hw9.symm
  subst hw9
  obtain ⟨hP9, hK9, hD9⟩ := hB9
  rw [ht9] at hP9
  obtain ⟨hP, hD⟩ := va_join (wr := [(q_this, .inr (12, [.ref q_town, .ref q_read, .ref q_now, .ref q_aside, .ref q_past, .int v_undos, .ref q_images, .ref q_kept, .long v_seed, .ref q_text, .int v_size, .int v_fault, .ref q_sights, .int v_sightMany, .ref q_book, .int v_bookMany, .int v_at, .int v_begin, .int v_sign, .int v_figures, .int v_value, .int v_wrong, .ref q_went, .ref q_free, .ref q_stands])), (q_town, .inl (cI, 27, .inl v_town)), (q_now, .inl (cI, 19, .inl v_now)), (q_aside, .inl (cI, 19, .inl v_aside)), (q_went, .inl (cI, 8, .inl v_went))]) (w1 := []) hP hD [] [0, 1, 2, 3, 4] rfl rfl (by decide) (by decide) hkk9 hFc hP9 hD9
  generalize H1 = H at hP hS ⊢
  have hP : va_P (dC, dI) vwCl [(q_this, .inr (12, [.ref q_town, .ref q_read, .ref q_now, .ref q_aside, .ref q_past, .int v_undos, .ref q_images, .ref q_kept, .long v_seed, .ref q_text, .int v_size, .int v_fault, .ref q_sights, .int v_sightMany, .ref q_book, .int v_bookMany, .int v_at, .int v_begin, .int v_sign, .int v_figures, .int v_value, .int v_wrong, .ref q_went, .ref q_free, .ref q_stands])), (q_town, .inl (cI, 27, .inl v_town)), (q_now, .inl (cI, 19, .inl v_now)), (q_aside, .inl (cI, 19, .inl v_aside)), (q_went, .inl (cI, 8, .inl v_went))] H := hP
  have hD : va_D A [(q_this, .inr (12, [.ref q_town, .ref q_read, .ref q_now, .ref q_aside, .ref q_past, .int v_undos, .ref q_images, .ref q_kept, .long v_seed, .ref q_text, .int v_size, .int v_fault, .ref q_sights, .int v_sightMany, .ref q_book, .int v_bookMany, .int v_at, .int v_begin, .int v_sign, .int v_figures, .int v_value, .int v_wrong, .ref q_went, .ref q_free, .ref q_stands])), (q_town, .inl (cI, 27, .inl v_town)), (q_now, .inl (cI, 19, .inl v_now)), (q_aside, .inl (cI, 19, .inl v_aside)), (q_went, .inl (cI, 8, .inl v_went))] := hD
  refine lv_if_ne (tgt := 15) hx hb dX12_breath_9 (by decide) (fun c1 => ?_) (fun c1 => ?_)
  · have hrun := oz_f hrun c1
    refine lv_aload_n hx hb dX12_breath_15 rfl (lv_at hl 0 rfl) ?_
    refine va_get (D := (dC, dI)) (ci := 12) (v := .ref q_town) (C := RX12) (T := TX12) (N := 25) hx hb hts hiX12 hown hK hP 0 rfl rfl 0 (by decide) hk7 (fun _ h9 => h9) rfl dX12_breath_16 ?_
    refine lv_iconst (v := 2) hx hb dX12_breath_19 (by decide) ?_
    refine va_iald hx hb hK hP 1 0 rfl rfl (show ¬ ((2 : Int32) < 0 ∨ 27 ≤ (2 : Int32).toNatClampNeg) by decide) dX12_breath_20 ?_
    refine lv_if_ne (tgt := 26) hx hb dX12_breath_21 (by decide) (fun c2 => ?_) (fun c2 => ?_)
    · have hrun := oz_f hrun c2
      refine lv_aload_n hx hb dX12_breath_26 rfl (lv_at hl 0 rfl) ?_
      obtain ⟨y27, hc27, hrun⟩ := oz_bind hrun
      have hPc := hP.sub (ws' := [(q_this, .inr (12, [.ref q_town, .ref q_read, .ref q_now, .ref q_aside, .ref q_past, .int v_undos, .ref q_images, .ref q_kept, .long v_seed, .ref q_text, .int v_size, .int v_fault, .ref q_sights, .int v_sightMany, .ref q_book, .int v_bookMany, .int v_at, .int v_begin, .int v_sign, .int v_figures, .int v_value, .int v_wrong, .ref q_went, .ref q_free, .ref q_stands])), (q_now, .inl (cI, 19, .inl v_now)), (q_aside, .inl (cI, 19, .inl v_aside))]) [0, 2, 3] rfl
      have hDc := hD.sub (ws' := [(q_this, .inr (12, [.ref q_town, .ref q_read, .ref q_now, .ref q_aside, .ref q_past, .int v_undos, .ref q_images, .ref q_kept, .long v_seed, .ref q_text, .int v_size, .int v_fault, .ref q_sights, .int v_sightMany, .ref q_book, .int v_bookMany, .int v_at, .int v_begin, .int v_sign, .int v_figures, .int v_value, .int v_wrong, .ref q_went, .ref q_free, .ref q_stands])), (q_now, .inl (cI, 19, .inl v_now)), (q_aside, .inl (cI, 19, .inl v_aside))]) [0, 2, 3] (by decide) rfl
      have hFc := va_free (wc := [(q_this, .inr (12, [.ref q_town, .ref q_read, .ref q_now, .ref q_aside, .ref q_past, .int v_undos, .ref q_images, .ref q_kept, .long v_seed, .ref q_text, .int v_size, .int v_fault, .ref q_sights, .int v_sightMany, .ref q_book, .int v_bookMany, .int v_at, .int v_begin, .int v_sign, .int v_figures, .int v_value, .int v_wrong, .ref q_went, .ref q_free, .ref q_stands])), (q_now, .inl (cI, 19, .inl v_now)), (q_aside, .inl (cI, 19, .inl v_aside))]) hD hS hA [0, 2, 3] rfl
      refine va_callv (va_runV (As := []) (rest := []) ⟨hx, hb, hml, hown, hts⟩ (tX12_layAside l dC dI cI cZ q_aside q_book q_free q_images q_kept q_now q_past q_read q_sights q_stands q_text q_this q_town q_went H.size v_undos v_seed v_size v_fault v_sightMany v_bookMany v_at v_begin v_sign v_figures v_value v_wrong v_now v_aside y27 hc27) (cwV 0 hts gX12_breath_X12_layAside rfl rfl rfl (by decide +kernel) ⟨Nat.le_of_ble_eq_true rfl, Nat.le_of_ble_eq_true rfl⟩) ⟨fun a U g mk q => by obtain ⟨q0, q1, qP, qK, qD⟩ := q; exact ⟨q0, q1, qP, va_K.moved (u := U) (U := U.calling g mk a) (Vm.Alike.refl U.vm) qK, qD⟩, va_recv hK hPc (ci := 12) (q0 := 0) rfl rfl, fun U hU hW => ⟨rfl, by rw [hU], by rw [hU]; exact hPc, va_K.moved hW.alike hK, hDc.weaken (fun _ _ _ _ => trivial)⟩⟩ rfl rfl hl.1 rfl (lv_room (Nat.le_of_ble_eq_true rfl)) dX12_breath_27 ⟨Nat.le_of_ble_eq_true rfl, Nat.le_of_ble_eq_true rfl⟩) hS (fun q _ h => hFc q h) hFc (fun u9 t9 H1 locs ht9 hvm9 hw9 hB9 hz9 hkk9 hS => ?_)
      obtain ⟨hP9, hK9, hD9⟩ := hB9
      rw [ht9] at hP9
      obtain ⟨hP, hD⟩ := va_join (wr := [(q_town, .inl (cI, 27, .inl v_town)), (q_went, .inl (cI, 8, .inl v_went))]) (w1 := [(q_this, .inr (12, [.ref q_town, .ref q_read, .ref q_now, .ref q_aside, .ref q_past, .int v_undos, .ref q_images, .ref q_kept, .long v_seed, .ref q_text, .int v_size, .int v_fault, .ref q_sights, .int v_sightMany, .ref q_book, .int v_bookMany, .int v_at, .int v_begin, .int v_sign, .int v_figures, .int v_value, .int v_wrong, .ref q_went, .ref q_free, .ref q_stands])), (q_now, .inl (cI, 19, .inl v_now)), (q_aside, .inl (cI, 19, .inl y27))]) hP hD [0, 2, 3] [1, 4] rfl rfl (by decide) (by decide) hkk9 hFc hP9 hD9
      generalize H1 = H at hP hS ⊢
      have hP : va_P (dC, dI) vwCl [(q_town, .inl (cI, 27, .inl v_town)), (q_went, .inl (cI, 8, .inl v_went)), (q_this, .inr (12, [.ref q_town, .ref q_read, .ref q_now, .ref q_aside, .ref q_past, .int v_undos, .ref q_images, .ref q_kept, .long v_seed, .ref q_text, .int v_size, .int v_fault, .ref q_sights, .int v_sightMany, .ref q_book, .int v_bookMany, .int v_at, .int v_begin, .int v_sign, .int v_figures, .int v_value, .int v_wrong, .ref q_went, .ref q_free, .ref q_stands])), (q_now, .inl (cI, 19, .inl v_now)), (q_aside, .inl (cI, 19, .inl y27))] H := hP
      have hD : va_D A [(q_town, .inl (cI, 27, .inl v_town)), (q_went, .inl (cI, 8, .inl v_went)), (q_this, .inr (12, [.ref q_town, .ref q_read, .ref q_now, .ref q_aside, .ref q_past, .int v_undos, .ref q_images, .ref q_kept, .long v_seed, .ref q_text, .int v_size, .int v_fault, .ref q_sights, .int v_sightMany, .ref q_book, .int v_bookMany, .int v_at, .int v_begin, .int v_sign, .int v_figures, .int v_value, .int v_wrong, .ref q_went, .ref q_free, .ref q_stands])), (q_now, .inl (cI, 19, .inl v_now)), (q_aside, .inl (cI, 19, .inl y27))] := hD
      refine lv_aload_n hx hb dX12_breath_30 rfl (lv_at hl 0 rfl) ?_
      refine va_get (D := (dC, dI)) (ci := 12) (v := .ref q_aside) (C := RX12) (T := TX12) (N := 25) hx hb hts hiX12 hown hK hP 2 rfl rfl 3 (by decide) hk19 (fun _ h9 => h9) rfl dX12_breath_31 ?_
      refine lv_bipush (v := 17) hx hb dX12_breath_34 (by decide) ?_
      refine lv_iconst (v := 0) hx hb dX12_breath_36 (by decide) ?_
      refine va_iast hx hb hK hP hD hS 4 0 rfl rfl (show ¬ ((17 : Int32) < 0 ∨ 19 ≤ (17 : Int32).toNatClampNeg) by decide) dX12_breath_37 (fun H locs hP hD hS => ?_)
      have hP : va_P (dC, dI) vwCl [(q_town, .inl (cI, 27, .inl v_town)), (q_went, .inl (cI, 8, .inl v_went)), (q_this, .inr (12, [.ref q_town, .ref q_read, .ref q_now, .ref q_aside, .ref q_past, .int v_undos, .ref q_images, .ref q_kept, .long v_seed, .ref q_text, .int v_size, .int v_fault, .ref q_sights, .int v_sightMany, .ref q_book, .int v_bookMany, .int v_at, .int v_begin, .int v_sign, .int v_figures, .int v_value, .int v_wrong, .ref q_went, .ref q_free, .ref q_stands])), (q_now, .inl (cI, 19, .inl v_now)), (q_aside, .inl (cI, 19, .inl (upd y27 (Int32.toNatClampNeg 17) 0)))] H := hP
      have hD : va_D A [(q_town, .inl (cI, 27, .inl v_town)), (q_went, .inl (cI, 8, .inl v_went)), (q_this, .inr (12, [.ref q_town, .ref q_read, .ref q_now, .ref q_aside, .ref q_past, .int v_undos, .ref q_images, .ref q_kept, .long v_seed, .ref q_text, .int v_size, .int v_fault, .ref q_sights, .int v_sightMany, .ref q_book, .int v_bookMany, .int v_at, .int v_begin, .int v_sign, .int v_figures, .int v_value, .int v_wrong, .ref q_went, .ref q_free, .ref q_stands])), (q_now, .inl (cI, 19, .inl v_now)), (q_aside, .inl (cI, 19, .inl (upd y27 (Int32.toNatClampNeg 17) 0)))] := hD
      refine lv_iconst (v := (-1)) hx hb dX12_breath_38 (by decide) ?_
      refine lv_istore_n (lv' := [(2, .int (-1)), (0, .ref q_this), (1, .int a1)]) hx hb dX12_breath_39 rfl hl (by decide) rfl (fun ls hl => ?_)
      refine lv_iconst (v := (-1)) hx hb dX12_breath_40 (by decide) ?_
      refine lv_istore_n (lv' := [(3, .int (-1)), (2, .int (-1)), (0, .ref q_this), (1, .int a1)]) hx hb dX12_breath_41 rfl hl (by decide) rfl (fun ls hl => ?_)
      refine lv_iconst (v := 0) hx hb dX12_breath_42 (by decide) ?_
      refine lv_istore (lv' := [(4, .int 0), (3, .int (-1)), (2, .int (-1)), (0, .ref q_this), (1, .int a1)]) hx hb dX12_breath_43 hl (by decide) rfl (fun ls hl => ?_)
      refine lv_iconst (v := 1) hx hb dX12_breath_45 (by decide) ?_
      refine lv_istore (lv' := [(5, .int 1), (4, .int 0), (3, .int (-1)), (2, .int (-1)), (0, .ref q_this), (1, .int a1)]) hx hb dX12_breath_46 hl (by decide) rfl (fun ls hl => ?_)
      obtain ⟨o48, hlp48, hrun⟩ := oz_bind hrun
      have hL48 : ∀ (n : Nat) (w48 : Int32 × Int32 × Int32 × Int32 × (Nat → Int32) × (Nat → Int32)) (o48 : Int32 × Int32 × Int32 × Int32 × (Nat → Int32) × (Nat → Int32)), oz_loop (fX12_breath_b48 v_town) n w48 = some o48 → (∀ (H : Heap) (locs : List Loc) (ls : Array Slot), va_P (dC, dI) vwCl [(q_this, .inr (12, [.ref q_town, .ref q_read, .ref q_now, .ref q_aside, .ref q_past, .int v_undos, .ref q_images, .ref q_kept, .long v_seed, .ref q_text, .int v_size, .int v_fault, .ref q_sights, .int v_sightMany, .ref q_book, .int v_bookMany, .int v_at, .int v_begin, .int v_sign, .int v_figures, .int v_value, .int v_wrong, .ref q_went, .ref q_free, .ref q_stands])), (q_town, .inl (cI, 27, .inl v_town)), (q_now, .inl (cI, 19, .inl v_now)), (q_aside, .inl (cI, 19, .inl o48.2.2.2.2.1)), (q_went, .inl (cI, 8, .inl o48.2.2.2.2.2))] H → va_D A [(q_this, .inr (12, [.ref q_town, .ref q_read, .ref q_now, .ref q_aside, .ref q_past, .int v_undos, .ref q_images, .ref q_kept, .long v_seed, .ref q_text, .int v_size, .int v_fault, .ref q_sights, .int v_sightMany, .ref q_book, .int v_bookMany, .int v_at, .int v_begin, .int v_sign, .int v_figures, .int v_value, .int v_wrong, .ref q_went, .ref q_free, .ref q_stands])), (q_town, .inl (cI, 27, .inl v_town)), (q_now, .inl (cI, 19, .inl v_now)), (q_aside, .inl (cI, 19, .inl o48.2.2.2.2.1)), (q_went, .inl (cI, 8, .inl o48.2.2.2.2.2))] → va_S A s.heap H locs → lv_has ls 7 [(5, .int o48.1), (4, .int o48.2.1), (3, .int o48.2.2.1), (2, .int o48.2.2.2.1), (0, .ref q_this), (1, .int a1)] → W p l e (headSpec wsX12_breath rmX12_breath).room s m (([.ref q_this, .int a1] : List Value).toArray) below meth c H locs 0 0 Q (F0 m 164 ls [])) → ∀ (H : Heap) (locs : List Loc) (ls : Array Slot), va_P (dC, dI) vwCl [(q_this, .inr (12, [.ref q_town, .ref q_read, .ref q_now, .ref q_aside, .ref q_past, .int v_undos, .ref q_images, .ref q_kept, .long v_seed, .ref q_text, .int v_size, .int v_fault, .ref q_sights, .int v_sightMany, .ref q_book, .int v_bookMany, .int v_at, .int v_begin, .int v_sign, .int v_figures, .int v_value, .int v_wrong, .ref q_went, .ref q_free, .ref q_stands])), (q_town, .inl (cI, 27, .inl v_town)), (q_now, .inl (cI, 19, .inl v_now)), (q_aside, .inl (cI, 19, .inl w48.2.2.2.2.1)), (q_went, .inl (cI, 8, .inl w48.2.2.2.2.2))] H → va_D A [(q_this, .inr (12, [.ref q_town, .ref q_read, .ref q_now, .ref q_aside, .ref q_past, .int v_undos, .ref q_images, .ref q_kept, .long v_seed, .ref q_text, .int v_size, .int v_fault, .ref q_sights, .int v_sightMany, .ref q_book, .int v_bookMany, .int v_at, .int v_begin, .int v_sign, .int v_figures, .int v_value, .int v_wrong, .ref q_went, .ref q_free, .ref q_stands])), (q_town, .inl (cI, 27, .inl v_town)), (q_now, .inl (cI, 19, .inl v_now)), (q_aside, .inl (cI, 19, .inl w48.2.2.2.2.1)), (q_went, .inl (cI, 8, .inl w48.2.2.2.2.2))] → va_S A s.heap H locs → lv_has ls 7 [(5, .int w48.1), (4, .int w48.2.1), (3, .int w48.2.2.1), (2, .int w48.2.2.2.1), (0, .ref q_this), (1, .int a1)] → W p l e (headSpec wsX12_breath rmX12_breath).room s m (([.ref q_this, .int a1] : List Value).toArray) below meth c H locs 0 0 Q (F0 m 48 ls []) := by
        intro n
        induction n with
        | zero => intro w48 o48 h9; exact (oz_zero h9).elim
        | succ n ih =>
          intro w48 o48 h9 hexit H locs ls hP hD hS hl
          obtain ⟨r9, hrun, hnext⟩ := oz_step h9
          unfold fX12_breath_b48 at hrun
          refine lv_iload hx hb dX12_breath_48 (lv_at hl 0 rfl) ?_
          refine lv_if_eq (tgt := 164) hx hb dX12_breath_50 (by decide) (fun c3 => ?_) (fun c3 => ?_)
          · have hrun := oz_t hrun c3
            have hr9 := Option.some.inj hrun
            subst hr9
            have ho9 : (w48.1, w48.2.1, w48.2.2.1, w48.2.2.2.1, w48.2.2.2.2.1, w48.2.2.2.2.2) = o48 := hnext
            subst ho9
            exact hexit _ _ _ (hP.sub [0, 1, 2, 3, 4] rfl) (hD.sub [0, 1, 2, 3, 4] (by decide) rfl) hS (lv_sub hl [0, 1, 2, 3, 4, 5] rfl)
          · have hrun := oz_f hrun c3
            refine lv_iconst (v := 0) hx hb dX12_breath_53 (by decide) ?_
            refine lv_istore (lv' := [(6, .int 0), (5, .int w48.1), (4, .int w48.2.1), (3, .int w48.2.2.1), (2, .int w48.2.2.2.1), (0, .ref q_this), (1, .int a1)]) hx hb dX12_breath_54 hl (by decide) rfl (fun ls hl => ?_)
            obtain ⟨o56, hlp56, hrun⟩ := oz_bind hrun
            have hL56 : ∀ (n : Nat) (w56 : Int32 × Int32 × Int32) (o56 : Int32 × Int32 × Int32), oz_loop (fX12_breath_b56 v_town w48) n w56 = some o56 → (∀ (H : Heap) (locs : List Loc) (ls : Array Slot), va_P (dC, dI) vwCl [(q_this, .inr (12, [.ref q_town, .ref q_read, .ref q_now, .ref q_aside, .ref q_past, .int v_undos, .ref q_images, .ref q_kept, .long v_seed, .ref q_text, .int v_size, .int v_fault, .ref q_sights, .int v_sightMany, .ref q_book, .int v_bookMany, .int v_at, .int v_begin, .int v_sign, .int v_figures, .int v_value, .int v_wrong, .ref q_went, .ref q_free, .ref q_stands])), (q_town, .inl (cI, 27, .inl v_town)), (q_now, .inl (cI, 19, .inl v_now)), (q_aside, .inl (cI, 19, .inl w48.2.2.2.2.1)), (q_went, .inl (cI, 8, .inl w48.2.2.2.2.2))] H → va_D A [(q_this, .inr (12, [.ref q_town, .ref q_read, .ref q_now, .ref q_aside, .ref q_past, .int v_undos, .ref q_images, .ref q_kept, .long v_seed, .ref q_text, .int v_size, .int v_fault, .ref q_sights, .int v_sightMany, .ref q_book, .int v_bookMany, .int v_at, .int v_begin, .int v_sign, .int v_figures, .int v_value, .int v_wrong, .ref q_went, .ref q_free, .ref q_stands])), (q_town, .inl (cI, 27, .inl v_town)), (q_now, .inl (cI, 19, .inl v_now)), (q_aside, .inl (cI, 19, .inl w48.2.2.2.2.1)), (q_went, .inl (cI, 8, .inl w48.2.2.2.2.2))] → va_S A s.heap H locs → lv_has ls 7 [(6, .int o56.1), (4, .int w48.2.1), (3, .int o56.2.1), (2, .int o56.2.2), (0, .ref q_this), (1, .int a1)] → W p l e (headSpec wsX12_breath rmX12_breath).room s m (([.ref q_this, .int a1] : List Value).toArray) below meth c H locs 0 0 Q (F0 m 120 ls [])) → ∀ (H : Heap) (locs : List Loc) (ls : Array Slot), va_P (dC, dI) vwCl [(q_this, .inr (12, [.ref q_town, .ref q_read, .ref q_now, .ref q_aside, .ref q_past, .int v_undos, .ref q_images, .ref q_kept, .long v_seed, .ref q_text, .int v_size, .int v_fault, .ref q_sights, .int v_sightMany, .ref q_book, .int v_bookMany, .int v_at, .int v_begin, .int v_sign, .int v_figures, .int v_value, .int v_wrong, .ref q_went, .ref q_free, .ref q_stands])), (q_town, .inl (cI, 27, .inl v_town)), (q_now, .inl (cI, 19, .inl v_now)), (q_aside, .inl (cI, 19, .inl w48.2.2.2.2.1)), (q_went, .inl (cI, 8, .inl w48.2.2.2.2.2))] H → va_D A [(q_this, .inr (12, [.ref q_town, .ref q_read, .ref q_now, .ref q_aside, .ref q_past, .int v_undos, .ref q_images, .ref q_kept, .long v_seed, .ref q_text, .int v_size, .int v_fault, .ref q_sights, .int v_sightMany, .ref q_book, .int v_bookMany, .int v_at, .int v_begin, .int v_sign, .int v_figures, .int v_value, .int v_wrong, .ref q_went, .ref q_free, .ref q_stands])), (q_town, .inl (cI, 27, .inl v_town)), (q_now, .inl (cI, 19, .inl v_now)), (q_aside, .inl (cI, 19, .inl w48.2.2.2.2.1)), (q_went, .inl (cI, 8, .inl w48.2.2.2.2.2))] → va_S A s.heap H locs → lv_has ls 7 [(6, .int w56.1), (4, .int w48.2.1), (3, .int w56.2.1), (2, .int w56.2.2), (0, .ref q_this), (1, .int a1)] → W p l e (headSpec wsX12_breath rmX12_breath).room s m (([.ref q_this, .int a1] : List Value).toArray) below meth c H locs 0 0 Q (F0 m 56 ls []) := by
              intro n
              induction n with
              | zero => intro w56 o56 h9; exact (oz_zero h9).elim
              | succ n ih =>
                intro w56 o56 h9 hexit H locs ls hP hD hS hl
                obtain ⟨r9, hrun, hnext⟩ := oz_step h9
                unfold fX12_breath_b56 at hrun
                refine lv_iload hx hb dX12_breath_56 (lv_at hl 0 rfl) ?_
                refine lv_aload_n hx hb dX12_breath_58 rfl (lv_at hl 4 rfl) ?_
                refine va_get (D := (dC, dI)) (ci := 12) (v := .ref q_town) (C := RX12) (T := TX12) (N := 25) hx hb hts hiX12 hown hK hP 0 rfl rfl 0 (by decide) hk7 (fun _ h9 => h9) rfl dX12_breath_59 ?_
                refine lv_iconst (v := 2) hx hb dX12_breath_62 (by decide) ?_
                refine va_iald hx hb hK hP 1 0 rfl rfl (show ¬ ((2 : Int32) < 0 ∨ 27 ≤ (2 : Int32).toNatClampNeg) by decide) dX12_breath_63 ?_
                refine lv_icmp_ge (tgt := 120) hx hb dX12_breath_64 (by decide) (fun c4 => ?_) (fun c4 => ?_)
                · have hrun := oz_t hrun c4
                  have hr9 := Option.some.inj hrun
                  subst hr9
                  have ho9 : (w56.1, w56.2.1, w56.2.2) = o56 := hnext
                  subst ho9
                  exact hexit _ _ _ (hP.sub [0, 1, 2, 3, 4] rfl) (hD.sub [0, 1, 2, 3, 4] (by decide) rfl) hS (lv_sub hl [0, 1, 2, 3, 4, 5] rfl)
                · have hrun := oz_f hrun c4
                  refine lv_aload_n hx hb dX12_breath_67 rfl (lv_at hl 4 rfl) ?_
                  refine va_get (D := (dC, dI)) (ci := 12) (v := .ref q_aside) (C := RX12) (T := TX12) (N := 25) hx hb hts hiX12 hown hK hP 0 rfl rfl 3 (by decide) hk19 (fun _ h9 => h9) rfl dX12_breath_68 ?_
                  refine lv_iconst (v := 0) hx hb dX12_breath_71 (by decide) ?_
                  refine lv_iload hx hb dX12_breath_72 (lv_at hl 0 rfl) ?_
                  refine lv_iadd hx hb dX12_breath_74 ?_
                  obtain ⟨c5, hrun⟩ := oz_chk hrun
                  refine va_iald hx hb hK hP 3 0 rfl rfl c5 dX12_breath_75 ?_
                  refine lv_iload_n hx hb dX12_breath_76 rfl (lv_at hl 3 rfl) ?_
                  refine lv_icmp_le (tgt := 85) hx hb dX12_breath_77 (by decide) (fun c6 => ?_) (fun c6 => ?_)
                  · have hrun := oz_t hrun c6
                    refine lv_iload_n hx hb dX12_breath_85 rfl (lv_at hl 2 rfl) ?_
                    refine lv_istore_n (lv' := [(3, .int w56.2.1), (6, .int w56.1), (4, .int w48.2.1), (2, .int w56.2.2), (0, .ref q_this), (1, .int a1)]) hx hb dX12_breath_86 rfl hl (by decide) rfl (fun ls hl => ?_)
                    refine lv_aload_n hx hb dX12_breath_87 rfl (lv_at hl 4 rfl) ?_
                    refine va_get (D := (dC, dI)) (ci := 12) (v := .ref q_aside) (C := RX12) (T := TX12) (N := 25) hx hb hts hiX12 hown hK hP 0 rfl rfl 3 (by decide) hk19 (fun _ h9 => h9) rfl dX12_breath_88 ?_
                    refine lv_iconst (v := 0) hx hb dX12_breath_91 (by decide) ?_
                    refine lv_iload hx hb dX12_breath_92 (lv_at hl 1 rfl) ?_
                    refine lv_iadd hx hb dX12_breath_94 ?_
                    refine va_iald hx hb hK hP 3 0 rfl rfl c5 dX12_breath_95 ?_
                    refine lv_iload_n hx hb dX12_breath_96 rfl (lv_at hl 3 rfl) ?_
                    refine lv_icmp_le (tgt := 112) hx hb dX12_breath_97 (by decide) (fun c7 => ?_) (fun c7 => ?_)
                    · have hrun := oz_t hrun c7
                      refine lv_iload_n hx hb dX12_breath_112 rfl (lv_at hl 3 rfl) ?_
                      refine lv_istore_n (lv' := [(2, .int w56.2.2), (3, .int w56.2.1), (6, .int w56.1), (4, .int w48.2.1), (0, .ref q_this), (1, .int a1)]) hx hb dX12_breath_113 rfl hl (by decide) rfl (fun ls hl => ?_)
                      refine lv_iinc (v := (w56.1 + 1)) (lv' := [(6, .int (w56.1 + 1)), (2, .int w56.2.2), (3, .int w56.2.1), (4, .int w48.2.1), (0, .ref q_this), (1, .int a1)]) hx hb dX12_breath_114 hl (k := 2) rfl rfl (by decide) rfl (fun ls hl => ?_)
                      refine lv_goto (tgt := 56) hx hb dX12_breath_117 (by decide) ?_
                      have hr9 := Option.some.inj hrun
                      subst hr9
                      exact ih ((w56.1 + 1), w56.2.1, w56.2.2) _ hnext hexit _ _ _ (hP.sub [0, 1, 2, 3, 4] rfl) (hD.sub [0, 1, 2, 3, 4] (by decide) rfl) hS (lv_sub hl [0, 3, 2, 1, 4, 5] rfl)
                    · have hrun := oz_f hrun c7
                      refine lv_aload_n hx hb dX12_breath_100 rfl (lv_at hl 4 rfl) ?_
                      refine va_get (D := (dC, dI)) (ci := 12) (v := .ref q_aside) (C := RX12) (T := TX12) (N := 25) hx hb hts hiX12 hown hK hP 0 rfl rfl 3 (by decide) hk19 (fun _ h9 => h9) rfl dX12_breath_101 ?_
                      refine lv_iconst (v := 0) hx hb dX12_breath_104 (by decide) ?_
                      refine lv_iload hx hb dX12_breath_105 (lv_at hl 1 rfl) ?_
                      refine lv_iadd hx hb dX12_breath_107 ?_
                      refine va_iald hx hb hK hP 3 0 rfl rfl c5 dX12_breath_108 ?_
                      refine lv_goto (tgt := 113) hx hb dX12_breath_109 (by decide) ?_
                      refine lv_istore_n (lv' := [(2, .int (w48.2.2.2.2.1 (Int32.toNatClampNeg (0 + w56.1)))), (3, .int w56.2.1), (6, .int w56.1), (4, .int w48.2.1), (0, .ref q_this), (1, .int a1)]) hx hb dX12_breath_113 rfl hl (by decide) rfl (fun ls hl => ?_)
                      refine lv_iinc (v := (w56.1 + 1)) (lv' := [(6, .int (w56.1 + 1)), (2, .int (w48.2.2.2.2.1 (Int32.toNatClampNeg (0 + w56.1)))), (3, .int w56.2.1), (4, .int w48.2.1), (0, .ref q_this), (1, .int a1)]) hx hb dX12_breath_114 hl (k := 2) rfl rfl (by decide) rfl (fun ls hl => ?_)
                      refine lv_goto (tgt := 56) hx hb dX12_breath_117 (by decide) ?_
                      have hr9 := Option.some.inj hrun
                      subst hr9
                      exact ih ((w56.1 + 1), w56.2.1, (w48.2.2.2.2.1 (Int32.toNatClampNeg (0 + w56.1)))) _ hnext hexit _ _ _ (hP.sub [0, 1, 2, 3, 4] rfl) (hD.sub [0, 1, 2, 3, 4] (by decide) rfl) hS (lv_sub hl [0, 3, 2, 1, 4, 5] rfl)
                  · have hrun := oz_f hrun c6
                    refine lv_iload hx hb dX12_breath_80 (lv_at hl 0 rfl) ?_
                    refine lv_goto (tgt := 86) hx hb dX12_breath_82 (by decide) ?_
                    refine lv_istore_n (lv' := [(3, .int w56.1), (6, .int w56.1), (4, .int w48.2.1), (2, .int w56.2.2), (0, .ref q_this), (1, .int a1)]) hx hb dX12_breath_86 rfl hl (by decide) rfl (fun ls hl => ?_)
                    refine lv_aload_n hx hb dX12_breath_87 rfl (lv_at hl 4 rfl) ?_
                    refine va_get (D := (dC, dI)) (ci := 12) (v := .ref q_aside) (C := RX12) (T := TX12) (N := 25) hx hb hts hiX12 hown hK hP 0 rfl rfl 3 (by decide) hk19 (fun _ h9 => h9) rfl dX12_breath_88 ?_
                    refine lv_iconst (v := 0) hx hb dX12_breath_91 (by decide) ?_
                    refine lv_iload hx hb dX12_breath_92 (lv_at hl 1 rfl) ?_
                    refine lv_iadd hx hb dX12_breath_94 ?_
                    refine va_iald hx hb hK hP 3 0 rfl rfl c5 dX12_breath_95 ?_
                    refine lv_iload_n hx hb dX12_breath_96 rfl (lv_at hl 3 rfl) ?_
                    refine lv_icmp_le (tgt := 112) hx hb dX12_breath_97 (by decide) (fun c8 => ?_) (fun c8 => ?_)
                    · have hrun := oz_t hrun c8
                      refine lv_iload_n hx hb dX12_breath_112 rfl (lv_at hl 3 rfl) ?_
                      refine lv_istore_n (lv' := [(2, .int w56.2.2), (3, .int w56.1), (6, .int w56.1), (4, .int w48.2.1), (0, .ref q_this), (1, .int a1)]) hx hb dX12_breath_113 rfl hl (by decide) rfl (fun ls hl => ?_)
                      refine lv_iinc (v := (w56.1 + 1)) (lv' := [(6, .int (w56.1 + 1)), (2, .int w56.2.2), (3, .int w56.1), (4, .int w48.2.1), (0, .ref q_this), (1, .int a1)]) hx hb dX12_breath_114 hl (k := 2) rfl rfl (by decide) rfl (fun ls hl => ?_)
                      refine lv_goto (tgt := 56) hx hb dX12_breath_117 (by decide) ?_
                      have hr9 := Option.some.inj hrun
                      subst hr9
                      exact ih ((w56.1 + 1), w56.1, w56.2.2) _ hnext hexit _ _ _ (hP.sub [0, 1, 2, 3, 4] rfl) (hD.sub [0, 1, 2, 3, 4] (by decide) rfl) hS (lv_sub hl [0, 3, 2, 1, 4, 5] rfl)
                    · have hrun := oz_f hrun c8
                      refine lv_aload_n hx hb dX12_breath_100 rfl (lv_at hl 4 rfl) ?_
                      refine va_get (D := (dC, dI)) (ci := 12) (v := .ref q_aside) (C := RX12) (T := TX12) (N := 25) hx hb hts hiX12 hown hK hP 0 rfl rfl 3 (by decide) hk19 (fun _ h9 => h9) rfl dX12_breath_101 ?_
                      refine lv_iconst (v := 0) hx hb dX12_breath_104 (by decide) ?_
                      refine lv_iload hx hb dX12_breath_105 (lv_at hl 1 rfl) ?_
                      refine lv_iadd hx hb dX12_breath_107 ?_
                      refine va_iald hx hb hK hP 3 0 rfl rfl c5 dX12_breath_108 ?_
                      refine lv_goto (tgt := 113) hx hb dX12_breath_109 (by decide) ?_
                      refine lv_istore_n (lv' := [(2, .int (w48.2.2.2.2.1 (Int32.toNatClampNeg (0 + w56.1)))), (3, .int w56.1), (6, .int w56.1), (4, .int w48.2.1), (0, .ref q_this), (1, .int a1)]) hx hb dX12_breath_113 rfl hl (by decide) rfl (fun ls hl => ?_)
                      refine lv_iinc (v := (w56.1 + 1)) (lv' := [(6, .int (w56.1 + 1)), (2, .int (w48.2.2.2.2.1 (Int32.toNatClampNeg (0 + w56.1)))), (3, .int w56.1), (4, .int w48.2.1), (0, .ref q_this), (1, .int a1)]) hx hb dX12_breath_114 hl (k := 2) rfl rfl (by decide) rfl (fun ls hl => ?_)
                      refine lv_goto (tgt := 56) hx hb dX12_breath_117 (by decide) ?_
                      have hr9 := Option.some.inj hrun
                      subst hr9
                      exact ih ((w56.1 + 1), w56.1, (w48.2.2.2.2.1 (Int32.toNatClampNeg (0 + w56.1)))) _ hnext hexit _ _ _ (hP.sub [0, 1, 2, 3, 4] rfl) (hD.sub [0, 1, 2, 3, 4] (by decide) rfl) hS (lv_sub hl [0, 3, 2, 1, 4, 5] rfl)
            refine hL56 oz_fuel (0, w48.2.2.1, w48.2.2.2.1) o56 hlp56 (fun H locs ls hP hD hS hl => ?_) _ _ _ (hP.sub [0, 1, 2, 3, 4] rfl) (hD.sub [0, 1, 2, 3, 4] (by decide) rfl) hS (lv_sub hl [0, 2, 3, 4, 5, 6] rfl)
            have hP : va_P (dC, dI) vwCl [(q_this, .inr (12, [.ref q_town, .ref q_read, .ref q_now, .ref q_aside, .ref q_past, .int v_undos, .ref q_images, .ref q_kept, .long v_seed, .ref q_text, .int v_size, .int v_fault, .ref q_sights, .int v_sightMany, .ref q_book, .int v_bookMany, .int v_at, .int v_begin, .int v_sign, .int v_figures, .int v_value, .int v_wrong, .ref q_went, .ref q_free, .ref q_stands])), (q_town, .inl (cI, 27, .inl v_town)), (q_now, .inl (cI, 19, .inl v_now)), (q_aside, .inl (cI, 19, .inl w48.2.2.2.2.1)), (q_went, .inl (cI, 8, .inl w48.2.2.2.2.2))] H := hP
            have hD : va_D A [(q_this, .inr (12, [.ref q_town, .ref q_read, .ref q_now, .ref q_aside, .ref q_past, .int v_undos, .ref q_images, .ref q_kept, .long v_seed, .ref q_text, .int v_size, .int v_fault, .ref q_sights, .int v_sightMany, .ref q_book, .int v_bookMany, .int v_at, .int v_begin, .int v_sign, .int v_figures, .int v_value, .int v_wrong, .ref q_went, .ref q_free, .ref q_stands])), (q_town, .inl (cI, 27, .inl v_town)), (q_now, .inl (cI, 19, .inl v_now)), (q_aside, .inl (cI, 19, .inl w48.2.2.2.2.1)), (q_went, .inl (cI, 8, .inl w48.2.2.2.2.2))] := hD
            have hl : lv_has ls 7 [(6, .int o56.1), (4, .int w48.2.1), (3, .int o56.2.1), (2, .int o56.2.2), (0, .ref q_this), (1, .int a1)] := hl
            refine lv_aload_n hx hb dX12_breath_120 rfl (lv_at hl 4 rfl) ?_
            refine va_get (D := (dC, dI)) (ci := 12) (v := .ref q_aside) (C := RX12) (T := TX12) (N := 25) hx hb hts hiX12 hown hK hP 0 rfl rfl 3 (by decide) hk19 (fun _ h9 => h9) rfl dX12_breath_121 ?_
            obtain ⟨y124, hc124, hrun⟩ := oz_bind hrun
            have hPc := hP.sub (ws' := [(q_aside, .inl (cI, 19, .inl w48.2.2.2.2.1))]) [3] rfl
            have hDc := hD.sub (ws' := [(q_aside, .inl (cI, 19, .inl w48.2.2.2.2.1))]) [3] (by decide) rfl
            have hFc := va_free (wc := [(q_aside, .inl (cI, 19, .inl w48.2.2.2.2.1))]) hD hS hA [3] rfl
            refine va_calli (va_runS (As := [.ref q_aside]) (rest := []) ⟨hx, hb, hml, hown, hts⟩ (tX12_keptOf l dC dI cI cZ q_aside H.size w48.2.2.2.2.1 y124 hc124) (va_cwS 1 hts gX12_breath_X12_keptOf rfl rfl rfl (by decide +kernel) ⟨Nat.le_of_ble_eq_true rfl, Nat.le_of_ble_eq_true rfl⟩) ⟨fun a U g mk q => by obtain ⟨q0, q1, qP, qK, qD⟩ := q; exact ⟨q0, q1, qP, va_K.moved (u := U) (U := U.calling g mk a) (Vm.Alike.refl U.vm) qK, qD⟩, fun U hU hW => ⟨rfl, by rw [hU], by rw [hU]; exact hPc, va_K.moved hW.alike hK, hDc.weaken (fun _ _ _ _ => trivial)⟩⟩ rfl rfl hl.1 rfl (lv_room (Nat.le_of_ble_eq_true rfl)) dX12_breath_124 ⟨Nat.le_of_ble_eq_true rfl, Nat.le_of_ble_eq_true rfl⟩) hS (fun q _ h => hFc q h) hFc (fun r124 u9 t9 H1 locs ht9 hvm9 hw9 hB9 hz9 hkk9 hS => ?_)
            have hw9 : y124 = r124 := hw9.symm
            subst hw9
            obtain ⟨hP9, hK9, hD9⟩ := hB9
            rw [ht9] at hP9
            obtain ⟨hP, hD⟩ := va_join (wr := [(q_this, .inr (12, [.ref q_town, .ref q_read, .ref q_now, .ref q_aside, .ref q_past, .int v_undos, .ref q_images, .ref q_kept, .long v_seed, .ref q_text, .int v_size, .int v_fault, .ref q_sights, .int v_sightMany, .ref q_book, .int v_bookMany, .int v_at, .int v_begin, .int v_sign, .int v_figures, .int v_value, .int v_wrong, .ref q_went, .ref q_free, .ref q_stands])), (q_town, .inl (cI, 27, .inl v_town)), (q_now, .inl (cI, 19, .inl v_now)), (q_went, .inl (cI, 8, .inl w48.2.2.2.2.2))]) (w1 := [(q_aside, .inl (cI, 19, .inl w48.2.2.2.2.1))]) hP hD [3] [0, 1, 2, 4] rfl rfl (by decide) (by decide) hkk9 hFc hP9 hD9
            generalize H1 = H at hP hS ⊢
            have hP : va_P (dC, dI) vwCl [(q_this, .inr (12, [.ref q_town, .ref q_read, .ref q_now, .ref q_aside, .ref q_past, .int v_undos, .ref q_images, .ref q_kept, .long v_seed, .ref q_text, .int v_size, .int v_fault, .ref q_sights, .int v_sightMany, .ref q_book, .int v_bookMany, .int v_at, .int v_begin, .int v_sign, .int v_figures, .int v_value, .int v_wrong, .ref q_went, .ref q_free, .ref q_stands])), (q_town, .inl (cI, 27, .inl v_town)), (q_now, .inl (cI, 19, .inl v_now)), (q_went, .inl (cI, 8, .inl w48.2.2.2.2.2)), (q_aside, .inl (cI, 19, .inl w48.2.2.2.2.1))] H := hP
            have hD : va_D A [(q_this, .inr (12, [.ref q_town, .ref q_read, .ref q_now, .ref q_aside, .ref q_past, .int v_undos, .ref q_images, .ref q_kept, .long v_seed, .ref q_text, .int v_size, .int v_fault, .ref q_sights, .int v_sightMany, .ref q_book, .int v_bookMany, .int v_at, .int v_begin, .int v_sign, .int v_figures, .int v_value, .int v_wrong, .ref q_went, .ref q_free, .ref q_stands])), (q_town, .inl (cI, 27, .inl v_town)), (q_now, .inl (cI, 19, .inl v_now)), (q_went, .inl (cI, 8, .inl w48.2.2.2.2.2)), (q_aside, .inl (cI, 19, .inl w48.2.2.2.2.1))] := hD
            refine lv_if_le (tgt := 142) hx hb dX12_breath_127 (by decide) (fun c9 => ?_) (fun c9 => ?_)
            · have hrun := oz_t hrun c9
              refine lv_iconst (v := 0) hx hb dX12_breath_142 (by decide) ?_
              refine lv_istore (lv' := [(5, .int 0), (6, .int o56.1), (4, .int w48.2.1), (3, .int o56.2.1), (2, .int o56.2.2), (0, .ref q_this), (1, .int a1)]) hx hb dX12_breath_143 hl (by decide) rfl (fun ls hl => ?_)
              refine lv_iload hx hb dX12_breath_145 (lv_at hl 0 rfl) ?_
              refine lv_if_eq (tgt := 48) hx hb dX12_breath_147 (by decide) (fun _ => ?_) (fun z9 => absurd (by decide) z9)
              have hr9 := Option.some.inj hrun
              subst hr9
              exact ih (0, w48.2.1, o56.2.1, o56.2.2, w48.2.2.2.2.1, w48.2.2.2.2.2) _ hnext hexit _ _ _ (hP.sub [0, 1, 2, 4, 3] rfl) (hD.sub [0, 1, 2, 4, 3] (by decide) rfl) hS (lv_sub hl [0, 2, 3, 4, 5, 6] rfl)
            · have hrun := oz_f hrun c9
              refine lv_iload hx hb dX12_breath_130 (lv_at hl 1 rfl) ?_
              refine lv_sipush (v := 999) hx hb dX12_breath_132 (by decide) ?_
              refine lv_icmp_ge (tgt := 142) hx hb dX12_breath_135 (by decide) (fun c10 => ?_) (fun c10 => ?_)
              · have hrun := oz_t hrun c10
                refine lv_iconst (v := 0) hx hb dX12_breath_142 (by decide) ?_
                refine lv_istore (lv' := [(5, .int 0), (6, .int o56.1), (4, .int w48.2.1), (3, .int o56.2.1), (2, .int o56.2.2), (0, .ref q_this), (1, .int a1)]) hx hb dX12_breath_143 hl (by decide) rfl (fun ls hl => ?_)
                refine lv_iload hx hb dX12_breath_145 (lv_at hl 0 rfl) ?_
                refine lv_if_eq (tgt := 48) hx hb dX12_breath_147 (by decide) (fun _ => ?_) (fun z9 => absurd (by decide) z9)
                have hr9 := Option.some.inj hrun
                subst hr9
                exact ih (0, w48.2.1, o56.2.1, o56.2.2, w48.2.2.2.2.1, w48.2.2.2.2.2) _ hnext hexit _ _ _ (hP.sub [0, 1, 2, 4, 3] rfl) (hD.sub [0, 1, 2, 4, 3] (by decide) rfl) hS (lv_sub hl [0, 2, 3, 4, 5, 6] rfl)
              · have hrun := oz_f hrun c10
                refine lv_iconst (v := 1) hx hb dX12_breath_138 (by decide) ?_
                refine lv_goto (tgt := 143) hx hb dX12_breath_139 (by decide) ?_
                refine lv_istore (lv' := [(5, .int 1), (6, .int o56.1), (4, .int w48.2.1), (3, .int o56.2.1), (2, .int o56.2.2), (0, .ref q_this), (1, .int a1)]) hx hb dX12_breath_143 hl (by decide) rfl (fun ls hl => ?_)
                refine lv_iload hx hb dX12_breath_145 (lv_at hl 0 rfl) ?_
                refine lv_if_eq (tgt := 48) hx hb dX12_breath_147 (by decide) (fun z9 => absurd z9 (by decide)) (fun _ => ?_)
                refine lv_aload_n hx hb dX12_breath_150 rfl (lv_at hl 5 rfl) ?_
                refine lv_aload_n hx hb dX12_breath_151 rfl (lv_at hl 5 rfl) ?_
                refine va_get (D := (dC, dI)) (ci := 12) (v := .ref q_aside) (C := RX12) (T := TX12) (N := 25) hx hb hts hiX12 hown hK hP 0 rfl rfl 3 (by decide) hk19 (fun _ h9 => h9) rfl dX12_breath_152 ?_
                obtain ⟨y155, hc155, hrun⟩ := oz_bind hrun
                have hPc := hP.sub (ws' := [(q_this, .inr (12, [.ref q_town, .ref q_read, .ref q_now, .ref q_aside, .ref q_past, .int v_undos, .ref q_images, .ref q_kept, .long v_seed, .ref q_text, .int v_size, .int v_fault, .ref q_sights, .int v_sightMany, .ref q_book, .int v_bookMany, .int v_at, .int v_begin, .int v_sign, .int v_figures, .int v_value, .int v_wrong, .ref q_went, .ref q_free, .ref q_stands])), (q_town, .inl (cI, 27, .inl v_town)), (q_went, .inl (cI, 8, .inl w48.2.2.2.2.2)), (q_aside, .inl (cI, 19, .inl w48.2.2.2.2.1))]) [0, 1, 3, 4] rfl
                have hDc := hD.sub (ws' := [(q_this, .inr (12, [.ref q_town, .ref q_read, .ref q_now, .ref q_aside, .ref q_past, .int v_undos, .ref q_images, .ref q_kept, .long v_seed, .ref q_text, .int v_size, .int v_fault, .ref q_sights, .int v_sightMany, .ref q_book, .int v_bookMany, .int v_at, .int v_begin, .int v_sign, .int v_figures, .int v_value, .int v_wrong, .ref q_went, .ref q_free, .ref q_stands])), (q_town, .inl (cI, 27, .inl v_town)), (q_went, .inl (cI, 8, .inl w48.2.2.2.2.2)), (q_aside, .inl (cI, 19, .inl w48.2.2.2.2.1))]) [0, 1, 3, 4] (by decide) rfl
                have hFc := va_free (wc := [(q_this, .inr (12, [.ref q_town, .ref q_read, .ref q_now, .ref q_aside, .ref q_past, .int v_undos, .ref q_images, .ref q_kept, .long v_seed, .ref q_text, .int v_size, .int v_fault, .ref q_sights, .int v_sightMany, .ref q_book, .int v_bookMany, .int v_at, .int v_begin, .int v_sign, .int v_figures, .int v_value, .int v_wrong, .ref q_went, .ref q_free, .ref q_stands])), (q_town, .inl (cI, 27, .inl v_town)), (q_went, .inl (cI, 8, .inl w48.2.2.2.2.2)), (q_aside, .inl (cI, 19, .inl w48.2.2.2.2.1))]) hD hS hA [0, 1, 3, 4] rfl
                refine va_callv (va_runV (As := [.ref q_aside]) (rest := []) ⟨hx, hb, hml, hown, hts⟩ (tX12_hourGoes l dC dI cI cZ q_aside q_book q_free q_images q_kept q_now q_aside q_past q_read q_sights q_stands q_text q_this q_town q_went H.size v_undos v_seed v_size v_fault v_sightMany v_bookMany v_at v_begin v_sign v_figures v_value v_wrong v_town w48.2.2.2.2.2 w48.2.2.2.2.1 y155 hc155) (cwV 1 hts gX12_breath_X12_hourGoes rfl rfl rfl (by decide +kernel) ⟨Nat.le_of_ble_eq_true rfl, Nat.le_of_ble_eq_true rfl⟩) ⟨fun a U g mk q => by obtain ⟨q0, q1, qP, qK, qD⟩ := q; exact ⟨q0, q1, qP, va_K.moved (u := U) (U := U.calling g mk a) (Vm.Alike.refl U.vm) qK, qD⟩, va_recv hK hPc (ci := 12) (q0 := 0) rfl rfl, fun U hU hW => ⟨rfl, by rw [hU], by rw [hU]; exact hPc, va_K.moved hW.alike hK, hDc.weaken (fun _ _ _ _ => trivial)⟩⟩ rfl rfl hl.1 rfl (lv_room (Nat.le_of_ble_eq_true rfl)) dX12_breath_155 ⟨Nat.le_of_ble_eq_true rfl, Nat.le_of_ble_eq_true rfl⟩) hS (fun q _ h => hFc q h) hFc (fun u9 t9 H1 locs ht9 hvm9 hw9 hB9 hz9 hkk9 hS => ?_)
                obtain ⟨hP9, hK9, hD9⟩ := hB9
                rw [ht9] at hP9
                obtain ⟨hP, hD⟩ := va_join (wr := [(q_now, .inl (cI, 19, .inl v_now))]) (w1 := [(q_this, .inr (12, [.ref q_town, .ref q_read, .ref q_now, .ref q_aside, .ref q_past, .int v_undos, .ref q_images, .ref q_kept, .long v_seed, .ref q_text, .int v_size, .int v_fault, .ref q_sights, .int v_sightMany, .ref q_book, .int v_bookMany, .int v_at, .int v_begin, .int v_sign, .int v_figures, .int v_value, .int v_wrong, .ref q_went, .ref q_free, .ref q_stands])), (q_town, .inl (cI, 27, .inl v_town)), (q_went, .inl (cI, 8, .inl y155.1)), (q_aside, .inl (cI, 19, .inl y155.2))]) hP hD [0, 1, 3, 4] [2] rfl rfl (by decide) (by decide) hkk9 hFc hP9 hD9
                generalize H1 = H at hP hS ⊢
                have hP : va_P (dC, dI) vwCl [(q_now, .inl (cI, 19, .inl v_now)), (q_this, .inr (12, [.ref q_town, .ref q_read, .ref q_now, .ref q_aside, .ref q_past, .int v_undos, .ref q_images, .ref q_kept, .long v_seed, .ref q_text, .int v_size, .int v_fault, .ref q_sights, .int v_sightMany, .ref q_book, .int v_bookMany, .int v_at, .int v_begin, .int v_sign, .int v_figures, .int v_value, .int v_wrong, .ref q_went, .ref q_free, .ref q_stands])), (q_town, .inl (cI, 27, .inl v_town)), (q_went, .inl (cI, 8, .inl y155.1)), (q_aside, .inl (cI, 19, .inl y155.2))] H := hP
                have hD : va_D A [(q_now, .inl (cI, 19, .inl v_now)), (q_this, .inr (12, [.ref q_town, .ref q_read, .ref q_now, .ref q_aside, .ref q_past, .int v_undos, .ref q_images, .ref q_kept, .long v_seed, .ref q_text, .int v_size, .int v_fault, .ref q_sights, .int v_sightMany, .ref q_book, .int v_bookMany, .int v_at, .int v_begin, .int v_sign, .int v_figures, .int v_value, .int v_wrong, .ref q_went, .ref q_free, .ref q_stands])), (q_town, .inl (cI, 27, .inl v_town)), (q_went, .inl (cI, 8, .inl y155.1)), (q_aside, .inl (cI, 19, .inl y155.2))] := hD
                refine lv_iinc (v := (w48.2.1 + 1)) (lv' := [(4, .int (w48.2.1 + 1)), (5, .int 1), (6, .int o56.1), (3, .int o56.2.1), (2, .int o56.2.2), (0, .ref q_this), (1, .int a1)]) hx hb dX12_breath_158 hl (k := 2) rfl rfl (by decide) rfl (fun ls hl => ?_)
                refine lv_goto (tgt := 48) hx hb dX12_breath_161 (by decide) ?_
                have hr9 := Option.some.inj hrun
                subst hr9
                exact ih (1, (w48.2.1 + 1), o56.2.1, o56.2.2, y155.2, y155.1) _ hnext hexit _ _ _ (hP.sub [1, 2, 0, 4, 3] rfl) (hD.sub [1, 2, 0, 4, 3] (by decide) rfl) hS (lv_sub hl [1, 0, 3, 4, 5, 6] rfl)
      refine hL48 oz_fuel (1, 0, (-1), (-1), (upd y27 (Int32.toNatClampNeg 17) 0), v_went) o48 hlp48 (fun H locs ls hP hD hS hl => ?_) _ _ _ (hP.sub [2, 0, 3, 4, 1] rfl) (hD.sub [2, 0, 3, 4, 1] (by decide) rfl) hS (lv_sub hl [0, 1, 2, 3, 4, 5] rfl)
      have hP : va_P (dC, dI) vwCl [(q_this, .inr (12, [.ref q_town, .ref q_read, .ref q_now, .ref q_aside, .ref q_past, .int v_undos, .ref q_images, .ref q_kept, .long v_seed, .ref q_text, .int v_size, .int v_fault, .ref q_sights, .int v_sightMany, .ref q_book, .int v_bookMany, .int v_at, .int v_begin, .int v_sign, .int v_figures, .int v_value, .int v_wrong, .ref q_went, .ref q_free, .ref q_stands])), (q_town, .inl (cI, 27, .inl v_town)), (q_now, .inl (cI, 19, .inl v_now)), (q_aside, .inl (cI, 19, .inl o48.2.2.2.2.1)), (q_went, .inl (cI, 8, .inl o48.2.2.2.2.2))] H := hP
      have hD : va_D A [(q_this, .inr (12, [.ref q_town, .ref q_read, .ref q_now, .ref q_aside, .ref q_past, .int v_undos, .ref q_images, .ref q_kept, .long v_seed, .ref q_text, .int v_size, .int v_fault, .ref q_sights, .int v_sightMany, .ref q_book, .int v_bookMany, .int v_at, .int v_begin, .int v_sign, .int v_figures, .int v_value, .int v_wrong, .ref q_went, .ref q_free, .ref q_stands])), (q_town, .inl (cI, 27, .inl v_town)), (q_now, .inl (cI, 19, .inl v_now)), (q_aside, .inl (cI, 19, .inl o48.2.2.2.2.1)), (q_went, .inl (cI, 8, .inl o48.2.2.2.2.2))] := hD
      have hl : lv_has ls 7 [(5, .int o48.1), (4, .int o48.2.1), (3, .int o48.2.2.1), (2, .int o48.2.2.2.1), (0, .ref q_this), (1, .int a1)] := hl
      refine lv_iload_n hx hb dX12_breath_164 rfl (lv_at hl 5 rfl) ?_
      rcases Decidable.em (a1 = 0) with c11 | c11
      · have hrun := oz_t hrun c11
        refine lv_tableIn (off := 27) (tgt := 192) hx hb dX12_breath_165 (by rw [c11]; decide) (by rw [c11]; decide) (by rw [c11]; rfl) (by decide) ?_
        refine lv_aload_n hx hb dX12_breath_192 rfl (lv_at hl 4 rfl) ?_
        refine va_get (D := (dC, dI)) (ci := 12) (v := .ref q_aside) (C := RX12) (T := TX12) (N := 25) hx hb hts hiX12 hown hK hP 0 rfl rfl 3 (by decide) hk19 (fun _ h9 => h9) rfl dX12_breath_193 ?_
        obtain ⟨y196, hc196, hrun⟩ := oz_bind hrun
        have hPc := hP.sub (ws' := [(q_aside, .inl (cI, 19, .inl o48.2.2.2.2.1))]) [3] rfl
        have hDc := hD.sub (ws' := [(q_aside, .inl (cI, 19, .inl o48.2.2.2.2.1))]) [3] (by decide) rfl
        have hFc := va_free (wc := [(q_aside, .inl (cI, 19, .inl o48.2.2.2.2.1))]) hD hS hA [3] rfl
        refine va_calli (va_runS (As := [.ref q_aside]) (rest := []) ⟨hx, hb, hml, hown, hts⟩ (tX12_keptOf l dC dI cI cZ q_aside H.size o48.2.2.2.2.1 y196 hc196) (va_cwS 1 hts gX12_breath_X12_keptOf rfl rfl rfl (by decide +kernel) ⟨Nat.le_of_ble_eq_true rfl, Nat.le_of_ble_eq_true rfl⟩) ⟨fun a U g mk q => by obtain ⟨q0, q1, qP, qK, qD⟩ := q; exact ⟨q0, q1, qP, va_K.moved (u := U) (U := U.calling g mk a) (Vm.Alike.refl U.vm) qK, qD⟩, fun U hU hW => ⟨rfl, by rw [hU], by rw [hU]; exact hPc, va_K.moved hW.alike hK, hDc.weaken (fun _ _ _ _ => trivial)⟩⟩ rfl rfl hl.1 rfl (lv_room (Nat.le_of_ble_eq_true rfl)) dX12_breath_196 ⟨Nat.le_of_ble_eq_true rfl, Nat.le_of_ble_eq_true rfl⟩) hS (fun q _ h => hFc q h) hFc (fun r196 u9 t9 H1 locs ht9 hvm9 hw9 hB9 hz9 hkk9 hS => ?_)
        have hw9 : y196 = r196 := hw9.symm
        subst hw9
        obtain ⟨hP9, hK9, hD9⟩ := hB9
        rw [ht9] at hP9
        obtain ⟨hP, hD⟩ := va_join (wr := [(q_this, .inr (12, [.ref q_town, .ref q_read, .ref q_now, .ref q_aside, .ref q_past, .int v_undos, .ref q_images, .ref q_kept, .long v_seed, .ref q_text, .int v_size, .int v_fault, .ref q_sights, .int v_sightMany, .ref q_book, .int v_bookMany, .int v_at, .int v_begin, .int v_sign, .int v_figures, .int v_value, .int v_wrong, .ref q_went, .ref q_free, .ref q_stands])), (q_town, .inl (cI, 27, .inl v_town)), (q_now, .inl (cI, 19, .inl v_now)), (q_went, .inl (cI, 8, .inl o48.2.2.2.2.2))]) (w1 := [(q_aside, .inl (cI, 19, .inl o48.2.2.2.2.1))]) hP hD [3] [0, 1, 2, 4] rfl rfl (by decide) (by decide) hkk9 hFc hP9 hD9
        generalize H1 = H at hP hS ⊢
        have hP : va_P (dC, dI) vwCl [(q_this, .inr (12, [.ref q_town, .ref q_read, .ref q_now, .ref q_aside, .ref q_past, .int v_undos, .ref q_images, .ref q_kept, .long v_seed, .ref q_text, .int v_size, .int v_fault, .ref q_sights, .int v_sightMany, .ref q_book, .int v_bookMany, .int v_at, .int v_begin, .int v_sign, .int v_figures, .int v_value, .int v_wrong, .ref q_went, .ref q_free, .ref q_stands])), (q_town, .inl (cI, 27, .inl v_town)), (q_now, .inl (cI, 19, .inl v_now)), (q_went, .inl (cI, 8, .inl o48.2.2.2.2.2)), (q_aside, .inl (cI, 19, .inl o48.2.2.2.2.1))] H := hP
        have hD : va_D A [(q_this, .inr (12, [.ref q_town, .ref q_read, .ref q_now, .ref q_aside, .ref q_past, .int v_undos, .ref q_images, .ref q_kept, .long v_seed, .ref q_text, .int v_size, .int v_fault, .ref q_sights, .int v_sightMany, .ref q_book, .int v_bookMany, .int v_at, .int v_begin, .int v_sign, .int v_figures, .int v_value, .int v_wrong, .ref q_went, .ref q_free, .ref q_stands])), (q_town, .inl (cI, 27, .inl v_town)), (q_now, .inl (cI, 19, .inl v_now)), (q_went, .inl (cI, 8, .inl o48.2.2.2.2.2)), (q_aside, .inl (cI, 19, .inl o48.2.2.2.2.1))] := hD
        refine lv_if_le (tgt := 206) hx hb dX12_breath_199 (by decide) (fun c12 => ?_) (fun c12 => ?_)
        · have hrun := oz_t hrun c12
          refine lv_iload hx hb dX12_breath_206 (lv_at hl 1 rfl) ?_
          have ho9 := Option.some.inj hrun
          subst ho9
          have hP9 := hP.sub (ws' := [(q_this, .inr (12, [.ref q_town, .ref q_read, .ref q_now, .ref q_aside, .ref q_past, .int v_undos, .ref q_images, .ref q_kept, .long v_seed, .ref q_text, .int v_size, .int v_fault, .ref q_sights, .int v_sightMany, .ref q_book, .int v_bookMany, .int v_at, .int v_begin, .int v_sign, .int v_figures, .int v_value, .int v_wrong, .ref q_went, .ref q_free, .ref q_stands])), (q_town, .inl (cI, 27, .inl v_town)), (q_now, .inl (cI, 19, .inl v_now)), (q_aside, .inl (cI, 19, .inl o48.2.2.2.2.1)), (q_went, .inl (cI, 8, .inl o48.2.2.2.2.2))]) [0, 1, 2, 4, 3] rfl
          have hD9 := hD.sub (ws' := [(q_this, .inr (12, [.ref q_town, .ref q_read, .ref q_now, .ref q_aside, .ref q_past, .int v_undos, .ref q_images, .ref q_kept, .long v_seed, .ref q_text, .int v_size, .int v_fault, .ref q_sights, .int v_sightMany, .ref q_book, .int v_bookMany, .int v_at, .int v_begin, .int v_sign, .int v_figures, .int v_value, .int v_wrong, .ref q_went, .ref q_free, .ref q_stands])), (q_town, .inl (cI, 27, .inl v_town)), (q_now, .inl (cI, 19, .inl v_now)), (q_aside, .inl (cI, 19, .inl o48.2.2.2.2.1)), (q_went, .inl (cI, 8, .inl o48.2.2.2.2.2))]) [0, 1, 2, 4, 3] (by decide) rfl
          rw [hQ]
          exact W.iret (v := o48.2.1) hx hb hr (fun t ht hW => ⟨⟨o48.2.1, (), rfl, rfl, by rw [ht]; exact hP9, va_K.moved hW.alike hK, hD9⟩, hS.F ht⟩) hS.2.2 dX12_breath_208
        · have hrun := oz_f hrun c12
          refine lv_iconst (v := (-1)) hx hb dX12_breath_202 (by decide) ?_
          refine lv_goto (tgt := 208) hx hb dX12_breath_203 (by decide) ?_
          have ho9 := Option.some.inj hrun
          subst ho9
          have hP9 := hP.sub (ws' := [(q_this, .inr (12, [.ref q_town, .ref q_read, .ref q_now, .ref q_aside, .ref q_past, .int v_undos, .ref q_images, .ref q_kept, .long v_seed, .ref q_text, .int v_size, .int v_fault, .ref q_sights, .int v_sightMany, .ref q_book, .int v_bookMany, .int v_at, .int v_begin, .int v_sign, .int v_figures, .int v_value, .int v_wrong, .ref q_went, .ref q_free, .ref q_stands])), (q_town, .inl (cI, 27, .inl v_town)), (q_now, .inl (cI, 19, .inl v_now)), (q_aside, .inl (cI, 19, .inl o48.2.2.2.2.1)), (q_went, .inl (cI, 8, .inl o48.2.2.2.2.2))]) [0, 1, 2, 4, 3] rfl
          have hD9 := hD.sub (ws' := [(q_this, .inr (12, [.ref q_town, .ref q_read, .ref q_now, .ref q_aside, .ref q_past, .int v_undos, .ref q_images, .ref q_kept, .long v_seed, .ref q_text, .int v_size, .int v_fault, .ref q_sights, .int v_sightMany, .ref q_book, .int v_bookMany, .int v_at, .int v_begin, .int v_sign, .int v_figures, .int v_value, .int v_wrong, .ref q_went, .ref q_free, .ref q_stands])), (q_town, .inl (cI, 27, .inl v_town)), (q_now, .inl (cI, 19, .inl v_now)), (q_aside, .inl (cI, 19, .inl o48.2.2.2.2.1)), (q_went, .inl (cI, 8, .inl o48.2.2.2.2.2))]) [0, 1, 2, 4, 3] (by decide) rfl
          rw [hQ]
          exact W.iret (v := (-1)) hx hb hr (fun t ht hW => ⟨⟨(-1), (), rfl, rfl, by rw [ht]; exact hP9, va_K.moved hW.alike hK, hD9⟩, hS.F ht⟩) hS.2.2 dX12_breath_208
      · have hrun := oz_f hrun c11
        rcases Decidable.em (a1 = 1) with c13 | c13
        · have hrun := oz_t hrun c13
          refine lv_tableIn (off := 44) (tgt := 209) hx hb dX12_breath_165 (by rw [c13]; decide) (by rw [c13]; decide) (by rw [c13]; rfl) (by decide) ?_
          refine lv_aload_n hx hb dX12_breath_209 rfl (lv_at hl 4 rfl) ?_
          refine va_get (D := (dC, dI)) (ci := 12) (v := .ref q_aside) (C := RX12) (T := TX12) (N := 25) hx hb hts hiX12 hown hK hP 0 rfl rfl 3 (by decide) hk19 (fun _ h9 => h9) rfl dX12_breath_210 ?_
          refine lv_bipush (v := 17) hx hb dX12_breath_213 (by decide) ?_
          refine va_iald hx hb hK hP 3 0 rfl rfl (show ¬ ((17 : Int32) < 0 ∨ 19 ≤ (17 : Int32).toNatClampNeg) by decide) dX12_breath_215 ?_
          have ho9 := Option.some.inj hrun
          subst ho9
          have hP9 := hP.sub (ws' := [(q_this, .inr (12, [.ref q_town, .ref q_read, .ref q_now, .ref q_aside, .ref q_past, .int v_undos, .ref q_images, .ref q_kept, .long v_seed, .ref q_text, .int v_size, .int v_fault, .ref q_sights, .int v_sightMany, .ref q_book, .int v_bookMany, .int v_at, .int v_begin, .int v_sign, .int v_figures, .int v_value, .int v_wrong, .ref q_went, .ref q_free, .ref q_stands])), (q_town, .inl (cI, 27, .inl v_town)), (q_now, .inl (cI, 19, .inl v_now)), (q_aside, .inl (cI, 19, .inl o48.2.2.2.2.1)), (q_went, .inl (cI, 8, .inl o48.2.2.2.2.2))]) [0, 1, 2, 3, 4] rfl
          have hD9 := hD.sub (ws' := [(q_this, .inr (12, [.ref q_town, .ref q_read, .ref q_now, .ref q_aside, .ref q_past, .int v_undos, .ref q_images, .ref q_kept, .long v_seed, .ref q_text, .int v_size, .int v_fault, .ref q_sights, .int v_sightMany, .ref q_book, .int v_bookMany, .int v_at, .int v_begin, .int v_sign, .int v_figures, .int v_value, .int v_wrong, .ref q_went, .ref q_free, .ref q_stands])), (q_town, .inl (cI, 27, .inl v_town)), (q_now, .inl (cI, 19, .inl v_now)), (q_aside, .inl (cI, 19, .inl o48.2.2.2.2.1)), (q_went, .inl (cI, 8, .inl o48.2.2.2.2.2))]) [0, 1, 2, 3, 4] (by decide) rfl
          rw [hQ]
          exact W.iret (v := (o48.2.2.2.2.1 (Int32.toNatClampNeg 17))) hx hb hr (fun t ht hW => ⟨⟨(o48.2.2.2.2.1 (Int32.toNatClampNeg 17)), (), rfl, rfl, by rw [ht]; exact hP9, va_K.moved hW.alike hK, hD9⟩, hS.F ht⟩) hS.2.2 dX12_breath_216
        · have hrun := oz_f hrun c13
          rcases Decidable.em (a1 = 2) with c14 | c14
          · have hrun := oz_t hrun c14
            refine lv_tableIn (off := 52) (tgt := 217) hx hb dX12_breath_165 (by rw [c14]; decide) (by rw [c14]; decide) (by rw [c14]; rfl) (by decide) ?_
            refine lv_iload_n hx hb dX12_breath_217 rfl (lv_at hl 3 rfl) ?_
            have ho9 := Option.some.inj hrun
            subst ho9
            have hP9 := hP.sub (ws' := [(q_this, .inr (12, [.ref q_town, .ref q_read, .ref q_now, .ref q_aside, .ref q_past, .int v_undos, .ref q_images, .ref q_kept, .long v_seed, .ref q_text, .int v_size, .int v_fault, .ref q_sights, .int v_sightMany, .ref q_book, .int v_bookMany, .int v_at, .int v_begin, .int v_sign, .int v_figures, .int v_value, .int v_wrong, .ref q_went, .ref q_free, .ref q_stands])), (q_town, .inl (cI, 27, .inl v_town)), (q_now, .inl (cI, 19, .inl v_now)), (q_aside, .inl (cI, 19, .inl o48.2.2.2.2.1)), (q_went, .inl (cI, 8, .inl o48.2.2.2.2.2))]) [0, 1, 2, 3, 4] rfl
            have hD9 := hD.sub (ws' := [(q_this, .inr (12, [.ref q_town, .ref q_read, .ref q_now, .ref q_aside, .ref q_past, .int v_undos, .ref q_images, .ref q_kept, .long v_seed, .ref q_text, .int v_size, .int v_fault, .ref q_sights, .int v_sightMany, .ref q_book, .int v_bookMany, .int v_at, .int v_begin, .int v_sign, .int v_figures, .int v_value, .int v_wrong, .ref q_went, .ref q_free, .ref q_stands])), (q_town, .inl (cI, 27, .inl v_town)), (q_now, .inl (cI, 19, .inl v_now)), (q_aside, .inl (cI, 19, .inl o48.2.2.2.2.1)), (q_went, .inl (cI, 8, .inl o48.2.2.2.2.2))]) [0, 1, 2, 3, 4] (by decide) rfl
            rw [hQ]
            exact W.iret (v := o48.2.2.2.1) hx hb hr (fun t ht hW => ⟨⟨o48.2.2.2.1, (), rfl, rfl, by rw [ht]; exact hP9, va_K.moved hW.alike hK, hD9⟩, hS.F ht⟩) hS.2.2 dX12_breath_218
          · have hrun := oz_f hrun c14
            refine lv_tableOut (tgt := 219) hx hb dX12_breath_165 (oz_tab a1 3 (fun k9 h9 => by rcases (show k9 = 0 ∨ k9 = 1 ∨ k9 = 2 by omega) with rfl | rfl | rfl <;> assumption) (by decide)) (by decide) ?_
            refine lv_iload_n hx hb dX12_breath_219 rfl (lv_at hl 2 rfl) ?_
            have ho9 := Option.some.inj hrun
            subst ho9
            have hP9 := hP.sub (ws' := [(q_this, .inr (12, [.ref q_town, .ref q_read, .ref q_now, .ref q_aside, .ref q_past, .int v_undos, .ref q_images, .ref q_kept, .long v_seed, .ref q_text, .int v_size, .int v_fault, .ref q_sights, .int v_sightMany, .ref q_book, .int v_bookMany, .int v_at, .int v_begin, .int v_sign, .int v_figures, .int v_value, .int v_wrong, .ref q_went, .ref q_free, .ref q_stands])), (q_town, .inl (cI, 27, .inl v_town)), (q_now, .inl (cI, 19, .inl v_now)), (q_aside, .inl (cI, 19, .inl o48.2.2.2.2.1)), (q_went, .inl (cI, 8, .inl o48.2.2.2.2.2))]) [0, 1, 2, 3, 4] rfl
            have hD9 := hD.sub (ws' := [(q_this, .inr (12, [.ref q_town, .ref q_read, .ref q_now, .ref q_aside, .ref q_past, .int v_undos, .ref q_images, .ref q_kept, .long v_seed, .ref q_text, .int v_size, .int v_fault, .ref q_sights, .int v_sightMany, .ref q_book, .int v_bookMany, .int v_at, .int v_begin, .int v_sign, .int v_figures, .int v_value, .int v_wrong, .ref q_went, .ref q_free, .ref q_stands])), (q_town, .inl (cI, 27, .inl v_town)), (q_now, .inl (cI, 19, .inl v_now)), (q_aside, .inl (cI, 19, .inl o48.2.2.2.2.1)), (q_went, .inl (cI, 8, .inl o48.2.2.2.2.2))]) [0, 1, 2, 3, 4] (by decide) rfl
            rw [hQ]
            exact W.iret (v := o48.2.2.1) hx hb hr (fun t ht hW => ⟨⟨o48.2.2.1, (), rfl, rfl, by rw [ht]; exact hP9, va_K.moved hW.alike hK, hD9⟩, hS.F ht⟩) hS.2.2 dX12_breath_220
    · have hrun := oz_t hrun c2
      refine lv_iconst (v := (-1)) hx hb dX12_breath_24 (by decide) ?_
      have ho9 := Option.some.inj hrun
      subst ho9
      have hP9 := hP.sub (ws' := [(q_this, .inr (12, [.ref q_town, .ref q_read, .ref q_now, .ref q_aside, .ref q_past, .int v_undos, .ref q_images, .ref q_kept, .long v_seed, .ref q_text, .int v_size, .int v_fault, .ref q_sights, .int v_sightMany, .ref q_book, .int v_bookMany, .int v_at, .int v_begin, .int v_sign, .int v_figures, .int v_value, .int v_wrong, .ref q_went, .ref q_free, .ref q_stands])), (q_town, .inl (cI, 27, .inl v_town)), (q_now, .inl (cI, 19, .inl v_now)), (q_aside, .inl (cI, 19, .inl v_aside)), (q_went, .inl (cI, 8, .inl v_went))]) [0, 1, 2, 3, 4] rfl
      have hD9 := hD.sub (ws' := [(q_this, .inr (12, [.ref q_town, .ref q_read, .ref q_now, .ref q_aside, .ref q_past, .int v_undos, .ref q_images, .ref q_kept, .long v_seed, .ref q_text, .int v_size, .int v_fault, .ref q_sights, .int v_sightMany, .ref q_book, .int v_bookMany, .int v_at, .int v_begin, .int v_sign, .int v_figures, .int v_value, .int v_wrong, .ref q_went, .ref q_free, .ref q_stands])), (q_town, .inl (cI, 27, .inl v_town)), (q_now, .inl (cI, 19, .inl v_now)), (q_aside, .inl (cI, 19, .inl v_aside)), (q_went, .inl (cI, 8, .inl v_went))]) [0, 1, 2, 3, 4] (by decide) rfl
      rw [hQ]
      exact W.iret (v := (-1)) hx hb hr (fun t ht hW => ⟨⟨(-1), (), rfl, rfl, by rw [ht]; exact hP9, va_K.moved hW.alike hK, hD9⟩, hS.F ht⟩) hS.2.2 dX12_breath_25
  · have hrun := oz_t hrun c1
    refine lv_ldc hx hb hown hk69 dX12_breath_12 ?_
    have ho9 := Option.some.inj hrun
    subst ho9
    have hP9 := hP.sub (ws' := [(q_this, .inr (12, [.ref q_town, .ref q_read, .ref q_now, .ref q_aside, .ref q_past, .int v_undos, .ref q_images, .ref q_kept, .long v_seed, .ref q_text, .int v_size, .int v_fault, .ref q_sights, .int v_sightMany, .ref q_book, .int v_bookMany, .int v_at, .int v_begin, .int v_sign, .int v_figures, .int v_value, .int v_wrong, .ref q_went, .ref q_free, .ref q_stands])), (q_town, .inl (cI, 27, .inl v_town)), (q_now, .inl (cI, 19, .inl v_now)), (q_aside, .inl (cI, 19, .inl v_aside)), (q_went, .inl (cI, 8, .inl v_went))]) [0, 1, 2, 3, 4] rfl
    have hD9 := hD.sub (ws' := [(q_this, .inr (12, [.ref q_town, .ref q_read, .ref q_now, .ref q_aside, .ref q_past, .int v_undos, .ref q_images, .ref q_kept, .long v_seed, .ref q_text, .int v_size, .int v_fault, .ref q_sights, .int v_sightMany, .ref q_book, .int v_bookMany, .int v_at, .int v_begin, .int v_sign, .int v_figures, .int v_value, .int v_wrong, .ref q_went, .ref q_free, .ref q_stands])), (q_town, .inl (cI, 27, .inl v_town)), (q_now, .inl (cI, 19, .inl v_now)), (q_aside, .inl (cI, 19, .inl v_aside)), (q_went, .inl (cI, 8, .inl v_went))]) [0, 1, 2, 3, 4] (by decide) rfl
    rw [hQ]
    exact W.iret (v := (-1000000002)) hx hb hr (fun t ht hW => ⟨⟨(-1000000002), (), rfl, rfl, by rw [ht]; exact hP9, va_K.moved hW.alike hK, hD9⟩, hS.F ht⟩) hS.2.2 dX12_breath_14
def fX12_isOrder_b7 (v_town : Nat → Int32) (w7 : Int32 × Int32 × Int32) : Option ((Int32 × Int32 × Int32) ⊕ (Int32 × Int32 × Int32)) :=
  if (v_town (Int32.toNatClampNeg 2)) ≤ w7.1 then (some (.inr (w7.1, w7.2.1, w7.2.2))) else (Option.bind (fX12_isHouse v_town ((w7.2.1 - w7.2.1 / 10 * 10) - 1)) (fun y35 => if y35 = 0 then (some (.inl ((w7.1 + 1), (w7.2.1 / 10), (w7.2.2 ||| 0)))) else (some (.inl ((w7.1 + 1), (w7.2.1 / 10), (w7.2.2 ||| (1 <<< (((w7.2.1 - w7.2.1 / 10 * 10) - 1) &&& 31))))))))
def fX12_isOrder (v_town : Nat → Int32) (a1 : Int32) : Option (Int32) :=
  Option.bind (oz_loop (fX12_isOrder_b7 v_town) oz_fuel (0, a1, 0)) (fun o7 => if a1 ≤ 0 then (some (0)) else (if 7 ≤ (v_town (Int32.toNatClampNeg 2)) then (some (0)) else (if o7.2.1 = 0 then (Option.bind (fX12_bits o7.2.2) (fun y77 => if y77 = (v_town (Int32.toNatClampNeg 2)) then (some (1)) else (some (0)))) else (some (0)))))
def rmX12_isOrder : Room := { frames := 2, cells := 0, slots := 0, locals := 46 }
set_option maxHeartbeats 4000000 in
set_option maxRecDepth 100000 in
theorem tX12_isOrder (l : Launch) (dC : Nat → ClassId) (dI : Nat → Nat → Nat) (cI cZ : ClassId) (q_aside q_book q_free q_images q_kept q_now q_past q_read q_sights q_stands q_text q_this q_town q_went : Nat) (sz : Nat) (v_undos : Int32) (v_seed : Int64) (v_size : Int32) (v_fault : Int32) (v_sightMany : Int32) (v_bookMany : Int32) (v_at : Int32) (v_begin : Int32) (v_sign : Int32) (v_figures : Int32) (v_value : Int32) (v_wrong : Int32) (v_town : Nat → Int32) (a1 : Int32) (out : Int32) (hrun : fX12_isOrder v_town a1 = some out) : Met l yX12_isOrder wsX12_isOrder rmX12_isOrder (va_Pc [.ref q_this, .int a1] (fun U => U.heap.size = sz ∧ va_P (dC, dI) vwCl [(q_this, .inr (12, [.ref q_town, .ref q_read, .ref q_now, .ref q_aside, .ref q_past, .int v_undos, .ref q_images, .ref q_kept, .long v_seed, .ref q_text, .int v_size, .int v_fault, .ref q_sights, .int v_sightMany, .ref q_book, .int v_bookMany, .int v_at, .int v_begin, .int v_sign, .int v_figures, .int v_value, .int v_wrong, .ref q_went, .ref q_free, .ref q_stands])), (q_town, .inl (cI, 27, .inl v_town))] U.heap ∧ va_K (dC, dI) vwCl [(cI, .int), (cZ, .boolean)] U ∧ va_D (fun _ => True) [(q_this, .inr (12, [.ref q_town, .ref q_read, .ref q_now, .ref q_aside, .ref q_past, .int v_undos, .ref q_images, .ref q_kept, .long v_seed, .ref q_text, .int v_size, .int v_fault, .ref q_sights, .int v_sightMany, .ref q_book, .int v_bookMany, .int v_at, .int v_begin, .int v_sign, .int v_figures, .int v_value, .int v_wrong, .ref q_went, .ref q_free, .ref q_stands])), (q_town, .inl (cI, 27, .inl v_town))])) (va_Qi (fun (r : Int32) (_ : Unit) => r = out) (fun _ t => va_P (dC, dI) vwCl [(q_this, .inr (12, [.ref q_town, .ref q_read, .ref q_now, .ref q_aside, .ref q_past, .int v_undos, .ref q_images, .ref q_kept, .long v_seed, .ref q_text, .int v_size, .int v_fault, .ref q_sights, .int v_sightMany, .ref q_book, .int v_bookMany, .int v_at, .int v_begin, .int v_sign, .int v_figures, .int v_value, .int v_wrong, .ref q_went, .ref q_free, .ref q_stands])), (q_town, .inl (cI, 27, .inl v_town))] t.heap ∧ va_K (dC, dI) vwCl [(cI, .int), (cZ, .boolean)] t ∧ va_D (va_A [(q_this, .inr (12, [.ref q_town, .ref q_read, .ref q_now, .ref q_aside, .ref q_past, .int v_undos, .ref q_images, .ref q_kept, .long v_seed, .ref q_text, .int v_size, .int v_fault, .ref q_sights, .int v_sightMany, .ref q_book, .int v_bookMany, .int v_at, .int v_begin, .int v_sign, .int v_figures, .int v_value, .int v_wrong, .ref q_went, .ref q_free, .ref q_stands])), (q_town, .inl (cI, 27, .inl v_town))] sz) [(q_this, .inr (12, [.ref q_town, .ref q_read, .ref q_now, .ref q_aside, .ref q_past, .int v_undos, .ref q_images, .ref q_kept, .long v_seed, .ref q_text, .int v_size, .int v_fault, .ref q_sights, .int v_sightMany, .ref q_book, .int v_bookMany, .int v_at, .int v_begin, .int v_sign, .int v_figures, .int v_value, .int v_wrong, .ref q_went, .ref q_free, .ref q_stands])), (q_town, .inl (cI, 27, .inl v_town))]) (va_A [(q_this, .inr (12, [.ref q_town, .ref q_read, .ref q_now, .ref q_aside, .ref q_past, .int v_undos, .ref q_images, .ref q_kept, .long v_seed, .ref q_text, .int v_size, .int v_fault, .ref q_sights, .int v_sightMany, .ref q_book, .int v_bookMany, .int v_at, .int v_begin, .int v_sign, .int v_figures, .int v_value, .int v_wrong, .ref q_went, .ref q_free, .ref q_stands])), (q_town, .inl (cI, 27, .inl v_town))] sz)) 0 0 (va_A [(q_this, .inr (12, [.ref q_town, .ref q_read, .ref q_now, .ref q_aside, .ref q_past, .int v_undos, .ref q_images, .ref q_kept, .long v_seed, .ref q_text, .int v_size, .int v_fault, .ref q_sights, .int v_sightMany, .ref q_book, .int v_bookMany, .int v_at, .int v_begin, .int v_sign, .int v_figures, .int v_value, .int v_wrong, .ref q_went, .ref q_free, .ref q_stands])), (q_town, .inl (cI, 27, .inl v_town))] sz) := by
  refine Met.ofW (cc := cX12_isOrder) (maxL := 6) (ret := (some .boolean)) (by decide) rfl ?_
  intro p e s m args below meth c s₁ B hml hv
  obtain ⟨rfl, hsz, hP, hK, hD0⟩ := hv
  have hx := B.exec
  have hb := B.bytes
  have hr := B.returns
  have hts := atoms_spec (ws := wsX12_isOrder) B.pre
  have hown : s.vm.findClass RX12 = some m.cls := findClass_of_methodNamed B.named
  have hlocks := B.notSynchronized
  subst hsz
  have hD := hD0.self (sz := s.heap.size)
  generalize hAe : va_A [(q_this, .inr (12, [.ref q_town, .ref q_read, .ref q_now, .ref q_aside, .ref q_past, .int v_undos, .ref q_images, .ref q_kept, .long v_seed, .ref q_text, .int v_size, .int v_fault, .ref q_sights, .int v_sightMany, .ref q_book, .int v_bookMany, .int v_at, .int v_begin, .int v_sign, .int v_figures, .int v_value, .int v_wrong, .ref q_went, .ref q_free, .ref q_stands])), (q_town, .inl (cI, 27, .inl v_town))] s.heap.size = A at hD ⊢
  have hA : ∀ q : Nat, s.heap.size ≤ q → A q := fun q h => by rw [← hAe]; exact Or.inr h
  have hS : va_S A s.heap s.heap [] := va_S.rf
  have hl := lv_entry ([.ref q_this, .int a1]) (n := 6) (Nat.le_of_ble_eq_true rfl)
  rw [lg_entry_eq]
  generalize (lg_sl ([.ref q_this, .int a1]) ++ List.replicate (6 - (lg_sl ([.ref q_this, .int a1])).length) Slot.unset).toArray = ls at hl ⊢
  have hl : lv_has ls 6 [(0, .ref q_this), (1, .int a1)] := hl
  unfold fX12_isOrder at hrun
  have hk7 := hts (.fieldLink RX12 7 "LentDrainsModel" "town" "[I") (by decide +kernel)
  have hiX12 : ∀ w ∈ wsX120, w ∈ wsX12_isOrder := by decide +kernel
  refine oz_genQ (fun Q hQ => ?_)
  refine lv_iconst (v := 0) hx hb dX12_isOrder_0 (by decide) ?_
  refine lv_istore_n (lv' := [(2, .int 0), (0, .ref q_this), (1, .int a1)]) hx hb dX12_isOrder_1 rfl hl (by decide) rfl (fun ls hl => ?_)
  refine lv_iload_n hx hb dX12_isOrder_2 rfl (lv_at hl 2 rfl) ?_
  refine lv_istore_n (lv' := [(3, .int a1), (2, .int 0), (0, .ref q_this), (1, .int a1)]) hx hb dX12_isOrder_3 rfl hl (by decide) rfl (fun ls hl => ?_)
  refine lv_iconst (v := 0) hx hb dX12_isOrder_4 (by decide) ?_
  refine lv_istore (lv' := [(4, .int 0), (3, .int a1), (2, .int 0), (0, .ref q_this), (1, .int a1)]) hx hb dX12_isOrder_5 hl (by decide) rfl (fun ls hl => ?_)
  obtain ⟨o7, hlp7, hrun⟩ := oz_bind hrun
  have hL7 : ∀ (n : Nat) (w7 : Int32 × Int32 × Int32) (o7 : Int32 × Int32 × Int32), oz_loop (fX12_isOrder_b7 v_town) n w7 = some o7 → (∀ (H : Heap) (locs : List Loc) (ls : Array Slot), va_P (dC, dI) vwCl [(q_this, .inr (12, [.ref q_town, .ref q_read, .ref q_now, .ref q_aside, .ref q_past, .int v_undos, .ref q_images, .ref q_kept, .long v_seed, .ref q_text, .int v_size, .int v_fault, .ref q_sights, .int v_sightMany, .ref q_book, .int v_bookMany, .int v_at, .int v_begin, .int v_sign, .int v_figures, .int v_value, .int v_wrong, .ref q_went, .ref q_free, .ref q_stands])), (q_town, .inl (cI, 27, .inl v_town))] H → va_D A [(q_this, .inr (12, [.ref q_town, .ref q_read, .ref q_now, .ref q_aside, .ref q_past, .int v_undos, .ref q_images, .ref q_kept, .long v_seed, .ref q_text, .int v_size, .int v_fault, .ref q_sights, .int v_sightMany, .ref q_book, .int v_bookMany, .int v_at, .int v_begin, .int v_sign, .int v_figures, .int v_value, .int v_wrong, .ref q_went, .ref q_free, .ref q_stands])), (q_town, .inl (cI, 27, .inl v_town))] → va_S A s.heap H locs → lv_has ls 6 [(4, .int o7.1), (3, .int o7.2.1), (2, .int o7.2.2), (0, .ref q_this), (1, .int a1)] → W p l e (headSpec wsX12_isOrder rmX12_isOrder).room s m (([.ref q_this, .int a1] : List Value).toArray) below meth c H locs 0 0 Q (F0 m 57 ls [])) → ∀ (H : Heap) (locs : List Loc) (ls : Array Slot), va_P (dC, dI) vwCl [(q_this, .inr (12, [.ref q_town, .ref q_read, .ref q_now, .ref q_aside, .ref q_past, .int v_undos, .ref q_images, .ref q_kept, .long v_seed, .ref q_text, .int v_size, .int v_fault, .ref q_sights, .int v_sightMany, .ref q_book, .int v_bookMany, .int v_at, .int v_begin, .int v_sign, .int v_figures, .int v_value, .int v_wrong, .ref q_went, .ref q_free, .ref q_stands])), (q_town, .inl (cI, 27, .inl v_town))] H → va_D A [(q_this, .inr (12, [.ref q_town, .ref q_read, .ref q_now, .ref q_aside, .ref q_past, .int v_undos, .ref q_images, .ref q_kept, .long v_seed, .ref q_text, .int v_size, .int v_fault, .ref q_sights, .int v_sightMany, .ref q_book, .int v_bookMany, .int v_at, .int v_begin, .int v_sign, .int v_figures, .int v_value, .int v_wrong, .ref q_went, .ref q_free, .ref q_stands])), (q_town, .inl (cI, 27, .inl v_town))] → va_S A s.heap H locs → lv_has ls 6 [(4, .int w7.1), (3, .int w7.2.1), (2, .int w7.2.2), (0, .ref q_this), (1, .int a1)] → W p l e (headSpec wsX12_isOrder rmX12_isOrder).room s m (([.ref q_this, .int a1] : List Value).toArray) below meth c H locs 0 0 Q (F0 m 7 ls []) := by
    intro n
    induction n with
    | zero => intro w7 o7 h9; exact (oz_zero h9).elim
    | succ n ih =>
      intro w7 o7 h9 hexit H locs ls hP hD hS hl
      obtain ⟨r9, hrun, hnext⟩ := oz_step h9
      unfold fX12_isOrder_b7 at hrun
      refine lv_iload hx hb dX12_isOrder_7 (lv_at hl 0 rfl) ?_
      refine lv_aload_n hx hb dX12_isOrder_9 rfl (lv_at hl 3 rfl) ?_
      refine va_get (D := (dC, dI)) (ci := 12) (v := .ref q_town) (C := RX12) (T := TX12) (N := 25) hx hb hts hiX12 hown hK hP 0 rfl rfl 0 (by decide) hk7 (fun _ h9 => h9) rfl dX12_isOrder_10 ?_
      refine lv_iconst (v := 2) hx hb dX12_isOrder_13 (by decide) ?_
      refine va_iald hx hb hK hP 1 0 rfl rfl (show ¬ ((2 : Int32) < 0 ∨ 27 ≤ (2 : Int32).toNatClampNeg) by decide) dX12_isOrder_14 ?_
      refine lv_icmp_ge (tgt := 57) hx hb dX12_isOrder_15 (by decide) (fun c1 => ?_) (fun c1 => ?_)
      · have hrun := oz_t hrun c1
        have hr9 := Option.some.inj hrun
        subst hr9
        have ho9 : (w7.1, w7.2.1, w7.2.2) = o7 := hnext
        subst ho9
        exact hexit _ _ _ (hP.sub [0, 1] rfl) (hD.sub [0, 1] (by decide) rfl) hS (lv_sub hl [0, 1, 2, 3, 4] rfl)
      · have hrun := oz_f hrun c1
        refine lv_iload_n hx hb dX12_isOrder_18 rfl (lv_at hl 1 rfl) ?_
        refine lv_bipush (v := 10) hx hb dX12_isOrder_19 (by decide) ?_
        refine lv_irem hx hb dX12_isOrder_21 (by decide) ?_
        refine lv_iconst (v := 1) hx hb dX12_isOrder_22 (by decide) ?_
        refine lv_isub hx hb dX12_isOrder_23 ?_
        refine lv_istore (lv' := [(5, .int ((w7.2.1 - w7.2.1 / 10 * 10) - 1)), (4, .int w7.1), (3, .int w7.2.1), (2, .int w7.2.2), (0, .ref q_this), (1, .int a1)]) hx hb dX12_isOrder_24 hl (by decide) rfl (fun ls hl => ?_)
        refine lv_iload_n hx hb dX12_isOrder_26 rfl (lv_at hl 2 rfl) ?_
        refine lv_bipush (v := 10) hx hb dX12_isOrder_27 (by decide) ?_
        refine lv_idiv hx hb dX12_isOrder_29 (by decide) ?_
        refine lv_istore_n (lv' := [(3, .int (w7.2.1 / 10)), (5, .int ((w7.2.1 - w7.2.1 / 10 * 10) - 1)), (4, .int w7.1), (2, .int w7.2.2), (0, .ref q_this), (1, .int a1)]) hx hb dX12_isOrder_30 rfl hl (by decide) rfl (fun ls hl => ?_)
        refine lv_iload_n hx hb dX12_isOrder_31 rfl (lv_at hl 3 rfl) ?_
        refine lv_aload_n hx hb dX12_isOrder_32 rfl (lv_at hl 4 rfl) ?_
        refine lv_iload hx hb dX12_isOrder_33 (lv_at hl 1 rfl) ?_
        obtain ⟨y35, hc35, hrun⟩ := oz_bind hrun
        have hPc := hP.sub (ws' := [(q_this, .inr (12, [.ref q_town, .ref q_read, .ref q_now, .ref q_aside, .ref q_past, .int v_undos, .ref q_images, .ref q_kept, .long v_seed, .ref q_text, .int v_size, .int v_fault, .ref q_sights, .int v_sightMany, .ref q_book, .int v_bookMany, .int v_at, .int v_begin, .int v_sign, .int v_figures, .int v_value, .int v_wrong, .ref q_went, .ref q_free, .ref q_stands])), (q_town, .inl (cI, 27, .inl v_town))]) [0, 1] rfl
        have hDc := hD.sub (ws' := [(q_this, .inr (12, [.ref q_town, .ref q_read, .ref q_now, .ref q_aside, .ref q_past, .int v_undos, .ref q_images, .ref q_kept, .long v_seed, .ref q_text, .int v_size, .int v_fault, .ref q_sights, .int v_sightMany, .ref q_book, .int v_bookMany, .int v_at, .int v_begin, .int v_sign, .int v_figures, .int v_value, .int v_wrong, .ref q_went, .ref q_free, .ref q_stands])), (q_town, .inl (cI, 27, .inl v_town))]) [0, 1] (by decide) rfl
        have hFc := va_free (wc := [(q_this, .inr (12, [.ref q_town, .ref q_read, .ref q_now, .ref q_aside, .ref q_past, .int v_undos, .ref q_images, .ref q_kept, .long v_seed, .ref q_text, .int v_size, .int v_fault, .ref q_sights, .int v_sightMany, .ref q_book, .int v_bookMany, .int v_at, .int v_begin, .int v_sign, .int v_figures, .int v_value, .int v_wrong, .ref q_went, .ref q_free, .ref q_stands])), (q_town, .inl (cI, 27, .inl v_town))]) hD hS hA [0, 1] rfl
        refine va_calli (va_runV (As := [.int ((w7.2.1 - w7.2.1 / 10 * 10) - 1)]) (rest := [.int w7.2.2]) ⟨hx, hb, hml, hown, hts⟩ (tX12_isHouse l dC dI cI cZ q_aside q_book q_free q_images q_kept q_now q_past q_read q_sights q_stands q_text q_this q_town q_went H.size v_undos v_seed v_size v_fault v_sightMany v_bookMany v_at v_begin v_sign v_figures v_value v_wrong v_town ((w7.2.1 - w7.2.1 / 10 * 10) - 1) y35 hc35) (cwV 1 hts gX12_isOrder_X12_isHouse rfl rfl rfl (by decide +kernel) ⟨Nat.le_of_ble_eq_true rfl, Nat.le_of_ble_eq_true rfl⟩) ⟨fun a U g mk q => by obtain ⟨q0, q1, qP, qK, qD⟩ := q; exact ⟨q0, q1, qP, va_K.moved (u := U) (U := U.calling g mk a) (Vm.Alike.refl U.vm) qK, qD⟩, va_recv hK hPc (ci := 12) (q0 := 0) rfl rfl, fun U hU hW => ⟨rfl, by rw [hU], by rw [hU]; exact hPc, va_K.moved hW.alike hK, hDc.weaken (fun _ _ _ _ => trivial)⟩⟩ rfl rfl hl.1 rfl (lv_room (Nat.le_of_ble_eq_true rfl)) dX12_isOrder_35 ⟨Nat.le_of_ble_eq_true rfl, Nat.le_of_ble_eq_true rfl⟩) hS (fun q _ h => hFc q h) hFc (fun r35 u9 t9 H1 locs ht9 hvm9 hw9 hB9 hz9 hkk9 hS => ?_)
        have hw9 : y35 = r35 := hw9.symm
        subst hw9
        obtain ⟨hP9, hK9, hD9⟩ := hB9
        rw [ht9] at hP9
        obtain ⟨hP, hD⟩ := va_join (wr := []) (w1 := [(q_this, .inr (12, [.ref q_town, .ref q_read, .ref q_now, .ref q_aside, .ref q_past, .int v_undos, .ref q_images, .ref q_kept, .long v_seed, .ref q_text, .int v_size, .int v_fault, .ref q_sights, .int v_sightMany, .ref q_book, .int v_bookMany, .int v_at, .int v_begin, .int v_sign, .int v_figures, .int v_value, .int v_wrong, .ref q_went, .ref q_free, .ref q_stands])), (q_town, .inl (cI, 27, .inl v_town))]) hP hD [0, 1] [] rfl rfl (by decide) (by decide) hkk9 hFc hP9 hD9
        generalize H1 = H at hP hS ⊢
        have hP : va_P (dC, dI) vwCl [(q_this, .inr (12, [.ref q_town, .ref q_read, .ref q_now, .ref q_aside, .ref q_past, .int v_undos, .ref q_images, .ref q_kept, .long v_seed, .ref q_text, .int v_size, .int v_fault, .ref q_sights, .int v_sightMany, .ref q_book, .int v_bookMany, .int v_at, .int v_begin, .int v_sign, .int v_figures, .int v_value, .int v_wrong, .ref q_went, .ref q_free, .ref q_stands])), (q_town, .inl (cI, 27, .inl v_town))] H := hP
        have hD : va_D A [(q_this, .inr (12, [.ref q_town, .ref q_read, .ref q_now, .ref q_aside, .ref q_past, .int v_undos, .ref q_images, .ref q_kept, .long v_seed, .ref q_text, .int v_size, .int v_fault, .ref q_sights, .int v_sightMany, .ref q_book, .int v_bookMany, .int v_at, .int v_begin, .int v_sign, .int v_figures, .int v_value, .int v_wrong, .ref q_went, .ref q_free, .ref q_stands])), (q_town, .inl (cI, 27, .inl v_town))] := hD
        refine lv_if_eq (tgt := 48) hx hb dX12_isOrder_38 (by decide) (fun c2 => ?_) (fun c2 => ?_)
        · have hrun := oz_t hrun c2
          refine lv_iconst (v := 0) hx hb dX12_isOrder_48 (by decide) ?_
          refine lv_ior hx hb dX12_isOrder_49 ?_
          refine lv_istore_n (lv' := [(2, .int (w7.2.2 ||| 0)), (3, .int (w7.2.1 / 10)), (5, .int ((w7.2.1 - w7.2.1 / 10 * 10) - 1)), (4, .int w7.1), (0, .ref q_this), (1, .int a1)]) hx hb dX12_isOrder_50 rfl hl (by decide) rfl (fun ls hl => ?_)
          refine lv_iinc (v := (w7.1 + 1)) (lv' := [(4, .int (w7.1 + 1)), (2, .int (w7.2.2 ||| 0)), (3, .int (w7.2.1 / 10)), (5, .int ((w7.2.1 - w7.2.1 / 10 * 10) - 1)), (0, .ref q_this), (1, .int a1)]) hx hb dX12_isOrder_51 hl (k := 3) rfl rfl (by decide) rfl (fun ls hl => ?_)
          refine lv_goto (tgt := 7) hx hb dX12_isOrder_54 (by decide) ?_
          have hr9 := Option.some.inj hrun
          subst hr9
          exact ih ((w7.1 + 1), (w7.2.1 / 10), (w7.2.2 ||| 0)) _ hnext hexit _ _ _ (hP.sub [0, 1] rfl) (hD.sub [0, 1] (by decide) rfl) hS (lv_sub hl [0, 2, 1, 4, 5] rfl)
        · have hrun := oz_f hrun c2
          refine lv_iconst (v := 1) hx hb dX12_isOrder_41 (by decide) ?_
          refine lv_iload hx hb dX12_isOrder_42 (lv_at hl 1 rfl) ?_
          refine lv_ishl hx hb dX12_isOrder_44 ?_
          refine lv_goto (tgt := 49) hx hb dX12_isOrder_45 (by decide) ?_
          refine lv_ior hx hb dX12_isOrder_49 ?_
          refine lv_istore_n (lv' := [(2, .int (w7.2.2 ||| (1 <<< (((w7.2.1 - w7.2.1 / 10 * 10) - 1) &&& 31)))), (3, .int (w7.2.1 / 10)), (5, .int ((w7.2.1 - w7.2.1 / 10 * 10) - 1)), (4, .int w7.1), (0, .ref q_this), (1, .int a1)]) hx hb dX12_isOrder_50 rfl hl (by decide) rfl (fun ls hl => ?_)
          refine lv_iinc (v := (w7.1 + 1)) (lv' := [(4, .int (w7.1 + 1)), (2, .int (w7.2.2 ||| (1 <<< (((w7.2.1 - w7.2.1 / 10 * 10) - 1) &&& 31)))), (3, .int (w7.2.1 / 10)), (5, .int ((w7.2.1 - w7.2.1 / 10 * 10) - 1)), (0, .ref q_this), (1, .int a1)]) hx hb dX12_isOrder_51 hl (k := 3) rfl rfl (by decide) rfl (fun ls hl => ?_)
          refine lv_goto (tgt := 7) hx hb dX12_isOrder_54 (by decide) ?_
          have hr9 := Option.some.inj hrun
          subst hr9
          exact ih ((w7.1 + 1), (w7.2.1 / 10), (w7.2.2 ||| (1 <<< (((w7.2.1 - w7.2.1 / 10 * 10) - 1) &&& 31)))) _ hnext hexit _ _ _ (hP.sub [0, 1] rfl) (hD.sub [0, 1] (by decide) rfl) hS (lv_sub hl [0, 2, 1, 4, 5] rfl)
  refine hL7 oz_fuel (0, a1, 0) o7 hlp7 (fun H locs ls hP hD hS hl => ?_) _ _ _ (hP.sub [0, 1] rfl) (hD.sub [0, 1] (by decide) rfl) hS (lv_sub hl [0, 1, 2, 3, 4] rfl)
  have hP : va_P (dC, dI) vwCl [(q_this, .inr (12, [.ref q_town, .ref q_read, .ref q_now, .ref q_aside, .ref q_past, .int v_undos, .ref q_images, .ref q_kept, .long v_seed, .ref q_text, .int v_size, .int v_fault, .ref q_sights, .int v_sightMany, .ref q_book, .int v_bookMany, .int v_at, .int v_begin, .int v_sign, .int v_figures, .int v_value, .int v_wrong, .ref q_went, .ref q_free, .ref q_stands])), (q_town, .inl (cI, 27, .inl v_town))] H := hP
  have hD : va_D A [(q_this, .inr (12, [.ref q_town, .ref q_read, .ref q_now, .ref q_aside, .ref q_past, .int v_undos, .ref q_images, .ref q_kept, .long v_seed, .ref q_text, .int v_size, .int v_fault, .ref q_sights, .int v_sightMany, .ref q_book, .int v_bookMany, .int v_at, .int v_begin, .int v_sign, .int v_figures, .int v_value, .int v_wrong, .ref q_went, .ref q_free, .ref q_stands])), (q_town, .inl (cI, 27, .inl v_town))] := hD
  have hl : lv_has ls 6 [(4, .int o7.1), (3, .int o7.2.1), (2, .int o7.2.2), (0, .ref q_this), (1, .int a1)] := hl
  refine lv_iload_n hx hb dX12_isOrder_57 rfl (lv_at hl 4 rfl) ?_
  refine lv_if_le (tgt := 93) hx hb dX12_isOrder_58 (by decide) (fun c3 => ?_) (fun c3 => ?_)
  · have hrun := oz_t hrun c3
    refine lv_iconst (v := 0) hx hb dX12_isOrder_93 (by decide) ?_
    have ho9 := Option.some.inj hrun
    subst ho9
    have hP9 := hP.sub (ws' := [(q_this, .inr (12, [.ref q_town, .ref q_read, .ref q_now, .ref q_aside, .ref q_past, .int v_undos, .ref q_images, .ref q_kept, .long v_seed, .ref q_text, .int v_size, .int v_fault, .ref q_sights, .int v_sightMany, .ref q_book, .int v_bookMany, .int v_at, .int v_begin, .int v_sign, .int v_figures, .int v_value, .int v_wrong, .ref q_went, .ref q_free, .ref q_stands])), (q_town, .inl (cI, 27, .inl v_town))]) [0, 1] rfl
    have hD9 := hD.sub (ws' := [(q_this, .inr (12, [.ref q_town, .ref q_read, .ref q_now, .ref q_aside, .ref q_past, .int v_undos, .ref q_images, .ref q_kept, .long v_seed, .ref q_text, .int v_size, .int v_fault, .ref q_sights, .int v_sightMany, .ref q_book, .int v_bookMany, .int v_at, .int v_begin, .int v_sign, .int v_figures, .int v_value, .int v_wrong, .ref q_went, .ref q_free, .ref q_stands])), (q_town, .inl (cI, 27, .inl v_town))]) [0, 1] (by decide) rfl
    rw [hQ]
    exact W.zret (v := 0) (ty := .boolean) hx hb hr rfl (fun t ht hW => ⟨⟨0, (), rfl, rfl, by rw [ht]; exact hP9, va_K.moved hW.alike hK, hD9⟩, hS.F ht⟩) hS.2.2 dX12_isOrder_94
  · have hrun := oz_f hrun c3
    refine lv_aload_n hx hb dX12_isOrder_61 rfl (lv_at hl 3 rfl) ?_
    refine va_get (D := (dC, dI)) (ci := 12) (v := .ref q_town) (C := RX12) (T := TX12) (N := 25) hx hb hts hiX12 hown hK hP 0 rfl rfl 0 (by decide) hk7 (fun _ h9 => h9) rfl dX12_isOrder_62 ?_
    refine lv_iconst (v := 2) hx hb dX12_isOrder_65 (by decide) ?_
    refine va_iald hx hb hK hP 1 0 rfl rfl (show ¬ ((2 : Int32) < 0 ∨ 27 ≤ (2 : Int32).toNatClampNeg) by decide) dX12_isOrder_66 ?_
    refine lv_bipush (v := 7) hx hb dX12_isOrder_67 (by decide) ?_
    refine lv_icmp_ge (tgt := 93) hx hb dX12_isOrder_69 (by decide) (fun c4 => ?_) (fun c4 => ?_)
    · have hrun := oz_t hrun c4
      refine lv_iconst (v := 0) hx hb dX12_isOrder_93 (by decide) ?_
      have ho9 := Option.some.inj hrun
      subst ho9
      have hP9 := hP.sub (ws' := [(q_this, .inr (12, [.ref q_town, .ref q_read, .ref q_now, .ref q_aside, .ref q_past, .int v_undos, .ref q_images, .ref q_kept, .long v_seed, .ref q_text, .int v_size, .int v_fault, .ref q_sights, .int v_sightMany, .ref q_book, .int v_bookMany, .int v_at, .int v_begin, .int v_sign, .int v_figures, .int v_value, .int v_wrong, .ref q_went, .ref q_free, .ref q_stands])), (q_town, .inl (cI, 27, .inl v_town))]) [0, 1] rfl
      have hD9 := hD.sub (ws' := [(q_this, .inr (12, [.ref q_town, .ref q_read, .ref q_now, .ref q_aside, .ref q_past, .int v_undos, .ref q_images, .ref q_kept, .long v_seed, .ref q_text, .int v_size, .int v_fault, .ref q_sights, .int v_sightMany, .ref q_book, .int v_bookMany, .int v_at, .int v_begin, .int v_sign, .int v_figures, .int v_value, .int v_wrong, .ref q_went, .ref q_free, .ref q_stands])), (q_town, .inl (cI, 27, .inl v_town))]) [0, 1] (by decide) rfl
      rw [hQ]
      exact W.zret (v := 0) (ty := .boolean) hx hb hr rfl (fun t ht hW => ⟨⟨0, (), rfl, rfl, by rw [ht]; exact hP9, va_K.moved hW.alike hK, hD9⟩, hS.F ht⟩) hS.2.2 dX12_isOrder_94
    · have hrun := oz_f hrun c4
      refine lv_iload_n hx hb dX12_isOrder_72 rfl (lv_at hl 1 rfl) ?_
      refine lv_if_ne (tgt := 93) hx hb dX12_isOrder_73 (by decide) (fun c5 => ?_) (fun c5 => ?_)
      · have hrun := oz_f hrun c5
        refine lv_iconst (v := 0) hx hb dX12_isOrder_93 (by decide) ?_
        have ho9 := Option.some.inj hrun
        subst ho9
        have hP9 := hP.sub (ws' := [(q_this, .inr (12, [.ref q_town, .ref q_read, .ref q_now, .ref q_aside, .ref q_past, .int v_undos, .ref q_images, .ref q_kept, .long v_seed, .ref q_text, .int v_size, .int v_fault, .ref q_sights, .int v_sightMany, .ref q_book, .int v_bookMany, .int v_at, .int v_begin, .int v_sign, .int v_figures, .int v_value, .int v_wrong, .ref q_went, .ref q_free, .ref q_stands])), (q_town, .inl (cI, 27, .inl v_town))]) [0, 1] rfl
        have hD9 := hD.sub (ws' := [(q_this, .inr (12, [.ref q_town, .ref q_read, .ref q_now, .ref q_aside, .ref q_past, .int v_undos, .ref q_images, .ref q_kept, .long v_seed, .ref q_text, .int v_size, .int v_fault, .ref q_sights, .int v_sightMany, .ref q_book, .int v_bookMany, .int v_at, .int v_begin, .int v_sign, .int v_figures, .int v_value, .int v_wrong, .ref q_went, .ref q_free, .ref q_stands])), (q_town, .inl (cI, 27, .inl v_town))]) [0, 1] (by decide) rfl
        rw [hQ]
        exact W.zret (v := 0) (ty := .boolean) hx hb hr rfl (fun t ht hW => ⟨⟨0, (), rfl, rfl, by rw [ht]; exact hP9, va_K.moved hW.alike hK, hD9⟩, hS.F ht⟩) hS.2.2 dX12_isOrder_94
      · have hrun := oz_t hrun c5
        refine lv_iload_n hx hb dX12_isOrder_76 rfl (lv_at hl 2 rfl) ?_
        obtain ⟨y77, hc77, hrun⟩ := oz_bind hrun
        have hPc := hP.sub (ws' := []) [] rfl
        have hDc := hD.sub (ws' := []) [] (by decide) rfl
        have hFc := va_free (wc := []) hD hS hA [] rfl
        refine va_calli (va_runS (As := [.int o7.2.2]) (rest := []) ⟨hx, hb, hml, hown, hts⟩ (tX12_bits l dC dI cI cZ H.size o7.2.2 y77 hc77) (va_cwS 1 hts gX12_isOrder_X12_bits rfl rfl rfl (by decide +kernel) ⟨Nat.le_of_ble_eq_true rfl, Nat.le_of_ble_eq_true rfl⟩) ⟨fun a U g mk q => by obtain ⟨q0, q1, qP, qK, qD⟩ := q; exact ⟨q0, q1, qP, va_K.moved (u := U) (U := U.calling g mk a) (Vm.Alike.refl U.vm) qK, qD⟩, fun U hU hW => ⟨rfl, by rw [hU], by rw [hU]; exact hPc, va_K.moved hW.alike hK, hDc.weaken (fun _ _ _ _ => trivial)⟩⟩ rfl rfl hl.1 rfl (lv_room (Nat.le_of_ble_eq_true rfl)) dX12_isOrder_77 ⟨Nat.le_of_ble_eq_true rfl, Nat.le_of_ble_eq_true rfl⟩) hS (fun q _ h => hFc q h) hFc (fun r77 u9 t9 H1 locs ht9 hvm9 hw9 hB9 hz9 hkk9 hS => ?_)
        have hw9 : y77 = r77 := hw9.symm
        subst hw9
        obtain ⟨hP9, hK9, hD9⟩ := hB9
        rw [ht9] at hP9
        obtain ⟨hP, hD⟩ := va_join (wr := [(q_this, .inr (12, [.ref q_town, .ref q_read, .ref q_now, .ref q_aside, .ref q_past, .int v_undos, .ref q_images, .ref q_kept, .long v_seed, .ref q_text, .int v_size, .int v_fault, .ref q_sights, .int v_sightMany, .ref q_book, .int v_bookMany, .int v_at, .int v_begin, .int v_sign, .int v_figures, .int v_value, .int v_wrong, .ref q_went, .ref q_free, .ref q_stands])), (q_town, .inl (cI, 27, .inl v_town))]) (w1 := []) hP hD [] [0, 1] rfl rfl (by decide) (by decide) hkk9 hFc hP9 hD9
        generalize H1 = H at hP hS ⊢
        have hP : va_P (dC, dI) vwCl [(q_this, .inr (12, [.ref q_town, .ref q_read, .ref q_now, .ref q_aside, .ref q_past, .int v_undos, .ref q_images, .ref q_kept, .long v_seed, .ref q_text, .int v_size, .int v_fault, .ref q_sights, .int v_sightMany, .ref q_book, .int v_bookMany, .int v_at, .int v_begin, .int v_sign, .int v_figures, .int v_value, .int v_wrong, .ref q_went, .ref q_free, .ref q_stands])), (q_town, .inl (cI, 27, .inl v_town))] H := hP
        have hD : va_D A [(q_this, .inr (12, [.ref q_town, .ref q_read, .ref q_now, .ref q_aside, .ref q_past, .int v_undos, .ref q_images, .ref q_kept, .long v_seed, .ref q_text, .int v_size, .int v_fault, .ref q_sights, .int v_sightMany, .ref q_book, .int v_bookMany, .int v_at, .int v_begin, .int v_sign, .int v_figures, .int v_value, .int v_wrong, .ref q_went, .ref q_free, .ref q_stands])), (q_town, .inl (cI, 27, .inl v_town))] := hD
        refine lv_aload_n hx hb dX12_isOrder_80 rfl (lv_at hl 3 rfl) ?_
        refine va_get (D := (dC, dI)) (ci := 12) (v := .ref q_town) (C := RX12) (T := TX12) (N := 25) hx hb hts hiX12 hown hK hP 0 rfl rfl 0 (by decide) hk7 (fun _ h9 => h9) rfl dX12_isOrder_81 ?_
        refine lv_iconst (v := 2) hx hb dX12_isOrder_84 (by decide) ?_
        refine va_iald hx hb hK hP 1 0 rfl rfl (show ¬ ((2 : Int32) < 0 ∨ 27 ≤ (2 : Int32).toNatClampNeg) by decide) dX12_isOrder_85 ?_
        refine lv_icmp_ne (tgt := 93) hx hb dX12_isOrder_86 (by decide) (fun c6 => ?_) (fun c6 => ?_)
        · have hrun := oz_f hrun c6
          refine lv_iconst (v := 0) hx hb dX12_isOrder_93 (by decide) ?_
          have ho9 := Option.some.inj hrun
          subst ho9
          have hP9 := hP.sub (ws' := [(q_this, .inr (12, [.ref q_town, .ref q_read, .ref q_now, .ref q_aside, .ref q_past, .int v_undos, .ref q_images, .ref q_kept, .long v_seed, .ref q_text, .int v_size, .int v_fault, .ref q_sights, .int v_sightMany, .ref q_book, .int v_bookMany, .int v_at, .int v_begin, .int v_sign, .int v_figures, .int v_value, .int v_wrong, .ref q_went, .ref q_free, .ref q_stands])), (q_town, .inl (cI, 27, .inl v_town))]) [0, 1] rfl
          have hD9 := hD.sub (ws' := [(q_this, .inr (12, [.ref q_town, .ref q_read, .ref q_now, .ref q_aside, .ref q_past, .int v_undos, .ref q_images, .ref q_kept, .long v_seed, .ref q_text, .int v_size, .int v_fault, .ref q_sights, .int v_sightMany, .ref q_book, .int v_bookMany, .int v_at, .int v_begin, .int v_sign, .int v_figures, .int v_value, .int v_wrong, .ref q_went, .ref q_free, .ref q_stands])), (q_town, .inl (cI, 27, .inl v_town))]) [0, 1] (by decide) rfl
          rw [hQ]
          exact W.zret (v := 0) (ty := .boolean) hx hb hr rfl (fun t ht hW => ⟨⟨0, (), rfl, rfl, by rw [ht]; exact hP9, va_K.moved hW.alike hK, hD9⟩, hS.F ht⟩) hS.2.2 dX12_isOrder_94
        · have hrun := oz_t hrun c6
          refine lv_iconst (v := 1) hx hb dX12_isOrder_89 (by decide) ?_
          refine lv_goto (tgt := 94) hx hb dX12_isOrder_90 (by decide) ?_
          have ho9 := Option.some.inj hrun
          subst ho9
          have hP9 := hP.sub (ws' := [(q_this, .inr (12, [.ref q_town, .ref q_read, .ref q_now, .ref q_aside, .ref q_past, .int v_undos, .ref q_images, .ref q_kept, .long v_seed, .ref q_text, .int v_size, .int v_fault, .ref q_sights, .int v_sightMany, .ref q_book, .int v_bookMany, .int v_at, .int v_begin, .int v_sign, .int v_figures, .int v_value, .int v_wrong, .ref q_went, .ref q_free, .ref q_stands])), (q_town, .inl (cI, 27, .inl v_town))]) [0, 1] rfl
          have hD9 := hD.sub (ws' := [(q_this, .inr (12, [.ref q_town, .ref q_read, .ref q_now, .ref q_aside, .ref q_past, .int v_undos, .ref q_images, .ref q_kept, .long v_seed, .ref q_text, .int v_size, .int v_fault, .ref q_sights, .int v_sightMany, .ref q_book, .int v_bookMany, .int v_at, .int v_begin, .int v_sign, .int v_figures, .int v_value, .int v_wrong, .ref q_went, .ref q_free, .ref q_stands])), (q_town, .inl (cI, 27, .inl v_town))]) [0, 1] (by decide) rfl
          rw [hQ]
          exact W.zret (v := 1) (ty := .boolean) hx hb hr rfl (fun t ht hW => ⟨⟨1, (), rfl, rfl, by rw [ht]; exact hP9, va_K.moved hW.alike hK, hD9⟩, hS.F ht⟩) hS.2.2 dX12_isOrder_94
def fX12_pulledBy_b4 (v_town : Nat → Int32) (v_now : Nat → Int32) (w4 : Int32 × Int32 × (Nat → Int32)) : Option ((Int32 × Int32 × (Nat → Int32)) ⊕ (Int32 × Int32 × (Nat → Int32))) :=
  if (v_town (Int32.toNatClampNeg 2)) ≤ w4.1 then (some (.inr (w4.1, w4.2.1, w4.2.2))) else (if ((0 + w4.1) < 0 ∨ 19 ≤ Int32.toNatClampNeg (0 + w4.1)) then none else if (w4.1 < 0 ∨ 8 ≤ Int32.toNatClampNeg w4.1) then none else if ((upd w4.2.2 (Int32.toNatClampNeg w4.1) (v_now (Int32.toNatClampNeg (0 + w4.1)))) (Int32.toNatClampNeg w4.1)) ≤ w4.2.1 then (some (.inl ((w4.1 + 1), w4.2.1, (upd w4.2.2 (Int32.toNatClampNeg w4.1) (v_now (Int32.toNatClampNeg (0 + w4.1))))))) else (some (.inl ((w4.1 + 1), ((upd w4.2.2 (Int32.toNatClampNeg w4.1) (v_now (Int32.toNatClampNeg (0 + w4.1)))) (Int32.toNatClampNeg w4.1)), (upd w4.2.2 (Int32.toNatClampNeg w4.1) (v_now (Int32.toNatClampNeg (0 + w4.1))))))))
def fX12_pulledBy_b60 (v_town : Nat → Int32) (w60 : Int32 × Int32) : Option ((Int32 × Int32) ⊕ (Int32 × Int32)) :=
  if (v_town (Int32.toNatClampNeg 2)) ≤ w60.1 then (some (.inr (w60.1, w60.2))) else (some (.inl ((w60.1 + 1), (w60.2 * 10))))
def fX12_pulledBy_b112 (v_town : Nat → Int32) (k112_0 : Int32) (w112 : Int32) : Option ((Int32) ⊕ (Int32)) :=
  if w112 = (-1) then (some (.inr w112)) else (Option.bind (fX12_has k112_0 w112) (fun y122 => if y122 = 0 then (some (.inr w112)) else (if ((19 + w112) < 0 ∨ 27 ≤ Int32.toNatClampNeg (19 + w112)) then none else some (.inl (v_town (Int32.toNatClampNeg (19 + w112)))))))
def fX12_pulledBy_b85 (v_town : Nat → Int32) (a1 : Int32) (w85 : Int32 × Int32 × Int32 × (Nat → Int32)) : Option ((Int32 × Int32 × Int32 × (Nat → Int32)) ⊕ (Int32 × Int32 × Int32 × (Nat → Int32))) :=
  if w85.2.1 ≤ 0 then (some (.inr (w85.1, w85.2.1, w85.2.2.1, w85.2.2.2))) else (if w85.2.1 = 0 then none else Option.bind (oz_loop (fX12_pulledBy_b112 v_town (w85.1 ||| (1 <<< ((((a1 / w85.2.1) - (a1 / w85.2.1) / 10 * 10) - 1) &&& 31)))) oz_fuel (((a1 / w85.2.1) - (a1 / w85.2.1) / 10 * 10) - 1)) (fun o112 => if o112 = (-1) then (if ((((a1 / w85.2.1) - (a1 / w85.2.1) / 10 * 10) - 1) < 0 ∨ 8 ≤ Int32.toNatClampNeg (((a1 / w85.2.1) - (a1 / w85.2.1) / 10 * 10) - 1)) then none else some (.inl ((w85.1 ||| (1 <<< ((((a1 / w85.2.1) - (a1 / w85.2.1) / 10 * 10) - 1) &&& 31))), (w85.2.1 / 10), w85.2.2.1, (upd w85.2.2.2 (Int32.toNatClampNeg (((a1 / w85.2.1) - (a1 / w85.2.1) / 10 * 10) - 1)) 0)))) else (if (o112 < 0 ∨ 8 ≤ Int32.toNatClampNeg o112) then none else if ((((a1 / w85.2.1) - (a1 / w85.2.1) / 10 * 10) - 1) < 0 ∨ 8 ≤ Int32.toNatClampNeg (((a1 / w85.2.1) - (a1 / w85.2.1) / 10 * 10) - 1)) then none else if ((upd w85.2.2.2 (Int32.toNatClampNeg o112) ((w85.2.2.2 (Int32.toNatClampNeg o112)) + (w85.2.2.2 (Int32.toNatClampNeg (((a1 / w85.2.1) - (a1 / w85.2.1) / 10 * 10) - 1))))) (Int32.toNatClampNeg o112)) ≤ w85.2.2.1 then (some (.inl ((w85.1 ||| (1 <<< ((((a1 / w85.2.1) - (a1 / w85.2.1) / 10 * 10) - 1) &&& 31))), (w85.2.1 / 10), w85.2.2.1, (upd (upd w85.2.2.2 (Int32.toNatClampNeg o112) ((w85.2.2.2 (Int32.toNatClampNeg o112)) + (w85.2.2.2 (Int32.toNatClampNeg (((a1 / w85.2.1) - (a1 / w85.2.1) / 10 * 10) - 1))))) (Int32.toNatClampNeg (((a1 / w85.2.1) - (a1 / w85.2.1) / 10 * 10) - 1)) 0)))) else (some (.inl ((w85.1 ||| (1 <<< ((((a1 / w85.2.1) - (a1 / w85.2.1) / 10 * 10) - 1) &&& 31))), (w85.2.1 / 10), ((upd w85.2.2.2 (Int32.toNatClampNeg o112) ((w85.2.2.2 (Int32.toNatClampNeg o112)) + (w85.2.2.2 (Int32.toNatClampNeg (((a1 / w85.2.1) - (a1 / w85.2.1) / 10 * 10) - 1))))) (Int32.toNatClampNeg o112)), (upd (upd w85.2.2.2 (Int32.toNatClampNeg o112) ((w85.2.2.2 (Int32.toNatClampNeg o112)) + (w85.2.2.2 (Int32.toNatClampNeg (((a1 / w85.2.1) - (a1 / w85.2.1) / 10 * 10) - 1))))) (Int32.toNatClampNeg (((a1 / w85.2.1) - (a1 / w85.2.1) / 10 * 10) - 1)) 0)))))))
def fX12_pulledBy (v_town : Nat → Int32) (v_now : Nat → Int32) (v_stands : Nat → Int32) (a1 : Int32) : Option (Int32 × (Nat → Int32)) :=
  Option.bind (oz_loop (fX12_pulledBy_b4 v_town v_now) oz_fuel (0, 0, v_stands)) (fun o4 => Option.bind (oz_loop (fX12_pulledBy_b60 v_town) oz_fuel (1, 1)) (fun o60 => Option.bind (oz_loop (fX12_pulledBy_b85 v_town a1) oz_fuel (0, o60.2, o4.2.1, o4.2.2)) (fun o85 => some (o85.2.2.1, o85.2.2.2))))
def rmX12_pulledBy : Room := { frames := 1, cells := 0, slots := 0, locals := 21 }
set_option maxHeartbeats 4000000 in
set_option maxRecDepth 100000 in
theorem tX12_pulledBy (l : Launch) (dC : Nat → ClassId) (dI : Nat → Nat → Nat) (cI cZ : ClassId) (q_aside q_book q_free q_images q_kept q_now q_past q_read q_sights q_stands q_text q_this q_town q_went : Nat) (sz : Nat) (v_undos : Int32) (v_seed : Int64) (v_size : Int32) (v_fault : Int32) (v_sightMany : Int32) (v_bookMany : Int32) (v_at : Int32) (v_begin : Int32) (v_sign : Int32) (v_figures : Int32) (v_value : Int32) (v_wrong : Int32) (v_town : Nat → Int32) (v_now : Nat → Int32) (v_stands : Nat → Int32) (a1 : Int32) (out : Int32 × (Nat → Int32)) (hrun : fX12_pulledBy v_town v_now v_stands a1 = some out) : Met l yX12_pulledBy wsX12_pulledBy rmX12_pulledBy (va_Pc [.ref q_this, .int a1] (fun U => U.heap.size = sz ∧ va_P (dC, dI) vwCl [(q_this, .inr (12, [.ref q_town, .ref q_read, .ref q_now, .ref q_aside, .ref q_past, .int v_undos, .ref q_images, .ref q_kept, .long v_seed, .ref q_text, .int v_size, .int v_fault, .ref q_sights, .int v_sightMany, .ref q_book, .int v_bookMany, .int v_at, .int v_begin, .int v_sign, .int v_figures, .int v_value, .int v_wrong, .ref q_went, .ref q_free, .ref q_stands])), (q_town, .inl (cI, 27, .inl v_town)), (q_now, .inl (cI, 19, .inl v_now)), (q_stands, .inl (cI, 8, .inl v_stands))] U.heap ∧ va_K (dC, dI) vwCl [(cI, .int), (cZ, .boolean)] U ∧ va_D (fun _ => True) [(q_this, .inr (12, [.ref q_town, .ref q_read, .ref q_now, .ref q_aside, .ref q_past, .int v_undos, .ref q_images, .ref q_kept, .long v_seed, .ref q_text, .int v_size, .int v_fault, .ref q_sights, .int v_sightMany, .ref q_book, .int v_bookMany, .int v_at, .int v_begin, .int v_sign, .int v_figures, .int v_value, .int v_wrong, .ref q_went, .ref q_free, .ref q_stands])), (q_town, .inl (cI, 27, .inl v_town)), (q_now, .inl (cI, 19, .inl v_now)), (q_stands, .inl (cI, 8, .inl v_stands))])) (va_Qi (fun (r : Int32) (_ : Unit) => r = out.1) (fun _ t => va_P (dC, dI) vwCl [(q_this, .inr (12, [.ref q_town, .ref q_read, .ref q_now, .ref q_aside, .ref q_past, .int v_undos, .ref q_images, .ref q_kept, .long v_seed, .ref q_text, .int v_size, .int v_fault, .ref q_sights, .int v_sightMany, .ref q_book, .int v_bookMany, .int v_at, .int v_begin, .int v_sign, .int v_figures, .int v_value, .int v_wrong, .ref q_went, .ref q_free, .ref q_stands])), (q_town, .inl (cI, 27, .inl v_town)), (q_now, .inl (cI, 19, .inl v_now)), (q_stands, .inl (cI, 8, .inl out.2))] t.heap ∧ va_K (dC, dI) vwCl [(cI, .int), (cZ, .boolean)] t ∧ va_D (va_A [(q_this, .inr (12, [.ref q_town, .ref q_read, .ref q_now, .ref q_aside, .ref q_past, .int v_undos, .ref q_images, .ref q_kept, .long v_seed, .ref q_text, .int v_size, .int v_fault, .ref q_sights, .int v_sightMany, .ref q_book, .int v_bookMany, .int v_at, .int v_begin, .int v_sign, .int v_figures, .int v_value, .int v_wrong, .ref q_went, .ref q_free, .ref q_stands])), (q_town, .inl (cI, 27, .inl v_town)), (q_now, .inl (cI, 19, .inl v_now)), (q_stands, .inl (cI, 8, .inl v_stands))] sz) [(q_this, .inr (12, [.ref q_town, .ref q_read, .ref q_now, .ref q_aside, .ref q_past, .int v_undos, .ref q_images, .ref q_kept, .long v_seed, .ref q_text, .int v_size, .int v_fault, .ref q_sights, .int v_sightMany, .ref q_book, .int v_bookMany, .int v_at, .int v_begin, .int v_sign, .int v_figures, .int v_value, .int v_wrong, .ref q_went, .ref q_free, .ref q_stands])), (q_town, .inl (cI, 27, .inl v_town)), (q_now, .inl (cI, 19, .inl v_now)), (q_stands, .inl (cI, 8, .inl out.2))]) (va_A [(q_this, .inr (12, [.ref q_town, .ref q_read, .ref q_now, .ref q_aside, .ref q_past, .int v_undos, .ref q_images, .ref q_kept, .long v_seed, .ref q_text, .int v_size, .int v_fault, .ref q_sights, .int v_sightMany, .ref q_book, .int v_bookMany, .int v_at, .int v_begin, .int v_sign, .int v_figures, .int v_value, .int v_wrong, .ref q_went, .ref q_free, .ref q_stands])), (q_town, .inl (cI, 27, .inl v_town)), (q_now, .inl (cI, 19, .inl v_now)), (q_stands, .inl (cI, 8, .inl v_stands))] sz)) 0 0 (va_A [(q_this, .inr (12, [.ref q_town, .ref q_read, .ref q_now, .ref q_aside, .ref q_past, .int v_undos, .ref q_images, .ref q_kept, .long v_seed, .ref q_text, .int v_size, .int v_fault, .ref q_sights, .int v_sightMany, .ref q_book, .int v_bookMany, .int v_at, .int v_begin, .int v_sign, .int v_figures, .int v_value, .int v_wrong, .ref q_went, .ref q_free, .ref q_stands])), (q_town, .inl (cI, 27, .inl v_town)), (q_now, .inl (cI, 19, .inl v_now)), (q_stands, .inl (cI, 8, .inl v_stands))] sz) := by
  refine Met.ofW (cc := cX12_pulledBy) (maxL := 7) (ret := (some .int)) (by decide) rfl ?_
  intro p e s m args below meth c s₁ B hml hv
  obtain ⟨rfl, hsz, hP, hK, hD0⟩ := hv
  have hx := B.exec
  have hb := B.bytes
  have hr := B.returns
  have hts := atoms_spec (ws := wsX12_pulledBy) B.pre
  have hown : s.vm.findClass RX12 = some m.cls := findClass_of_methodNamed B.named
  have hlocks := B.notSynchronized
  subst hsz
  have hD := hD0.self (sz := s.heap.size)
  generalize hAe : va_A [(q_this, .inr (12, [.ref q_town, .ref q_read, .ref q_now, .ref q_aside, .ref q_past, .int v_undos, .ref q_images, .ref q_kept, .long v_seed, .ref q_text, .int v_size, .int v_fault, .ref q_sights, .int v_sightMany, .ref q_book, .int v_bookMany, .int v_at, .int v_begin, .int v_sign, .int v_figures, .int v_value, .int v_wrong, .ref q_went, .ref q_free, .ref q_stands])), (q_town, .inl (cI, 27, .inl v_town)), (q_now, .inl (cI, 19, .inl v_now)), (q_stands, .inl (cI, 8, .inl v_stands))] s.heap.size = A at hD ⊢
  have hA : ∀ q : Nat, s.heap.size ≤ q → A q := fun q h => by rw [← hAe]; exact Or.inr h
  have hS : va_S A s.heap s.heap [] := va_S.rf
  have hl := lv_entry ([.ref q_this, .int a1]) (n := 7) (Nat.le_of_ble_eq_true rfl)
  rw [lg_entry_eq]
  generalize (lg_sl ([.ref q_this, .int a1]) ++ List.replicate (7 - (lg_sl ([.ref q_this, .int a1])).length) Slot.unset).toArray = ls at hl ⊢
  have hl : lv_has ls 7 [(0, .ref q_this), (1, .int a1)] := hl
  unfold fX12_pulledBy at hrun
  have hk7 := hts (.fieldLink RX12 7 "LentDrainsModel" "town" "[I") (by decide +kernel)
  have hiX12 : ∀ w ∈ wsX120, w ∈ wsX12_pulledBy := by decide +kernel
  have hk51 := hts (.fieldLink RX12 51 "LentDrainsModel" "stands" "[I") (by decide +kernel)
  have hk16 := hts (.fieldLink RX12 16 "LentDrainsModel" "now" "[I") (by decide +kernel)
  refine oz_genQ (fun Q hQ => ?_)
  refine lv_iconst (v := 0) hx hb dX12_pulledBy_0 (by decide) ?_
  refine lv_istore_n (lv' := [(2, .int 0), (0, .ref q_this), (1, .int a1)]) hx hb dX12_pulledBy_1 rfl hl (by decide) rfl (fun ls hl => ?_)
  refine lv_iconst (v := 0) hx hb dX12_pulledBy_2 (by decide) ?_
  refine lv_istore_n (lv' := [(3, .int 0), (2, .int 0), (0, .ref q_this), (1, .int a1)]) hx hb dX12_pulledBy_3 rfl hl (by decide) rfl (fun ls hl => ?_)
  obtain ⟨o4, hlp4, hrun⟩ := oz_bind hrun
  have hL4 : ∀ (n : Nat) (w4 : Int32 × Int32 × (Nat → Int32)) (o4 : Int32 × Int32 × (Nat → Int32)), oz_loop (fX12_pulledBy_b4 v_town v_now) n w4 = some o4 → (∀ (H : Heap) (locs : List Loc) (ls : Array Slot), va_P (dC, dI) vwCl [(q_this, .inr (12, [.ref q_town, .ref q_read, .ref q_now, .ref q_aside, .ref q_past, .int v_undos, .ref q_images, .ref q_kept, .long v_seed, .ref q_text, .int v_size, .int v_fault, .ref q_sights, .int v_sightMany, .ref q_book, .int v_bookMany, .int v_at, .int v_begin, .int v_sign, .int v_figures, .int v_value, .int v_wrong, .ref q_went, .ref q_free, .ref q_stands])), (q_town, .inl (cI, 27, .inl v_town)), (q_now, .inl (cI, 19, .inl v_now)), (q_stands, .inl (cI, 8, .inl o4.2.2))] H → va_D A [(q_this, .inr (12, [.ref q_town, .ref q_read, .ref q_now, .ref q_aside, .ref q_past, .int v_undos, .ref q_images, .ref q_kept, .long v_seed, .ref q_text, .int v_size, .int v_fault, .ref q_sights, .int v_sightMany, .ref q_book, .int v_bookMany, .int v_at, .int v_begin, .int v_sign, .int v_figures, .int v_value, .int v_wrong, .ref q_went, .ref q_free, .ref q_stands])), (q_town, .inl (cI, 27, .inl v_town)), (q_now, .inl (cI, 19, .inl v_now)), (q_stands, .inl (cI, 8, .inl o4.2.2))] → va_S A s.heap H locs → lv_has ls 7 [(3, .int o4.1), (2, .int o4.2.1), (0, .ref q_this), (1, .int a1)] → W p l e (headSpec wsX12_pulledBy rmX12_pulledBy).room s m (([.ref q_this, .int a1] : List Value).toArray) below meth c H locs 0 0 Q (F0 m 55 ls [])) → ∀ (H : Heap) (locs : List Loc) (ls : Array Slot), va_P (dC, dI) vwCl [(q_this, .inr (12, [.ref q_town, .ref q_read, .ref q_now, .ref q_aside, .ref q_past, .int v_undos, .ref q_images, .ref q_kept, .long v_seed, .ref q_text, .int v_size, .int v_fault, .ref q_sights, .int v_sightMany, .ref q_book, .int v_bookMany, .int v_at, .int v_begin, .int v_sign, .int v_figures, .int v_value, .int v_wrong, .ref q_went, .ref q_free, .ref q_stands])), (q_town, .inl (cI, 27, .inl v_town)), (q_now, .inl (cI, 19, .inl v_now)), (q_stands, .inl (cI, 8, .inl w4.2.2))] H → va_D A [(q_this, .inr (12, [.ref q_town, .ref q_read, .ref q_now, .ref q_aside, .ref q_past, .int v_undos, .ref q_images, .ref q_kept, .long v_seed, .ref q_text, .int v_size, .int v_fault, .ref q_sights, .int v_sightMany, .ref q_book, .int v_bookMany, .int v_at, .int v_begin, .int v_sign, .int v_figures, .int v_value, .int v_wrong, .ref q_went, .ref q_free, .ref q_stands])), (q_town, .inl (cI, 27, .inl v_town)), (q_now, .inl (cI, 19, .inl v_now)), (q_stands, .inl (cI, 8, .inl w4.2.2))] → va_S A s.heap H locs → lv_has ls 7 [(3, .int w4.1), (2, .int w4.2.1), (0, .ref q_this), (1, .int a1)] → W p l e (headSpec wsX12_pulledBy rmX12_pulledBy).room s m (([.ref q_this, .int a1] : List Value).toArray) below meth c H locs 0 0 Q (F0 m 4 ls []) := by
    intro n
    induction n with
    | zero => intro w4 o4 h9; exact (oz_zero h9).elim
    | succ n ih =>
      intro w4 o4 h9 hexit H locs ls hP hD hS hl
      obtain ⟨r9, hrun, hnext⟩ := oz_step h9
      unfold fX12_pulledBy_b4 at hrun
      refine lv_iload_n hx hb dX12_pulledBy_4 rfl (lv_at hl 0 rfl) ?_
      refine lv_aload_n hx hb dX12_pulledBy_5 rfl (lv_at hl 2 rfl) ?_
      refine va_get (D := (dC, dI)) (ci := 12) (v := .ref q_town) (C := RX12) (T := TX12) (N := 25) hx hb hts hiX12 hown hK hP 0 rfl rfl 0 (by decide) hk7 (fun _ h9 => h9) rfl dX12_pulledBy_6 ?_
      refine lv_iconst (v := 2) hx hb dX12_pulledBy_9 (by decide) ?_
      refine va_iald hx hb hK hP 1 0 rfl rfl (show ¬ ((2 : Int32) < 0 ∨ 27 ≤ (2 : Int32).toNatClampNeg) by decide) dX12_pulledBy_10 ?_
      refine lv_icmp_ge (tgt := 55) hx hb dX12_pulledBy_11 (by decide) (fun c1 => ?_) (fun c1 => ?_)
      · have hrun := oz_t hrun c1
        have hr9 := Option.some.inj hrun
        subst hr9
        have ho9 : (w4.1, w4.2.1, w4.2.2) = o4 := hnext
        subst ho9
        exact hexit _ _ _ (hP.sub [0, 1, 2, 3] rfl) (hD.sub [0, 1, 2, 3] (by decide) rfl) hS (lv_sub hl [0, 1, 2, 3] rfl)
      · have hrun := oz_f hrun c1
        refine lv_aload_n hx hb dX12_pulledBy_14 rfl (lv_at hl 2 rfl) ?_
        refine va_get (D := (dC, dI)) (ci := 12) (v := .ref q_stands) (C := RX12) (T := TX12) (N := 25) hx hb hts hiX12 hown hK hP 0 rfl rfl 24 (by decide) hk51 (fun _ h9 => h9) rfl dX12_pulledBy_15 ?_
        refine lv_iload_n hx hb dX12_pulledBy_18 rfl (lv_at hl 0 rfl) ?_
        refine lv_aload_n hx hb dX12_pulledBy_19 rfl (lv_at hl 2 rfl) ?_
        refine va_get (D := (dC, dI)) (ci := 12) (v := .ref q_now) (C := RX12) (T := TX12) (N := 25) hx hb hts hiX12 hown hK hP 0 rfl rfl 2 (by decide) hk16 (fun _ h9 => h9) rfl dX12_pulledBy_20 ?_
        refine lv_iconst (v := 0) hx hb dX12_pulledBy_23 (by decide) ?_
        refine lv_iload_n hx hb dX12_pulledBy_24 rfl (lv_at hl 0 rfl) ?_
        refine lv_iadd hx hb dX12_pulledBy_25 ?_
        obtain ⟨c2, hrun⟩ := oz_chk hrun
        refine va_iald hx hb hK hP 2 0 rfl rfl c2 dX12_pulledBy_26 ?_
        obtain ⟨c3, hrun⟩ := oz_chk hrun
        refine va_iast hx hb hK hP hD hS 3 0 rfl rfl c3 dX12_pulledBy_27 (fun H locs hP hD hS => ?_)
        have hP : va_P (dC, dI) vwCl [(q_this, .inr (12, [.ref q_town, .ref q_read, .ref q_now, .ref q_aside, .ref q_past, .int v_undos, .ref q_images, .ref q_kept, .long v_seed, .ref q_text, .int v_size, .int v_fault, .ref q_sights, .int v_sightMany, .ref q_book, .int v_bookMany, .int v_at, .int v_begin, .int v_sign, .int v_figures, .int v_value, .int v_wrong, .ref q_went, .ref q_free, .ref q_stands])), (q_town, .inl (cI, 27, .inl v_town)), (q_now, .inl (cI, 19, .inl v_now)), (q_stands, .inl (cI, 8, .inl (upd w4.2.2 (Int32.toNatClampNeg w4.1) (v_now (Int32.toNatClampNeg (0 + w4.1))))))] H := hP
        have hD : va_D A [(q_this, .inr (12, [.ref q_town, .ref q_read, .ref q_now, .ref q_aside, .ref q_past, .int v_undos, .ref q_images, .ref q_kept, .long v_seed, .ref q_text, .int v_size, .int v_fault, .ref q_sights, .int v_sightMany, .ref q_book, .int v_bookMany, .int v_at, .int v_begin, .int v_sign, .int v_figures, .int v_value, .int v_wrong, .ref q_went, .ref q_free, .ref q_stands])), (q_town, .inl (cI, 27, .inl v_town)), (q_now, .inl (cI, 19, .inl v_now)), (q_stands, .inl (cI, 8, .inl (upd w4.2.2 (Int32.toNatClampNeg w4.1) (v_now (Int32.toNatClampNeg (0 + w4.1))))))] := hD
        refine lv_aload_n hx hb dX12_pulledBy_28 rfl (lv_at hl 2 rfl) ?_
        refine va_get (D := (dC, dI)) (ci := 12) (v := .ref q_stands) (C := RX12) (T := TX12) (N := 25) hx hb hts hiX12 hown hK hP 0 rfl rfl 24 (by decide) hk51 (fun _ h9 => h9) rfl dX12_pulledBy_29 ?_
        refine lv_iload_n hx hb dX12_pulledBy_32 rfl (lv_at hl 0 rfl) ?_
        refine va_iald hx hb hK hP 3 0 rfl rfl c3 dX12_pulledBy_33 ?_
        refine lv_iload_n hx hb dX12_pulledBy_34 rfl (lv_at hl 1 rfl) ?_
        refine lv_icmp_le (tgt := 47) hx hb dX12_pulledBy_35 (by decide) (fun c4 => ?_) (fun c4 => ?_)
        · have hrun := oz_t hrun c4
          refine lv_iload_n hx hb dX12_pulledBy_47 rfl (lv_at hl 1 rfl) ?_
          refine lv_istore_n (lv' := [(2, .int w4.2.1), (3, .int w4.1), (0, .ref q_this), (1, .int a1)]) hx hb dX12_pulledBy_48 rfl hl (by decide) rfl (fun ls hl => ?_)
          refine lv_iinc (v := (w4.1 + 1)) (lv' := [(3, .int (w4.1 + 1)), (2, .int w4.2.1), (0, .ref q_this), (1, .int a1)]) hx hb dX12_pulledBy_49 hl (k := 1) rfl rfl (by decide) rfl (fun ls hl => ?_)
          refine lv_goto (tgt := 4) hx hb dX12_pulledBy_52 (by decide) ?_
          have hr9 := Option.some.inj hrun
          subst hr9
          exact ih ((w4.1 + 1), w4.2.1, (upd w4.2.2 (Int32.toNatClampNeg w4.1) (v_now (Int32.toNatClampNeg (0 + w4.1))))) _ hnext hexit _ _ _ (hP.sub [0, 1, 2, 3] rfl) (hD.sub [0, 1, 2, 3] (by decide) rfl) hS (lv_sub hl [0, 1, 2, 3] rfl)
        · have hrun := oz_f hrun c4
          refine lv_aload_n hx hb dX12_pulledBy_38 rfl (lv_at hl 2 rfl) ?_
          refine va_get (D := (dC, dI)) (ci := 12) (v := .ref q_stands) (C := RX12) (T := TX12) (N := 25) hx hb hts hiX12 hown hK hP 0 rfl rfl 24 (by decide) hk51 (fun _ h9 => h9) rfl dX12_pulledBy_39 ?_
          refine lv_iload_n hx hb dX12_pulledBy_42 rfl (lv_at hl 0 rfl) ?_
          refine va_iald hx hb hK hP 3 0 rfl rfl c3 dX12_pulledBy_43 ?_
          refine lv_goto (tgt := 48) hx hb dX12_pulledBy_44 (by decide) ?_
          refine lv_istore_n (lv' := [(2, .int ((upd w4.2.2 (Int32.toNatClampNeg w4.1) (v_now (Int32.toNatClampNeg (0 + w4.1)))) (Int32.toNatClampNeg w4.1))), (3, .int w4.1), (0, .ref q_this), (1, .int a1)]) hx hb dX12_pulledBy_48 rfl hl (by decide) rfl (fun ls hl => ?_)
          refine lv_iinc (v := (w4.1 + 1)) (lv' := [(3, .int (w4.1 + 1)), (2, .int ((upd w4.2.2 (Int32.toNatClampNeg w4.1) (v_now (Int32.toNatClampNeg (0 + w4.1)))) (Int32.toNatClampNeg w4.1))), (0, .ref q_this), (1, .int a1)]) hx hb dX12_pulledBy_49 hl (k := 1) rfl rfl (by decide) rfl (fun ls hl => ?_)
          refine lv_goto (tgt := 4) hx hb dX12_pulledBy_52 (by decide) ?_
          have hr9 := Option.some.inj hrun
          subst hr9
          exact ih ((w4.1 + 1), ((upd w4.2.2 (Int32.toNatClampNeg w4.1) (v_now (Int32.toNatClampNeg (0 + w4.1)))) (Int32.toNatClampNeg w4.1)), (upd w4.2.2 (Int32.toNatClampNeg w4.1) (v_now (Int32.toNatClampNeg (0 + w4.1))))) _ hnext hexit _ _ _ (hP.sub [0, 1, 2, 3] rfl) (hD.sub [0, 1, 2, 3] (by decide) rfl) hS (lv_sub hl [0, 1, 2, 3] rfl)
  refine hL4 oz_fuel (0, 0, v_stands) o4 hlp4 (fun H locs ls hP hD hS hl => ?_) _ _ _ (hP.sub [0, 1, 2, 3] rfl) (hD.sub [0, 1, 2, 3] (by decide) rfl) hS (lv_sub hl [0, 1, 2, 3] rfl)
  have hP : va_P (dC, dI) vwCl [(q_this, .inr (12, [.ref q_town, .ref q_read, .ref q_now, .ref q_aside, .ref q_past, .int v_undos, .ref q_images, .ref q_kept, .long v_seed, .ref q_text, .int v_size, .int v_fault, .ref q_sights, .int v_sightMany, .ref q_book, .int v_bookMany, .int v_at, .int v_begin, .int v_sign, .int v_figures, .int v_value, .int v_wrong, .ref q_went, .ref q_free, .ref q_stands])), (q_town, .inl (cI, 27, .inl v_town)), (q_now, .inl (cI, 19, .inl v_now)), (q_stands, .inl (cI, 8, .inl o4.2.2))] H := hP
  have hD : va_D A [(q_this, .inr (12, [.ref q_town, .ref q_read, .ref q_now, .ref q_aside, .ref q_past, .int v_undos, .ref q_images, .ref q_kept, .long v_seed, .ref q_text, .int v_size, .int v_fault, .ref q_sights, .int v_sightMany, .ref q_book, .int v_bookMany, .int v_at, .int v_begin, .int v_sign, .int v_figures, .int v_value, .int v_wrong, .ref q_went, .ref q_free, .ref q_stands])), (q_town, .inl (cI, 27, .inl v_town)), (q_now, .inl (cI, 19, .inl v_now)), (q_stands, .inl (cI, 8, .inl o4.2.2))] := hD
  have hl : lv_has ls 7 [(3, .int o4.1), (2, .int o4.2.1), (0, .ref q_this), (1, .int a1)] := hl
  refine lv_iconst (v := 1) hx hb dX12_pulledBy_55 (by decide) ?_
  refine lv_istore_n (lv' := [(3, .int 1), (2, .int o4.2.1), (0, .ref q_this), (1, .int a1)]) hx hb dX12_pulledBy_56 rfl hl (by decide) rfl (fun ls hl => ?_)
  refine lv_iconst (v := 1) hx hb dX12_pulledBy_57 (by decide) ?_
  refine lv_istore (lv' := [(4, .int 1), (3, .int 1), (2, .int o4.2.1), (0, .ref q_this), (1, .int a1)]) hx hb dX12_pulledBy_58 hl (by decide) rfl (fun ls hl => ?_)
  obtain ⟨o60, hlp60, hrun⟩ := oz_bind hrun
  have hL60 : ∀ (n : Nat) (w60 : Int32 × Int32) (o60 : Int32 × Int32), oz_loop (fX12_pulledBy_b60 v_town) n w60 = some o60 → (∀ (H : Heap) (locs : List Loc) (ls : Array Slot), va_P (dC, dI) vwCl [(q_this, .inr (12, [.ref q_town, .ref q_read, .ref q_now, .ref q_aside, .ref q_past, .int v_undos, .ref q_images, .ref q_kept, .long v_seed, .ref q_text, .int v_size, .int v_fault, .ref q_sights, .int v_sightMany, .ref q_book, .int v_bookMany, .int v_at, .int v_begin, .int v_sign, .int v_figures, .int v_value, .int v_wrong, .ref q_went, .ref q_free, .ref q_stands])), (q_town, .inl (cI, 27, .inl v_town)), (q_now, .inl (cI, 19, .inl v_now)), (q_stands, .inl (cI, 8, .inl o4.2.2))] H → va_D A [(q_this, .inr (12, [.ref q_town, .ref q_read, .ref q_now, .ref q_aside, .ref q_past, .int v_undos, .ref q_images, .ref q_kept, .long v_seed, .ref q_text, .int v_size, .int v_fault, .ref q_sights, .int v_sightMany, .ref q_book, .int v_bookMany, .int v_at, .int v_begin, .int v_sign, .int v_figures, .int v_value, .int v_wrong, .ref q_went, .ref q_free, .ref q_stands])), (q_town, .inl (cI, 27, .inl v_town)), (q_now, .inl (cI, 19, .inl v_now)), (q_stands, .inl (cI, 8, .inl o4.2.2))] → va_S A s.heap H locs → lv_has ls 7 [(4, .int o60.1), (3, .int o60.2), (2, .int o4.2.1), (0, .ref q_this), (1, .int a1)] → W p l e (headSpec wsX12_pulledBy rmX12_pulledBy).room s m (([.ref q_this, .int a1] : List Value).toArray) below meth c H locs 0 0 Q (F0 m 82 ls [])) → ∀ (H : Heap) (locs : List Loc) (ls : Array Slot), va_P (dC, dI) vwCl [(q_this, .inr (12, [.ref q_town, .ref q_read, .ref q_now, .ref q_aside, .ref q_past, .int v_undos, .ref q_images, .ref q_kept, .long v_seed, .ref q_text, .int v_size, .int v_fault, .ref q_sights, .int v_sightMany, .ref q_book, .int v_bookMany, .int v_at, .int v_begin, .int v_sign, .int v_figures, .int v_value, .int v_wrong, .ref q_went, .ref q_free, .ref q_stands])), (q_town, .inl (cI, 27, .inl v_town)), (q_now, .inl (cI, 19, .inl v_now)), (q_stands, .inl (cI, 8, .inl o4.2.2))] H → va_D A [(q_this, .inr (12, [.ref q_town, .ref q_read, .ref q_now, .ref q_aside, .ref q_past, .int v_undos, .ref q_images, .ref q_kept, .long v_seed, .ref q_text, .int v_size, .int v_fault, .ref q_sights, .int v_sightMany, .ref q_book, .int v_bookMany, .int v_at, .int v_begin, .int v_sign, .int v_figures, .int v_value, .int v_wrong, .ref q_went, .ref q_free, .ref q_stands])), (q_town, .inl (cI, 27, .inl v_town)), (q_now, .inl (cI, 19, .inl v_now)), (q_stands, .inl (cI, 8, .inl o4.2.2))] → va_S A s.heap H locs → lv_has ls 7 [(4, .int w60.1), (3, .int w60.2), (2, .int o4.2.1), (0, .ref q_this), (1, .int a1)] → W p l e (headSpec wsX12_pulledBy rmX12_pulledBy).room s m (([.ref q_this, .int a1] : List Value).toArray) below meth c H locs 0 0 Q (F0 m 60 ls []) := by
    intro n
    induction n with
    | zero => intro w60 o60 h9; exact (oz_zero h9).elim
    | succ n ih =>
      intro w60 o60 h9 hexit H locs ls hP hD hS hl
      obtain ⟨r9, hrun, hnext⟩ := oz_step h9
      unfold fX12_pulledBy_b60 at hrun
      refine lv_iload hx hb dX12_pulledBy_60 (lv_at hl 0 rfl) ?_
      refine lv_aload_n hx hb dX12_pulledBy_62 rfl (lv_at hl 3 rfl) ?_
      refine va_get (D := (dC, dI)) (ci := 12) (v := .ref q_town) (C := RX12) (T := TX12) (N := 25) hx hb hts hiX12 hown hK hP 0 rfl rfl 0 (by decide) hk7 (fun _ h9 => h9) rfl dX12_pulledBy_63 ?_
      refine lv_iconst (v := 2) hx hb dX12_pulledBy_66 (by decide) ?_
      refine va_iald hx hb hK hP 1 0 rfl rfl (show ¬ ((2 : Int32) < 0 ∨ 27 ≤ (2 : Int32).toNatClampNeg) by decide) dX12_pulledBy_67 ?_
      refine lv_icmp_ge (tgt := 82) hx hb dX12_pulledBy_68 (by decide) (fun c5 => ?_) (fun c5 => ?_)
      · have hrun := oz_t hrun c5
        have hr9 := Option.some.inj hrun
        subst hr9
        have ho9 : (w60.1, w60.2) = o60 := hnext
        subst ho9
        exact hexit _ _ _ (hP.sub [0, 1, 2, 3] rfl) (hD.sub [0, 1, 2, 3] (by decide) rfl) hS (lv_sub hl [0, 1, 2, 3, 4] rfl)
      · have hrun := oz_f hrun c5
        refine lv_iload_n hx hb dX12_pulledBy_71 rfl (lv_at hl 1 rfl) ?_
        refine lv_bipush (v := 10) hx hb dX12_pulledBy_72 (by decide) ?_
        refine lv_imul hx hb dX12_pulledBy_74 ?_
        refine lv_istore_n (lv' := [(3, .int (w60.2 * 10)), (4, .int w60.1), (2, .int o4.2.1), (0, .ref q_this), (1, .int a1)]) hx hb dX12_pulledBy_75 rfl hl (by decide) rfl (fun ls hl => ?_)
        refine lv_iinc (v := (w60.1 + 1)) (lv' := [(4, .int (w60.1 + 1)), (3, .int (w60.2 * 10)), (2, .int o4.2.1), (0, .ref q_this), (1, .int a1)]) hx hb dX12_pulledBy_76 hl (k := 1) rfl rfl (by decide) rfl (fun ls hl => ?_)
        refine lv_goto (tgt := 60) hx hb dX12_pulledBy_79 (by decide) ?_
        have hr9 := Option.some.inj hrun
        subst hr9
        exact ih ((w60.1 + 1), (w60.2 * 10)) _ hnext hexit _ _ _ (hP.sub [0, 1, 2, 3] rfl) (hD.sub [0, 1, 2, 3] (by decide) rfl) hS (lv_sub hl [0, 1, 2, 3, 4] rfl)
  refine hL60 oz_fuel (1, 1) o60 hlp60 (fun H locs ls hP hD hS hl => ?_) _ _ _ (hP.sub [0, 1, 2, 3] rfl) (hD.sub [0, 1, 2, 3] (by decide) rfl) hS (lv_sub hl [0, 1, 2, 3, 4] rfl)
  have hP : va_P (dC, dI) vwCl [(q_this, .inr (12, [.ref q_town, .ref q_read, .ref q_now, .ref q_aside, .ref q_past, .int v_undos, .ref q_images, .ref q_kept, .long v_seed, .ref q_text, .int v_size, .int v_fault, .ref q_sights, .int v_sightMany, .ref q_book, .int v_bookMany, .int v_at, .int v_begin, .int v_sign, .int v_figures, .int v_value, .int v_wrong, .ref q_went, .ref q_free, .ref q_stands])), (q_town, .inl (cI, 27, .inl v_town)), (q_now, .inl (cI, 19, .inl v_now)), (q_stands, .inl (cI, 8, .inl o4.2.2))] H := hP
  have hD : va_D A [(q_this, .inr (12, [.ref q_town, .ref q_read, .ref q_now, .ref q_aside, .ref q_past, .int v_undos, .ref q_images, .ref q_kept, .long v_seed, .ref q_text, .int v_size, .int v_fault, .ref q_sights, .int v_sightMany, .ref q_book, .int v_bookMany, .int v_at, .int v_begin, .int v_sign, .int v_figures, .int v_value, .int v_wrong, .ref q_went, .ref q_free, .ref q_stands])), (q_town, .inl (cI, 27, .inl v_town)), (q_now, .inl (cI, 19, .inl v_now)), (q_stands, .inl (cI, 8, .inl o4.2.2))] := hD
  have hl : lv_has ls 7 [(4, .int o60.1), (3, .int o60.2), (2, .int o4.2.1), (0, .ref q_this), (1, .int a1)] := hl
  refine lv_iconst (v := 0) hx hb dX12_pulledBy_82 (by decide) ?_
  refine lv_istore (lv' := [(4, .int 0), (3, .int o60.2), (2, .int o4.2.1), (0, .ref q_this), (1, .int a1)]) hx hb dX12_pulledBy_83 hl (by decide) rfl (fun ls hl => ?_)
  obtain ⟨o85, hlp85, hrun⟩ := oz_bind hrun
  have hL85 : ∀ (n : Nat) (w85 : Int32 × Int32 × Int32 × (Nat → Int32)) (o85 : Int32 × Int32 × Int32 × (Nat → Int32)), oz_loop (fX12_pulledBy_b85 v_town a1) n w85 = some o85 → (∀ (H : Heap) (locs : List Loc) (ls : Array Slot), va_P (dC, dI) vwCl [(q_this, .inr (12, [.ref q_town, .ref q_read, .ref q_now, .ref q_aside, .ref q_past, .int v_undos, .ref q_images, .ref q_kept, .long v_seed, .ref q_text, .int v_size, .int v_fault, .ref q_sights, .int v_sightMany, .ref q_book, .int v_bookMany, .int v_at, .int v_begin, .int v_sign, .int v_figures, .int v_value, .int v_wrong, .ref q_went, .ref q_free, .ref q_stands])), (q_town, .inl (cI, 27, .inl v_town)), (q_now, .inl (cI, 19, .inl v_now)), (q_stands, .inl (cI, 8, .inl o85.2.2.2))] H → va_D A [(q_this, .inr (12, [.ref q_town, .ref q_read, .ref q_now, .ref q_aside, .ref q_past, .int v_undos, .ref q_images, .ref q_kept, .long v_seed, .ref q_text, .int v_size, .int v_fault, .ref q_sights, .int v_sightMany, .ref q_book, .int v_bookMany, .int v_at, .int v_begin, .int v_sign, .int v_figures, .int v_value, .int v_wrong, .ref q_went, .ref q_free, .ref q_stands])), (q_town, .inl (cI, 27, .inl v_town)), (q_now, .inl (cI, 19, .inl v_now)), (q_stands, .inl (cI, 8, .inl o85.2.2.2))] → va_S A s.heap H locs → lv_has ls 7 [(4, .int o85.1), (3, .int o85.2.1), (2, .int o85.2.2.1), (0, .ref q_this), (1, .int a1)] → W p l e (headSpec wsX12_pulledBy rmX12_pulledBy).room s m (([.ref q_this, .int a1] : List Value).toArray) below meth c H locs 0 0 Q (F0 m 205 ls [])) → ∀ (H : Heap) (locs : List Loc) (ls : Array Slot), va_P (dC, dI) vwCl [(q_this, .inr (12, [.ref q_town, .ref q_read, .ref q_now, .ref q_aside, .ref q_past, .int v_undos, .ref q_images, .ref q_kept, .long v_seed, .ref q_text, .int v_size, .int v_fault, .ref q_sights, .int v_sightMany, .ref q_book, .int v_bookMany, .int v_at, .int v_begin, .int v_sign, .int v_figures, .int v_value, .int v_wrong, .ref q_went, .ref q_free, .ref q_stands])), (q_town, .inl (cI, 27, .inl v_town)), (q_now, .inl (cI, 19, .inl v_now)), (q_stands, .inl (cI, 8, .inl w85.2.2.2))] H → va_D A [(q_this, .inr (12, [.ref q_town, .ref q_read, .ref q_now, .ref q_aside, .ref q_past, .int v_undos, .ref q_images, .ref q_kept, .long v_seed, .ref q_text, .int v_size, .int v_fault, .ref q_sights, .int v_sightMany, .ref q_book, .int v_bookMany, .int v_at, .int v_begin, .int v_sign, .int v_figures, .int v_value, .int v_wrong, .ref q_went, .ref q_free, .ref q_stands])), (q_town, .inl (cI, 27, .inl v_town)), (q_now, .inl (cI, 19, .inl v_now)), (q_stands, .inl (cI, 8, .inl w85.2.2.2))] → va_S A s.heap H locs → lv_has ls 7 [(4, .int w85.1), (3, .int w85.2.1), (2, .int w85.2.2.1), (0, .ref q_this), (1, .int a1)] → W p l e (headSpec wsX12_pulledBy rmX12_pulledBy).room s m (([.ref q_this, .int a1] : List Value).toArray) below meth c H locs 0 0 Q (F0 m 85 ls []) := by
    intro n
    induction n with
    | zero => intro w85 o85 h9; exact (oz_zero h9).elim
    | succ n ih =>
      intro w85 o85 h9 hexit H locs ls hP hD hS hl
      obtain ⟨r9, hrun, hnext⟩ := oz_step h9
      unfold fX12_pulledBy_b85 at hrun
      refine lv_iload_n hx hb dX12_pulledBy_85 rfl (lv_at hl 1 rfl) ?_
      refine lv_if_le (tgt := 205) hx hb dX12_pulledBy_86 (by decide) (fun c6 => ?_) (fun c6 => ?_)
      · have hrun := oz_t hrun c6
        have hr9 := Option.some.inj hrun
        subst hr9
        have ho9 : (w85.1, w85.2.1, w85.2.2.1, w85.2.2.2) = o85 := hnext
        subst ho9
        exact hexit _ _ _ (hP.sub [0, 1, 2, 3] rfl) (hD.sub [0, 1, 2, 3] (by decide) rfl) hS (lv_sub hl [0, 1, 2, 3, 4] rfl)
      · have hrun := oz_f hrun c6
        refine lv_iload_n hx hb dX12_pulledBy_89 rfl (lv_at hl 4 rfl) ?_
        refine lv_iload_n hx hb dX12_pulledBy_90 rfl (lv_at hl 1 rfl) ?_
        obtain ⟨c7, hrun⟩ := oz_chk hrun
        refine lv_idiv hx hb dX12_pulledBy_91 c7 ?_
        refine lv_bipush (v := 10) hx hb dX12_pulledBy_92 (by decide) ?_
        refine lv_irem hx hb dX12_pulledBy_94 (by decide) ?_
        refine lv_iconst (v := 1) hx hb dX12_pulledBy_95 (by decide) ?_
        refine lv_isub hx hb dX12_pulledBy_96 ?_
        refine lv_istore (lv' := [(5, .int (((a1 / w85.2.1) - (a1 / w85.2.1) / 10 * 10) - 1)), (4, .int w85.1), (3, .int w85.2.1), (2, .int w85.2.2.1), (0, .ref q_this), (1, .int a1)]) hx hb dX12_pulledBy_97 hl (by decide) rfl (fun ls hl => ?_)
        refine lv_iload hx hb dX12_pulledBy_99 (lv_at hl 1 rfl) ?_
        refine lv_iconst (v := 1) hx hb dX12_pulledBy_101 (by decide) ?_
        refine lv_iload hx hb dX12_pulledBy_102 (lv_at hl 0 rfl) ?_
        refine lv_ishl hx hb dX12_pulledBy_104 ?_
        refine lv_ior hx hb dX12_pulledBy_105 ?_
        refine lv_istore (lv' := [(4, .int (w85.1 ||| (1 <<< ((((a1 / w85.2.1) - (a1 / w85.2.1) / 10 * 10) - 1) &&& 31)))), (5, .int (((a1 / w85.2.1) - (a1 / w85.2.1) / 10 * 10) - 1)), (3, .int w85.2.1), (2, .int w85.2.2.1), (0, .ref q_this), (1, .int a1)]) hx hb dX12_pulledBy_106 hl (by decide) rfl (fun ls hl => ?_)
        refine lv_iload hx hb dX12_pulledBy_108 (lv_at hl 1 rfl) ?_
        refine lv_istore (lv' := [(6, .int (((a1 / w85.2.1) - (a1 / w85.2.1) / 10 * 10) - 1)), (4, .int (w85.1 ||| (1 <<< ((((a1 / w85.2.1) - (a1 / w85.2.1) / 10 * 10) - 1) &&& 31)))), (5, .int (((a1 / w85.2.1) - (a1 / w85.2.1) / 10 * 10) - 1)), (3, .int w85.2.1), (2, .int w85.2.2.1), (0, .ref q_this), (1, .int a1)]) hx hb dX12_pulledBy_110 hl (by decide) rfl (fun ls hl => ?_)
        obtain ⟨o112, hlp112, hrun⟩ := oz_bind hrun
        have hL112 : ∀ (k112_0 : Int32) (k112_1 : Int32) (n : Nat) (w112 : Int32) (o112 : Int32), oz_loop (fX12_pulledBy_b112 v_town k112_0) n w112 = some o112 → (∀ (H : Heap) (locs : List Loc) (ls : Array Slot), va_P (dC, dI) vwCl [(q_this, .inr (12, [.ref q_town, .ref q_read, .ref q_now, .ref q_aside, .ref q_past, .int v_undos, .ref q_images, .ref q_kept, .long v_seed, .ref q_text, .int v_size, .int v_fault, .ref q_sights, .int v_sightMany, .ref q_book, .int v_bookMany, .int v_at, .int v_begin, .int v_sign, .int v_figures, .int v_value, .int v_wrong, .ref q_went, .ref q_free, .ref q_stands])), (q_town, .inl (cI, 27, .inl v_town)), (q_now, .inl (cI, 19, .inl v_now)), (q_stands, .inl (cI, 8, .inl w85.2.2.2))] H → va_D A [(q_this, .inr (12, [.ref q_town, .ref q_read, .ref q_now, .ref q_aside, .ref q_past, .int v_undos, .ref q_images, .ref q_kept, .long v_seed, .ref q_text, .int v_size, .int v_fault, .ref q_sights, .int v_sightMany, .ref q_book, .int v_bookMany, .int v_at, .int v_begin, .int v_sign, .int v_figures, .int v_value, .int v_wrong, .ref q_went, .ref q_free, .ref q_stands])), (q_town, .inl (cI, 27, .inl v_town)), (q_now, .inl (cI, 19, .inl v_now)), (q_stands, .inl (cI, 8, .inl w85.2.2.2))] → va_S A s.heap H locs → lv_has ls 7 [(6, .int o112), (4, .int k112_0), (5, .int k112_1), (3, .int w85.2.1), (2, .int w85.2.2.1), (0, .ref q_this), (1, .int a1)] → W p l e (headSpec wsX12_pulledBy rmX12_pulledBy).room s m (([.ref q_this, .int a1] : List Value).toArray) below meth c H locs 0 0 Q (F0 m 143 ls [])) → ∀ (H : Heap) (locs : List Loc) (ls : Array Slot), va_P (dC, dI) vwCl [(q_this, .inr (12, [.ref q_town, .ref q_read, .ref q_now, .ref q_aside, .ref q_past, .int v_undos, .ref q_images, .ref q_kept, .long v_seed, .ref q_text, .int v_size, .int v_fault, .ref q_sights, .int v_sightMany, .ref q_book, .int v_bookMany, .int v_at, .int v_begin, .int v_sign, .int v_figures, .int v_value, .int v_wrong, .ref q_went, .ref q_free, .ref q_stands])), (q_town, .inl (cI, 27, .inl v_town)), (q_now, .inl (cI, 19, .inl v_now)), (q_stands, .inl (cI, 8, .inl w85.2.2.2))] H → va_D A [(q_this, .inr (12, [.ref q_town, .ref q_read, .ref q_now, .ref q_aside, .ref q_past, .int v_undos, .ref q_images, .ref q_kept, .long v_seed, .ref q_text, .int v_size, .int v_fault, .ref q_sights, .int v_sightMany, .ref q_book, .int v_bookMany, .int v_at, .int v_begin, .int v_sign, .int v_figures, .int v_value, .int v_wrong, .ref q_went, .ref q_free, .ref q_stands])), (q_town, .inl (cI, 27, .inl v_town)), (q_now, .inl (cI, 19, .inl v_now)), (q_stands, .inl (cI, 8, .inl w85.2.2.2))] → va_S A s.heap H locs → lv_has ls 7 [(6, .int w112), (4, .int k112_0), (5, .int k112_1), (3, .int w85.2.1), (2, .int w85.2.2.1), (0, .ref q_this), (1, .int a1)] → W p l e (headSpec wsX12_pulledBy rmX12_pulledBy).room s m (([.ref q_this, .int a1] : List Value).toArray) below meth c H locs 0 0 Q (F0 m 112 ls []) := by
          intro k112_0 k112_1 n
          induction n with
          | zero => intro w112 o112 h9; exact (oz_zero h9).elim
          | succ n ih =>
            intro w112 o112 h9 hexit H locs ls hP hD hS hl
            obtain ⟨r9, hrun, hnext⟩ := oz_step h9
            unfold fX12_pulledBy_b112 at hrun
            refine lv_iload hx hb dX12_pulledBy_112 (lv_at hl 0 rfl) ?_
            refine lv_iconst (v := (-1)) hx hb dX12_pulledBy_114 (by decide) ?_
            refine lv_icmp_eq (tgt := 143) hx hb dX12_pulledBy_115 (by decide) (fun c8 => ?_) (fun c8 => ?_)
            · have hrun := oz_t hrun c8
              have hr9 := Option.some.inj hrun
              subst hr9
              have ho9 : w112 = o112 := hnext
              subst ho9
              exact hexit _ _ _ (hP.sub [0, 1, 2, 3] rfl) (hD.sub [0, 1, 2, 3] (by decide) rfl) hS (lv_sub hl [0, 1, 2, 3, 4, 5, 6] rfl)
            · have hrun := oz_f hrun c8
              refine lv_iload hx hb dX12_pulledBy_118 (lv_at hl 1 rfl) ?_
              refine lv_iload hx hb dX12_pulledBy_120 (lv_at hl 0 rfl) ?_
              obtain ⟨y122, hc122, hrun⟩ := oz_bind hrun
              have hPc := hP.sub (ws' := []) [] rfl
              have hDc := hD.sub (ws' := []) [] (by decide) rfl
              have hFc := va_free (wc := []) hD hS hA [] rfl
              refine va_calli (va_runS (As := [.int k112_0, .int w112]) (rest := []) ⟨hx, hb, hml, hown, hts⟩ (tX12_has l dC dI cI cZ H.size k112_0 w112 y122 hc122) (va_cwS 2 hts gX12_pulledBy_X12_has rfl rfl rfl (by decide +kernel) ⟨Nat.le_of_ble_eq_true rfl, Nat.le_of_ble_eq_true rfl⟩) ⟨fun a U g mk q => by obtain ⟨q0, q1, qP, qK, qD⟩ := q; exact ⟨q0, q1, qP, va_K.moved (u := U) (U := U.calling g mk a) (Vm.Alike.refl U.vm) qK, qD⟩, fun U hU hW => ⟨rfl, by rw [hU], by rw [hU]; exact hPc, va_K.moved hW.alike hK, hDc.weaken (fun _ _ _ _ => trivial)⟩⟩ rfl rfl hl.1 rfl (lv_room (Nat.le_of_ble_eq_true rfl)) dX12_pulledBy_122 ⟨Nat.le_of_ble_eq_true rfl, Nat.le_of_ble_eq_true rfl⟩) hS (fun q _ h => hFc q h) hFc (fun r122 u9 t9 H1 locs ht9 hvm9 hw9 hB9 hz9 hkk9 hS => ?_)
              have hw9 : y122 = r122 := hw9.symm
              subst hw9
              obtain ⟨hP9, hK9, hD9⟩ := hB9
              rw [ht9] at hP9
              obtain ⟨hP, hD⟩ := va_join (wr := [(q_this, .inr (12, [.ref q_town, .ref q_read, .ref q_now, .ref q_aside, .ref q_past, .int v_undos, .ref q_images, .ref q_kept, .long v_seed, .ref q_text, .int v_size, .int v_fault, .ref q_sights, .int v_sightMany, .ref q_book, .int v_bookMany, .int v_at, .int v_begin, .int v_sign, .int v_figures, .int v_value, .int v_wrong, .ref q_went, .ref q_free, .ref q_stands])), (q_town, .inl (cI, 27, .inl v_town)), (q_now, .inl (cI, 19, .inl v_now)), (q_stands, .inl (cI, 8, .inl w85.2.2.2))]) (w1 := []) hP hD [] [0, 1, 2, 3] rfl rfl (by decide) (by decide) hkk9 hFc hP9 hD9
              generalize H1 = H at hP hS ⊢
              have hP : va_P (dC, dI) vwCl [(q_this, .inr (12, [.ref q_town, .ref q_read, .ref q_now, .ref q_aside, .ref q_past, .int v_undos, .ref q_images, .ref q_kept, .long v_seed, .ref q_text, .int v_size, .int v_fault, .ref q_sights, .int v_sightMany, .ref q_book, .int v_bookMany, .int v_at, .int v_begin, .int v_sign, .int v_figures, .int v_value, .int v_wrong, .ref q_went, .ref q_free, .ref q_stands])), (q_town, .inl (cI, 27, .inl v_town)), (q_now, .inl (cI, 19, .inl v_now)), (q_stands, .inl (cI, 8, .inl w85.2.2.2))] H := hP
              have hD : va_D A [(q_this, .inr (12, [.ref q_town, .ref q_read, .ref q_now, .ref q_aside, .ref q_past, .int v_undos, .ref q_images, .ref q_kept, .long v_seed, .ref q_text, .int v_size, .int v_fault, .ref q_sights, .int v_sightMany, .ref q_book, .int v_bookMany, .int v_at, .int v_begin, .int v_sign, .int v_figures, .int v_value, .int v_wrong, .ref q_went, .ref q_free, .ref q_stands])), (q_town, .inl (cI, 27, .inl v_town)), (q_now, .inl (cI, 19, .inl v_now)), (q_stands, .inl (cI, 8, .inl w85.2.2.2))] := hD
              refine lv_if_eq (tgt := 143) hx hb dX12_pulledBy_125 (by decide) (fun c9 => ?_) (fun c9 => ?_)
              · have hrun := oz_t hrun c9
                have hr9 := Option.some.inj hrun
                subst hr9
                have ho9 : w112 = o112 := hnext
                subst ho9
                exact hexit _ _ _ (hP.sub [0, 1, 2, 3] rfl) (hD.sub [0, 1, 2, 3] (by decide) rfl) hS (lv_sub hl [0, 1, 2, 3, 4, 5, 6] rfl)
              · have hrun := oz_f hrun c9
                refine lv_aload_n hx hb dX12_pulledBy_128 rfl (lv_at hl 5 rfl) ?_
                refine va_get (D := (dC, dI)) (ci := 12) (v := .ref q_town) (C := RX12) (T := TX12) (N := 25) hx hb hts hiX12 hown hK hP 0 rfl rfl 0 (by decide) hk7 (fun _ h9 => h9) rfl dX12_pulledBy_129 ?_
                refine lv_bipush (v := 19) hx hb dX12_pulledBy_132 (by decide) ?_
                refine lv_iload hx hb dX12_pulledBy_134 (lv_at hl 0 rfl) ?_
                refine lv_iadd hx hb dX12_pulledBy_136 ?_
                obtain ⟨c10, hrun⟩ := oz_chk hrun
                refine va_iald hx hb hK hP 1 0 rfl rfl c10 dX12_pulledBy_137 ?_
                refine lv_istore (lv' := [(6, .int (v_town (Int32.toNatClampNeg (19 + w112)))), (4, .int k112_0), (5, .int k112_1), (3, .int w85.2.1), (2, .int w85.2.2.1), (0, .ref q_this), (1, .int a1)]) hx hb dX12_pulledBy_138 hl (by decide) rfl (fun ls hl => ?_)
                refine lv_goto (tgt := 112) hx hb dX12_pulledBy_140 (by decide) ?_
                have hr9 := Option.some.inj hrun
                subst hr9
                exact ih (v_town (Int32.toNatClampNeg (19 + w112))) _ hnext hexit _ _ _ (hP.sub [0, 1, 2, 3] rfl) (hD.sub [0, 1, 2, 3] (by decide) rfl) hS (lv_sub hl [0, 1, 2, 3, 4, 5, 6] rfl)
        refine hL112 (w85.1 ||| (1 <<< ((((a1 / w85.2.1) - (a1 / w85.2.1) / 10 * 10) - 1) &&& 31))) (((a1 / w85.2.1) - (a1 / w85.2.1) / 10 * 10) - 1) oz_fuel (((a1 / w85.2.1) - (a1 / w85.2.1) / 10 * 10) - 1) o112 hlp112 (fun H locs ls hP hD hS hl => ?_) _ _ _ (hP.sub [0, 1, 2, 3] rfl) (hD.sub [0, 1, 2, 3] (by decide) rfl) hS (lv_sub hl [0, 1, 2, 3, 4, 5, 6] rfl)
        have hP : va_P (dC, dI) vwCl [(q_this, .inr (12, [.ref q_town, .ref q_read, .ref q_now, .ref q_aside, .ref q_past, .int v_undos, .ref q_images, .ref q_kept, .long v_seed, .ref q_text, .int v_size, .int v_fault, .ref q_sights, .int v_sightMany, .ref q_book, .int v_bookMany, .int v_at, .int v_begin, .int v_sign, .int v_figures, .int v_value, .int v_wrong, .ref q_went, .ref q_free, .ref q_stands])), (q_town, .inl (cI, 27, .inl v_town)), (q_now, .inl (cI, 19, .inl v_now)), (q_stands, .inl (cI, 8, .inl w85.2.2.2))] H := hP
        have hD : va_D A [(q_this, .inr (12, [.ref q_town, .ref q_read, .ref q_now, .ref q_aside, .ref q_past, .int v_undos, .ref q_images, .ref q_kept, .long v_seed, .ref q_text, .int v_size, .int v_fault, .ref q_sights, .int v_sightMany, .ref q_book, .int v_bookMany, .int v_at, .int v_begin, .int v_sign, .int v_figures, .int v_value, .int v_wrong, .ref q_went, .ref q_free, .ref q_stands])), (q_town, .inl (cI, 27, .inl v_town)), (q_now, .inl (cI, 19, .inl v_now)), (q_stands, .inl (cI, 8, .inl w85.2.2.2))] := hD
        have hl : lv_has ls 7 [(6, .int o112), (4, .int (w85.1 ||| (1 <<< ((((a1 / w85.2.1) - (a1 / w85.2.1) / 10 * 10) - 1) &&& 31)))), (5, .int (((a1 / w85.2.1) - (a1 / w85.2.1) / 10 * 10) - 1)), (3, .int w85.2.1), (2, .int w85.2.2.1), (0, .ref q_this), (1, .int a1)] := hl
        refine lv_iload hx hb dX12_pulledBy_143 (lv_at hl 0 rfl) ?_
        refine lv_iconst (v := (-1)) hx hb dX12_pulledBy_145 (by decide) ?_
        refine lv_icmp_eq (tgt := 189) hx hb dX12_pulledBy_146 (by decide) (fun c11 => ?_) (fun c11 => ?_)
        · have hrun := oz_t hrun c11
          refine lv_aload_n hx hb dX12_pulledBy_189 rfl (lv_at hl 5 rfl) ?_
          refine va_get (D := (dC, dI)) (ci := 12) (v := .ref q_stands) (C := RX12) (T := TX12) (N := 25) hx hb hts hiX12 hown hK hP 0 rfl rfl 24 (by decide) hk51 (fun _ h9 => h9) rfl dX12_pulledBy_190 ?_
          refine lv_iload hx hb dX12_pulledBy_193 (lv_at hl 2 rfl) ?_
          refine lv_iconst (v := 0) hx hb dX12_pulledBy_195 (by decide) ?_
          obtain ⟨c12, hrun⟩ := oz_chk hrun
          refine va_iast hx hb hK hP hD hS 3 0 rfl rfl c12 dX12_pulledBy_196 (fun H locs hP hD hS => ?_)
          have hP : va_P (dC, dI) vwCl [(q_this, .inr (12, [.ref q_town, .ref q_read, .ref q_now, .ref q_aside, .ref q_past, .int v_undos, .ref q_images, .ref q_kept, .long v_seed, .ref q_text, .int v_size, .int v_fault, .ref q_sights, .int v_sightMany, .ref q_book, .int v_bookMany, .int v_at, .int v_begin, .int v_sign, .int v_figures, .int v_value, .int v_wrong, .ref q_went, .ref q_free, .ref q_stands])), (q_town, .inl (cI, 27, .inl v_town)), (q_now, .inl (cI, 19, .inl v_now)), (q_stands, .inl (cI, 8, .inl (upd w85.2.2.2 (Int32.toNatClampNeg (((a1 / w85.2.1) - (a1 / w85.2.1) / 10 * 10) - 1)) 0)))] H := hP
          have hD : va_D A [(q_this, .inr (12, [.ref q_town, .ref q_read, .ref q_now, .ref q_aside, .ref q_past, .int v_undos, .ref q_images, .ref q_kept, .long v_seed, .ref q_text, .int v_size, .int v_fault, .ref q_sights, .int v_sightMany, .ref q_book, .int v_bookMany, .int v_at, .int v_begin, .int v_sign, .int v_figures, .int v_value, .int v_wrong, .ref q_went, .ref q_free, .ref q_stands])), (q_town, .inl (cI, 27, .inl v_town)), (q_now, .inl (cI, 19, .inl v_now)), (q_stands, .inl (cI, 8, .inl (upd w85.2.2.2 (Int32.toNatClampNeg (((a1 / w85.2.1) - (a1 / w85.2.1) / 10 * 10) - 1)) 0)))] := hD
          refine lv_iload_n hx hb dX12_pulledBy_197 rfl (lv_at hl 3 rfl) ?_
          refine lv_bipush (v := 10) hx hb dX12_pulledBy_198 (by decide) ?_
          refine lv_idiv hx hb dX12_pulledBy_200 (by decide) ?_
          refine lv_istore_n (lv' := [(3, .int (w85.2.1 / 10)), (6, .int o112), (4, .int (w85.1 ||| (1 <<< ((((a1 / w85.2.1) - (a1 / w85.2.1) / 10 * 10) - 1) &&& 31)))), (5, .int (((a1 / w85.2.1) - (a1 / w85.2.1) / 10 * 10) - 1)), (2, .int w85.2.2.1), (0, .ref q_this), (1, .int a1)]) hx hb dX12_pulledBy_201 rfl hl (by decide) rfl (fun ls hl => ?_)
          refine lv_goto (tgt := 85) hx hb dX12_pulledBy_202 (by decide) ?_
          have hr9 := Option.some.inj hrun
          subst hr9
          exact ih ((w85.1 ||| (1 <<< ((((a1 / w85.2.1) - (a1 / w85.2.1) / 10 * 10) - 1) &&& 31))), (w85.2.1 / 10), w85.2.2.1, (upd w85.2.2.2 (Int32.toNatClampNeg (((a1 / w85.2.1) - (a1 / w85.2.1) / 10 * 10) - 1)) 0)) _ hnext hexit _ _ _ (hP.sub [0, 1, 2, 3] rfl) (hD.sub [0, 1, 2, 3] (by decide) rfl) hS (lv_sub hl [2, 0, 4, 5, 6] rfl)
        · have hrun := oz_f hrun c11
          refine lv_aload_n hx hb dX12_pulledBy_149 rfl (lv_at hl 5 rfl) ?_
          refine va_get (D := (dC, dI)) (ci := 12) (v := .ref q_stands) (C := RX12) (T := TX12) (N := 25) hx hb hts hiX12 hown hK hP 0 rfl rfl 24 (by decide) hk51 (fun _ h9 => h9) rfl dX12_pulledBy_150 ?_
          refine lv_iload hx hb dX12_pulledBy_153 (lv_at hl 0 rfl) ?_
          refine lv_dup2_11 hx hb dX12_pulledBy_155 rfl rfl ?_
          obtain ⟨c13, hrun⟩ := oz_chk hrun
          refine va_iald hx hb hK hP 3 0 rfl rfl c13 dX12_pulledBy_156 ?_
          refine lv_aload_n hx hb dX12_pulledBy_157 rfl (lv_at hl 5 rfl) ?_
          refine va_get (D := (dC, dI)) (ci := 12) (v := .ref q_stands) (C := RX12) (T := TX12) (N := 25) hx hb hts hiX12 hown hK hP 0 rfl rfl 24 (by decide) hk51 (fun _ h9 => h9) rfl dX12_pulledBy_158 ?_
          refine lv_iload hx hb dX12_pulledBy_161 (lv_at hl 2 rfl) ?_
          obtain ⟨c14, hrun⟩ := oz_chk hrun
          refine va_iald hx hb hK hP 3 0 rfl rfl c14 dX12_pulledBy_163 ?_
          refine lv_iadd hx hb dX12_pulledBy_164 ?_
          refine va_iast hx hb hK hP hD hS 3 0 rfl rfl c13 dX12_pulledBy_165 (fun H locs hP hD hS => ?_)
          have hP : va_P (dC, dI) vwCl [(q_this, .inr (12, [.ref q_town, .ref q_read, .ref q_now, .ref q_aside, .ref q_past, .int v_undos, .ref q_images, .ref q_kept, .long v_seed, .ref q_text, .int v_size, .int v_fault, .ref q_sights, .int v_sightMany, .ref q_book, .int v_bookMany, .int v_at, .int v_begin, .int v_sign, .int v_figures, .int v_value, .int v_wrong, .ref q_went, .ref q_free, .ref q_stands])), (q_town, .inl (cI, 27, .inl v_town)), (q_now, .inl (cI, 19, .inl v_now)), (q_stands, .inl (cI, 8, .inl (upd w85.2.2.2 (Int32.toNatClampNeg o112) ((w85.2.2.2 (Int32.toNatClampNeg o112)) + (w85.2.2.2 (Int32.toNatClampNeg (((a1 / w85.2.1) - (a1 / w85.2.1) / 10 * 10) - 1)))))))] H := hP
          have hD : va_D A [(q_this, .inr (12, [.ref q_town, .ref q_read, .ref q_now, .ref q_aside, .ref q_past, .int v_undos, .ref q_images, .ref q_kept, .long v_seed, .ref q_text, .int v_size, .int v_fault, .ref q_sights, .int v_sightMany, .ref q_book, .int v_bookMany, .int v_at, .int v_begin, .int v_sign, .int v_figures, .int v_value, .int v_wrong, .ref q_went, .ref q_free, .ref q_stands])), (q_town, .inl (cI, 27, .inl v_town)), (q_now, .inl (cI, 19, .inl v_now)), (q_stands, .inl (cI, 8, .inl (upd w85.2.2.2 (Int32.toNatClampNeg o112) ((w85.2.2.2 (Int32.toNatClampNeg o112)) + (w85.2.2.2 (Int32.toNatClampNeg (((a1 / w85.2.1) - (a1 / w85.2.1) / 10 * 10) - 1)))))))] := hD
          refine lv_aload_n hx hb dX12_pulledBy_166 rfl (lv_at hl 5 rfl) ?_
          refine va_get (D := (dC, dI)) (ci := 12) (v := .ref q_stands) (C := RX12) (T := TX12) (N := 25) hx hb hts hiX12 hown hK hP 0 rfl rfl 24 (by decide) hk51 (fun _ h9 => h9) rfl dX12_pulledBy_167 ?_
          refine lv_iload hx hb dX12_pulledBy_170 (lv_at hl 0 rfl) ?_
          refine va_iald hx hb hK hP 3 0 rfl rfl c13 dX12_pulledBy_172 ?_
          refine lv_iload_n hx hb dX12_pulledBy_173 rfl (lv_at hl 4 rfl) ?_
          refine lv_icmp_le (tgt := 187) hx hb dX12_pulledBy_174 (by decide) (fun c15 => ?_) (fun c15 => ?_)
          · have hrun := oz_t hrun c15
            refine lv_iload_n hx hb dX12_pulledBy_187 rfl (lv_at hl 4 rfl) ?_
            refine lv_istore_n (lv' := [(2, .int w85.2.2.1), (6, .int o112), (4, .int (w85.1 ||| (1 <<< ((((a1 / w85.2.1) - (a1 / w85.2.1) / 10 * 10) - 1) &&& 31)))), (5, .int (((a1 / w85.2.1) - (a1 / w85.2.1) / 10 * 10) - 1)), (3, .int w85.2.1), (0, .ref q_this), (1, .int a1)]) hx hb dX12_pulledBy_188 rfl hl (by decide) rfl (fun ls hl => ?_)
            refine lv_aload_n hx hb dX12_pulledBy_189 rfl (lv_at hl 5 rfl) ?_
            refine va_get (D := (dC, dI)) (ci := 12) (v := .ref q_stands) (C := RX12) (T := TX12) (N := 25) hx hb hts hiX12 hown hK hP 0 rfl rfl 24 (by decide) hk51 (fun _ h9 => h9) rfl dX12_pulledBy_190 ?_
            refine lv_iload hx hb dX12_pulledBy_193 (lv_at hl 3 rfl) ?_
            refine lv_iconst (v := 0) hx hb dX12_pulledBy_195 (by decide) ?_
            refine va_iast hx hb hK hP hD hS 3 0 rfl rfl c14 dX12_pulledBy_196 (fun H locs hP hD hS => ?_)
            have hP : va_P (dC, dI) vwCl [(q_this, .inr (12, [.ref q_town, .ref q_read, .ref q_now, .ref q_aside, .ref q_past, .int v_undos, .ref q_images, .ref q_kept, .long v_seed, .ref q_text, .int v_size, .int v_fault, .ref q_sights, .int v_sightMany, .ref q_book, .int v_bookMany, .int v_at, .int v_begin, .int v_sign, .int v_figures, .int v_value, .int v_wrong, .ref q_went, .ref q_free, .ref q_stands])), (q_town, .inl (cI, 27, .inl v_town)), (q_now, .inl (cI, 19, .inl v_now)), (q_stands, .inl (cI, 8, .inl (upd (upd w85.2.2.2 (Int32.toNatClampNeg o112) ((w85.2.2.2 (Int32.toNatClampNeg o112)) + (w85.2.2.2 (Int32.toNatClampNeg (((a1 / w85.2.1) - (a1 / w85.2.1) / 10 * 10) - 1))))) (Int32.toNatClampNeg (((a1 / w85.2.1) - (a1 / w85.2.1) / 10 * 10) - 1)) 0)))] H := hP
            have hD : va_D A [(q_this, .inr (12, [.ref q_town, .ref q_read, .ref q_now, .ref q_aside, .ref q_past, .int v_undos, .ref q_images, .ref q_kept, .long v_seed, .ref q_text, .int v_size, .int v_fault, .ref q_sights, .int v_sightMany, .ref q_book, .int v_bookMany, .int v_at, .int v_begin, .int v_sign, .int v_figures, .int v_value, .int v_wrong, .ref q_went, .ref q_free, .ref q_stands])), (q_town, .inl (cI, 27, .inl v_town)), (q_now, .inl (cI, 19, .inl v_now)), (q_stands, .inl (cI, 8, .inl (upd (upd w85.2.2.2 (Int32.toNatClampNeg o112) ((w85.2.2.2 (Int32.toNatClampNeg o112)) + (w85.2.2.2 (Int32.toNatClampNeg (((a1 / w85.2.1) - (a1 / w85.2.1) / 10 * 10) - 1))))) (Int32.toNatClampNeg (((a1 / w85.2.1) - (a1 / w85.2.1) / 10 * 10) - 1)) 0)))] := hD
            refine lv_iload_n hx hb dX12_pulledBy_197 rfl (lv_at hl 4 rfl) ?_
            refine lv_bipush (v := 10) hx hb dX12_pulledBy_198 (by decide) ?_
            refine lv_idiv hx hb dX12_pulledBy_200 (by decide) ?_
            refine lv_istore_n (lv' := [(3, .int (w85.2.1 / 10)), (2, .int w85.2.2.1), (6, .int o112), (4, .int (w85.1 ||| (1 <<< ((((a1 / w85.2.1) - (a1 / w85.2.1) / 10 * 10) - 1) &&& 31)))), (5, .int (((a1 / w85.2.1) - (a1 / w85.2.1) / 10 * 10) - 1)), (0, .ref q_this), (1, .int a1)]) hx hb dX12_pulledBy_201 rfl hl (by decide) rfl (fun ls hl => ?_)
            refine lv_goto (tgt := 85) hx hb dX12_pulledBy_202 (by decide) ?_
            have hr9 := Option.some.inj hrun
            subst hr9
            exact ih ((w85.1 ||| (1 <<< ((((a1 / w85.2.1) - (a1 / w85.2.1) / 10 * 10) - 1) &&& 31))), (w85.2.1 / 10), w85.2.2.1, (upd (upd w85.2.2.2 (Int32.toNatClampNeg o112) ((w85.2.2.2 (Int32.toNatClampNeg o112)) + (w85.2.2.2 (Int32.toNatClampNeg (((a1 / w85.2.1) - (a1 / w85.2.1) / 10 * 10) - 1))))) (Int32.toNatClampNeg (((a1 / w85.2.1) - (a1 / w85.2.1) / 10 * 10) - 1)) 0)) _ hnext hexit _ _ _ (hP.sub [0, 1, 2, 3] rfl) (hD.sub [0, 1, 2, 3] (by decide) rfl) hS (lv_sub hl [3, 0, 1, 5, 6] rfl)
          · have hrun := oz_f hrun c15
            refine lv_aload_n hx hb dX12_pulledBy_177 rfl (lv_at hl 5 rfl) ?_
            refine va_get (D := (dC, dI)) (ci := 12) (v := .ref q_stands) (C := RX12) (T := TX12) (N := 25) hx hb hts hiX12 hown hK hP 0 rfl rfl 24 (by decide) hk51 (fun _ h9 => h9) rfl dX12_pulledBy_178 ?_
            refine lv_iload hx hb dX12_pulledBy_181 (lv_at hl 0 rfl) ?_
            refine va_iald hx hb hK hP 3 0 rfl rfl c13 dX12_pulledBy_183 ?_
            refine lv_goto (tgt := 188) hx hb dX12_pulledBy_184 (by decide) ?_
            refine lv_istore_n (lv' := [(2, .int ((upd w85.2.2.2 (Int32.toNatClampNeg o112) ((w85.2.2.2 (Int32.toNatClampNeg o112)) + (w85.2.2.2 (Int32.toNatClampNeg (((a1 / w85.2.1) - (a1 / w85.2.1) / 10 * 10) - 1))))) (Int32.toNatClampNeg o112))), (6, .int o112), (4, .int (w85.1 ||| (1 <<< ((((a1 / w85.2.1) - (a1 / w85.2.1) / 10 * 10) - 1) &&& 31)))), (5, .int (((a1 / w85.2.1) - (a1 / w85.2.1) / 10 * 10) - 1)), (3, .int w85.2.1), (0, .ref q_this), (1, .int a1)]) hx hb dX12_pulledBy_188 rfl hl (by decide) rfl (fun ls hl => ?_)
            refine lv_aload_n hx hb dX12_pulledBy_189 rfl (lv_at hl 5 rfl) ?_
            refine va_get (D := (dC, dI)) (ci := 12) (v := .ref q_stands) (C := RX12) (T := TX12) (N := 25) hx hb hts hiX12 hown hK hP 0 rfl rfl 24 (by decide) hk51 (fun _ h9 => h9) rfl dX12_pulledBy_190 ?_
            refine lv_iload hx hb dX12_pulledBy_193 (lv_at hl 3 rfl) ?_
            refine lv_iconst (v := 0) hx hb dX12_pulledBy_195 (by decide) ?_
            refine va_iast hx hb hK hP hD hS 3 0 rfl rfl c14 dX12_pulledBy_196 (fun H locs hP hD hS => ?_)
            have hP : va_P (dC, dI) vwCl [(q_this, .inr (12, [.ref q_town, .ref q_read, .ref q_now, .ref q_aside, .ref q_past, .int v_undos, .ref q_images, .ref q_kept, .long v_seed, .ref q_text, .int v_size, .int v_fault, .ref q_sights, .int v_sightMany, .ref q_book, .int v_bookMany, .int v_at, .int v_begin, .int v_sign, .int v_figures, .int v_value, .int v_wrong, .ref q_went, .ref q_free, .ref q_stands])), (q_town, .inl (cI, 27, .inl v_town)), (q_now, .inl (cI, 19, .inl v_now)), (q_stands, .inl (cI, 8, .inl (upd (upd w85.2.2.2 (Int32.toNatClampNeg o112) ((w85.2.2.2 (Int32.toNatClampNeg o112)) + (w85.2.2.2 (Int32.toNatClampNeg (((a1 / w85.2.1) - (a1 / w85.2.1) / 10 * 10) - 1))))) (Int32.toNatClampNeg (((a1 / w85.2.1) - (a1 / w85.2.1) / 10 * 10) - 1)) 0)))] H := hP
            have hD : va_D A [(q_this, .inr (12, [.ref q_town, .ref q_read, .ref q_now, .ref q_aside, .ref q_past, .int v_undos, .ref q_images, .ref q_kept, .long v_seed, .ref q_text, .int v_size, .int v_fault, .ref q_sights, .int v_sightMany, .ref q_book, .int v_bookMany, .int v_at, .int v_begin, .int v_sign, .int v_figures, .int v_value, .int v_wrong, .ref q_went, .ref q_free, .ref q_stands])), (q_town, .inl (cI, 27, .inl v_town)), (q_now, .inl (cI, 19, .inl v_now)), (q_stands, .inl (cI, 8, .inl (upd (upd w85.2.2.2 (Int32.toNatClampNeg o112) ((w85.2.2.2 (Int32.toNatClampNeg o112)) + (w85.2.2.2 (Int32.toNatClampNeg (((a1 / w85.2.1) - (a1 / w85.2.1) / 10 * 10) - 1))))) (Int32.toNatClampNeg (((a1 / w85.2.1) - (a1 / w85.2.1) / 10 * 10) - 1)) 0)))] := hD
            refine lv_iload_n hx hb dX12_pulledBy_197 rfl (lv_at hl 4 rfl) ?_
            refine lv_bipush (v := 10) hx hb dX12_pulledBy_198 (by decide) ?_
            refine lv_idiv hx hb dX12_pulledBy_200 (by decide) ?_
            refine lv_istore_n (lv' := [(3, .int (w85.2.1 / 10)), (2, .int ((upd w85.2.2.2 (Int32.toNatClampNeg o112) ((w85.2.2.2 (Int32.toNatClampNeg o112)) + (w85.2.2.2 (Int32.toNatClampNeg (((a1 / w85.2.1) - (a1 / w85.2.1) / 10 * 10) - 1))))) (Int32.toNatClampNeg o112))), (6, .int o112), (4, .int (w85.1 ||| (1 <<< ((((a1 / w85.2.1) - (a1 / w85.2.1) / 10 * 10) - 1) &&& 31)))), (5, .int (((a1 / w85.2.1) - (a1 / w85.2.1) / 10 * 10) - 1)), (0, .ref q_this), (1, .int a1)]) hx hb dX12_pulledBy_201 rfl hl (by decide) rfl (fun ls hl => ?_)
            refine lv_goto (tgt := 85) hx hb dX12_pulledBy_202 (by decide) ?_
            have hr9 := Option.some.inj hrun
            subst hr9
            exact ih ((w85.1 ||| (1 <<< ((((a1 / w85.2.1) - (a1 / w85.2.1) / 10 * 10) - 1) &&& 31))), (w85.2.1 / 10), ((upd w85.2.2.2 (Int32.toNatClampNeg o112) ((w85.2.2.2 (Int32.toNatClampNeg o112)) + (w85.2.2.2 (Int32.toNatClampNeg (((a1 / w85.2.1) - (a1 / w85.2.1) / 10 * 10) - 1))))) (Int32.toNatClampNeg o112)), (upd (upd w85.2.2.2 (Int32.toNatClampNeg o112) ((w85.2.2.2 (Int32.toNatClampNeg o112)) + (w85.2.2.2 (Int32.toNatClampNeg (((a1 / w85.2.1) - (a1 / w85.2.1) / 10 * 10) - 1))))) (Int32.toNatClampNeg (((a1 / w85.2.1) - (a1 / w85.2.1) / 10 * 10) - 1)) 0)) _ hnext hexit _ _ _ (hP.sub [0, 1, 2, 3] rfl) (hD.sub [0, 1, 2, 3] (by decide) rfl) hS (lv_sub hl [3, 0, 1, 5, 6] rfl)
  refine hL85 oz_fuel (0, o60.2, o4.2.1, o4.2.2) o85 hlp85 (fun H locs ls hP hD hS hl => ?_) _ _ _ (hP.sub [0, 1, 2, 3] rfl) (hD.sub [0, 1, 2, 3] (by decide) rfl) hS (lv_sub hl [0, 1, 2, 3, 4] rfl)
  have hP : va_P (dC, dI) vwCl [(q_this, .inr (12, [.ref q_town, .ref q_read, .ref q_now, .ref q_aside, .ref q_past, .int v_undos, .ref q_images, .ref q_kept, .long v_seed, .ref q_text, .int v_size, .int v_fault, .ref q_sights, .int v_sightMany, .ref q_book, .int v_bookMany, .int v_at, .int v_begin, .int v_sign, .int v_figures, .int v_value, .int v_wrong, .ref q_went, .ref q_free, .ref q_stands])), (q_town, .inl (cI, 27, .inl v_town)), (q_now, .inl (cI, 19, .inl v_now)), (q_stands, .inl (cI, 8, .inl o85.2.2.2))] H := hP
  have hD : va_D A [(q_this, .inr (12, [.ref q_town, .ref q_read, .ref q_now, .ref q_aside, .ref q_past, .int v_undos, .ref q_images, .ref q_kept, .long v_seed, .ref q_text, .int v_size, .int v_fault, .ref q_sights, .int v_sightMany, .ref q_book, .int v_bookMany, .int v_at, .int v_begin, .int v_sign, .int v_figures, .int v_value, .int v_wrong, .ref q_went, .ref q_free, .ref q_stands])), (q_town, .inl (cI, 27, .inl v_town)), (q_now, .inl (cI, 19, .inl v_now)), (q_stands, .inl (cI, 8, .inl o85.2.2.2))] := hD
  have hl : lv_has ls 7 [(4, .int o85.1), (3, .int o85.2.1), (2, .int o85.2.2.1), (0, .ref q_this), (1, .int a1)] := hl
  refine lv_iload_n hx hb dX12_pulledBy_205 rfl (lv_at hl 2 rfl) ?_
  have ho9 := Option.some.inj hrun
  subst ho9
  have hP9 := hP.sub (ws' := [(q_this, .inr (12, [.ref q_town, .ref q_read, .ref q_now, .ref q_aside, .ref q_past, .int v_undos, .ref q_images, .ref q_kept, .long v_seed, .ref q_text, .int v_size, .int v_fault, .ref q_sights, .int v_sightMany, .ref q_book, .int v_bookMany, .int v_at, .int v_begin, .int v_sign, .int v_figures, .int v_value, .int v_wrong, .ref q_went, .ref q_free, .ref q_stands])), (q_town, .inl (cI, 27, .inl v_town)), (q_now, .inl (cI, 19, .inl v_now)), (q_stands, .inl (cI, 8, .inl o85.2.2.2))]) [0, 1, 2, 3] rfl
  have hD9 := hD.sub (ws' := [(q_this, .inr (12, [.ref q_town, .ref q_read, .ref q_now, .ref q_aside, .ref q_past, .int v_undos, .ref q_images, .ref q_kept, .long v_seed, .ref q_text, .int v_size, .int v_fault, .ref q_sights, .int v_sightMany, .ref q_book, .int v_bookMany, .int v_at, .int v_begin, .int v_sign, .int v_figures, .int v_value, .int v_wrong, .ref q_went, .ref q_free, .ref q_stands])), (q_town, .inl (cI, 27, .inl v_town)), (q_now, .inl (cI, 19, .inl v_now)), (q_stands, .inl (cI, 8, .inl o85.2.2.2))]) [0, 1, 2, 3] (by decide) rfl
  rw [hQ]
  exact W.iret (v := o85.2.2.1) hx hb hr (fun t ht hW => ⟨⟨o85.2.2.1, (), rfl, rfl, by rw [ht]; exact hP9, va_K.moved hW.alike hK, hD9⟩, hS.F ht⟩) hS.2.2 dX12_pulledBy_206
def fX12_pulled (v_town : Nat → Int32) (v_now : Nat → Int32) (v_stands : Nat → Int32) (a1 : Int32) : Option (Int32 × (Nat → Int32)) :=
  Option.bind (fX12_isOrder v_town a1) (fun y2 => if y2 = 0 then (some ((-1000000002), v_stands)) else (Option.bind (fX12_pulledBy v_town v_now v_stands a1) (fun y10 => some (y10.1, y10.2))))
def rmX12_pulled : Room := { frames := 3, cells := 0, slots := 0, locals := 71 }
set_option maxHeartbeats 4000000 in
set_option maxRecDepth 100000 in
theorem tX12_pulled (l : Launch) (dC : Nat → ClassId) (dI : Nat → Nat → Nat) (cI cZ : ClassId) (q_aside q_book q_free q_images q_kept q_now q_past q_read q_sights q_stands q_text q_this q_town q_went : Nat) (sz : Nat) (v_undos : Int32) (v_seed : Int64) (v_size : Int32) (v_fault : Int32) (v_sightMany : Int32) (v_bookMany : Int32) (v_at : Int32) (v_begin : Int32) (v_sign : Int32) (v_figures : Int32) (v_value : Int32) (v_wrong : Int32) (v_town : Nat → Int32) (v_now : Nat → Int32) (v_stands : Nat → Int32) (a1 : Int32) (out : Int32 × (Nat → Int32)) (hrun : fX12_pulled v_town v_now v_stands a1 = some out) : Met l yX12_pulled wsX12_pulled rmX12_pulled (va_Pc [.ref q_this, .int a1] (fun U => U.heap.size = sz ∧ va_P (dC, dI) vwCl [(q_this, .inr (12, [.ref q_town, .ref q_read, .ref q_now, .ref q_aside, .ref q_past, .int v_undos, .ref q_images, .ref q_kept, .long v_seed, .ref q_text, .int v_size, .int v_fault, .ref q_sights, .int v_sightMany, .ref q_book, .int v_bookMany, .int v_at, .int v_begin, .int v_sign, .int v_figures, .int v_value, .int v_wrong, .ref q_went, .ref q_free, .ref q_stands])), (q_town, .inl (cI, 27, .inl v_town)), (q_now, .inl (cI, 19, .inl v_now)), (q_stands, .inl (cI, 8, .inl v_stands))] U.heap ∧ va_K (dC, dI) vwCl [(cI, .int), (cZ, .boolean)] U ∧ va_D (fun _ => True) [(q_this, .inr (12, [.ref q_town, .ref q_read, .ref q_now, .ref q_aside, .ref q_past, .int v_undos, .ref q_images, .ref q_kept, .long v_seed, .ref q_text, .int v_size, .int v_fault, .ref q_sights, .int v_sightMany, .ref q_book, .int v_bookMany, .int v_at, .int v_begin, .int v_sign, .int v_figures, .int v_value, .int v_wrong, .ref q_went, .ref q_free, .ref q_stands])), (q_town, .inl (cI, 27, .inl v_town)), (q_now, .inl (cI, 19, .inl v_now)), (q_stands, .inl (cI, 8, .inl v_stands))])) (va_Qi (fun (r : Int32) (_ : Unit) => r = out.1) (fun _ t => va_P (dC, dI) vwCl [(q_this, .inr (12, [.ref q_town, .ref q_read, .ref q_now, .ref q_aside, .ref q_past, .int v_undos, .ref q_images, .ref q_kept, .long v_seed, .ref q_text, .int v_size, .int v_fault, .ref q_sights, .int v_sightMany, .ref q_book, .int v_bookMany, .int v_at, .int v_begin, .int v_sign, .int v_figures, .int v_value, .int v_wrong, .ref q_went, .ref q_free, .ref q_stands])), (q_town, .inl (cI, 27, .inl v_town)), (q_now, .inl (cI, 19, .inl v_now)), (q_stands, .inl (cI, 8, .inl out.2))] t.heap ∧ va_K (dC, dI) vwCl [(cI, .int), (cZ, .boolean)] t ∧ va_D (va_A [(q_this, .inr (12, [.ref q_town, .ref q_read, .ref q_now, .ref q_aside, .ref q_past, .int v_undos, .ref q_images, .ref q_kept, .long v_seed, .ref q_text, .int v_size, .int v_fault, .ref q_sights, .int v_sightMany, .ref q_book, .int v_bookMany, .int v_at, .int v_begin, .int v_sign, .int v_figures, .int v_value, .int v_wrong, .ref q_went, .ref q_free, .ref q_stands])), (q_town, .inl (cI, 27, .inl v_town)), (q_now, .inl (cI, 19, .inl v_now)), (q_stands, .inl (cI, 8, .inl v_stands))] sz) [(q_this, .inr (12, [.ref q_town, .ref q_read, .ref q_now, .ref q_aside, .ref q_past, .int v_undos, .ref q_images, .ref q_kept, .long v_seed, .ref q_text, .int v_size, .int v_fault, .ref q_sights, .int v_sightMany, .ref q_book, .int v_bookMany, .int v_at, .int v_begin, .int v_sign, .int v_figures, .int v_value, .int v_wrong, .ref q_went, .ref q_free, .ref q_stands])), (q_town, .inl (cI, 27, .inl v_town)), (q_now, .inl (cI, 19, .inl v_now)), (q_stands, .inl (cI, 8, .inl out.2))]) (va_A [(q_this, .inr (12, [.ref q_town, .ref q_read, .ref q_now, .ref q_aside, .ref q_past, .int v_undos, .ref q_images, .ref q_kept, .long v_seed, .ref q_text, .int v_size, .int v_fault, .ref q_sights, .int v_sightMany, .ref q_book, .int v_bookMany, .int v_at, .int v_begin, .int v_sign, .int v_figures, .int v_value, .int v_wrong, .ref q_went, .ref q_free, .ref q_stands])), (q_town, .inl (cI, 27, .inl v_town)), (q_now, .inl (cI, 19, .inl v_now)), (q_stands, .inl (cI, 8, .inl v_stands))] sz)) 0 0 (va_A [(q_this, .inr (12, [.ref q_town, .ref q_read, .ref q_now, .ref q_aside, .ref q_past, .int v_undos, .ref q_images, .ref q_kept, .long v_seed, .ref q_text, .int v_size, .int v_fault, .ref q_sights, .int v_sightMany, .ref q_book, .int v_bookMany, .int v_at, .int v_begin, .int v_sign, .int v_figures, .int v_value, .int v_wrong, .ref q_went, .ref q_free, .ref q_stands])), (q_town, .inl (cI, 27, .inl v_town)), (q_now, .inl (cI, 19, .inl v_now)), (q_stands, .inl (cI, 8, .inl v_stands))] sz) := by
  refine Met.ofW (cc := cX12_pulled) (maxL := 2) (ret := (some .int)) (by decide) rfl ?_
  intro p e s m args below meth c s₁ B hml hv
  obtain ⟨rfl, hsz, hP, hK, hD0⟩ := hv
  have hx := B.exec
  have hb := B.bytes
  have hr := B.returns
  have hts := atoms_spec (ws := wsX12_pulled) B.pre
  have hown : s.vm.findClass RX12 = some m.cls := findClass_of_methodNamed B.named
  have hlocks := B.notSynchronized
  subst hsz
  have hD := hD0.self (sz := s.heap.size)
  generalize hAe : va_A [(q_this, .inr (12, [.ref q_town, .ref q_read, .ref q_now, .ref q_aside, .ref q_past, .int v_undos, .ref q_images, .ref q_kept, .long v_seed, .ref q_text, .int v_size, .int v_fault, .ref q_sights, .int v_sightMany, .ref q_book, .int v_bookMany, .int v_at, .int v_begin, .int v_sign, .int v_figures, .int v_value, .int v_wrong, .ref q_went, .ref q_free, .ref q_stands])), (q_town, .inl (cI, 27, .inl v_town)), (q_now, .inl (cI, 19, .inl v_now)), (q_stands, .inl (cI, 8, .inl v_stands))] s.heap.size = A at hD ⊢
  have hA : ∀ q : Nat, s.heap.size ≤ q → A q := fun q h => by rw [← hAe]; exact Or.inr h
  have hS : va_S A s.heap s.heap [] := va_S.rf
  have hl := lv_entry ([.ref q_this, .int a1]) (n := 2) (Nat.le_of_ble_eq_true rfl)
  rw [lg_entry_eq]
  generalize (lg_sl ([.ref q_this, .int a1]) ++ List.replicate (2 - (lg_sl ([.ref q_this, .int a1])).length) Slot.unset).toArray = ls at hl ⊢
  have hl : lv_has ls 2 [(0, .ref q_this), (1, .int a1)] := hl
  unfold fX12_pulled at hrun
  have hk69 := hts (.constant RX12 69 (-1000000002)) (by decide +kernel)
  refine oz_genQ (fun Q hQ => ?_)
  refine lv_aload_n hx hb dX12_pulled_0 rfl (lv_at hl 0 rfl) ?_
  refine lv_iload_n hx hb dX12_pulled_1 rfl (lv_at hl 1 rfl) ?_
  obtain ⟨y2, hc2, hrun⟩ := oz_bind hrun
  have hPc := hP.sub (ws' := [(q_this, .inr (12, [.ref q_town, .ref q_read, .ref q_now, .ref q_aside, .ref q_past, .int v_undos, .ref q_images, .ref q_kept, .long v_seed, .ref q_text, .int v_size, .int v_fault, .ref q_sights, .int v_sightMany, .ref q_book, .int v_bookMany, .int v_at, .int v_begin, .int v_sign, .int v_figures, .int v_value, .int v_wrong, .ref q_went, .ref q_free, .ref q_stands])), (q_town, .inl (cI, 27, .inl v_town))]) [0, 1] rfl
  have hDc := hD.sub (ws' := [(q_this, .inr (12, [.ref q_town, .ref q_read, .ref q_now, .ref q_aside, .ref q_past, .int v_undos, .ref q_images, .ref q_kept, .long v_seed, .ref q_text, .int v_size, .int v_fault, .ref q_sights, .int v_sightMany, .ref q_book, .int v_bookMany, .int v_at, .int v_begin, .int v_sign, .int v_figures, .int v_value, .int v_wrong, .ref q_went, .ref q_free, .ref q_stands])), (q_town, .inl (cI, 27, .inl v_town))]) [0, 1] (by decide) rfl
  have hFc := va_free (wc := [(q_this, .inr (12, [.ref q_town, .ref q_read, .ref q_now, .ref q_aside, .ref q_past, .int v_undos, .ref q_images, .ref q_kept, .long v_seed, .ref q_text, .int v_size, .int v_fault, .ref q_sights, .int v_sightMany, .ref q_book, .int v_bookMany, .int v_at, .int v_begin, .int v_sign, .int v_figures, .int v_value, .int v_wrong, .ref q_went, .ref q_free, .ref q_stands])), (q_town, .inl (cI, 27, .inl v_town))]) hD hS hA [0, 1] rfl
  refine va_calli (va_runV (As := [.int a1]) (rest := []) ⟨hx, hb, hml, hown, hts⟩ (tX12_isOrder l dC dI cI cZ q_aside q_book q_free q_images q_kept q_now q_past q_read q_sights q_stands q_text q_this q_town q_went s.heap.size v_undos v_seed v_size v_fault v_sightMany v_bookMany v_at v_begin v_sign v_figures v_value v_wrong v_town a1 y2 hc2) (cwV 1 hts gX12_pulled_X12_isOrder rfl rfl rfl (by decide +kernel) ⟨Nat.le_of_ble_eq_true rfl, Nat.le_of_ble_eq_true rfl⟩) ⟨fun a U g mk q => by obtain ⟨q0, q1, qP, qK, qD⟩ := q; exact ⟨q0, q1, qP, va_K.moved (u := U) (U := U.calling g mk a) (Vm.Alike.refl U.vm) qK, qD⟩, va_recv hK hPc (ci := 12) (q0 := 0) rfl rfl, fun U hU hW => ⟨rfl, by rw [hU], by rw [hU]; exact hPc, va_K.moved hW.alike hK, hDc.weaken (fun _ _ _ _ => trivial)⟩⟩ rfl rfl hl.1 rfl (lv_room (Nat.le_of_ble_eq_true rfl)) dX12_pulled_2 ⟨Nat.le_of_ble_eq_true rfl, Nat.le_of_ble_eq_true rfl⟩) hS (fun q _ h => hFc q h) hFc (fun r2 u9 t9 H1 locs ht9 hvm9 hw9 hB9 hz9 hkk9 hS => ?_)
  have hw9 : y2 = r2 := hw9.symm
  subst hw9
  obtain ⟨hP9, hK9, hD9⟩ := hB9
  rw [ht9] at hP9
  obtain ⟨hP, hD⟩ := va_join (wr := [(q_now, .inl (cI, 19, .inl v_now)), (q_stands, .inl (cI, 8, .inl v_stands))]) (w1 := [(q_this, .inr (12, [.ref q_town, .ref q_read, .ref q_now, .ref q_aside, .ref q_past, .int v_undos, .ref q_images, .ref q_kept, .long v_seed, .ref q_text, .int v_size, .int v_fault, .ref q_sights, .int v_sightMany, .ref q_book, .int v_bookMany, .int v_at, .int v_begin, .int v_sign, .int v_figures, .int v_value, .int v_wrong, .ref q_went, .ref q_free, .ref q_stands])), (q_town, .inl (cI, 27, .inl v_town))]) hP hD [0, 1] [2, 3] rfl rfl (by decide) (by decide) hkk9 hFc hP9 hD9
  generalize H1 = H at hP hS ⊢
  have hP : va_P (dC, dI) vwCl [(q_now, .inl (cI, 19, .inl v_now)), (q_stands, .inl (cI, 8, .inl v_stands)), (q_this, .inr (12, [.ref q_town, .ref q_read, .ref q_now, .ref q_aside, .ref q_past, .int v_undos, .ref q_images, .ref q_kept, .long v_seed, .ref q_text, .int v_size, .int v_fault, .ref q_sights, .int v_sightMany, .ref q_book, .int v_bookMany, .int v_at, .int v_begin, .int v_sign, .int v_figures, .int v_value, .int v_wrong, .ref q_went, .ref q_free, .ref q_stands])), (q_town, .inl (cI, 27, .inl v_town))] H := hP
  have hD : va_D A [(q_now, .inl (cI, 19, .inl v_now)), (q_stands, .inl (cI, 8, .inl v_stands)), (q_this, .inr (12, [.ref q_town, .ref q_read, .ref q_now, .ref q_aside, .ref q_past, .int v_undos, .ref q_images, .ref q_kept, .long v_seed, .ref q_text, .int v_size, .int v_fault, .ref q_sights, .int v_sightMany, .ref q_book, .int v_bookMany, .int v_at, .int v_begin, .int v_sign, .int v_figures, .int v_value, .int v_wrong, .ref q_went, .ref q_free, .ref q_stands])), (q_town, .inl (cI, 27, .inl v_town))] := hD
  refine lv_if_eq (tgt := 16) hx hb dX12_pulled_5 (by decide) (fun c1 => ?_) (fun c1 => ?_)
  · have hrun := oz_t hrun c1
    refine lv_ldc hx hb hown hk69 dX12_pulled_16 ?_
    have ho9 := Option.some.inj hrun
    subst ho9
    have hP9 := hP.sub (ws' := [(q_this, .inr (12, [.ref q_town, .ref q_read, .ref q_now, .ref q_aside, .ref q_past, .int v_undos, .ref q_images, .ref q_kept, .long v_seed, .ref q_text, .int v_size, .int v_fault, .ref q_sights, .int v_sightMany, .ref q_book, .int v_bookMany, .int v_at, .int v_begin, .int v_sign, .int v_figures, .int v_value, .int v_wrong, .ref q_went, .ref q_free, .ref q_stands])), (q_town, .inl (cI, 27, .inl v_town)), (q_now, .inl (cI, 19, .inl v_now)), (q_stands, .inl (cI, 8, .inl v_stands))]) [2, 3, 0, 1] rfl
    have hD9 := hD.sub (ws' := [(q_this, .inr (12, [.ref q_town, .ref q_read, .ref q_now, .ref q_aside, .ref q_past, .int v_undos, .ref q_images, .ref q_kept, .long v_seed, .ref q_text, .int v_size, .int v_fault, .ref q_sights, .int v_sightMany, .ref q_book, .int v_bookMany, .int v_at, .int v_begin, .int v_sign, .int v_figures, .int v_value, .int v_wrong, .ref q_went, .ref q_free, .ref q_stands])), (q_town, .inl (cI, 27, .inl v_town)), (q_now, .inl (cI, 19, .inl v_now)), (q_stands, .inl (cI, 8, .inl v_stands))]) [2, 3, 0, 1] (by decide) rfl
    rw [hQ]
    exact W.iret (v := (-1000000002)) hx hb hr (fun t ht hW => ⟨⟨(-1000000002), (), rfl, rfl, by rw [ht]; exact hP9, va_K.moved hW.alike hK, hD9⟩, hS.F ht⟩) hS.2.2 dX12_pulled_18
  · have hrun := oz_f hrun c1
    refine lv_aload_n hx hb dX12_pulled_8 rfl (lv_at hl 0 rfl) ?_
    refine lv_iload_n hx hb dX12_pulled_9 rfl (lv_at hl 1 rfl) ?_
    obtain ⟨y10, hc10, hrun⟩ := oz_bind hrun
    have hPc := hP.sub (ws' := [(q_this, .inr (12, [.ref q_town, .ref q_read, .ref q_now, .ref q_aside, .ref q_past, .int v_undos, .ref q_images, .ref q_kept, .long v_seed, .ref q_text, .int v_size, .int v_fault, .ref q_sights, .int v_sightMany, .ref q_book, .int v_bookMany, .int v_at, .int v_begin, .int v_sign, .int v_figures, .int v_value, .int v_wrong, .ref q_went, .ref q_free, .ref q_stands])), (q_town, .inl (cI, 27, .inl v_town)), (q_now, .inl (cI, 19, .inl v_now)), (q_stands, .inl (cI, 8, .inl v_stands))]) [2, 3, 0, 1] rfl
    have hDc := hD.sub (ws' := [(q_this, .inr (12, [.ref q_town, .ref q_read, .ref q_now, .ref q_aside, .ref q_past, .int v_undos, .ref q_images, .ref q_kept, .long v_seed, .ref q_text, .int v_size, .int v_fault, .ref q_sights, .int v_sightMany, .ref q_book, .int v_bookMany, .int v_at, .int v_begin, .int v_sign, .int v_figures, .int v_value, .int v_wrong, .ref q_went, .ref q_free, .ref q_stands])), (q_town, .inl (cI, 27, .inl v_town)), (q_now, .inl (cI, 19, .inl v_now)), (q_stands, .inl (cI, 8, .inl v_stands))]) [2, 3, 0, 1] (by decide) rfl
    have hFc := va_free (wc := [(q_this, .inr (12, [.ref q_town, .ref q_read, .ref q_now, .ref q_aside, .ref q_past, .int v_undos, .ref q_images, .ref q_kept, .long v_seed, .ref q_text, .int v_size, .int v_fault, .ref q_sights, .int v_sightMany, .ref q_book, .int v_bookMany, .int v_at, .int v_begin, .int v_sign, .int v_figures, .int v_value, .int v_wrong, .ref q_went, .ref q_free, .ref q_stands])), (q_town, .inl (cI, 27, .inl v_town)), (q_now, .inl (cI, 19, .inl v_now)), (q_stands, .inl (cI, 8, .inl v_stands))]) hD hS hA [2, 3, 0, 1] rfl
    refine va_calli (va_runV (As := [.int a1]) (rest := []) ⟨hx, hb, hml, hown, hts⟩ (tX12_pulledBy l dC dI cI cZ q_aside q_book q_free q_images q_kept q_now q_past q_read q_sights q_stands q_text q_this q_town q_went H.size v_undos v_seed v_size v_fault v_sightMany v_bookMany v_at v_begin v_sign v_figures v_value v_wrong v_town v_now v_stands a1 y10 hc10) (cwV 1 hts gX12_pulled_X12_pulledBy rfl rfl rfl (by decide +kernel) ⟨Nat.le_of_ble_eq_true rfl, Nat.le_of_ble_eq_true rfl⟩) ⟨fun a U g mk q => by obtain ⟨q0, q1, qP, qK, qD⟩ := q; exact ⟨q0, q1, qP, va_K.moved (u := U) (U := U.calling g mk a) (Vm.Alike.refl U.vm) qK, qD⟩, va_recv hK hPc (ci := 12) (q0 := 0) rfl rfl, fun U hU hW => ⟨rfl, by rw [hU], by rw [hU]; exact hPc, va_K.moved hW.alike hK, hDc.weaken (fun _ _ _ _ => trivial)⟩⟩ rfl rfl hl.1 rfl (lv_room (Nat.le_of_ble_eq_true rfl)) dX12_pulled_10 ⟨Nat.le_of_ble_eq_true rfl, Nat.le_of_ble_eq_true rfl⟩) hS (fun q _ h => hFc q h) hFc (fun r10 u9 t9 H1 locs ht9 hvm9 hw9 hB9 hz9 hkk9 hS => ?_)
    have hw9 : y10.1 = r10 := hw9.symm
    subst hw9
    obtain ⟨hP9, hK9, hD9⟩ := hB9
    rw [ht9] at hP9
    obtain ⟨hP, hD⟩ := va_join (wr := []) (w1 := [(q_this, .inr (12, [.ref q_town, .ref q_read, .ref q_now, .ref q_aside, .ref q_past, .int v_undos, .ref q_images, .ref q_kept, .long v_seed, .ref q_text, .int v_size, .int v_fault, .ref q_sights, .int v_sightMany, .ref q_book, .int v_bookMany, .int v_at, .int v_begin, .int v_sign, .int v_figures, .int v_value, .int v_wrong, .ref q_went, .ref q_free, .ref q_stands])), (q_town, .inl (cI, 27, .inl v_town)), (q_now, .inl (cI, 19, .inl v_now)), (q_stands, .inl (cI, 8, .inl y10.2))]) hP hD [2, 3, 0, 1] [] rfl rfl (by decide) (by decide) hkk9 hFc hP9 hD9
    generalize H1 = H at hP hS ⊢
    have hP : va_P (dC, dI) vwCl [(q_this, .inr (12, [.ref q_town, .ref q_read, .ref q_now, .ref q_aside, .ref q_past, .int v_undos, .ref q_images, .ref q_kept, .long v_seed, .ref q_text, .int v_size, .int v_fault, .ref q_sights, .int v_sightMany, .ref q_book, .int v_bookMany, .int v_at, .int v_begin, .int v_sign, .int v_figures, .int v_value, .int v_wrong, .ref q_went, .ref q_free, .ref q_stands])), (q_town, .inl (cI, 27, .inl v_town)), (q_now, .inl (cI, 19, .inl v_now)), (q_stands, .inl (cI, 8, .inl y10.2))] H := hP
    have hD : va_D A [(q_this, .inr (12, [.ref q_town, .ref q_read, .ref q_now, .ref q_aside, .ref q_past, .int v_undos, .ref q_images, .ref q_kept, .long v_seed, .ref q_text, .int v_size, .int v_fault, .ref q_sights, .int v_sightMany, .ref q_book, .int v_bookMany, .int v_at, .int v_begin, .int v_sign, .int v_figures, .int v_value, .int v_wrong, .ref q_went, .ref q_free, .ref q_stands])), (q_town, .inl (cI, 27, .inl v_town)), (q_now, .inl (cI, 19, .inl v_now)), (q_stands, .inl (cI, 8, .inl y10.2))] := hD
    refine lv_goto (tgt := 18) hx hb dX12_pulled_13 (by decide) ?_
    have ho9 := Option.some.inj hrun
    subst ho9
    have hP9 := hP.sub (ws' := [(q_this, .inr (12, [.ref q_town, .ref q_read, .ref q_now, .ref q_aside, .ref q_past, .int v_undos, .ref q_images, .ref q_kept, .long v_seed, .ref q_text, .int v_size, .int v_fault, .ref q_sights, .int v_sightMany, .ref q_book, .int v_bookMany, .int v_at, .int v_begin, .int v_sign, .int v_figures, .int v_value, .int v_wrong, .ref q_went, .ref q_free, .ref q_stands])), (q_town, .inl (cI, 27, .inl v_town)), (q_now, .inl (cI, 19, .inl v_now)), (q_stands, .inl (cI, 8, .inl y10.2))]) [0, 1, 2, 3] rfl
    have hD9 := hD.sub (ws' := [(q_this, .inr (12, [.ref q_town, .ref q_read, .ref q_now, .ref q_aside, .ref q_past, .int v_undos, .ref q_images, .ref q_kept, .long v_seed, .ref q_text, .int v_size, .int v_fault, .ref q_sights, .int v_sightMany, .ref q_book, .int v_bookMany, .int v_at, .int v_begin, .int v_sign, .int v_figures, .int v_value, .int v_wrong, .ref q_went, .ref q_free, .ref q_stands])), (q_town, .inl (cI, 27, .inl v_town)), (q_now, .inl (cI, 19, .inl v_now)), (q_stands, .inl (cI, 8, .inl y10.2))]) [0, 1, 2, 3] (by decide) rfl
    rw [hQ]
    exact W.iret (v := y10.1) hx hb hr (fun t ht hW => ⟨⟨y10.1, (), rfl, rfl, by rw [ht]; exact hP9, va_K.moved hW.alike hK, hD9⟩, hS.F ht⟩) hS.2.2 dX12_pulled_18
