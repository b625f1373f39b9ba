def fX12_write (v_bookMany : Int32) (v_town : Nat → Int32) (v_book : Nat → Int32) (a1 : Int32) (a2 : Int32) : Option (Int32 × Int32 × (Nat → Int32)) :=
  Option.bind (fX12_isHouse v_town a1) (fun y2 => if y2 = 0 then (some ((-1000000001), v_bookMany, v_book)) else (Option.bind (fX12_in (Int32.toInt64 a2) (0 : Int64) (999 : Int64)) (fun y17 => if y17 = 0 then (some ((-1000000002), v_bookMany, v_book)) else (if v_bookMany = 20 then (some ((-1000000004), v_bookMany, v_book)) else (if ((2 * v_bookMany) < 0 ∨ 40 ≤ Int32.toNatClampNeg (2 * v_bookMany)) then none else if (((2 * v_bookMany) + 1) < 0 ∨ 40 ≤ Int32.toNatClampNeg ((2 * v_bookMany) + 1)) then none else some ((v_bookMany + 1), (v_bookMany + 1), (upd (upd v_book (Int32.toNatClampNeg (2 * v_bookMany)) a1) (Int32.toNatClampNeg ((2 * v_bookMany) + 1)) a2)))))))
def rmX12_write : Room := { frames := 2, cells := 0, slots := 0, locals := 46 }
set_option maxHeartbeats 4000000 in
set_option maxRecDepth 100000 in
theorem tX12_write (l : Launch) (dC : Nat → ClassId) (dI : Nat → Nat → Nat) (cI cZ : ClassId) (q_aside q_book q_free q_images q_kept q_now q_past q_read q_sights q_stands q_text q_this q_town q_went : Nat) (sz : Nat) (v_undos : Int32) (v_seed : Int64) (v_size : Int32) (v_fault : Int32) (v_sightMany : Int32) (v_at : Int32) (v_begin : Int32) (v_sign : Int32) (v_figures : Int32) (v_value : Int32) (v_wrong : Int32) (v_bookMany : Int32) (v_town : Nat → Int32) (v_book : Nat → Int32) (a1 : Int32) (a2 : Int32) (out : Int32 × Int32 × (Nat → Int32)) (hrun : fX12_write v_bookMany v_town v_book a1 a2 = some out) : Met l yX12_write wsX12_write rmX12_write (va_Pc [.ref q_this, .int a1, .int a2] (fun U => U.heap.size = sz ∧ va_P (dC, dI) vwCl [(q_this, .inr (12, [.ref q_town, .ref q_read, .ref q_now, .ref q_aside, .ref q_past, .int v_undos, .ref q_images, .ref q_kept, .long v_seed, .ref q_text, .int v_size, .int v_fault, .ref q_sights, .int v_sightMany, .ref q_book, .int v_bookMany, .int v_at, .int v_begin, .int v_sign, .int v_figures, .int v_value, .int v_wrong, .ref q_went, .ref q_free, .ref q_stands])), (q_town, .inl (cI, 27, .inl v_town)), (q_book, .inl (cI, 40, .inl v_book))] U.heap ∧ va_K (dC, dI) vwCl [(cI, .int), (cZ, .boolean)] U ∧ va_D (fun _ => True) [(q_this, .inr (12, [.ref q_town, .ref q_read, .ref q_now, .ref q_aside, .ref q_past, .int v_undos, .ref q_images, .ref q_kept, .long v_seed, .ref q_text, .int v_size, .int v_fault, .ref q_sights, .int v_sightMany, .ref q_book, .int v_bookMany, .int v_at, .int v_begin, .int v_sign, .int v_figures, .int v_value, .int v_wrong, .ref q_went, .ref q_free, .ref q_stands])), (q_town, .inl (cI, 27, .inl v_town)), (q_book, .inl (cI, 40, .inl v_book))])) (va_Qi (fun (r : Int32) (_ : Unit) => r = out.1) (fun _ t => va_P (dC, dI) vwCl [(q_this, .inr (12, [.ref q_town, .ref q_read, .ref q_now, .ref q_aside, .ref q_past, .int v_undos, .ref q_images, .ref q_kept, .long v_seed, .ref q_text, .int v_size, .int v_fault, .ref q_sights, .int v_sightMany, .ref q_book, .int out.2.1, .int v_at, .int v_begin, .int v_sign, .int v_figures, .int v_value, .int v_wrong, .ref q_went, .ref q_free, .ref q_stands])), (q_town, .inl (cI, 27, .inl v_town)), (q_book, .inl (cI, 40, .inl out.2.2))] t.heap ∧ va_K (dC, dI) vwCl [(cI, .int), (cZ, .boolean)] t ∧ va_D (va_A [(q_this, .inr (12, [.ref q_town, .ref q_read, .ref q_now, .ref q_aside, .ref q_past, .int v_undos, .ref q_images, .ref q_kept, .long v_seed, .ref q_text, .int v_size, .int v_fault, .ref q_sights, .int v_sightMany, .ref q_book, .int v_bookMany, .int v_at, .int v_begin, .int v_sign, .int v_figures, .int v_value, .int v_wrong, .ref q_went, .ref q_free, .ref q_stands])), (q_town, .inl (cI, 27, .inl v_town)), (q_book, .inl (cI, 40, .inl v_book))] sz) [(q_this, .inr (12, [.ref q_town, .ref q_read, .ref q_now, .ref q_aside, .ref q_past, .int v_undos, .ref q_images, .ref q_kept, .long v_seed, .ref q_text, .int v_size, .int v_fault, .ref q_sights, .int v_sightMany, .ref q_book, .int out.2.1, .int v_at, .int v_begin, .int v_sign, .int v_figures, .int v_value, .int v_wrong, .ref q_went, .ref q_free, .ref q_stands])), (q_town, .inl (cI, 27, .inl v_town)), (q_book, .inl (cI, 40, .inl out.2.2))]) (va_A [(q_this, .inr (12, [.ref q_town, .ref q_read, .ref q_now, .ref q_aside, .ref q_past, .int v_undos, .ref q_images, .ref q_kept, .long v_seed, .ref q_text, .int v_size, .int v_fault, .ref q_sights, .int v_sightMany, .ref q_book, .int v_bookMany, .int v_at, .int v_begin, .int v_sign, .int v_figures, .int v_value, .int v_wrong, .ref q_went, .ref q_free, .ref q_stands])), (q_town, .inl (cI, 27, .inl v_town)), (q_book, .inl (cI, 40, .inl v_book))] sz)) 0 0 (va_A [(q_this, .inr (12, [.ref q_town, .ref q_read, .ref q_now, .ref q_aside, .ref q_past, .int v_undos, .ref q_images, .ref q_kept, .long v_seed, .ref q_text, .int v_size, .int v_fault, .ref q_sights, .int v_sightMany, .ref q_book, .int v_bookMany, .int v_at, .int v_begin, .int v_sign, .int v_figures, .int v_value, .int v_wrong, .ref q_went, .ref q_free, .ref q_stands])), (q_town, .inl (cI, 27, .inl v_town)), (q_book, .inl (cI, 40, .inl v_book))] sz) := by
  refine Met.ofW (cc := cX12_write) (maxL := 3) (ret := (some .int)) (by decide) rfl ?_
  intro p e s m args below meth c s₁ B hml hv
  obtain ⟨rfl, hsz, hP, hK, hD0⟩ := hv
  have hx := B.exec
  have hb := B.bytes
  have hr := B.returns
  have hts := atoms_spec (ws := wsX12_write) B.pre
  have hown : s.vm.findClass RX12 = some m.cls := findClass_of_methodNamed B.named
  have hlocks := B.notSynchronized
  subst hsz
  have hD := hD0.self (sz := s.heap.size)
  generalize hAe : va_A [(q_this, .inr (12, [.ref q_town, .ref q_read, .ref q_now, .ref q_aside, .ref q_past, .int v_undos, .ref q_images, .ref q_kept, .long v_seed, .ref q_text, .int v_size, .int v_fault, .ref q_sights, .int v_sightMany, .ref q_book, .int v_bookMany, .int v_at, .int v_begin, .int v_sign, .int v_figures, .int v_value, .int v_wrong, .ref q_went, .ref q_free, .ref q_stands])), (q_town, .inl (cI, 27, .inl v_town)), (q_book, .inl (cI, 40, .inl v_book))] s.heap.size = A at hD ⊢
  have hA : ∀ q : Nat, s.heap.size ≤ q → A q := fun q h => by rw [← hAe]; exact Or.inr h
  have hS : va_S A s.heap s.heap [] := va_S.rf
  have hl := lv_entry ([.ref q_this, .int a1, .int a2]) (n := 3) (Nat.le_of_ble_eq_true rfl)
  rw [lg_entry_eq]
  generalize (lg_sl ([.ref q_this, .int a1, .int a2]) ++ List.replicate (3 - (lg_sl ([.ref q_this, .int a1, .int a2])).length) Slot.unset).toArray = ls at hl ⊢
  have hl : lv_has ls 3 [(0, .ref q_this), (1, .int a1), (2, .int a2)] := hl
  unfold fX12_write at hrun
  have hk169 := hts (.constantLong RX12 169 (999)) (by decide +kernel)
  have hk60 := hts (.fieldLink RX12 60 "LentDrainsModel" "bookMany" "I") (by decide +kernel)
  have hiX12 : ∀ w ∈ wsX120, w ∈ wsX12_write := by decide +kernel
  have hk42 := hts (.fieldLink RX12 42 "LentDrainsModel" "book" "[I") (by decide +kernel)
  have hk73 := hts (.constant RX12 73 (-1000000004)) (by decide +kernel)
  have hk69 := hts (.constant RX12 69 (-1000000002)) (by decide +kernel)
  have hk151 := hts (.constant RX12 151 (-1000000001)) (by decide +kernel)
  refine oz_genQ (fun Q hQ => ?_)
  refine lv_aload_n hx hb dX12_write_0 rfl (lv_at hl 0 rfl) ?_
  refine lv_iload_n hx hb dX12_write_1 rfl (lv_at hl 1 rfl) ?_
  obtain ⟨y2, hc2, hrun⟩ := oz_bind hrun
  have hPc := hP.sub (ws' := [(q_this, .inr (12, [.ref q_town, .ref q_read, .ref q_now, .ref q_aside, .ref q_past, .int v_undos, .ref q_images, .ref q_kept, .long v_seed, .ref q_text, .int v_size, .int v_fault, .ref q_sights, .int v_sightMany, .ref q_book, .int v_bookMany, .int v_at, .int v_begin, .int v_sign, .int v_figures, .int v_value, .int v_wrong, .ref q_went, .ref q_free, .ref q_stands])), (q_town, .inl (cI, 27, .inl v_town))]) [0, 1] rfl
  have hDc := hD.sub (ws' := [(q_this, .inr (12, [.ref q_town, .ref q_read, .ref q_now, .ref q_aside, .ref q_past, .int v_undos, .ref q_images, .ref q_kept, .long v_seed, .ref q_text, .int v_size, .int v_fault, .ref q_sights, .int v_sightMany, .ref q_book, .int v_bookMany, .int v_at, .int v_begin, .int v_sign, .int v_figures, .int v_value, .int v_wrong, .ref q_went, .ref q_free, .ref q_stands])), (q_town, .inl (cI, 27, .inl v_town))]) [0, 1] (by decide) rfl
  have hFc := va_free (wc := [(q_this, .inr (12, [.ref q_town, .ref q_read, .ref q_now, .ref q_aside, .ref q_past, .int v_undos, .ref q_images, .ref q_kept, .long v_seed, .ref q_text, .int v_size, .int v_fault, .ref q_sights, .int v_sightMany, .ref q_book, .int v_bookMany, .int v_at, .int v_begin, .int v_sign, .int v_figures, .int v_value, .int v_wrong, .ref q_went, .ref q_free, .ref q_stands])), (q_town, .inl (cI, 27, .inl v_town))]) hD hS hA [0, 1] rfl
  refine va_calli (va_runV (As := [.int a1]) (rest := []) ⟨hx, hb, hml, hown, hts⟩ (tX12_isHouse l dC dI cI cZ q_aside q_book q_free q_images q_kept q_now q_past q_read q_sights q_stands q_text q_this q_town q_went s.heap.size v_undos v_seed v_size v_fault v_sightMany v_bookMany v_at v_begin v_sign v_figures v_value v_wrong v_town a1 y2 hc2) (cwV 1 hts gX12_write_X12_isHouse rfl rfl rfl (by decide +kernel) ⟨Nat.le_of_ble_eq_true rfl, Nat.le_of_ble_eq_true rfl⟩) ⟨fun a U g mk q => by obtain ⟨q0, q1, qP, qK, qD⟩ := q; exact ⟨q0, q1, qP, va_K.moved (u := U) (U := U.calling g mk a) (Vm.Alike.refl U.vm) qK, qD⟩, va_recv hK hPc (ci := 12) (q0 := 0) rfl rfl, fun U hU hW => ⟨rfl, by rw [hU], by rw [hU]; exact hPc, va_K.moved hW.alike hK, hDc.weaken (fun _ _ _ _ => trivial)⟩⟩ rfl rfl hl.1 rfl (lv_room (Nat.le_of_ble_eq_true rfl)) dX12_write_2 ⟨Nat.le_of_ble_eq_true rfl, Nat.le_of_ble_eq_true rfl⟩) hS (fun q _ h => hFc q h) hFc (fun r2 u9 t9 H1 locs ht9 hvm9 hw9 hB9 hz9 hkk9 hS => ?_)
  have hw9 : y2 = r2 := hw9.symm
  subst hw9
  obtain ⟨hP9, hK9, hD9⟩ := hB9
  rw [ht9] at hP9
  obtain ⟨hP, hD⟩ := va_join (wr := [(q_book, .inl (cI, 40, .inl v_book))]) (w1 := [(q_this, .inr (12, [.ref q_town, .ref q_read, .ref q_now, .ref q_aside, .ref q_past, .int v_undos, .ref q_images, .ref q_kept, .long v_seed, .ref q_text, .int v_size, .int v_fault, .ref q_sights, .int v_sightMany, .ref q_book, .int v_bookMany, .int v_at, .int v_begin, .int v_sign, .int v_figures, .int v_value, .int v_wrong, .ref q_went, .ref q_free, .ref q_stands])), (q_town, .inl (cI, 27, .inl v_town))]) hP hD [0, 1] [2] rfl rfl (by decide) (by decide) hkk9 hFc hP9 hD9
  generalize H1 = H at hP hS ⊢
  have hP : va_P (dC, dI) vwCl [(q_book, .inl (cI, 40, .inl v_book)), (q_this, .inr (12, [.ref q_town, .ref q_read, .ref q_now, .ref q_aside, .ref q_past, .int v_undos, .ref q_images, .ref q_kept, .long v_seed, .ref q_text, .int v_size, .int v_fault, .ref q_sights, .int v_sightMany, .ref q_book, .int v_bookMany, .int v_at, .int v_begin, .int v_sign, .int v_figures, .int v_value, .int v_wrong, .ref q_went, .ref q_free, .ref q_stands])), (q_town, .inl (cI, 27, .inl v_town))] H := hP
  have hD : va_D A [(q_book, .inl (cI, 40, .inl v_book)), (q_this, .inr (12, [.ref q_town, .ref q_read, .ref q_now, .ref q_aside, .ref q_past, .int v_undos, .ref q_images, .ref q_kept, .long v_seed, .ref q_text, .int v_size, .int v_fault, .ref q_sights, .int v_sightMany, .ref q_book, .int v_bookMany, .int v_at, .int v_begin, .int v_sign, .int v_figures, .int v_value, .int v_wrong, .ref q_went, .ref q_free, .ref q_stands])), (q_town, .inl (cI, 27, .inl v_town))] := hD
  refine lv_if_ne (tgt := 11) hx hb dX12_write_5 (by decide) (fun c1 => ?_) (fun c1 => ?_)
  · have hrun := oz_f hrun c1
    refine lv_iload_n hx hb dX12_write_11 rfl (lv_at hl 2 rfl) ?_
    refine lv_i2l hx hb dX12_write_12 rfl ?_
    refine lv_lconst (v := 0) hx hb dX12_write_13 (by decide) ?_
    refine lv_ldc2 hx hb hown hk169 dX12_write_14 ?_
    obtain ⟨y17, hc17, hrun⟩ := oz_bind hrun
    have hPc := hP.sub (ws' := []) [] rfl
    have hDc := hD.sub (ws' := []) [] (by decide) rfl
    have hFc := va_free (wc := []) hD hS hA [] rfl
    refine va_calli (va_runS (As := [.long (Int32.toInt64 a2), .long (0 : Int64), .long (999 : Int64)]) (rest := []) ⟨hx, hb, hml, hown, hts⟩ (tX12_in l dC dI cI cZ H.size (Int32.toInt64 a2) (0 : Int64) (999 : Int64) y17 hc17) (va_cwS 3 hts gX12_write_X12_in rfl rfl rfl (by decide +kernel) ⟨Nat.le_of_ble_eq_true rfl, Nat.le_of_ble_eq_true rfl⟩) ⟨fun a U g mk q => by obtain ⟨q0, q1, qP, qK, qD⟩ := q; exact ⟨q0, q1, qP, va_K.moved (u := U) (U := U.calling g mk a) (Vm.Alike.refl U.vm) qK, qD⟩, fun U hU hW => ⟨rfl, by rw [hU], by rw [hU]; exact hPc, va_K.moved hW.alike hK, hDc.weaken (fun _ _ _ _ => trivial)⟩⟩ rfl rfl hl.1 rfl (lv_room (Nat.le_of_ble_eq_true rfl)) dX12_write_17 ⟨Nat.le_of_ble_eq_true rfl, Nat.le_of_ble_eq_true rfl⟩) hS (fun q _ h => hFc q h) hFc (fun r17 u9 t9 H1 locs ht9 hvm9 hw9 hB9 hz9 hkk9 hS => ?_)
    have hw9 : y17 = r17 := hw9.symm
    subst hw9
    obtain ⟨hP9, hK9, hD9⟩ := hB9
    rw [ht9] at hP9
    obtain ⟨hP, hD⟩ := va_join (wr := [(q_book, .inl (cI, 40, .inl v_book)), (q_this, .inr (12, [.ref q_town, .ref q_read, .ref q_now, .ref q_aside, .ref q_past, .int v_undos, .ref q_images, .ref q_kept, .long v_seed, .ref q_text, .int v_size, .int v_fault, .ref q_sights, .int v_sightMany, .ref q_book, .int v_bookMany, .int v_at, .int v_begin, .int v_sign, .int v_figures, .int v_value, .int v_wrong, .ref q_went, .ref q_free, .ref q_stands])), (q_town, .inl (cI, 27, .inl v_town))]) (w1 := []) hP hD [] [0, 1, 2] rfl rfl (by decide) (by decide) hkk9 hFc hP9 hD9
    generalize H1 = H at hP hS ⊢
    have hP : va_P (dC, dI) vwCl [(q_book, .inl (cI, 40, .inl v_book)), (q_this, .inr (12, [.ref q_town, .ref q_read, .ref q_now, .ref q_aside, .ref q_past, .int v_undos, .ref q_images, .ref q_kept, .long v_seed, .ref q_text, .int v_size, .int v_fault, .ref q_sights, .int v_sightMany, .ref q_book, .int v_bookMany, .int v_at, .int v_begin, .int v_sign, .int v_figures, .int v_value, .int v_wrong, .ref q_went, .ref q_free, .ref q_stands])), (q_town, .inl (cI, 27, .inl v_town))] H := hP
    have hD : va_D A [(q_book, .inl (cI, 40, .inl v_book)), (q_this, .inr (12, [.ref q_town, .ref q_read, .ref q_now, .ref q_aside, .ref q_past, .int v_undos, .ref q_images, .ref q_kept, .long v_seed, .ref q_text, .int v_size, .int v_fault, .ref q_sights, .int v_sightMany, .ref q_book, .int v_bookMany, .int v_at, .int v_begin, .int v_sign, .int v_figures, .int v_value, .int v_wrong, .ref q_went, .ref q_free, .ref q_stands])), (q_town, .inl (cI, 27, .inl v_town))] := hD
    refine lv_if_ne (tgt := 26) hx hb dX12_write_20 (by decide) (fun c2 => ?_) (fun c2 => ?_)
    · have hrun := oz_f hrun c2
      refine lv_aload_n hx hb dX12_write_26 rfl (lv_at hl 0 rfl) ?_
      refine va_get (D := (dC, dI)) (ci := 12) (v := .int v_bookMany) (C := RX12) (T := TX12) (N := 25) hx hb hts hiX12 hown hK hP 1 rfl rfl 15 (by decide) hk60 (fun _ h9 => h9) rfl dX12_write_27 ?_
      refine lv_bipush (v := 20) hx hb dX12_write_30 (by decide) ?_
      refine lv_icmp_ne (tgt := 38) hx hb dX12_write_32 (by decide) (fun c3 => ?_) (fun c3 => ?_)
      · have hrun := oz_f hrun c3
        refine lv_aload_n hx hb dX12_write_38 rfl (lv_at hl 0 rfl) ?_
        refine va_get (D := (dC, dI)) (ci := 12) (v := .ref q_book) (C := RX12) (T := TX12) (N := 25) hx hb hts hiX12 hown hK hP 1 rfl rfl 14 (by decide) hk42 (fun _ h9 => h9) rfl dX12_write_39 ?_
        refine lv_iconst (v := 2) hx hb dX12_write_42 (by decide) ?_
        refine lv_aload_n hx hb dX12_write_43 rfl (lv_at hl 0 rfl) ?_
        refine va_get (D := (dC, dI)) (ci := 12) (v := .int v_bookMany) (C := RX12) (T := TX12) (N := 25) hx hb hts hiX12 hown hK hP 1 rfl rfl 15 (by decide) hk60 (fun _ h9 => h9) rfl dX12_write_44 ?_
        refine lv_imul hx hb dX12_write_47 ?_
        refine lv_iload_n hx hb dX12_write_48 rfl (lv_at hl 1 rfl) ?_
        obtain ⟨c4, hrun⟩ := oz_chk hrun
        refine va_iast hx hb hK hP hD hS 0 0 rfl rfl c4 dX12_write_49 (fun H locs hP hD hS => ?_)
        have hP : va_P (dC, dI) vwCl [(q_book, .inl (cI, 40, .inl (upd v_book (Int32.toNatClampNeg (2 * v_bookMany)) a1))), (q_this, .inr (12, [.ref q_town, .ref q_read, .ref q_now, .ref q_aside, .ref q_past, .int v_undos, .ref q_images, .ref q_kept, .long v_seed, .ref q_text, .int v_size, .int v_fault, .ref q_sights, .int v_sightMany, .ref q_book, .int v_bookMany, .int v_at, .int v_begin, .int v_sign, .int v_figures, .int v_value, .int v_wrong, .ref q_went, .ref q_free, .ref q_stands])), (q_town, .inl (cI, 27, .inl v_town))] H := hP
        have hD : va_D A [(q_book, .inl (cI, 40, .inl (upd v_book (Int32.toNatClampNeg (2 * v_bookMany)) a1))), (q_this, .inr (12, [.ref q_town, .ref q_read, .ref q_now, .ref q_aside, .ref q_past, .int v_undos, .ref q_images, .ref q_kept, .long v_seed, .ref q_text, .int v_size, .int v_fault, .ref q_sights, .int v_sightMany, .ref q_book, .int v_bookMany, .int v_at, .int v_begin, .int v_sign, .int v_figures, .int v_value, .int v_wrong, .ref q_went, .ref q_free, .ref q_stands])), (q_town, .inl (cI, 27, .inl v_town))] := hD
        refine lv_aload_n hx hb dX12_write_50 rfl (lv_at hl 0 rfl) ?_
        refine va_get (D := (dC, dI)) (ci := 12) (v := .ref q_book) (C := RX12) (T := TX12) (N := 25) hx hb hts hiX12 hown hK hP 1 rfl rfl 14 (by decide) hk42 (fun _ h9 => h9) rfl dX12_write_51 ?_
        refine lv_iconst (v := 2) hx hb dX12_write_54 (by decide) ?_
        refine lv_aload_n hx hb dX12_write_55 rfl (lv_at hl 0 rfl) ?_
        refine va_get (D := (dC, dI)) (ci := 12) (v := .int v_bookMany) (C := RX12) (T := TX12) (N := 25) hx hb hts hiX12 hown hK hP 1 rfl rfl 15 (by decide) hk60 (fun _ h9 => h9) rfl dX12_write_56 ?_
        refine lv_imul hx hb dX12_write_59 ?_
        refine lv_iconst (v := 1) hx hb dX12_write_60 (by decide) ?_
        refine lv_iadd hx hb dX12_write_61 ?_
        refine lv_iload_n hx hb dX12_write_62 rfl (lv_at hl 2 rfl) ?_
        obtain ⟨c5, hrun⟩ := oz_chk hrun
        refine va_iast hx hb hK hP hD hS 0 0 rfl rfl c5 dX12_write_63 (fun H locs hP hD hS => ?_)
        have hP : va_P (dC, dI) vwCl [(q_book, .inl (cI, 40, .inl (upd (upd v_book (Int32.toNatClampNeg (2 * v_bookMany)) a1) (Int32.toNatClampNeg ((2 * v_bookMany) + 1)) a2))), (q_this, .inr (12, [.ref q_town, .ref q_read, .ref q_now, .ref q_aside, .ref q_past, .int v_undos, .ref q_images, .ref q_kept, .long v_seed, .ref q_text, .int v_size, .int v_fault, .ref q_sights, .int v_sightMany, .ref q_book, .int v_bookMany, .int v_at, .int v_begin, .int v_sign, .int v_figures, .int v_value, .int v_wrong, .ref q_went, .ref q_free, .ref q_stands])), (q_town, .inl (cI, 27, .inl v_town))] H := hP
        have hD : va_D A [(q_book, .inl (cI, 40, .inl (upd (upd v_book (Int32.toNatClampNeg (2 * v_bookMany)) a1) (Int32.toNatClampNeg ((2 * v_bookMany) + 1)) a2))), (q_this, .inr (12, [.ref q_town, .ref q_read, .ref q_now, .ref q_aside, .ref q_past, .int v_undos, .ref q_images, .ref q_kept, .long v_seed, .ref q_text, .int v_size, .int v_fault, .ref q_sights, .int v_sightMany, .ref q_book, .int v_bookMany, .int v_at, .int v_begin, .int v_sign, .int v_figures, .int v_value, .int v_wrong, .ref q_went, .ref q_free, .ref q_stands])), (q_town, .inl (cI, 27, .inl v_town))] := hD
        refine lv_aload_n hx hb dX12_write_64 rfl (lv_at hl 0 rfl) ?_
        refine lv_dup hx hb dX12_write_65 rfl ?_
        refine va_get (D := (dC, dI)) (ci := 12) (v := .int v_bookMany) (C := RX12) (T := TX12) (N := 25) hx hb hts hiX12 hown hK hP 1 rfl rfl 15 (by decide) hk60 (fun _ h9 => h9) rfl dX12_write_66 ?_
        refine lv_iconst (v := 1) hx hb dX12_write_69 (by decide) ?_
        refine lv_iadd hx hb dX12_write_70 ?_
        refine va_put (D := (dC, dI)) (ci := 12) (v := .int (v_bookMany + 1)) (ty := .int) (C := RX12) (T := TX12) (N := 25) hx hb hts hiX12 tyX12 tyX12_ok nmX12 hown hK hP hD hS 1 rfl rfl 15 (by decide) hk60 (fun _ h9 => h9) rfl (by decide +kernel) rfl rfl (Nat.le_of_ble_eq_true rfl) dX12_write_71 (fun H locs hP hD hS => ?_)
        have hP : va_P (dC, dI) vwCl [(q_book, .inl (cI, 40, .inl (upd (upd v_book (Int32.toNatClampNeg (2 * v_bookMany)) a1) (Int32.toNatClampNeg ((2 * v_bookMany) + 1)) a2))), (q_this, .inr (12, [.ref q_town, .ref q_read, .ref q_now, .ref q_aside, .ref q_past, .int v_undos, .ref q_images, .ref q_kept, .long v_seed, .ref q_text, .int v_size, .int v_fault, .ref q_sights, .int v_sightMany, .ref q_book, .int (v_bookMany + 1), .int v_at, .int v_begin, .int v_sign, .int v_figures, .int v_value, .int v_wrong, .ref q_went, .ref q_free, .ref q_stands])), (q_town, .inl (cI, 27, .inl v_town))] H := hP
        have hD : va_D A [(q_book, .inl (cI, 40, .inl (upd (upd v_book (Int32.toNatClampNeg (2 * v_bookMany)) a1) (Int32.toNatClampNeg ((2 * v_bookMany) + 1)) a2))), (q_this, .inr (12, [.ref q_town, .ref q_read, .ref q_now, .ref q_aside, .ref q_past, .int v_undos, .ref q_images, .ref q_kept, .long v_seed, .ref q_text, .int v_size, .int v_fault, .ref q_sights, .int v_sightMany, .ref q_book, .int (v_bookMany + 1), .int v_at, .int v_begin, .int v_sign, .int v_figures, .int v_value, .int v_wrong, .ref q_went, .ref q_free, .ref q_stands])), (q_town, .inl (cI, 27, .inl v_town))] := hD
        refine lv_aload_n hx hb dX12_write_74 rfl (lv_at hl 0 rfl) ?_
        refine va_get (D := (dC, dI)) (ci := 12) (v := .int (v_bookMany + 1)) (C := RX12) (T := TX12) (N := 25) hx hb hts hiX12 hown hK hP 1 rfl rfl 15 (by decide) hk60 (fun _ h9 => h9) rfl dX12_write_75 ?_
        have ho9 := Option.some.inj hrun
        subst ho9
        have hP9 := hP.sub (ws' := [(q_this, .inr (12, [.ref q_town, .ref q_read, .ref q_now, .ref q_aside, .ref q_past, .int v_undos, .ref q_images, .ref q_kept, .long v_seed, .ref q_text, .int v_size, .int v_fault, .ref q_sights, .int v_sightMany, .ref q_book, .int (v_bookMany + 1), .int v_at, .int v_begin, .int v_sign, .int v_figures, .int v_value, .int v_wrong, .ref q_went, .ref q_free, .ref q_stands])), (q_town, .inl (cI, 27, .inl v_town)), (q_book, .inl (cI, 40, .inl (upd (upd v_book (Int32.toNatClampNeg (2 * v_bookMany)) a1) (Int32.toNatClampNeg ((2 * v_bookMany) + 1)) a2)))]) [1, 2, 0] rfl
        have hD9 := hD.sub (ws' := [(q_this, .inr (12, [.ref q_town, .ref q_read, .ref q_now, .ref q_aside, .ref q_past, .int v_undos, .ref q_images, .ref q_kept, .long v_seed, .ref q_text, .int v_size, .int v_fault, .ref q_sights, .int v_sightMany, .ref q_book, .int (v_bookMany + 1), .int v_at, .int v_begin, .int v_sign, .int v_figures, .int v_value, .int v_wrong, .ref q_went, .ref q_free, .ref q_stands])), (q_town, .inl (cI, 27, .inl v_town)), (q_book, .inl (cI, 40, .inl (upd (upd v_book (Int32.toNatClampNeg (2 * v_bookMany)) a1) (Int32.toNatClampNeg ((2 * v_bookMany) + 1)) a2)))]) [1, 2, 0] (by decide) rfl
        rw [hQ]
        exact W.iret (v := (v_bookMany + 1)) hx hb hr (fun t ht hW => ⟨⟨(v_bookMany + 1), (), rfl, rfl, by rw [ht]; exact hP9, va_K.moved hW.alike hK, hD9⟩, hS.F ht⟩) hS.2.2 dX12_write_78
      · have hrun := oz_t hrun c3
        refine lv_ldc hx hb hown hk73 dX12_write_35 ?_
        have ho9 := Option.some.inj hrun
        subst ho9
        have hP9 := hP.sub (ws' := [(q_this, .inr (12, [.ref q_town, .ref q_read, .ref q_now, .ref q_aside, .ref q_past, .int v_undos, .ref q_images, .ref q_kept, .long v_seed, .ref q_text, .int v_size, .int v_fault, .ref q_sights, .int v_sightMany, .ref q_book, .int v_bookMany, .int v_at, .int v_begin, .int v_sign, .int v_figures, .int v_value, .int v_wrong, .ref q_went, .ref q_free, .ref q_stands])), (q_town, .inl (cI, 27, .inl v_town)), (q_book, .inl (cI, 40, .inl v_book))]) [1, 2, 0] rfl
        have hD9 := hD.sub (ws' := [(q_this, .inr (12, [.ref q_town, .ref q_read, .ref q_now, .ref q_aside, .ref q_past, .int v_undos, .ref q_images, .ref q_kept, .long v_seed, .ref q_text, .int v_size, .int v_fault, .ref q_sights, .int v_sightMany, .ref q_book, .int v_bookMany, .int v_at, .int v_begin, .int v_sign, .int v_figures, .int v_value, .int v_wrong, .ref q_went, .ref q_free, .ref q_stands])), (q_town, .inl (cI, 27, .inl v_town)), (q_book, .inl (cI, 40, .inl v_book))]) [1, 2, 0] (by decide) rfl
        rw [hQ]
        exact W.iret (v := (-1000000004)) hx hb hr (fun t ht hW => ⟨⟨(-1000000004), (), rfl, rfl, by rw [ht]; exact hP9, va_K.moved hW.alike hK, hD9⟩, hS.F ht⟩) hS.2.2 dX12_write_37
    · have hrun := oz_t hrun c2
      refine lv_ldc hx hb hown hk69 dX12_write_23 ?_
      have ho9 := Option.some.inj hrun
      subst ho9
      have hP9 := hP.sub (ws' := [(q_this, .inr (12, [.ref q_town, .ref q_read, .ref q_now, .ref q_aside, .ref q_past, .int v_undos, .ref q_images, .ref q_kept, .long v_seed, .ref q_text, .int v_size, .int v_fault, .ref q_sights, .int v_sightMany, .ref q_book, .int v_bookMany, .int v_at, .int v_begin, .int v_sign, .int v_figures, .int v_value, .int v_wrong, .ref q_went, .ref q_free, .ref q_stands])), (q_town, .inl (cI, 27, .inl v_town)), (q_book, .inl (cI, 40, .inl v_book))]) [1, 2, 0] rfl
      have hD9 := hD.sub (ws' := [(q_this, .inr (12, [.ref q_town, .ref q_read, .ref q_now, .ref q_aside, .ref q_past, .int v_undos, .ref q_images, .ref q_kept, .long v_seed, .ref q_text, .int v_size, .int v_fault, .ref q_sights, .int v_sightMany, .ref q_book, .int v_bookMany, .int v_at, .int v_begin, .int v_sign, .int v_figures, .int v_value, .int v_wrong, .ref q_went, .ref q_free, .ref q_stands])), (q_town, .inl (cI, 27, .inl v_town)), (q_book, .inl (cI, 40, .inl v_book))]) [1, 2, 0] (by decide) rfl
      rw [hQ]
      exact W.iret (v := (-1000000002)) hx hb hr (fun t ht hW => ⟨⟨(-1000000002), (), rfl, rfl, by rw [ht]; exact hP9, va_K.moved hW.alike hK, hD9⟩, hS.F ht⟩) hS.2.2 dX12_write_25
  · have hrun := oz_t hrun c1
    refine lv_ldc hx hb hown hk151 dX12_write_8 ?_
    have ho9 := Option.some.inj hrun
    subst ho9
    have hP9 := hP.sub (ws' := [(q_this, .inr (12, [.ref q_town, .ref q_read, .ref q_now, .ref q_aside, .ref q_past, .int v_undos, .ref q_images, .ref q_kept, .long v_seed, .ref q_text, .int v_size, .int v_fault, .ref q_sights, .int v_sightMany, .ref q_book, .int v_bookMany, .int v_at, .int v_begin, .int v_sign, .int v_figures, .int v_value, .int v_wrong, .ref q_went, .ref q_free, .ref q_stands])), (q_town, .inl (cI, 27, .inl v_town)), (q_book, .inl (cI, 40, .inl v_book))]) [1, 2, 0] rfl
    have hD9 := hD.sub (ws' := [(q_this, .inr (12, [.ref q_town, .ref q_read, .ref q_now, .ref q_aside, .ref q_past, .int v_undos, .ref q_images, .ref q_kept, .long v_seed, .ref q_text, .int v_size, .int v_fault, .ref q_sights, .int v_sightMany, .ref q_book, .int v_bookMany, .int v_at, .int v_begin, .int v_sign, .int v_figures, .int v_value, .int v_wrong, .ref q_went, .ref q_free, .ref q_stands])), (q_town, .inl (cI, 27, .inl v_town)), (q_book, .inl (cI, 40, .inl v_book))]) [1, 2, 0] (by decide) rfl
    rw [hQ]
    exact W.iret (v := (-1000000001)) hx hb hr (fun t ht hW => ⟨⟨(-1000000001), (), rfl, rfl, by rw [ht]; exact hP9, va_K.moved hW.alike hK, hD9⟩, hS.F ht⟩) hS.2.2 dX12_write_10
def fX12_judge_b2 (v_bookMany : Int32) (v_now : Nat → Int32) (v_book : Nat → Int32) (w2 : Int32) : Option ((Int32) ⊕ (Int32)) :=
  if v_bookMany ≤ w2 then (some (.inr (-1))) else (if ((2 * w2) < 0 ∨ 40 ≤ Int32.toNatClampNeg (2 * w2)) then none else if ((0 + (v_book (Int32.toNatClampNeg (2 * w2)))) < 0 ∨ 19 ≤ Int32.toNatClampNeg (0 + (v_book (Int32.toNatClampNeg (2 * w2))))) then none else if (((2 * w2) + 1) < 0 ∨ 40 ≤ Int32.toNatClampNeg ((2 * w2) + 1)) then none else if (v_now (Int32.toNatClampNeg (0 + (v_book (Int32.toNatClampNeg (2 * w2)))))) = (v_book (Int32.toNatClampNeg ((2 * w2) + 1))) then (some (.inl (w2 + 1))) else (some (.inr w2)))
def fX12_judge (v_bookMany : Int32) (v_now : Nat → Int32) (v_book : Nat → Int32) : Option (Int32) :=
  oz_loop (fX12_judge_b2 v_bookMany v_now v_book) oz_fuel 0
def rmX12_judge : Room := { frames := 0, cells := 0, slots := 0, locals := 0 }
set_option maxHeartbeats 4000000 in
set_option maxRecDepth 100000 in
theorem tX12_judge (l : Launch) (dC : Nat → ClassId) (dI : Nat → Nat → Nat) (cI cZ : ClassId) (q_aside q_book q_free q_images q_kept q_now q_past q_read q_sights q_stands q_text q_this q_town q_went : Nat) (sz : Nat) (v_undos : Int32) (v_seed : Int64) (v_size : Int32) (v_fault : Int32) (v_sightMany : Int32) (v_at : Int32) (v_begin : Int32) (v_sign : Int32) (v_figures : Int32) (v_value : Int32) (v_wrong : Int32) (v_bookMany : Int32) (v_now : Nat → Int32) (v_book : Nat → Int32) (out : Int32) (hrun : fX12_judge v_bookMany v_now v_book = some out) : Met l yX12_judge wsX12_judge rmX12_judge (va_Pc [.ref q_this] (fun U => U.heap.size = sz ∧ va_P (dC, dI) vwCl [(q_this, .inr (12, [.ref q_town, .ref q_read, .ref q_now, .ref q_aside, .ref q_past, .int v_undos, .ref q_images, .ref q_kept, .long v_seed, .ref q_text, .int v_size, .int v_fault, .ref q_sights, .int v_sightMany, .ref q_book, .int v_bookMany, .int v_at, .int v_begin, .int v_sign, .int v_figures, .int v_value, .int v_wrong, .ref q_went, .ref q_free, .ref q_stands])), (q_now, .inl (cI, 19, .inl v_now)), (q_book, .inl (cI, 40, .inl v_book))] U.heap ∧ va_K (dC, dI) vwCl [(cI, .int), (cZ, .boolean)] U ∧ va_D (fun _ => True) [(q_this, .inr (12, [.ref q_town, .ref q_read, .ref q_now, .ref q_aside, .ref q_past, .int v_undos, .ref q_images, .ref q_kept, .long v_seed, .ref q_text, .int v_size, .int v_fault, .ref q_sights, .int v_sightMany, .ref q_book, .int v_bookMany, .int v_at, .int v_begin, .int v_sign, .int v_figures, .int v_value, .int v_wrong, .ref q_went, .ref q_free, .ref q_stands])), (q_now, .inl (cI, 19, .inl v_now)), (q_book, .inl (cI, 40, .inl v_book))])) (va_Qi (fun (r : Int32) (_ : Unit) => r = out) (fun _ t => va_P (dC, dI) vwCl [(q_this, .inr (12, [.ref q_town, .ref q_read, .ref q_now, .ref q_aside, .ref q_past, .int v_undos, .ref q_images, .ref q_kept, .long v_seed, .ref q_text, .int v_size, .int v_fault, .ref q_sights, .int v_sightMany, .ref q_book, .int v_bookMany, .int v_at, .int v_begin, .int v_sign, .int v_figures, .int v_value, .int v_wrong, .ref q_went, .ref q_free, .ref q_stands])), (q_now, .inl (cI, 19, .inl v_now)), (q_book, .inl (cI, 40, .inl v_book))] t.heap ∧ va_K (dC, dI) vwCl [(cI, .int), (cZ, .boolean)] t ∧ va_D (va_A [(q_this, .inr (12, [.ref q_town, .ref q_read, .ref q_now, .ref q_aside, .ref q_past, .int v_undos, .ref q_images, .ref q_kept, .long v_seed, .ref q_text, .int v_size, .int v_fault, .ref q_sights, .int v_sightMany, .ref q_book, .int v_bookMany, .int v_at, .int v_begin, .int v_sign, .int v_figures, .int v_value, .int v_wrong, .ref q_went, .ref q_free, .ref q_stands])), (q_now, .inl (cI, 19, .inl v_now)), (q_book, .inl (cI, 40, .inl v_book))] sz) [(q_this, .inr (12, [.ref q_town, .ref q_read, .ref q_now, .ref q_aside, .ref q_past, .int v_undos, .ref q_images, .ref q_kept, .long v_seed, .ref q_text, .int v_size, .int v_fault, .ref q_sights, .int v_sightMany, .ref q_book, .int v_bookMany, .int v_at, .int v_begin, .int v_sign, .int v_figures, .int v_value, .int v_wrong, .ref q_went, .ref q_free, .ref q_stands])), (q_now, .inl (cI, 19, .inl v_now)), (q_book, .inl (cI, 40, .inl v_book))]) (va_A [(q_this, .inr (12, [.ref q_town, .ref q_read, .ref q_now, .ref q_aside, .ref q_past, .int v_undos, .ref q_images, .ref q_kept, .long v_seed, .ref q_text, .int v_size, .int v_fault, .ref q_sights, .int v_sightMany, .ref q_book, .int v_bookMany, .int v_at, .int v_begin, .int v_sign, .int v_figures, .int v_value, .int v_wrong, .ref q_went, .ref q_free, .ref q_stands])), (q_now, .inl (cI, 19, .inl v_now)), (q_book, .inl (cI, 40, .inl v_book))] sz)) 0 0 (va_A [(q_this, .inr (12, [.ref q_town, .ref q_read, .ref q_now, .ref q_aside, .ref q_past, .int v_undos, .ref q_images, .ref q_kept, .long v_seed, .ref q_text, .int v_size, .int v_fault, .ref q_sights, .int v_sightMany, .ref q_book, .int v_bookMany, .int v_at, .int v_begin, .int v_sign, .int v_figures, .int v_value, .int v_wrong, .ref q_went, .ref q_free, .ref q_stands])), (q_now, .inl (cI, 19, .inl v_now)), (q_book, .inl (cI, 40, .inl v_book))] sz) := by
  refine Met.ofW (cc := cX12_judge) (maxL := 2) (ret := (some .int)) (by decide) rfl ?_
  intro p e s m args below meth c s₁ B hml hv
  obtain ⟨rfl, hsz, hP, hK, hD0⟩ := hv
  have hx := B.exec
  have hb := B.bytes
  have hr := B.returns
  have hts := atoms_spec (ws := wsX12_judge) B.pre
  have hown : s.vm.findClass RX12 = some m.cls := findClass_of_methodNamed B.named
  have hlocks := B.notSynchronized
  subst hsz
  have hD := hD0.self (sz := s.heap.size)
  generalize hAe : va_A [(q_this, .inr (12, [.ref q_town, .ref q_read, .ref q_now, .ref q_aside, .ref q_past, .int v_undos, .ref q_images, .ref q_kept, .long v_seed, .ref q_text, .int v_size, .int v_fault, .ref q_sights, .int v_sightMany, .ref q_book, .int v_bookMany, .int v_at, .int v_begin, .int v_sign, .int v_figures, .int v_value, .int v_wrong, .ref q_went, .ref q_free, .ref q_stands])), (q_now, .inl (cI, 19, .inl v_now)), (q_book, .inl (cI, 40, .inl v_book))] s.heap.size = A at hD ⊢
  have hA : ∀ q : Nat, s.heap.size ≤ q → A q := fun q h => by rw [← hAe]; exact Or.inr h
  have hS : va_S A s.heap s.heap [] := va_S.rf
  have hl := lv_entry ([.ref q_this]) (n := 2) (Nat.le_of_ble_eq_true rfl)
  rw [lg_entry_eq]
  generalize (lg_sl ([.ref q_this]) ++ List.replicate (2 - (lg_sl ([.ref q_this])).length) Slot.unset).toArray = ls at hl ⊢
  have hl : lv_has ls 2 [(0, .ref q_this)] := hl
  unfold fX12_judge at hrun
  have hk60 := hts (.fieldLink RX12 60 "LentDrainsModel" "bookMany" "I") (by decide +kernel)
  have hiX12 : ∀ w ∈ wsX120, w ∈ wsX12_judge := by decide +kernel
  have hk16 := hts (.fieldLink RX12 16 "LentDrainsModel" "now" "[I") (by decide +kernel)
  have hk42 := hts (.fieldLink RX12 42 "LentDrainsModel" "book" "[I") (by decide +kernel)
  refine oz_genQ (fun Q hQ => ?_)
  refine lv_iconst (v := 0) hx hb dX12_judge_0 (by decide) ?_
  refine lv_istore_n (lv' := [(1, .int 0), (0, .ref q_this)]) hx hb dX12_judge_1 rfl hl (by decide) rfl (fun ls hl => ?_)
  have hL2 : ∀ (n : Nat) (w2 : Int32), oz_loop (fX12_judge_b2 v_bookMany v_now v_book) n w2 = some out → ∀ (H : Heap) (locs : List Loc) (ls : Array Slot), va_P (dC, dI) vwCl [(q_this, .inr (12, [.ref q_town, .ref q_read, .ref q_now, .ref q_aside, .ref q_past, .int v_undos, .ref q_images, .ref q_kept, .long v_seed, .ref q_text, .int v_size, .int v_fault, .ref q_sights, .int v_sightMany, .ref q_book, .int v_bookMany, .int v_at, .int v_begin, .int v_sign, .int v_figures, .int v_value, .int v_wrong, .ref q_went, .ref q_free, .ref q_stands])), (q_now, .inl (cI, 19, .inl v_now)), (q_book, .inl (cI, 40, .inl v_book))] H → va_D A [(q_this, .inr (12, [.ref q_town, .ref q_read, .ref q_now, .ref q_aside, .ref q_past, .int v_undos, .ref q_images, .ref q_kept, .long v_seed, .ref q_text, .int v_size, .int v_fault, .ref q_sights, .int v_sightMany, .ref q_book, .int v_bookMany, .int v_at, .int v_begin, .int v_sign, .int v_figures, .int v_value, .int v_wrong, .ref q_went, .ref q_free, .ref q_stands])), (q_now, .inl (cI, 19, .inl v_now)), (q_book, .inl (cI, 40, .inl v_book))] → va_S A s.heap H locs → lv_has ls 2 [(1, .int w2), (0, .ref q_this)] → W p l e (headSpec wsX12_judge rmX12_judge).room s m (([.ref q_this] : List Value).toArray) below meth c H locs 0 0 Q (F0 m 2 ls []) := by
    intro n
    induction n with
    | zero => intro w2 h9; exact (oz_zero h9).elim
    | succ n ih =>
      intro w2 h9 H locs ls hP hD hS hl
      obtain ⟨r9, hrun, hnext⟩ := oz_step h9
      unfold fX12_judge_b2 at hrun
      refine lv_iload_n hx hb dX12_judge_2 rfl (lv_at hl 0 rfl) ?_
      refine lv_aload_n hx hb dX12_judge_3 rfl (lv_at hl 1 rfl) ?_
      refine va_get (D := (dC, dI)) (ci := 12) (v := .int v_bookMany) (C := RX12) (T := TX12) (N := 25) hx hb hts hiX12 hown hK hP 0 rfl rfl 15 (by decide) hk60 (fun _ h9 => h9) rfl dX12_judge_4 ?_
      refine lv_icmp_ge (tgt := 46) hx hb dX12_judge_7 (by decide) (fun c1 => ?_) (fun c1 => ?_)
      · have hrun := oz_t hrun c1
        refine lv_iconst (v := (-1)) hx hb dX12_judge_46 (by decide) ?_
        have hr9 := Option.some.inj hrun
        subst hr9
        have ho9 : (-1) = out := hnext
        subst ho9
        have hP9 := hP.sub (ws' := [(q_this, .inr (12, [.ref q_town, .ref q_read, .ref q_now, .ref q_aside, .ref q_past, .int v_undos, .ref q_images, .ref q_kept, .long v_seed, .ref q_text, .int v_size, .int v_fault, .ref q_sights, .int v_sightMany, .ref q_book, .int v_bookMany, .int v_at, .int v_begin, .int v_sign, .int v_figures, .int v_value, .int v_wrong, .ref q_went, .ref q_free, .ref q_stands])), (q_now, .inl (cI, 19, .inl v_now)), (q_book, .inl (cI, 40, .inl v_book))]) [0, 1, 2] rfl
        have hD9 := hD.sub (ws' := [(q_this, .inr (12, [.ref q_town, .ref q_read, .ref q_now, .ref q_aside, .ref q_past, .int v_undos, .ref q_images, .ref q_kept, .long v_seed, .ref q_text, .int v_size, .int v_fault, .ref q_sights, .int v_sightMany, .ref q_book, .int v_bookMany, .int v_at, .int v_begin, .int v_sign, .int v_figures, .int v_value, .int v_wrong, .ref q_went, .ref q_free, .ref q_stands])), (q_now, .inl (cI, 19, .inl v_now)), (q_book, .inl (cI, 40, .inl v_book))]) [0, 1, 2] (by decide) rfl
        rw [hQ]
        exact W.iret (v := (-1)) hx hb hr (fun t ht hW => ⟨⟨(-1), (), rfl, rfl, by rw [ht]; exact hP9, va_K.moved hW.alike hK, hD9⟩, hS.F ht⟩) hS.2.2 dX12_judge_47
      · have hrun := oz_f hrun c1
        refine lv_aload_n hx hb dX12_judge_10 rfl (lv_at hl 1 rfl) ?_
        refine va_get (D := (dC, dI)) (ci := 12) (v := .ref q_now) (C := RX12) (T := TX12) (N := 25) hx hb hts hiX12 hown hK hP 0 rfl rfl 2 (by decide) hk16 (fun _ h9 => h9) rfl dX12_judge_11 ?_
        refine lv_iconst (v := 0) hx hb dX12_judge_14 (by decide) ?_
        refine lv_aload_n hx hb dX12_judge_15 rfl (lv_at hl 1 rfl) ?_
        refine va_get (D := (dC, dI)) (ci := 12) (v := .ref q_book) (C := RX12) (T := TX12) (N := 25) hx hb hts hiX12 hown hK hP 0 rfl rfl 14 (by decide) hk42 (fun _ h9 => h9) rfl dX12_judge_16 ?_
        refine lv_iconst (v := 2) hx hb dX12_judge_19 (by decide) ?_
        refine lv_iload_n hx hb dX12_judge_20 rfl (lv_at hl 0 rfl) ?_
        refine lv_imul hx hb dX12_judge_21 ?_
        obtain ⟨c2, hrun⟩ := oz_chk hrun
        refine va_iald hx hb hK hP 2 0 rfl rfl c2 dX12_judge_22 ?_
        refine lv_iadd hx hb dX12_judge_23 ?_
        obtain ⟨c3, hrun⟩ := oz_chk hrun
        refine va_iald hx hb hK hP 1 0 rfl rfl c3 dX12_judge_24 ?_
        refine lv_aload_n hx hb dX12_judge_25 rfl (lv_at hl 1 rfl) ?_
        refine va_get (D := (dC, dI)) (ci := 12) (v := .ref q_book) (C := RX12) (T := TX12) (N := 25) hx hb hts hiX12 hown hK hP 0 rfl rfl 14 (by decide) hk42 (fun _ h9 => h9) rfl dX12_judge_26 ?_
        refine lv_iconst (v := 2) hx hb dX12_judge_29 (by decide) ?_
        refine lv_iload_n hx hb dX12_judge_30 rfl (lv_at hl 0 rfl) ?_
        refine lv_imul hx hb dX12_judge_31 ?_
        refine lv_iconst (v := 1) hx hb dX12_judge_32 (by decide) ?_
        refine lv_iadd hx hb dX12_judge_33 ?_
        obtain ⟨c4, hrun⟩ := oz_chk hrun
        refine va_iald hx hb hK hP 2 0 rfl rfl c4 dX12_judge_34 ?_
        refine lv_icmp_eq (tgt := 40) hx hb dX12_judge_35 (by decide) (fun c5 => ?_) (fun c5 => ?_)
        · have hrun := oz_t hrun c5
          refine lv_iinc (v := (w2 + 1)) (lv' := [(1, .int (w2 + 1)), (0, .ref q_this)]) hx hb dX12_judge_40 hl (k := 0) rfl rfl (by decide) rfl (fun ls hl => ?_)
          refine lv_goto (tgt := 2) hx hb dX12_judge_43 (by decide) ?_
          have hr9 := Option.some.inj hrun
          subst hr9
          exact ih (w2 + 1) hnext _ _ _ (hP.sub [0, 1, 2] rfl) (hD.sub [0, 1, 2] (by decide) rfl) hS (lv_sub hl [0, 1] rfl)
        · have hrun := oz_f hrun c5
          refine lv_iload_n hx hb dX12_judge_38 rfl (lv_at hl 0 rfl) ?_
          have hr9 := Option.some.inj hrun
          subst hr9
          have ho9 : w2 = out := hnext
          subst ho9
          have hP9 := hP.sub (ws' := [(q_this, .inr (12, [.ref q_town, .ref q_read, .ref q_now, .ref q_aside, .ref q_past, .int v_undos, .ref q_images, .ref q_kept, .long v_seed, .ref q_text, .int v_size, .int v_fault, .ref q_sights, .int v_sightMany, .ref q_book, .int v_bookMany, .int v_at, .int v_begin, .int v_sign, .int v_figures, .int v_value, .int v_wrong, .ref q_went, .ref q_free, .ref q_stands])), (q_now, .inl (cI, 19, .inl v_now)), (q_book, .inl (cI, 40, .inl v_book))]) [0, 1, 2] rfl
          have hD9 := hD.sub (ws' := [(q_this, .inr (12, [.ref q_town, .ref q_read, .ref q_now, .ref q_aside, .ref q_past, .int v_undos, .ref q_images, .ref q_kept, .long v_seed, .ref q_text, .int v_size, .int v_fault, .ref q_sights, .int v_sightMany, .ref q_book, .int v_bookMany, .int v_at, .int v_begin, .int v_sign, .int v_figures, .int v_value, .int v_wrong, .ref q_went, .ref q_free, .ref q_stands])), (q_now, .inl (cI, 19, .inl v_now)), (q_book, .inl (cI, 40, .inl v_book))]) [0, 1, 2] (by decide) rfl
          rw [hQ]
          exact W.iret (v := w2) hx hb hr (fun t ht hW => ⟨⟨w2, (), rfl, rfl, by rw [ht]; exact hP9, va_K.moved hW.alike hK, hD9⟩, hS.F ht⟩) hS.2.2 dX12_judge_39
  exact hL2 oz_fuel 0 hrun _ _ _ (hP.sub [0, 1, 2] rfl) (hD.sub [0, 1, 2] (by decide) rfl) hS (lv_sub hl [0, 1] rfl)
def fX12_tear (v_sightMany : Int32) (v_bookMany : Int32) : Option (Int32 × Int32 × Int32) :=
  some ((v_sightMany + v_bookMany), 0, 0)
def rmX12_tear : Room := { frames := 0, cells := 0, slots := 0, locals := 0 }
set_option maxHeartbeats 4000000 in
set_option maxRecDepth 100000 in
theorem tX12_tear (l : Launch) (dC : Nat → ClassId) (dI : Nat → Nat → Nat) (cI cZ : ClassId) (q_aside q_book q_free q_images q_kept q_now q_past q_read q_sights q_stands q_text q_this q_town q_went : Nat) (sz : Nat) (v_undos : Int32) (v_seed : Int64) (v_size : Int32) (v_fault : Int32) (v_at : Int32) (v_begin : Int32) (v_sign : Int32) (v_figures : Int32) (v_value : Int32) (v_wrong : Int32) (v_sightMany : Int32) (v_bookMany : Int32) (out : Int32 × Int32 × Int32) (hrun : fX12_tear v_sightMany v_bookMany = some out) : Met l yX12_tear wsX12_tear rmX12_tear (va_Pc [.ref q_this] (fun U => U.heap.size = sz ∧ va_P (dC, dI) vwCl [(q_this, .inr (12, [.ref q_town, .ref q_read, .ref q_now, .ref q_aside, .ref q_past, .int v_undos, .ref q_images, .ref q_kept, .long v_seed, .ref q_text, .int v_size, .int v_fault, .ref q_sights, .int v_sightMany, .ref q_book, .int v_bookMany, .int v_at, .int v_begin, .int v_sign, .int v_figures, .int v_value, .int v_wrong, .ref q_went, .ref q_free, .ref q_stands]))] U.heap ∧ va_K (dC, dI) vwCl [(cI, .int), (cZ, .boolean)] U ∧ va_D (fun _ => True) [(q_this, .inr (12, [.ref q_town, .ref q_read, .ref q_now, .ref q_aside, .ref q_past, .int v_undos, .ref q_images, .ref q_kept, .long v_seed, .ref q_text, .int v_size, .int v_fault, .ref q_sights, .int v_sightMany, .ref q_book, .int v_bookMany, .int v_at, .int v_begin, .int v_sign, .int v_figures, .int v_value, .int v_wrong, .ref q_went, .ref q_free, .ref q_stands]))])) (va_Qi (fun (r : Int32) (_ : Unit) => r = out.1) (fun _ t => va_P (dC, dI) vwCl [(q_this, .inr (12, [.ref q_town, .ref q_read, .ref q_now, .ref q_aside, .ref q_past, .int v_undos, .ref q_images, .ref q_kept, .long v_seed, .ref q_text, .int v_size, .int v_fault, .ref q_sights, .int out.2.1, .ref q_book, .int out.2.2, .int v_at, .int v_begin, .int v_sign, .int v_figures, .int v_value, .int v_wrong, .ref q_went, .ref q_free, .ref q_stands]))] t.heap ∧ va_K (dC, dI) vwCl [(cI, .int), (cZ, .boolean)] t ∧ va_D (va_A [(q_this, .inr (12, [.ref q_town, .ref q_read, .ref q_now, .ref q_aside, .ref q_past, .int v_undos, .ref q_images, .ref q_kept, .long v_seed, .ref q_text, .int v_size, .int v_fault, .ref q_sights, .int v_sightMany, .ref q_book, .int v_bookMany, .int v_at, .int v_begin, .int v_sign, .int v_figures, .int v_value, .int v_wrong, .ref q_went, .ref q_free, .ref q_stands]))] sz) [(q_this, .inr (12, [.ref q_town, .ref q_read, .ref q_now, .ref q_aside, .ref q_past, .int v_undos, .ref q_images, .ref q_kept, .long v_seed, .ref q_text, .int v_size, .int v_fault, .ref q_sights, .int out.2.1, .ref q_book, .int out.2.2, .int v_at, .int v_begin, .int v_sign, .int v_figures, .int v_value, .int v_wrong, .ref q_went, .ref q_free, .ref q_stands]))]) (va_A [(q_this, .inr (12, [.ref q_town, .ref q_read, .ref q_now, .ref q_aside, .ref q_past, .int v_undos, .ref q_images, .ref q_kept, .long v_seed, .ref q_text, .int v_size, .int v_fault, .ref q_sights, .int v_sightMany, .ref q_book, .int v_bookMany, .int v_at, .int v_begin, .int v_sign, .int v_figures, .int v_value, .int v_wrong, .ref q_went, .ref q_free, .ref q_stands]))] sz)) 0 0 (va_A [(q_this, .inr (12, [.ref q_town, .ref q_read, .ref q_now, .ref q_aside, .ref q_past, .int v_undos, .ref q_images, .ref q_kept, .long v_seed, .ref q_text, .int v_size, .int v_fault, .ref q_sights, .int v_sightMany, .ref q_book, .int v_bookMany, .int v_at, .int v_begin, .int v_sign, .int v_figures, .int v_value, .int v_wrong, .ref q_went, .ref q_free, .ref q_stands]))] sz) := by
  refine Met.ofW (cc := cX12_tear) (maxL := 2) (ret := (some .int)) (by decide) rfl ?_
  intro p e s m args below meth c s₁ B hml hv
  obtain ⟨rfl, hsz, hP, hK, hD0⟩ := hv
  have hx := B.exec
  have hb := B.bytes
  have hr := B.returns
  have hts := atoms_spec (ws := wsX12_tear) B.pre
  have hown : s.vm.findClass RX12 = some m.cls := findClass_of_methodNamed B.named
  have hlocks := B.notSynchronized
  subst hsz
  have hD := hD0.self (sz := s.heap.size)
  generalize hAe : va_A [(q_this, .inr (12, [.ref q_town, .ref q_read, .ref q_now, .ref q_aside, .ref q_past, .int v_undos, .ref q_images, .ref q_kept, .long v_seed, .ref q_text, .int v_size, .int v_fault, .ref q_sights, .int v_sightMany, .ref q_book, .int v_bookMany, .int v_at, .int v_begin, .int v_sign, .int v_figures, .int v_value, .int v_wrong, .ref q_went, .ref q_free, .ref q_stands]))] s.heap.size = A at hD ⊢
  have hA : ∀ q : Nat, s.heap.size ≤ q → A q := fun q h => by rw [← hAe]; exact Or.inr h
  have hS : va_S A s.heap s.heap [] := va_S.rf
  have hl := lv_entry ([.ref q_this]) (n := 2) (Nat.le_of_ble_eq_true rfl)
  rw [lg_entry_eq]
  generalize (lg_sl ([.ref q_this]) ++ List.replicate (2 - (lg_sl ([.ref q_this])).length) Slot.unset).toArray = ls at hl ⊢
  have hl : lv_has ls 2 [(0, .ref q_this)] := hl
  unfold fX12_tear at hrun
  have hk57 := hts (.fieldLink RX12 57 "LentDrainsModel" "sightMany" "I") (by decide +kernel)
  have hiX12 : ∀ w ∈ wsX120, w ∈ wsX12_tear := by decide +kernel
  have hk60 := hts (.fieldLink RX12 60 "LentDrainsModel" "bookMany" "I") (by decide +kernel)
  refine oz_genQ (fun Q hQ => ?_)
  refine lv_aload_n hx hb dX12_tear_0 rfl (lv_at hl 0 rfl) ?_
  refine va_get (D := (dC, dI)) (ci := 12) (v := .int v_sightMany) (C := RX12) (T := TX12) (N := 25) hx hb hts hiX12 hown hK hP 0 rfl rfl 13 (by decide) hk57 (fun _ h9 => h9) rfl dX12_tear_1 ?_
  refine lv_aload_n hx hb dX12_tear_4 rfl (lv_at hl 0 rfl) ?_
  refine va_get (D := (dC, dI)) (ci := 12) (v := .int v_bookMany) (C := RX12) (T := TX12) (N := 25) hx hb hts hiX12 hown hK hP 0 rfl rfl 15 (by decide) hk60 (fun _ h9 => h9) rfl dX12_tear_5 ?_
  refine lv_iadd hx hb dX12_tear_8 ?_
  refine lv_istore_n (lv' := [(1, .int (v_sightMany + v_bookMany)), (0, .ref q_this)]) hx hb dX12_tear_9 rfl hl (by decide) rfl (fun ls hl => ?_)
  refine lv_aload_n hx hb dX12_tear_10 rfl (lv_at hl 1 rfl) ?_
  refine lv_iconst (v := 0) hx hb dX12_tear_11 (by decide) ?_
  refine va_put (D := (dC, dI)) (ci := 12) (v := .int 0) (ty := .int) (C := RX12) (T := TX12) (N := 25) hx hb hts hiX12 tyX12 tyX12_ok nmX12 hown hK hP hD hS 0 rfl rfl 13 (by decide) hk57 (fun _ h9 => h9) rfl (by decide +kernel) rfl rfl (Nat.le_of_ble_eq_true rfl) dX12_tear_12 (fun H locs hP hD hS => ?_)
  have hP : va_P (dC, dI) vwCl [(q_this, .inr (12, [.ref q_town, .ref q_read, .ref q_now, .ref q_aside, .ref q_past, .int v_undos, .ref q_images, .ref q_kept, .long v_seed, .ref q_text, .int v_size, .int v_fault, .ref q_sights, .int 0, .ref q_book, .int v_bookMany, .int v_at, .int v_begin, .int v_sign, .int v_figures, .int v_value, .int v_wrong, .ref q_went, .ref q_free, .ref q_stands]))] H := hP
  have hD : va_D A [(q_this, .inr (12, [.ref q_town, .ref q_read, .ref q_now, .ref q_aside, .ref q_past, .int v_undos, .ref q_images, .ref q_kept, .long v_seed, .ref q_text, .int v_size, .int v_fault, .ref q_sights, .int 0, .ref q_book, .int v_bookMany, .int v_at, .int v_begin, .int v_sign, .int v_figures, .int v_value, .int v_wrong, .ref q_went, .ref q_free, .ref q_stands]))] := hD
  refine lv_aload_n hx hb dX12_tear_15 rfl (lv_at hl 1 rfl) ?_
  refine lv_iconst (v := 0) hx hb dX12_tear_16 (by decide) ?_
  refine va_put (D := (dC, dI)) (ci := 12) (v := .int 0) (ty := .int) (C := RX12) (T := TX12) (N := 25) hx hb hts hiX12 tyX12 tyX12_ok nmX12 hown hK hP hD hS 0 rfl rfl 15 (by decide) hk60 (fun _ h9 => h9) rfl (by decide +kernel) rfl rfl (Nat.le_of_ble_eq_true rfl) dX12_tear_17 (fun H locs hP hD hS => ?_)
  have hP : va_P (dC, dI) vwCl [(q_this, .inr (12, [.ref q_town, .ref q_read, .ref q_now, .ref q_aside, .ref q_past, .int v_undos, .ref q_images, .ref q_kept, .long v_seed, .ref q_text, .int v_size, .int v_fault, .ref q_sights, .int 0, .ref q_book, .int 0, .int v_at, .int v_begin, .int v_sign, .int v_figures, .int v_value, .int v_wrong, .ref q_went, .ref q_free, .ref q_stands]))] H := hP
  have hD : va_D A [(q_this, .inr (12, [.ref q_town, .ref q_read, .ref q_now, .ref q_aside, .ref q_past, .int v_undos, .ref q_images, .ref q_kept, .long v_seed, .ref q_text, .int v_size, .int v_fault, .ref q_sights, .int 0, .ref q_book, .int 0, .int v_at, .int v_begin, .int v_sign, .int v_figures, .int v_value, .int v_wrong, .ref q_went, .ref q_free, .ref q_stands]))] := hD
  refine lv_iload_n hx hb dX12_tear_20 rfl (lv_at hl 0 rfl) ?_
  have ho9 := Option.some.inj hrun
  subst ho9
  have hP9 := hP.sub (ws' := [(q_this, .inr (12, [.ref q_town, .ref q_read, .ref q_now, .ref q_aside, .ref q_past, .int v_undos, .ref q_images, .ref q_kept, .long v_seed, .ref q_text, .int v_size, .int v_fault, .ref q_sights, .int 0, .ref q_book, .int 0, .int v_at, .int v_begin, .int v_sign, .int v_figures, .int v_value, .int v_wrong, .ref q_went, .ref q_free, .ref q_stands]))]) [0] rfl
  have hD9 := hD.sub (ws' := [(q_this, .inr (12, [.ref q_town, .ref q_read, .ref q_now, .ref q_aside, .ref q_past, .int v_undos, .ref q_images, .ref q_kept, .long v_seed, .ref q_text, .int v_size, .int v_fault, .ref q_sights, .int 0, .ref q_book, .int 0, .int v_at, .int v_begin, .int v_sign, .int v_figures, .int v_value, .int v_wrong, .ref q_went, .ref q_free, .ref q_stands]))]) [0] (by decide) rfl
  rw [hQ]
  exact W.iret (v := (v_sightMany + v_bookMany)) hx hb hr (fun t ht hW => ⟨⟨(v_sightMany + v_bookMany), (), rfl, rfl, by rw [ht]; exact hP9, va_K.moved hW.alike hK, hD9⟩, hS.F ht⟩) hS.2.2 dX12_tear_21
def fX12_seed (v_seed : Int64) (a1 : Int32) : Option (Int32 × Int64) :=
  if 0 ≤ a1 then (some ((Int64.toInt32 v_seed), (Int32.toInt64 a1))) else (some ((-1000000002), v_seed))
def rmX12_seed : Room := { frames := 0, cells := 0, slots := 0, locals := 0 }
set_option maxHeartbeats 4000000 in
set_option maxRecDepth 100000 in
theorem tX12_seed (l : Launch) (dC : Nat → ClassId) (dI : Nat → Nat → Nat) (cI cZ : ClassId) (q_aside q_book q_free q_images q_kept q_now q_past q_read q_sights q_stands q_text q_this q_town q_went : Nat) (sz : Nat) (v_undos : Int32) (v_size : Int32) (v_fault : Int32) (v_sightMany : Int32) (v_bookMany : Int32) (v_at : Int32) (v_begin : Int32) (v_sign : Int32) (v_figures : Int32) (v_value : Int32) (v_wrong : Int32) (v_seed : Int64) (a1 : Int32) (out : Int32 × Int64) (hrun : fX12_seed v_seed a1 = some out) : Met l yX12_seed wsX12_seed rmX12_seed (va_Pc [.ref q_this, .int a1] (fun U => U.heap.size = sz ∧ va_P (dC, dI) vwCl [(q_this, .inr (12, [.ref q_town, .ref q_read, .ref q_now, .ref q_aside, .ref q_past, .int v_undos, .ref q_images, .ref q_kept, .long v_seed, .ref q_text, .int v_size, .int v_fault, .ref q_sights, .int v_sightMany, .ref q_book, .int v_bookMany, .int v_at, .int v_begin, .int v_sign, .int v_figures, .int v_value, .int v_wrong, .ref q_went, .ref q_free, .ref q_stands]))] U.heap ∧ va_K (dC, dI) vwCl [(cI, .int), (cZ, .boolean)] U ∧ va_D (fun _ => True) [(q_this, .inr (12, [.ref q_town, .ref q_read, .ref q_now, .ref q_aside, .ref q_past, .int v_undos, .ref q_images, .ref q_kept, .long v_seed, .ref q_text, .int v_size, .int v_fault, .ref q_sights, .int v_sightMany, .ref q_book, .int v_bookMany, .int v_at, .int v_begin, .int v_sign, .int v_figures, .int v_value, .int v_wrong, .ref q_went, .ref q_free, .ref q_stands]))])) (va_Qi (fun (r : Int32) (_ : Unit) => r = out.1) (fun _ t => va_P (dC, dI) vwCl [(q_this, .inr (12, [.ref q_town, .ref q_read, .ref q_now, .ref q_aside, .ref q_past, .int v_undos, .ref q_images, .ref q_kept, .long out.2, .ref q_text, .int v_size, .int v_fault, .ref q_sights, .int v_sightMany, .ref q_book, .int v_bookMany, .int v_at, .int v_begin, .int v_sign, .int v_figures, .int v_value, .int v_wrong, .ref q_went, .ref q_free, .ref q_stands]))] t.heap ∧ va_K (dC, dI) vwCl [(cI, .int), (cZ, .boolean)] t ∧ va_D (va_A [(q_this, .inr (12, [.ref q_town, .ref q_read, .ref q_now, .ref q_aside, .ref q_past, .int v_undos, .ref q_images, .ref q_kept, .long v_seed, .ref q_text, .int v_size, .int v_fault, .ref q_sights, .int v_sightMany, .ref q_book, .int v_bookMany, .int v_at, .int v_begin, .int v_sign, .int v_figures, .int v_value, .int v_wrong, .ref q_went, .ref q_free, .ref q_stands]))] sz) [(q_this, .inr (12, [.ref q_town, .ref q_read, .ref q_now, .ref q_aside, .ref q_past, .int v_undos, .ref q_images, .ref q_kept, .long out.2, .ref q_text, .int v_size, .int v_fault, .ref q_sights, .int v_sightMany, .ref q_book, .int v_bookMany, .int v_at, .int v_begin, .int v_sign, .int v_figures, .int v_value, .int v_wrong, .ref q_went, .ref q_free, .ref q_stands]))]) (va_A [(q_this, .inr (12, [.ref q_town, .ref q_read, .ref q_now, .ref q_aside, .ref q_past, .int v_undos, .ref q_images, .ref q_kept, .long v_seed, .ref q_text, .int v_size, .int v_fault, .ref q_sights, .int v_sightMany, .ref q_book, .int v_bookMany, .int v_at, .int v_begin, .int v_sign, .int v_figures, .int v_value, .int v_wrong, .ref q_went, .ref q_free, .ref q_stands]))] sz)) 0 0 (va_A [(q_this, .inr (12, [.ref q_town, .ref q_read, .ref q_now, .ref q_aside, .ref q_past, .int v_undos, .ref q_images, .ref q_kept, .long v_seed, .ref q_text, .int v_size, .int v_fault, .ref q_sights, .int v_sightMany, .ref q_book, .int v_bookMany, .int v_at, .int v_begin, .int v_sign, .int v_figures, .int v_value, .int v_wrong, .ref q_went, .ref q_free, .ref q_stands]))] sz) := by
  refine Met.ofW (cc := cX12_seed) (maxL := 3) (ret := (some .int)) (by decide) rfl ?_
  intro p e s m args below meth c s₁ B hml hv
  obtain ⟨rfl, hsz, hP, hK, hD0⟩ := hv
  have hx := B.exec
  have hb := B.bytes
  have hr := B.returns
  have hts := atoms_spec (ws := wsX12_seed) B.pre
  have hown : s.vm.findClass RX12 = some m.cls := findClass_of_methodNamed B.named
  have hlocks := B.notSynchronized
  subst hsz
  have hD := hD0.self (sz := s.heap.size)
  generalize hAe : va_A [(q_this, .inr (12, [.ref q_town, .ref q_read, .ref q_now, .ref q_aside, .ref q_past, .int v_undos, .ref q_images, .ref q_kept, .long v_seed, .ref q_text, .int v_size, .int v_fault, .ref q_sights, .int v_sightMany, .ref q_book, .int v_bookMany, .int v_at, .int v_begin, .int v_sign, .int v_figures, .int v_value, .int v_wrong, .ref q_went, .ref q_free, .ref q_stands]))] s.heap.size = A at hD ⊢
  have hA : ∀ q : Nat, s.heap.size ≤ q → A q := fun q h => by rw [← hAe]; exact Or.inr h
  have hS : va_S A s.heap s.heap [] := va_S.rf
  have hl := lv_entry ([.ref q_this, .int a1]) (n := 3) (Nat.le_of_ble_eq_true rfl)
  rw [lg_entry_eq]
  generalize (lg_sl ([.ref q_this, .int a1]) ++ List.replicate (3 - (lg_sl ([.ref q_this, .int a1])).length) Slot.unset).toArray = ls at hl ⊢
  have hl : lv_has ls 3 [(0, .ref q_this), (1, .int a1)] := hl
  unfold fX12_seed at hrun
  have hk177 := hts (.fieldLink RX12 177 "LentDrainsModel" "seed" "J") (by decide +kernel)
  have hiX12 : ∀ w ∈ wsX120, w ∈ wsX12_seed := by decide +kernel
  have hk69 := hts (.constant RX12 69 (-1000000002)) (by decide +kernel)
  refine oz_genQ (fun Q hQ => ?_)
  refine lv_iload_n hx hb dX12_seed_0 rfl (lv_at hl 1 rfl) ?_
  refine lv_if_ge (tgt := 7) hx hb dX12_seed_1 (by decide) (fun c1 => ?_) (fun c1 => ?_)
  · have hrun := oz_t hrun c1
    refine lv_aload_n hx hb dX12_seed_7 rfl (lv_at hl 0 rfl) ?_
    refine va_get (D := (dC, dI)) (ci := 12) (v := .long v_seed) (C := RX12) (T := TX12) (N := 25) hx hb hts hiX12 hown hK hP 0 rfl rfl 8 (by decide) hk177 (fun _ h9 => h9) rfl dX12_seed_8 ?_
    refine lv_l2i hx hb dX12_seed_11 rfl ?_
    refine lv_istore_n (lv' := [(2, .int (Int64.toInt32 v_seed)), (0, .ref q_this), (1, .int a1)]) hx hb dX12_seed_12 rfl hl (by decide) rfl (fun ls hl => ?_)
    refine lv_aload_n hx hb dX12_seed_13 rfl (lv_at hl 1 rfl) ?_
    refine lv_iload_n hx hb dX12_seed_14 rfl (lv_at hl 2 rfl) ?_
    refine lv_i2l hx hb dX12_seed_15 rfl ?_
    refine va_put (D := (dC, dI)) (ci := 12) (v := .long (Int32.toInt64 a1)) (ty := .long) (C := RX12) (T := TX12) (N := 25) hx hb hts hiX12 tyX12 tyX12_ok nmX12 hown hK hP hD hS 0 rfl rfl 8 (by decide) hk177 (fun _ h9 => h9) rfl (by decide +kernel) rfl rfl (Nat.le_of_ble_eq_true rfl) dX12_seed_16 (fun H locs hP hD hS => ?_)
    have hP : va_P (dC, dI) vwCl [(q_this, .inr (12, [.ref q_town, .ref q_read, .ref q_now, .ref q_aside, .ref q_past, .int v_undos, .ref q_images, .ref q_kept, .long (Int32.toInt64 a1), .ref q_text, .int v_size, .int v_fault, .ref q_sights, .int v_sightMany, .ref q_book, .int v_bookMany, .int v_at, .int v_begin, .int v_sign, .int v_figures, .int v_value, .int v_wrong, .ref q_went, .ref q_free, .ref q_stands]))] H := hP
    have hD : va_D A [(q_this, .inr (12, [.ref q_town, .ref q_read, .ref q_now, .ref q_aside, .ref q_past, .int v_undos, .ref q_images, .ref q_kept, .long (Int32.toInt64 a1), .ref q_text, .int v_size, .int v_fault, .ref q_sights, .int v_sightMany, .ref q_book, .int v_bookMany, .int v_at, .int v_begin, .int v_sign, .int v_figures, .int v_value, .int v_wrong, .ref q_went, .ref q_free, .ref q_stands]))] := hD
    refine lv_iload_n hx hb dX12_seed_19 rfl (lv_at hl 0 rfl) ?_
    have ho9 := Option.some.inj hrun
    subst ho9
    have hP9 := hP.sub (ws' := [(q_this, .inr (12, [.ref q_town, .ref q_read, .ref q_now, .ref q_aside, .ref q_past, .int v_undos, .ref q_images, .ref q_kept, .long (Int32.toInt64 a1), .ref q_text, .int v_size, .int v_fault, .ref q_sights, .int v_sightMany, .ref q_book, .int v_bookMany, .int v_at, .int v_begin, .int v_sign, .int v_figures, .int v_value, .int v_wrong, .ref q_went, .ref q_free, .ref q_stands]))]) [0] rfl
    have hD9 := hD.sub (ws' := [(q_this, .inr (12, [.ref q_town, .ref q_read, .ref q_now, .ref q_aside, .ref q_past, .int v_undos, .ref q_images, .ref q_kept, .long (Int32.toInt64 a1), .ref q_text, .int v_size, .int v_fault, .ref q_sights, .int v_sightMany, .ref q_book, .int v_bookMany, .int v_at, .int v_begin, .int v_sign, .int v_figures, .int v_value, .int v_wrong, .ref q_went, .ref q_free, .ref q_stands]))]) [0] (by decide) rfl
    rw [hQ]
    exact W.iret (v := (Int64.toInt32 v_seed)) hx hb hr (fun t ht hW => ⟨⟨(Int64.toInt32 v_seed), (), rfl, rfl, by rw [ht]; exact hP9, va_K.moved hW.alike hK, hD9⟩, hS.F ht⟩) hS.2.2 dX12_seed_20
  · have hrun := oz_f hrun c1
    refine lv_ldc hx hb hown hk69 dX12_seed_4 ?_
    have ho9 := Option.some.inj hrun
    subst ho9
    have hP9 := hP.sub (ws' := [(q_this, .inr (12, [.ref q_town, .ref q_read, .ref q_now, .ref q_aside, .ref q_past, .int v_undos, .ref q_images, .ref q_kept, .long v_seed, .ref q_text, .int v_size, .int v_fault, .ref q_sights, .int v_sightMany, .ref q_book, .int v_bookMany, .int v_at, .int v_begin, .int v_sign, .int v_figures, .int v_value, .int v_wrong, .ref q_went, .ref q_free, .ref q_stands]))]) [0] rfl
    have hD9 := hD.sub (ws' := [(q_this, .inr (12, [.ref q_town, .ref q_read, .ref q_now, .ref q_aside, .ref q_past, .int v_undos, .ref q_images, .ref q_kept, .long v_seed, .ref q_text, .int v_size, .int v_fault, .ref q_sights, .int v_sightMany, .ref q_book, .int v_bookMany, .int v_at, .int v_begin, .int v_sign, .int v_figures, .int v_value, .int v_wrong, .ref q_went, .ref q_free, .ref q_stands]))]) [0] (by decide) rfl
    rw [hQ]
    exact W.iret (v := (-1000000002)) hx hb hr (fun t ht hW => ⟨⟨(-1000000002), (), rfl, rfl, by rw [ht]; exact hP9, va_K.moved hW.alike hK, hD9⟩, hS.F ht⟩) hS.2.2 dX12_seed_6
def fX12_keep (v_undos : Int32) (v_seed : Int64) (v_now : Nat → Int32) (v_images : Nat → Int32) (v_kept : Nat → Int32) (a1 : Int32) : Option (Int32 × Int32 × (Nat → Int32) × (Nat → Int32)) :=
  Option.bind (fX12_in (Int32.toInt64 a1) (0 : Int64) (1 : Int64)) (fun y4 => if y4 = 0 then (some ((-1000000001), v_undos, v_images, v_kept)) else (Option.bind (fX12_copies 19 40 v_now v_images 0 (20 * a1) 19) (fun y28 => if (((20 * a1) + 19) < 0 ∨ 40 ≤ Int32.toNatClampNeg ((20 * a1) + 19)) then none else if (a1 < 0 ∨ 2 ≤ Int32.toNatClampNeg a1) then none else some (1, 0, (upd y28 (Int32.toNatClampNeg ((20 * a1) + 19)) (Int64.toInt32 v_seed)), (upd v_kept (Int32.toNatClampNeg a1) (vp_nar .boolean 1))))))
def rmX12_keep : Room := { frames := 1, cells := 0, slots := 0, locals := 25 }
set_option maxHeartbeats 4000000 in
set_option maxRecDepth 100000 in
theorem tX12_keep (l : Launch) (dC : Nat → ClassId) (dI : Nat → Nat → Nat) (cI cZ : ClassId) (q_aside q_book q_free q_images q_kept q_now q_past q_read q_sights q_stands q_text q_this q_town q_went : Nat) (sz : Nat) (v_size : Int32) (v_fault : Int32) (v_sightMany : Int32) (v_bookMany : Int32) (v_at : Int32) (v_begin : Int32) (v_sign : Int32) (v_figures : Int32) (v_value : Int32) (v_wrong : Int32) (v_undos : Int32) (v_seed : Int64) (v_now : Nat → Int32) (v_images : Nat → Int32) (v_kept : Nat → Int32) (a1 : Int32) (out : Int32 × Int32 × (Nat → Int32) × (Nat → Int32)) (hrun : fX12_keep v_undos v_seed v_now v_images v_kept a1 = some out) : Met l yX12_keep wsX12_keep rmX12_keep (va_Pc [.ref q_this, .int a1] (fun U => U.heap.size = sz ∧ va_P (dC, dI) vwCl [(q_this, .inr (12, [.ref q_town, .ref q_read, .ref q_now, .ref q_aside, .ref q_past, .int v_undos, .ref q_images, .ref q_kept, .long v_seed, .ref q_text, .int v_size, .int v_fault, .ref q_sights, .int v_sightMany, .ref q_book, .int v_bookMany, .int v_at, .int v_begin, .int v_sign, .int v_figures, .int v_value, .int v_wrong, .ref q_went, .ref q_free, .ref q_stands])), (q_now, .inl (cI, 19, .inl v_now)), (q_images, .inl (cI, 40, .inl v_images)), (q_kept, .inl (cZ, 2, .inl v_kept))] U.heap ∧ va_K (dC, dI) vwCl [(cI, .int), (cZ, .boolean)] U ∧ va_D (fun _ => True) [(q_this, .inr (12, [.ref q_town, .ref q_read, .ref q_now, .ref q_aside, .ref q_past, .int v_undos, .ref q_images, .ref q_kept, .long v_seed, .ref q_text, .int v_size, .int v_fault, .ref q_sights, .int v_sightMany, .ref q_book, .int v_bookMany, .int v_at, .int v_begin, .int v_sign, .int v_figures, .int v_value, .int v_wrong, .ref q_went, .ref q_free, .ref q_stands])), (q_now, .inl (cI, 19, .inl v_now)), (q_images, .inl (cI, 40, .inl v_images)), (q_kept, .inl (cZ, 2, .inl v_kept))])) (va_Qi (fun (r : Int32) (_ : Unit) => r = out.1) (fun _ t => va_P (dC, dI) vwCl [(q_this, .inr (12, [.ref q_town, .ref q_read, .ref q_now, .ref q_aside, .ref q_past, .int out.2.1, .ref q_images, .ref q_kept, .long v_seed, .ref q_text, .int v_size, .int v_fault, .ref q_sights, .int v_sightMany, .ref q_book, .int v_bookMany, .int v_at, .int v_begin, .int v_sign, .int v_figures, .int v_value, .int v_wrong, .ref q_went, .ref q_free, .ref q_stands])), (q_now, .inl (cI, 19, .inl v_now)), (q_images, .inl (cI, 40, .inl out.2.2.1)), (q_kept, .inl (cZ, 2, .inl out.2.2.2))] t.heap ∧ va_K (dC, dI) vwCl [(cI, .int), (cZ, .boolean)] t ∧ va_D (va_A [(q_this, .inr (12, [.ref q_town, .ref q_read, .ref q_now, .ref q_aside, .ref q_past, .int v_undos, .ref q_images, .ref q_kept, .long v_seed, .ref q_text, .int v_size, .int v_fault, .ref q_sights, .int v_sightMany, .ref q_book, .int v_bookMany, .int v_at, .int v_begin, .int v_sign, .int v_figures, .int v_value, .int v_wrong, .ref q_went, .ref q_free, .ref q_stands])), (q_now, .inl (cI, 19, .inl v_now)), (q_images, .inl (cI, 40, .inl v_images)), (q_kept, .inl (cZ, 2, .inl v_kept))] sz) [(q_this, .inr (12, [.ref q_town, .ref q_read, .ref q_now, .ref q_aside, .ref q_past, .int out.2.1, .ref q_images, .ref q_kept, .long v_seed, .ref q_text, .int v_size, .int v_fault, .ref q_sights, .int v_sightMany, .ref q_book, .int v_bookMany, .int v_at, .int v_begin, .int v_sign, .int v_figures, .int v_value, .int v_wrong, .ref q_went, .ref q_free, .ref q_stands])), (q_now, .inl (cI, 19, .inl v_now)), (q_images, .inl (cI, 40, .inl out.2.2.1)), (q_kept, .inl (cZ, 2, .inl out.2.2.2))]) (va_A [(q_this, .inr (12, [.ref q_town, .ref q_read, .ref q_now, .ref q_aside, .ref q_past, .int v_undos, .ref q_images, .ref q_kept, .long v_seed, .ref q_text, .int v_size, .int v_fault, .ref q_sights, .int v_sightMany, .ref q_book, .int v_bookMany, .int v_at, .int v_begin, .int v_sign, .int v_figures, .int v_value, .int v_wrong, .ref q_went, .ref q_free, .ref q_stands])), (q_now, .inl (cI, 19, .inl v_now)), (q_images, .inl (cI, 40, .inl v_images)), (q_kept, .inl (cZ, 2, .inl v_kept))] sz)) 0 0 (va_A [(q_this, .inr (12, [.ref q_town, .ref q_read, .ref q_now, .ref q_aside, .ref q_past, .int v_undos, .ref q_images, .ref q_kept, .long v_seed, .ref q_text, .int v_size, .int v_fault, .ref q_sights, .int v_sightMany, .ref q_book, .int v_bookMany, .int v_at, .int v_begin, .int v_sign, .int v_figures, .int v_value, .int v_wrong, .ref q_went, .ref q_free, .ref q_stands])), (q_now, .inl (cI, 19, .inl v_now)), (q_images, .inl (cI, 40, .inl v_images)), (q_kept, .inl (cZ, 2, .inl v_kept))] sz) := by
  refine Met.ofW (cc := cX12_keep) (maxL := 2) (ret := (some .int)) (by decide) rfl ?_
  intro p e s m args below meth c s₁ B hml hv
  obtain ⟨rfl, hsz, hP, hK, hD0⟩ := hv
  have hx := B.exec
  have hb := B.bytes
  have hr := B.returns
  have hts := atoms_spec (ws := wsX12_keep) B.pre
  have hown : s.vm.findClass RX12 = some m.cls := findClass_of_methodNamed B.named
  have hlocks := B.notSynchronized
  subst hsz
  have hD := hD0.self (sz := s.heap.size)
  generalize hAe : va_A [(q_this, .inr (12, [.ref q_town, .ref q_read, .ref q_now, .ref q_aside, .ref q_past, .int v_undos, .ref q_images, .ref q_kept, .long v_seed, .ref q_text, .int v_size, .int v_fault, .ref q_sights, .int v_sightMany, .ref q_book, .int v_bookMany, .int v_at, .int v_begin, .int v_sign, .int v_figures, .int v_value, .int v_wrong, .ref q_went, .ref q_free, .ref q_stands])), (q_now, .inl (cI, 19, .inl v_now)), (q_images, .inl (cI, 40, .inl v_images)), (q_kept, .inl (cZ, 2, .inl v_kept))] s.heap.size = A at hD ⊢
  have hA : ∀ q : Nat, s.heap.size ≤ q → A q := fun q h => by rw [← hAe]; exact Or.inr h
  have hS : va_S A s.heap s.heap [] := va_S.rf
  have hl := lv_entry ([.ref q_this, .int a1]) (n := 2) (Nat.le_of_ble_eq_true rfl)
  rw [lg_entry_eq]
  generalize (lg_sl ([.ref q_this, .int a1]) ++ List.replicate (2 - (lg_sl ([.ref q_this, .int a1])).length) Slot.unset).toArray = ls at hl ⊢
  have hl : lv_has ls 2 [(0, .ref q_this), (1, .int a1)] := hl
  unfold fX12_keep at hrun
  have hk16 := hts (.fieldLink RX12 16 "LentDrainsModel" "now" "[I") (by decide +kernel)
  have hiX12 : ∀ w ∈ wsX120, w ∈ wsX12_keep := by decide +kernel
  have hk25 := hts (.fieldLink RX12 25 "LentDrainsModel" "images" "[I") (by decide +kernel)
  have hk177 := hts (.fieldLink RX12 177 "LentDrainsModel" "seed" "J") (by decide +kernel)
  have hk28 := hts (.fieldLink RX12 28 "LentDrainsModel" "kept" "[Z") (by decide +kernel)
  have hk54 := hts (.fieldLink RX12 54 "LentDrainsModel" "undos" "I") (by decide +kernel)
  have hk151 := hts (.constant RX12 151 (-1000000001)) (by decide +kernel)
  refine oz_genQ (fun Q hQ => ?_)
  refine lv_iload_n hx hb dX12_keep_0 rfl (lv_at hl 1 rfl) ?_
  refine lv_i2l hx hb dX12_keep_1 rfl ?_
  refine lv_lconst (v := 0) hx hb dX12_keep_2 (by decide) ?_
  refine lv_lconst (v := 1) hx hb dX12_keep_3 (by decide) ?_
  obtain ⟨y4, hc4, hrun⟩ := oz_bind hrun
  have hPc := hP.sub (ws' := []) [] rfl
  have hDc := hD.sub (ws' := []) [] (by decide) rfl
  have hFc := va_free (wc := []) hD hS hA [] rfl
  refine va_calli (va_runS (As := [.long (Int32.toInt64 a1), .long (0 : Int64), .long (1 : Int64)]) (rest := []) ⟨hx, hb, hml, hown, hts⟩ (tX12_in l dC dI cI cZ s.heap.size (Int32.toInt64 a1) (0 : Int64) (1 : Int64) y4 hc4) (va_cwS 3 hts gX12_keep_X12_in rfl rfl rfl (by decide +kernel) ⟨Nat.le_of_ble_eq_true rfl, Nat.le_of_ble_eq_true rfl⟩) ⟨fun a U g mk q => by obtain ⟨q0, q1, qP, qK, qD⟩ := q; exact ⟨q0, q1, qP, va_K.moved (u := U) (U := U.calling g mk a) (Vm.Alike.refl U.vm) qK, qD⟩, fun U hU hW => ⟨rfl, by rw [hU], by rw [hU]; exact hPc, va_K.moved hW.alike hK, hDc.weaken (fun _ _ _ _ => trivial)⟩⟩ rfl rfl hl.1 rfl (lv_room (Nat.le_of_ble_eq_true rfl)) dX12_keep_4 ⟨Nat.le_of_ble_eq_true rfl, Nat.le_of_ble_eq_true rfl⟩) hS (fun q _ h => hFc q h) hFc (fun r4 u9 t9 H1 locs ht9 hvm9 hw9 hB9 hz9 hkk9 hS => ?_)
  have hw9 : y4 = r4 := hw9.symm
  subst hw9
  obtain ⟨hP9, hK9, hD9⟩ := hB9
  rw [ht9] at hP9
  obtain ⟨hP, hD⟩ := va_join (wr := [(q_this, .inr (12, [.ref q_town, .ref q_read, .ref q_now, .ref q_aside, .ref q_past, .int v_undos, .ref q_images, .ref q_kept, .long v_seed, .ref q_text, .int v_size, .int v_fault, .ref q_sights, .int v_sightMany, .ref q_book, .int v_bookMany, .int v_at, .int v_begin, .int v_sign, .int v_figures, .int v_value, .int v_wrong, .ref q_went, .ref q_free, .ref q_stands])), (q_now, .inl (cI, 19, .inl v_now)), (q_images, .inl (cI, 40, .inl v_images)), (q_kept, .inl (cZ, 2, .inl v_kept))]) (w1 := []) hP hD [] [0, 1, 2, 3] rfl rfl (by decide) (by decide) hkk9 hFc hP9 hD9
  generalize H1 = H at hP hS ⊢
  have hP : va_P (dC, dI) vwCl [(q_this, .inr (12, [.ref q_town, .ref q_read, .ref q_now, .ref q_aside, .ref q_past, .int v_undos, .ref q_images, .ref q_kept, .long v_seed, .ref q_text, .int v_size, .int v_fault, .ref q_sights, .int v_sightMany, .ref q_book, .int v_bookMany, .int v_at, .int v_begin, .int v_sign, .int v_figures, .int v_value, .int v_wrong, .ref q_went, .ref q_free, .ref q_stands])), (q_now, .inl (cI, 19, .inl v_now)), (q_images, .inl (cI, 40, .inl v_images)), (q_kept, .inl (cZ, 2, .inl v_kept))] H := hP
  have hD : va_D A [(q_this, .inr (12, [.ref q_town, .ref q_read, .ref q_now, .ref q_aside, .ref q_past, .int v_undos, .ref q_images, .ref q_kept, .long v_seed, .ref q_text, .int v_size, .int v_fault, .ref q_sights, .int v_sightMany, .ref q_book, .int v_bookMany, .int v_at, .int v_begin, .int v_sign, .int v_figures, .int v_value, .int v_wrong, .ref q_went, .ref q_free, .ref q_stands])), (q_now, .inl (cI, 19, .inl v_now)), (q_images, .inl (cI, 40, .inl v_images)), (q_kept, .inl (cZ, 2, .inl v_kept))] := hD
  refine lv_if_ne (tgt := 13) hx hb dX12_keep_7 (by decide) (fun c1 => ?_) (fun c1 => ?_)
  · have hrun := oz_f hrun c1
    refine lv_aload_n hx hb dX12_keep_13 rfl (lv_at hl 0 rfl) ?_
    refine va_get (D := (dC, dI)) (ci := 12) (v := .ref q_now) (C := RX12) (T := TX12) (N := 25) hx hb hts hiX12 hown hK hP 0 rfl rfl 2 (by decide) hk16 (fun _ h9 => h9) rfl dX12_keep_14 ?_
    refine lv_iconst (v := 0) hx hb dX12_keep_17 (by decide) ?_
    refine lv_aload_n hx hb dX12_keep_18 rfl (lv_at hl 0 rfl) ?_
    refine va_get (D := (dC, dI)) (ci := 12) (v := .ref q_images) (C := RX12) (T := TX12) (N := 25) hx hb hts hiX12 hown hK hP 0 rfl rfl 6 (by decide) hk25 (fun _ h9 => h9) rfl dX12_keep_19 ?_
    refine lv_bipush (v := 20) hx hb dX12_keep_22 (by decide) ?_
    refine lv_iload_n hx hb dX12_keep_24 rfl (lv_at hl 1 rfl) ?_
    refine lv_imul hx hb dX12_keep_25 ?_
    refine lv_bipush (v := 19) hx hb dX12_keep_26 (by decide) ?_
    obtain ⟨y28, hc28, hrun⟩ := oz_bind hrun
    have hPc := hP.sub (ws' := [(q_now, .inl (cI, 19, .inl v_now)), (q_images, .inl (cI, 40, .inl v_images))]) [1, 2] rfl
    have hDc := hD.sub (ws' := [(q_now, .inl (cI, 19, .inl v_now)), (q_images, .inl (cI, 40, .inl v_images))]) [1, 2] (by decide) rfl
    have hFc := va_free (wc := [(q_now, .inl (cI, 19, .inl v_now)), (q_images, .inl (cI, 40, .inl v_images))]) hD hS hA [1, 2] rfl
    refine va_callv (va_runS (As := [.ref q_now, .int 0, .ref q_images, .int (20 * a1), .int 19]) (rest := []) ⟨hx, hb, hml, hown, hts⟩ (tX12_copies l dC dI cI cZ q_now q_images H.size 19 40 v_now v_images 0 (20 * a1) 19 y28 hc28) (va_cwS 5 hts gX12_keep_X12_copies rfl rfl rfl (by decide +kernel) ⟨Nat.le_of_ble_eq_true rfl, Nat.le_of_ble_eq_true rfl⟩) ⟨fun a U g mk q => by obtain ⟨q0, q1, qP, qK, qD⟩ := q; exact ⟨q0, q1, qP, va_K.moved (u := U) (U := U.calling g mk a) (Vm.Alike.refl U.vm) qK, qD⟩, fun U hU hW => ⟨rfl, by rw [hU], by rw [hU]; exact hPc, va_K.moved hW.alike hK, hDc.weaken (fun _ _ _ _ => trivial)⟩⟩ rfl rfl hl.1 rfl (lv_room (Nat.le_of_ble_eq_true rfl)) dX12_keep_28 ⟨Nat.le_of_ble_eq_true rfl, Nat.le_of_ble_eq_true rfl⟩) hS (fun q _ h => hFc q h) hFc (fun u9 t9 H1 locs ht9 hvm9 hw9 hB9 hz9 hkk9 hS => ?_)
    obtain ⟨hP9, hK9, hD9⟩ := hB9
    rw [ht9] at hP9
    obtain ⟨hP, hD⟩ := va_join (wr := [(q_this, .inr (12, [.ref q_town, .ref q_read, .ref q_now, .ref q_aside, .ref q_past, .int v_undos, .ref q_images, .ref q_kept, .long v_seed, .ref q_text, .int v_size, .int v_fault, .ref q_sights, .int v_sightMany, .ref q_book, .int v_bookMany, .int v_at, .int v_begin, .int v_sign, .int v_figures, .int v_value, .int v_wrong, .ref q_went, .ref q_free, .ref q_stands])), (q_kept, .inl (cZ, 2, .inl v_kept))]) (w1 := [(q_now, .inl (cI, 19, .inl v_now)), (q_images, .inl (cI, 40, .inl y28))]) hP hD [1, 2] [0, 3] rfl rfl (by decide) (by decide) hkk9 hFc hP9 hD9
    generalize H1 = H at hP hS ⊢
    have hP : va_P (dC, dI) vwCl [(q_this, .inr (12, [.ref q_town, .ref q_read, .ref q_now, .ref q_aside, .ref q_past, .int v_undos, .ref q_images, .ref q_kept, .long v_seed, .ref q_text, .int v_size, .int v_fault, .ref q_sights, .int v_sightMany, .ref q_book, .int v_bookMany, .int v_at, .int v_begin, .int v_sign, .int v_figures, .int v_value, .int v_wrong, .ref q_went, .ref q_free, .ref q_stands])), (q_kept, .inl (cZ, 2, .inl v_kept)), (q_now, .inl (cI, 19, .inl v_now)), (q_images, .inl (cI, 40, .inl y28))] H := hP
    have hD : va_D A [(q_this, .inr (12, [.ref q_town, .ref q_read, .ref q_now, .ref q_aside, .ref q_past, .int v_undos, .ref q_images, .ref q_kept, .long v_seed, .ref q_text, .int v_size, .int v_fault, .ref q_sights, .int v_sightMany, .ref q_book, .int v_bookMany, .int v_at, .int v_begin, .int v_sign, .int v_figures, .int v_value, .int v_wrong, .ref q_went, .ref q_free, .ref q_stands])), (q_kept, .inl (cZ, 2, .inl v_kept)), (q_now, .inl (cI, 19, .inl v_now)), (q_images, .inl (cI, 40, .inl y28))] := hD
    refine lv_aload_n hx hb dX12_keep_31 rfl (lv_at hl 0 rfl) ?_
    refine va_get (D := (dC, dI)) (ci := 12) (v := .ref q_images) (C := RX12) (T := TX12) (N := 25) hx hb hts hiX12 hown hK hP 0 rfl rfl 6 (by decide) hk25 (fun _ h9 => h9) rfl dX12_keep_32 ?_
    refine lv_bipush (v := 20) hx hb dX12_keep_35 (by decide) ?_
    refine lv_iload_n hx hb dX12_keep_37 rfl (lv_at hl 1 rfl) ?_
    refine lv_imul hx hb dX12_keep_38 ?_
    refine lv_bipush (v := 19) hx hb dX12_keep_39 (by decide) ?_
    refine lv_iadd hx hb dX12_keep_41 ?_
    refine lv_aload_n hx hb dX12_keep_42 rfl (lv_at hl 0 rfl) ?_
    refine va_get (D := (dC, dI)) (ci := 12) (v := .long v_seed) (C := RX12) (T := TX12) (N := 25) hx hb hts hiX12 hown hK hP 0 rfl rfl 8 (by decide) hk177 (fun _ h9 => h9) rfl dX12_keep_43 ?_
    refine lv_l2i hx hb dX12_keep_46 rfl ?_
    obtain ⟨c2, hrun⟩ := oz_chk hrun
    refine va_iast hx hb hK hP hD hS 3 0 rfl rfl c2 dX12_keep_47 (fun H locs hP hD hS => ?_)
    have hP : va_P (dC, dI) vwCl [(q_this, .inr (12, [.ref q_town, .ref q_read, .ref q_now, .ref q_aside, .ref q_past, .int v_undos, .ref q_images, .ref q_kept, .long v_seed, .ref q_text, .int v_size, .int v_fault, .ref q_sights, .int v_sightMany, .ref q_book, .int v_bookMany, .int v_at, .int v_begin, .int v_sign, .int v_figures, .int v_value, .int v_wrong, .ref q_went, .ref q_free, .ref q_stands])), (q_kept, .inl (cZ, 2, .inl v_kept)), (q_now, .inl (cI, 19, .inl v_now)), (q_images, .inl (cI, 40, .inl (upd y28 (Int32.toNatClampNeg ((20 * a1) + 19)) (Int64.toInt32 v_seed))))] H := hP
    have hD : va_D A [(q_this, .inr (12, [.ref q_town, .ref q_read, .ref q_now, .ref q_aside, .ref q_past, .int v_undos, .ref q_images, .ref q_kept, .long v_seed, .ref q_text, .int v_size, .int v_fault, .ref q_sights, .int v_sightMany, .ref q_book, .int v_bookMany, .int v_at, .int v_begin, .int v_sign, .int v_figures, .int v_value, .int v_wrong, .ref q_went, .ref q_free, .ref q_stands])), (q_kept, .inl (cZ, 2, .inl v_kept)), (q_now, .inl (cI, 19, .inl v_now)), (q_images, .inl (cI, 40, .inl (upd y28 (Int32.toNatClampNeg ((20 * a1) + 19)) (Int64.toInt32 v_seed))))] := hD
    refine lv_aload_n hx hb dX12_keep_48 rfl (lv_at hl 0 rfl) ?_
    refine va_get (D := (dC, dI)) (ci := 12) (v := .ref q_kept) (C := RX12) (T := TX12) (N := 25) hx hb hts hiX12 hown hK hP 0 rfl rfl 7 (by decide) hk28 (fun _ h9 => h9) rfl dX12_keep_49 ?_
    refine lv_iload_n hx hb dX12_keep_52 rfl (lv_at hl 1 rfl) ?_
    refine lv_iconst (v := 1) hx hb dX12_keep_53 (by decide) ?_
    obtain ⟨c3, hrun⟩ := oz_chk hrun
    refine va_zast hx hb hK hP hD hS 1 1 rfl rfl c3 dX12_keep_54 (fun H locs hP hD hS => ?_)
    have hP : va_P (dC, dI) vwCl [(q_this, .inr (12, [.ref q_town, .ref q_read, .ref q_now, .ref q_aside, .ref q_past, .int v_undos, .ref q_images, .ref q_kept, .long v_seed, .ref q_text, .int v_size, .int v_fault, .ref q_sights, .int v_sightMany, .ref q_book, .int v_bookMany, .int v_at, .int v_begin, .int v_sign, .int v_figures, .int v_value, .int v_wrong, .ref q_went, .ref q_free, .ref q_stands])), (q_kept, .inl (cZ, 2, .inl (upd v_kept (Int32.toNatClampNeg a1) (vp_nar .boolean 1)))), (q_now, .inl (cI, 19, .inl v_now)), (q_images, .inl (cI, 40, .inl (upd y28 (Int32.toNatClampNeg ((20 * a1) + 19)) (Int64.toInt32 v_seed))))] H := hP
    have hD : va_D A [(q_this, .inr (12, [.ref q_town, .ref q_read, .ref q_now, .ref q_aside, .ref q_past, .int v_undos, .ref q_images, .ref q_kept, .long v_seed, .ref q_text, .int v_size, .int v_fault, .ref q_sights, .int v_sightMany, .ref q_book, .int v_bookMany, .int v_at, .int v_begin, .int v_sign, .int v_figures, .int v_value, .int v_wrong, .ref q_went, .ref q_free, .ref q_stands])), (q_kept, .inl (cZ, 2, .inl (upd v_kept (Int32.toNatClampNeg a1) (vp_nar .boolean 1)))), (q_now, .inl (cI, 19, .inl v_now)), (q_images, .inl (cI, 40, .inl (upd y28 (Int32.toNatClampNeg ((20 * a1) + 19)) (Int64.toInt32 v_seed))))] := hD
    refine lv_aload_n hx hb dX12_keep_55 rfl (lv_at hl 0 rfl) ?_
    refine lv_iconst (v := 0) hx hb dX12_keep_56 (by decide) ?_
    refine va_put (D := (dC, dI)) (ci := 12) (v := .int 0) (ty := .int) (C := RX12) (T := TX12) (N := 25) hx hb hts hiX12 tyX12 tyX12_ok nmX12 hown hK hP hD hS 0 rfl rfl 5 (by decide) hk54 (fun _ h9 => h9) rfl (by decide +kernel) rfl rfl (Nat.le_of_ble_eq_true rfl) dX12_keep_57 (fun H locs hP hD hS => ?_)
    have hP : va_P (dC, dI) vwCl [(q_this, .inr (12, [.ref q_town, .ref q_read, .ref q_now, .ref q_aside, .ref q_past, .int 0, .ref q_images, .ref q_kept, .long v_seed, .ref q_text, .int v_size, .int v_fault, .ref q_sights, .int v_sightMany, .ref q_book, .int v_bookMany, .int v_at, .int v_begin, .int v_sign, .int v_figures, .int v_value, .int v_wrong, .ref q_went, .ref q_free, .ref q_stands])), (q_kept, .inl (cZ, 2, .inl (upd v_kept (Int32.toNatClampNeg a1) (vp_nar .boolean 1)))), (q_now, .inl (cI, 19, .inl v_now)), (q_images, .inl (cI, 40, .inl (upd y28 (Int32.toNatClampNeg ((20 * a1) + 19)) (Int64.toInt32 v_seed))))] H := hP
    have hD : va_D A [(q_this, .inr (12, [.ref q_town, .ref q_read, .ref q_now, .ref q_aside, .ref q_past, .int 0, .ref q_images, .ref q_kept, .long v_seed, .ref q_text, .int v_size, .int v_fault, .ref q_sights, .int v_sightMany, .ref q_book, .int v_bookMany, .int v_at, .int v_begin, .int v_sign, .int v_figures, .int v_value, .int v_wrong, .ref q_went, .ref q_free, .ref q_stands])), (q_kept, .inl (cZ, 2, .inl (upd v_kept (Int32.toNatClampNeg a1) (vp_nar .boolean 1)))), (q_now, .inl (cI, 19, .inl v_now)), (q_images, .inl (cI, 40, .inl (upd y28 (Int32.toNatClampNeg ((20 * a1) + 19)) (Int64.toInt32 v_seed))))] := hD
    refine lv_iconst (v := 1) hx hb dX12_keep_60 (by decide) ?_
    have ho9 := Option.some.inj hrun
    subst ho9
    have hP9 := hP.sub (ws' := [(q_this, .inr (12, [.ref q_town, .ref q_read, .ref q_now, .ref q_aside, .ref q_past, .int 0, .ref q_images, .ref q_kept, .long v_seed, .ref q_text, .int v_size, .int v_fault, .ref q_sights, .int v_sightMany, .ref q_book, .int v_bookMany, .int v_at, .int v_begin, .int v_sign, .int v_figures, .int v_value, .int v_wrong, .ref q_went, .ref q_free, .ref q_stands])), (q_now, .inl (cI, 19, .inl v_now)), (q_images, .inl (cI, 40, .inl (upd y28 (Int32.toNatClampNeg ((20 * a1) + 19)) (Int64.toInt32 v_seed)))), (q_kept, .inl (cZ, 2, .inl (upd v_kept (Int32.toNatClampNeg a1) (vp_nar .boolean 1))))]) [0, 2, 3, 1] rfl
    have hD9 := hD.sub (ws' := [(q_this, .inr (12, [.ref q_town, .ref q_read, .ref q_now, .ref q_aside, .ref q_past, .int 0, .ref q_images, .ref q_kept, .long v_seed, .ref q_text, .int v_size, .int v_fault, .ref q_sights, .int v_sightMany, .ref q_book, .int v_bookMany, .int v_at, .int v_begin, .int v_sign, .int v_figures, .int v_value, .int v_wrong, .ref q_went, .ref q_free, .ref q_stands])), (q_now, .inl (cI, 19, .inl v_now)), (q_images, .inl (cI, 40, .inl (upd y28 (Int32.toNatClampNeg ((20 * a1) + 19)) (Int64.toInt32 v_seed)))), (q_kept, .inl (cZ, 2, .inl (upd v_kept (Int32.toNatClampNeg a1) (vp_nar .boolean 1))))]) [0, 2, 3, 1] (by decide) rfl
    rw [hQ]
    exact W.iret (v := 1) hx hb hr (fun t ht hW => ⟨⟨1, (), rfl, rfl, by rw [ht]; exact hP9, va_K.moved hW.alike hK, hD9⟩, hS.F ht⟩) hS.2.2 dX12_keep_61
  · have hrun := oz_t hrun c1
    refine lv_ldc hx hb hown hk151 dX12_keep_10 ?_
    have ho9 := Option.some.inj hrun
    subst ho9
    have hP9 := hP.sub (ws' := [(q_this, .inr (12, [.ref q_town, .ref q_read, .ref q_now, .ref q_aside, .ref q_past, .int v_undos, .ref q_images, .ref q_kept, .long v_seed, .ref q_text, .int v_size, .int v_fault, .ref q_sights, .int v_sightMany, .ref q_book, .int v_bookMany, .int v_at, .int v_begin, .int v_sign, .int v_figures, .int v_value, .int v_wrong, .ref q_went, .ref q_free, .ref q_stands])), (q_now, .inl (cI, 19, .inl v_now)), (q_images, .inl (cI, 40, .inl v_images)), (q_kept, .inl (cZ, 2, .inl v_kept))]) [0, 1, 2, 3] rfl
    have hD9 := hD.sub (ws' := [(q_this, .inr (12, [.ref q_town, .ref q_read, .ref q_now, .ref q_aside, .ref q_past, .int v_undos, .ref q_images, .ref q_kept, .long v_seed, .ref q_text, .int v_size, .int v_fault, .ref q_sights, .int v_sightMany, .ref q_book, .int v_bookMany, .int v_at, .int v_begin, .int v_sign, .int v_figures, .int v_value, .int v_wrong, .ref q_went, .ref q_free, .ref q_stands])), (q_now, .inl (cI, 19, .inl v_now)), (q_images, .inl (cI, 40, .inl v_images)), (q_kept, .inl (cZ, 2, .inl v_kept))]) [0, 1, 2, 3] (by decide) rfl
    rw [hQ]
    exact W.iret (v := (-1000000001)) hx hb hr (fun t ht hW => ⟨⟨(-1000000001), (), rfl, rfl, by rw [ht]; exact hP9, va_K.moved hW.alike hK, hD9⟩, hS.F ht⟩) hS.2.2 dX12_keep_12
def fX12_goBack (v_undos : Int32) (v_seed : Int64) (v_now : Nat → Int32) (v_images : Nat → Int32) (v_kept : Nat → Int32) (a1 : Int32) : Option (Int32 × Int32 × Int64 × (Nat → Int32)) :=
  Option.bind (fX12_in (Int32.toInt64 a1) (0 : Int64) (1 : Int64)) (fun y4 => if y4 = 0 then (some ((-1000000001), v_undos, v_seed, v_now)) else (if (a1 < 0 ∨ 2 ≤ Int32.toNatClampNeg a1) then none else if (v_kept (Int32.toNatClampNeg a1)) = 0 then (some ((-1000000003), v_undos, v_seed, v_now)) else (Option.bind (fX12_copies 40 19 v_images v_now (20 * a1) 0 19) (fun y40 => if (((20 * a1) + 19) < 0 ∨ 40 ≤ Int32.toNatClampNeg ((20 * a1) + 19)) then none else some (1, 0, (Int32.toInt64 (v_images (Int32.toNatClampNeg ((20 * a1) + 19)))), y40)))))
def rmX12_goBack : Room := { frames := 1, cells := 0, slots := 0, locals := 25 }
set_option maxHeartbeats 4000000 in
set_option maxRecDepth 100000 in
theorem tX12_goBack (l : Launch) (dC : Nat → ClassId) (dI : Nat → Nat → Nat) (cI cZ : ClassId) (q_aside q_book q_free q_images q_kept q_now q_past q_read q_sights q_stands q_text q_this q_town q_went : Nat) (sz : Nat) (v_size : Int32) (v_fault : Int32) (v_sightMany : Int32) (v_bookMany : Int32) (v_at : Int32) (v_begin : Int32) (v_sign : Int32) (v_figures : Int32) (v_value : Int32) (v_wrong : Int32) (v_undos : Int32) (v_seed : Int64) (v_now : Nat → Int32) (v_images : Nat → Int32) (v_kept : Nat → Int32) (a1 : Int32) (out : Int32 × Int32 × Int64 × (Nat → Int32)) (hrun : fX12_goBack v_undos v_seed v_now v_images v_kept a1 = some out) : Met l yX12_goBack wsX12_goBack rmX12_goBack (va_Pc [.ref q_this, .int a1] (fun U => U.heap.size = sz ∧ va_P (dC, dI) vwCl [(q_this, .inr (12, [.ref q_town, .ref q_read, .ref q_now, .ref q_aside, .ref q_past, .int v_undos, .ref q_images, .ref q_kept, .long v_seed, .ref q_text, .int v_size, .int v_fault, .ref q_sights, .int v_sightMany, .ref q_book, .int v_bookMany, .int v_at, .int v_begin, .int v_sign, .int v_figures, .int v_value, .int v_wrong, .ref q_went, .ref q_free, .ref q_stands])), (q_now, .inl (cI, 19, .inl v_now)), (q_images, .inl (cI, 40, .inl v_images)), (q_kept, .inl (cZ, 2, .inl v_kept))] U.heap ∧ va_K (dC, dI) vwCl [(cI, .int), (cZ, .boolean)] U ∧ va_D (fun _ => True) [(q_this, .inr (12, [.ref q_town, .ref q_read, .ref q_now, .ref q_aside, .ref q_past, .int v_undos, .ref q_images, .ref q_kept, .long v_seed, .ref q_text, .int v_size, .int v_fault, .ref q_sights, .int v_sightMany, .ref q_book, .int v_bookMany, .int v_at, .int v_begin, .int v_sign, .int v_figures, .int v_value, .int v_wrong, .ref q_went, .ref q_free, .ref q_stands])), (q_now, .inl (cI, 19, .inl v_now)), (q_images, .inl (cI, 40, .inl v_images)), (q_kept, .inl (cZ, 2, .inl v_kept))])) (va_Qi (fun (r : Int32) (_ : Unit) => r = out.1) (fun _ t => va_P (dC, dI) vwCl [(q_this, .inr (12, [.ref q_town, .ref q_read, .ref q_now, .ref q_aside, .ref q_past, .int out.2.1, .ref q_images, .ref q_kept, .long out.2.2.1, .ref q_text, .int v_size, .int v_fault, .ref q_sights, .int v_sightMany, .ref q_book, .int v_bookMany, .int v_at, .int v_begin, .int v_sign, .int v_figures, .int v_value, .int v_wrong, .ref q_went, .ref q_free, .ref q_stands])), (q_now, .inl (cI, 19, .inl out.2.2.2)), (q_images, .inl (cI, 40, .inl v_images)), (q_kept, .inl (cZ, 2, .inl v_kept))] t.heap ∧ va_K (dC, dI) vwCl [(cI, .int), (cZ, .boolean)] t ∧ va_D (va_A [(q_this, .inr (12, [.ref q_town, .ref q_read, .ref q_now, .ref q_aside, .ref q_past, .int v_undos, .ref q_images, .ref q_kept, .long v_seed, .ref q_text, .int v_size, .int v_fault, .ref q_sights, .int v_sightMany, .ref q_book, .int v_bookMany, .int v_at, .int v_begin, .int v_sign, .int v_figures, .int v_value, .int v_wrong, .ref q_went, .ref q_free, .ref q_stands])), (q_now, .inl (cI, 19, .inl v_now)), (q_images, .inl (cI, 40, .inl v_images)), (q_kept, .inl (cZ, 2, .inl v_kept))] sz) [(q_this, .inr (12, [.ref q_town, .ref q_read, .ref q_now, .ref q_aside, .ref q_past, .int out.2.1, .ref q_images, .ref q_kept, .long out.2.2.1, .ref q_text, .int v_size, .int v_fault, .ref q_sights, .int v_sightMany, .ref q_book, .int v_bookMany, .int v_at, .int v_begin, .int v_sign, .int v_figures, .int v_value, .int v_wrong, .ref q_went, .ref q_free, .ref q_stands])), (q_now, .inl (cI, 19, .inl out.2.2.2)), (q_images, .inl (cI, 40, .inl v_images)), (q_kept, .inl (cZ, 2, .inl v_kept))]) (va_A [(q_this, .inr (12, [.ref q_town, .ref q_read, .ref q_now, .ref q_aside, .ref q_past, .int v_undos, .ref q_images, .ref q_kept, .long v_seed, .ref q_text, .int v_size, .int v_fault, .ref q_sights, .int v_sightMany, .ref q_book, .int v_bookMany, .int v_at, .int v_begin, .int v_sign, .int v_figures, .int v_value, .int v_wrong, .ref q_went, .ref q_free, .ref q_stands])), (q_now, .inl (cI, 19, .inl v_now)), (q_images, .inl (cI, 40, .inl v_images)), (q_kept, .inl (cZ, 2, .inl v_kept))] sz)) 0 0 (va_A [(q_this, .inr (12, [.ref q_town, .ref q_read, .ref q_now, .ref q_aside, .ref q_past, .int v_undos, .ref q_images, .ref q_kept, .long v_seed, .ref q_text, .int v_size, .int v_fault, .ref q_sights, .int v_sightMany, .ref q_book, .int v_bookMany, .int v_at, .int v_begin, .int v_sign, .int v_figures, .int v_value, .int v_wrong, .ref q_went, .ref q_free, .ref q_stands])), (q_now, .inl (cI, 19, .inl v_now)), (q_images, .inl (cI, 40, .inl v_images)), (q_kept, .inl (cZ, 2, .inl v_kept))] sz) := by
  refine Met.ofW (cc := cX12_goBack) (maxL := 2) (ret := (some .int)) (by decide) rfl ?_
  intro p e s m args below meth c s₁ B hml hv
  obtain ⟨rfl, hsz, hP, hK, hD0⟩ := hv
  have hx := B.exec
  have hb := B.bytes
  have hr := B.returns
  have hts := atoms_spec (ws := wsX12_goBack) B.pre
  have hown : s.vm.findClass RX12 = some m.cls := findClass_of_methodNamed B.named
  have hlocks := B.notSynchronized
  subst hsz
  have hD := hD0.self (sz := s.heap.size)
  generalize hAe : va_A [(q_this, .inr (12, [.ref q_town, .ref q_read, .ref q_now, .ref q_aside, .ref q_past, .int v_undos, .ref q_images, .ref q_kept, .long v_seed, .ref q_text, .int v_size, .int v_fault, .ref q_sights, .int v_sightMany, .ref q_book, .int v_bookMany, .int v_at, .int v_begin, .int v_sign, .int v_figures, .int v_value, .int v_wrong, .ref q_went, .ref q_free, .ref q_stands])), (q_now, .inl (cI, 19, .inl v_now)), (q_images, .inl (cI, 40, .inl v_images)), (q_kept, .inl (cZ, 2, .inl v_kept))] s.heap.size = A at hD ⊢
  have hA : ∀ q : Nat, s.heap.size ≤ q → A q := fun q h => by rw [← hAe]; exact Or.inr h
  have hS : va_S A s.heap s.heap [] := va_S.rf
  have hl := lv_entry ([.ref q_this, .int a1]) (n := 2) (Nat.le_of_ble_eq_true rfl)
  rw [lg_entry_eq]
  generalize (lg_sl ([.ref q_this, .int a1]) ++ List.replicate (2 - (lg_sl ([.ref q_this, .int a1])).length) Slot.unset).toArray = ls at hl ⊢
  have hl : lv_has ls 2 [(0, .ref q_this), (1, .int a1)] := hl
  unfold fX12_goBack at hrun
  have hk28 := hts (.fieldLink RX12 28 "LentDrainsModel" "kept" "[Z") (by decide +kernel)
  have hiX12 : ∀ w ∈ wsX120, w ∈ wsX12_goBack := by decide +kernel
  have hk25 := hts (.fieldLink RX12 25 "LentDrainsModel" "images" "[I") (by decide +kernel)
  have hk16 := hts (.fieldLink RX12 16 "LentDrainsModel" "now" "[I") (by decide +kernel)
  have hk177 := hts (.fieldLink RX12 177 "LentDrainsModel" "seed" "J") (by decide +kernel)
  have hk54 := hts (.fieldLink RX12 54 "LentDrainsModel" "undos" "I") (by decide +kernel)
  have hk158 := hts (.constant RX12 158 (-1000000003)) (by decide +kernel)
  have hk151 := hts (.constant RX12 151 (-1000000001)) (by decide +kernel)
  refine oz_genQ (fun Q hQ => ?_)
  refine lv_iload_n hx hb dX12_goBack_0 rfl (lv_at hl 1 rfl) ?_
  refine lv_i2l hx hb dX12_goBack_1 rfl ?_
  refine lv_lconst (v := 0) hx hb dX12_goBack_2 (by decide) ?_
  refine lv_lconst (v := 1) hx hb dX12_goBack_3 (by decide) ?_
  obtain ⟨y4, hc4, hrun⟩ := oz_bind hrun
  have hPc := hP.sub (ws' := []) [] rfl
  have hDc := hD.sub (ws' := []) [] (by decide) rfl
  have hFc := va_free (wc := []) hD hS hA [] rfl
  refine va_calli (va_runS (As := [.long (Int32.toInt64 a1), .long (0 : Int64), .long (1 : Int64)]) (rest := []) ⟨hx, hb, hml, hown, hts⟩ (tX12_in l dC dI cI cZ s.heap.size (Int32.toInt64 a1) (0 : Int64) (1 : Int64) y4 hc4) (va_cwS 3 hts gX12_goBack_X12_in rfl rfl rfl (by decide +kernel) ⟨Nat.le_of_ble_eq_true rfl, Nat.le_of_ble_eq_true rfl⟩) ⟨fun a U g mk q => by obtain ⟨q0, q1, qP, qK, qD⟩ := q; exact ⟨q0, q1, qP, va_K.moved (u := U) (U := U.calling g mk a) (Vm.Alike.refl U.vm) qK, qD⟩, fun U hU hW => ⟨rfl, by rw [hU], by rw [hU]; exact hPc, va_K.moved hW.alike hK, hDc.weaken (fun _ _ _ _ => trivial)⟩⟩ rfl rfl hl.1 rfl (lv_room (Nat.le_of_ble_eq_true rfl)) dX12_goBack_4 ⟨Nat.le_of_ble_eq_true rfl, Nat.le_of_ble_eq_true rfl⟩) hS (fun q _ h => hFc q h) hFc (fun r4 u9 t9 H1 locs ht9 hvm9 hw9 hB9 hz9 hkk9 hS => ?_)
  have hw9 : y4 = r4 := hw9.symm
  subst hw9
  obtain ⟨hP9, hK9, hD9⟩ := hB9
  rw [ht9] at hP9
  obtain ⟨hP, hD⟩ := va_join (wr := [(q_this, .inr (12, [.ref q_town, .ref q_read, .ref q_now, .ref q_aside, .ref q_past, .int v_undos, .ref q_images, .ref q_kept, .long v_seed, .ref q_text, .int v_size, .int v_fault, .ref q_sights, .int v_sightMany, .ref q_book, .int v_bookMany, .int v_at, .int v_begin, .int v_sign, .int v_figures, .int v_value, .int v_wrong, .ref q_went, .ref q_free, .ref q_stands])), (q_now, .inl (cI, 19, .inl v_now)), (q_images, .inl (cI, 40, .inl v_images)), (q_kept, .inl (cZ, 2, .inl v_kept))]) (w1 := []) hP hD [] [0, 1, 2, 3] rfl rfl (by decide) (by decide) hkk9 hFc hP9 hD9
  generalize H1 = H at hP hS ⊢
  have hP : va_P (dC, dI) vwCl [(q_this, .inr (12, [.ref q_town, .ref q_read, .ref q_now, .ref q_aside, .ref q_past, .int v_undos, .ref q_images, .ref q_kept, .long v_seed, .ref q_text, .int v_size, .int v_fault, .ref q_sights, .int v_sightMany, .ref q_book, .int v_bookMany, .int v_at, .int v_begin, .int v_sign, .int v_figures, .int v_value, .int v_wrong, .ref q_went, .ref q_free, .ref q_stands])), (q_now, .inl (cI, 19, .inl v_now)), (q_images, .inl (cI, 40, .inl v_images)), (q_kept, .inl (cZ, 2, .inl v_kept))] H := hP
  have hD : va_D A [(q_this, .inr (12, [.ref q_town, .ref q_read, .ref q_now, .ref q_aside, .ref q_past, .int v_undos, .ref q_images, .ref q_kept, .long v_seed, .ref q_text, .int v_size, .int v_fault, .ref q_sights, .int v_sightMany, .ref q_book, .int v_bookMany, .int v_at, .int v_begin, .int v_sign, .int v_figures, .int v_value, .int v_wrong, .ref q_went, .ref q_free, .ref q_stands])), (q_now, .inl (cI, 19, .inl v_now)), (q_images, .inl (cI, 40, .inl v_images)), (q_kept, .inl (cZ, 2, .inl v_kept))] := hD
  refine lv_if_ne (tgt := 13) hx hb dX12_goBack_7 (by decide) (fun c1 => ?_) (fun c1 => ?_)
  · have hrun := oz_f hrun c1
    refine lv_aload_n hx hb dX12_goBack_13 rfl (lv_at hl 0 rfl) ?_
    refine va_get (D := (dC, dI)) (ci := 12) (v := .ref q_kept) (C := RX12) (T := TX12) (N := 25) hx hb hts hiX12 hown hK hP 0 rfl rfl 7 (by decide) hk28 (fun _ h9 => h9) rfl dX12_goBack_14 ?_
    refine lv_iload_n hx hb dX12_goBack_17 rfl (lv_at hl 1 rfl) ?_
    obtain ⟨c2, hrun⟩ := oz_chk hrun
    refine va_zald hx hb hK hP 3 1 rfl rfl c2 dX12_goBack_18 ?_
    refine lv_if_ne (tgt := 25) hx hb dX12_goBack_19 (by decide) (fun c3 => ?_) (fun c3 => ?_)
    · have hrun := oz_f hrun c3
      refine lv_aload_n hx hb dX12_goBack_25 rfl (lv_at hl 0 rfl) ?_
      refine va_get (D := (dC, dI)) (ci := 12) (v := .ref q_images) (C := RX12) (T := TX12) (N := 25) hx hb hts hiX12 hown hK hP 0 rfl rfl 6 (by decide) hk25 (fun _ h9 => h9) rfl dX12_goBack_26 ?_
      refine lv_bipush (v := 20) hx hb dX12_goBack_29 (by decide) ?_
      refine lv_iload_n hx hb dX12_goBack_31 rfl (lv_at hl 1 rfl) ?_
      refine lv_imul hx hb dX12_goBack_32 ?_
      refine lv_aload_n hx hb dX12_goBack_33 rfl (lv_at hl 0 rfl) ?_
      refine va_get (D := (dC, dI)) (ci := 12) (v := .ref q_now) (C := RX12) (T := TX12) (N := 25) hx hb hts hiX12 hown hK hP 0 rfl rfl 2 (by decide) hk16 (fun _ h9 => h9) rfl dX12_goBack_34 ?_
      refine lv_iconst (v := 0) hx hb dX12_goBack_37 (by decide) ?_
      refine lv_bipush (v := 19) hx hb dX12_goBack_38 (by decide) ?_
      obtain ⟨y40, hc40, hrun⟩ := oz_bind hrun
      have hPc := hP.sub (ws' := [(q_images, .inl (cI, 40, .inl v_images)), (q_now, .inl (cI, 19, .inl v_now))]) [2, 1] rfl
      have hDc := hD.sub (ws' := [(q_images, .inl (cI, 40, .inl v_images)), (q_now, .inl (cI, 19, .inl v_now))]) [2, 1] (by decide) rfl
      have hFc := va_free (wc := [(q_images, .inl (cI, 40, .inl v_images)), (q_now, .inl (cI, 19, .inl v_now))]) hD hS hA [2, 1] rfl
      refine va_callv (va_runS (As := [.ref q_images, .int (20 * a1), .ref q_now, .int 0, .int 19]) (rest := []) ⟨hx, hb, hml, hown, hts⟩ (tX12_copies l dC dI cI cZ q_images q_now H.size 40 19 v_images v_now (20 * a1) 0 19 y40 hc40) (va_cwS 5 hts gX12_goBack_X12_copies rfl rfl rfl (by decide +kernel) ⟨Nat.le_of_ble_eq_true rfl, Nat.le_of_ble_eq_true rfl⟩) ⟨fun a U g mk q => by obtain ⟨q0, q1, qP, qK, qD⟩ := q; exact ⟨q0, q1, qP, va_K.moved (u := U) (U := U.calling g mk a) (Vm.Alike.refl U.vm) qK, qD⟩, fun U hU hW => ⟨rfl, by rw [hU], by rw [hU]; exact hPc, va_K.moved hW.alike hK, hDc.weaken (fun _ _ _ _ => trivial)⟩⟩ rfl rfl hl.1 rfl (lv_room (Nat.le_of_ble_eq_true rfl)) dX12_goBack_40 ⟨Nat.le_of_ble_eq_true rfl, Nat.le_of_ble_eq_true rfl⟩) hS (fun q _ h => hFc q h) hFc (fun u9 t9 H1 locs ht9 hvm9 hw9 hB9 hz9 hkk9 hS => ?_)
      obtain ⟨hP9, hK9, hD9⟩ := hB9
      rw [ht9] at hP9
      obtain ⟨hP, hD⟩ := va_join (wr := [(q_this, .inr (12, [.ref q_town, .ref q_read, .ref q_now, .ref q_aside, .ref q_past, .int v_undos, .ref q_images, .ref q_kept, .long v_seed, .ref q_text, .int v_size, .int v_fault, .ref q_sights, .int v_sightMany, .ref q_book, .int v_bookMany, .int v_at, .int v_begin, .int v_sign, .int v_figures, .int v_value, .int v_wrong, .ref q_went, .ref q_free, .ref q_stands])), (q_kept, .inl (cZ, 2, .inl v_kept))]) (w1 := [(q_images, .inl (cI, 40, .inl v_images)), (q_now, .inl (cI, 19, .inl y40))]) hP hD [2, 1] [0, 3] rfl rfl (by decide) (by decide) hkk9 hFc hP9 hD9
      generalize H1 = H at hP hS ⊢
      have hP : va_P (dC, dI) vwCl [(q_this, .inr (12, [.ref q_town, .ref q_read, .ref q_now, .ref q_aside, .ref q_past, .int v_undos, .ref q_images, .ref q_kept, .long v_seed, .ref q_text, .int v_size, .int v_fault, .ref q_sights, .int v_sightMany, .ref q_book, .int v_bookMany, .int v_at, .int v_begin, .int v_sign, .int v_figures, .int v_value, .int v_wrong, .ref q_went, .ref q_free, .ref q_stands])), (q_kept, .inl (cZ, 2, .inl v_kept)), (q_images, .inl (cI, 40, .inl v_images)), (q_now, .inl (cI, 19, .inl y40))] H := hP
      have hD : va_D A [(q_this, .inr (12, [.ref q_town, .ref q_read, .ref q_now, .ref q_aside, .ref q_past, .int v_undos, .ref q_images, .ref q_kept, .long v_seed, .ref q_text, .int v_size, .int v_fault, .ref q_sights, .int v_sightMany, .ref q_book, .int v_bookMany, .int v_at, .int v_begin, .int v_sign, .int v_figures, .int v_value, .int v_wrong, .ref q_went, .ref q_free, .ref q_stands])), (q_kept, .inl (cZ, 2, .inl v_kept)), (q_images, .inl (cI, 40, .inl v_images)), (q_now, .inl (cI, 19, .inl y40))] := hD
      refine lv_aload_n hx hb dX12_goBack_43 rfl (lv_at hl 0 rfl) ?_
      refine lv_aload_n hx hb dX12_goBack_44 rfl (lv_at hl 0 rfl) ?_
      refine va_get (D := (dC, dI)) (ci := 12) (v := .ref q_images) (C := RX12) (T := TX12) (N := 25) hx hb hts hiX12 hown hK hP 0 rfl rfl 6 (by decide) hk25 (fun _ h9 => h9) rfl dX12_goBack_45 ?_
      refine lv_bipush (v := 20) hx hb dX12_goBack_48 (by decide) ?_
      refine lv_iload_n hx hb dX12_goBack_50 rfl (lv_at hl 1 rfl) ?_
      refine lv_imul hx hb dX12_goBack_51 ?_
      refine lv_bipush (v := 19) hx hb dX12_goBack_52 (by decide) ?_
      refine lv_iadd hx hb dX12_goBack_54 ?_
      obtain ⟨c4, hrun⟩ := oz_chk hrun
      refine va_iald hx hb hK hP 2 0 rfl rfl c4 dX12_goBack_55 ?_
      refine lv_i2l hx hb dX12_goBack_56 rfl ?_
      refine va_put (D := (dC, dI)) (ci := 12) (v := .long (Int32.toInt64 (v_images (Int32.toNatClampNeg ((20 * a1) + 19))))) (ty := .long) (C := RX12) (T := TX12) (N := 25) hx hb hts hiX12 tyX12 tyX12_ok nmX12 hown hK hP hD hS 0 rfl rfl 8 (by decide) hk177 (fun _ h9 => h9) rfl (by decide +kernel) rfl rfl (Nat.le_of_ble_eq_true rfl) dX12_goBack_57 (fun H locs hP hD hS => ?_)
      have hP : va_P (dC, dI) vwCl [(q_this, .inr (12, [.ref q_town, .ref q_read, .ref q_now, .ref q_aside, .ref q_past, .int v_undos, .ref q_images, .ref q_kept, .long (Int32.toInt64 (v_images (Int32.toNatClampNeg ((20 * a1) + 19)))), .ref q_text, .int v_size, .int v_fault, .ref q_sights, .int v_sightMany, .ref q_book, .int v_bookMany, .int v_at, .int v_begin, .int v_sign, .int v_figures, .int v_value, .int v_wrong, .ref q_went, .ref q_free, .ref q_stands])), (q_kept, .inl (cZ, 2, .inl v_kept)), (q_images, .inl (cI, 40, .inl v_images)), (q_now, .inl (cI, 19, .inl y40))] H := hP
      have hD : va_D A [(q_this, .inr (12, [.ref q_town, .ref q_read, .ref q_now, .ref q_aside, .ref q_past, .int v_undos, .ref q_images, .ref q_kept, .long (Int32.toInt64 (v_images (Int32.toNatClampNeg ((20 * a1) + 19)))), .ref q_text, .int v_size, .int v_fault, .ref q_sights, .int v_sightMany, .ref q_book, .int v_bookMany, .int v_at, .int v_begin, .int v_sign, .int v_figures, .int v_value, .int v_wrong, .ref q_went, .ref q_free, .ref q_stands])), (q_kept, .inl (cZ, 2, .inl v_kept)), (q_images, .inl (cI, 40, .inl v_images)), (q_now, .inl (cI, 19, .inl y40))] := hD
      refine lv_aload_n hx hb dX12_goBack_60 rfl (lv_at hl 0 rfl) ?_
      refine lv_iconst (v := 0) hx hb dX12_goBack_61 (by decide) ?_
      refine va_put (D := (dC, dI)) (ci := 12) (v := .int 0) (ty := .int) (C := RX12) (T := TX12) (N := 25) hx hb hts hiX12 tyX12 tyX12_ok nmX12 hown hK hP hD hS 0 rfl rfl 5 (by decide) hk54 (fun _ h9 => h9) rfl (by decide +kernel) rfl rfl (Nat.le_of_ble_eq_true rfl) dX12_goBack_62 (fun H locs hP hD hS => ?_)
      have hP : va_P (dC, dI) vwCl [(q_this, .inr (12, [.ref q_town, .ref q_read, .ref q_now, .ref q_aside, .ref q_past, .int 0, .ref q_images, .ref q_kept, .long (Int32.toInt64 (v_images (Int32.toNatClampNeg ((20 * a1) + 19)))), .ref q_text, .int v_size, .int v_fault, .ref q_sights, .int v_sightMany, .ref q_book, .int v_bookMany, .int v_at, .int v_begin, .int v_sign, .int v_figures, .int v_value, .int v_wrong, .ref q_went, .ref q_free, .ref q_stands])), (q_kept, .inl (cZ, 2, .inl v_kept)), (q_images, .inl (cI, 40, .inl v_images)), (q_now, .inl (cI, 19, .inl y40))] H := hP
      have hD : va_D A [(q_this, .inr (12, [.ref q_town, .ref q_read, .ref q_now, .ref q_aside, .ref q_past, .int 0, .ref q_images, .ref q_kept, .long (Int32.toInt64 (v_images (Int32.toNatClampNeg ((20 * a1) + 19)))), .ref q_text, .int v_size, .int v_fault, .ref q_sights, .int v_sightMany, .ref q_book, .int v_bookMany, .int v_at, .int v_begin, .int v_sign, .int v_figures, .int v_value, .int v_wrong, .ref q_went, .ref q_free, .ref q_stands])), (q_kept, .inl (cZ, 2, .inl v_kept)), (q_images, .inl (cI, 40, .inl v_images)), (q_now, .inl (cI, 19, .inl y40))] := hD
      refine lv_iconst (v := 1) hx hb dX12_goBack_65 (by decide) ?_
      have ho9 := Option.some.inj hrun
      subst ho9
      have hP9 := hP.sub (ws' := [(q_this, .inr (12, [.ref q_town, .ref q_read, .ref q_now, .ref q_aside, .ref q_past, .int 0, .ref q_images, .ref q_kept, .long (Int32.toInt64 (v_images (Int32.toNatClampNeg ((20 * a1) + 19)))), .ref q_text, .int v_size, .int v_fault, .ref q_sights, .int v_sightMany, .ref q_book, .int v_bookMany, .int v_at, .int v_begin, .int v_sign, .int v_figures, .int v_value, .int v_wrong, .ref q_went, .ref q_free, .ref q_stands])), (q_now, .inl (cI, 19, .inl y40)), (q_images, .inl (cI, 40, .inl v_images)), (q_kept, .inl (cZ, 2, .inl v_kept))]) [0, 3, 2, 1] rfl
      have hD9 := hD.sub (ws' := [(q_this, .inr (12, [.ref q_town, .ref q_read, .ref q_now, .ref q_aside, .ref q_past, .int 0, .ref q_images, .ref q_kept, .long (Int32.toInt64 (v_images (Int32.toNatClampNeg ((20 * a1) + 19)))), .ref q_text, .int v_size, .int v_fault, .ref q_sights, .int v_sightMany, .ref q_book, .int v_bookMany, .int v_at, .int v_begin, .int v_sign, .int v_figures, .int v_value, .int v_wrong, .ref q_went, .ref q_free, .ref q_stands])), (q_now, .inl (cI, 19, .inl y40)), (q_images, .inl (cI, 40, .inl v_images)), (q_kept, .inl (cZ, 2, .inl v_kept))]) [0, 3, 2, 1] (by decide) rfl
      rw [hQ]
      exact W.iret (v := 1) hx hb hr (fun t ht hW => ⟨⟨1, (), rfl, rfl, by rw [ht]; exact hP9, va_K.moved hW.alike hK, hD9⟩, hS.F ht⟩) hS.2.2 dX12_goBack_66
    · have hrun := oz_t hrun c3
      refine lv_ldc hx hb hown hk158 dX12_goBack_22 ?_
      have ho9 := Option.some.inj hrun
      subst ho9
      have hP9 := hP.sub (ws' := [(q_this, .inr (12, [.ref q_town, .ref q_read, .ref q_now, .ref q_aside, .ref q_past, .int v_undos, .ref q_images, .ref q_kept, .long v_seed, .ref q_text, .int v_size, .int v_fault, .ref q_sights, .int v_sightMany, .ref q_book, .int v_bookMany, .int v_at, .int v_begin, .int v_sign, .int v_figures, .int v_value, .int v_wrong, .ref q_went, .ref q_free, .ref q_stands])), (q_now, .inl (cI, 19, .inl v_now)), (q_images, .inl (cI, 40, .inl v_images)), (q_kept, .inl (cZ, 2, .inl v_kept))]) [0, 1, 2, 3] rfl
      have hD9 := hD.sub (ws' := [(q_this, .inr (12, [.ref q_town, .ref q_read, .ref q_now, .ref q_aside, .ref q_past, .int v_undos, .ref q_images, .ref q_kept, .long v_seed, .ref q_text, .int v_size, .int v_fault, .ref q_sights, .int v_sightMany, .ref q_book, .int v_bookMany, .int v_at, .int v_begin, .int v_sign, .int v_figures, .int v_value, .int v_wrong, .ref q_went, .ref q_free, .ref q_stands])), (q_now, .inl (cI, 19, .inl v_now)), (q_images, .inl (cI, 40, .inl v_images)), (q_kept, .inl (cZ, 2, .inl v_kept))]) [0, 1, 2, 3] (by decide) rfl
      rw [hQ]
      exact W.iret (v := (-1000000003)) hx hb hr (fun t ht hW => ⟨⟨(-1000000003), (), rfl, rfl, by rw [ht]; exact hP9, va_K.moved hW.alike hK, hD9⟩, hS.F ht⟩) hS.2.2 dX12_goBack_24
  · have hrun := oz_t hrun c1
    refine lv_ldc hx hb hown hk151 dX12_goBack_10 ?_
    have ho9 := Option.some.inj hrun
    subst ho9
    have hP9 := hP.sub (ws' := [(q_this, .inr (12, [.ref q_town, .ref q_read, .ref q_now, .ref q_aside, .ref q_past, .int v_undos, .ref q_images, .ref q_kept, .long v_seed, .ref q_text, .int v_size, .int v_fault, .ref q_sights, .int v_sightMany, .ref q_book, .int v_bookMany, .int v_at, .int v_begin, .int v_sign, .int v_figures, .int v_value, .int v_wrong, .ref q_went, .ref q_free, .ref q_stands])), (q_now, .inl (cI, 19, .inl v_now)), (q_images, .inl (cI, 40, .inl v_images)), (q_kept, .inl (cZ, 2, .inl v_kept))]) [0, 1, 2, 3] rfl
    have hD9 := hD.sub (ws' := [(q_this, .inr (12, [.ref q_town, .ref q_read, .ref q_now, .ref q_aside, .ref q_past, .int v_undos, .ref q_images, .ref q_kept, .long v_seed, .ref q_text, .int v_size, .int v_fault, .ref q_sights, .int v_sightMany, .ref q_book, .int v_bookMany, .int v_at, .int v_begin, .int v_sign, .int v_figures, .int v_value, .int v_wrong, .ref q_went, .ref q_free, .ref q_stands])), (q_now, .inl (cI, 19, .inl v_now)), (q_images, .inl (cI, 40, .inl v_images)), (q_kept, .inl (cZ, 2, .inl v_kept))]) [0, 1, 2, 3] (by decide) rfl
    rw [hQ]
    exact W.iret (v := (-1000000001)) hx hb hr (fun t ht hW => ⟨⟨(-1000000001), (), rfl, rfl, by rw [ht]; exact hP9, va_K.moved hW.alike hK, hD9⟩, hS.F ht⟩) hS.2.2 dX12_goBack_12
