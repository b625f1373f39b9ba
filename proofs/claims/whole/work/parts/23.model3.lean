def fX12_isHouse (v_town : Nat → Int32) (a1 : Int32) : Option (Int32) :=
  Option.bind (fX12_in (Int32.toInt64 a1) (0 : Int64) (Int32.toInt64 ((v_town (Int32.toNatClampNeg 2)) - 1))) (fun y12 => if ¬ (narrow .boolean (.int y12) = .int y12) then none else some y12)
def rmX12_isHouse : Room := { frames := 1, cells := 0, slots := 0, locals := 25 }
set_option maxHeartbeats 4000000 in
set_option maxRecDepth 100000 in
theorem tX12_isHouse (l : Launch) (dC : Nat → ClassId) (dI : Nat → Nat → Nat) (cI cZ : ClassId) (q_aside q_book q_free q_images q_kept q_now q_past q_read q_sights q_stands q_text q_this q_town q_went : Nat) (sz : Nat) (v_undos : Int32) (v_seed : Int64) (v_size : Int32) (v_fault : Int32) (v_sightMany : Int32) (v_bookMany : Int32) (v_at : Int32) (v_begin : Int32) (v_sign : Int32) (v_figures : Int32) (v_value : Int32) (v_wrong : Int32) (v_town : Nat → Int32) (a1 : Int32) (out : Int32) (hrun : fX12_isHouse v_town a1 = some out) : Met l yX12_isHouse wsX12_isHouse rmX12_isHouse (va_Pc [.ref q_this, .int a1] (fun U => U.heap.size = sz ∧ va_P (dC, dI) vwCl [(q_this, .inr (12, [.ref q_town, .ref q_read, .ref q_now, .ref q_aside, .ref q_past, .int v_undos, .ref q_images, .ref q_kept, .long v_seed, .ref q_text, .int v_size, .int v_fault, .ref q_sights, .int v_sightMany, .ref q_book, .int v_bookMany, .int v_at, .int v_begin, .int v_sign, .int v_figures, .int v_value, .int v_wrong, .ref q_went, .ref q_free, .ref q_stands])), (q_town, .inl (cI, 27, .inl v_town))] U.heap ∧ va_K (dC, dI) vwCl [(cI, .int), (cZ, .boolean)] U ∧ va_D (fun _ => True) [(q_this, .inr (12, [.ref q_town, .ref q_read, .ref q_now, .ref q_aside, .ref q_past, .int v_undos, .ref q_images, .ref q_kept, .long v_seed, .ref q_text, .int v_size, .int v_fault, .ref q_sights, .int v_sightMany, .ref q_book, .int v_bookMany, .int v_at, .int v_begin, .int v_sign, .int v_figures, .int v_value, .int v_wrong, .ref q_went, .ref q_free, .ref q_stands])), (q_town, .inl (cI, 27, .inl v_town))])) (va_Qi (fun (r : Int32) (_ : Unit) => r = out) (fun _ t => va_P (dC, dI) vwCl [(q_this, .inr (12, [.ref q_town, .ref q_read, .ref q_now, .ref q_aside, .ref q_past, .int v_undos, .ref q_images, .ref q_kept, .long v_seed, .ref q_text, .int v_size, .int v_fault, .ref q_sights, .int v_sightMany, .ref q_book, .int v_bookMany, .int v_at, .int v_begin, .int v_sign, .int v_figures, .int v_value, .int v_wrong, .ref q_went, .ref q_free, .ref q_stands])), (q_town, .inl (cI, 27, .inl v_town))] t.heap ∧ va_K (dC, dI) vwCl [(cI, .int), (cZ, .boolean)] t ∧ va_D (va_A [(q_this, .inr (12, [.ref q_town, .ref q_read, .ref q_now, .ref q_aside, .ref q_past, .int v_undos, .ref q_images, .ref q_kept, .long v_seed, .ref q_text, .int v_size, .int v_fault, .ref q_sights, .int v_sightMany, .ref q_book, .int v_bookMany, .int v_at, .int v_begin, .int v_sign, .int v_figures, .int v_value, .int v_wrong, .ref q_went, .ref q_free, .ref q_stands])), (q_town, .inl (cI, 27, .inl v_town))] sz) [(q_this, .inr (12, [.ref q_town, .ref q_read, .ref q_now, .ref q_aside, .ref q_past, .int v_undos, .ref q_images, .ref q_kept, .long v_seed, .ref q_text, .int v_size, .int v_fault, .ref q_sights, .int v_sightMany, .ref q_book, .int v_bookMany, .int v_at, .int v_begin, .int v_sign, .int v_figures, .int v_value, .int v_wrong, .ref q_went, .ref q_free, .ref q_stands])), (q_town, .inl (cI, 27, .inl v_town))]) (va_A [(q_this, .inr (12, [.ref q_town, .ref q_read, .ref q_now, .ref q_aside, .ref q_past, .int v_undos, .ref q_images, .ref q_kept, .long v_seed, .ref q_text, .int v_size, .int v_fault, .ref q_sights, .int v_sightMany, .ref q_book, .int v_bookMany, .int v_at, .int v_begin, .int v_sign, .int v_figures, .int v_value, .int v_wrong, .ref q_went, .ref q_free, .ref q_stands])), (q_town, .inl (cI, 27, .inl v_town))] sz)) 0 0 (va_A [(q_this, .inr (12, [.ref q_town, .ref q_read, .ref q_now, .ref q_aside, .ref q_past, .int v_undos, .ref q_images, .ref q_kept, .long v_seed, .ref q_text, .int v_size, .int v_fault, .ref q_sights, .int v_sightMany, .ref q_book, .int v_bookMany, .int v_at, .int v_begin, .int v_sign, .int v_figures, .int v_value, .int v_wrong, .ref q_went, .ref q_free, .ref q_stands])), (q_town, .inl (cI, 27, .inl v_town))] sz) := by
  refine Met.ofW (cc := cX12_isHouse) (maxL := 2) (ret := (some .boolean)) (by decide) rfl ?_
  intro p e s m args below meth c s₁ B hml hv
  obtain ⟨rfl, hsz, hP, hK, hD0⟩ := hv
  have hx := B.exec
  have hb := B.bytes
  have hr := B.returns
  have hts := atoms_spec (ws := wsX12_isHouse) B.pre
  have hown : s.vm.findClass RX12 = some m.cls := findClass_of_methodNamed B.named
  have hlocks := B.notSynchronized
  subst hsz
  have hD := hD0.self (sz := s.heap.size)
  generalize hAe : va_A [(q_this, .inr (12, [.ref q_town, .ref q_read, .ref q_now, .ref q_aside, .ref q_past, .int v_undos, .ref q_images, .ref q_kept, .long v_seed, .ref q_text, .int v_size, .int v_fault, .ref q_sights, .int v_sightMany, .ref q_book, .int v_bookMany, .int v_at, .int v_begin, .int v_sign, .int v_figures, .int v_value, .int v_wrong, .ref q_went, .ref q_free, .ref q_stands])), (q_town, .inl (cI, 27, .inl v_town))] s.heap.size = A at hD ⊢
  have hA : ∀ q : Nat, s.heap.size ≤ q → A q := fun q h => by rw [← hAe]; exact Or.inr h
  have hS : va_S A s.heap s.heap [] := va_S.rf
  have hl := lv_entry ([.ref q_this, .int a1]) (n := 2) (Nat.le_of_ble_eq_true rfl)
  rw [lg_entry_eq]
  generalize (lg_sl ([.ref q_this, .int a1]) ++ List.replicate (2 - (lg_sl ([.ref q_this, .int a1])).length) Slot.unset).toArray = ls at hl ⊢
  have hl : lv_has ls 2 [(0, .ref q_this), (1, .int a1)] := hl
  unfold fX12_isHouse at hrun
  have hk7 := hts (.fieldLink RX12 7 "LentDrainsModel" "town" "[I") (by decide +kernel)
  have hiX12 : ∀ w ∈ wsX120, w ∈ wsX12_isHouse := by decide +kernel
  refine oz_genQ (fun Q hQ => ?_)
  refine lv_iload_n hx hb dX12_isHouse_0 rfl (lv_at hl 1 rfl) ?_
  refine lv_i2l hx hb dX12_isHouse_1 rfl ?_
  refine lv_lconst (v := 0) hx hb dX12_isHouse_2 (by decide) ?_
  refine lv_aload_n hx hb dX12_isHouse_3 rfl (lv_at hl 0 rfl) ?_
  refine va_get (D := (dC, dI)) (ci := 12) (v := .ref q_town) (C := RX12) (T := TX12) (N := 25) hx hb hts hiX12 hown hK hP 0 rfl rfl 0 (by decide) hk7 (fun _ h9 => h9) rfl dX12_isHouse_4 ?_
  refine lv_iconst (v := 2) hx hb dX12_isHouse_7 (by decide) ?_
  refine va_iald hx hb hK hP 1 0 rfl rfl (show ¬ ((2 : Int32) < 0 ∨ 27 ≤ (2 : Int32).toNatClampNeg) by decide) dX12_isHouse_8 ?_
  refine lv_iconst (v := 1) hx hb dX12_isHouse_9 (by decide) ?_
  refine lv_isub hx hb dX12_isHouse_10 ?_
  refine lv_i2l hx hb dX12_isHouse_11 rfl ?_
  obtain ⟨y12, hc12, hrun⟩ := oz_bind hrun
  have hPc := hP.sub (ws' := []) [] rfl
  have hDc := hD.sub (ws' := []) [] (by decide) rfl
  have hFc := va_free (wc := []) hD hS hA [] rfl
  refine va_calli (va_runS (As := [.long (Int32.toInt64 a1), .long (0 : Int64), .long (Int32.toInt64 ((v_town (Int32.toNatClampNeg 2)) - 1))]) (rest := []) ⟨hx, hb, hml, hown, hts⟩ (tX12_in l dC dI cI cZ s.heap.size (Int32.toInt64 a1) (0 : Int64) (Int32.toInt64 ((v_town (Int32.toNatClampNeg 2)) - 1)) y12 hc12) (va_cwS 3 hts gX12_isHouse_X12_in rfl rfl rfl (by decide +kernel) ⟨Nat.le_of_ble_eq_true rfl, Nat.le_of_ble_eq_true rfl⟩) ⟨fun a U g mk q => by obtain ⟨q0, q1, qP, qK, qD⟩ := q; exact ⟨q0, q1, qP, va_K.moved (u := U) (U := U.calling g mk a) (Vm.Alike.refl U.vm) qK, qD⟩, fun U hU hW => ⟨rfl, by rw [hU], by rw [hU]; exact hPc, va_K.moved hW.alike hK, hDc.weaken (fun _ _ _ _ => trivial)⟩⟩ rfl rfl hl.1 rfl (lv_room (Nat.le_of_ble_eq_true rfl)) dX12_isHouse_12 ⟨Nat.le_of_ble_eq_true rfl, Nat.le_of_ble_eq_true rfl⟩) hS (fun q _ h => hFc q h) hFc (fun r12 u9 t9 H1 locs ht9 hvm9 hw9 hB9 hz9 hkk9 hS => ?_)
  have hw9 : y12 = r12 := hw9.symm
  subst hw9
  obtain ⟨hP9, hK9, hD9⟩ := hB9
  rw [ht9] at hP9
  obtain ⟨hP, hD⟩ := va_join (wr := [(q_this, .inr (12, [.ref q_town, .ref q_read, .ref q_now, .ref q_aside, .ref q_past, .int v_undos, .ref q_images, .ref q_kept, .long v_seed, .ref q_text, .int v_size, .int v_fault, .ref q_sights, .int v_sightMany, .ref q_book, .int v_bookMany, .int v_at, .int v_begin, .int v_sign, .int v_figures, .int v_value, .int v_wrong, .ref q_went, .ref q_free, .ref q_stands])), (q_town, .inl (cI, 27, .inl v_town))]) (w1 := []) hP hD [] [0, 1] rfl rfl (by decide) (by decide) hkk9 hFc hP9 hD9
  generalize H1 = H at hP hS ⊢
  have hP : va_P (dC, dI) vwCl [(q_this, .inr (12, [.ref q_town, .ref q_read, .ref q_now, .ref q_aside, .ref q_past, .int v_undos, .ref q_images, .ref q_kept, .long v_seed, .ref q_text, .int v_size, .int v_fault, .ref q_sights, .int v_sightMany, .ref q_book, .int v_bookMany, .int v_at, .int v_begin, .int v_sign, .int v_figures, .int v_value, .int v_wrong, .ref q_went, .ref q_free, .ref q_stands])), (q_town, .inl (cI, 27, .inl v_town))] H := hP
  have hD : va_D A [(q_this, .inr (12, [.ref q_town, .ref q_read, .ref q_now, .ref q_aside, .ref q_past, .int v_undos, .ref q_images, .ref q_kept, .long v_seed, .ref q_text, .int v_size, .int v_fault, .ref q_sights, .int v_sightMany, .ref q_book, .int v_bookMany, .int v_at, .int v_begin, .int v_sign, .int v_figures, .int v_value, .int v_wrong, .ref q_went, .ref q_free, .ref q_stands])), (q_town, .inl (cI, 27, .inl v_town))] := hD
  obtain ⟨c1, hrun⟩ := oz_chk hrun
  have ho9 := Option.some.inj hrun
  subst ho9
  have hP9 := hP.sub (ws' := [(q_this, .inr (12, [.ref q_town, .ref q_read, .ref q_now, .ref q_aside, .ref q_past, .int v_undos, .ref q_images, .ref q_kept, .long v_seed, .ref q_text, .int v_size, .int v_fault, .ref q_sights, .int v_sightMany, .ref q_book, .int v_bookMany, .int v_at, .int v_begin, .int v_sign, .int v_figures, .int v_value, .int v_wrong, .ref q_went, .ref q_free, .ref q_stands])), (q_town, .inl (cI, 27, .inl v_town))]) [0, 1] rfl
  have hD9 := hD.sub (ws' := [(q_this, .inr (12, [.ref q_town, .ref q_read, .ref q_now, .ref q_aside, .ref q_past, .int v_undos, .ref q_images, .ref q_kept, .long v_seed, .ref q_text, .int v_size, .int v_fault, .ref q_sights, .int v_sightMany, .ref q_book, .int v_bookMany, .int v_at, .int v_begin, .int v_sign, .int v_figures, .int v_value, .int v_wrong, .ref q_went, .ref q_free, .ref q_stands])), (q_town, .inl (cI, 27, .inl v_town))]) [0, 1] (by decide) rfl
  rw [hQ]
  exact W.zret (v := y12) (ty := .boolean) hx hb hr (Decidable.not_not.mp c1) (fun t ht hW => ⟨⟨y12, (), rfl, rfl, by rw [ht]; exact hP9, va_K.moved hW.alike hK, hD9⟩, hS.F ht⟩) hS.2.2 dX12_isHouse_15
def fX12_isLent (v_town : Nat → Int32) (v_p1 : Nat → Int32) : Option (Int32) :=
  if (v_town (Int32.toNatClampNeg 0)) ≤ (v_p1 (Int32.toNatClampNeg 16)) then (some (0)) else (some (1))
def rmX12_isLent : Room := { frames := 0, cells := 0, slots := 0, locals := 0 }
set_option maxHeartbeats 4000000 in
set_option maxRecDepth 100000 in
theorem tX12_isLent (l : Launch) (dC : Nat → ClassId) (dI : Nat → Nat → Nat) (cI cZ : ClassId) (q_aside q_book q_free q_images q_kept q_now q_p1 q_past q_read q_sights q_stands q_text q_this q_town q_went : Nat) (sz : Nat) (v_undos : Int32) (v_seed : Int64) (v_size : Int32) (v_fault : Int32) (v_sightMany : Int32) (v_bookMany : Int32) (v_at : Int32) (v_begin : Int32) (v_sign : Int32) (v_figures : Int32) (v_value : Int32) (v_wrong : Int32) (v_town : Nat → Int32) (v_p1 : Nat → Int32) (out : Int32) (hrun : fX12_isLent v_town v_p1 = some out) : Met l yX12_isLent wsX12_isLent rmX12_isLent (va_Pc [.ref q_this, .ref q_p1] (fun U => U.heap.size = sz ∧ va_P (dC, dI) vwCl [(q_this, .inr (12, [.ref q_town, .ref q_read, .ref q_now, .ref q_aside, .ref q_past, .int v_undos, .ref q_images, .ref q_kept, .long v_seed, .ref q_text, .int v_size, .int v_fault, .ref q_sights, .int v_sightMany, .ref q_book, .int v_bookMany, .int v_at, .int v_begin, .int v_sign, .int v_figures, .int v_value, .int v_wrong, .ref q_went, .ref q_free, .ref q_stands])), (q_town, .inl (cI, 27, .inl v_town)), (q_p1, .inl (cI, 19, .inl v_p1))] U.heap ∧ va_K (dC, dI) vwCl [(cI, .int), (cZ, .boolean)] U ∧ va_D (fun _ => True) [(q_this, .inr (12, [.ref q_town, .ref q_read, .ref q_now, .ref q_aside, .ref q_past, .int v_undos, .ref q_images, .ref q_kept, .long v_seed, .ref q_text, .int v_size, .int v_fault, .ref q_sights, .int v_sightMany, .ref q_book, .int v_bookMany, .int v_at, .int v_begin, .int v_sign, .int v_figures, .int v_value, .int v_wrong, .ref q_went, .ref q_free, .ref q_stands])), (q_town, .inl (cI, 27, .inl v_town)), (q_p1, .inl (cI, 19, .inl v_p1))])) (va_Qi (fun (r : Int32) (_ : Unit) => r = out) (fun _ t => va_P (dC, dI) vwCl [(q_this, .inr (12, [.ref q_town, .ref q_read, .ref q_now, .ref q_aside, .ref q_past, .int v_undos, .ref q_images, .ref q_kept, .long v_seed, .ref q_text, .int v_size, .int v_fault, .ref q_sights, .int v_sightMany, .ref q_book, .int v_bookMany, .int v_at, .int v_begin, .int v_sign, .int v_figures, .int v_value, .int v_wrong, .ref q_went, .ref q_free, .ref q_stands])), (q_town, .inl (cI, 27, .inl v_town)), (q_p1, .inl (cI, 19, .inl v_p1))] t.heap ∧ va_K (dC, dI) vwCl [(cI, .int), (cZ, .boolean)] t ∧ va_D (va_A [(q_this, .inr (12, [.ref q_town, .ref q_read, .ref q_now, .ref q_aside, .ref q_past, .int v_undos, .ref q_images, .ref q_kept, .long v_seed, .ref q_text, .int v_size, .int v_fault, .ref q_sights, .int v_sightMany, .ref q_book, .int v_bookMany, .int v_at, .int v_begin, .int v_sign, .int v_figures, .int v_value, .int v_wrong, .ref q_went, .ref q_free, .ref q_stands])), (q_town, .inl (cI, 27, .inl v_town)), (q_p1, .inl (cI, 19, .inl v_p1))] sz) [(q_this, .inr (12, [.ref q_town, .ref q_read, .ref q_now, .ref q_aside, .ref q_past, .int v_undos, .ref q_images, .ref q_kept, .long v_seed, .ref q_text, .int v_size, .int v_fault, .ref q_sights, .int v_sightMany, .ref q_book, .int v_bookMany, .int v_at, .int v_begin, .int v_sign, .int v_figures, .int v_value, .int v_wrong, .ref q_went, .ref q_free, .ref q_stands])), (q_town, .inl (cI, 27, .inl v_town)), (q_p1, .inl (cI, 19, .inl v_p1))]) (va_A [(q_this, .inr (12, [.ref q_town, .ref q_read, .ref q_now, .ref q_aside, .ref q_past, .int v_undos, .ref q_images, .ref q_kept, .long v_seed, .ref q_text, .int v_size, .int v_fault, .ref q_sights, .int v_sightMany, .ref q_book, .int v_bookMany, .int v_at, .int v_begin, .int v_sign, .int v_figures, .int v_value, .int v_wrong, .ref q_went, .ref q_free, .ref q_stands])), (q_town, .inl (cI, 27, .inl v_town)), (q_p1, .inl (cI, 19, .inl v_p1))] sz)) 0 0 (va_A [(q_this, .inr (12, [.ref q_town, .ref q_read, .ref q_now, .ref q_aside, .ref q_past, .int v_undos, .ref q_images, .ref q_kept, .long v_seed, .ref q_text, .int v_size, .int v_fault, .ref q_sights, .int v_sightMany, .ref q_book, .int v_bookMany, .int v_at, .int v_begin, .int v_sign, .int v_figures, .int v_value, .int v_wrong, .ref q_went, .ref q_free, .ref q_stands])), (q_town, .inl (cI, 27, .inl v_town)), (q_p1, .inl (cI, 19, .inl v_p1))] sz) := by
  refine Met.ofW (cc := cX12_isLent) (maxL := 2) (ret := (some .boolean)) (by decide) rfl ?_
  intro p e s m args below meth c s₁ B hml hv
  obtain ⟨rfl, hsz, hP, hK, hD0⟩ := hv
  have hx := B.exec
  have hb := B.bytes
  have hr := B.returns
  have hts := atoms_spec (ws := wsX12_isLent) B.pre
  have hown : s.vm.findClass RX12 = some m.cls := findClass_of_methodNamed B.named
  have hlocks := B.notSynchronized
  subst hsz
  have hD := hD0.self (sz := s.heap.size)
  generalize hAe : va_A [(q_this, .inr (12, [.ref q_town, .ref q_read, .ref q_now, .ref q_aside, .ref q_past, .int v_undos, .ref q_images, .ref q_kept, .long v_seed, .ref q_text, .int v_size, .int v_fault, .ref q_sights, .int v_sightMany, .ref q_book, .int v_bookMany, .int v_at, .int v_begin, .int v_sign, .int v_figures, .int v_value, .int v_wrong, .ref q_went, .ref q_free, .ref q_stands])), (q_town, .inl (cI, 27, .inl v_town)), (q_p1, .inl (cI, 19, .inl v_p1))] s.heap.size = A at hD ⊢
  have hA : ∀ q : Nat, s.heap.size ≤ q → A q := fun q h => by rw [← hAe]; exact Or.inr h
  have hS : va_S A s.heap s.heap [] := va_S.rf
  have hl := lv_entry ([.ref q_this, .ref q_p1]) (n := 2) (Nat.le_of_ble_eq_true rfl)
  rw [lg_entry_eq]
  generalize (lg_sl ([.ref q_this, .ref q_p1]) ++ List.replicate (2 - (lg_sl ([.ref q_this, .ref q_p1])).length) Slot.unset).toArray = ls at hl ⊢
  have hl : lv_has ls 2 [(0, .ref q_this), (1, .ref q_p1)] := hl
  unfold fX12_isLent at hrun
  have hk7 := hts (.fieldLink RX12 7 "LentDrainsModel" "town" "[I") (by decide +kernel)
  have hiX12 : ∀ w ∈ wsX120, w ∈ wsX12_isLent := by decide +kernel
  refine oz_genQ (fun Q hQ => ?_)
  refine lv_aload_n hx hb dX12_isLent_0 rfl (lv_at hl 1 rfl) ?_
  refine lv_bipush (v := 16) hx hb dX12_isLent_1 (by decide) ?_
  refine va_iald hx hb hK hP 2 0 rfl rfl (show ¬ ((16 : Int32) < 0 ∨ 19 ≤ (16 : Int32).toNatClampNeg) by decide) dX12_isLent_3 ?_
  refine lv_aload_n hx hb dX12_isLent_4 rfl (lv_at hl 0 rfl) ?_
  refine va_get (D := (dC, dI)) (ci := 12) (v := .ref q_town) (C := RX12) (T := TX12) (N := 25) hx hb hts hiX12 hown hK hP 0 rfl rfl 0 (by decide) hk7 (fun _ h9 => h9) rfl dX12_isLent_5 ?_
  refine lv_iconst (v := 0) hx hb dX12_isLent_8 (by decide) ?_
  refine va_iald hx hb hK hP 1 0 rfl rfl (show ¬ ((0 : Int32) < 0 ∨ 27 ≤ (0 : Int32).toNatClampNeg) by decide) dX12_isLent_9 ?_
  refine lv_icmp_ge (tgt := 17) hx hb dX12_isLent_10 (by decide) (fun c1 => ?_) (fun c1 => ?_)
  · have hrun := oz_t hrun c1
    refine lv_iconst (v := 0) hx hb dX12_isLent_17 (by decide) ?_
    have ho9 := Option.some.inj hrun
    subst ho9
    have hP9 := hP.sub (ws' := [(q_this, .inr (12, [.ref q_town, .ref q_read, .ref q_now, .ref q_aside, .ref q_past, .int v_undos, .ref q_images, .ref q_kept, .long v_seed, .ref q_text, .int v_size, .int v_fault, .ref q_sights, .int v_sightMany, .ref q_book, .int v_bookMany, .int v_at, .int v_begin, .int v_sign, .int v_figures, .int v_value, .int v_wrong, .ref q_went, .ref q_free, .ref q_stands])), (q_town, .inl (cI, 27, .inl v_town)), (q_p1, .inl (cI, 19, .inl v_p1))]) [0, 1, 2] rfl
    have hD9 := hD.sub (ws' := [(q_this, .inr (12, [.ref q_town, .ref q_read, .ref q_now, .ref q_aside, .ref q_past, .int v_undos, .ref q_images, .ref q_kept, .long v_seed, .ref q_text, .int v_size, .int v_fault, .ref q_sights, .int v_sightMany, .ref q_book, .int v_bookMany, .int v_at, .int v_begin, .int v_sign, .int v_figures, .int v_value, .int v_wrong, .ref q_went, .ref q_free, .ref q_stands])), (q_town, .inl (cI, 27, .inl v_town)), (q_p1, .inl (cI, 19, .inl v_p1))]) [0, 1, 2] (by decide) rfl
    rw [hQ]
    exact W.zret (v := 0) (ty := .boolean) hx hb hr rfl (fun t ht hW => ⟨⟨0, (), rfl, rfl, by rw [ht]; exact hP9, va_K.moved hW.alike hK, hD9⟩, hS.F ht⟩) hS.2.2 dX12_isLent_18
  · have hrun := oz_f hrun c1
    refine lv_iconst (v := 1) hx hb dX12_isLent_13 (by decide) ?_
    refine lv_goto (tgt := 18) hx hb dX12_isLent_14 (by decide) ?_
    have ho9 := Option.some.inj hrun
    subst ho9
    have hP9 := hP.sub (ws' := [(q_this, .inr (12, [.ref q_town, .ref q_read, .ref q_now, .ref q_aside, .ref q_past, .int v_undos, .ref q_images, .ref q_kept, .long v_seed, .ref q_text, .int v_size, .int v_fault, .ref q_sights, .int v_sightMany, .ref q_book, .int v_bookMany, .int v_at, .int v_begin, .int v_sign, .int v_figures, .int v_value, .int v_wrong, .ref q_went, .ref q_free, .ref q_stands])), (q_town, .inl (cI, 27, .inl v_town)), (q_p1, .inl (cI, 19, .inl v_p1))]) [0, 1, 2] rfl
    have hD9 := hD.sub (ws' := [(q_this, .inr (12, [.ref q_town, .ref q_read, .ref q_now, .ref q_aside, .ref q_past, .int v_undos, .ref q_images, .ref q_kept, .long v_seed, .ref q_text, .int v_size, .int v_fault, .ref q_sights, .int v_sightMany, .ref q_book, .int v_bookMany, .int v_at, .int v_begin, .int v_sign, .int v_figures, .int v_value, .int v_wrong, .ref q_went, .ref q_free, .ref q_stands])), (q_town, .inl (cI, 27, .inl v_town)), (q_p1, .inl (cI, 19, .inl v_p1))]) [0, 1, 2] (by decide) rfl
    rw [hQ]
    exact W.zret (v := 1) (ty := .boolean) hx hb hr rfl (fun t ht hW => ⟨⟨1, (), rfl, rfl, by rw [ht]; exact hP9, va_K.moved hW.alike hK, hD9⟩, hS.F ht⟩) hS.2.2 dX12_isLent_18
def fX12_spillsAt (v_town : Nat → Int32) (v_p1 : Nat → Int32) (a2 : Int32) : Option ((Nat → Int32)) :=
  if ((0 + a2) < 0 ∨ 19 ≤ Int32.toNatClampNeg (0 + a2)) then none else if ((3 + a2) < 0 ∨ 27 ≤ Int32.toNatClampNeg (3 + a2)) then none else if ((v_p1 (Int32.toNatClampNeg (0 + a2))) - (v_town (Int32.toNatClampNeg (3 + a2)))) ≤ 0 then (some v_p1) else (Option.bind (fX12_lesser (((upd v_p1 (Int32.toNatClampNeg (0 + a2)) ((v_p1 (Int32.toNatClampNeg (0 + a2))) - ((v_p1 (Int32.toNatClampNeg (0 + a2))) - (v_town (Int32.toNatClampNeg (3 + a2)))))) (Int32.toNatClampNeg 17)) + ((v_p1 (Int32.toNatClampNeg (0 + a2))) - (v_town (Int32.toNatClampNeg (3 + a2))))) 9999999) (fun y39 => some (upd (upd v_p1 (Int32.toNatClampNeg (0 + a2)) ((v_p1 (Int32.toNatClampNeg (0 + a2))) - ((v_p1 (Int32.toNatClampNeg (0 + a2))) - (v_town (Int32.toNatClampNeg (3 + a2)))))) (Int32.toNatClampNeg 17) y39)))
def rmX12_spillsAt : Room := { frames := 1, cells := 0, slots := 0, locals := 21 }
set_option maxHeartbeats 4000000 in
set_option maxRecDepth 100000 in
theorem tX12_spillsAt (l : Launch) (dC : Nat → ClassId) (dI : Nat → Nat → Nat) (cI cZ : ClassId) (q_aside q_book q_free q_images q_kept q_now q_p1 q_past q_read q_sights q_stands q_text q_this q_town q_went : Nat) (sz : Nat) (v_undos : Int32) (v_seed : Int64) (v_size : Int32) (v_fault : Int32) (v_sightMany : Int32) (v_bookMany : Int32) (v_at : Int32) (v_begin : Int32) (v_sign : Int32) (v_figures : Int32) (v_value : Int32) (v_wrong : Int32) (v_town : Nat → Int32) (v_p1 : Nat → Int32) (a2 : Int32) (out : (Nat → Int32)) (hrun : fX12_spillsAt v_town v_p1 a2 = some out) : Met l yX12_spillsAt wsX12_spillsAt rmX12_spillsAt (va_Pc [.ref q_this, .ref q_p1, .int a2] (fun U => U.heap.size = sz ∧ va_P (dC, dI) vwCl [(q_this, .inr (12, [.ref q_town, .ref q_read, .ref q_now, .ref q_aside, .ref q_past, .int v_undos, .ref q_images, .ref q_kept, .long v_seed, .ref q_text, .int v_size, .int v_fault, .ref q_sights, .int v_sightMany, .ref q_book, .int v_bookMany, .int v_at, .int v_begin, .int v_sign, .int v_figures, .int v_value, .int v_wrong, .ref q_went, .ref q_free, .ref q_stands])), (q_town, .inl (cI, 27, .inl v_town)), (q_p1, .inl (cI, 19, .inl v_p1))] U.heap ∧ va_K (dC, dI) vwCl [(cI, .int), (cZ, .boolean)] U ∧ va_D (fun _ => True) [(q_this, .inr (12, [.ref q_town, .ref q_read, .ref q_now, .ref q_aside, .ref q_past, .int v_undos, .ref q_images, .ref q_kept, .long v_seed, .ref q_text, .int v_size, .int v_fault, .ref q_sights, .int v_sightMany, .ref q_book, .int v_bookMany, .int v_at, .int v_begin, .int v_sign, .int v_figures, .int v_value, .int v_wrong, .ref q_went, .ref q_free, .ref q_stands])), (q_town, .inl (cI, 27, .inl v_town)), (q_p1, .inl (cI, 19, .inl v_p1))])) (va_Qv (fun _ : Unit => True) (fun _ t => va_P (dC, dI) vwCl [(q_this, .inr (12, [.ref q_town, .ref q_read, .ref q_now, .ref q_aside, .ref q_past, .int v_undos, .ref q_images, .ref q_kept, .long v_seed, .ref q_text, .int v_size, .int v_fault, .ref q_sights, .int v_sightMany, .ref q_book, .int v_bookMany, .int v_at, .int v_begin, .int v_sign, .int v_figures, .int v_value, .int v_wrong, .ref q_went, .ref q_free, .ref q_stands])), (q_town, .inl (cI, 27, .inl v_town)), (q_p1, .inl (cI, 19, .inl out))] t.heap ∧ va_K (dC, dI) vwCl [(cI, .int), (cZ, .boolean)] t ∧ va_D (va_A [(q_this, .inr (12, [.ref q_town, .ref q_read, .ref q_now, .ref q_aside, .ref q_past, .int v_undos, .ref q_images, .ref q_kept, .long v_seed, .ref q_text, .int v_size, .int v_fault, .ref q_sights, .int v_sightMany, .ref q_book, .int v_bookMany, .int v_at, .int v_begin, .int v_sign, .int v_figures, .int v_value, .int v_wrong, .ref q_went, .ref q_free, .ref q_stands])), (q_town, .inl (cI, 27, .inl v_town)), (q_p1, .inl (cI, 19, .inl v_p1))] sz) [(q_this, .inr (12, [.ref q_town, .ref q_read, .ref q_now, .ref q_aside, .ref q_past, .int v_undos, .ref q_images, .ref q_kept, .long v_seed, .ref q_text, .int v_size, .int v_fault, .ref q_sights, .int v_sightMany, .ref q_book, .int v_bookMany, .int v_at, .int v_begin, .int v_sign, .int v_figures, .int v_value, .int v_wrong, .ref q_went, .ref q_free, .ref q_stands])), (q_town, .inl (cI, 27, .inl v_town)), (q_p1, .inl (cI, 19, .inl out))]) (va_A [(q_this, .inr (12, [.ref q_town, .ref q_read, .ref q_now, .ref q_aside, .ref q_past, .int v_undos, .ref q_images, .ref q_kept, .long v_seed, .ref q_text, .int v_size, .int v_fault, .ref q_sights, .int v_sightMany, .ref q_book, .int v_bookMany, .int v_at, .int v_begin, .int v_sign, .int v_figures, .int v_value, .int v_wrong, .ref q_went, .ref q_free, .ref q_stands])), (q_town, .inl (cI, 27, .inl v_town)), (q_p1, .inl (cI, 19, .inl v_p1))] sz)) 0 0 (va_A [(q_this, .inr (12, [.ref q_town, .ref q_read, .ref q_now, .ref q_aside, .ref q_past, .int v_undos, .ref q_images, .ref q_kept, .long v_seed, .ref q_text, .int v_size, .int v_fault, .ref q_sights, .int v_sightMany, .ref q_book, .int v_bookMany, .int v_at, .int v_begin, .int v_sign, .int v_figures, .int v_value, .int v_wrong, .ref q_went, .ref q_free, .ref q_stands])), (q_town, .inl (cI, 27, .inl v_town)), (q_p1, .inl (cI, 19, .inl v_p1))] sz) := by
  refine Met.ofW (cc := cX12_spillsAt) (maxL := 4) (ret := none) (by decide) rfl ?_
  intro p e s m args below meth c s₁ B hml hv
  obtain ⟨rfl, hsz, hP, hK, hD0⟩ := hv
  have hx := B.exec
  have hb := B.bytes
  have hr := B.returns
  have hts := atoms_spec (ws := wsX12_spillsAt) B.pre
  have hown : s.vm.findClass RX12 = some m.cls := findClass_of_methodNamed B.named
  have hlocks := B.notSynchronized
  subst hsz
  have hD := hD0.self (sz := s.heap.size)
  generalize hAe : va_A [(q_this, .inr (12, [.ref q_town, .ref q_read, .ref q_now, .ref q_aside, .ref q_past, .int v_undos, .ref q_images, .ref q_kept, .long v_seed, .ref q_text, .int v_size, .int v_fault, .ref q_sights, .int v_sightMany, .ref q_book, .int v_bookMany, .int v_at, .int v_begin, .int v_sign, .int v_figures, .int v_value, .int v_wrong, .ref q_went, .ref q_free, .ref q_stands])), (q_town, .inl (cI, 27, .inl v_town)), (q_p1, .inl (cI, 19, .inl v_p1))] s.heap.size = A at hD ⊢
  have hA : ∀ q : Nat, s.heap.size ≤ q → A q := fun q h => by rw [← hAe]; exact Or.inr h
  have hS : va_S A s.heap s.heap [] := va_S.rf
  have hl := lv_entry ([.ref q_this, .ref q_p1, .int a2]) (n := 4) (Nat.le_of_ble_eq_true rfl)
  rw [lg_entry_eq]
  generalize (lg_sl ([.ref q_this, .ref q_p1, .int a2]) ++ List.replicate (4 - (lg_sl ([.ref q_this, .ref q_p1, .int a2])).length) Slot.unset).toArray = ls at hl ⊢
  have hl : lv_has ls 4 [(0, .ref q_this), (1, .ref q_p1), (2, .int a2)] := hl
  unfold fX12_spillsAt at hrun
  have hk7 := hts (.fieldLink RX12 7 "LentDrainsModel" "town" "[I") (by decide +kernel)
  have hiX12 : ∀ w ∈ wsX120, w ∈ wsX12_spillsAt := by decide +kernel
  have hk128 := hts (.constant RX12 128 (9999999)) (by decide +kernel)
  refine oz_genQ (fun Q hQ => ?_)
  refine lv_aload_n hx hb dX12_spillsAt_0 rfl (lv_at hl 1 rfl) ?_
  refine lv_iconst (v := 0) hx hb dX12_spillsAt_1 (by decide) ?_
  refine lv_iload_n hx hb dX12_spillsAt_2 rfl (lv_at hl 2 rfl) ?_
  refine lv_iadd hx hb dX12_spillsAt_3 ?_
  obtain ⟨c1, hrun⟩ := oz_chk hrun
  refine va_iald hx hb hK hP 2 0 rfl rfl c1 dX12_spillsAt_4 ?_
  refine lv_aload_n hx hb dX12_spillsAt_5 rfl (lv_at hl 0 rfl) ?_
  refine va_get (D := (dC, dI)) (ci := 12) (v := .ref q_town) (C := RX12) (T := TX12) (N := 25) hx hb hts hiX12 hown hK hP 0 rfl rfl 0 (by decide) hk7 (fun _ h9 => h9) rfl dX12_spillsAt_6 ?_
  refine lv_iconst (v := 3) hx hb dX12_spillsAt_9 (by decide) ?_
  refine lv_iload_n hx hb dX12_spillsAt_10 rfl (lv_at hl 2 rfl) ?_
  refine lv_iadd hx hb dX12_spillsAt_11 ?_
  obtain ⟨c2, hrun⟩ := oz_chk hrun
  refine va_iald hx hb hK hP 1 0 rfl rfl c2 dX12_spillsAt_12 ?_
  refine lv_isub hx hb dX12_spillsAt_13 ?_
  refine lv_istore_n (lv' := [(3, .int ((v_p1 (Int32.toNatClampNeg (0 + a2))) - (v_town (Int32.toNatClampNeg (3 + a2))))), (0, .ref q_this), (1, .ref q_p1), (2, .int a2)]) hx hb dX12_spillsAt_14 rfl hl (by decide) rfl (fun ls hl => ?_)
  refine lv_iload_n hx hb dX12_spillsAt_15 rfl (lv_at hl 0 rfl) ?_
  refine lv_if_le (tgt := 43) hx hb dX12_spillsAt_16 (by decide) (fun c3 => ?_) (fun c3 => ?_)
  · have hrun := oz_t hrun c3
    have ho9 := Option.some.inj hrun
    subst ho9
    have hP9 := hP.sub (ws' := [(q_this, .inr (12, [.ref q_town, .ref q_read, .ref q_now, .ref q_aside, .ref q_past, .int v_undos, .ref q_images, .ref q_kept, .long v_seed, .ref q_text, .int v_size, .int v_fault, .ref q_sights, .int v_sightMany, .ref q_book, .int v_bookMany, .int v_at, .int v_begin, .int v_sign, .int v_figures, .int v_value, .int v_wrong, .ref q_went, .ref q_free, .ref q_stands])), (q_town, .inl (cI, 27, .inl v_town)), (q_p1, .inl (cI, 19, .inl v_p1))]) [0, 1, 2] rfl
    have hD9 := hD.sub (ws' := [(q_this, .inr (12, [.ref q_town, .ref q_read, .ref q_now, .ref q_aside, .ref q_past, .int v_undos, .ref q_images, .ref q_kept, .long v_seed, .ref q_text, .int v_size, .int v_fault, .ref q_sights, .int v_sightMany, .ref q_book, .int v_bookMany, .int v_at, .int v_begin, .int v_sign, .int v_figures, .int v_value, .int v_wrong, .ref q_went, .ref q_free, .ref q_stands])), (q_town, .inl (cI, 27, .inl v_town)), (q_p1, .inl (cI, 19, .inl v_p1))]) [0, 1, 2] (by decide) rfl
    rw [hQ]
    exact W.vret hx hb hr (fun t ht hW => ⟨⟨(), rfl, trivial, by rw [ht]; exact hP9, va_K.moved hW.alike hK, hD9⟩, hS.F ht⟩) hS.2.2 dX12_spillsAt_43
  · have hrun := oz_f hrun c3
    refine lv_aload_n hx hb dX12_spillsAt_19 rfl (lv_at hl 2 rfl) ?_
    refine lv_iconst (v := 0) hx hb dX12_spillsAt_20 (by decide) ?_
    refine lv_iload_n hx hb dX12_spillsAt_21 rfl (lv_at hl 3 rfl) ?_
    refine lv_iadd hx hb dX12_spillsAt_22 ?_
    refine lv_dup2_11 hx hb dX12_spillsAt_23 rfl rfl ?_
    refine va_iald hx hb hK hP 2 0 rfl rfl c1 dX12_spillsAt_24 ?_
    refine lv_iload_n hx hb dX12_spillsAt_25 rfl (lv_at hl 0 rfl) ?_
    refine lv_isub hx hb dX12_spillsAt_26 ?_
    refine va_iast hx hb hK hP hD hS 2 0 rfl rfl c1 dX12_spillsAt_27 (fun H locs hP hD hS => ?_)
    have hP : va_P (dC, dI) vwCl [(q_this, .inr (12, [.ref q_town, .ref q_read, .ref q_now, .ref q_aside, .ref q_past, .int v_undos, .ref q_images, .ref q_kept, .long v_seed, .ref q_text, .int v_size, .int v_fault, .ref q_sights, .int v_sightMany, .ref q_book, .int v_bookMany, .int v_at, .int v_begin, .int v_sign, .int v_figures, .int v_value, .int v_wrong, .ref q_went, .ref q_free, .ref q_stands])), (q_town, .inl (cI, 27, .inl v_town)), (q_p1, .inl (cI, 19, .inl (upd v_p1 (Int32.toNatClampNeg (0 + a2)) ((v_p1 (Int32.toNatClampNeg (0 + a2))) - ((v_p1 (Int32.toNatClampNeg (0 + a2))) - (v_town (Int32.toNatClampNeg (3 + a2))))))))] H := hP
    have hD : va_D A [(q_this, .inr (12, [.ref q_town, .ref q_read, .ref q_now, .ref q_aside, .ref q_past, .int v_undos, .ref q_images, .ref q_kept, .long v_seed, .ref q_text, .int v_size, .int v_fault, .ref q_sights, .int v_sightMany, .ref q_book, .int v_bookMany, .int v_at, .int v_begin, .int v_sign, .int v_figures, .int v_value, .int v_wrong, .ref q_went, .ref q_free, .ref q_stands])), (q_town, .inl (cI, 27, .inl v_town)), (q_p1, .inl (cI, 19, .inl (upd v_p1 (Int32.toNatClampNeg (0 + a2)) ((v_p1 (Int32.toNatClampNeg (0 + a2))) - ((v_p1 (Int32.toNatClampNeg (0 + a2))) - (v_town (Int32.toNatClampNeg (3 + a2))))))))] := hD
    refine lv_aload_n hx hb dX12_spillsAt_28 rfl (lv_at hl 2 rfl) ?_
    refine lv_bipush (v := 17) hx hb dX12_spillsAt_29 (by decide) ?_
    refine lv_aload_n hx hb dX12_spillsAt_31 rfl (lv_at hl 2 rfl) ?_
    refine lv_bipush (v := 17) hx hb dX12_spillsAt_32 (by decide) ?_
    refine va_iald hx hb hK hP 2 0 rfl rfl (show ¬ ((17 : Int32) < 0 ∨ 19 ≤ (17 : Int32).toNatClampNeg) by decide) dX12_spillsAt_34 ?_
    refine lv_iload_n hx hb dX12_spillsAt_35 rfl (lv_at hl 0 rfl) ?_
    refine lv_iadd hx hb dX12_spillsAt_36 ?_
    refine lv_ldc hx hb hown hk128 dX12_spillsAt_37 ?_
    obtain ⟨y39, hc39, hrun⟩ := oz_bind hrun
    have hPc := hP.sub (ws' := []) [] rfl
    have hDc := hD.sub (ws' := []) [] (by decide) rfl
    have hFc := va_free (wc := []) hD hS hA [] rfl
    refine va_calli (va_runS (As := [.int (((upd v_p1 (Int32.toNatClampNeg (0 + a2)) ((v_p1 (Int32.toNatClampNeg (0 + a2))) - ((v_p1 (Int32.toNatClampNeg (0 + a2))) - (v_town (Int32.toNatClampNeg (3 + a2)))))) (Int32.toNatClampNeg 17)) + ((v_p1 (Int32.toNatClampNeg (0 + a2))) - (v_town (Int32.toNatClampNeg (3 + a2))))), .int 9999999]) (rest := [.int 17, .ref q_p1]) ⟨hx, hb, hml, hown, hts⟩ (tX12_lesser l dC dI cI cZ H.size (((upd v_p1 (Int32.toNatClampNeg (0 + a2)) ((v_p1 (Int32.toNatClampNeg (0 + a2))) - ((v_p1 (Int32.toNatClampNeg (0 + a2))) - (v_town (Int32.toNatClampNeg (3 + a2)))))) (Int32.toNatClampNeg 17)) + ((v_p1 (Int32.toNatClampNeg (0 + a2))) - (v_town (Int32.toNatClampNeg (3 + a2))))) 9999999 y39 hc39) (va_cwS 2 hts gX12_spillsAt_X12_lesser rfl rfl rfl (by decide +kernel) ⟨Nat.le_of_ble_eq_true rfl, Nat.le_of_ble_eq_true rfl⟩) ⟨fun a U g mk q => by obtain ⟨q0, q1, qP, qK, qD⟩ := q; exact ⟨q0, q1, qP, va_K.moved (u := U) (U := U.calling g mk a) (Vm.Alike.refl U.vm) qK, qD⟩, fun U hU hW => ⟨rfl, by rw [hU], by rw [hU]; exact hPc, va_K.moved hW.alike hK, hDc.weaken (fun _ _ _ _ => trivial)⟩⟩ rfl rfl hl.1 rfl (lv_room (Nat.le_of_ble_eq_true rfl)) dX12_spillsAt_39 ⟨Nat.le_of_ble_eq_true rfl, Nat.le_of_ble_eq_true rfl⟩) hS (fun q _ h => hFc q h) hFc (fun r39 u9 t9 H1 locs ht9 hvm9 hw9 hB9 hz9 hkk9 hS => ?_)
    have hw9 : y39 = r39 := hw9.symm
    subst hw9
    obtain ⟨hP9, hK9, hD9⟩ := hB9
    rw [ht9] at hP9
    obtain ⟨hP, hD⟩ := va_join (wr := [(q_this, .inr (12, [.ref q_town, .ref q_read, .ref q_now, .ref q_aside, .ref q_past, .int v_undos, .ref q_images, .ref q_kept, .long v_seed, .ref q_text, .int v_size, .int v_fault, .ref q_sights, .int v_sightMany, .ref q_book, .int v_bookMany, .int v_at, .int v_begin, .int v_sign, .int v_figures, .int v_value, .int v_wrong, .ref q_went, .ref q_free, .ref q_stands])), (q_town, .inl (cI, 27, .inl v_town)), (q_p1, .inl (cI, 19, .inl (upd v_p1 (Int32.toNatClampNeg (0 + a2)) ((v_p1 (Int32.toNatClampNeg (0 + a2))) - ((v_p1 (Int32.toNatClampNeg (0 + a2))) - (v_town (Int32.toNatClampNeg (3 + a2))))))))]) (w1 := []) hP hD [] [0, 1, 2] rfl rfl (by decide) (by decide) hkk9 hFc hP9 hD9
    generalize H1 = H at hP hS ⊢
    have hP : va_P (dC, dI) vwCl [(q_this, .inr (12, [.ref q_town, .ref q_read, .ref q_now, .ref q_aside, .ref q_past, .int v_undos, .ref q_images, .ref q_kept, .long v_seed, .ref q_text, .int v_size, .int v_fault, .ref q_sights, .int v_sightMany, .ref q_book, .int v_bookMany, .int v_at, .int v_begin, .int v_sign, .int v_figures, .int v_value, .int v_wrong, .ref q_went, .ref q_free, .ref q_stands])), (q_town, .inl (cI, 27, .inl v_town)), (q_p1, .inl (cI, 19, .inl (upd v_p1 (Int32.toNatClampNeg (0 + a2)) ((v_p1 (Int32.toNatClampNeg (0 + a2))) - ((v_p1 (Int32.toNatClampNeg (0 + a2))) - (v_town (Int32.toNatClampNeg (3 + a2))))))))] H := hP
    have hD : va_D A [(q_this, .inr (12, [.ref q_town, .ref q_read, .ref q_now, .ref q_aside, .ref q_past, .int v_undos, .ref q_images, .ref q_kept, .long v_seed, .ref q_text, .int v_size, .int v_fault, .ref q_sights, .int v_sightMany, .ref q_book, .int v_bookMany, .int v_at, .int v_begin, .int v_sign, .int v_figures, .int v_value, .int v_wrong, .ref q_went, .ref q_free, .ref q_stands])), (q_town, .inl (cI, 27, .inl v_town)), (q_p1, .inl (cI, 19, .inl (upd v_p1 (Int32.toNatClampNeg (0 + a2)) ((v_p1 (Int32.toNatClampNeg (0 + a2))) - ((v_p1 (Int32.toNatClampNeg (0 + a2))) - (v_town (Int32.toNatClampNeg (3 + a2))))))))] := hD
    refine va_iast hx hb hK hP hD hS 2 0 rfl rfl (show ¬ ((17 : Int32) < 0 ∨ 19 ≤ (17 : Int32).toNatClampNeg) by decide) dX12_spillsAt_42 (fun H locs hP hD hS => ?_)
    have hP : va_P (dC, dI) vwCl [(q_this, .inr (12, [.ref q_town, .ref q_read, .ref q_now, .ref q_aside, .ref q_past, .int v_undos, .ref q_images, .ref q_kept, .long v_seed, .ref q_text, .int v_size, .int v_fault, .ref q_sights, .int v_sightMany, .ref q_book, .int v_bookMany, .int v_at, .int v_begin, .int v_sign, .int v_figures, .int v_value, .int v_wrong, .ref q_went, .ref q_free, .ref q_stands])), (q_town, .inl (cI, 27, .inl v_town)), (q_p1, .inl (cI, 19, .inl (upd (upd v_p1 (Int32.toNatClampNeg (0 + a2)) ((v_p1 (Int32.toNatClampNeg (0 + a2))) - ((v_p1 (Int32.toNatClampNeg (0 + a2))) - (v_town (Int32.toNatClampNeg (3 + a2)))))) (Int32.toNatClampNeg 17) y39)))] H := hP
    have hD : va_D A [(q_this, .inr (12, [.ref q_town, .ref q_read, .ref q_now, .ref q_aside, .ref q_past, .int v_undos, .ref q_images, .ref q_kept, .long v_seed, .ref q_text, .int v_size, .int v_fault, .ref q_sights, .int v_sightMany, .ref q_book, .int v_bookMany, .int v_at, .int v_begin, .int v_sign, .int v_figures, .int v_value, .int v_wrong, .ref q_went, .ref q_free, .ref q_stands])), (q_town, .inl (cI, 27, .inl v_town)), (q_p1, .inl (cI, 19, .inl (upd (upd v_p1 (Int32.toNatClampNeg (0 + a2)) ((v_p1 (Int32.toNatClampNeg (0 + a2))) - ((v_p1 (Int32.toNatClampNeg (0 + a2))) - (v_town (Int32.toNatClampNeg (3 + a2)))))) (Int32.toNatClampNeg 17) y39)))] := hD
    have ho9 := Option.some.inj hrun
    subst ho9
    have hP9 := hP.sub (ws' := [(q_this, .inr (12, [.ref q_town, .ref q_read, .ref q_now, .ref q_aside, .ref q_past, .int v_undos, .ref q_images, .ref q_kept, .long v_seed, .ref q_text, .int v_size, .int v_fault, .ref q_sights, .int v_sightMany, .ref q_book, .int v_bookMany, .int v_at, .int v_begin, .int v_sign, .int v_figures, .int v_value, .int v_wrong, .ref q_went, .ref q_free, .ref q_stands])), (q_town, .inl (cI, 27, .inl v_town)), (q_p1, .inl (cI, 19, .inl (upd (upd v_p1 (Int32.toNatClampNeg (0 + a2)) ((v_p1 (Int32.toNatClampNeg (0 + a2))) - ((v_p1 (Int32.toNatClampNeg (0 + a2))) - (v_town (Int32.toNatClampNeg (3 + a2)))))) (Int32.toNatClampNeg 17) y39)))]) [0, 1, 2] rfl
    have hD9 := hD.sub (ws' := [(q_this, .inr (12, [.ref q_town, .ref q_read, .ref q_now, .ref q_aside, .ref q_past, .int v_undos, .ref q_images, .ref q_kept, .long v_seed, .ref q_text, .int v_size, .int v_fault, .ref q_sights, .int v_sightMany, .ref q_book, .int v_bookMany, .int v_at, .int v_begin, .int v_sign, .int v_figures, .int v_value, .int v_wrong, .ref q_went, .ref q_free, .ref q_stands])), (q_town, .inl (cI, 27, .inl v_town)), (q_p1, .inl (cI, 19, .inl (upd (upd v_p1 (Int32.toNatClampNeg (0 + a2)) ((v_p1 (Int32.toNatClampNeg (0 + a2))) - ((v_p1 (Int32.toNatClampNeg (0 + a2))) - (v_town (Int32.toNatClampNeg (3 + a2)))))) (Int32.toNatClampNeg 17) y39)))]) [0, 1, 2] (by decide) rfl
    rw [hQ]
    exact W.vret hx hb hr (fun t ht hW => ⟨⟨(), rfl, trivial, by rw [ht]; exact hP9, va_K.moved hW.alike hK, hD9⟩, hS.F ht⟩) hS.2.2 dX12_spillsAt_43
def fX12_dayGoes_b3 (v_town : Nat → Int32) (a2 : Int32) (a3 : Int32) (w3 : Int32 × (Nat → Int32)) : Option ((Int32 × (Nat → Int32)) ⊕ (Int32 × (Nat → Int32))) :=
  if (v_town (Int32.toNatClampNeg 2)) ≤ w3.1 then (some (.inr (w3.1, w3.2))) else (if ((11 + w3.1) < 0 ∨ 27 ≤ Int32.toNatClampNeg (11 + w3.1)) then none else if w3.1 = a2 then (if ((8 + w3.1) < 0 ∨ 19 ≤ Int32.toNatClampNeg (8 + w3.1)) then none else if (w3.2 (Int32.toNatClampNeg (8 + w3.1))) ≤ 0 then (Option.bind (fX12_isLent v_town w3.2) (fun y64 => if y64 = 0 then (Option.bind (fX12_lesser ((w3.2 (Int32.toNatClampNeg 18)) + ((v_town (Int32.toNatClampNeg (11 + w3.1))) + a3)) 9999999) (fun y103 => some (.inl ((w3.1 + 1), (upd w3.2 (Int32.toNatClampNeg 18) y103))))) else (if ((0 + w3.1) < 0 ∨ 19 ≤ Int32.toNatClampNeg (0 + w3.1)) then none else Option.bind (fX12_spillsAt v_town (upd w3.2 (Int32.toNatClampNeg (0 + w3.1)) ((w3.2 (Int32.toNatClampNeg (0 + w3.1))) + ((v_town (Int32.toNatClampNeg (11 + w3.1))) + a3))) w3.1) (fun y85 => some (.inl ((w3.1 + 1), y85)))))) else (some (.inl ((w3.1 + 1), (upd w3.2 (Int32.toNatClampNeg (8 + w3.1)) ((w3.2 (Int32.toNatClampNeg (8 + w3.1))) - 1)))))) else (if ((8 + w3.1) < 0 ∨ 19 ≤ Int32.toNatClampNeg (8 + w3.1)) then none else if (w3.2 (Int32.toNatClampNeg (8 + w3.1))) ≤ 0 then (Option.bind (fX12_isLent v_town w3.2) (fun y64 => if y64 = 0 then (Option.bind (fX12_lesser ((w3.2 (Int32.toNatClampNeg 18)) + ((v_town (Int32.toNatClampNeg (11 + w3.1))) + 0)) 9999999) (fun y103 => some (.inl ((w3.1 + 1), (upd w3.2 (Int32.toNatClampNeg 18) y103))))) else (if ((0 + w3.1) < 0 ∨ 19 ≤ Int32.toNatClampNeg (0 + w3.1)) then none else Option.bind (fX12_spillsAt v_town (upd w3.2 (Int32.toNatClampNeg (0 + w3.1)) ((w3.2 (Int32.toNatClampNeg (0 + w3.1))) + ((v_town (Int32.toNatClampNeg (11 + w3.1))) + 0))) w3.1) (fun y85 => some (.inl ((w3.1 + 1), y85)))))) else (some (.inl ((w3.1 + 1), (upd w3.2 (Int32.toNatClampNeg (8 + w3.1)) ((w3.2 (Int32.toNatClampNeg (8 + w3.1))) - 1)))))))
def fX12_dayGoes (v_town : Nat → Int32) (v_p1 : Nat → Int32) (a2 : Int32) (a3 : Int32) : Option ((Nat → Int32)) :=
  Option.bind (oz_loop (fX12_dayGoes_b3 v_town a2 a3) oz_fuel (0, v_p1)) (fun o3 => some (upd o3.2 (Int32.toNatClampNeg 16) ((o3.2 (Int32.toNatClampNeg 16)) + 1)))
def rmX12_dayGoes : Room := { frames := 2, cells := 0, slots := 0, locals := 44 }
set_option maxHeartbeats 4000000 in
set_option maxRecDepth 100000 in
theorem tX12_dayGoes (l : Launch) (dC : Nat → ClassId) (dI : Nat → Nat → Nat) (cI cZ : ClassId) (q_aside q_book q_free q_images q_kept q_now q_p1 q_past q_read q_sights q_stands q_text q_this q_town q_went : Nat) (sz : Nat) (v_undos : Int32) (v_seed : Int64) (v_size : Int32) (v_fault : Int32) (v_sightMany : Int32) (v_bookMany : Int32) (v_at : Int32) (v_begin : Int32) (v_sign : Int32) (v_figures : Int32) (v_value : Int32) (v_wrong : Int32) (v_town : Nat → Int32) (v_p1 : Nat → Int32) (a2 : Int32) (a3 : Int32) (out : (Nat → Int32)) (hrun : fX12_dayGoes v_town v_p1 a2 a3 = some out) : Met l yX12_dayGoes wsX12_dayGoes rmX12_dayGoes (va_Pc [.ref q_this, .ref q_p1, .int a2, .int a3] (fun U => U.heap.size = sz ∧ va_P (dC, dI) vwCl [(q_this, .inr (12, [.ref q_town, .ref q_read, .ref q_now, .ref q_aside, .ref q_past, .int v_undos, .ref q_images, .ref q_kept, .long v_seed, .ref q_text, .int v_size, .int v_fault, .ref q_sights, .int v_sightMany, .ref q_book, .int v_bookMany, .int v_at, .int v_begin, .int v_sign, .int v_figures, .int v_value, .int v_wrong, .ref q_went, .ref q_free, .ref q_stands])), (q_town, .inl (cI, 27, .inl v_town)), (q_p1, .inl (cI, 19, .inl v_p1))] U.heap ∧ va_K (dC, dI) vwCl [(cI, .int), (cZ, .boolean)] U ∧ va_D (fun _ => True) [(q_this, .inr (12, [.ref q_town, .ref q_read, .ref q_now, .ref q_aside, .ref q_past, .int v_undos, .ref q_images, .ref q_kept, .long v_seed, .ref q_text, .int v_size, .int v_fault, .ref q_sights, .int v_sightMany, .ref q_book, .int v_bookMany, .int v_at, .int v_begin, .int v_sign, .int v_figures, .int v_value, .int v_wrong, .ref q_went, .ref q_free, .ref q_stands])), (q_town, .inl (cI, 27, .inl v_town)), (q_p1, .inl (cI, 19, .inl v_p1))])) (va_Qv (fun _ : Unit => True) (fun _ t => va_P (dC, dI) vwCl [(q_this, .inr (12, [.ref q_town, .ref q_read, .ref q_now, .ref q_aside, .ref q_past, .int v_undos, .ref q_images, .ref q_kept, .long v_seed, .ref q_text, .int v_size, .int v_fault, .ref q_sights, .int v_sightMany, .ref q_book, .int v_bookMany, .int v_at, .int v_begin, .int v_sign, .int v_figures, .int v_value, .int v_wrong, .ref q_went, .ref q_free, .ref q_stands])), (q_town, .inl (cI, 27, .inl v_town)), (q_p1, .inl (cI, 19, .inl out))] t.heap ∧ va_K (dC, dI) vwCl [(cI, .int), (cZ, .boolean)] t ∧ va_D (va_A [(q_this, .inr (12, [.ref q_town, .ref q_read, .ref q_now, .ref q_aside, .ref q_past, .int v_undos, .ref q_images, .ref q_kept, .long v_seed, .ref q_text, .int v_size, .int v_fault, .ref q_sights, .int v_sightMany, .ref q_book, .int v_bookMany, .int v_at, .int v_begin, .int v_sign, .int v_figures, .int v_value, .int v_wrong, .ref q_went, .ref q_free, .ref q_stands])), (q_town, .inl (cI, 27, .inl v_town)), (q_p1, .inl (cI, 19, .inl v_p1))] sz) [(q_this, .inr (12, [.ref q_town, .ref q_read, .ref q_now, .ref q_aside, .ref q_past, .int v_undos, .ref q_images, .ref q_kept, .long v_seed, .ref q_text, .int v_size, .int v_fault, .ref q_sights, .int v_sightMany, .ref q_book, .int v_bookMany, .int v_at, .int v_begin, .int v_sign, .int v_figures, .int v_value, .int v_wrong, .ref q_went, .ref q_free, .ref q_stands])), (q_town, .inl (cI, 27, .inl v_town)), (q_p1, .inl (cI, 19, .inl out))]) (va_A [(q_this, .inr (12, [.ref q_town, .ref q_read, .ref q_now, .ref q_aside, .ref q_past, .int v_undos, .ref q_images, .ref q_kept, .long v_seed, .ref q_text, .int v_size, .int v_fault, .ref q_sights, .int v_sightMany, .ref q_book, .int v_bookMany, .int v_at, .int v_begin, .int v_sign, .int v_figures, .int v_value, .int v_wrong, .ref q_went, .ref q_free, .ref q_stands])), (q_town, .inl (cI, 27, .inl v_town)), (q_p1, .inl (cI, 19, .inl v_p1))] sz)) 0 0 (va_A [(q_this, .inr (12, [.ref q_town, .ref q_read, .ref q_now, .ref q_aside, .ref q_past, .int v_undos, .ref q_images, .ref q_kept, .long v_seed, .ref q_text, .int v_size, .int v_fault, .ref q_sights, .int v_sightMany, .ref q_book, .int v_bookMany, .int v_at, .int v_begin, .int v_sign, .int v_figures, .int v_value, .int v_wrong, .ref q_went, .ref q_free, .ref q_stands])), (q_town, .inl (cI, 27, .inl v_town)), (q_p1, .inl (cI, 19, .inl v_p1))] sz) := by
  refine Met.ofW (cc := cX12_dayGoes) (maxL := 6) (ret := none) (by decide) rfl ?_
  intro p e s m args below meth c s₁ B hml hv
  obtain ⟨rfl, hsz, hP, hK, hD0⟩ := hv
  have hx := B.exec
  have hb := B.bytes
  have hr := B.returns
  have hts := atoms_spec (ws := wsX12_dayGoes) B.pre
  have hown : s.vm.findClass RX12 = some m.cls := findClass_of_methodNamed B.named
  have hlocks := B.notSynchronized
  subst hsz
  have hD := hD0.self (sz := s.heap.size)
  generalize hAe : va_A [(q_this, .inr (12, [.ref q_town, .ref q_read, .ref q_now, .ref q_aside, .ref q_past, .int v_undos, .ref q_images, .ref q_kept, .long v_seed, .ref q_text, .int v_size, .int v_fault, .ref q_sights, .int v_sightMany, .ref q_book, .int v_bookMany, .int v_at, .int v_begin, .int v_sign, .int v_figures, .int v_value, .int v_wrong, .ref q_went, .ref q_free, .ref q_stands])), (q_town, .inl (cI, 27, .inl v_town)), (q_p1, .inl (cI, 19, .inl v_p1))] s.heap.size = A at hD ⊢
  have hA : ∀ q : Nat, s.heap.size ≤ q → A q := fun q h => by rw [← hAe]; exact Or.inr h
  have hS : va_S A s.heap s.heap [] := va_S.rf
  have hl := lv_entry ([.ref q_this, .ref q_p1, .int a2, .int a3]) (n := 6) (Nat.le_of_ble_eq_true rfl)
  rw [lg_entry_eq]
  generalize (lg_sl ([.ref q_this, .ref q_p1, .int a2, .int a3]) ++ List.replicate (6 - (lg_sl ([.ref q_this, .ref q_p1, .int a2, .int a3])).length) Slot.unset).toArray = ls at hl ⊢
  have hl : lv_has ls 6 [(0, .ref q_this), (1, .ref q_p1), (2, .int a2), (3, .int a3)] := hl
  unfold fX12_dayGoes at hrun
  have hk7 := hts (.fieldLink RX12 7 "LentDrainsModel" "town" "[I") (by decide +kernel)
  have hiX12 : ∀ w ∈ wsX120, w ∈ wsX12_dayGoes := by decide +kernel
  have hk128 := hts (.constant RX12 128 (9999999)) (by decide +kernel)
  refine oz_genQ (fun Q hQ => ?_)
  refine lv_iconst (v := 0) hx hb dX12_dayGoes_0 (by decide) ?_
  refine lv_istore (lv' := [(4, .int 0), (0, .ref q_this), (1, .ref q_p1), (2, .int a2), (3, .int a3)]) hx hb dX12_dayGoes_1 hl (by decide) rfl (fun ls hl => ?_)
  obtain ⟨o3, hlp3, hrun⟩ := oz_bind hrun
  have hL3 : ∀ (n : Nat) (w3 : Int32 × (Nat → Int32)) (o3 : Int32 × (Nat → Int32)), oz_loop (fX12_dayGoes_b3 v_town a2 a3) n w3 = some o3 → (∀ (H : Heap) (locs : List Loc) (ls : Array Slot), va_P (dC, dI) vwCl [(q_this, .inr (12, [.ref q_town, .ref q_read, .ref q_now, .ref q_aside, .ref q_past, .int v_undos, .ref q_images, .ref q_kept, .long v_seed, .ref q_text, .int v_size, .int v_fault, .ref q_sights, .int v_sightMany, .ref q_book, .int v_bookMany, .int v_at, .int v_begin, .int v_sign, .int v_figures, .int v_value, .int v_wrong, .ref q_went, .ref q_free, .ref q_stands])), (q_town, .inl (cI, 27, .inl v_town)), (q_p1, .inl (cI, 19, .inl o3.2))] H → va_D A [(q_this, .inr (12, [.ref q_town, .ref q_read, .ref q_now, .ref q_aside, .ref q_past, .int v_undos, .ref q_images, .ref q_kept, .long v_seed, .ref q_text, .int v_size, .int v_fault, .ref q_sights, .int v_sightMany, .ref q_book, .int v_bookMany, .int v_at, .int v_begin, .int v_sign, .int v_figures, .int v_value, .int v_wrong, .ref q_went, .ref q_free, .ref q_stands])), (q_town, .inl (cI, 27, .inl v_town)), (q_p1, .inl (cI, 19, .inl o3.2))] → va_S A s.heap H locs → lv_has ls 6 [(4, .int o3.1), (0, .ref q_this), (1, .ref q_p1), (2, .int a2), (3, .int a3)] → W p l e (headSpec wsX12_dayGoes rmX12_dayGoes).room s m (([.ref q_this, .ref q_p1, .int a2, .int a3] : List Value).toArray) below meth c H locs 0 0 Q (F0 m 113 ls [])) → ∀ (H : Heap) (locs : List Loc) (ls : Array Slot), va_P (dC, dI) vwCl [(q_this, .inr (12, [.ref q_town, .ref q_read, .ref q_now, .ref q_aside, .ref q_past, .int v_undos, .ref q_images, .ref q_kept, .long v_seed, .ref q_text, .int v_size, .int v_fault, .ref q_sights, .int v_sightMany, .ref q_book, .int v_bookMany, .int v_at, .int v_begin, .int v_sign, .int v_figures, .int v_value, .int v_wrong, .ref q_went, .ref q_free, .ref q_stands])), (q_town, .inl (cI, 27, .inl v_town)), (q_p1, .inl (cI, 19, .inl w3.2))] H → va_D A [(q_this, .inr (12, [.ref q_town, .ref q_read, .ref q_now, .ref q_aside, .ref q_past, .int v_undos, .ref q_images, .ref q_kept, .long v_seed, .ref q_text, .int v_size, .int v_fault, .ref q_sights, .int v_sightMany, .ref q_book, .int v_bookMany, .int v_at, .int v_begin, .int v_sign, .int v_figures, .int v_value, .int v_wrong, .ref q_went, .ref q_free, .ref q_stands])), (q_town, .inl (cI, 27, .inl v_town)), (q_p1, .inl (cI, 19, .inl w3.2))] → va_S A s.heap H locs → lv_has ls 6 [(4, .int w3.1), (0, .ref q_this), (1, .ref q_p1), (2, .int a2), (3, .int a3)] → W p l e (headSpec wsX12_dayGoes rmX12_dayGoes).room s m (([.ref q_this, .ref q_p1, .int a2, .int a3] : List Value).toArray) below meth c H locs 0 0 Q (F0 m 3 ls []) := by
    intro n
    induction n with
    | zero => intro w3 o3 h9; exact (oz_zero h9).elim
    | succ n ih =>
      intro w3 o3 h9 hexit H locs ls hP hD hS hl
      obtain ⟨r9, hrun, hnext⟩ := oz_step h9
      unfold fX12_dayGoes_b3 at hrun
      refine lv_iload hx hb dX12_dayGoes_3 (lv_at hl 0 rfl) ?_
      refine lv_aload_n hx hb dX12_dayGoes_5 rfl (lv_at hl 1 rfl) ?_
      refine va_get (D := (dC, dI)) (ci := 12) (v := .ref q_town) (C := RX12) (T := TX12) (N := 25) hx hb hts hiX12 hown hK hP 0 rfl rfl 0 (by decide) hk7 (fun _ h9 => h9) rfl dX12_dayGoes_6 ?_
      refine lv_iconst (v := 2) hx hb dX12_dayGoes_9 (by decide) ?_
      refine va_iald hx hb hK hP 1 0 rfl rfl (show ¬ ((2 : Int32) < 0 ∨ 27 ≤ (2 : Int32).toNatClampNeg) by decide) dX12_dayGoes_10 ?_
      refine lv_icmp_ge (tgt := 113) hx hb dX12_dayGoes_11 (by decide) (fun c1 => ?_) (fun c1 => ?_)
      · have hrun := oz_t hrun c1
        have hr9 := Option.some.inj hrun
        subst hr9
        have ho9 : (w3.1, w3.2) = o3 := hnext
        subst ho9
        exact hexit _ _ _ (hP.sub [0, 1, 2] rfl) (hD.sub [0, 1, 2] (by decide) rfl) hS (lv_sub hl [0, 1, 2, 3, 4] rfl)
      · have hrun := oz_f hrun c1
        refine lv_aload_n hx hb dX12_dayGoes_14 rfl (lv_at hl 1 rfl) ?_
        refine va_get (D := (dC, dI)) (ci := 12) (v := .ref q_town) (C := RX12) (T := TX12) (N := 25) hx hb hts hiX12 hown hK hP 0 rfl rfl 0 (by decide) hk7 (fun _ h9 => h9) rfl dX12_dayGoes_15 ?_
        refine lv_bipush (v := 11) hx hb dX12_dayGoes_18 (by decide) ?_
        refine lv_iload hx hb dX12_dayGoes_20 (lv_at hl 0 rfl) ?_
        refine lv_iadd hx hb dX12_dayGoes_22 ?_
        obtain ⟨c2, hrun⟩ := oz_chk hrun
        refine va_iald hx hb hK hP 1 0 rfl rfl c2 dX12_dayGoes_23 ?_
        refine lv_iload hx hb dX12_dayGoes_24 (lv_at hl 0 rfl) ?_
        refine lv_iload_n hx hb dX12_dayGoes_26 rfl (lv_at hl 3 rfl) ?_
        refine lv_icmp_ne (tgt := 34) hx hb dX12_dayGoes_27 (by decide) (fun c3 => ?_) (fun c3 => ?_)
        · have hrun := oz_f hrun c3
          refine lv_iconst (v := 0) hx hb dX12_dayGoes_34 (by decide) ?_
          refine lv_iadd hx hb dX12_dayGoes_35 ?_
          refine lv_istore (lv' := [(5, .int ((v_town (Int32.toNatClampNeg (11 + w3.1))) + 0)), (4, .int w3.1), (0, .ref q_this), (1, .ref q_p1), (2, .int a2), (3, .int a3)]) hx hb dX12_dayGoes_36 hl (by decide) rfl (fun ls hl => ?_)
          refine lv_aload_n hx hb dX12_dayGoes_38 rfl (lv_at hl 3 rfl) ?_
          refine lv_bipush (v := 8) hx hb dX12_dayGoes_39 (by decide) ?_
          refine lv_iload hx hb dX12_dayGoes_41 (lv_at hl 1 rfl) ?_
          refine lv_iadd hx hb dX12_dayGoes_43 ?_
          obtain ⟨c4, hrun⟩ := oz_chk hrun
          refine va_iald hx hb hK hP 2 0 rfl rfl c4 dX12_dayGoes_44 ?_
          refine lv_if_le (tgt := 62) hx hb dX12_dayGoes_45 (by decide) (fun c5 => ?_) (fun c5 => ?_)
          · have hrun := oz_t hrun c5
            refine lv_aload_n hx hb dX12_dayGoes_62 rfl (lv_at hl 2 rfl) ?_
            refine lv_aload_n hx hb dX12_dayGoes_63 rfl (lv_at hl 3 rfl) ?_
            obtain ⟨y64, hc64, hrun⟩ := oz_bind hrun
            have hPc := hP.sub (ws' := [(q_this, .inr (12, [.ref q_town, .ref q_read, .ref q_now, .ref q_aside, .ref q_past, .int v_undos, .ref q_images, .ref q_kept, .long v_seed, .ref q_text, .int v_size, .int v_fault, .ref q_sights, .int v_sightMany, .ref q_book, .int v_bookMany, .int v_at, .int v_begin, .int v_sign, .int v_figures, .int v_value, .int v_wrong, .ref q_went, .ref q_free, .ref q_stands])), (q_town, .inl (cI, 27, .inl v_town)), (q_p1, .inl (cI, 19, .inl w3.2))]) [0, 1, 2] rfl
            have hDc := hD.sub (ws' := [(q_this, .inr (12, [.ref q_town, .ref q_read, .ref q_now, .ref q_aside, .ref q_past, .int v_undos, .ref q_images, .ref q_kept, .long v_seed, .ref q_text, .int v_size, .int v_fault, .ref q_sights, .int v_sightMany, .ref q_book, .int v_bookMany, .int v_at, .int v_begin, .int v_sign, .int v_figures, .int v_value, .int v_wrong, .ref q_went, .ref q_free, .ref q_stands])), (q_town, .inl (cI, 27, .inl v_town)), (q_p1, .inl (cI, 19, .inl w3.2))]) [0, 1, 2] (by decide) rfl
            have hFc := va_free (wc := [(q_this, .inr (12, [.ref q_town, .ref q_read, .ref q_now, .ref q_aside, .ref q_past, .int v_undos, .ref q_images, .ref q_kept, .long v_seed, .ref q_text, .int v_size, .int v_fault, .ref q_sights, .int v_sightMany, .ref q_book, .int v_bookMany, .int v_at, .int v_begin, .int v_sign, .int v_figures, .int v_value, .int v_wrong, .ref q_went, .ref q_free, .ref q_stands])), (q_town, .inl (cI, 27, .inl v_town)), (q_p1, .inl (cI, 19, .inl w3.2))]) hD hS hA [0, 1, 2] rfl
            refine va_calli (va_runV (As := [.ref q_p1]) (rest := []) ⟨hx, hb, hml, hown, hts⟩ (tX12_isLent l dC dI cI cZ q_aside q_book q_free q_images q_kept q_now q_p1 q_past q_read q_sights q_stands q_text q_this q_town q_went H.size v_undos v_seed v_size v_fault v_sightMany v_bookMany v_at v_begin v_sign v_figures v_value v_wrong v_town w3.2 y64 hc64) (cwV 1 hts gX12_dayGoes_X12_isLent rfl rfl rfl (by decide +kernel) ⟨Nat.le_of_ble_eq_true rfl, Nat.le_of_ble_eq_true rfl⟩) ⟨fun a U g mk q => by obtain ⟨q0, q1, qP, qK, qD⟩ := q; exact ⟨q0, q1, qP, va_K.moved (u := U) (U := U.calling g mk a) (Vm.Alike.refl U.vm) qK, qD⟩, va_recv hK hPc (ci := 12) (q0 := 0) rfl rfl, fun U hU hW => ⟨rfl, by rw [hU], by rw [hU]; exact hPc, va_K.moved hW.alike hK, hDc.weaken (fun _ _ _ _ => trivial)⟩⟩ rfl rfl hl.1 rfl (lv_room (Nat.le_of_ble_eq_true rfl)) dX12_dayGoes_64 ⟨Nat.le_of_ble_eq_true rfl, Nat.le_of_ble_eq_true rfl⟩) hS (fun q _ h => hFc q h) hFc (fun r64 u9 t9 H1 locs ht9 hvm9 hw9 hB9 hz9 hkk9 hS => ?_)
            have hw9 : y64 = r64 := hw9.symm
            subst hw9
            obtain ⟨hP9, hK9, hD9⟩ := hB9
            rw [ht9] at hP9
            obtain ⟨hP, hD⟩ := va_join (wr := []) (w1 := [(q_this, .inr (12, [.ref q_town, .ref q_read, .ref q_now, .ref q_aside, .ref q_past, .int v_undos, .ref q_images, .ref q_kept, .long v_seed, .ref q_text, .int v_size, .int v_fault, .ref q_sights, .int v_sightMany, .ref q_book, .int v_bookMany, .int v_at, .int v_begin, .int v_sign, .int v_figures, .int v_value, .int v_wrong, .ref q_went, .ref q_free, .ref q_stands])), (q_town, .inl (cI, 27, .inl v_town)), (q_p1, .inl (cI, 19, .inl w3.2))]) hP hD [0, 1, 2] [] rfl rfl (by decide) (by decide) hkk9 hFc hP9 hD9
            generalize H1 = H at hP hS ⊢
            have hP : va_P (dC, dI) vwCl [(q_this, .inr (12, [.ref q_town, .ref q_read, .ref q_now, .ref q_aside, .ref q_past, .int v_undos, .ref q_images, .ref q_kept, .long v_seed, .ref q_text, .int v_size, .int v_fault, .ref q_sights, .int v_sightMany, .ref q_book, .int v_bookMany, .int v_at, .int v_begin, .int v_sign, .int v_figures, .int v_value, .int v_wrong, .ref q_went, .ref q_free, .ref q_stands])), (q_town, .inl (cI, 27, .inl v_town)), (q_p1, .inl (cI, 19, .inl w3.2))] H := hP
            have hD : va_D A [(q_this, .inr (12, [.ref q_town, .ref q_read, .ref q_now, .ref q_aside, .ref q_past, .int v_undos, .ref q_images, .ref q_kept, .long v_seed, .ref q_text, .int v_size, .int v_fault, .ref q_sights, .int v_sightMany, .ref q_book, .int v_bookMany, .int v_at, .int v_begin, .int v_sign, .int v_figures, .int v_value, .int v_wrong, .ref q_went, .ref q_free, .ref q_stands])), (q_town, .inl (cI, 27, .inl v_town)), (q_p1, .inl (cI, 19, .inl w3.2))] := hD
            refine lv_if_eq (tgt := 91) hx hb dX12_dayGoes_67 (by decide) (fun c6 => ?_) (fun c6 => ?_)
            · have hrun := oz_t hrun c6
              refine lv_aload_n hx hb dX12_dayGoes_91 rfl (lv_at hl 3 rfl) ?_
              refine lv_bipush (v := 18) hx hb dX12_dayGoes_92 (by decide) ?_
              refine lv_aload_n hx hb dX12_dayGoes_94 rfl (lv_at hl 3 rfl) ?_
              refine lv_bipush (v := 18) hx hb dX12_dayGoes_95 (by decide) ?_
              refine va_iald hx hb hK hP 2 0 rfl rfl (show ¬ ((18 : Int32) < 0 ∨ 19 ≤ (18 : Int32).toNatClampNeg) by decide) dX12_dayGoes_97 ?_
              refine lv_iload hx hb dX12_dayGoes_98 (lv_at hl 0 rfl) ?_
              refine lv_iadd hx hb dX12_dayGoes_100 ?_
              refine lv_ldc hx hb hown hk128 dX12_dayGoes_101 ?_
              obtain ⟨y103, hc103, hrun⟩ := oz_bind hrun
              have hPc := hP.sub (ws' := []) [] rfl
              have hDc := hD.sub (ws' := []) [] (by decide) rfl
              have hFc := va_free (wc := []) hD hS hA [] rfl
              refine va_calli (va_runS (As := [.int ((w3.2 (Int32.toNatClampNeg 18)) + ((v_town (Int32.toNatClampNeg (11 + w3.1))) + 0)), .int 9999999]) (rest := [.int 18, .ref q_p1]) ⟨hx, hb, hml, hown, hts⟩ (tX12_lesser l dC dI cI cZ H.size ((w3.2 (Int32.toNatClampNeg 18)) + ((v_town (Int32.toNatClampNeg (11 + w3.1))) + 0)) 9999999 y103 hc103) (va_cwS 2 hts gX12_dayGoes_X12_lesser rfl rfl rfl (by decide +kernel) ⟨Nat.le_of_ble_eq_true rfl, Nat.le_of_ble_eq_true rfl⟩) ⟨fun a U g mk q => by obtain ⟨q0, q1, qP, qK, qD⟩ := q; exact ⟨q0, q1, qP, va_K.moved (u := U) (U := U.calling g mk a) (Vm.Alike.refl U.vm) qK, qD⟩, fun U hU hW => ⟨rfl, by rw [hU], by rw [hU]; exact hPc, va_K.moved hW.alike hK, hDc.weaken (fun _ _ _ _ => trivial)⟩⟩ rfl rfl hl.1 rfl (lv_room (Nat.le_of_ble_eq_true rfl)) dX12_dayGoes_103 ⟨Nat.le_of_ble_eq_true rfl, Nat.le_of_ble_eq_true rfl⟩) hS (fun q _ h => hFc q h) hFc (fun r103 u9 t9 H1 locs ht9 hvm9 hw9 hB9 hz9 hkk9 hS => ?_)
              have hw9 : y103 = r103 := hw9.symm
              subst hw9
              obtain ⟨hP9, hK9, hD9⟩ := hB9
              rw [ht9] at hP9
              obtain ⟨hP, hD⟩ := va_join (wr := [(q_this, .inr (12, [.ref q_town, .ref q_read, .ref q_now, .ref q_aside, .ref q_past, .int v_undos, .ref q_images, .ref q_kept, .long v_seed, .ref q_text, .int v_size, .int v_fault, .ref q_sights, .int v_sightMany, .ref q_book, .int v_bookMany, .int v_at, .int v_begin, .int v_sign, .int v_figures, .int v_value, .int v_wrong, .ref q_went, .ref q_free, .ref q_stands])), (q_town, .inl (cI, 27, .inl v_town)), (q_p1, .inl (cI, 19, .inl w3.2))]) (w1 := []) hP hD [] [0, 1, 2] rfl rfl (by decide) (by decide) hkk9 hFc hP9 hD9
              generalize H1 = H at hP hS ⊢
              have hP : va_P (dC, dI) vwCl [(q_this, .inr (12, [.ref q_town, .ref q_read, .ref q_now, .ref q_aside, .ref q_past, .int v_undos, .ref q_images, .ref q_kept, .long v_seed, .ref q_text, .int v_size, .int v_fault, .ref q_sights, .int v_sightMany, .ref q_book, .int v_bookMany, .int v_at, .int v_begin, .int v_sign, .int v_figures, .int v_value, .int v_wrong, .ref q_went, .ref q_free, .ref q_stands])), (q_town, .inl (cI, 27, .inl v_town)), (q_p1, .inl (cI, 19, .inl w3.2))] H := hP
              have hD : va_D A [(q_this, .inr (12, [.ref q_town, .ref q_read, .ref q_now, .ref q_aside, .ref q_past, .int v_undos, .ref q_images, .ref q_kept, .long v_seed, .ref q_text, .int v_size, .int v_fault, .ref q_sights, .int v_sightMany, .ref q_book, .int v_bookMany, .int v_at, .int v_begin, .int v_sign, .int v_figures, .int v_value, .int v_wrong, .ref q_went, .ref q_free, .ref q_stands])), (q_town, .inl (cI, 27, .inl v_town)), (q_p1, .inl (cI, 19, .inl w3.2))] := hD
              refine va_iast hx hb hK hP hD hS 2 0 rfl rfl (show ¬ ((18 : Int32) < 0 ∨ 19 ≤ (18 : Int32).toNatClampNeg) by decide) dX12_dayGoes_106 (fun H locs hP hD hS => ?_)
              have hP : va_P (dC, dI) vwCl [(q_this, .inr (12, [.ref q_town, .ref q_read, .ref q_now, .ref q_aside, .ref q_past, .int v_undos, .ref q_images, .ref q_kept, .long v_seed, .ref q_text, .int v_size, .int v_fault, .ref q_sights, .int v_sightMany, .ref q_book, .int v_bookMany, .int v_at, .int v_begin, .int v_sign, .int v_figures, .int v_value, .int v_wrong, .ref q_went, .ref q_free, .ref q_stands])), (q_town, .inl (cI, 27, .inl v_town)), (q_p1, .inl (cI, 19, .inl (upd w3.2 (Int32.toNatClampNeg 18) y103)))] H := hP
              have hD : va_D A [(q_this, .inr (12, [.ref q_town, .ref q_read, .ref q_now, .ref q_aside, .ref q_past, .int v_undos, .ref q_images, .ref q_kept, .long v_seed, .ref q_text, .int v_size, .int v_fault, .ref q_sights, .int v_sightMany, .ref q_book, .int v_bookMany, .int v_at, .int v_begin, .int v_sign, .int v_figures, .int v_value, .int v_wrong, .ref q_went, .ref q_free, .ref q_stands])), (q_town, .inl (cI, 27, .inl v_town)), (q_p1, .inl (cI, 19, .inl (upd w3.2 (Int32.toNatClampNeg 18) y103)))] := hD
              refine lv_iinc (v := (w3.1 + 1)) (lv' := [(4, .int (w3.1 + 1)), (5, .int ((v_town (Int32.toNatClampNeg (11 + w3.1))) + 0)), (0, .ref q_this), (1, .ref q_p1), (2, .int a2), (3, .int a3)]) hx hb dX12_dayGoes_107 hl (k := 1) rfl rfl (by decide) rfl (fun ls hl => ?_)
              refine lv_goto (tgt := 3) hx hb dX12_dayGoes_110 (by decide) ?_
              have hr9 := Option.some.inj hrun
              subst hr9
              exact ih ((w3.1 + 1), (upd w3.2 (Int32.toNatClampNeg 18) y103)) _ hnext hexit _ _ _ (hP.sub [0, 1, 2] rfl) (hD.sub [0, 1, 2] (by decide) rfl) hS (lv_sub hl [0, 2, 3, 4, 5] rfl)
            · have hrun := oz_f hrun c6
              refine lv_aload_n hx hb dX12_dayGoes_70 rfl (lv_at hl 3 rfl) ?_
              refine lv_iconst (v := 0) hx hb dX12_dayGoes_71 (by decide) ?_
              refine lv_iload hx hb dX12_dayGoes_72 (lv_at hl 1 rfl) ?_
              refine lv_iadd hx hb dX12_dayGoes_74 ?_
              refine lv_dup2_11 hx hb dX12_dayGoes_75 rfl rfl ?_
              obtain ⟨c7, hrun⟩ := oz_chk hrun
              refine va_iald hx hb hK hP 2 0 rfl rfl c7 dX12_dayGoes_76 ?_
              refine lv_iload hx hb dX12_dayGoes_77 (lv_at hl 0 rfl) ?_
              refine lv_iadd hx hb dX12_dayGoes_79 ?_
              refine va_iast hx hb hK hP hD hS 2 0 rfl rfl c7 dX12_dayGoes_80 (fun H locs hP hD hS => ?_)
              have hP : va_P (dC, dI) vwCl [(q_this, .inr (12, [.ref q_town, .ref q_read, .ref q_now, .ref q_aside, .ref q_past, .int v_undos, .ref q_images, .ref q_kept, .long v_seed, .ref q_text, .int v_size, .int v_fault, .ref q_sights, .int v_sightMany, .ref q_book, .int v_bookMany, .int v_at, .int v_begin, .int v_sign, .int v_figures, .int v_value, .int v_wrong, .ref q_went, .ref q_free, .ref q_stands])), (q_town, .inl (cI, 27, .inl v_town)), (q_p1, .inl (cI, 19, .inl (upd w3.2 (Int32.toNatClampNeg (0 + w3.1)) ((w3.2 (Int32.toNatClampNeg (0 + w3.1))) + ((v_town (Int32.toNatClampNeg (11 + w3.1))) + 0)))))] H := hP
              have hD : va_D A [(q_this, .inr (12, [.ref q_town, .ref q_read, .ref q_now, .ref q_aside, .ref q_past, .int v_undos, .ref q_images, .ref q_kept, .long v_seed, .ref q_text, .int v_size, .int v_fault, .ref q_sights, .int v_sightMany, .ref q_book, .int v_bookMany, .int v_at, .int v_begin, .int v_sign, .int v_figures, .int v_value, .int v_wrong, .ref q_went, .ref q_free, .ref q_stands])), (q_town, .inl (cI, 27, .inl v_town)), (q_p1, .inl (cI, 19, .inl (upd w3.2 (Int32.toNatClampNeg (0 + w3.1)) ((w3.2 (Int32.toNatClampNeg (0 + w3.1))) + ((v_town (Int32.toNatClampNeg (11 + w3.1))) + 0)))))] := hD
              refine lv_aload_n hx hb dX12_dayGoes_81 rfl (lv_at hl 2 rfl) ?_
              refine lv_aload_n hx hb dX12_dayGoes_82 rfl (lv_at hl 3 rfl) ?_
              refine lv_iload hx hb dX12_dayGoes_83 (lv_at hl 1 rfl) ?_
              obtain ⟨y85, hc85, hrun⟩ := oz_bind hrun
              have hPc := hP.sub (ws' := [(q_this, .inr (12, [.ref q_town, .ref q_read, .ref q_now, .ref q_aside, .ref q_past, .int v_undos, .ref q_images, .ref q_kept, .long v_seed, .ref q_text, .int v_size, .int v_fault, .ref q_sights, .int v_sightMany, .ref q_book, .int v_bookMany, .int v_at, .int v_begin, .int v_sign, .int v_figures, .int v_value, .int v_wrong, .ref q_went, .ref q_free, .ref q_stands])), (q_town, .inl (cI, 27, .inl v_town)), (q_p1, .inl (cI, 19, .inl (upd w3.2 (Int32.toNatClampNeg (0 + w3.1)) ((w3.2 (Int32.toNatClampNeg (0 + w3.1))) + ((v_town (Int32.toNatClampNeg (11 + w3.1))) + 0)))))]) [0, 1, 2] rfl
              have hDc := hD.sub (ws' := [(q_this, .inr (12, [.ref q_town, .ref q_read, .ref q_now, .ref q_aside, .ref q_past, .int v_undos, .ref q_images, .ref q_kept, .long v_seed, .ref q_text, .int v_size, .int v_fault, .ref q_sights, .int v_sightMany, .ref q_book, .int v_bookMany, .int v_at, .int v_begin, .int v_sign, .int v_figures, .int v_value, .int v_wrong, .ref q_went, .ref q_free, .ref q_stands])), (q_town, .inl (cI, 27, .inl v_town)), (q_p1, .inl (cI, 19, .inl (upd w3.2 (Int32.toNatClampNeg (0 + w3.1)) ((w3.2 (Int32.toNatClampNeg (0 + w3.1))) + ((v_town (Int32.toNatClampNeg (11 + w3.1))) + 0)))))]) [0, 1, 2] (by decide) rfl
              have hFc := va_free (wc := [(q_this, .inr (12, [.ref q_town, .ref q_read, .ref q_now, .ref q_aside, .ref q_past, .int v_undos, .ref q_images, .ref q_kept, .long v_seed, .ref q_text, .int v_size, .int v_fault, .ref q_sights, .int v_sightMany, .ref q_book, .int v_bookMany, .int v_at, .int v_begin, .int v_sign, .int v_figures, .int v_value, .int v_wrong, .ref q_went, .ref q_free, .ref q_stands])), (q_town, .inl (cI, 27, .inl v_town)), (q_p1, .inl (cI, 19, .inl (upd w3.2 (Int32.toNatClampNeg (0 + w3.1)) ((w3.2 (Int32.toNatClampNeg (0 + w3.1))) + ((v_town (Int32.toNatClampNeg (11 + w3.1))) + 0)))))]) hD hS hA [0, 1, 2] rfl
              refine va_callv (va_runV (As := [.ref q_p1, .int w3.1]) (rest := []) ⟨hx, hb, hml, hown, hts⟩ (tX12_spillsAt l dC dI cI cZ q_aside q_book q_free q_images q_kept q_now q_p1 q_past q_read q_sights q_stands q_text q_this q_town q_went H.size v_undos v_seed v_size v_fault v_sightMany v_bookMany v_at v_begin v_sign v_figures v_value v_wrong v_town (upd w3.2 (Int32.toNatClampNeg (0 + w3.1)) ((w3.2 (Int32.toNatClampNeg (0 + w3.1))) + ((v_town (Int32.toNatClampNeg (11 + w3.1))) + 0))) w3.1 y85 hc85) (cwV 2 hts gX12_dayGoes_X12_spillsAt rfl rfl rfl (by decide +kernel) ⟨Nat.le_of_ble_eq_true rfl, Nat.le_of_ble_eq_true rfl⟩) ⟨fun a U g mk q => by obtain ⟨q0, q1, qP, qK, qD⟩ := q; exact ⟨q0, q1, qP, va_K.moved (u := U) (U := U.calling g mk a) (Vm.Alike.refl U.vm) qK, qD⟩, va_recv hK hPc (ci := 12) (q0 := 0) rfl rfl, fun U hU hW => ⟨rfl, by rw [hU], by rw [hU]; exact hPc, va_K.moved hW.alike hK, hDc.weaken (fun _ _ _ _ => trivial)⟩⟩ rfl rfl hl.1 rfl (lv_room (Nat.le_of_ble_eq_true rfl)) dX12_dayGoes_85 ⟨Nat.le_of_ble_eq_true rfl, Nat.le_of_ble_eq_true rfl⟩) hS (fun q _ h => hFc q h) hFc (fun u9 t9 H1 locs ht9 hvm9 hw9 hB9 hz9 hkk9 hS => ?_)
              obtain ⟨hP9, hK9, hD9⟩ := hB9
              rw [ht9] at hP9
              obtain ⟨hP, hD⟩ := va_join (wr := []) (w1 := [(q_this, .inr (12, [.ref q_town, .ref q_read, .ref q_now, .ref q_aside, .ref q_past, .int v_undos, .ref q_images, .ref q_kept, .long v_seed, .ref q_text, .int v_size, .int v_fault, .ref q_sights, .int v_sightMany, .ref q_book, .int v_bookMany, .int v_at, .int v_begin, .int v_sign, .int v_figures, .int v_value, .int v_wrong, .ref q_went, .ref q_free, .ref q_stands])), (q_town, .inl (cI, 27, .inl v_town)), (q_p1, .inl (cI, 19, .inl y85))]) hP hD [0, 1, 2] [] rfl rfl (by decide) (by decide) hkk9 hFc hP9 hD9
              generalize H1 = H at hP hS ⊢
              have hP : va_P (dC, dI) vwCl [(q_this, .inr (12, [.ref q_town, .ref q_read, .ref q_now, .ref q_aside, .ref q_past, .int v_undos, .ref q_images, .ref q_kept, .long v_seed, .ref q_text, .int v_size, .int v_fault, .ref q_sights, .int v_sightMany, .ref q_book, .int v_bookMany, .int v_at, .int v_begin, .int v_sign, .int v_figures, .int v_value, .int v_wrong, .ref q_went, .ref q_free, .ref q_stands])), (q_town, .inl (cI, 27, .inl v_town)), (q_p1, .inl (cI, 19, .inl y85))] H := hP
              have hD : va_D A [(q_this, .inr (12, [.ref q_town, .ref q_read, .ref q_now, .ref q_aside, .ref q_past, .int v_undos, .ref q_images, .ref q_kept, .long v_seed, .ref q_text, .int v_size, .int v_fault, .ref q_sights, .int v_sightMany, .ref q_book, .int v_bookMany, .int v_at, .int v_begin, .int v_sign, .int v_figures, .int v_value, .int v_wrong, .ref q_went, .ref q_free, .ref q_stands])), (q_town, .inl (cI, 27, .inl v_town)), (q_p1, .inl (cI, 19, .inl y85))] := hD
              refine lv_goto (tgt := 107) hx hb dX12_dayGoes_88 (by decide) ?_
              refine lv_iinc (v := (w3.1 + 1)) (lv' := [(4, .int (w3.1 + 1)), (5, .int ((v_town (Int32.toNatClampNeg (11 + w3.1))) + 0)), (0, .ref q_this), (1, .ref q_p1), (2, .int a2), (3, .int a3)]) hx hb dX12_dayGoes_107 hl (k := 1) rfl rfl (by decide) rfl (fun ls hl => ?_)
              refine lv_goto (tgt := 3) hx hb dX12_dayGoes_110 (by decide) ?_
              have hr9 := Option.some.inj hrun
              subst hr9
              exact ih ((w3.1 + 1), y85) _ hnext hexit _ _ _ (hP.sub [0, 1, 2] rfl) (hD.sub [0, 1, 2] (by decide) rfl) hS (lv_sub hl [0, 2, 3, 4, 5] rfl)
          · have hrun := oz_f hrun c5
            refine lv_aload_n hx hb dX12_dayGoes_48 rfl (lv_at hl 3 rfl) ?_
            refine lv_bipush (v := 8) hx hb dX12_dayGoes_49 (by decide) ?_
            refine lv_iload hx hb dX12_dayGoes_51 (lv_at hl 1 rfl) ?_
            refine lv_iadd hx hb dX12_dayGoes_53 ?_
            refine lv_dup2_11 hx hb dX12_dayGoes_54 rfl rfl ?_
            refine va_iald hx hb hK hP 2 0 rfl rfl c4 dX12_dayGoes_55 ?_
            refine lv_iconst (v := 1) hx hb dX12_dayGoes_56 (by decide) ?_
            refine lv_isub hx hb dX12_dayGoes_57 ?_
            refine va_iast hx hb hK hP hD hS 2 0 rfl rfl c4 dX12_dayGoes_58 (fun H locs hP hD hS => ?_)
            have hP : va_P (dC, dI) vwCl [(q_this, .inr (12, [.ref q_town, .ref q_read, .ref q_now, .ref q_aside, .ref q_past, .int v_undos, .ref q_images, .ref q_kept, .long v_seed, .ref q_text, .int v_size, .int v_fault, .ref q_sights, .int v_sightMany, .ref q_book, .int v_bookMany, .int v_at, .int v_begin, .int v_sign, .int v_figures, .int v_value, .int v_wrong, .ref q_went, .ref q_free, .ref q_stands])), (q_town, .inl (cI, 27, .inl v_town)), (q_p1, .inl (cI, 19, .inl (upd w3.2 (Int32.toNatClampNeg (8 + w3.1)) ((w3.2 (Int32.toNatClampNeg (8 + w3.1))) - 1))))] H := hP
            have hD : va_D A [(q_this, .inr (12, [.ref q_town, .ref q_read, .ref q_now, .ref q_aside, .ref q_past, .int v_undos, .ref q_images, .ref q_kept, .long v_seed, .ref q_text, .int v_size, .int v_fault, .ref q_sights, .int v_sightMany, .ref q_book, .int v_bookMany, .int v_at, .int v_begin, .int v_sign, .int v_figures, .int v_value, .int v_wrong, .ref q_went, .ref q_free, .ref q_stands])), (q_town, .inl (cI, 27, .inl v_town)), (q_p1, .inl (cI, 19, .inl (upd w3.2 (Int32.toNatClampNeg (8 + w3.1)) ((w3.2 (Int32.toNatClampNeg (8 + w3.1))) - 1))))] := hD
            refine lv_goto (tgt := 107) hx hb dX12_dayGoes_59 (by decide) ?_
            refine lv_iinc (v := (w3.1 + 1)) (lv' := [(4, .int (w3.1 + 1)), (5, .int ((v_town (Int32.toNatClampNeg (11 + w3.1))) + 0)), (0, .ref q_this), (1, .ref q_p1), (2, .int a2), (3, .int a3)]) hx hb dX12_dayGoes_107 hl (k := 1) rfl rfl (by decide) rfl (fun ls hl => ?_)
            refine lv_goto (tgt := 3) hx hb dX12_dayGoes_110 (by decide) ?_
            have hr9 := Option.some.inj hrun
            subst hr9
            exact ih ((w3.1 + 1), (upd w3.2 (Int32.toNatClampNeg (8 + w3.1)) ((w3.2 (Int32.toNatClampNeg (8 + w3.1))) - 1))) _ hnext hexit _ _ _ (hP.sub [0, 1, 2] rfl) (hD.sub [0, 1, 2] (by decide) rfl) hS (lv_sub hl [0, 2, 3, 4, 5] rfl)
        · have hrun := oz_t hrun c3
          refine lv_iload_n hx hb dX12_dayGoes_30 rfl (lv_at hl 4 rfl) ?_
          refine lv_goto (tgt := 35) hx hb dX12_dayGoes_31 (by decide) ?_
          refine lv_iadd hx hb dX12_dayGoes_35 ?_
          refine lv_istore (lv' := [(5, .int ((v_town (Int32.toNatClampNeg (11 + w3.1))) + a3)), (4, .int w3.1), (0, .ref q_this), (1, .ref q_p1), (2, .int a2), (3, .int a3)]) hx hb dX12_dayGoes_36 hl (by decide) rfl (fun ls hl => ?_)
          refine lv_aload_n hx hb dX12_dayGoes_38 rfl (lv_at hl 3 rfl) ?_
          refine lv_bipush (v := 8) hx hb dX12_dayGoes_39 (by decide) ?_
          refine lv_iload hx hb dX12_dayGoes_41 (lv_at hl 1 rfl) ?_
          refine lv_iadd hx hb dX12_dayGoes_43 ?_
          obtain ⟨c8, hrun⟩ := oz_chk hrun
          refine va_iald hx hb hK hP 2 0 rfl rfl c8 dX12_dayGoes_44 ?_
          refine lv_if_le (tgt := 62) hx hb dX12_dayGoes_45 (by decide) (fun c9 => ?_) (fun c9 => ?_)
          · have hrun := oz_t hrun c9
            refine lv_aload_n hx hb dX12_dayGoes_62 rfl (lv_at hl 2 rfl) ?_
            refine lv_aload_n hx hb dX12_dayGoes_63 rfl (lv_at hl 3 rfl) ?_
            obtain ⟨y64, hc64, hrun⟩ := oz_bind hrun
            have hPc := hP.sub (ws' := [(q_this, .inr (12, [.ref q_town, .ref q_read, .ref q_now, .ref q_aside, .ref q_past, .int v_undos, .ref q_images, .ref q_kept, .long v_seed, .ref q_text, .int v_size, .int v_fault, .ref q_sights, .int v_sightMany, .ref q_book, .int v_bookMany, .int v_at, .int v_begin, .int v_sign, .int v_figures, .int v_value, .int v_wrong, .ref q_went, .ref q_free, .ref q_stands])), (q_town, .inl (cI, 27, .inl v_town)), (q_p1, .inl (cI, 19, .inl w3.2))]) [0, 1, 2] rfl
            have hDc := hD.sub (ws' := [(q_this, .inr (12, [.ref q_town, .ref q_read, .ref q_now, .ref q_aside, .ref q_past, .int v_undos, .ref q_images, .ref q_kept, .long v_seed, .ref q_text, .int v_size, .int v_fault, .ref q_sights, .int v_sightMany, .ref q_book, .int v_bookMany, .int v_at, .int v_begin, .int v_sign, .int v_figures, .int v_value, .int v_wrong, .ref q_went, .ref q_free, .ref q_stands])), (q_town, .inl (cI, 27, .inl v_town)), (q_p1, .inl (cI, 19, .inl w3.2))]) [0, 1, 2] (by decide) rfl
            have hFc := va_free (wc := [(q_this, .inr (12, [.ref q_town, .ref q_read, .ref q_now, .ref q_aside, .ref q_past, .int v_undos, .ref q_images, .ref q_kept, .long v_seed, .ref q_text, .int v_size, .int v_fault, .ref q_sights, .int v_sightMany, .ref q_book, .int v_bookMany, .int v_at, .int v_begin, .int v_sign, .int v_figures, .int v_value, .int v_wrong, .ref q_went, .ref q_free, .ref q_stands])), (q_town, .inl (cI, 27, .inl v_town)), (q_p1, .inl (cI, 19, .inl w3.2))]) hD hS hA [0, 1, 2] rfl
            refine va_calli (va_runV (As := [.ref q_p1]) (rest := []) ⟨hx, hb, hml, hown, hts⟩ (tX12_isLent l dC dI cI cZ q_aside q_book q_free q_images q_kept q_now q_p1 q_past q_read q_sights q_stands q_text q_this q_town q_went H.size v_undos v_seed v_size v_fault v_sightMany v_bookMany v_at v_begin v_sign v_figures v_value v_wrong v_town w3.2 y64 hc64) (cwV 1 hts gX12_dayGoes_X12_isLent rfl rfl rfl (by decide +kernel) ⟨Nat.le_of_ble_eq_true rfl, Nat.le_of_ble_eq_true rfl⟩) ⟨fun a U g mk q => by obtain ⟨q0, q1, qP, qK, qD⟩ := q; exact ⟨q0, q1, qP, va_K.moved (u := U) (U := U.calling g mk a) (Vm.Alike.refl U.vm) qK, qD⟩, va_recv hK hPc (ci := 12) (q0 := 0) rfl rfl, fun U hU hW => ⟨rfl, by rw [hU], by rw [hU]; exact hPc, va_K.moved hW.alike hK, hDc.weaken (fun _ _ _ _ => trivial)⟩⟩ rfl rfl hl.1 rfl (lv_room (Nat.le_of_ble_eq_true rfl)) dX12_dayGoes_64 ⟨Nat.le_of_ble_eq_true rfl, Nat.le_of_ble_eq_true rfl⟩) hS (fun q _ h => hFc q h) hFc (fun r64 u9 t9 H1 locs ht9 hvm9 hw9 hB9 hz9 hkk9 hS => ?_)
            have hw9 : y64 = r64 := hw9.symm
            subst hw9
            obtain ⟨hP9, hK9, hD9⟩ := hB9
            rw [ht9] at hP9
            obtain ⟨hP, hD⟩ := va_join (wr := []) (w1 := [(q_this, .inr (12, [.ref q_town, .ref q_read, .ref q_now, .ref q_aside, .ref q_past, .int v_undos, .ref q_images, .ref q_kept, .long v_seed, .ref q_text, .int v_size, .int v_fault, .ref q_sights, .int v_sightMany, .ref q_book, .int v_bookMany, .int v_at, .int v_begin, .int v_sign, .int v_figures, .int v_value, .int v_wrong, .ref q_went, .ref q_free, .ref q_stands])), (q_town, .inl (cI, 27, .inl v_town)), (q_p1, .inl (cI, 19, .inl w3.2))]) hP hD [0, 1, 2] [] rfl rfl (by decide) (by decide) hkk9 hFc hP9 hD9
            generalize H1 = H at hP hS ⊢
            have hP : va_P (dC, dI) vwCl [(q_this, .inr (12, [.ref q_town, .ref q_read, .ref q_now, .ref q_aside, .ref q_past, .int v_undos, .ref q_images, .ref q_kept, .long v_seed, .ref q_text, .int v_size, .int v_fault, .ref q_sights, .int v_sightMany, .ref q_book, .int v_bookMany, .int v_at, .int v_begin, .int v_sign, .int v_figures, .int v_value, .int v_wrong, .ref q_went, .ref q_free, .ref q_stands])), (q_town, .inl (cI, 27, .inl v_town)), (q_p1, .inl (cI, 19, .inl w3.2))] H := hP
            have hD : va_D A [(q_this, .inr (12, [.ref q_town, .ref q_read, .ref q_now, .ref q_aside, .ref q_past, .int v_undos, .ref q_images, .ref q_kept, .long v_seed, .ref q_text, .int v_size, .int v_fault, .ref q_sights, .int v_sightMany, .ref q_book, .int v_bookMany, .int v_at, .int v_begin, .int v_sign, .int v_figures, .int v_value, .int v_wrong, .ref q_went, .ref q_free, .ref q_stands])), (q_town, .inl (cI, 27, .inl v_town)), (q_p1, .inl (cI, 19, .inl w3.2))] := hD
            refine lv_if_eq (tgt := 91) hx hb dX12_dayGoes_67 (by decide) (fun c10 => ?_) (fun c10 => ?_)
            · have hrun := oz_t hrun c10
              refine lv_aload_n hx hb dX12_dayGoes_91 rfl (lv_at hl 3 rfl) ?_
              refine lv_bipush (v := 18) hx hb dX12_dayGoes_92 (by decide) ?_
              refine lv_aload_n hx hb dX12_dayGoes_94 rfl (lv_at hl 3 rfl) ?_
              refine lv_bipush (v := 18) hx hb dX12_dayGoes_95 (by decide) ?_
              refine va_iald hx hb hK hP 2 0 rfl rfl (show ¬ ((18 : Int32) < 0 ∨ 19 ≤ (18 : Int32).toNatClampNeg) by decide) dX12_dayGoes_97 ?_
              refine lv_iload hx hb dX12_dayGoes_98 (lv_at hl 0 rfl) ?_
              refine lv_iadd hx hb dX12_dayGoes_100 ?_
              refine lv_ldc hx hb hown hk128 dX12_dayGoes_101 ?_
              obtain ⟨y103, hc103, hrun⟩ := oz_bind hrun
              have hPc := hP.sub (ws' := []) [] rfl
              have hDc := hD.sub (ws' := []) [] (by decide) rfl
              have hFc := va_free (wc := []) hD hS hA [] rfl
              refine va_calli (va_runS (As := [.int ((w3.2 (Int32.toNatClampNeg 18)) + ((v_town (Int32.toNatClampNeg (11 + w3.1))) + a3)), .int 9999999]) (rest := [.int 18, .ref q_p1]) ⟨hx, hb, hml, hown, hts⟩ (tX12_lesser l dC dI cI cZ H.size ((w3.2 (Int32.toNatClampNeg 18)) + ((v_town (Int32.toNatClampNeg (11 + w3.1))) + a3)) 9999999 y103 hc103) (va_cwS 2 hts gX12_dayGoes_X12_lesser rfl rfl rfl (by decide +kernel) ⟨Nat.le_of_ble_eq_true rfl, Nat.le_of_ble_eq_true rfl⟩) ⟨fun a U g mk q => by obtain ⟨q0, q1, qP, qK, qD⟩ := q; exact ⟨q0, q1, qP, va_K.moved (u := U) (U := U.calling g mk a) (Vm.Alike.refl U.vm) qK, qD⟩, fun U hU hW => ⟨rfl, by rw [hU], by rw [hU]; exact hPc, va_K.moved hW.alike hK, hDc.weaken (fun _ _ _ _ => trivial)⟩⟩ rfl rfl hl.1 rfl (lv_room (Nat.le_of_ble_eq_true rfl)) dX12_dayGoes_103 ⟨Nat.le_of_ble_eq_true rfl, Nat.le_of_ble_eq_true rfl⟩) hS (fun q _ h => hFc q h) hFc (fun r103 u9 t9 H1 locs ht9 hvm9 hw9 hB9 hz9 hkk9 hS => ?_)
              have hw9 : y103 = r103 := hw9.symm
              subst hw9
              obtain ⟨hP9, hK9, hD9⟩ := hB9
              rw [ht9] at hP9
              obtain ⟨hP, hD⟩ := va_join (wr := [(q_this, .inr (12, [.ref q_town, .ref q_read, .ref q_now, .ref q_aside, .ref q_past, .int v_undos, .ref q_images, .ref q_kept, .long v_seed, .ref q_text, .int v_size, .int v_fault, .ref q_sights, .int v_sightMany, .ref q_book, .int v_bookMany, .int v_at, .int v_begin, .int v_sign, .int v_figures, .int v_value, .int v_wrong, .ref q_went, .ref q_free, .ref q_stands])), (q_town, .inl (cI, 27, .inl v_town)), (q_p1, .inl (cI, 19, .inl w3.2))]) (w1 := []) hP hD [] [0, 1, 2] rfl rfl (by decide) (by decide) hkk9 hFc hP9 hD9
              generalize H1 = H at hP hS ⊢
              have hP : va_P (dC, dI) vwCl [(q_this, .inr (12, [.ref q_town, .ref q_read, .ref q_now, .ref q_aside, .ref q_past, .int v_undos, .ref q_images, .ref q_kept, .long v_seed, .ref q_text, .int v_size, .int v_fault, .ref q_sights, .int v_sightMany, .ref q_book, .int v_bookMany, .int v_at, .int v_begin, .int v_sign, .int v_figures, .int v_value, .int v_wrong, .ref q_went, .ref q_free, .ref q_stands])), (q_town, .inl (cI, 27, .inl v_town)), (q_p1, .inl (cI, 19, .inl w3.2))] H := hP
              have hD : va_D A [(q_this, .inr (12, [.ref q_town, .ref q_read, .ref q_now, .ref q_aside, .ref q_past, .int v_undos, .ref q_images, .ref q_kept, .long v_seed, .ref q_text, .int v_size, .int v_fault, .ref q_sights, .int v_sightMany, .ref q_book, .int v_bookMany, .int v_at, .int v_begin, .int v_sign, .int v_figures, .int v_value, .int v_wrong, .ref q_went, .ref q_free, .ref q_stands])), (q_town, .inl (cI, 27, .inl v_town)), (q_p1, .inl (cI, 19, .inl w3.2))] := hD
              refine va_iast hx hb hK hP hD hS 2 0 rfl rfl (show ¬ ((18 : Int32) < 0 ∨ 19 ≤ (18 : Int32).toNatClampNeg) by decide) dX12_dayGoes_106 (fun H locs hP hD hS => ?_)
              have hP : va_P (dC, dI) vwCl [(q_this, .inr (12, [.ref q_town, .ref q_read, .ref q_now, .ref q_aside, .ref q_past, .int v_undos, .ref q_images, .ref q_kept, .long v_seed, .ref q_text, .int v_size, .int v_fault, .ref q_sights, .int v_sightMany, .ref q_book, .int v_bookMany, .int v_at, .int v_begin, .int v_sign, .int v_figures, .int v_value, .int v_wrong, .ref q_went, .ref q_free, .ref q_stands])), (q_town, .inl (cI, 27, .inl v_town)), (q_p1, .inl (cI, 19, .inl (upd w3.2 (Int32.toNatClampNeg 18) y103)))] H := hP
              have hD : va_D A [(q_this, .inr (12, [.ref q_town, .ref q_read, .ref q_now, .ref q_aside, .ref q_past, .int v_undos, .ref q_images, .ref q_kept, .long v_seed, .ref q_text, .int v_size, .int v_fault, .ref q_sights, .int v_sightMany, .ref q_book, .int v_bookMany, .int v_at, .int v_begin, .int v_sign, .int v_figures, .int v_value, .int v_wrong, .ref q_went, .ref q_free, .ref q_stands])), (q_town, .inl (cI, 27, .inl v_town)), (q_p1, .inl (cI, 19, .inl (upd w3.2 (Int32.toNatClampNeg 18) y103)))] := hD
              refine lv_iinc (v := (w3.1 + 1)) (lv' := [(4, .int (w3.1 + 1)), (5, .int ((v_town (Int32.toNatClampNeg (11 + w3.1))) + a3)), (0, .ref q_this), (1, .ref q_p1), (2, .int a2), (3, .int a3)]) hx hb dX12_dayGoes_107 hl (k := 1) rfl rfl (by decide) rfl (fun ls hl => ?_)
              refine lv_goto (tgt := 3) hx hb dX12_dayGoes_110 (by decide) ?_
              have hr9 := Option.some.inj hrun
              subst hr9
              exact ih ((w3.1 + 1), (upd w3.2 (Int32.toNatClampNeg 18) y103)) _ hnext hexit _ _ _ (hP.sub [0, 1, 2] rfl) (hD.sub [0, 1, 2] (by decide) rfl) hS (lv_sub hl [0, 2, 3, 4, 5] rfl)
            · have hrun := oz_f hrun c10
              refine lv_aload_n hx hb dX12_dayGoes_70 rfl (lv_at hl 3 rfl) ?_
              refine lv_iconst (v := 0) hx hb dX12_dayGoes_71 (by decide) ?_
              refine lv_iload hx hb dX12_dayGoes_72 (lv_at hl 1 rfl) ?_
              refine lv_iadd hx hb dX12_dayGoes_74 ?_
              refine lv_dup2_11 hx hb dX12_dayGoes_75 rfl rfl ?_
              obtain ⟨c11, hrun⟩ := oz_chk hrun
              refine va_iald hx hb hK hP 2 0 rfl rfl c11 dX12_dayGoes_76 ?_
              refine lv_iload hx hb dX12_dayGoes_77 (lv_at hl 0 rfl) ?_
              refine lv_iadd hx hb dX12_dayGoes_79 ?_
              refine va_iast hx hb hK hP hD hS 2 0 rfl rfl c11 dX12_dayGoes_80 (fun H locs hP hD hS => ?_)
              have hP : va_P (dC, dI) vwCl [(q_this, .inr (12, [.ref q_town, .ref q_read, .ref q_now, .ref q_aside, .ref q_past, .int v_undos, .ref q_images, .ref q_kept, .long v_seed, .ref q_text, .int v_size, .int v_fault, .ref q_sights, .int v_sightMany, .ref q_book, .int v_bookMany, .int v_at, .int v_begin, .int v_sign, .int v_figures, .int v_value, .int v_wrong, .ref q_went, .ref q_free, .ref q_stands])), (q_town, .inl (cI, 27, .inl v_town)), (q_p1, .inl (cI, 19, .inl (upd w3.2 (Int32.toNatClampNeg (0 + w3.1)) ((w3.2 (Int32.toNatClampNeg (0 + w3.1))) + ((v_town (Int32.toNatClampNeg (11 + w3.1))) + a3)))))] H := hP
              have hD : va_D A [(q_this, .inr (12, [.ref q_town, .ref q_read, .ref q_now, .ref q_aside, .ref q_past, .int v_undos, .ref q_images, .ref q_kept, .long v_seed, .ref q_text, .int v_size, .int v_fault, .ref q_sights, .int v_sightMany, .ref q_book, .int v_bookMany, .int v_at, .int v_begin, .int v_sign, .int v_figures, .int v_value, .int v_wrong, .ref q_went, .ref q_free, .ref q_stands])), (q_town, .inl (cI, 27, .inl v_town)), (q_p1, .inl (cI, 19, .inl (upd w3.2 (Int32.toNatClampNeg (0 + w3.1)) ((w3.2 (Int32.toNatClampNeg (0 + w3.1))) + ((v_town (Int32.toNatClampNeg (11 + w3.1))) + a3)))))] := hD
              refine lv_aload_n hx hb dX12_dayGoes_81 rfl (lv_at hl 2 rfl) ?_
              refine lv_aload_n hx hb dX12_dayGoes_82 rfl (lv_at hl 3 rfl) ?_
              refine lv_iload hx hb dX12_dayGoes_83 (lv_at hl 1 rfl) ?_
              obtain ⟨y85, hc85, hrun⟩ := oz_bind hrun
              have hPc := hP.sub (ws' := [(q_this, .inr (12, [.ref q_town, .ref q_read, .ref q_now, .ref q_aside, .ref q_past, .int v_undos, .ref q_images, .ref q_kept, .long v_seed, .ref q_text, .int v_size, .int v_fault, .ref q_sights, .int v_sightMany, .ref q_book, .int v_bookMany, .int v_at, .int v_begin, .int v_sign, .int v_figures, .int v_value, .int v_wrong, .ref q_went, .ref q_free, .ref q_stands])), (q_town, .inl (cI, 27, .inl v_town)), (q_p1, .inl (cI, 19, .inl (upd w3.2 (Int32.toNatClampNeg (0 + w3.1)) ((w3.2 (Int32.toNatClampNeg (0 + w3.1))) + ((v_town (Int32.toNatClampNeg (11 + w3.1))) + a3)))))]) [0, 1, 2] rfl
              have hDc := hD.sub (ws' := [(q_this, .inr (12, [.ref q_town, .ref q_read, .ref q_now, .ref q_aside, .ref q_past, .int v_undos, .ref q_images, .ref q_kept, .long v_seed, .ref q_text, .int v_size, .int v_fault, .ref q_sights, .int v_sightMany, .ref q_book, .int v_bookMany, .int v_at, .int v_begin, .int v_sign, .int v_figures, .int v_value, .int v_wrong, .ref q_went, .ref q_free, .ref q_stands])), (q_town, .inl (cI, 27, .inl v_town)), (q_p1, .inl (cI, 19, .inl (upd w3.2 (Int32.toNatClampNeg (0 + w3.1)) ((w3.2 (Int32.toNatClampNeg (0 + w3.1))) + ((v_town (Int32.toNatClampNeg (11 + w3.1))) + a3)))))]) [0, 1, 2] (by decide) rfl
              have hFc := va_free (wc := [(q_this, .inr (12, [.ref q_town, .ref q_read, .ref q_now, .ref q_aside, .ref q_past, .int v_undos, .ref q_images, .ref q_kept, .long v_seed, .ref q_text, .int v_size, .int v_fault, .ref q_sights, .int v_sightMany, .ref q_book, .int v_bookMany, .int v_at, .int v_begin, .int v_sign, .int v_figures, .int v_value, .int v_wrong, .ref q_went, .ref q_free, .ref q_stands])), (q_town, .inl (cI, 27, .inl v_town)), (q_p1, .inl (cI, 19, .inl (upd w3.2 (Int32.toNatClampNeg (0 + w3.1)) ((w3.2 (Int32.toNatClampNeg (0 + w3.1))) + ((v_town (Int32.toNatClampNeg (11 + w3.1))) + a3)))))]) hD hS hA [0, 1, 2] rfl
              refine va_callv (va_runV (As := [.ref q_p1, .int w3.1]) (rest := []) ⟨hx, hb, hml, hown, hts⟩ (tX12_spillsAt l dC dI cI cZ q_aside q_book q_free q_images q_kept q_now q_p1 q_past q_read q_sights q_stands q_text q_this q_town q_went H.size v_undos v_seed v_size v_fault v_sightMany v_bookMany v_at v_begin v_sign v_figures v_value v_wrong v_town (upd w3.2 (Int32.toNatClampNeg (0 + w3.1)) ((w3.2 (Int32.toNatClampNeg (0 + w3.1))) + ((v_town (Int32.toNatClampNeg (11 + w3.1))) + a3))) w3.1 y85 hc85) (cwV 2 hts gX12_dayGoes_X12_spillsAt rfl rfl rfl (by decide +kernel) ⟨Nat.le_of_ble_eq_true rfl, Nat.le_of_ble_eq_true rfl⟩) ⟨fun a U g mk q => by obtain ⟨q0, q1, qP, qK, qD⟩ := q; exact ⟨q0, q1, qP, va_K.moved (u := U) (U := U.calling g mk a) (Vm.Alike.refl U.vm) qK, qD⟩, va_recv hK hPc (ci := 12) (q0 := 0) rfl rfl, fun U hU hW => ⟨rfl, by rw [hU], by rw [hU]; exact hPc, va_K.moved hW.alike hK, hDc.weaken (fun _ _ _ _ => trivial)⟩⟩ rfl rfl hl.1 rfl (lv_room (Nat.le_of_ble_eq_true rfl)) dX12_dayGoes_85 ⟨Nat.le_of_ble_eq_true rfl, Nat.le_of_ble_eq_true rfl⟩) hS (fun q _ h => hFc q h) hFc (fun u9 t9 H1 locs ht9 hvm9 hw9 hB9 hz9 hkk9 hS => ?_)
              obtain ⟨hP9, hK9, hD9⟩ := hB9
              rw [ht9] at hP9
              obtain ⟨hP, hD⟩ := va_join (wr := []) (w1 := [(q_this, .inr (12, [.ref q_town, .ref q_read, .ref q_now, .ref q_aside, .ref q_past, .int v_undos, .ref q_images, .ref q_kept, .long v_seed, .ref q_text, .int v_size, .int v_fault, .ref q_sights, .int v_sightMany, .ref q_book, .int v_bookMany, .int v_at, .int v_begin, .int v_sign, .int v_figures, .int v_value, .int v_wrong, .ref q_went, .ref q_free, .ref q_stands])), (q_town, .inl (cI, 27, .inl v_town)), (q_p1, .inl (cI, 19, .inl y85))]) hP hD [0, 1, 2] [] rfl rfl (by decide) (by decide) hkk9 hFc hP9 hD9
              generalize H1 = H at hP hS ⊢
              have hP : va_P (dC, dI) vwCl [(q_this, .inr (12, [.ref q_town, .ref q_read, .ref q_now, .ref q_aside, .ref q_past, .int v_undos, .ref q_images, .ref q_kept, .long v_seed, .ref q_text, .int v_size, .int v_fault, .ref q_sights, .int v_sightMany, .ref q_book, .int v_bookMany, .int v_at, .int v_begin, .int v_sign, .int v_figures, .int v_value, .int v_wrong, .ref q_went, .ref q_free, .ref q_stands])), (q_town, .inl (cI, 27, .inl v_town)), (q_p1, .inl (cI, 19, .inl y85))] H := hP
              have hD : va_D A [(q_this, .inr (12, [.ref q_town, .ref q_read, .ref q_now, .ref q_aside, .ref q_past, .int v_undos, .ref q_images, .ref q_kept, .long v_seed, .ref q_text, .int v_size, .int v_fault, .ref q_sights, .int v_sightMany, .ref q_book, .int v_bookMany, .int v_at, .int v_begin, .int v_sign, .int v_figures, .int v_value, .int v_wrong, .ref q_went, .ref q_free, .ref q_stands])), (q_town, .inl (cI, 27, .inl v_town)), (q_p1, .inl (cI, 19, .inl y85))] := hD
              refine lv_goto (tgt := 107) hx hb dX12_dayGoes_88 (by decide) ?_
              refine lv_iinc (v := (w3.1 + 1)) (lv' := [(4, .int (w3.1 + 1)), (5, .int ((v_town (Int32.toNatClampNeg (11 + w3.1))) + a3)), (0, .ref q_this), (1, .ref q_p1), (2, .int a2), (3, .int a3)]) hx hb dX12_dayGoes_107 hl (k := 1) rfl rfl (by decide) rfl (fun ls hl => ?_)
              refine lv_goto (tgt := 3) hx hb dX12_dayGoes_110 (by decide) ?_
              have hr9 := Option.some.inj hrun
              subst hr9
              exact ih ((w3.1 + 1), y85) _ hnext hexit _ _ _ (hP.sub [0, 1, 2] rfl) (hD.sub [0, 1, 2] (by decide) rfl) hS (lv_sub hl [0, 2, 3, 4, 5] rfl)
          · have hrun := oz_f hrun c9
            refine lv_aload_n hx hb dX12_dayGoes_48 rfl (lv_at hl 3 rfl) ?_
            refine lv_bipush (v := 8) hx hb dX12_dayGoes_49 (by decide) ?_
            refine lv_iload hx hb dX12_dayGoes_51 (lv_at hl 1 rfl) ?_
            refine lv_iadd hx hb dX12_dayGoes_53 ?_
            refine lv_dup2_11 hx hb dX12_dayGoes_54 rfl rfl ?_
            refine va_iald hx hb hK hP 2 0 rfl rfl c8 dX12_dayGoes_55 ?_
            refine lv_iconst (v := 1) hx hb dX12_dayGoes_56 (by decide) ?_
            refine lv_isub hx hb dX12_dayGoes_57 ?_
            refine va_iast hx hb hK hP hD hS 2 0 rfl rfl c8 dX12_dayGoes_58 (fun H locs hP hD hS => ?_)
            have hP : va_P (dC, dI) vwCl [(q_this, .inr (12, [.ref q_town, .ref q_read, .ref q_now, .ref q_aside, .ref q_past, .int v_undos, .ref q_images, .ref q_kept, .long v_seed, .ref q_text, .int v_size, .int v_fault, .ref q_sights, .int v_sightMany, .ref q_book, .int v_bookMany, .int v_at, .int v_begin, .int v_sign, .int v_figures, .int v_value, .int v_wrong, .ref q_went, .ref q_free, .ref q_stands])), (q_town, .inl (cI, 27, .inl v_town)), (q_p1, .inl (cI, 19, .inl (upd w3.2 (Int32.toNatClampNeg (8 + w3.1)) ((w3.2 (Int32.toNatClampNeg (8 + w3.1))) - 1))))] H := hP
            have hD : va_D A [(q_this, .inr (12, [.ref q_town, .ref q_read, .ref q_now, .ref q_aside, .ref q_past, .int v_undos, .ref q_images, .ref q_kept, .long v_seed, .ref q_text, .int v_size, .int v_fault, .ref q_sights, .int v_sightMany, .ref q_book, .int v_bookMany, .int v_at, .int v_begin, .int v_sign, .int v_figures, .int v_value, .int v_wrong, .ref q_went, .ref q_free, .ref q_stands])), (q_town, .inl (cI, 27, .inl v_town)), (q_p1, .inl (cI, 19, .inl (upd w3.2 (Int32.toNatClampNeg (8 + w3.1)) ((w3.2 (Int32.toNatClampNeg (8 + w3.1))) - 1))))] := hD
            refine lv_goto (tgt := 107) hx hb dX12_dayGoes_59 (by decide) ?_
            refine lv_iinc (v := (w3.1 + 1)) (lv' := [(4, .int (w3.1 + 1)), (5, .int ((v_town (Int32.toNatClampNeg (11 + w3.1))) + a3)), (0, .ref q_this), (1, .ref q_p1), (2, .int a2), (3, .int a3)]) hx hb dX12_dayGoes_107 hl (k := 1) rfl rfl (by decide) rfl (fun ls hl => ?_)
            refine lv_goto (tgt := 3) hx hb dX12_dayGoes_110 (by decide) ?_
            have hr9 := Option.some.inj hrun
            subst hr9
            exact ih ((w3.1 + 1), (upd w3.2 (Int32.toNatClampNeg (8 + w3.1)) ((w3.2 (Int32.toNatClampNeg (8 + w3.1))) - 1))) _ hnext hexit _ _ _ (hP.sub [0, 1, 2] rfl) (hD.sub [0, 1, 2] (by decide) rfl) hS (lv_sub hl [0, 2, 3, 4, 5] rfl)
  refine hL3 oz_fuel (0, v_p1) o3 hlp3 (fun H locs ls hP hD hS hl => ?_) _ _ _ (hP.sub [0, 1, 2] rfl) (hD.sub [0, 1, 2] (by decide) rfl) hS (lv_sub hl [0, 1, 2, 3, 4] rfl)
  have hP : va_P (dC, dI) vwCl [(q_this, .inr (12, [.ref q_town, .ref q_read, .ref q_now, .ref q_aside, .ref q_past, .int v_undos, .ref q_images, .ref q_kept, .long v_seed, .ref q_text, .int v_size, .int v_fault, .ref q_sights, .int v_sightMany, .ref q_book, .int v_bookMany, .int v_at, .int v_begin, .int v_sign, .int v_figures, .int v_value, .int v_wrong, .ref q_went, .ref q_free, .ref q_stands])), (q_town, .inl (cI, 27, .inl v_town)), (q_p1, .inl (cI, 19, .inl o3.2))] H := hP
  have hD : va_D A [(q_this, .inr (12, [.ref q_town, .ref q_read, .ref q_now, .ref q_aside, .ref q_past, .int v_undos, .ref q_images, .ref q_kept, .long v_seed, .ref q_text, .int v_size, .int v_fault, .ref q_sights, .int v_sightMany, .ref q_book, .int v_bookMany, .int v_at, .int v_begin, .int v_sign, .int v_figures, .int v_value, .int v_wrong, .ref q_went, .ref q_free, .ref q_stands])), (q_town, .inl (cI, 27, .inl v_town)), (q_p1, .inl (cI, 19, .inl o3.2))] := hD
  have hl : lv_has ls 6 [(4, .int o3.1), (0, .ref q_this), (1, .ref q_p1), (2, .int a2), (3, .int a3)] := hl
  refine lv_aload_n hx hb dX12_dayGoes_113 rfl (lv_at hl 2 rfl) ?_
  refine lv_bipush (v := 16) hx hb dX12_dayGoes_114 (by decide) ?_
  refine lv_dup2_11 hx hb dX12_dayGoes_116 rfl rfl ?_
  refine va_iald hx hb hK hP 2 0 rfl rfl (show ¬ ((16 : Int32) < 0 ∨ 19 ≤ (16 : Int32).toNatClampNeg) by decide) dX12_dayGoes_117 ?_
  refine lv_iconst (v := 1) hx hb dX12_dayGoes_118 (by decide) ?_
  refine lv_iadd hx hb dX12_dayGoes_119 ?_
  refine va_iast hx hb hK hP hD hS 2 0 rfl rfl (show ¬ ((16 : Int32) < 0 ∨ 19 ≤ (16 : Int32).toNatClampNeg) by decide) dX12_dayGoes_120 (fun H locs hP hD hS => ?_)
  have hP : va_P (dC, dI) vwCl [(q_this, .inr (12, [.ref q_town, .ref q_read, .ref q_now, .ref q_aside, .ref q_past, .int v_undos, .ref q_images, .ref q_kept, .long v_seed, .ref q_text, .int v_size, .int v_fault, .ref q_sights, .int v_sightMany, .ref q_book, .int v_bookMany, .int v_at, .int v_begin, .int v_sign, .int v_figures, .int v_value, .int v_wrong, .ref q_went, .ref q_free, .ref q_stands])), (q_town, .inl (cI, 27, .inl v_town)), (q_p1, .inl (cI, 19, .inl (upd o3.2 (Int32.toNatClampNeg 16) ((o3.2 (Int32.toNatClampNeg 16)) + 1))))] H := hP
  have hD : va_D A [(q_this, .inr (12, [.ref q_town, .ref q_read, .ref q_now, .ref q_aside, .ref q_past, .int v_undos, .ref q_images, .ref q_kept, .long v_seed, .ref q_text, .int v_size, .int v_fault, .ref q_sights, .int v_sightMany, .ref q_book, .int v_bookMany, .int v_at, .int v_begin, .int v_sign, .int v_figures, .int v_value, .int v_wrong, .ref q_went, .ref q_free, .ref q_stands])), (q_town, .inl (cI, 27, .inl v_town)), (q_p1, .inl (cI, 19, .inl (upd o3.2 (Int32.toNatClampNeg 16) ((o3.2 (Int32.toNatClampNeg 16)) + 1))))] := hD
  have ho9 := Option.some.inj hrun
  subst ho9
  have hP9 := hP.sub (ws' := [(q_this, .inr (12, [.ref q_town, .ref q_read, .ref q_now, .ref q_aside, .ref q_past, .int v_undos, .ref q_images, .ref q_kept, .long v_seed, .ref q_text, .int v_size, .int v_fault, .ref q_sights, .int v_sightMany, .ref q_book, .int v_bookMany, .int v_at, .int v_begin, .int v_sign, .int v_figures, .int v_value, .int v_wrong, .ref q_went, .ref q_free, .ref q_stands])), (q_town, .inl (cI, 27, .inl v_town)), (q_p1, .inl (cI, 19, .inl (upd o3.2 (Int32.toNatClampNeg 16) ((o3.2 (Int32.toNatClampNeg 16)) + 1))))]) [0, 1, 2] rfl
  have hD9 := hD.sub (ws' := [(q_this, .inr (12, [.ref q_town, .ref q_read, .ref q_now, .ref q_aside, .ref q_past, .int v_undos, .ref q_images, .ref q_kept, .long v_seed, .ref q_text, .int v_size, .int v_fault, .ref q_sights, .int v_sightMany, .ref q_book, .int v_bookMany, .int v_at, .int v_begin, .int v_sign, .int v_figures, .int v_value, .int v_wrong, .ref q_went, .ref q_free, .ref q_stands])), (q_town, .inl (cI, 27, .inl v_town)), (q_p1, .inl (cI, 19, .inl (upd o3.2 (Int32.toNatClampNeg 16) ((o3.2 (Int32.toNatClampNeg 16)) + 1))))]) [0, 1, 2] (by decide) rfl
  rw [hQ]
  exact W.vret hx hb hr (fun t ht hW => ⟨⟨(), rfl, trivial, by rw [ht]; exact hP9, va_K.moved hW.alike hK, hD9⟩, hS.F ht⟩) hS.2.2 dX12_dayGoes_121
def fX12_hourGoes_b2 (v_town : Nat → Int32) (v_p1 : Nat → Int32) (w2 : Int32 × (Nat → Int32)) : Option ((Int32 × (Nat → Int32)) ⊕ (Int32 × (Nat → Int32))) :=
  if (v_town (Int32.toNatClampNeg 2)) ≤ w2.1 then (some (.inr (w2.1, w2.2))) else (if ((0 + w2.1) < 0 ∨ 19 ≤ Int32.toNatClampNeg (0 + w2.1)) then none else Option.bind (fX12_lesser (v_p1 (Int32.toNatClampNeg (0 + w2.1))) (v_town (Int32.toNatClampNeg 1))) (fun y28 => if (w2.1 < 0 ∨ 8 ≤ Int32.toNatClampNeg w2.1) then none else some (.inl ((w2.1 + 1), (upd w2.2 (Int32.toNatClampNeg w2.1) y28)))))
def fX12_hourGoes_b40 (v_town : Nat → Int32) (o2 : Int32 × (Nat → Int32)) (w40 : Int32 × (Nat → Int32)) : Option ((Int32 × (Nat → Int32)) ⊕ (Int32 × (Nat → Int32))) :=
  if (v_town (Int32.toNatClampNeg 2)) ≤ w40.1 then (some (.inr (w40.1, w40.2))) else (if ((19 + w40.1) < 0 ∨ 27 ≤ Int32.toNatClampNeg (19 + w40.1)) then none else if ((0 + w40.1) < 0 ∨ 19 ≤ Int32.toNatClampNeg (0 + w40.1)) then none else if (w40.1 < 0 ∨ 8 ≤ Int32.toNatClampNeg w40.1) then none else if (v_town (Int32.toNatClampNeg (19 + w40.1))) = (-1) then (Option.bind (fX12_lesser (((upd w40.2 (Int32.toNatClampNeg (0 + w40.1)) ((w40.2 (Int32.toNatClampNeg (0 + w40.1))) - (o2.2 (Int32.toNatClampNeg w40.1)))) (Int32.toNatClampNeg 18)) + (o2.2 (Int32.toNatClampNeg w40.1))) 9999999) (fun y95 => some (.inl ((w40.1 + 1), (upd (upd w40.2 (Int32.toNatClampNeg (0 + w40.1)) ((w40.2 (Int32.toNatClampNeg (0 + w40.1))) - (o2.2 (Int32.toNatClampNeg w40.1)))) (Int32.toNatClampNeg 18) y95))))) else (if ((0 + (v_town (Int32.toNatClampNeg (19 + w40.1)))) < 0 ∨ 19 ≤ Int32.toNatClampNeg (0 + (v_town (Int32.toNatClampNeg (19 + w40.1))))) then none else some (.inl ((w40.1 + 1), (upd (upd w40.2 (Int32.toNatClampNeg (0 + w40.1)) ((w40.2 (Int32.toNatClampNeg (0 + w40.1))) - (o2.2 (Int32.toNatClampNeg w40.1)))) (Int32.toNatClampNeg (0 + (v_town (Int32.toNatClampNeg (19 + w40.1))))) (((upd w40.2 (Int32.toNatClampNeg (0 + w40.1)) ((w40.2 (Int32.toNatClampNeg (0 + w40.1))) - (o2.2 (Int32.toNatClampNeg w40.1)))) (Int32.toNatClampNeg (0 + (v_town (Int32.toNatClampNeg (19 + w40.1)))))) + (o2.2 (Int32.toNatClampNeg w40.1))))))))
def fX12_hourGoes_b124 (v_town : Nat → Int32) (w124 : Int32 × (Nat → Int32)) : Option ((Int32 × (Nat → Int32)) ⊕ (Int32 × (Nat → Int32))) :=
  if (v_town (Int32.toNatClampNeg 2)) ≤ w124.1 then (some (.inr (w124.1, w124.2))) else (Option.bind (fX12_spillsAt v_town w124.2 w124.1) (fun y137 => some (.inl ((w124.1 + 1), y137))))
def fX12_hourGoes (v_town : Nat → Int32) (v_went : Nat → Int32) (v_p1 : Nat → Int32) : Option ((Nat → Int32) × (Nat → Int32)) :=
  Option.bind (oz_loop (fX12_hourGoes_b2 v_town v_p1) oz_fuel (0, v_went)) (fun o2 => Option.bind (oz_loop (fX12_hourGoes_b40 v_town o2) oz_fuel (0, v_p1)) (fun o40 => Option.bind (oz_loop (fX12_hourGoes_b124 v_town) oz_fuel (0, o40.2)) (fun o124 => some (o2.2, o124.2))))
def rmX12_hourGoes : Room := { frames := 2, cells := 0, slots := 0, locals := 44 }
set_option maxHeartbeats 4000000 in
set_option maxRecDepth 100000 in
theorem tX12_hourGoes (l : Launch) (dC : Nat → ClassId) (dI : Nat → Nat → Nat) (cI cZ : ClassId) (q_aside q_book q_free q_images q_kept q_now q_p1 q_past q_read q_sights q_stands q_text q_this q_town q_went : Nat) (sz : Nat) (v_undos : Int32) (v_seed : Int64) (v_size : Int32) (v_fault : Int32) (v_sightMany : Int32) (v_bookMany : Int32) (v_at : Int32) (v_begin : Int32) (v_sign : Int32) (v_figures : Int32) (v_value : Int32) (v_wrong : Int32) (v_town : Nat → Int32) (v_went : Nat → Int32) (v_p1 : Nat → Int32) (out : (Nat → Int32) × (Nat → Int32)) (hrun : fX12_hourGoes v_town v_went v_p1 = some out) : Met l yX12_hourGoes wsX12_hourGoes rmX12_hourGoes (va_Pc [.ref q_this, .ref q_p1] (fun U => U.heap.size = sz ∧ va_P (dC, dI) vwCl [(q_this, .inr (12, [.ref q_town, .ref q_read, .ref q_now, .ref q_aside, .ref q_past, .int v_undos, .ref q_images, .ref q_kept, .long v_seed, .ref q_text, .int v_size, .int v_fault, .ref q_sights, .int v_sightMany, .ref q_book, .int v_bookMany, .int v_at, .int v_begin, .int v_sign, .int v_figures, .int v_value, .int v_wrong, .ref q_went, .ref q_free, .ref q_stands])), (q_town, .inl (cI, 27, .inl v_town)), (q_went, .inl (cI, 8, .inl v_went)), (q_p1, .inl (cI, 19, .inl v_p1))] U.heap ∧ va_K (dC, dI) vwCl [(cI, .int), (cZ, .boolean)] U ∧ va_D (fun _ => True) [(q_this, .inr (12, [.ref q_town, .ref q_read, .ref q_now, .ref q_aside, .ref q_past, .int v_undos, .ref q_images, .ref q_kept, .long v_seed, .ref q_text, .int v_size, .int v_fault, .ref q_sights, .int v_sightMany, .ref q_book, .int v_bookMany, .int v_at, .int v_begin, .int v_sign, .int v_figures, .int v_value, .int v_wrong, .ref q_went, .ref q_free, .ref q_stands])), (q_town, .inl (cI, 27, .inl v_town)), (q_went, .inl (cI, 8, .inl v_went)), (q_p1, .inl (cI, 19, .inl v_p1))])) (va_Qv (fun _ : Unit => True) (fun _ t => va_P (dC, dI) vwCl [(q_this, .inr (12, [.ref q_town, .ref q_read, .ref q_now, .ref q_aside, .ref q_past, .int v_undos, .ref q_images, .ref q_kept, .long v_seed, .ref q_text, .int v_size, .int v_fault, .ref q_sights, .int v_sightMany, .ref q_book, .int v_bookMany, .int v_at, .int v_begin, .int v_sign, .int v_figures, .int v_value, .int v_wrong, .ref q_went, .ref q_free, .ref q_stands])), (q_town, .inl (cI, 27, .inl v_town)), (q_went, .inl (cI, 8, .inl out.1)), (q_p1, .inl (cI, 19, .inl out.2))] t.heap ∧ va_K (dC, dI) vwCl [(cI, .int), (cZ, .boolean)] t ∧ va_D (va_A [(q_this, .inr (12, [.ref q_town, .ref q_read, .ref q_now, .ref q_aside, .ref q_past, .int v_undos, .ref q_images, .ref q_kept, .long v_seed, .ref q_text, .int v_size, .int v_fault, .ref q_sights, .int v_sightMany, .ref q_book, .int v_bookMany, .int v_at, .int v_begin, .int v_sign, .int v_figures, .int v_value, .int v_wrong, .ref q_went, .ref q_free, .ref q_stands])), (q_town, .inl (cI, 27, .inl v_town)), (q_went, .inl (cI, 8, .inl v_went)), (q_p1, .inl (cI, 19, .inl v_p1))] sz) [(q_this, .inr (12, [.ref q_town, .ref q_read, .ref q_now, .ref q_aside, .ref q_past, .int v_undos, .ref q_images, .ref q_kept, .long v_seed, .ref q_text, .int v_size, .int v_fault, .ref q_sights, .int v_sightMany, .ref q_book, .int v_bookMany, .int v_at, .int v_begin, .int v_sign, .int v_figures, .int v_value, .int v_wrong, .ref q_went, .ref q_free, .ref q_stands])), (q_town, .inl (cI, 27, .inl v_town)), (q_went, .inl (cI, 8, .inl out.1)), (q_p1, .inl (cI, 19, .inl out.2))]) (va_A [(q_this, .inr (12, [.ref q_town, .ref q_read, .ref q_now, .ref q_aside, .ref q_past, .int v_undos, .ref q_images, .ref q_kept, .long v_seed, .ref q_text, .int v_size, .int v_fault, .ref q_sights, .int v_sightMany, .ref q_book, .int v_bookMany, .int v_at, .int v_begin, .int v_sign, .int v_figures, .int v_value, .int v_wrong, .ref q_went, .ref q_free, .ref q_stands])), (q_town, .inl (cI, 27, .inl v_town)), (q_went, .inl (cI, 8, .inl v_went)), (q_p1, .inl (cI, 19, .inl v_p1))] sz)) 0 0 (va_A [(q_this, .inr (12, [.ref q_town, .ref q_read, .ref q_now, .ref q_aside, .ref q_past, .int v_undos, .ref q_images, .ref q_kept, .long v_seed, .ref q_text, .int v_size, .int v_fault, .ref q_sights, .int v_sightMany, .ref q_book, .int v_bookMany, .int v_at, .int v_begin, .int v_sign, .int v_figures, .int v_value, .int v_wrong, .ref q_went, .ref q_free, .ref q_stands])), (q_town, .inl (cI, 27, .inl v_town)), (q_went, .inl (cI, 8, .inl v_went)), (q_p1, .inl (cI, 19, .inl v_p1))] sz) := by
  refine Met.ofW (cc := cX12_hourGoes) (maxL := 4) (ret := none) (by decide) rfl ?_
  intro p e s m args below meth c s₁ B hml hv
  obtain ⟨rfl, hsz, hP, hK, hD0⟩ := hv
  have hx := B.exec
  have hb := B.bytes
  have hr := B.returns
  have hts := atoms_spec (ws := wsX12_hourGoes) B.pre
  have hown : s.vm.findClass RX12 = some m.cls := findClass_of_methodNamed B.named
  have hlocks := B.notSynchronized
  subst hsz
  have hD := hD0.self (sz := s.heap.size)
  generalize hAe : va_A [(q_this, .inr (12, [.ref q_town, .ref q_read, .ref q_now, .ref q_aside, .ref q_past, .int v_undos, .ref q_images, .ref q_kept, .long v_seed, .ref q_text, .int v_size, .int v_fault, .ref q_sights, .int v_sightMany, .ref q_book, .int v_bookMany, .int v_at, .int v_begin, .int v_sign, .int v_figures, .int v_value, .int v_wrong, .ref q_went, .ref q_free, .ref q_stands])), (q_town, .inl (cI, 27, .inl v_town)), (q_went, .inl (cI, 8, .inl v_went)), (q_p1, .inl (cI, 19, .inl v_p1))] s.heap.size = A at hD ⊢
  have hA : ∀ q : Nat, s.heap.size ≤ q → A q := fun q h => by rw [← hAe]; exact Or.inr h
  have hS : va_S A s.heap s.heap [] := va_S.rf
  have hl := lv_entry ([.ref q_this, .ref q_p1]) (n := 4) (Nat.le_of_ble_eq_true rfl)
  rw [lg_entry_eq]
  generalize (lg_sl ([.ref q_this, .ref q_p1]) ++ List.replicate (4 - (lg_sl ([.ref q_this, .ref q_p1])).length) Slot.unset).toArray = ls at hl ⊢
  have hl : lv_has ls 4 [(0, .ref q_this), (1, .ref q_p1)] := hl
  unfold fX12_hourGoes at hrun
  have hk7 := hts (.fieldLink RX12 7 "LentDrainsModel" "town" "[I") (by decide +kernel)
  have hiX12 : ∀ w ∈ wsX120, w ∈ wsX12_hourGoes := by decide +kernel
  have hk45 := hts (.fieldLink RX12 45 "LentDrainsModel" "went" "[I") (by decide +kernel)
  have hk128 := hts (.constant RX12 128 (9999999)) (by decide +kernel)
  refine oz_genQ (fun Q hQ => ?_)
  refine lv_iconst (v := 0) hx hb dX12_hourGoes_0 (by decide) ?_
  refine lv_istore_n (lv' := [(2, .int 0), (0, .ref q_this), (1, .ref q_p1)]) hx hb dX12_hourGoes_1 rfl hl (by decide) rfl (fun ls hl => ?_)
  obtain ⟨o2, hlp2, hrun⟩ := oz_bind hrun
  have hL2 : ∀ (n : Nat) (w2 : Int32 × (Nat → Int32)) (o2 : Int32 × (Nat → Int32)), oz_loop (fX12_hourGoes_b2 v_town v_p1) n w2 = some o2 → (∀ (H : Heap) (locs : List Loc) (ls : Array Slot), va_P (dC, dI) vwCl [(q_this, .inr (12, [.ref q_town, .ref q_read, .ref q_now, .ref q_aside, .ref q_past, .int v_undos, .ref q_images, .ref q_kept, .long v_seed, .ref q_text, .int v_size, .int v_fault, .ref q_sights, .int v_sightMany, .ref q_book, .int v_bookMany, .int v_at, .int v_begin, .int v_sign, .int v_figures, .int v_value, .int v_wrong, .ref q_went, .ref q_free, .ref q_stands])), (q_town, .inl (cI, 27, .inl v_town)), (q_went, .inl (cI, 8, .inl o2.2)), (q_p1, .inl (cI, 19, .inl v_p1))] H → va_D A [(q_this, .inr (12, [.ref q_town, .ref q_read, .ref q_now, .ref q_aside, .ref q_past, .int v_undos, .ref q_images, .ref q_kept, .long v_seed, .ref q_text, .int v_size, .int v_fault, .ref q_sights, .int v_sightMany, .ref q_book, .int v_bookMany, .int v_at, .int v_begin, .int v_sign, .int v_figures, .int v_value, .int v_wrong, .ref q_went, .ref q_free, .ref q_stands])), (q_town, .inl (cI, 27, .inl v_town)), (q_went, .inl (cI, 8, .inl o2.2)), (q_p1, .inl (cI, 19, .inl v_p1))] → va_S A s.heap H locs → lv_has ls 4 [(2, .int o2.1), (0, .ref q_this), (1, .ref q_p1)] → W p l e (headSpec wsX12_hourGoes rmX12_hourGoes).room s m (([.ref q_this, .ref q_p1] : List Value).toArray) below meth c H locs 0 0 Q (F0 m 38 ls [])) → ∀ (H : Heap) (locs : List Loc) (ls : Array Slot), va_P (dC, dI) vwCl [(q_this, .inr (12, [.ref q_town, .ref q_read, .ref q_now, .ref q_aside, .ref q_past, .int v_undos, .ref q_images, .ref q_kept, .long v_seed, .ref q_text, .int v_size, .int v_fault, .ref q_sights, .int v_sightMany, .ref q_book, .int v_bookMany, .int v_at, .int v_begin, .int v_sign, .int v_figures, .int v_value, .int v_wrong, .ref q_went, .ref q_free, .ref q_stands])), (q_town, .inl (cI, 27, .inl v_town)), (q_went, .inl (cI, 8, .inl w2.2)), (q_p1, .inl (cI, 19, .inl v_p1))] H → va_D A [(q_this, .inr (12, [.ref q_town, .ref q_read, .ref q_now, .ref q_aside, .ref q_past, .int v_undos, .ref q_images, .ref q_kept, .long v_seed, .ref q_text, .int v_size, .int v_fault, .ref q_sights, .int v_sightMany, .ref q_book, .int v_bookMany, .int v_at, .int v_begin, .int v_sign, .int v_figures, .int v_value, .int v_wrong, .ref q_went, .ref q_free, .ref q_stands])), (q_town, .inl (cI, 27, .inl v_town)), (q_went, .inl (cI, 8, .inl w2.2)), (q_p1, .inl (cI, 19, .inl v_p1))] → va_S A s.heap H locs → lv_has ls 4 [(2, .int w2.1), (0, .ref q_this), (1, .ref q_p1)] → W p l e (headSpec wsX12_hourGoes rmX12_hourGoes).room s m (([.ref q_this, .ref q_p1] : List Value).toArray) below meth c H locs 0 0 Q (F0 m 2 ls []) := by
    intro n
    induction n with
    | zero => intro w2 o2 h9; exact (oz_zero h9).elim
    | succ n ih =>
      intro w2 o2 h9 hexit H locs ls hP hD hS hl
      obtain ⟨r9, hrun, hnext⟩ := oz_step h9
      unfold fX12_hourGoes_b2 at hrun
      refine lv_iload_n hx hb dX12_hourGoes_2 rfl (lv_at hl 0 rfl) ?_
      refine lv_aload_n hx hb dX12_hourGoes_3 rfl (lv_at hl 1 rfl) ?_
      refine va_get (D := (dC, dI)) (ci := 12) (v := .ref q_town) (C := RX12) (T := TX12) (N := 25) hx hb hts hiX12 hown hK hP 0 rfl rfl 0 (by decide) hk7 (fun _ h9 => h9) rfl dX12_hourGoes_4 ?_
      refine lv_iconst (v := 2) hx hb dX12_hourGoes_7 (by decide) ?_
      refine va_iald hx hb hK hP 1 0 rfl rfl (show ¬ ((2 : Int32) < 0 ∨ 27 ≤ (2 : Int32).toNatClampNeg) by decide) dX12_hourGoes_8 ?_
      refine lv_icmp_ge (tgt := 38) hx hb dX12_hourGoes_9 (by decide) (fun c1 => ?_) (fun c1 => ?_)
      · have hrun := oz_t hrun c1
        have hr9 := Option.some.inj hrun
        subst hr9
        have ho9 : (w2.1, w2.2) = o2 := hnext
        subst ho9
        exact hexit _ _ _ (hP.sub [0, 1, 2, 3] rfl) (hD.sub [0, 1, 2, 3] (by decide) rfl) hS (lv_sub hl [0, 1, 2] rfl)
      · have hrun := oz_f hrun c1
        refine lv_aload_n hx hb dX12_hourGoes_12 rfl (lv_at hl 1 rfl) ?_
        refine va_get (D := (dC, dI)) (ci := 12) (v := .ref q_went) (C := RX12) (T := TX12) (N := 25) hx hb hts hiX12 hown hK hP 0 rfl rfl 22 (by decide) hk45 (fun _ h9 => h9) rfl dX12_hourGoes_13 ?_
        refine lv_iload_n hx hb dX12_hourGoes_16 rfl (lv_at hl 0 rfl) ?_
        refine lv_aload_n hx hb dX12_hourGoes_17 rfl (lv_at hl 2 rfl) ?_
        refine lv_iconst (v := 0) hx hb dX12_hourGoes_18 (by decide) ?_
        refine lv_iload_n hx hb dX12_hourGoes_19 rfl (lv_at hl 0 rfl) ?_
        refine lv_iadd hx hb dX12_hourGoes_20 ?_
        obtain ⟨c2, hrun⟩ := oz_chk hrun
        refine va_iald hx hb hK hP 3 0 rfl rfl c2 dX12_hourGoes_21 ?_
        refine lv_aload_n hx hb dX12_hourGoes_22 rfl (lv_at hl 1 rfl) ?_
        refine va_get (D := (dC, dI)) (ci := 12) (v := .ref q_town) (C := RX12) (T := TX12) (N := 25) hx hb hts hiX12 hown hK hP 0 rfl rfl 0 (by decide) hk7 (fun _ h9 => h9) rfl dX12_hourGoes_23 ?_
        refine lv_iconst (v := 1) hx hb dX12_hourGoes_26 (by decide) ?_
        refine va_iald hx hb hK hP 1 0 rfl rfl (show ¬ ((1 : Int32) < 0 ∨ 27 ≤ (1 : Int32).toNatClampNeg) by decide) dX12_hourGoes_27 ?_
        obtain ⟨y28, hc28, hrun⟩ := oz_bind hrun
        have hPc := hP.sub (ws' := []) [] rfl
        have hDc := hD.sub (ws' := []) [] (by decide) rfl
        have hFc := va_free (wc := []) hD hS hA [] rfl
        refine va_calli (va_runS (As := [.int (v_p1 (Int32.toNatClampNeg (0 + w2.1))), .int (v_town (Int32.toNatClampNeg 1))]) (rest := [.int w2.1, .ref q_went]) ⟨hx, hb, hml, hown, hts⟩ (tX12_lesser l dC dI cI cZ H.size (v_p1 (Int32.toNatClampNeg (0 + w2.1))) (v_town (Int32.toNatClampNeg 1)) y28 hc28) (va_cwS 2 hts gX12_hourGoes_X12_lesser rfl rfl rfl (by decide +kernel) ⟨Nat.le_of_ble_eq_true rfl, Nat.le_of_ble_eq_true rfl⟩) ⟨fun a U g mk q => by obtain ⟨q0, q1, qP, qK, qD⟩ := q; exact ⟨q0, q1, qP, va_K.moved (u := U) (U := U.calling g mk a) (Vm.Alike.refl U.vm) qK, qD⟩, fun U hU hW => ⟨rfl, by rw [hU], by rw [hU]; exact hPc, va_K.moved hW.alike hK, hDc.weaken (fun _ _ _ _ => trivial)⟩⟩ rfl rfl hl.1 rfl (lv_room (Nat.le_of_ble_eq_true rfl)) dX12_hourGoes_28 ⟨Nat.le_of_ble_eq_true rfl, Nat.le_of_ble_eq_true rfl⟩) hS (fun q _ h => hFc q h) hFc (fun r28 u9 t9 H1 locs ht9 hvm9 hw9 hB9 hz9 hkk9 hS => ?_)
        have hw9 : y28 = r28 := hw9.symm
        subst hw9
        obtain ⟨hP9, hK9, hD9⟩ := hB9
        rw [ht9] at hP9
        obtain ⟨hP, hD⟩ := va_join (wr := [(q_this, .inr (12, [.ref q_town, .ref q_read, .ref q_now, .ref q_aside, .ref q_past, .int v_undos, .ref q_images, .ref q_kept, .long v_seed, .ref q_text, .int v_size, .int v_fault, .ref q_sights, .int v_sightMany, .ref q_book, .int v_bookMany, .int v_at, .int v_begin, .int v_sign, .int v_figures, .int v_value, .int v_wrong, .ref q_went, .ref q_free, .ref q_stands])), (q_town, .inl (cI, 27, .inl v_town)), (q_went, .inl (cI, 8, .inl w2.2)), (q_p1, .inl (cI, 19, .inl v_p1))]) (w1 := []) hP hD [] [0, 1, 2, 3] rfl rfl (by decide) (by decide) hkk9 hFc hP9 hD9
        generalize H1 = H at hP hS ⊢
        have hP : va_P (dC, dI) vwCl [(q_this, .inr (12, [.ref q_town, .ref q_read, .ref q_now, .ref q_aside, .ref q_past, .int v_undos, .ref q_images, .ref q_kept, .long v_seed, .ref q_text, .int v_size, .int v_fault, .ref q_sights, .int v_sightMany, .ref q_book, .int v_bookMany, .int v_at, .int v_begin, .int v_sign, .int v_figures, .int v_value, .int v_wrong, .ref q_went, .ref q_free, .ref q_stands])), (q_town, .inl (cI, 27, .inl v_town)), (q_went, .inl (cI, 8, .inl w2.2)), (q_p1, .inl (cI, 19, .inl v_p1))] H := hP
        have hD : va_D A [(q_this, .inr (12, [.ref q_town, .ref q_read, .ref q_now, .ref q_aside, .ref q_past, .int v_undos, .ref q_images, .ref q_kept, .long v_seed, .ref q_text, .int v_size, .int v_fault, .ref q_sights, .int v_sightMany, .ref q_book, .int v_bookMany, .int v_at, .int v_begin, .int v_sign, .int v_figures, .int v_value, .int v_wrong, .ref q_went, .ref q_free, .ref q_stands])), (q_town, .inl (cI, 27, .inl v_town)), (q_went, .inl (cI, 8, .inl w2.2)), (q_p1, .inl (cI, 19, .inl v_p1))] := hD
        obtain ⟨c3, hrun⟩ := oz_chk hrun
        refine va_iast hx hb hK hP hD hS 2 0 rfl rfl c3 dX12_hourGoes_31 (fun H locs hP hD hS => ?_)
        have hP : va_P (dC, dI) vwCl [(q_this, .inr (12, [.ref q_town, .ref q_read, .ref q_now, .ref q_aside, .ref q_past, .int v_undos, .ref q_images, .ref q_kept, .long v_seed, .ref q_text, .int v_size, .int v_fault, .ref q_sights, .int v_sightMany, .ref q_book, .int v_bookMany, .int v_at, .int v_begin, .int v_sign, .int v_figures, .int v_value, .int v_wrong, .ref q_went, .ref q_free, .ref q_stands])), (q_town, .inl (cI, 27, .inl v_town)), (q_went, .inl (cI, 8, .inl (upd w2.2 (Int32.toNatClampNeg w2.1) y28))), (q_p1, .inl (cI, 19, .inl v_p1))] H := hP
        have hD : va_D A [(q_this, .inr (12, [.ref q_town, .ref q_read, .ref q_now, .ref q_aside, .ref q_past, .int v_undos, .ref q_images, .ref q_kept, .long v_seed, .ref q_text, .int v_size, .int v_fault, .ref q_sights, .int v_sightMany, .ref q_book, .int v_bookMany, .int v_at, .int v_begin, .int v_sign, .int v_figures, .int v_value, .int v_wrong, .ref q_went, .ref q_free, .ref q_stands])), (q_town, .inl (cI, 27, .inl v_town)), (q_went, .inl (cI, 8, .inl (upd w2.2 (Int32.toNatClampNeg w2.1) y28))), (q_p1, .inl (cI, 19, .inl v_p1))] := hD
        refine lv_iinc (v := (w2.1 + 1)) (lv' := [(2, .int (w2.1 + 1)), (0, .ref q_this), (1, .ref q_p1)]) hx hb dX12_hourGoes_32 hl (k := 0) rfl rfl (by decide) rfl (fun ls hl => ?_)
        refine lv_goto (tgt := 2) hx hb dX12_hourGoes_35 (by decide) ?_
        have hr9 := Option.some.inj hrun
        subst hr9
        exact ih ((w2.1 + 1), (upd w2.2 (Int32.toNatClampNeg w2.1) y28)) _ hnext hexit _ _ _ (hP.sub [0, 1, 2, 3] rfl) (hD.sub [0, 1, 2, 3] (by decide) rfl) hS (lv_sub hl [0, 1, 2] rfl)
  refine hL2 oz_fuel (0, v_went) o2 hlp2 (fun H locs ls hP hD hS hl => ?_) _ _ _ (hP.sub [0, 1, 2, 3] rfl) (hD.sub [0, 1, 2, 3] (by decide) rfl) hS (lv_sub hl [0, 1, 2] rfl)
  have hP : va_P (dC, dI) vwCl [(q_this, .inr (12, [.ref q_town, .ref q_read, .ref q_now, .ref q_aside, .ref q_past, .int v_undos, .ref q_images, .ref q_kept, .long v_seed, .ref q_text, .int v_size, .int v_fault, .ref q_sights, .int v_sightMany, .ref q_book, .int v_bookMany, .int v_at, .int v_begin, .int v_sign, .int v_figures, .int v_value, .int v_wrong, .ref q_went, .ref q_free, .ref q_stands])), (q_town, .inl (cI, 27, .inl v_town)), (q_went, .inl (cI, 8, .inl o2.2)), (q_p1, .inl (cI, 19, .inl v_p1))] H := hP
  have hD : va_D A [(q_this, .inr (12, [.ref q_town, .ref q_read, .ref q_now, .ref q_aside, .ref q_past, .int v_undos, .ref q_images, .ref q_kept, .long v_seed, .ref q_text, .int v_size, .int v_fault, .ref q_sights, .int v_sightMany, .ref q_book, .int v_bookMany, .int v_at, .int v_begin, .int v_sign, .int v_figures, .int v_value, .int v_wrong, .ref q_went, .ref q_free, .ref q_stands])), (q_town, .inl (cI, 27, .inl v_town)), (q_went, .inl (cI, 8, .inl o2.2)), (q_p1, .inl (cI, 19, .inl v_p1))] := hD
  have hl : lv_has ls 4 [(2, .int o2.1), (0, .ref q_this), (1, .ref q_p1)] := hl
  refine lv_iconst (v := 0) hx hb dX12_hourGoes_38 (by decide) ?_
  refine lv_istore_n (lv' := [(2, .int 0), (0, .ref q_this), (1, .ref q_p1)]) hx hb dX12_hourGoes_39 rfl hl (by decide) rfl (fun ls hl => ?_)
  obtain ⟨o40, hlp40, hrun⟩ := oz_bind hrun
  have hL40 : ∀ (n : Nat) (w40 : Int32 × (Nat → Int32)) (o40 : Int32 × (Nat → Int32)), oz_loop (fX12_hourGoes_b40 v_town o2) n w40 = some o40 → (∀ (H : Heap) (locs : List Loc) (ls : Array Slot), va_P (dC, dI) vwCl [(q_this, .inr (12, [.ref q_town, .ref q_read, .ref q_now, .ref q_aside, .ref q_past, .int v_undos, .ref q_images, .ref q_kept, .long v_seed, .ref q_text, .int v_size, .int v_fault, .ref q_sights, .int v_sightMany, .ref q_book, .int v_bookMany, .int v_at, .int v_begin, .int v_sign, .int v_figures, .int v_value, .int v_wrong, .ref q_went, .ref q_free, .ref q_stands])), (q_town, .inl (cI, 27, .inl v_town)), (q_went, .inl (cI, 8, .inl o2.2)), (q_p1, .inl (cI, 19, .inl o40.2))] H → va_D A [(q_this, .inr (12, [.ref q_town, .ref q_read, .ref q_now, .ref q_aside, .ref q_past, .int v_undos, .ref q_images, .ref q_kept, .long v_seed, .ref q_text, .int v_size, .int v_fault, .ref q_sights, .int v_sightMany, .ref q_book, .int v_bookMany, .int v_at, .int v_begin, .int v_sign, .int v_figures, .int v_value, .int v_wrong, .ref q_went, .ref q_free, .ref q_stands])), (q_town, .inl (cI, 27, .inl v_town)), (q_went, .inl (cI, 8, .inl o2.2)), (q_p1, .inl (cI, 19, .inl o40.2))] → va_S A s.heap H locs → lv_has ls 4 [(2, .int o40.1), (0, .ref q_this), (1, .ref q_p1)] → W p l e (headSpec wsX12_hourGoes rmX12_hourGoes).room s m (([.ref q_this, .ref q_p1] : List Value).toArray) below meth c H locs 0 0 Q (F0 m 122 ls [])) → ∀ (H : Heap) (locs : List Loc) (ls : Array Slot), va_P (dC, dI) vwCl [(q_this, .inr (12, [.ref q_town, .ref q_read, .ref q_now, .ref q_aside, .ref q_past, .int v_undos, .ref q_images, .ref q_kept, .long v_seed, .ref q_text, .int v_size, .int v_fault, .ref q_sights, .int v_sightMany, .ref q_book, .int v_bookMany, .int v_at, .int v_begin, .int v_sign, .int v_figures, .int v_value, .int v_wrong, .ref q_went, .ref q_free, .ref q_stands])), (q_town, .inl (cI, 27, .inl v_town)), (q_went, .inl (cI, 8, .inl o2.2)), (q_p1, .inl (cI, 19, .inl w40.2))] H → va_D A [(q_this, .inr (12, [.ref q_town, .ref q_read, .ref q_now, .ref q_aside, .ref q_past, .int v_undos, .ref q_images, .ref q_kept, .long v_seed, .ref q_text, .int v_size, .int v_fault, .ref q_sights, .int v_sightMany, .ref q_book, .int v_bookMany, .int v_at, .int v_begin, .int v_sign, .int v_figures, .int v_value, .int v_wrong, .ref q_went, .ref q_free, .ref q_stands])), (q_town, .inl (cI, 27, .inl v_town)), (q_went, .inl (cI, 8, .inl o2.2)), (q_p1, .inl (cI, 19, .inl w40.2))] → va_S A s.heap H locs → lv_has ls 4 [(2, .int w40.1), (0, .ref q_this), (1, .ref q_p1)] → W p l e (headSpec wsX12_hourGoes rmX12_hourGoes).room s m (([.ref q_this, .ref q_p1] : List Value).toArray) below meth c H locs 0 0 Q (F0 m 40 ls []) := by
    intro n
    induction n with
    | zero => intro w40 o40 h9; exact (oz_zero h9).elim
    | succ n ih =>
      intro w40 o40 h9 hexit H locs ls hP hD hS hl
      obtain ⟨r9, hrun, hnext⟩ := oz_step h9
      unfold fX12_hourGoes_b40 at hrun
      refine lv_iload_n hx hb dX12_hourGoes_40 rfl (lv_at hl 0 rfl) ?_
      refine lv_aload_n hx hb dX12_hourGoes_41 rfl (lv_at hl 1 rfl) ?_
      refine va_get (D := (dC, dI)) (ci := 12) (v := .ref q_town) (C := RX12) (T := TX12) (N := 25) hx hb hts hiX12 hown hK hP 0 rfl rfl 0 (by decide) hk7 (fun _ h9 => h9) rfl dX12_hourGoes_42 ?_
      refine lv_iconst (v := 2) hx hb dX12_hourGoes_45 (by decide) ?_
      refine va_iald hx hb hK hP 1 0 rfl rfl (show ¬ ((2 : Int32) < 0 ∨ 27 ≤ (2 : Int32).toNatClampNeg) by decide) dX12_hourGoes_46 ?_
      refine lv_icmp_ge (tgt := 122) hx hb dX12_hourGoes_47 (by decide) (fun c4 => ?_) (fun c4 => ?_)
      · have hrun := oz_t hrun c4
        have hr9 := Option.some.inj hrun
        subst hr9
        have ho9 : (w40.1, w40.2) = o40 := hnext
        subst ho9
        exact hexit _ _ _ (hP.sub [0, 1, 2, 3] rfl) (hD.sub [0, 1, 2, 3] (by decide) rfl) hS (lv_sub hl [0, 1, 2] rfl)
      · have hrun := oz_f hrun c4
        refine lv_aload_n hx hb dX12_hourGoes_50 rfl (lv_at hl 1 rfl) ?_
        refine va_get (D := (dC, dI)) (ci := 12) (v := .ref q_town) (C := RX12) (T := TX12) (N := 25) hx hb hts hiX12 hown hK hP 0 rfl rfl 0 (by decide) hk7 (fun _ h9 => h9) rfl dX12_hourGoes_51 ?_
        refine lv_bipush (v := 19) hx hb dX12_hourGoes_54 (by decide) ?_
        refine lv_iload_n hx hb dX12_hourGoes_56 rfl (lv_at hl 0 rfl) ?_
        refine lv_iadd hx hb dX12_hourGoes_57 ?_
        obtain ⟨c5, hrun⟩ := oz_chk hrun
        refine va_iald hx hb hK hP 1 0 rfl rfl c5 dX12_hourGoes_58 ?_
        refine lv_istore_n (lv' := [(3, .int (v_town (Int32.toNatClampNeg (19 + w40.1)))), (2, .int w40.1), (0, .ref q_this), (1, .ref q_p1)]) hx hb dX12_hourGoes_59 rfl hl (by decide) rfl (fun ls hl => ?_)
        refine lv_aload_n hx hb dX12_hourGoes_60 rfl (lv_at hl 3 rfl) ?_
        refine lv_iconst (v := 0) hx hb dX12_hourGoes_61 (by decide) ?_
        refine lv_iload_n hx hb dX12_hourGoes_62 rfl (lv_at hl 1 rfl) ?_
        refine lv_iadd hx hb dX12_hourGoes_63 ?_
        refine lv_dup2_11 hx hb dX12_hourGoes_64 rfl rfl ?_
        obtain ⟨c6, hrun⟩ := oz_chk hrun
        refine va_iald hx hb hK hP 3 0 rfl rfl c6 dX12_hourGoes_65 ?_
        refine lv_aload_n hx hb dX12_hourGoes_66 rfl (lv_at hl 2 rfl) ?_
        refine va_get (D := (dC, dI)) (ci := 12) (v := .ref q_went) (C := RX12) (T := TX12) (N := 25) hx hb hts hiX12 hown hK hP 0 rfl rfl 22 (by decide) hk45 (fun _ h9 => h9) rfl dX12_hourGoes_67 ?_
        refine lv_iload_n hx hb dX12_hourGoes_70 rfl (lv_at hl 1 rfl) ?_
        obtain ⟨c7, hrun⟩ := oz_chk hrun
        refine va_iald hx hb hK hP 2 0 rfl rfl c7 dX12_hourGoes_71 ?_
        refine lv_isub hx hb dX12_hourGoes_72 ?_
        refine va_iast hx hb hK hP hD hS 3 0 rfl rfl c6 dX12_hourGoes_73 (fun H locs hP hD hS => ?_)
        have hP : va_P (dC, dI) vwCl [(q_this, .inr (12, [.ref q_town, .ref q_read, .ref q_now, .ref q_aside, .ref q_past, .int v_undos, .ref q_images, .ref q_kept, .long v_seed, .ref q_text, .int v_size, .int v_fault, .ref q_sights, .int v_sightMany, .ref q_book, .int v_bookMany, .int v_at, .int v_begin, .int v_sign, .int v_figures, .int v_value, .int v_wrong, .ref q_went, .ref q_free, .ref q_stands])), (q_town, .inl (cI, 27, .inl v_town)), (q_went, .inl (cI, 8, .inl o2.2)), (q_p1, .inl (cI, 19, .inl (upd w40.2 (Int32.toNatClampNeg (0 + w40.1)) ((w40.2 (Int32.toNatClampNeg (0 + w40.1))) - (o2.2 (Int32.toNatClampNeg w40.1))))))] H := hP
        have hD : va_D A [(q_this, .inr (12, [.ref q_town, .ref q_read, .ref q_now, .ref q_aside, .ref q_past, .int v_undos, .ref q_images, .ref q_kept, .long v_seed, .ref q_text, .int v_size, .int v_fault, .ref q_sights, .int v_sightMany, .ref q_book, .int v_bookMany, .int v_at, .int v_begin, .int v_sign, .int v_figures, .int v_value, .int v_wrong, .ref q_went, .ref q_free, .ref q_stands])), (q_town, .inl (cI, 27, .inl v_town)), (q_went, .inl (cI, 8, .inl o2.2)), (q_p1, .inl (cI, 19, .inl (upd w40.2 (Int32.toNatClampNeg (0 + w40.1)) ((w40.2 (Int32.toNatClampNeg (0 + w40.1))) - (o2.2 (Int32.toNatClampNeg w40.1))))))] := hD
        refine lv_iload_n hx hb dX12_hourGoes_74 rfl (lv_at hl 0 rfl) ?_
        refine lv_iconst (v := (-1)) hx hb dX12_hourGoes_75 (by decide) ?_
        refine lv_icmp_ne (tgt := 102) hx hb dX12_hourGoes_76 (by decide) (fun c8 => ?_) (fun c8 => ?_)
        · have hrun := oz_f hrun c8
          refine lv_aload_n hx hb dX12_hourGoes_102 rfl (lv_at hl 3 rfl) ?_
          refine lv_iconst (v := 0) hx hb dX12_hourGoes_103 (by decide) ?_
          refine lv_iload_n hx hb dX12_hourGoes_104 rfl (lv_at hl 0 rfl) ?_
          refine lv_iadd hx hb dX12_hourGoes_105 ?_
          refine lv_dup2_11 hx hb dX12_hourGoes_106 rfl rfl ?_
          obtain ⟨c9, hrun⟩ := oz_chk hrun
          refine va_iald hx hb hK hP 3 0 rfl rfl c9 dX12_hourGoes_107 ?_
          refine lv_aload_n hx hb dX12_hourGoes_108 rfl (lv_at hl 2 rfl) ?_
          refine va_get (D := (dC, dI)) (ci := 12) (v := .ref q_went) (C := RX12) (T := TX12) (N := 25) hx hb hts hiX12 hown hK hP 0 rfl rfl 22 (by decide) hk45 (fun _ h9 => h9) rfl dX12_hourGoes_109 ?_
          refine lv_iload_n hx hb dX12_hourGoes_112 rfl (lv_at hl 1 rfl) ?_
          refine va_iald hx hb hK hP 2 0 rfl rfl c7 dX12_hourGoes_113 ?_
          refine lv_iadd hx hb dX12_hourGoes_114 ?_
          refine va_iast hx hb hK hP hD hS 3 0 rfl rfl c9 dX12_hourGoes_115 (fun H locs hP hD hS => ?_)
          have hP : va_P (dC, dI) vwCl [(q_this, .inr (12, [.ref q_town, .ref q_read, .ref q_now, .ref q_aside, .ref q_past, .int v_undos, .ref q_images, .ref q_kept, .long v_seed, .ref q_text, .int v_size, .int v_fault, .ref q_sights, .int v_sightMany, .ref q_book, .int v_bookMany, .int v_at, .int v_begin, .int v_sign, .int v_figures, .int v_value, .int v_wrong, .ref q_went, .ref q_free, .ref q_stands])), (q_town, .inl (cI, 27, .inl v_town)), (q_went, .inl (cI, 8, .inl o2.2)), (q_p1, .inl (cI, 19, .inl (upd (upd w40.2 (Int32.toNatClampNeg (0 + w40.1)) ((w40.2 (Int32.toNatClampNeg (0 + w40.1))) - (o2.2 (Int32.toNatClampNeg w40.1)))) (Int32.toNatClampNeg (0 + (v_town (Int32.toNatClampNeg (19 + w40.1))))) (((upd w40.2 (Int32.toNatClampNeg (0 + w40.1)) ((w40.2 (Int32.toNatClampNeg (0 + w40.1))) - (o2.2 (Int32.toNatClampNeg w40.1)))) (Int32.toNatClampNeg (0 + (v_town (Int32.toNatClampNeg (19 + w40.1)))))) + (o2.2 (Int32.toNatClampNeg w40.1))))))] H := hP
          have hD : va_D A [(q_this, .inr (12, [.ref q_town, .ref q_read, .ref q_now, .ref q_aside, .ref q_past, .int v_undos, .ref q_images, .ref q_kept, .long v_seed, .ref q_text, .int v_size, .int v_fault, .ref q_sights, .int v_sightMany, .ref q_book, .int v_bookMany, .int v_at, .int v_begin, .int v_sign, .int v_figures, .int v_value, .int v_wrong, .ref q_went, .ref q_free, .ref q_stands])), (q_town, .inl (cI, 27, .inl v_town)), (q_went, .inl (cI, 8, .inl o2.2)), (q_p1, .inl (cI, 19, .inl (upd (upd w40.2 (Int32.toNatClampNeg (0 + w40.1)) ((w40.2 (Int32.toNatClampNeg (0 + w40.1))) - (o2.2 (Int32.toNatClampNeg w40.1)))) (Int32.toNatClampNeg (0 + (v_town (Int32.toNatClampNeg (19 + w40.1))))) (((upd w40.2 (Int32.toNatClampNeg (0 + w40.1)) ((w40.2 (Int32.toNatClampNeg (0 + w40.1))) - (o2.2 (Int32.toNatClampNeg w40.1)))) (Int32.toNatClampNeg (0 + (v_town (Int32.toNatClampNeg (19 + w40.1)))))) + (o2.2 (Int32.toNatClampNeg w40.1))))))] := hD
          refine lv_iinc (v := (w40.1 + 1)) (lv' := [(2, .int (w40.1 + 1)), (3, .int (v_town (Int32.toNatClampNeg (19 + w40.1)))), (0, .ref q_this), (1, .ref q_p1)]) hx hb dX12_hourGoes_116 hl (k := 1) rfl rfl (by decide) rfl (fun ls hl => ?_)
          refine lv_goto (tgt := 40) hx hb dX12_hourGoes_119 (by decide) ?_
          have hr9 := Option.some.inj hrun
          subst hr9
          exact ih ((w40.1 + 1), (upd (upd w40.2 (Int32.toNatClampNeg (0 + w40.1)) ((w40.2 (Int32.toNatClampNeg (0 + w40.1))) - (o2.2 (Int32.toNatClampNeg w40.1)))) (Int32.toNatClampNeg (0 + (v_town (Int32.toNatClampNeg (19 + w40.1))))) (((upd w40.2 (Int32.toNatClampNeg (0 + w40.1)) ((w40.2 (Int32.toNatClampNeg (0 + w40.1))) - (o2.2 (Int32.toNatClampNeg w40.1)))) (Int32.toNatClampNeg (0 + (v_town (Int32.toNatClampNeg (19 + w40.1)))))) + (o2.2 (Int32.toNatClampNeg w40.1))))) _ hnext hexit _ _ _ (hP.sub [0, 1, 2, 3] rfl) (hD.sub [0, 1, 2, 3] (by decide) rfl) hS (lv_sub hl [0, 2, 3] rfl)
        · have hrun := oz_t hrun c8
          refine lv_aload_n hx hb dX12_hourGoes_79 rfl (lv_at hl 3 rfl) ?_
          refine lv_bipush (v := 18) hx hb dX12_hourGoes_80 (by decide) ?_
          refine lv_aload_n hx hb dX12_hourGoes_82 rfl (lv_at hl 3 rfl) ?_
          refine lv_bipush (v := 18) hx hb dX12_hourGoes_83 (by decide) ?_
          refine va_iald hx hb hK hP 3 0 rfl rfl (show ¬ ((18 : Int32) < 0 ∨ 19 ≤ (18 : Int32).toNatClampNeg) by decide) dX12_hourGoes_85 ?_
          refine lv_aload_n hx hb dX12_hourGoes_86 rfl (lv_at hl 2 rfl) ?_
          refine va_get (D := (dC, dI)) (ci := 12) (v := .ref q_went) (C := RX12) (T := TX12) (N := 25) hx hb hts hiX12 hown hK hP 0 rfl rfl 22 (by decide) hk45 (fun _ h9 => h9) rfl dX12_hourGoes_87 ?_
          refine lv_iload_n hx hb dX12_hourGoes_90 rfl (lv_at hl 1 rfl) ?_
          refine va_iald hx hb hK hP 2 0 rfl rfl c7 dX12_hourGoes_91 ?_
          refine lv_iadd hx hb dX12_hourGoes_92 ?_
          refine lv_ldc hx hb hown hk128 dX12_hourGoes_93 ?_
          obtain ⟨y95, hc95, hrun⟩ := oz_bind hrun
          have hPc := hP.sub (ws' := []) [] rfl
          have hDc := hD.sub (ws' := []) [] (by decide) rfl
          have hFc := va_free (wc := []) hD hS hA [] rfl
          refine va_calli (va_runS (As := [.int (((upd w40.2 (Int32.toNatClampNeg (0 + w40.1)) ((w40.2 (Int32.toNatClampNeg (0 + w40.1))) - (o2.2 (Int32.toNatClampNeg w40.1)))) (Int32.toNatClampNeg 18)) + (o2.2 (Int32.toNatClampNeg w40.1))), .int 9999999]) (rest := [.int 18, .ref q_p1]) ⟨hx, hb, hml, hown, hts⟩ (tX12_lesser l dC dI cI cZ H.size (((upd w40.2 (Int32.toNatClampNeg (0 + w40.1)) ((w40.2 (Int32.toNatClampNeg (0 + w40.1))) - (o2.2 (Int32.toNatClampNeg w40.1)))) (Int32.toNatClampNeg 18)) + (o2.2 (Int32.toNatClampNeg w40.1))) 9999999 y95 hc95) (va_cwS 2 hts gX12_hourGoes_X12_lesser rfl rfl rfl (by decide +kernel) ⟨Nat.le_of_ble_eq_true rfl, Nat.le_of_ble_eq_true rfl⟩) ⟨fun a U g mk q => by obtain ⟨q0, q1, qP, qK, qD⟩ := q; exact ⟨q0, q1, qP, va_K.moved (u := U) (U := U.calling g mk a) (Vm.Alike.refl U.vm) qK, qD⟩, fun U hU hW => ⟨rfl, by rw [hU], by rw [hU]; exact hPc, va_K.moved hW.alike hK, hDc.weaken (fun _ _ _ _ => trivial)⟩⟩ rfl rfl hl.1 rfl (lv_room (Nat.le_of_ble_eq_true rfl)) dX12_hourGoes_95 ⟨Nat.le_of_ble_eq_true rfl, Nat.le_of_ble_eq_true rfl⟩) hS (fun q _ h => hFc q h) hFc (fun r95 u9 t9 H1 locs ht9 hvm9 hw9 hB9 hz9 hkk9 hS => ?_)
          have hw9 : y95 = r95 := hw9.symm
          subst hw9
          obtain ⟨hP9, hK9, hD9⟩ := hB9
          rw [ht9] at hP9
          obtain ⟨hP, hD⟩ := va_join (wr := [(q_this, .inr (12, [.ref q_town, .ref q_read, .ref q_now, .ref q_aside, .ref q_past, .int v_undos, .ref q_images, .ref q_kept, .long v_seed, .ref q_text, .int v_size, .int v_fault, .ref q_sights, .int v_sightMany, .ref q_book, .int v_bookMany, .int v_at, .int v_begin, .int v_sign, .int v_figures, .int v_value, .int v_wrong, .ref q_went, .ref q_free, .ref q_stands])), (q_town, .inl (cI, 27, .inl v_town)), (q_went, .inl (cI, 8, .inl o2.2)), (q_p1, .inl (cI, 19, .inl (upd w40.2 (Int32.toNatClampNeg (0 + w40.1)) ((w40.2 (Int32.toNatClampNeg (0 + w40.1))) - (o2.2 (Int32.toNatClampNeg w40.1))))))]) (w1 := []) hP hD [] [0, 1, 2, 3] rfl rfl (by decide) (by decide) hkk9 hFc hP9 hD9
          generalize H1 = H at hP hS ⊢
          have hP : va_P (dC, dI) vwCl [(q_this, .inr (12, [.ref q_town, .ref q_read, .ref q_now, .ref q_aside, .ref q_past, .int v_undos, .ref q_images, .ref q_kept, .long v_seed, .ref q_text, .int v_size, .int v_fault, .ref q_sights, .int v_sightMany, .ref q_book, .int v_bookMany, .int v_at, .int v_begin, .int v_sign, .int v_figures, .int v_value, .int v_wrong, .ref q_went, .ref q_free, .ref q_stands])), (q_town, .inl (cI, 27, .inl v_town)), (q_went, .inl (cI, 8, .inl o2.2)), (q_p1, .inl (cI, 19, .inl (upd w40.2 (Int32.toNatClampNeg (0 + w40.1)) ((w40.2 (Int32.toNatClampNeg (0 + w40.1))) - (o2.2 (Int32.toNatClampNeg w40.1))))))] H := hP
          have hD : va_D A [(q_this, .inr (12, [.ref q_town, .ref q_read, .ref q_now, .ref q_aside, .ref q_past, .int v_undos, .ref q_images, .ref q_kept, .long v_seed, .ref q_text, .int v_size, .int v_fault, .ref q_sights, .int v_sightMany, .ref q_book, .int v_bookMany, .int v_at, .int v_begin, .int v_sign, .int v_figures, .int v_value, .int v_wrong, .ref q_went, .ref q_free, .ref q_stands])), (q_town, .inl (cI, 27, .inl v_town)), (q_went, .inl (cI, 8, .inl o2.2)), (q_p1, .inl (cI, 19, .inl (upd w40.2 (Int32.toNatClampNeg (0 + w40.1)) ((w40.2 (Int32.toNatClampNeg (0 + w40.1))) - (o2.2 (Int32.toNatClampNeg w40.1))))))] := hD
          refine va_iast hx hb hK hP hD hS 3 0 rfl rfl (show ¬ ((18 : Int32) < 0 ∨ 19 ≤ (18 : Int32).toNatClampNeg) by decide) dX12_hourGoes_98 (fun H locs hP hD hS => ?_)
          have hP : va_P (dC, dI) vwCl [(q_this, .inr (12, [.ref q_town, .ref q_read, .ref q_now, .ref q_aside, .ref q_past, .int v_undos, .ref q_images, .ref q_kept, .long v_seed, .ref q_text, .int v_size, .int v_fault, .ref q_sights, .int v_sightMany, .ref q_book, .int v_bookMany, .int v_at, .int v_begin, .int v_sign, .int v_figures, .int v_value, .int v_wrong, .ref q_went, .ref q_free, .ref q_stands])), (q_town, .inl (cI, 27, .inl v_town)), (q_went, .inl (cI, 8, .inl o2.2)), (q_p1, .inl (cI, 19, .inl (upd (upd w40.2 (Int32.toNatClampNeg (0 + w40.1)) ((w40.2 (Int32.toNatClampNeg (0 + w40.1))) - (o2.2 (Int32.toNatClampNeg w40.1)))) (Int32.toNatClampNeg 18) y95)))] H := hP
          have hD : va_D A [(q_this, .inr (12, [.ref q_town, .ref q_read, .ref q_now, .ref q_aside, .ref q_past, .int v_undos, .ref q_images, .ref q_kept, .long v_seed, .ref q_text, .int v_size, .int v_fault, .ref q_sights, .int v_sightMany, .ref q_book, .int v_bookMany, .int v_at, .int v_begin, .int v_sign, .int v_figures, .int v_value, .int v_wrong, .ref q_went, .ref q_free, .ref q_stands])), (q_town, .inl (cI, 27, .inl v_town)), (q_went, .inl (cI, 8, .inl o2.2)), (q_p1, .inl (cI, 19, .inl (upd (upd w40.2 (Int32.toNatClampNeg (0 + w40.1)) ((w40.2 (Int32.toNatClampNeg (0 + w40.1))) - (o2.2 (Int32.toNatClampNeg w40.1)))) (Int32.toNatClampNeg 18) y95)))] := hD
          refine lv_goto (tgt := 116) hx hb dX12_hourGoes_99 (by decide) ?_
          refine lv_iinc (v := (w40.1 + 1)) (lv' := [(2, .int (w40.1 + 1)), (3, .int (v_town (Int32.toNatClampNeg (19 + w40.1)))), (0, .ref q_this), (1, .ref q_p1)]) hx hb dX12_hourGoes_116 hl (k := 1) rfl rfl (by decide) rfl (fun ls hl => ?_)
          refine lv_goto (tgt := 40) hx hb dX12_hourGoes_119 (by decide) ?_
          have hr9 := Option.some.inj hrun
          subst hr9
          exact ih ((w40.1 + 1), (upd (upd w40.2 (Int32.toNatClampNeg (0 + w40.1)) ((w40.2 (Int32.toNatClampNeg (0 + w40.1))) - (o2.2 (Int32.toNatClampNeg w40.1)))) (Int32.toNatClampNeg 18) y95)) _ hnext hexit _ _ _ (hP.sub [0, 1, 2, 3] rfl) (hD.sub [0, 1, 2, 3] (by decide) rfl) hS (lv_sub hl [0, 2, 3] rfl)
  refine hL40 oz_fuel (0, v_p1) o40 hlp40 (fun H locs ls hP hD hS hl => ?_) _ _ _ (hP.sub [0, 1, 2, 3] rfl) (hD.sub [0, 1, 2, 3] (by decide) rfl) hS (lv_sub hl [0, 1, 2] rfl)
  have hP : va_P (dC, dI) vwCl [(q_this, .inr (12, [.ref q_town, .ref q_read, .ref q_now, .ref q_aside, .ref q_past, .int v_undos, .ref q_images, .ref q_kept, .long v_seed, .ref q_text, .int v_size, .int v_fault, .ref q_sights, .int v_sightMany, .ref q_book, .int v_bookMany, .int v_at, .int v_begin, .int v_sign, .int v_figures, .int v_value, .int v_wrong, .ref q_went, .ref q_free, .ref q_stands])), (q_town, .inl (cI, 27, .inl v_town)), (q_went, .inl (cI, 8, .inl o2.2)), (q_p1, .inl (cI, 19, .inl o40.2))] H := hP
  have hD : va_D A [(q_this, .inr (12, [.ref q_town, .ref q_read, .ref q_now, .ref q_aside, .ref q_past, .int v_undos, .ref q_images, .ref q_kept, .long v_seed, .ref q_text, .int v_size, .int v_fault, .ref q_sights, .int v_sightMany, .ref q_book, .int v_bookMany, .int v_at, .int v_begin, .int v_sign, .int v_figures, .int v_value, .int v_wrong, .ref q_went, .ref q_free, .ref q_stands])), (q_town, .inl (cI, 27, .inl v_town)), (q_went, .inl (cI, 8, .inl o2.2)), (q_p1, .inl (cI, 19, .inl o40.2))] := hD
  have hl : lv_has ls 4 [(2, .int o40.1), (0, .ref q_this), (1, .ref q_p1)] := hl
  refine lv_iconst (v := 0) hx hb dX12_hourGoes_122 (by decide) ?_
  refine lv_istore_n (lv' := [(2, .int 0), (0, .ref q_this), (1, .ref q_p1)]) hx hb dX12_hourGoes_123 rfl hl (by decide) rfl (fun ls hl => ?_)
  obtain ⟨o124, hlp124, hrun⟩ := oz_bind hrun
  have hL124 : ∀ (n : Nat) (w124 : Int32 × (Nat → Int32)) (o124 : Int32 × (Nat → Int32)), oz_loop (fX12_hourGoes_b124 v_town) n w124 = some o124 → (∀ (H : Heap) (locs : List Loc) (ls : Array Slot), va_P (dC, dI) vwCl [(q_this, .inr (12, [.ref q_town, .ref q_read, .ref q_now, .ref q_aside, .ref q_past, .int v_undos, .ref q_images, .ref q_kept, .long v_seed, .ref q_text, .int v_size, .int v_fault, .ref q_sights, .int v_sightMany, .ref q_book, .int v_bookMany, .int v_at, .int v_begin, .int v_sign, .int v_figures, .int v_value, .int v_wrong, .ref q_went, .ref q_free, .ref q_stands])), (q_town, .inl (cI, 27, .inl v_town)), (q_went, .inl (cI, 8, .inl o2.2)), (q_p1, .inl (cI, 19, .inl o124.2))] H → va_D A [(q_this, .inr (12, [.ref q_town, .ref q_read, .ref q_now, .ref q_aside, .ref q_past, .int v_undos, .ref q_images, .ref q_kept, .long v_seed, .ref q_text, .int v_size, .int v_fault, .ref q_sights, .int v_sightMany, .ref q_book, .int v_bookMany, .int v_at, .int v_begin, .int v_sign, .int v_figures, .int v_value, .int v_wrong, .ref q_went, .ref q_free, .ref q_stands])), (q_town, .inl (cI, 27, .inl v_town)), (q_went, .inl (cI, 8, .inl o2.2)), (q_p1, .inl (cI, 19, .inl o124.2))] → va_S A s.heap H locs → lv_has ls 4 [(2, .int o124.1), (0, .ref q_this), (1, .ref q_p1)] → W p l e (headSpec wsX12_hourGoes rmX12_hourGoes).room s m (([.ref q_this, .ref q_p1] : List Value).toArray) below meth c H locs 0 0 Q (F0 m 146 ls [])) → ∀ (H : Heap) (locs : List Loc) (ls : Array Slot), va_P (dC, dI) vwCl [(q_this, .inr (12, [.ref q_town, .ref q_read, .ref q_now, .ref q_aside, .ref q_past, .int v_undos, .ref q_images, .ref q_kept, .long v_seed, .ref q_text, .int v_size, .int v_fault, .ref q_sights, .int v_sightMany, .ref q_book, .int v_bookMany, .int v_at, .int v_begin, .int v_sign, .int v_figures, .int v_value, .int v_wrong, .ref q_went, .ref q_free, .ref q_stands])), (q_town, .inl (cI, 27, .inl v_town)), (q_went, .inl (cI, 8, .inl o2.2)), (q_p1, .inl (cI, 19, .inl w124.2))] H → va_D A [(q_this, .inr (12, [.ref q_town, .ref q_read, .ref q_now, .ref q_aside, .ref q_past, .int v_undos, .ref q_images, .ref q_kept, .long v_seed, .ref q_text, .int v_size, .int v_fault, .ref q_sights, .int v_sightMany, .ref q_book, .int v_bookMany, .int v_at, .int v_begin, .int v_sign, .int v_figures, .int v_value, .int v_wrong, .ref q_went, .ref q_free, .ref q_stands])), (q_town, .inl (cI, 27, .inl v_town)), (q_went, .inl (cI, 8, .inl o2.2)), (q_p1, .inl (cI, 19, .inl w124.2))] → va_S A s.heap H locs → lv_has ls 4 [(2, .int w124.1), (0, .ref q_this), (1, .ref q_p1)] → W p l e (headSpec wsX12_hourGoes rmX12_hourGoes).room s m (([.ref q_this, .ref q_p1] : List Value).toArray) below meth c H locs 0 0 Q (F0 m 124 ls []) := by
    intro n
    induction n with
    | zero => intro w124 o124 h9; exact (oz_zero h9).elim
    | succ n ih =>
      intro w124 o124 h9 hexit H locs ls hP hD hS hl
      obtain ⟨r9, hrun, hnext⟩ := oz_step h9
      unfold fX12_hourGoes_b124 at hrun
      refine lv_iload_n hx hb dX12_hourGoes_124 rfl (lv_at hl 0 rfl) ?_
      refine lv_aload_n hx hb dX12_hourGoes_125 rfl (lv_at hl 1 rfl) ?_
      refine va_get (D := (dC, dI)) (ci := 12) (v := .ref q_town) (C := RX12) (T := TX12) (N := 25) hx hb hts hiX12 hown hK hP 0 rfl rfl 0 (by decide) hk7 (fun _ h9 => h9) rfl dX12_hourGoes_126 ?_
      refine lv_iconst (v := 2) hx hb dX12_hourGoes_129 (by decide) ?_
      refine va_iald hx hb hK hP 1 0 rfl rfl (show ¬ ((2 : Int32) < 0 ∨ 27 ≤ (2 : Int32).toNatClampNeg) by decide) dX12_hourGoes_130 ?_
      refine lv_icmp_ge (tgt := 146) hx hb dX12_hourGoes_131 (by decide) (fun c10 => ?_) (fun c10 => ?_)
      · have hrun := oz_t hrun c10
        have hr9 := Option.some.inj hrun
        subst hr9
        have ho9 : (w124.1, w124.2) = o124 := hnext
        subst ho9
        exact hexit _ _ _ (hP.sub [0, 1, 2, 3] rfl) (hD.sub [0, 1, 2, 3] (by decide) rfl) hS (lv_sub hl [0, 1, 2] rfl)
      · have hrun := oz_f hrun c10
        refine lv_aload_n hx hb dX12_hourGoes_134 rfl (lv_at hl 1 rfl) ?_
        refine lv_aload_n hx hb dX12_hourGoes_135 rfl (lv_at hl 2 rfl) ?_
        refine lv_iload_n hx hb dX12_hourGoes_136 rfl (lv_at hl 0 rfl) ?_
        obtain ⟨y137, hc137, hrun⟩ := oz_bind hrun
        have hPc := hP.sub (ws' := [(q_this, .inr (12, [.ref q_town, .ref q_read, .ref q_now, .ref q_aside, .ref q_past, .int v_undos, .ref q_images, .ref q_kept, .long v_seed, .ref q_text, .int v_size, .int v_fault, .ref q_sights, .int v_sightMany, .ref q_book, .int v_bookMany, .int v_at, .int v_begin, .int v_sign, .int v_figures, .int v_value, .int v_wrong, .ref q_went, .ref q_free, .ref q_stands])), (q_town, .inl (cI, 27, .inl v_town)), (q_p1, .inl (cI, 19, .inl w124.2))]) [0, 1, 3] rfl
        have hDc := hD.sub (ws' := [(q_this, .inr (12, [.ref q_town, .ref q_read, .ref q_now, .ref q_aside, .ref q_past, .int v_undos, .ref q_images, .ref q_kept, .long v_seed, .ref q_text, .int v_size, .int v_fault, .ref q_sights, .int v_sightMany, .ref q_book, .int v_bookMany, .int v_at, .int v_begin, .int v_sign, .int v_figures, .int v_value, .int v_wrong, .ref q_went, .ref q_free, .ref q_stands])), (q_town, .inl (cI, 27, .inl v_town)), (q_p1, .inl (cI, 19, .inl w124.2))]) [0, 1, 3] (by decide) rfl
        have hFc := va_free (wc := [(q_this, .inr (12, [.ref q_town, .ref q_read, .ref q_now, .ref q_aside, .ref q_past, .int v_undos, .ref q_images, .ref q_kept, .long v_seed, .ref q_text, .int v_size, .int v_fault, .ref q_sights, .int v_sightMany, .ref q_book, .int v_bookMany, .int v_at, .int v_begin, .int v_sign, .int v_figures, .int v_value, .int v_wrong, .ref q_went, .ref q_free, .ref q_stands])), (q_town, .inl (cI, 27, .inl v_town)), (q_p1, .inl (cI, 19, .inl w124.2))]) hD hS hA [0, 1, 3] rfl
        refine va_callv (va_runV (As := [.ref q_p1, .int w124.1]) (rest := []) ⟨hx, hb, hml, hown, hts⟩ (tX12_spillsAt l dC dI cI cZ q_aside q_book q_free q_images q_kept q_now q_p1 q_past q_read q_sights q_stands q_text q_this q_town q_went H.size v_undos v_seed v_size v_fault v_sightMany v_bookMany v_at v_begin v_sign v_figures v_value v_wrong v_town w124.2 w124.1 y137 hc137) (cwV 2 hts gX12_hourGoes_X12_spillsAt rfl rfl rfl (by decide +kernel) ⟨Nat.le_of_ble_eq_true rfl, Nat.le_of_ble_eq_true rfl⟩) ⟨fun a U g mk q => by obtain ⟨q0, q1, qP, qK, qD⟩ := q; exact ⟨q0, q1, qP, va_K.moved (u := U) (U := U.calling g mk a) (Vm.Alike.refl U.vm) qK, qD⟩, va_recv hK hPc (ci := 12) (q0 := 0) rfl rfl, fun U hU hW => ⟨rfl, by rw [hU], by rw [hU]; exact hPc, va_K.moved hW.alike hK, hDc.weaken (fun _ _ _ _ => trivial)⟩⟩ rfl rfl hl.1 rfl (lv_room (Nat.le_of_ble_eq_true rfl)) dX12_hourGoes_137 ⟨Nat.le_of_ble_eq_true rfl, Nat.le_of_ble_eq_true rfl⟩) hS (fun q _ h => hFc q h) hFc (fun u9 t9 H1 locs ht9 hvm9 hw9 hB9 hz9 hkk9 hS => ?_)
        obtain ⟨hP9, hK9, hD9⟩ := hB9
        rw [ht9] at hP9
        obtain ⟨hP, hD⟩ := va_join (wr := [(q_went, .inl (cI, 8, .inl o2.2))]) (w1 := [(q_this, .inr (12, [.ref q_town, .ref q_read, .ref q_now, .ref q_aside, .ref q_past, .int v_undos, .ref q_images, .ref q_kept, .long v_seed, .ref q_text, .int v_size, .int v_fault, .ref q_sights, .int v_sightMany, .ref q_book, .int v_bookMany, .int v_at, .int v_begin, .int v_sign, .int v_figures, .int v_value, .int v_wrong, .ref q_went, .ref q_free, .ref q_stands])), (q_town, .inl (cI, 27, .inl v_town)), (q_p1, .inl (cI, 19, .inl y137))]) hP hD [0, 1, 3] [2] rfl rfl (by decide) (by decide) hkk9 hFc hP9 hD9
        generalize H1 = H at hP hS ⊢
        have hP : va_P (dC, dI) vwCl [(q_went, .inl (cI, 8, .inl o2.2)), (q_this, .inr (12, [.ref q_town, .ref q_read, .ref q_now, .ref q_aside, .ref q_past, .int v_undos, .ref q_images, .ref q_kept, .long v_seed, .ref q_text, .int v_size, .int v_fault, .ref q_sights, .int v_sightMany, .ref q_book, .int v_bookMany, .int v_at, .int v_begin, .int v_sign, .int v_figures, .int v_value, .int v_wrong, .ref q_went, .ref q_free, .ref q_stands])), (q_town, .inl (cI, 27, .inl v_town)), (q_p1, .inl (cI, 19, .inl y137))] H := hP
        have hD : va_D A [(q_went, .inl (cI, 8, .inl o2.2)), (q_this, .inr (12, [.ref q_town, .ref q_read, .ref q_now, .ref q_aside, .ref q_past, .int v_undos, .ref q_images, .ref q_kept, .long v_seed, .ref q_text, .int v_size, .int v_fault, .ref q_sights, .int v_sightMany, .ref q_book, .int v_bookMany, .int v_at, .int v_begin, .int v_sign, .int v_figures, .int v_value, .int v_wrong, .ref q_went, .ref q_free, .ref q_stands])), (q_town, .inl (cI, 27, .inl v_town)), (q_p1, .inl (cI, 19, .inl y137))] := hD
        refine lv_iinc (v := (w124.1 + 1)) (lv' := [(2, .int (w124.1 + 1)), (0, .ref q_this), (1, .ref q_p1)]) hx hb dX12_hourGoes_140 hl (k := 0) rfl rfl (by decide) rfl (fun ls hl => ?_)
        refine lv_goto (tgt := 124) hx hb dX12_hourGoes_143 (by decide) ?_
        have hr9 := Option.some.inj hrun
        subst hr9
        exact ih ((w124.1 + 1), y137) _ hnext hexit _ _ _ (hP.sub [1, 2, 0, 3] rfl) (hD.sub [1, 2, 0, 3] (by decide) rfl) hS (lv_sub hl [0, 1, 2] rfl)
  refine hL124 oz_fuel (0, o40.2) o124 hlp124 (fun H locs ls hP hD hS hl => ?_) _ _ _ (hP.sub [0, 1, 2, 3] rfl) (hD.sub [0, 1, 2, 3] (by decide) rfl) hS (lv_sub hl [0, 1, 2] rfl)
  have hP : va_P (dC, dI) vwCl [(q_this, .inr (12, [.ref q_town, .ref q_read, .ref q_now, .ref q_aside, .ref q_past, .int v_undos, .ref q_images, .ref q_kept, .long v_seed, .ref q_text, .int v_size, .int v_fault, .ref q_sights, .int v_sightMany, .ref q_book, .int v_bookMany, .int v_at, .int v_begin, .int v_sign, .int v_figures, .int v_value, .int v_wrong, .ref q_went, .ref q_free, .ref q_stands])), (q_town, .inl (cI, 27, .inl v_town)), (q_went, .inl (cI, 8, .inl o2.2)), (q_p1, .inl (cI, 19, .inl o124.2))] H := hP
  have hD : va_D A [(q_this, .inr (12, [.ref q_town, .ref q_read, .ref q_now, .ref q_aside, .ref q_past, .int v_undos, .ref q_images, .ref q_kept, .long v_seed, .ref q_text, .int v_size, .int v_fault, .ref q_sights, .int v_sightMany, .ref q_book, .int v_bookMany, .int v_at, .int v_begin, .int v_sign, .int v_figures, .int v_value, .int v_wrong, .ref q_went, .ref q_free, .ref q_stands])), (q_town, .inl (cI, 27, .inl v_town)), (q_went, .inl (cI, 8, .inl o2.2)), (q_p1, .inl (cI, 19, .inl o124.2))] := hD
  have hl : lv_has ls 4 [(2, .int o124.1), (0, .ref q_this), (1, .ref q_p1)] := hl
  have ho9 := Option.some.inj hrun
  subst ho9
  have hP9 := hP.sub (ws' := [(q_this, .inr (12, [.ref q_town, .ref q_read, .ref q_now, .ref q_aside, .ref q_past, .int v_undos, .ref q_images, .ref q_kept, .long v_seed, .ref q_text, .int v_size, .int v_fault, .ref q_sights, .int v_sightMany, .ref q_book, .int v_bookMany, .int v_at, .int v_begin, .int v_sign, .int v_figures, .int v_value, .int v_wrong, .ref q_went, .ref q_free, .ref q_stands])), (q_town, .inl (cI, 27, .inl v_town)), (q_went, .inl (cI, 8, .inl o2.2)), (q_p1, .inl (cI, 19, .inl o124.2))]) [0, 1, 2, 3] rfl
  have hD9 := hD.sub (ws' := [(q_this, .inr (12, [.ref q_town, .ref q_read, .ref q_now, .ref q_aside, .ref q_past, .int v_undos, .ref q_images, .ref q_kept, .long v_seed, .ref q_text, .int v_size, .int v_fault, .ref q_sights, .int v_sightMany, .ref q_book, .int v_bookMany, .int v_at, .int v_begin, .int v_sign, .int v_figures, .int v_value, .int v_wrong, .ref q_went, .ref q_free, .ref q_stands])), (q_town, .inl (cI, 27, .inl v_town)), (q_went, .inl (cI, 8, .inl o2.2)), (q_p1, .inl (cI, 19, .inl o124.2))]) [0, 1, 2, 3] (by decide) rfl
  rw [hQ]
  exact W.vret hx hb hr (fun t ht hW => ⟨⟨(), rfl, trivial, by rw [ht]; exact hP9, va_K.moved hW.alike hK, hD9⟩, hS.F ht⟩) hS.2.2 dX12_hourGoes_146
def fX12_keptOf_b4 (v_p0 : Nat → Int32) (w4 : Int32 × Int32) : Option ((Int32 × Int32) ⊕ (Int32 × Int32)) :=
  if 8 ≤ w4.1 then (some (.inr (w4.1, w4.2))) else (if ((0 + w4.1) < 0 ∨ 19 ≤ Int32.toNatClampNeg (0 + w4.1)) then none else some (.inl ((w4.1 + 1), (w4.2 + (v_p0 (Int32.toNatClampNeg (0 + w4.1)))))))
def fX12_keptOf (v_p0 : Nat → Int32) : Option (Int32) :=
  Option.bind (oz_loop (fX12_keptOf_b4 v_p0) oz_fuel (0, 0)) (fun o4 => some o4.2)
def rmX12_keptOf : Room := { frames := 0, cells := 0, slots := 0, locals := 0 }
set_option maxHeartbeats 4000000 in
set_option maxRecDepth 100000 in
theorem tX12_keptOf (l : Launch) (dC : Nat → ClassId) (dI : Nat → Nat → Nat) (cI cZ : ClassId) (q_p0 : Nat) (sz : Nat) (v_p0 : Nat → Int32) (out : Int32) (hrun : fX12_keptOf v_p0 = some out) : Met l yX12_keptOf wsX12_keptOf rmX12_keptOf (va_Pc [.ref q_p0] (fun U => U.heap.size = sz ∧ va_P (dC, dI) vwCl [(q_p0, .inl (cI, 19, .inl v_p0))] U.heap ∧ va_K (dC, dI) vwCl [(cI, .int), (cZ, .boolean)] U ∧ va_D (fun _ => True) [(q_p0, .inl (cI, 19, .inl v_p0))])) (va_Qi (fun (r : Int32) (_ : Unit) => r = out) (fun _ t => va_P (dC, dI) vwCl [(q_p0, .inl (cI, 19, .inl v_p0))] t.heap ∧ va_K (dC, dI) vwCl [(cI, .int), (cZ, .boolean)] t ∧ va_D (va_A [(q_p0, .inl (cI, 19, .inl v_p0))] sz) [(q_p0, .inl (cI, 19, .inl v_p0))]) (va_A [(q_p0, .inl (cI, 19, .inl v_p0))] sz)) 0 0 (va_A [(q_p0, .inl (cI, 19, .inl v_p0))] sz) := by
  refine Met.ofW (cc := cX12_keptOf) (maxL := 3) (ret := (some .int)) (by decide) rfl ?_
  intro p e s m args below meth c s₁ B hml hv
  obtain ⟨rfl, hsz, hP, hK, hD0⟩ := hv
  have hx := B.exec
  have hb := B.bytes
  have hr := B.returns
  have hts := atoms_spec (ws := wsX12_keptOf) B.pre
  have hown : s.vm.findClass RX12 = some m.cls := findClass_of_methodNamed B.named
  have hlocks := B.notSynchronized
  subst hsz
  have hD := hD0.self (sz := s.heap.size)
  generalize hAe : va_A [(q_p0, .inl (cI, 19, .inl v_p0))] s.heap.size = A at hD ⊢
  have hA : ∀ q : Nat, s.heap.size ≤ q → A q := fun q h => by rw [← hAe]; exact Or.inr h
  have hS : va_S A s.heap s.heap [] := va_S.rf
  have hl := lv_entry ([.ref q_p0]) (n := 3) (Nat.le_of_ble_eq_true rfl)
  rw [lg_entry_eq]
  generalize (lg_sl ([.ref q_p0]) ++ List.replicate (3 - (lg_sl ([.ref q_p0])).length) Slot.unset).toArray = ls at hl ⊢
  have hl : lv_has ls 3 [(0, .ref q_p0)] := hl
  unfold fX12_keptOf at hrun
  refine oz_genQ (fun Q hQ => ?_)
  refine lv_iconst (v := 0) hx hb dX12_keptOf_0 (by decide) ?_
  refine lv_istore_n (lv' := [(1, .int 0), (0, .ref q_p0)]) hx hb dX12_keptOf_1 rfl hl (by decide) rfl (fun ls hl => ?_)
  refine lv_iconst (v := 0) hx hb dX12_keptOf_2 (by decide) ?_
  refine lv_istore_n (lv' := [(2, .int 0), (1, .int 0), (0, .ref q_p0)]) hx hb dX12_keptOf_3 rfl hl (by decide) rfl (fun ls hl => ?_)
  obtain ⟨o4, hlp4, hrun⟩ := oz_bind hrun
  have hL4 : ∀ (n : Nat) (w4 : Int32 × Int32) (o4 : Int32 × Int32), oz_loop (fX12_keptOf_b4 v_p0) n w4 = some o4 → (∀ (H : Heap) (locs : List Loc) (ls : Array Slot), va_P (dC, dI) vwCl [(q_p0, .inl (cI, 19, .inl v_p0))] H → va_D A [(q_p0, .inl (cI, 19, .inl v_p0))] → va_S A s.heap H locs → lv_has ls 3 [(2, .int o4.1), (1, .int o4.2), (0, .ref q_p0)] → W p l e (headSpec wsX12_keptOf rmX12_keptOf).room s m (([.ref q_p0] : List Value).toArray) below meth c H locs 0 0 Q (F0 m 24 ls [])) → ∀ (H : Heap) (locs : List Loc) (ls : Array Slot), va_P (dC, dI) vwCl [(q_p0, .inl (cI, 19, .inl v_p0))] H → va_D A [(q_p0, .inl (cI, 19, .inl v_p0))] → va_S A s.heap H locs → lv_has ls 3 [(2, .int w4.1), (1, .int w4.2), (0, .ref q_p0)] → W p l e (headSpec wsX12_keptOf rmX12_keptOf).room s m (([.ref q_p0] : List Value).toArray) below meth c H locs 0 0 Q (F0 m 4 ls []) := by
    intro n
    induction n with
    | zero => intro w4 o4 h9; exact (oz_zero h9).elim
    | succ n ih =>
      intro w4 o4 h9 hexit H locs ls hP hD hS hl
      obtain ⟨r9, hrun, hnext⟩ := oz_step h9
      unfold fX12_keptOf_b4 at hrun
      refine lv_iload_n hx hb dX12_keptOf_4 rfl (lv_at hl 0 rfl) ?_
      refine lv_bipush (v := 8) hx hb dX12_keptOf_5 (by decide) ?_
      refine lv_icmp_ge (tgt := 24) hx hb dX12_keptOf_7 (by decide) (fun c1 => ?_) (fun c1 => ?_)
      · have hrun := oz_t hrun c1
        have hr9 := Option.some.inj hrun
        subst hr9
        have ho9 : (w4.1, w4.2) = o4 := hnext
        subst ho9
        exact hexit _ _ _ (hP.sub [0] rfl) (hD.sub [0] (by decide) rfl) hS (lv_sub hl [0, 1, 2] rfl)
      · have hrun := oz_f hrun c1
        refine lv_iload_n hx hb dX12_keptOf_10 rfl (lv_at hl 1 rfl) ?_
        refine lv_aload_n hx hb dX12_keptOf_11 rfl (lv_at hl 2 rfl) ?_
        refine lv_iconst (v := 0) hx hb dX12_keptOf_12 (by decide) ?_
        refine lv_iload_n hx hb dX12_keptOf_13 rfl (lv_at hl 0 rfl) ?_
        refine lv_iadd hx hb dX12_keptOf_14 ?_
        obtain ⟨c2, hrun⟩ := oz_chk hrun
        refine va_iald hx hb hK hP 0 0 rfl rfl c2 dX12_keptOf_15 ?_
        refine lv_iadd hx hb dX12_keptOf_16 ?_
        refine lv_istore_n (lv' := [(1, .int (w4.2 + (v_p0 (Int32.toNatClampNeg (0 + w4.1))))), (2, .int w4.1), (0, .ref q_p0)]) hx hb dX12_keptOf_17 rfl hl (by decide) rfl (fun ls hl => ?_)
        refine lv_iinc (v := (w4.1 + 1)) (lv' := [(2, .int (w4.1 + 1)), (1, .int (w4.2 + (v_p0 (Int32.toNatClampNeg (0 + w4.1))))), (0, .ref q_p0)]) hx hb dX12_keptOf_18 hl (k := 1) rfl rfl (by decide) rfl (fun ls hl => ?_)
        refine lv_goto (tgt := 4) hx hb dX12_keptOf_21 (by decide) ?_
        have hr9 := Option.some.inj hrun
        subst hr9
        exact ih ((w4.1 + 1), (w4.2 + (v_p0 (Int32.toNatClampNeg (0 + w4.1))))) _ hnext hexit _ _ _ (hP.sub [0] rfl) (hD.sub [0] (by decide) rfl) hS (lv_sub hl [0, 1, 2] rfl)
  refine hL4 oz_fuel (0, 0) o4 hlp4 (fun H locs ls hP hD hS hl => ?_) _ _ _ (hP.sub [0] rfl) (hD.sub [0] (by decide) rfl) hS (lv_sub hl [0, 1, 2] rfl)
  have hP : va_P (dC, dI) vwCl [(q_p0, .inl (cI, 19, .inl v_p0))] H := hP
  have hD : va_D A [(q_p0, .inl (cI, 19, .inl v_p0))] := hD
  have hl : lv_has ls 3 [(2, .int o4.1), (1, .int o4.2), (0, .ref q_p0)] := hl
  refine lv_iload_n hx hb dX12_keptOf_24 rfl (lv_at hl 1 rfl) ?_
  have ho9 := Option.some.inj hrun
  subst ho9
  have hP9 := hP.sub (ws' := [(q_p0, .inl (cI, 19, .inl v_p0))]) [0] rfl
  have hD9 := hD.sub (ws' := [(q_p0, .inl (cI, 19, .inl v_p0))]) [0] (by decide) rfl
  rw [hQ]
  exact W.iret (v := o4.2) hx hb hr (fun t ht hW => ⟨⟨o4.2, (), rfl, rfl, by rw [ht]; exact hP9, va_K.moved hW.alike hK, hD9⟩, hS.F ht⟩) hS.2.2 dX12_keptOf_25
def fX12_awayOnes_b4 (v_now : Nat → Int32) (w4 : Int32 × Int32) : Option ((Int32 × Int32) ⊕ (Int32 × Int32)) :=
  if 8 ≤ w4.1 then (some (.inr (w4.1, w4.2))) else (if ((8 + w4.1) < 0 ∨ 19 ≤ Int32.toNatClampNeg (8 + w4.1)) then none else if (v_now (Int32.toNatClampNeg (8 + w4.1))) ≤ 0 then (some (.inl ((w4.1 + 1), (w4.2 ||| 0)))) else (some (.inl ((w4.1 + 1), (w4.2 ||| (1 <<< (w4.1 &&& 31)))))))
def fX12_awayOnes (v_now : Nat → Int32) : Option (Int32) :=
  Option.bind (oz_loop (fX12_awayOnes_b4 v_now) oz_fuel (0, 0)) (fun o4 => some o4.2)
def rmX12_awayOnes : Room := { frames := 0, cells := 0, slots := 0, locals := 0 }
set_option maxHeartbeats 4000000 in
set_option maxRecDepth 100000 in
theorem tX12_awayOnes (l : Launch) (dC : Nat → ClassId) (dI : Nat → Nat → Nat) (cI cZ : ClassId) (q_aside q_book q_free q_images q_kept q_now q_past q_read q_sights q_stands q_text q_this q_town q_went : Nat) (sz : Nat) (v_undos : Int32) (v_seed : Int64) (v_size : Int32) (v_fault : Int32) (v_sightMany : Int32) (v_bookMany : Int32) (v_at : Int32) (v_begin : Int32) (v_sign : Int32) (v_figures : Int32) (v_value : Int32) (v_wrong : Int32) (v_now : Nat → Int32) (out : Int32) (hrun : fX12_awayOnes v_now = some out) : Met l yX12_awayOnes wsX12_awayOnes rmX12_awayOnes (va_Pc [.ref q_this] (fun U => U.heap.size = sz ∧ va_P (dC, dI) vwCl [(q_this, .inr (12, [.ref q_town, .ref q_read, .ref q_now, .ref q_aside, .ref q_past, .int v_undos, .ref q_images, .ref q_kept, .long v_seed, .ref q_text, .int v_size, .int v_fault, .ref q_sights, .int v_sightMany, .ref q_book, .int v_bookMany, .int v_at, .int v_begin, .int v_sign, .int v_figures, .int v_value, .int v_wrong, .ref q_went, .ref q_free, .ref q_stands])), (q_now, .inl (cI, 19, .inl v_now))] U.heap ∧ va_K (dC, dI) vwCl [(cI, .int), (cZ, .boolean)] U ∧ va_D (fun _ => True) [(q_this, .inr (12, [.ref q_town, .ref q_read, .ref q_now, .ref q_aside, .ref q_past, .int v_undos, .ref q_images, .ref q_kept, .long v_seed, .ref q_text, .int v_size, .int v_fault, .ref q_sights, .int v_sightMany, .ref q_book, .int v_bookMany, .int v_at, .int v_begin, .int v_sign, .int v_figures, .int v_value, .int v_wrong, .ref q_went, .ref q_free, .ref q_stands])), (q_now, .inl (cI, 19, .inl v_now))])) (va_Qi (fun (r : Int32) (_ : Unit) => r = out) (fun _ t => va_P (dC, dI) vwCl [(q_this, .inr (12, [.ref q_town, .ref q_read, .ref q_now, .ref q_aside, .ref q_past, .int v_undos, .ref q_images, .ref q_kept, .long v_seed, .ref q_text, .int v_size, .int v_fault, .ref q_sights, .int v_sightMany, .ref q_book, .int v_bookMany, .int v_at, .int v_begin, .int v_sign, .int v_figures, .int v_value, .int v_wrong, .ref q_went, .ref q_free, .ref q_stands])), (q_now, .inl (cI, 19, .inl v_now))] t.heap ∧ va_K (dC, dI) vwCl [(cI, .int), (cZ, .boolean)] t ∧ va_D (va_A [(q_this, .inr (12, [.ref q_town, .ref q_read, .ref q_now, .ref q_aside, .ref q_past, .int v_undos, .ref q_images, .ref q_kept, .long v_seed, .ref q_text, .int v_size, .int v_fault, .ref q_sights, .int v_sightMany, .ref q_book, .int v_bookMany, .int v_at, .int v_begin, .int v_sign, .int v_figures, .int v_value, .int v_wrong, .ref q_went, .ref q_free, .ref q_stands])), (q_now, .inl (cI, 19, .inl v_now))] sz) [(q_this, .inr (12, [.ref q_town, .ref q_read, .ref q_now, .ref q_aside, .ref q_past, .int v_undos, .ref q_images, .ref q_kept, .long v_seed, .ref q_text, .int v_size, .int v_fault, .ref q_sights, .int v_sightMany, .ref q_book, .int v_bookMany, .int v_at, .int v_begin, .int v_sign, .int v_figures, .int v_value, .int v_wrong, .ref q_went, .ref q_free, .ref q_stands])), (q_now, .inl (cI, 19, .inl v_now))]) (va_A [(q_this, .inr (12, [.ref q_town, .ref q_read, .ref q_now, .ref q_aside, .ref q_past, .int v_undos, .ref q_images, .ref q_kept, .long v_seed, .ref q_text, .int v_size, .int v_fault, .ref q_sights, .int v_sightMany, .ref q_book, .int v_bookMany, .int v_at, .int v_begin, .int v_sign, .int v_figures, .int v_value, .int v_wrong, .ref q_went, .ref q_free, .ref q_stands])), (q_now, .inl (cI, 19, .inl v_now))] sz)) 0 0 (va_A [(q_this, .inr (12, [.ref q_town, .ref q_read, .ref q_now, .ref q_aside, .ref q_past, .int v_undos, .ref q_images, .ref q_kept, .long v_seed, .ref q_text, .int v_size, .int v_fault, .ref q_sights, .int v_sightMany, .ref q_book, .int v_bookMany, .int v_at, .int v_begin, .int v_sign, .int v_figures, .int v_value, .int v_wrong, .ref q_went, .ref q_free, .ref q_stands])), (q_now, .inl (cI, 19, .inl v_now))] sz) := by
  refine Met.ofW (cc := cX12_awayOnes) (maxL := 3) (ret := (some .int)) (by decide) rfl ?_
  intro p e s m args below meth c s₁ B hml hv
  obtain ⟨rfl, hsz, hP, hK, hD0⟩ := hv
  have hx := B.exec
  have hb := B.bytes
  have hr := B.returns
  have hts := atoms_spec (ws := wsX12_awayOnes) B.pre
  have hown : s.vm.findClass RX12 = some m.cls := findClass_of_methodNamed B.named
  have hlocks := B.notSynchronized
  subst hsz
  have hD := hD0.self (sz := s.heap.size)
  generalize hAe : va_A [(q_this, .inr (12, [.ref q_town, .ref q_read, .ref q_now, .ref q_aside, .ref q_past, .int v_undos, .ref q_images, .ref q_kept, .long v_seed, .ref q_text, .int v_size, .int v_fault, .ref q_sights, .int v_sightMany, .ref q_book, .int v_bookMany, .int v_at, .int v_begin, .int v_sign, .int v_figures, .int v_value, .int v_wrong, .ref q_went, .ref q_free, .ref q_stands])), (q_now, .inl (cI, 19, .inl v_now))] s.heap.size = A at hD ⊢
  have hA : ∀ q : Nat, s.heap.size ≤ q → A q := fun q h => by rw [← hAe]; exact Or.inr h
  have hS : va_S A s.heap s.heap [] := va_S.rf
  have hl := lv_entry ([.ref q_this]) (n := 3) (Nat.le_of_ble_eq_true rfl)
  rw [lg_entry_eq]
  generalize (lg_sl ([.ref q_this]) ++ List.replicate (3 - (lg_sl ([.ref q_this])).length) Slot.unset).toArray = ls at hl ⊢
  have hl : lv_has ls 3 [(0, .ref q_this)] := hl
  unfold fX12_awayOnes at hrun
  have hk16 := hts (.fieldLink RX12 16 "LentDrainsModel" "now" "[I") (by decide +kernel)
  have hiX12 : ∀ w ∈ wsX120, w ∈ wsX12_awayOnes := by decide +kernel
  refine oz_genQ (fun Q hQ => ?_)
  refine lv_iconst (v := 0) hx hb dX12_awayOnes_0 (by decide) ?_
  refine lv_istore_n (lv' := [(1, .int 0), (0, .ref q_this)]) hx hb dX12_awayOnes_1 rfl hl (by decide) rfl (fun ls hl => ?_)
  refine lv_iconst (v := 0) hx hb dX12_awayOnes_2 (by decide) ?_
  refine lv_istore_n (lv' := [(2, .int 0), (1, .int 0), (0, .ref q_this)]) hx hb dX12_awayOnes_3 rfl hl (by decide) rfl (fun ls hl => ?_)
  obtain ⟨o4, hlp4, hrun⟩ := oz_bind hrun
  have hL4 : ∀ (n : Nat) (w4 : Int32 × Int32) (o4 : Int32 × Int32), oz_loop (fX12_awayOnes_b4 v_now) n w4 = some o4 → (∀ (H : Heap) (locs : List Loc) (ls : Array Slot), va_P (dC, dI) vwCl [(q_this, .inr (12, [.ref q_town, .ref q_read, .ref q_now, .ref q_aside, .ref q_past, .int v_undos, .ref q_images, .ref q_kept, .long v_seed, .ref q_text, .int v_size, .int v_fault, .ref q_sights, .int v_sightMany, .ref q_book, .int v_bookMany, .int v_at, .int v_begin, .int v_sign, .int v_figures, .int v_value, .int v_wrong, .ref q_went, .ref q_free, .ref q_stands])), (q_now, .inl (cI, 19, .inl v_now))] H → va_D A [(q_this, .inr (12, [.ref q_town, .ref q_read, .ref q_now, .ref q_aside, .ref q_past, .int v_undos, .ref q_images, .ref q_kept, .long v_seed, .ref q_text, .int v_size, .int v_fault, .ref q_sights, .int v_sightMany, .ref q_book, .int v_bookMany, .int v_at, .int v_begin, .int v_sign, .int v_figures, .int v_value, .int v_wrong, .ref q_went, .ref q_free, .ref q_stands])), (q_now, .inl (cI, 19, .inl v_now))] → va_S A s.heap H locs → lv_has ls 3 [(2, .int o4.1), (1, .int o4.2), (0, .ref q_this)] → W p l e (headSpec wsX12_awayOnes rmX12_awayOnes).room s m (([.ref q_this] : List Value).toArray) below meth c H locs 0 0 Q (F0 m 38 ls [])) → ∀ (H : Heap) (locs : List Loc) (ls : Array Slot), va_P (dC, dI) vwCl [(q_this, .inr (12, [.ref q_town, .ref q_read, .ref q_now, .ref q_aside, .ref q_past, .int v_undos, .ref q_images, .ref q_kept, .long v_seed, .ref q_text, .int v_size, .int v_fault, .ref q_sights, .int v_sightMany, .ref q_book, .int v_bookMany, .int v_at, .int v_begin, .int v_sign, .int v_figures, .int v_value, .int v_wrong, .ref q_went, .ref q_free, .ref q_stands])), (q_now, .inl (cI, 19, .inl v_now))] H → va_D A [(q_this, .inr (12, [.ref q_town, .ref q_read, .ref q_now, .ref q_aside, .ref q_past, .int v_undos, .ref q_images, .ref q_kept, .long v_seed, .ref q_text, .int v_size, .int v_fault, .ref q_sights, .int v_sightMany, .ref q_book, .int v_bookMany, .int v_at, .int v_begin, .int v_sign, .int v_figures, .int v_value, .int v_wrong, .ref q_went, .ref q_free, .ref q_stands])), (q_now, .inl (cI, 19, .inl v_now))] → va_S A s.heap H locs → lv_has ls 3 [(2, .int w4.1), (1, .int w4.2), (0, .ref q_this)] → W p l e (headSpec wsX12_awayOnes rmX12_awayOnes).room s m (([.ref q_this] : List Value).toArray) below meth c H locs 0 0 Q (F0 m 4 ls []) := by
    intro n
    induction n with
    | zero => intro w4 o4 h9; exact (oz_zero h9).elim
    | succ n ih =>
      intro w4 o4 h9 hexit H locs ls hP hD hS hl
      obtain ⟨r9, hrun, hnext⟩ := oz_step h9
      unfold fX12_awayOnes_b4 at hrun
      refine lv_iload_n hx hb dX12_awayOnes_4 rfl (lv_at hl 0 rfl) ?_
      refine lv_bipush (v := 8) hx hb dX12_awayOnes_5 (by decide) ?_
      refine lv_icmp_ge (tgt := 38) hx hb dX12_awayOnes_7 (by decide) (fun c1 => ?_) (fun c1 => ?_)
      · have hrun := oz_t hrun c1
        have hr9 := Option.some.inj hrun
        subst hr9
        have ho9 : (w4.1, w4.2) = o4 := hnext
        subst ho9
        exact hexit _ _ _ (hP.sub [0, 1] rfl) (hD.sub [0, 1] (by decide) rfl) hS (lv_sub hl [0, 1, 2] rfl)
      · have hrun := oz_f hrun c1
        refine lv_iload_n hx hb dX12_awayOnes_10 rfl (lv_at hl 1 rfl) ?_
        refine lv_aload_n hx hb dX12_awayOnes_11 rfl (lv_at hl 2 rfl) ?_
        refine va_get (D := (dC, dI)) (ci := 12) (v := .ref q_now) (C := RX12) (T := TX12) (N := 25) hx hb hts hiX12 hown hK hP 0 rfl rfl 2 (by decide) hk16 (fun _ h9 => h9) rfl dX12_awayOnes_12 ?_
        refine lv_bipush (v := 8) hx hb dX12_awayOnes_15 (by decide) ?_
        refine lv_iload_n hx hb dX12_awayOnes_17 rfl (lv_at hl 0 rfl) ?_
        refine lv_iadd hx hb dX12_awayOnes_18 ?_
        obtain ⟨c2, hrun⟩ := oz_chk hrun
        refine va_iald hx hb hK hP 1 0 rfl rfl c2 dX12_awayOnes_19 ?_
        refine lv_if_le (tgt := 29) hx hb dX12_awayOnes_20 (by decide) (fun c3 => ?_) (fun c3 => ?_)
        · have hrun := oz_t hrun c3
          refine lv_iconst (v := 0) hx hb dX12_awayOnes_29 (by decide) ?_
          refine lv_ior hx hb dX12_awayOnes_30 ?_
          refine lv_istore_n (lv' := [(1, .int (w4.2 ||| 0)), (2, .int w4.1), (0, .ref q_this)]) hx hb dX12_awayOnes_31 rfl hl (by decide) rfl (fun ls hl => ?_)
          refine lv_iinc (v := (w4.1 + 1)) (lv' := [(2, .int (w4.1 + 1)), (1, .int (w4.2 ||| 0)), (0, .ref q_this)]) hx hb dX12_awayOnes_32 hl (k := 1) rfl rfl (by decide) rfl (fun ls hl => ?_)
          refine lv_goto (tgt := 4) hx hb dX12_awayOnes_35 (by decide) ?_
          have hr9 := Option.some.inj hrun
          subst hr9
          exact ih ((w4.1 + 1), (w4.2 ||| 0)) _ hnext hexit _ _ _ (hP.sub [0, 1] rfl) (hD.sub [0, 1] (by decide) rfl) hS (lv_sub hl [0, 1, 2] rfl)
        · have hrun := oz_f hrun c3
          refine lv_iconst (v := 1) hx hb dX12_awayOnes_23 (by decide) ?_
          refine lv_iload_n hx hb dX12_awayOnes_24 rfl (lv_at hl 0 rfl) ?_
          refine lv_ishl hx hb dX12_awayOnes_25 ?_
          refine lv_goto (tgt := 30) hx hb dX12_awayOnes_26 (by decide) ?_
          refine lv_ior hx hb dX12_awayOnes_30 ?_
          refine lv_istore_n (lv' := [(1, .int (w4.2 ||| (1 <<< (w4.1 &&& 31)))), (2, .int w4.1), (0, .ref q_this)]) hx hb dX12_awayOnes_31 rfl hl (by decide) rfl (fun ls hl => ?_)
          refine lv_iinc (v := (w4.1 + 1)) (lv' := [(2, .int (w4.1 + 1)), (1, .int (w4.2 ||| (1 <<< (w4.1 &&& 31)))), (0, .ref q_this)]) hx hb dX12_awayOnes_32 hl (k := 1) rfl rfl (by decide) rfl (fun ls hl => ?_)
          refine lv_goto (tgt := 4) hx hb dX12_awayOnes_35 (by decide) ?_
          have hr9 := Option.some.inj hrun
          subst hr9
          exact ih ((w4.1 + 1), (w4.2 ||| (1 <<< (w4.1 &&& 31)))) _ hnext hexit _ _ _ (hP.sub [0, 1] rfl) (hD.sub [0, 1] (by decide) rfl) hS (lv_sub hl [0, 1, 2] rfl)
  refine hL4 oz_fuel (0, 0) o4 hlp4 (fun H locs ls hP hD hS hl => ?_) _ _ _ (hP.sub [0, 1] rfl) (hD.sub [0, 1] (by decide) rfl) hS (lv_sub hl [0, 1, 2] rfl)
  have hP : va_P (dC, dI) vwCl [(q_this, .inr (12, [.ref q_town, .ref q_read, .ref q_now, .ref q_aside, .ref q_past, .int v_undos, .ref q_images, .ref q_kept, .long v_seed, .ref q_text, .int v_size, .int v_fault, .ref q_sights, .int v_sightMany, .ref q_book, .int v_bookMany, .int v_at, .int v_begin, .int v_sign, .int v_figures, .int v_value, .int v_wrong, .ref q_went, .ref q_free, .ref q_stands])), (q_now, .inl (cI, 19, .inl v_now))] H := hP
  have hD : va_D A [(q_this, .inr (12, [.ref q_town, .ref q_read, .ref q_now, .ref q_aside, .ref q_past, .int v_undos, .ref q_images, .ref q_kept, .long v_seed, .ref q_text, .int v_size, .int v_fault, .ref q_sights, .int v_sightMany, .ref q_book, .int v_bookMany, .int v_at, .int v_begin, .int v_sign, .int v_figures, .int v_value, .int v_wrong, .ref q_went, .ref q_free, .ref q_stands])), (q_now, .inl (cI, 19, .inl v_now))] := hD
  have hl : lv_has ls 3 [(2, .int o4.1), (1, .int o4.2), (0, .ref q_this)] := hl
  refine lv_iload_n hx hb dX12_awayOnes_38 rfl (lv_at hl 1 rfl) ?_
  have ho9 := Option.some.inj hrun
  subst ho9
  have hP9 := hP.sub (ws' := [(q_this, .inr (12, [.ref q_town, .ref q_read, .ref q_now, .ref q_aside, .ref q_past, .int v_undos, .ref q_images, .ref q_kept, .long v_seed, .ref q_text, .int v_size, .int v_fault, .ref q_sights, .int v_sightMany, .ref q_book, .int v_bookMany, .int v_at, .int v_begin, .int v_sign, .int v_figures, .int v_value, .int v_wrong, .ref q_went, .ref q_free, .ref q_stands])), (q_now, .inl (cI, 19, .inl v_now))]) [0, 1] rfl
  have hD9 := hD.sub (ws' := [(q_this, .inr (12, [.ref q_town, .ref q_read, .ref q_now, .ref q_aside, .ref q_past, .int v_undos, .ref q_images, .ref q_kept, .long v_seed, .ref q_text, .int v_size, .int v_fault, .ref q_sights, .int v_sightMany, .ref q_book, .int v_bookMany, .int v_at, .int v_begin, .int v_sign, .int v_figures, .int v_value, .int v_wrong, .ref q_went, .ref q_free, .ref q_stands])), (q_now, .inl (cI, 19, .inl v_now))]) [0, 1] (by decide) rfl
  rw [hQ]
  exact W.iret (v := o4.2) hx hb hr (fun t ht hW => ⟨⟨o4.2, (), rfl, rfl, by rw [ht]; exact hP9, va_K.moved hW.alike hK, hD9⟩, hS.F ht⟩) hS.2.2 dX12_awayOnes_39
def fX12_above_b17 (v_town : Nat → Int32) (a1 : Int32) (w4 : Int32 × Int32) (w17 : Int32 × Int32) : Option ((Int32 × Int32) ⊕ (Int32 × Int32)) :=
  if w17.1 = (-1) then (some (.inr (w17.1, w17.2))) else (if w17.1 = a1 then (if ((19 + w17.1) < 0 ∨ 27 ≤ Int32.toNatClampNeg (19 + w17.1)) then none else some (.inl ((v_town (Int32.toNatClampNeg (19 + w17.1))), (w17.2 ||| (1 <<< (w4.1 &&& 31)))))) else (if ((19 + w17.1) < 0 ∨ 27 ≤ Int32.toNatClampNeg (19 + w17.1)) then none else some (.inl ((v_town (Int32.toNatClampNeg (19 + w17.1))), (w17.2 ||| 0)))))
def fX12_above_b4 (v_town : Nat → Int32) (a1 : Int32) (w4 : Int32 × Int32) : Option ((Int32 × Int32) ⊕ (Int32 × Int32)) :=
  if (v_town (Int32.toNatClampNeg 2)) ≤ w4.1 then (some (.inr (w4.1, w4.2))) else (Option.bind (oz_loop (fX12_above_b17 v_town a1 w4) oz_fuel (w4.1, w4.2)) (fun o17 => some (.inl ((w4.1 + 1), o17.2))))
def fX12_above (v_town : Nat → Int32) (a1 : Int32) : Option (Int32) :=
  Option.bind (oz_loop (fX12_above_b4 v_town a1) oz_fuel (0, 0)) (fun o4 => some o4.2)
def rmX12_above : Room := { frames := 0, cells := 0, slots := 0, locals := 0 }
set_option maxHeartbeats 4000000 in
set_option maxRecDepth 100000 in
theorem tX12_above (l : Launch) (dC : Nat → ClassId) (dI : Nat → Nat → Nat) (cI cZ : ClassId) (q_aside q_book q_free q_images q_kept q_now q_past q_read q_sights q_stands q_text q_this q_town q_went : Nat) (sz : Nat) (v_undos : Int32) (v_seed : Int64) (v_size : Int32) (v_fault : Int32) (v_sightMany : Int32) (v_bookMany : Int32) (v_at : Int32) (v_begin : Int32) (v_sign : Int32) (v_figures : Int32) (v_value : Int32) (v_wrong : Int32) (v_town : Nat → Int32) (a1 : Int32) (out : Int32) (hrun : fX12_above v_town a1 = some out) : Met l yX12_above wsX12_above rmX12_above (va_Pc [.ref q_this, .int a1] (fun U => U.heap.size = sz ∧ va_P (dC, dI) vwCl [(q_this, .inr (12, [.ref q_town, .ref q_read, .ref q_now, .ref q_aside, .ref q_past, .int v_undos, .ref q_images, .ref q_kept, .long v_seed, .ref q_text, .int v_size, .int v_fault, .ref q_sights, .int v_sightMany, .ref q_book, .int v_bookMany, .int v_at, .int v_begin, .int v_sign, .int v_figures, .int v_value, .int v_wrong, .ref q_went, .ref q_free, .ref q_stands])), (q_town, .inl (cI, 27, .inl v_town))] U.heap ∧ va_K (dC, dI) vwCl [(cI, .int), (cZ, .boolean)] U ∧ va_D (fun _ => True) [(q_this, .inr (12, [.ref q_town, .ref q_read, .ref q_now, .ref q_aside, .ref q_past, .int v_undos, .ref q_images, .ref q_kept, .long v_seed, .ref q_text, .int v_size, .int v_fault, .ref q_sights, .int v_sightMany, .ref q_book, .int v_bookMany, .int v_at, .int v_begin, .int v_sign, .int v_figures, .int v_value, .int v_wrong, .ref q_went, .ref q_free, .ref q_stands])), (q_town, .inl (cI, 27, .inl v_town))])) (va_Qi (fun (r : Int32) (_ : Unit) => r = out) (fun _ t => va_P (dC, dI) vwCl [(q_this, .inr (12, [.ref q_town, .ref q_read, .ref q_now, .ref q_aside, .ref q_past, .int v_undos, .ref q_images, .ref q_kept, .long v_seed, .ref q_text, .int v_size, .int v_fault, .ref q_sights, .int v_sightMany, .ref q_book, .int v_bookMany, .int v_at, .int v_begin, .int v_sign, .int v_figures, .int v_value, .int v_wrong, .ref q_went, .ref q_free, .ref q_stands])), (q_town, .inl (cI, 27, .inl v_town))] t.heap ∧ va_K (dC, dI) vwCl [(cI, .int), (cZ, .boolean)] t ∧ va_D (va_A [(q_this, .inr (12, [.ref q_town, .ref q_read, .ref q_now, .ref q_aside, .ref q_past, .int v_undos, .ref q_images, .ref q_kept, .long v_seed, .ref q_text, .int v_size, .int v_fault, .ref q_sights, .int v_sightMany, .ref q_book, .int v_bookMany, .int v_at, .int v_begin, .int v_sign, .int v_figures, .int v_value, .int v_wrong, .ref q_went, .ref q_free, .ref q_stands])), (q_town, .inl (cI, 27, .inl v_town))] sz) [(q_this, .inr (12, [.ref q_town, .ref q_read, .ref q_now, .ref q_aside, .ref q_past, .int v_undos, .ref q_images, .ref q_kept, .long v_seed, .ref q_text, .int v_size, .int v_fault, .ref q_sights, .int v_sightMany, .ref q_book, .int v_bookMany, .int v_at, .int v_begin, .int v_sign, .int v_figures, .int v_value, .int v_wrong, .ref q_went, .ref q_free, .ref q_stands])), (q_town, .inl (cI, 27, .inl v_town))]) (va_A [(q_this, .inr (12, [.ref q_town, .ref q_read, .ref q_now, .ref q_aside, .ref q_past, .int v_undos, .ref q_images, .ref q_kept, .long v_seed, .ref q_text, .int v_size, .int v_fault, .ref q_sights, .int v_sightMany, .ref q_book, .int v_bookMany, .int v_at, .int v_begin, .int v_sign, .int v_figures, .int v_value, .int v_wrong, .ref q_went, .ref q_free, .ref q_stands])), (q_town, .inl (cI, 27, .inl v_town))] sz)) 0 0 (va_A [(q_this, .inr (12, [.ref q_town, .ref q_read, .ref q_now, .ref q_aside, .ref q_past, .int v_undos, .ref q_images, .ref q_kept, .long v_seed, .ref q_text, .int v_size, .int v_fault, .ref q_sights, .int v_sightMany, .ref q_book, .int v_bookMany, .int v_at, .int v_begin, .int v_sign, .int v_figures, .int v_value, .int v_wrong, .ref q_went, .ref q_free, .ref q_stands])), (q_town, .inl (cI, 27, .inl v_town))] sz) := by
  refine Met.ofW (cc := cX12_above) (maxL := 5) (ret := (some .int)) (by decide) rfl ?_
  intro p e s m args below meth c s₁ B hml hv
  obtain ⟨rfl, hsz, hP, hK, hD0⟩ := hv
  have hx := B.exec
  have hb := B.bytes
  have hr := B.returns
  have hts := atoms_spec (ws := wsX12_above) B.pre
  have hown : s.vm.findClass RX12 = some m.cls := findClass_of_methodNamed B.named
  have hlocks := B.notSynchronized
  subst hsz
  have hD := hD0.self (sz := s.heap.size)
  generalize hAe : va_A [(q_this, .inr (12, [.ref q_town, .ref q_read, .ref q_now, .ref q_aside, .ref q_past, .int v_undos, .ref q_images, .ref q_kept, .long v_seed, .ref q_text, .int v_size, .int v_fault, .ref q_sights, .int v_sightMany, .ref q_book, .int v_bookMany, .int v_at, .int v_begin, .int v_sign, .int v_figures, .int v_value, .int v_wrong, .ref q_went, .ref q_free, .ref q_stands])), (q_town, .inl (cI, 27, .inl v_town))] s.heap.size = A at hD ⊢
  have hA : ∀ q : Nat, s.heap.size ≤ q → A q := fun q h => by rw [← hAe]; exact Or.inr h
  have hS : va_S A s.heap s.heap [] := va_S.rf
  have hl := lv_entry ([.ref q_this, .int a1]) (n := 5) (Nat.le_of_ble_eq_true rfl)
  rw [lg_entry_eq]
  generalize (lg_sl ([.ref q_this, .int a1]) ++ List.replicate (5 - (lg_sl ([.ref q_this, .int a1])).length) Slot.unset).toArray = ls at hl ⊢
  have hl : lv_has ls 5 [(0, .ref q_this), (1, .int a1)] := hl
  unfold fX12_above at hrun
  have hk7 := hts (.fieldLink RX12 7 "LentDrainsModel" "town" "[I") (by decide +kernel)
  have hiX12 : ∀ w ∈ wsX120, w ∈ wsX12_above := by decide +kernel
  refine oz_genQ (fun Q hQ => ?_)
  refine lv_iconst (v := 0) hx hb dX12_above_0 (by decide) ?_
  refine lv_istore_n (lv' := [(2, .int 0), (0, .ref q_this), (1, .int a1)]) hx hb dX12_above_1 rfl hl (by decide) rfl (fun ls hl => ?_)
  refine lv_iconst (v := 0) hx hb dX12_above_2 (by decide) ?_
  refine lv_istore_n (lv' := [(3, .int 0), (2, .int 0), (0, .ref q_this), (1, .int a1)]) hx hb dX12_above_3 rfl hl (by decide) rfl (fun ls hl => ?_)
  obtain ⟨o4, hlp4, hrun⟩ := oz_bind hrun
  have hL4 : ∀ (n : Nat) (w4 : Int32 × Int32) (o4 : Int32 × Int32), oz_loop (fX12_above_b4 v_town a1) n w4 = some o4 → (∀ (H : Heap) (locs : List Loc) (ls : Array Slot), va_P (dC, dI) vwCl [(q_this, .inr (12, [.ref q_town, .ref q_read, .ref q_now, .ref q_aside, .ref q_past, .int v_undos, .ref q_images, .ref q_kept, .long v_seed, .ref q_text, .int v_size, .int v_fault, .ref q_sights, .int v_sightMany, .ref q_book, .int v_bookMany, .int v_at, .int v_begin, .int v_sign, .int v_figures, .int v_value, .int v_wrong, .ref q_went, .ref q_free, .ref q_stands])), (q_town, .inl (cI, 27, .inl v_town))] H → va_D A [(q_this, .inr (12, [.ref q_town, .ref q_read, .ref q_now, .ref q_aside, .ref q_past, .int v_undos, .ref q_images, .ref q_kept, .long v_seed, .ref q_text, .int v_size, .int v_fault, .ref q_sights, .int v_sightMany, .ref q_book, .int v_bookMany, .int v_at, .int v_begin, .int v_sign, .int v_figures, .int v_value, .int v_wrong, .ref q_went, .ref q_free, .ref q_stands])), (q_town, .inl (cI, 27, .inl v_town))] → va_S A s.heap H locs → lv_has ls 5 [(3, .int o4.1), (2, .int o4.2), (0, .ref q_this), (1, .int a1)] → W p l e (headSpec wsX12_above rmX12_above).room s m (([.ref q_this, .int a1] : List Value).toArray) below meth c H locs 0 0 Q (F0 m 60 ls [])) → ∀ (H : Heap) (locs : List Loc) (ls : Array Slot), va_P (dC, dI) vwCl [(q_this, .inr (12, [.ref q_town, .ref q_read, .ref q_now, .ref q_aside, .ref q_past, .int v_undos, .ref q_images, .ref q_kept, .long v_seed, .ref q_text, .int v_size, .int v_fault, .ref q_sights, .int v_sightMany, .ref q_book, .int v_bookMany, .int v_at, .int v_begin, .int v_sign, .int v_figures, .int v_value, .int v_wrong, .ref q_went, .ref q_free, .ref q_stands])), (q_town, .inl (cI, 27, .inl v_town))] H → va_D A [(q_this, .inr (12, [.ref q_town, .ref q_read, .ref q_now, .ref q_aside, .ref q_past, .int v_undos, .ref q_images, .ref q_kept, .long v_seed, .ref q_text, .int v_size, .int v_fault, .ref q_sights, .int v_sightMany, .ref q_book, .int v_bookMany, .int v_at, .int v_begin, .int v_sign, .int v_figures, .int v_value, .int v_wrong, .ref q_went, .ref q_free, .ref q_stands])), (q_town, .inl (cI, 27, .inl v_town))] → va_S A s.heap H locs → lv_has ls 5 [(3, .int w4.1), (2, .int w4.2), (0, .ref q_this), (1, .int a1)] → W p l e (headSpec wsX12_above rmX12_above).room s m (([.ref q_this, .int a1] : List Value).toArray) below meth c H locs 0 0 Q (F0 m 4 ls []) := by
    intro n
    induction n with
    | zero => intro w4 o4 h9; exact (oz_zero h9).elim
    | succ n ih =>
      intro w4 o4 h9 hexit H locs ls hP hD hS hl
      obtain ⟨r9, hrun, hnext⟩ := oz_step h9
      unfold fX12_above_b4 at hrun
      refine lv_iload_n hx hb dX12_above_4 rfl (lv_at hl 0 rfl) ?_
      refine lv_aload_n hx hb dX12_above_5 rfl (lv_at hl 2 rfl) ?_
      refine va_get (D := (dC, dI)) (ci := 12) (v := .ref q_town) (C := RX12) (T := TX12) (N := 25) hx hb hts hiX12 hown hK hP 0 rfl rfl 0 (by decide) hk7 (fun _ h9 => h9) rfl dX12_above_6 ?_
      refine lv_iconst (v := 2) hx hb dX12_above_9 (by decide) ?_
      refine va_iald hx hb hK hP 1 0 rfl rfl (show ¬ ((2 : Int32) < 0 ∨ 27 ≤ (2 : Int32).toNatClampNeg) by decide) dX12_above_10 ?_
      refine lv_icmp_ge (tgt := 60) hx hb dX12_above_11 (by decide) (fun c1 => ?_) (fun c1 => ?_)
      · have hrun := oz_t hrun c1
        have hr9 := Option.some.inj hrun
        subst hr9
        have ho9 : (w4.1, w4.2) = o4 := hnext
        subst ho9
        exact hexit _ _ _ (hP.sub [0, 1] rfl) (hD.sub [0, 1] (by decide) rfl) hS (lv_sub hl [0, 1, 2, 3] rfl)
      · have hrun := oz_f hrun c1
        refine lv_iload_n hx hb dX12_above_14 rfl (lv_at hl 0 rfl) ?_
        refine lv_istore (lv' := [(4, .int w4.1), (3, .int w4.1), (2, .int w4.2), (0, .ref q_this), (1, .int a1)]) hx hb dX12_above_15 hl (by decide) rfl (fun ls hl => ?_)
        obtain ⟨o17, hlp17, hrun⟩ := oz_bind hrun
        have hL17 : ∀ (n : Nat) (w17 : Int32 × Int32) (o17 : Int32 × Int32), oz_loop (fX12_above_b17 v_town a1 w4) n w17 = some o17 → (∀ (H : Heap) (locs : List Loc) (ls : Array Slot), va_P (dC, dI) vwCl [(q_this, .inr (12, [.ref q_town, .ref q_read, .ref q_now, .ref q_aside, .ref q_past, .int v_undos, .ref q_images, .ref q_kept, .long v_seed, .ref q_text, .int v_size, .int v_fault, .ref q_sights, .int v_sightMany, .ref q_book, .int v_bookMany, .int v_at, .int v_begin, .int v_sign, .int v_figures, .int v_value, .int v_wrong, .ref q_went, .ref q_free, .ref q_stands])), (q_town, .inl (cI, 27, .inl v_town))] H → va_D A [(q_this, .inr (12, [.ref q_town, .ref q_read, .ref q_now, .ref q_aside, .ref q_past, .int v_undos, .ref q_images, .ref q_kept, .long v_seed, .ref q_text, .int v_size, .int v_fault, .ref q_sights, .int v_sightMany, .ref q_book, .int v_bookMany, .int v_at, .int v_begin, .int v_sign, .int v_figures, .int v_value, .int v_wrong, .ref q_went, .ref q_free, .ref q_stands])), (q_town, .inl (cI, 27, .inl v_town))] → va_S A s.heap H locs → lv_has ls 5 [(4, .int o17.1), (3, .int w4.1), (2, .int o17.2), (0, .ref q_this), (1, .int a1)] → W p l e (headSpec wsX12_above rmX12_above).room s m (([.ref q_this, .int a1] : List Value).toArray) below meth c H locs 0 0 Q (F0 m 54 ls [])) → ∀ (H : Heap) (locs : List Loc) (ls : Array Slot), va_P (dC, dI) vwCl [(q_this, .inr (12, [.ref q_town, .ref q_read, .ref q_now, .ref q_aside, .ref q_past, .int v_undos, .ref q_images, .ref q_kept, .long v_seed, .ref q_text, .int v_size, .int v_fault, .ref q_sights, .int v_sightMany, .ref q_book, .int v_bookMany, .int v_at, .int v_begin, .int v_sign, .int v_figures, .int v_value, .int v_wrong, .ref q_went, .ref q_free, .ref q_stands])), (q_town, .inl (cI, 27, .inl v_town))] H → va_D A [(q_this, .inr (12, [.ref q_town, .ref q_read, .ref q_now, .ref q_aside, .ref q_past, .int v_undos, .ref q_images, .ref q_kept, .long v_seed, .ref q_text, .int v_size, .int v_fault, .ref q_sights, .int v_sightMany, .ref q_book, .int v_bookMany, .int v_at, .int v_begin, .int v_sign, .int v_figures, .int v_value, .int v_wrong, .ref q_went, .ref q_free, .ref q_stands])), (q_town, .inl (cI, 27, .inl v_town))] → va_S A s.heap H locs → lv_has ls 5 [(4, .int w17.1), (3, .int w4.1), (2, .int w17.2), (0, .ref q_this), (1, .int a1)] → W p l e (headSpec wsX12_above rmX12_above).room s m (([.ref q_this, .int a1] : List Value).toArray) below meth c H locs 0 0 Q (F0 m 17 ls []) := by
          intro n
          induction n with
          | zero => intro w17 o17 h9; exact (oz_zero h9).elim
          | succ n ih =>
            intro w17 o17 h9 hexit H locs ls hP hD hS hl
            obtain ⟨r9, hrun, hnext⟩ := oz_step h9
            unfold fX12_above_b17 at hrun
            refine lv_iload hx hb dX12_above_17 (lv_at hl 0 rfl) ?_
            refine lv_iconst (v := (-1)) hx hb dX12_above_19 (by decide) ?_
            refine lv_icmp_eq (tgt := 54) hx hb dX12_above_20 (by decide) (fun c2 => ?_) (fun c2 => ?_)
            · have hrun := oz_t hrun c2
              have hr9 := Option.some.inj hrun
              subst hr9
              have ho9 : (w17.1, w17.2) = o17 := hnext
              subst ho9
              exact hexit _ _ _ (hP.sub [0, 1] rfl) (hD.sub [0, 1] (by decide) rfl) hS (lv_sub hl [0, 1, 2, 3, 4] rfl)
            · have hrun := oz_f hrun c2
              refine lv_iload_n hx hb dX12_above_23 rfl (lv_at hl 2 rfl) ?_
              refine lv_iload hx hb dX12_above_24 (lv_at hl 0 rfl) ?_
              refine lv_iload_n hx hb dX12_above_26 rfl (lv_at hl 4 rfl) ?_
              refine lv_icmp_ne (tgt := 36) hx hb dX12_above_27 (by decide) (fun c3 => ?_) (fun c3 => ?_)
              · have hrun := oz_f hrun c3
                refine lv_iconst (v := 0) hx hb dX12_above_36 (by decide) ?_
                refine lv_ior hx hb dX12_above_37 ?_
                refine lv_istore_n (lv' := [(2, .int (w17.2 ||| 0)), (4, .int w17.1), (3, .int w4.1), (0, .ref q_this), (1, .int a1)]) hx hb dX12_above_38 rfl hl (by decide) rfl (fun ls hl => ?_)
                refine lv_aload_n hx hb dX12_above_39 rfl (lv_at hl 3 rfl) ?_
                refine va_get (D := (dC, dI)) (ci := 12) (v := .ref q_town) (C := RX12) (T := TX12) (N := 25) hx hb hts hiX12 hown hK hP 0 rfl rfl 0 (by decide) hk7 (fun _ h9 => h9) rfl dX12_above_40 ?_
                refine lv_bipush (v := 19) hx hb dX12_above_43 (by decide) ?_
                refine lv_iload hx hb dX12_above_45 (lv_at hl 1 rfl) ?_
                refine lv_iadd hx hb dX12_above_47 ?_
                obtain ⟨c4, hrun⟩ := oz_chk hrun
                refine va_iald hx hb hK hP 1 0 rfl rfl c4 dX12_above_48 ?_
                refine lv_istore (lv' := [(4, .int (v_town (Int32.toNatClampNeg (19 + w17.1)))), (2, .int (w17.2 ||| 0)), (3, .int w4.1), (0, .ref q_this), (1, .int a1)]) hx hb dX12_above_49 hl (by decide) rfl (fun ls hl => ?_)
                refine lv_goto (tgt := 17) hx hb dX12_above_51 (by decide) ?_
                have hr9 := Option.some.inj hrun
                subst hr9
                exact ih ((v_town (Int32.toNatClampNeg (19 + w17.1))), (w17.2 ||| 0)) _ hnext hexit _ _ _ (hP.sub [0, 1] rfl) (hD.sub [0, 1] (by decide) rfl) hS (lv_sub hl [0, 2, 1, 3, 4] rfl)
              · have hrun := oz_t hrun c3
                refine lv_iconst (v := 1) hx hb dX12_above_30 (by decide) ?_
                refine lv_iload_n hx hb dX12_above_31 rfl (lv_at hl 1 rfl) ?_
                refine lv_ishl hx hb dX12_above_32 ?_
                refine lv_goto (tgt := 37) hx hb dX12_above_33 (by decide) ?_
                refine lv_ior hx hb dX12_above_37 ?_
                refine lv_istore_n (lv' := [(2, .int (w17.2 ||| (1 <<< (w4.1 &&& 31)))), (4, .int w17.1), (3, .int w4.1), (0, .ref q_this), (1, .int a1)]) hx hb dX12_above_38 rfl hl (by decide) rfl (fun ls hl => ?_)
                refine lv_aload_n hx hb dX12_above_39 rfl (lv_at hl 3 rfl) ?_
                refine va_get (D := (dC, dI)) (ci := 12) (v := .ref q_town) (C := RX12) (T := TX12) (N := 25) hx hb hts hiX12 hown hK hP 0 rfl rfl 0 (by decide) hk7 (fun _ h9 => h9) rfl dX12_above_40 ?_
                refine lv_bipush (v := 19) hx hb dX12_above_43 (by decide) ?_
                refine lv_iload hx hb dX12_above_45 (lv_at hl 1 rfl) ?_
                refine lv_iadd hx hb dX12_above_47 ?_
                obtain ⟨c5, hrun⟩ := oz_chk hrun
                refine va_iald hx hb hK hP 1 0 rfl rfl c5 dX12_above_48 ?_
                refine lv_istore (lv' := [(4, .int (v_town (Int32.toNatClampNeg (19 + w17.1)))), (2, .int (w17.2 ||| (1 <<< (w4.1 &&& 31)))), (3, .int w4.1), (0, .ref q_this), (1, .int a1)]) hx hb dX12_above_49 hl (by decide) rfl (fun ls hl => ?_)
                refine lv_goto (tgt := 17) hx hb dX12_above_51 (by decide) ?_
                have hr9 := Option.some.inj hrun
                subst hr9
                exact ih ((v_town (Int32.toNatClampNeg (19 + w17.1))), (w17.2 ||| (1 <<< (w4.1 &&& 31)))) _ hnext hexit _ _ _ (hP.sub [0, 1] rfl) (hD.sub [0, 1] (by decide) rfl) hS (lv_sub hl [0, 2, 1, 3, 4] rfl)
        refine hL17 oz_fuel (w4.1, w4.2) o17 hlp17 (fun H locs ls hP hD hS hl => ?_) _ _ _ (hP.sub [0, 1] rfl) (hD.sub [0, 1] (by decide) rfl) hS (lv_sub hl [0, 1, 2, 3, 4] rfl)
        have hP : va_P (dC, dI) vwCl [(q_this, .inr (12, [.ref q_town, .ref q_read, .ref q_now, .ref q_aside, .ref q_past, .int v_undos, .ref q_images, .ref q_kept, .long v_seed, .ref q_text, .int v_size, .int v_fault, .ref q_sights, .int v_sightMany, .ref q_book, .int v_bookMany, .int v_at, .int v_begin, .int v_sign, .int v_figures, .int v_value, .int v_wrong, .ref q_went, .ref q_free, .ref q_stands])), (q_town, .inl (cI, 27, .inl v_town))] H := hP
        have hD : va_D A [(q_this, .inr (12, [.ref q_town, .ref q_read, .ref q_now, .ref q_aside, .ref q_past, .int v_undos, .ref q_images, .ref q_kept, .long v_seed, .ref q_text, .int v_size, .int v_fault, .ref q_sights, .int v_sightMany, .ref q_book, .int v_bookMany, .int v_at, .int v_begin, .int v_sign, .int v_figures, .int v_value, .int v_wrong, .ref q_went, .ref q_free, .ref q_stands])), (q_town, .inl (cI, 27, .inl v_town))] := hD
        have hl : lv_has ls 5 [(4, .int o17.1), (3, .int w4.1), (2, .int o17.2), (0, .ref q_this), (1, .int a1)] := hl
        refine lv_iinc (v := (w4.1 + 1)) (lv' := [(3, .int (w4.1 + 1)), (4, .int o17.1), (2, .int o17.2), (0, .ref q_this), (1, .int a1)]) hx hb dX12_above_54 hl (k := 1) rfl rfl (by decide) rfl (fun ls hl => ?_)
        refine lv_goto (tgt := 4) hx hb dX12_above_57 (by decide) ?_
        have hr9 := Option.some.inj hrun
        subst hr9
        exact ih ((w4.1 + 1), o17.2) _ hnext hexit _ _ _ (hP.sub [0, 1] rfl) (hD.sub [0, 1] (by decide) rfl) hS (lv_sub hl [0, 2, 3, 4] rfl)
  refine hL4 oz_fuel (0, 0) o4 hlp4 (fun H locs ls hP hD hS hl => ?_) _ _ _ (hP.sub [0, 1] rfl) (hD.sub [0, 1] (by decide) rfl) hS (lv_sub hl [0, 1, 2, 3] rfl)
  have hP : va_P (dC, dI) vwCl [(q_this, .inr (12, [.ref q_town, .ref q_read, .ref q_now, .ref q_aside, .ref q_past, .int v_undos, .ref q_images, .ref q_kept, .long v_seed, .ref q_text, .int v_size, .int v_fault, .ref q_sights, .int v_sightMany, .ref q_book, .int v_bookMany, .int v_at, .int v_begin, .int v_sign, .int v_figures, .int v_value, .int v_wrong, .ref q_went, .ref q_free, .ref q_stands])), (q_town, .inl (cI, 27, .inl v_town))] H := hP
  have hD : va_D A [(q_this, .inr (12, [.ref q_town, .ref q_read, .ref q_now, .ref q_aside, .ref q_past, .int v_undos, .ref q_images, .ref q_kept, .long v_seed, .ref q_text, .int v_size, .int v_fault, .ref q_sights, .int v_sightMany, .ref q_book, .int v_bookMany, .int v_at, .int v_begin, .int v_sign, .int v_figures, .int v_value, .int v_wrong, .ref q_went, .ref q_free, .ref q_stands])), (q_town, .inl (cI, 27, .inl v_town))] := hD
  have hl : lv_has ls 5 [(3, .int o4.1), (2, .int o4.2), (0, .ref q_this), (1, .int a1)] := hl
  refine lv_iload_n hx hb dX12_above_60 rfl (lv_at hl 1 rfl) ?_
  have ho9 := Option.some.inj hrun
  subst ho9
  have hP9 := hP.sub (ws' := [(q_this, .inr (12, [.ref q_town, .ref q_read, .ref q_now, .ref q_aside, .ref q_past, .int v_undos, .ref q_images, .ref q_kept, .long v_seed, .ref q_text, .int v_size, .int v_fault, .ref q_sights, .int v_sightMany, .ref q_book, .int v_bookMany, .int v_at, .int v_begin, .int v_sign, .int v_figures, .int v_value, .int v_wrong, .ref q_went, .ref q_free, .ref q_stands])), (q_town, .inl (cI, 27, .inl v_town))]) [0, 1] rfl
  have hD9 := hD.sub (ws' := [(q_this, .inr (12, [.ref q_town, .ref q_read, .ref q_now, .ref q_aside, .ref q_past, .int v_undos, .ref q_images, .ref q_kept, .long v_seed, .ref q_text, .int v_size, .int v_fault, .ref q_sights, .int v_sightMany, .ref q_book, .int v_bookMany, .int v_at, .int v_begin, .int v_sign, .int v_figures, .int v_value, .int v_wrong, .ref q_went, .ref q_free, .ref q_stands])), (q_town, .inl (cI, 27, .inl v_town))]) [0, 1] (by decide) rfl
  rw [hQ]
  exact W.iret (v := o4.2) hx hb hr (fun t ht hW => ⟨⟨o4.2, (), rfl, rfl, by rw [ht]; exact hP9, va_K.moved hW.alike hK, hD9⟩, hS.F ht⟩) hS.2.2 dX12_above_61
def fX12_told (v_undos : Int32) (v_size : Int32) (v_sightMany : Int32) (v_bookMany : Int32) (v_town : Nat → Int32) (v_now : Nat → Int32) (a1 : Int32) : Option (Int32) :=
  if a1 = 0 then (if (a1 < 0 ∨ 27 ≤ Int32.toNatClampNeg a1) then none else some (v_town (Int32.toNatClampNeg a1))) else if a1 = 1 then (if (a1 < 0 ∨ 27 ≤ Int32.toNatClampNeg a1) then none else some (v_town (Int32.toNatClampNeg a1))) else if a1 = 2 then (if (a1 < 0 ∨ 27 ≤ Int32.toNatClampNeg a1) then none else some (v_town (Int32.toNatClampNeg a1))) else if a1 = 3 then (some v_size) else if a1 = 4 then (some (v_now (Int32.toNatClampNeg 16))) else if a1 = 5 then (Option.bind (fX12_isLent v_town v_now) (fun y93 => if y93 = 0 then (some (0)) else (some (1)))) else if a1 = 6 then (Option.bind (fX12_keptOf v_now) (fun y109 => some y109)) else if a1 = 7 then (some (v_now (Int32.toNatClampNeg 17))) else if a1 = 8 then (some (v_now (Int32.toNatClampNeg 18))) else if a1 = 9 then (Option.bind (fX12_awayOnes v_now) (fun y130 => some y130)) else if a1 = 10 then (some v_sightMany) else if a1 = 11 then (some v_bookMany) else if a1 = 12 then (some v_undos) else (some (-1000000002))
def rmX12_told : Room := { frames := 1, cells := 0, slots := 0, locals := 22 }
set_option maxHeartbeats 4000000 in
set_option maxRecDepth 100000 in
theorem tX12_told (l : Launch) (dC : Nat → ClassId) (dI : Nat → Nat → Nat) (cI cZ : ClassId) (q_aside q_book q_free q_images q_kept q_now q_past q_read q_sights q_stands q_text q_this q_town q_went : Nat) (sz : Nat) (v_seed : Int64) (v_fault : Int32) (v_at : Int32) (v_begin : Int32) (v_sign : Int32) (v_figures : Int32) (v_value : Int32) (v_wrong : Int32) (v_undos : Int32) (v_size : Int32) (v_sightMany : Int32) (v_bookMany : Int32) (v_town : Nat → Int32) (v_now : Nat → Int32) (a1 : Int32) (out : Int32) (hrun : fX12_told v_undos v_size v_sightMany v_bookMany v_town v_now a1 = some out) : Met l yX12_told wsX12_told rmX12_told (va_Pc [.ref q_this, .int a1] (fun U => U.heap.size = sz ∧ va_P (dC, dI) vwCl [(q_this, .inr (12, [.ref q_town, .ref q_read, .ref q_now, .ref q_aside, .ref q_past, .int v_undos, .ref q_images, .ref q_kept, .long v_seed, .ref q_text, .int v_size, .int v_fault, .ref q_sights, .int v_sightMany, .ref q_book, .int v_bookMany, .int v_at, .int v_begin, .int v_sign, .int v_figures, .int v_value, .int v_wrong, .ref q_went, .ref q_free, .ref q_stands])), (q_town, .inl (cI, 27, .inl v_town)), (q_now, .inl (cI, 19, .inl v_now))] U.heap ∧ va_K (dC, dI) vwCl [(cI, .int), (cZ, .boolean)] U ∧ va_D (fun _ => True) [(q_this, .inr (12, [.ref q_town, .ref q_read, .ref q_now, .ref q_aside, .ref q_past, .int v_undos, .ref q_images, .ref q_kept, .long v_seed, .ref q_text, .int v_size, .int v_fault, .ref q_sights, .int v_sightMany, .ref q_book, .int v_bookMany, .int v_at, .int v_begin, .int v_sign, .int v_figures, .int v_value, .int v_wrong, .ref q_went, .ref q_free, .ref q_stands])), (q_town, .inl (cI, 27, .inl v_town)), (q_now, .inl (cI, 19, .inl v_now))])) (va_Qi (fun (r : Int32) (_ : Unit) => r = out) (fun _ t => va_P (dC, dI) vwCl [(q_this, .inr (12, [.ref q_town, .ref q_read, .ref q_now, .ref q_aside, .ref q_past, .int v_undos, .ref q_images, .ref q_kept, .long v_seed, .ref q_text, .int v_size, .int v_fault, .ref q_sights, .int v_sightMany, .ref q_book, .int v_bookMany, .int v_at, .int v_begin, .int v_sign, .int v_figures, .int v_value, .int v_wrong, .ref q_went, .ref q_free, .ref q_stands])), (q_town, .inl (cI, 27, .inl v_town)), (q_now, .inl (cI, 19, .inl v_now))] t.heap ∧ va_K (dC, dI) vwCl [(cI, .int), (cZ, .boolean)] t ∧ va_D (va_A [(q_this, .inr (12, [.ref q_town, .ref q_read, .ref q_now, .ref q_aside, .ref q_past, .int v_undos, .ref q_images, .ref q_kept, .long v_seed, .ref q_text, .int v_size, .int v_fault, .ref q_sights, .int v_sightMany, .ref q_book, .int v_bookMany, .int v_at, .int v_begin, .int v_sign, .int v_figures, .int v_value, .int v_wrong, .ref q_went, .ref q_free, .ref q_stands])), (q_town, .inl (cI, 27, .inl v_town)), (q_now, .inl (cI, 19, .inl v_now))] sz) [(q_this, .inr (12, [.ref q_town, .ref q_read, .ref q_now, .ref q_aside, .ref q_past, .int v_undos, .ref q_images, .ref q_kept, .long v_seed, .ref q_text, .int v_size, .int v_fault, .ref q_sights, .int v_sightMany, .ref q_book, .int v_bookMany, .int v_at, .int v_begin, .int v_sign, .int v_figures, .int v_value, .int v_wrong, .ref q_went, .ref q_free, .ref q_stands])), (q_town, .inl (cI, 27, .inl v_town)), (q_now, .inl (cI, 19, .inl v_now))]) (va_A [(q_this, .inr (12, [.ref q_town, .ref q_read, .ref q_now, .ref q_aside, .ref q_past, .int v_undos, .ref q_images, .ref q_kept, .long v_seed, .ref q_text, .int v_size, .int v_fault, .ref q_sights, .int v_sightMany, .ref q_book, .int v_bookMany, .int v_at, .int v_begin, .int v_sign, .int v_figures, .int v_value, .int v_wrong, .ref q_went, .ref q_free, .ref q_stands])), (q_town, .inl (cI, 27, .inl v_town)), (q_now, .inl (cI, 19, .inl v_now))] sz)) 0 0 (va_A [(q_this, .inr (12, [.ref q_town, .ref q_read, .ref q_now, .ref q_aside, .ref q_past, .int v_undos, .ref q_images, .ref q_kept, .long v_seed, .ref q_text, .int v_size, .int v_fault, .ref q_sights, .int v_sightMany, .ref q_book, .int v_bookMany, .int v_at, .int v_begin, .int v_sign, .int v_figures, .int v_value, .int v_wrong, .ref q_went, .ref q_free, .ref q_stands])), (q_town, .inl (cI, 27, .inl v_town)), (q_now, .inl (cI, 19, .inl v_now))] sz) := by
  refine Met.ofW (cc := cX12_told) (maxL := 2) (ret := (some .int)) (by decide) rfl ?_
  intro p e s m args below meth c s₁ B hml hv
  obtain ⟨rfl, hsz, hP, hK, hD0⟩ := hv
  have hx := B.exec
  have hb := B.bytes
  have hr := B.returns
  have hts := atoms_spec (ws := wsX12_told) B.pre
  have hown : s.vm.findClass RX12 = some m.cls := findClass_of_methodNamed B.named
  have hlocks := B.notSynchronized
  subst hsz
  have hD := hD0.self (sz := s.heap.size)
  generalize hAe : va_A [(q_this, .inr (12, [.ref q_town, .ref q_read, .ref q_now, .ref q_aside, .ref q_past, .int v_undos, .ref q_images, .ref q_kept, .long v_seed, .ref q_text, .int v_size, .int v_fault, .ref q_sights, .int v_sightMany, .ref q_book, .int v_bookMany, .int v_at, .int v_begin, .int v_sign, .int v_figures, .int v_value, .int v_wrong, .ref q_went, .ref q_free, .ref q_stands])), (q_town, .inl (cI, 27, .inl v_town)), (q_now, .inl (cI, 19, .inl v_now))] s.heap.size = A at hD ⊢
  have hA : ∀ q : Nat, s.heap.size ≤ q → A q := fun q h => by rw [← hAe]; exact Or.inr h
  have hS : va_S A s.heap s.heap [] := va_S.rf
  have hl := lv_entry ([.ref q_this, .int a1]) (n := 2) (Nat.le_of_ble_eq_true rfl)
  rw [lg_entry_eq]
  generalize (lg_sl ([.ref q_this, .int a1]) ++ List.replicate (2 - (lg_sl ([.ref q_this, .int a1])).length) Slot.unset).toArray = ls at hl ⊢
  have hl : lv_has ls 2 [(0, .ref q_this), (1, .int a1)] := hl
  unfold fX12_told at hrun
  have hk7 := hts (.fieldLink RX12 7 "LentDrainsModel" "town" "[I") (by decide +kernel)
  have hiX12 : ∀ w ∈ wsX120, w ∈ wsX12_told := by decide +kernel
  have hk70 := hts (.fieldLink RX12 70 "LentDrainsModel" "size" "I") (by decide +kernel)
  have hk16 := hts (.fieldLink RX12 16 "LentDrainsModel" "now" "[I") (by decide +kernel)
  have hk57 := hts (.fieldLink RX12 57 "LentDrainsModel" "sightMany" "I") (by decide +kernel)
  have hk60 := hts (.fieldLink RX12 60 "LentDrainsModel" "bookMany" "I") (by decide +kernel)
  have hk54 := hts (.fieldLink RX12 54 "LentDrainsModel" "undos" "I") (by decide +kernel)
  have hk69 := hts (.constant RX12 69 (-1000000002)) (by decide +kernel)
  refine oz_genQ (fun Q hQ => ?_)
  refine lv_iload_n hx hb dX12_told_0 rfl (lv_at hl 1 rfl) ?_
  rcases Decidable.em (a1 = 0) with c1 | c1
  · have hrun := oz_t hrun c1
    refine lv_tableIn (off := 67) (tgt := 68) hx hb dX12_told_1 (by rw [c1]; decide) (by rw [c1]; decide) (by rw [c1]; rfl) (by decide) ?_
    refine lv_aload_n hx hb dX12_told_68 rfl (lv_at hl 0 rfl) ?_
    refine va_get (D := (dC, dI)) (ci := 12) (v := .ref q_town) (C := RX12) (T := TX12) (N := 25) hx hb hts hiX12 hown hK hP 0 rfl rfl 0 (by decide) hk7 (fun _ h9 => h9) rfl dX12_told_69 ?_
    refine lv_iload_n hx hb dX12_told_72 rfl (lv_at hl 1 rfl) ?_
    obtain ⟨c2, hrun⟩ := oz_chk hrun
    refine va_iald hx hb hK hP 1 0 rfl rfl c2 dX12_told_73 ?_
    have ho9 := Option.some.inj hrun
    subst ho9
    have hP9 := hP.sub (ws' := [(q_this, .inr (12, [.ref q_town, .ref q_read, .ref q_now, .ref q_aside, .ref q_past, .int v_undos, .ref q_images, .ref q_kept, .long v_seed, .ref q_text, .int v_size, .int v_fault, .ref q_sights, .int v_sightMany, .ref q_book, .int v_bookMany, .int v_at, .int v_begin, .int v_sign, .int v_figures, .int v_value, .int v_wrong, .ref q_went, .ref q_free, .ref q_stands])), (q_town, .inl (cI, 27, .inl v_town)), (q_now, .inl (cI, 19, .inl v_now))]) [0, 1, 2] rfl
    have hD9 := hD.sub (ws' := [(q_this, .inr (12, [.ref q_town, .ref q_read, .ref q_now, .ref q_aside, .ref q_past, .int v_undos, .ref q_images, .ref q_kept, .long v_seed, .ref q_text, .int v_size, .int v_fault, .ref q_sights, .int v_sightMany, .ref q_book, .int v_bookMany, .int v_at, .int v_begin, .int v_sign, .int v_figures, .int v_value, .int v_wrong, .ref q_went, .ref q_free, .ref q_stands])), (q_town, .inl (cI, 27, .inl v_town)), (q_now, .inl (cI, 19, .inl v_now))]) [0, 1, 2] (by decide) rfl
    rw [hQ]
    exact W.iret (v := (v_town (Int32.toNatClampNeg a1))) hx hb hr (fun t ht hW => ⟨⟨(v_town (Int32.toNatClampNeg a1)), (), rfl, rfl, by rw [ht]; exact hP9, va_K.moved hW.alike hK, hD9⟩, hS.F ht⟩) hS.2.2 dX12_told_74
  · have hrun := oz_f hrun c1
    rcases Decidable.em (a1 = 1) with c3 | c3
    · have hrun := oz_t hrun c3
      refine lv_tableIn (off := 67) (tgt := 68) hx hb dX12_told_1 (by rw [c3]; decide) (by rw [c3]; decide) (by rw [c3]; rfl) (by decide) ?_
      refine lv_aload_n hx hb dX12_told_68 rfl (lv_at hl 0 rfl) ?_
      refine va_get (D := (dC, dI)) (ci := 12) (v := .ref q_town) (C := RX12) (T := TX12) (N := 25) hx hb hts hiX12 hown hK hP 0 rfl rfl 0 (by decide) hk7 (fun _ h9 => h9) rfl dX12_told_69 ?_
      refine lv_iload_n hx hb dX12_told_72 rfl (lv_at hl 1 rfl) ?_
      obtain ⟨c4, hrun⟩ := oz_chk hrun
      refine va_iald hx hb hK hP 1 0 rfl rfl c4 dX12_told_73 ?_
      have ho9 := Option.some.inj hrun
      subst ho9
      have hP9 := hP.sub (ws' := [(q_this, .inr (12, [.ref q_town, .ref q_read, .ref q_now, .ref q_aside, .ref q_past, .int v_undos, .ref q_images, .ref q_kept, .long v_seed, .ref q_text, .int v_size, .int v_fault, .ref q_sights, .int v_sightMany, .ref q_book, .int v_bookMany, .int v_at, .int v_begin, .int v_sign, .int v_figures, .int v_value, .int v_wrong, .ref q_went, .ref q_free, .ref q_stands])), (q_town, .inl (cI, 27, .inl v_town)), (q_now, .inl (cI, 19, .inl v_now))]) [0, 1, 2] rfl
      have hD9 := hD.sub (ws' := [(q_this, .inr (12, [.ref q_town, .ref q_read, .ref q_now, .ref q_aside, .ref q_past, .int v_undos, .ref q_images, .ref q_kept, .long v_seed, .ref q_text, .int v_size, .int v_fault, .ref q_sights, .int v_sightMany, .ref q_book, .int v_bookMany, .int v_at, .int v_begin, .int v_sign, .int v_figures, .int v_value, .int v_wrong, .ref q_went, .ref q_free, .ref q_stands])), (q_town, .inl (cI, 27, .inl v_town)), (q_now, .inl (cI, 19, .inl v_now))]) [0, 1, 2] (by decide) rfl
      rw [hQ]
      exact W.iret (v := (v_town (Int32.toNatClampNeg a1))) hx hb hr (fun t ht hW => ⟨⟨(v_town (Int32.toNatClampNeg a1)), (), rfl, rfl, by rw [ht]; exact hP9, va_K.moved hW.alike hK, hD9⟩, hS.F ht⟩) hS.2.2 dX12_told_74
    · have hrun := oz_f hrun c3
      rcases Decidable.em (a1 = 2) with c5 | c5
      · have hrun := oz_t hrun c5
        refine lv_tableIn (off := 67) (tgt := 68) hx hb dX12_told_1 (by rw [c5]; decide) (by rw [c5]; decide) (by rw [c5]; rfl) (by decide) ?_
        refine lv_aload_n hx hb dX12_told_68 rfl (lv_at hl 0 rfl) ?_
        refine va_get (D := (dC, dI)) (ci := 12) (v := .ref q_town) (C := RX12) (T := TX12) (N := 25) hx hb hts hiX12 hown hK hP 0 rfl rfl 0 (by decide) hk7 (fun _ h9 => h9) rfl dX12_told_69 ?_
        refine lv_iload_n hx hb dX12_told_72 rfl (lv_at hl 1 rfl) ?_
        obtain ⟨c6, hrun⟩ := oz_chk hrun
        refine va_iald hx hb hK hP 1 0 rfl rfl c6 dX12_told_73 ?_
        have ho9 := Option.some.inj hrun
        subst ho9
        have hP9 := hP.sub (ws' := [(q_this, .inr (12, [.ref q_town, .ref q_read, .ref q_now, .ref q_aside, .ref q_past, .int v_undos, .ref q_images, .ref q_kept, .long v_seed, .ref q_text, .int v_size, .int v_fault, .ref q_sights, .int v_sightMany, .ref q_book, .int v_bookMany, .int v_at, .int v_begin, .int v_sign, .int v_figures, .int v_value, .int v_wrong, .ref q_went, .ref q_free, .ref q_stands])), (q_town, .inl (cI, 27, .inl v_town)), (q_now, .inl (cI, 19, .inl v_now))]) [0, 1, 2] rfl
        have hD9 := hD.sub (ws' := [(q_this, .inr (12, [.ref q_town, .ref q_read, .ref q_now, .ref q_aside, .ref q_past, .int v_undos, .ref q_images, .ref q_kept, .long v_seed, .ref q_text, .int v_size, .int v_fault, .ref q_sights, .int v_sightMany, .ref q_book, .int v_bookMany, .int v_at, .int v_begin, .int v_sign, .int v_figures, .int v_value, .int v_wrong, .ref q_went, .ref q_free, .ref q_stands])), (q_town, .inl (cI, 27, .inl v_town)), (q_now, .inl (cI, 19, .inl v_now))]) [0, 1, 2] (by decide) rfl
        rw [hQ]
        exact W.iret (v := (v_town (Int32.toNatClampNeg a1))) hx hb hr (fun t ht hW => ⟨⟨(v_town (Int32.toNatClampNeg a1)), (), rfl, rfl, by rw [ht]; exact hP9, va_K.moved hW.alike hK, hD9⟩, hS.F ht⟩) hS.2.2 dX12_told_74
      · have hrun := oz_f hrun c5
        rcases Decidable.em (a1 = 3) with c7 | c7
        · have hrun := oz_t hrun c7
          refine lv_tableIn (off := 74) (tgt := 75) hx hb dX12_told_1 (by rw [c7]; decide) (by rw [c7]; decide) (by rw [c7]; rfl) (by decide) ?_
          refine lv_aload_n hx hb dX12_told_75 rfl (lv_at hl 0 rfl) ?_
          refine va_get (D := (dC, dI)) (ci := 12) (v := .int v_size) (C := RX12) (T := TX12) (N := 25) hx hb hts hiX12 hown hK hP 0 rfl rfl 10 (by decide) hk70 (fun _ h9 => h9) rfl dX12_told_76 ?_
          have ho9 := Option.some.inj hrun
          subst ho9
          have hP9 := hP.sub (ws' := [(q_this, .inr (12, [.ref q_town, .ref q_read, .ref q_now, .ref q_aside, .ref q_past, .int v_undos, .ref q_images, .ref q_kept, .long v_seed, .ref q_text, .int v_size, .int v_fault, .ref q_sights, .int v_sightMany, .ref q_book, .int v_bookMany, .int v_at, .int v_begin, .int v_sign, .int v_figures, .int v_value, .int v_wrong, .ref q_went, .ref q_free, .ref q_stands])), (q_town, .inl (cI, 27, .inl v_town)), (q_now, .inl (cI, 19, .inl v_now))]) [0, 1, 2] rfl
          have hD9 := hD.sub (ws' := [(q_this, .inr (12, [.ref q_town, .ref q_read, .ref q_now, .ref q_aside, .ref q_past, .int v_undos, .ref q_images, .ref q_kept, .long v_seed, .ref q_text, .int v_size, .int v_fault, .ref q_sights, .int v_sightMany, .ref q_book, .int v_bookMany, .int v_at, .int v_begin, .int v_sign, .int v_figures, .int v_value, .int v_wrong, .ref q_went, .ref q_free, .ref q_stands])), (q_town, .inl (cI, 27, .inl v_town)), (q_now, .inl (cI, 19, .inl v_now))]) [0, 1, 2] (by decide) rfl
          rw [hQ]
          exact W.iret (v := v_size) hx hb hr (fun t ht hW => ⟨⟨v_size, (), rfl, rfl, by rw [ht]; exact hP9, va_K.moved hW.alike hK, hD9⟩, hS.F ht⟩) hS.2.2 dX12_told_79
        · have hrun := oz_f hrun c7
          rcases Decidable.em (a1 = 4) with c8 | c8
          · have hrun := oz_t hrun c8
            refine lv_tableIn (off := 79) (tgt := 80) hx hb dX12_told_1 (by rw [c8]; decide) (by rw [c8]; decide) (by rw [c8]; rfl) (by decide) ?_
            refine lv_aload_n hx hb dX12_told_80 rfl (lv_at hl 0 rfl) ?_
            refine va_get (D := (dC, dI)) (ci := 12) (v := .ref q_now) (C := RX12) (T := TX12) (N := 25) hx hb hts hiX12 hown hK hP 0 rfl rfl 2 (by decide) hk16 (fun _ h9 => h9) rfl dX12_told_81 ?_
            refine lv_bipush (v := 16) hx hb dX12_told_84 (by decide) ?_
            refine va_iald hx hb hK hP 2 0 rfl rfl (show ¬ ((16 : Int32) < 0 ∨ 19 ≤ (16 : Int32).toNatClampNeg) by decide) dX12_told_86 ?_
            have ho9 := Option.some.inj hrun
            subst ho9
            have hP9 := hP.sub (ws' := [(q_this, .inr (12, [.ref q_town, .ref q_read, .ref q_now, .ref q_aside, .ref q_past, .int v_undos, .ref q_images, .ref q_kept, .long v_seed, .ref q_text, .int v_size, .int v_fault, .ref q_sights, .int v_sightMany, .ref q_book, .int v_bookMany, .int v_at, .int v_begin, .int v_sign, .int v_figures, .int v_value, .int v_wrong, .ref q_went, .ref q_free, .ref q_stands])), (q_town, .inl (cI, 27, .inl v_town)), (q_now, .inl (cI, 19, .inl v_now))]) [0, 1, 2] rfl
            have hD9 := hD.sub (ws' := [(q_this, .inr (12, [.ref q_town, .ref q_read, .ref q_now, .ref q_aside, .ref q_past, .int v_undos, .ref q_images, .ref q_kept, .long v_seed, .ref q_text, .int v_size, .int v_fault, .ref q_sights, .int v_sightMany, .ref q_book, .int v_bookMany, .int v_at, .int v_begin, .int v_sign, .int v_figures, .int v_value, .int v_wrong, .ref q_went, .ref q_free, .ref q_stands])), (q_town, .inl (cI, 27, .inl v_town)), (q_now, .inl (cI, 19, .inl v_now))]) [0, 1, 2] (by decide) rfl
            rw [hQ]
            exact W.iret (v := (v_now (Int32.toNatClampNeg 16))) hx hb hr (fun t ht hW => ⟨⟨(v_now (Int32.toNatClampNeg 16)), (), rfl, rfl, by rw [ht]; exact hP9, va_K.moved hW.alike hK, hD9⟩, hS.F ht⟩) hS.2.2 dX12_told_87
          · have hrun := oz_f hrun c8
            rcases Decidable.em (a1 = 5) with c9 | c9
            · have hrun := oz_t hrun c9
              refine lv_tableIn (off := 87) (tgt := 88) hx hb dX12_told_1 (by rw [c9]; decide) (by rw [c9]; decide) (by rw [c9]; rfl) (by decide) ?_
              refine lv_aload_n hx hb dX12_told_88 rfl (lv_at hl 0 rfl) ?_
              refine lv_aload_n hx hb dX12_told_89 rfl (lv_at hl 0 rfl) ?_
              refine va_get (D := (dC, dI)) (ci := 12) (v := .ref q_now) (C := RX12) (T := TX12) (N := 25) hx hb hts hiX12 hown hK hP 0 rfl rfl 2 (by decide) hk16 (fun _ h9 => h9) rfl dX12_told_90 ?_
              obtain ⟨y93, hc93, hrun⟩ := oz_bind hrun
              have hPc := hP.sub (ws' := [(q_this, .inr (12, [.ref q_town, .ref q_read, .ref q_now, .ref q_aside, .ref q_past, .int v_undos, .ref q_images, .ref q_kept, .long v_seed, .ref q_text, .int v_size, .int v_fault, .ref q_sights, .int v_sightMany, .ref q_book, .int v_bookMany, .int v_at, .int v_begin, .int v_sign, .int v_figures, .int v_value, .int v_wrong, .ref q_went, .ref q_free, .ref q_stands])), (q_town, .inl (cI, 27, .inl v_town)), (q_now, .inl (cI, 19, .inl v_now))]) [0, 1, 2] rfl
              have hDc := hD.sub (ws' := [(q_this, .inr (12, [.ref q_town, .ref q_read, .ref q_now, .ref q_aside, .ref q_past, .int v_undos, .ref q_images, .ref q_kept, .long v_seed, .ref q_text, .int v_size, .int v_fault, .ref q_sights, .int v_sightMany, .ref q_book, .int v_bookMany, .int v_at, .int v_begin, .int v_sign, .int v_figures, .int v_value, .int v_wrong, .ref q_went, .ref q_free, .ref q_stands])), (q_town, .inl (cI, 27, .inl v_town)), (q_now, .inl (cI, 19, .inl v_now))]) [0, 1, 2] (by decide) rfl
              have hFc := va_free (wc := [(q_this, .inr (12, [.ref q_town, .ref q_read, .ref q_now, .ref q_aside, .ref q_past, .int v_undos, .ref q_images, .ref q_kept, .long v_seed, .ref q_text, .int v_size, .int v_fault, .ref q_sights, .int v_sightMany, .ref q_book, .int v_bookMany, .int v_at, .int v_begin, .int v_sign, .int v_figures, .int v_value, .int v_wrong, .ref q_went, .ref q_free, .ref q_stands])), (q_town, .inl (cI, 27, .inl v_town)), (q_now, .inl (cI, 19, .inl v_now))]) hD hS hA [0, 1, 2] rfl
              refine va_calli (va_runV (As := [.ref q_now]) (rest := []) ⟨hx, hb, hml, hown, hts⟩ (tX12_isLent l dC dI cI cZ q_aside q_book q_free q_images q_kept q_now q_now q_past q_read q_sights q_stands q_text q_this q_town q_went s.heap.size v_undos v_seed v_size v_fault v_sightMany v_bookMany v_at v_begin v_sign v_figures v_value v_wrong v_town v_now y93 hc93) (cwV 1 hts gX12_told_X12_isLent rfl rfl rfl (by decide +kernel) ⟨Nat.le_of_ble_eq_true rfl, Nat.le_of_ble_eq_true rfl⟩) ⟨fun a U g mk q => by obtain ⟨q0, q1, qP, qK, qD⟩ := q; exact ⟨q0, q1, qP, va_K.moved (u := U) (U := U.calling g mk a) (Vm.Alike.refl U.vm) qK, qD⟩, va_recv hK hPc (ci := 12) (q0 := 0) rfl rfl, fun U hU hW => ⟨rfl, by rw [hU], by rw [hU]; exact hPc, va_K.moved hW.alike hK, hDc.weaken (fun _ _ _ _ => trivial)⟩⟩ rfl rfl hl.1 rfl (lv_room (Nat.le_of_ble_eq_true rfl)) dX12_told_93 ⟨Nat.le_of_ble_eq_true rfl, Nat.le_of_ble_eq_true rfl⟩) hS (fun q _ h => hFc q h) hFc (fun r93 u9 t9 H1 locs ht9 hvm9 hw9 hB9 hz9 hkk9 hS => ?_)
              have hw9 : y93 = r93 := hw9.symm
              subst hw9
              obtain ⟨hP9, hK9, hD9⟩ := hB9
              rw [ht9] at hP9
              obtain ⟨hP, hD⟩ := va_join (wr := []) (w1 := [(q_this, .inr (12, [.ref q_town, .ref q_read, .ref q_now, .ref q_aside, .ref q_past, .int v_undos, .ref q_images, .ref q_kept, .long v_seed, .ref q_text, .int v_size, .int v_fault, .ref q_sights, .int v_sightMany, .ref q_book, .int v_bookMany, .int v_at, .int v_begin, .int v_sign, .int v_figures, .int v_value, .int v_wrong, .ref q_went, .ref q_free, .ref q_stands])), (q_town, .inl (cI, 27, .inl v_town)), (q_now, .inl (cI, 19, .inl v_now))]) hP hD [0, 1, 2] [] rfl rfl (by decide) (by decide) hkk9 hFc hP9 hD9
              generalize H1 = H at hP hS ⊢
              have hP : va_P (dC, dI) vwCl [(q_this, .inr (12, [.ref q_town, .ref q_read, .ref q_now, .ref q_aside, .ref q_past, .int v_undos, .ref q_images, .ref q_kept, .long v_seed, .ref q_text, .int v_size, .int v_fault, .ref q_sights, .int v_sightMany, .ref q_book, .int v_bookMany, .int v_at, .int v_begin, .int v_sign, .int v_figures, .int v_value, .int v_wrong, .ref q_went, .ref q_free, .ref q_stands])), (q_town, .inl (cI, 27, .inl v_town)), (q_now, .inl (cI, 19, .inl v_now))] H := hP
              have hD : va_D A [(q_this, .inr (12, [.ref q_town, .ref q_read, .ref q_now, .ref q_aside, .ref q_past, .int v_undos, .ref q_images, .ref q_kept, .long v_seed, .ref q_text, .int v_size, .int v_fault, .ref q_sights, .int v_sightMany, .ref q_book, .int v_bookMany, .int v_at, .int v_begin, .int v_sign, .int v_figures, .int v_value, .int v_wrong, .ref q_went, .ref q_free, .ref q_stands])), (q_town, .inl (cI, 27, .inl v_town)), (q_now, .inl (cI, 19, .inl v_now))] := hD
              refine lv_if_eq (tgt := 103) hx hb dX12_told_96 (by decide) (fun c10 => ?_) (fun c10 => ?_)
              · have hrun := oz_t hrun c10
                refine lv_iconst (v := 0) hx hb dX12_told_103 (by decide) ?_
                have ho9 := Option.some.inj hrun
                subst ho9
                have hP9 := hP.sub (ws' := [(q_this, .inr (12, [.ref q_town, .ref q_read, .ref q_now, .ref q_aside, .ref q_past, .int v_undos, .ref q_images, .ref q_kept, .long v_seed, .ref q_text, .int v_size, .int v_fault, .ref q_sights, .int v_sightMany, .ref q_book, .int v_bookMany, .int v_at, .int v_begin, .int v_sign, .int v_figures, .int v_value, .int v_wrong, .ref q_went, .ref q_free, .ref q_stands])), (q_town, .inl (cI, 27, .inl v_town)), (q_now, .inl (cI, 19, .inl v_now))]) [0, 1, 2] rfl
                have hD9 := hD.sub (ws' := [(q_this, .inr (12, [.ref q_town, .ref q_read, .ref q_now, .ref q_aside, .ref q_past, .int v_undos, .ref q_images, .ref q_kept, .long v_seed, .ref q_text, .int v_size, .int v_fault, .ref q_sights, .int v_sightMany, .ref q_book, .int v_bookMany, .int v_at, .int v_begin, .int v_sign, .int v_figures, .int v_value, .int v_wrong, .ref q_went, .ref q_free, .ref q_stands])), (q_town, .inl (cI, 27, .inl v_town)), (q_now, .inl (cI, 19, .inl v_now))]) [0, 1, 2] (by decide) rfl
                rw [hQ]
                exact W.iret (v := 0) hx hb hr (fun t ht hW => ⟨⟨0, (), rfl, rfl, by rw [ht]; exact hP9, va_K.moved hW.alike hK, hD9⟩, hS.F ht⟩) hS.2.2 dX12_told_104
              · have hrun := oz_f hrun c10
                refine lv_iconst (v := 1) hx hb dX12_told_99 (by decide) ?_
                refine lv_goto (tgt := 104) hx hb dX12_told_100 (by decide) ?_
                have ho9 := Option.some.inj hrun
                subst ho9
                have hP9 := hP.sub (ws' := [(q_this, .inr (12, [.ref q_town, .ref q_read, .ref q_now, .ref q_aside, .ref q_past, .int v_undos, .ref q_images, .ref q_kept, .long v_seed, .ref q_text, .int v_size, .int v_fault, .ref q_sights, .int v_sightMany, .ref q_book, .int v_bookMany, .int v_at, .int v_begin, .int v_sign, .int v_figures, .int v_value, .int v_wrong, .ref q_went, .ref q_free, .ref q_stands])), (q_town, .inl (cI, 27, .inl v_town)), (q_now, .inl (cI, 19, .inl v_now))]) [0, 1, 2] rfl
                have hD9 := hD.sub (ws' := [(q_this, .inr (12, [.ref q_town, .ref q_read, .ref q_now, .ref q_aside, .ref q_past, .int v_undos, .ref q_images, .ref q_kept, .long v_seed, .ref q_text, .int v_size, .int v_fault, .ref q_sights, .int v_sightMany, .ref q_book, .int v_bookMany, .int v_at, .int v_begin, .int v_sign, .int v_figures, .int v_value, .int v_wrong, .ref q_went, .ref q_free, .ref q_stands])), (q_town, .inl (cI, 27, .inl v_town)), (q_now, .inl (cI, 19, .inl v_now))]) [0, 1, 2] (by decide) rfl
                rw [hQ]
                exact W.iret (v := 1) hx hb hr (fun t ht hW => ⟨⟨1, (), rfl, rfl, by rw [ht]; exact hP9, va_K.moved hW.alike hK, hD9⟩, hS.F ht⟩) hS.2.2 dX12_told_104
            · have hrun := oz_f hrun c9
              rcases Decidable.em (a1 = 6) with c11 | c11
              · have hrun := oz_t hrun c11
                refine lv_tableIn (off := 104) (tgt := 105) hx hb dX12_told_1 (by rw [c11]; decide) (by rw [c11]; decide) (by rw [c11]; rfl) (by decide) ?_
                refine lv_aload_n hx hb dX12_told_105 rfl (lv_at hl 0 rfl) ?_
                refine va_get (D := (dC, dI)) (ci := 12) (v := .ref q_now) (C := RX12) (T := TX12) (N := 25) hx hb hts hiX12 hown hK hP 0 rfl rfl 2 (by decide) hk16 (fun _ h9 => h9) rfl dX12_told_106 ?_
                obtain ⟨y109, hc109, hrun⟩ := oz_bind hrun
                have hPc := hP.sub (ws' := [(q_now, .inl (cI, 19, .inl v_now))]) [2] rfl
                have hDc := hD.sub (ws' := [(q_now, .inl (cI, 19, .inl v_now))]) [2] (by decide) rfl
                have hFc := va_free (wc := [(q_now, .inl (cI, 19, .inl v_now))]) hD hS hA [2] rfl
                refine va_calli (va_runS (As := [.ref q_now]) (rest := []) ⟨hx, hb, hml, hown, hts⟩ (tX12_keptOf l dC dI cI cZ q_now s.heap.size v_now y109 hc109) (va_cwS 1 hts gX12_told_X12_keptOf rfl rfl rfl (by decide +kernel) ⟨Nat.le_of_ble_eq_true rfl, Nat.le_of_ble_eq_true rfl⟩) ⟨fun a U g mk q => by obtain ⟨q0, q1, qP, qK, qD⟩ := q; exact ⟨q0, q1, qP, va_K.moved (u := U) (U := U.calling g mk a) (Vm.Alike.refl U.vm) qK, qD⟩, fun U hU hW => ⟨rfl, by rw [hU], by rw [hU]; exact hPc, va_K.moved hW.alike hK, hDc.weaken (fun _ _ _ _ => trivial)⟩⟩ rfl rfl hl.1 rfl (lv_room (Nat.le_of_ble_eq_true rfl)) dX12_told_109 ⟨Nat.le_of_ble_eq_true rfl, Nat.le_of_ble_eq_true rfl⟩) hS (fun q _ h => hFc q h) hFc (fun r109 u9 t9 H1 locs ht9 hvm9 hw9 hB9 hz9 hkk9 hS => ?_)
                have hw9 : y109 = r109 := hw9.symm
                subst hw9
                obtain ⟨hP9, hK9, hD9⟩ := hB9
                rw [ht9] at hP9
                obtain ⟨hP, hD⟩ := va_join (wr := [(q_this, .inr (12, [.ref q_town, .ref q_read, .ref q_now, .ref q_aside, .ref q_past, .int v_undos, .ref q_images, .ref q_kept, .long v_seed, .ref q_text, .int v_size, .int v_fault, .ref q_sights, .int v_sightMany, .ref q_book, .int v_bookMany, .int v_at, .int v_begin, .int v_sign, .int v_figures, .int v_value, .int v_wrong, .ref q_went, .ref q_free, .ref q_stands])), (q_town, .inl (cI, 27, .inl v_town))]) (w1 := [(q_now, .inl (cI, 19, .inl v_now))]) hP hD [2] [0, 1] rfl rfl (by decide) (by decide) hkk9 hFc hP9 hD9
                generalize H1 = H at hP hS ⊢
                have hP : va_P (dC, dI) vwCl [(q_this, .inr (12, [.ref q_town, .ref q_read, .ref q_now, .ref q_aside, .ref q_past, .int v_undos, .ref q_images, .ref q_kept, .long v_seed, .ref q_text, .int v_size, .int v_fault, .ref q_sights, .int v_sightMany, .ref q_book, .int v_bookMany, .int v_at, .int v_begin, .int v_sign, .int v_figures, .int v_value, .int v_wrong, .ref q_went, .ref q_free, .ref q_stands])), (q_town, .inl (cI, 27, .inl v_town)), (q_now, .inl (cI, 19, .inl v_now))] H := hP
                have hD : va_D A [(q_this, .inr (12, [.ref q_town, .ref q_read, .ref q_now, .ref q_aside, .ref q_past, .int v_undos, .ref q_images, .ref q_kept, .long v_seed, .ref q_text, .int v_size, .int v_fault, .ref q_sights, .int v_sightMany, .ref q_book, .int v_bookMany, .int v_at, .int v_begin, .int v_sign, .int v_figures, .int v_value, .int v_wrong, .ref q_went, .ref q_free, .ref q_stands])), (q_town, .inl (cI, 27, .inl v_town)), (q_now, .inl (cI, 19, .inl v_now))] := hD
                have ho9 := Option.some.inj hrun
                subst ho9
                have hP9 := hP.sub (ws' := [(q_this, .inr (12, [.ref q_town, .ref q_read, .ref q_now, .ref q_aside, .ref q_past, .int v_undos, .ref q_images, .ref q_kept, .long v_seed, .ref q_text, .int v_size, .int v_fault, .ref q_sights, .int v_sightMany, .ref q_book, .int v_bookMany, .int v_at, .int v_begin, .int v_sign, .int v_figures, .int v_value, .int v_wrong, .ref q_went, .ref q_free, .ref q_stands])), (q_town, .inl (cI, 27, .inl v_town)), (q_now, .inl (cI, 19, .inl v_now))]) [0, 1, 2] rfl
                have hD9 := hD.sub (ws' := [(q_this, .inr (12, [.ref q_town, .ref q_read, .ref q_now, .ref q_aside, .ref q_past, .int v_undos, .ref q_images, .ref q_kept, .long v_seed, .ref q_text, .int v_size, .int v_fault, .ref q_sights, .int v_sightMany, .ref q_book, .int v_bookMany, .int v_at, .int v_begin, .int v_sign, .int v_figures, .int v_value, .int v_wrong, .ref q_went, .ref q_free, .ref q_stands])), (q_town, .inl (cI, 27, .inl v_town)), (q_now, .inl (cI, 19, .inl v_now))]) [0, 1, 2] (by decide) rfl
                rw [hQ]
                exact W.iret (v := y109) hx hb hr (fun t ht hW => ⟨⟨y109, (), rfl, rfl, by rw [ht]; exact hP9, va_K.moved hW.alike hK, hD9⟩, hS.F ht⟩) hS.2.2 dX12_told_112
              · have hrun := oz_f hrun c11
                rcases Decidable.em (a1 = 7) with c12 | c12
                · have hrun := oz_t hrun c12
                  refine lv_tableIn (off := 112) (tgt := 113) hx hb dX12_told_1 (by rw [c12]; decide) (by rw [c12]; decide) (by rw [c12]; rfl) (by decide) ?_
                  refine lv_aload_n hx hb dX12_told_113 rfl (lv_at hl 0 rfl) ?_
                  refine va_get (D := (dC, dI)) (ci := 12) (v := .ref q_now) (C := RX12) (T := TX12) (N := 25) hx hb hts hiX12 hown hK hP 0 rfl rfl 2 (by decide) hk16 (fun _ h9 => h9) rfl dX12_told_114 ?_
                  refine lv_bipush (v := 17) hx hb dX12_told_117 (by decide) ?_
                  refine va_iald hx hb hK hP 2 0 rfl rfl (show ¬ ((17 : Int32) < 0 ∨ 19 ≤ (17 : Int32).toNatClampNeg) by decide) dX12_told_119 ?_
                  have ho9 := Option.some.inj hrun
                  subst ho9
                  have hP9 := hP.sub (ws' := [(q_this, .inr (12, [.ref q_town, .ref q_read, .ref q_now, .ref q_aside, .ref q_past, .int v_undos, .ref q_images, .ref q_kept, .long v_seed, .ref q_text, .int v_size, .int v_fault, .ref q_sights, .int v_sightMany, .ref q_book, .int v_bookMany, .int v_at, .int v_begin, .int v_sign, .int v_figures, .int v_value, .int v_wrong, .ref q_went, .ref q_free, .ref q_stands])), (q_town, .inl (cI, 27, .inl v_town)), (q_now, .inl (cI, 19, .inl v_now))]) [0, 1, 2] rfl
                  have hD9 := hD.sub (ws' := [(q_this, .inr (12, [.ref q_town, .ref q_read, .ref q_now, .ref q_aside, .ref q_past, .int v_undos, .ref q_images, .ref q_kept, .long v_seed, .ref q_text, .int v_size, .int v_fault, .ref q_sights, .int v_sightMany, .ref q_book, .int v_bookMany, .int v_at, .int v_begin, .int v_sign, .int v_figures, .int v_value, .int v_wrong, .ref q_went, .ref q_free, .ref q_stands])), (q_town, .inl (cI, 27, .inl v_town)), (q_now, .inl (cI, 19, .inl v_now))]) [0, 1, 2] (by decide) rfl
                  rw [hQ]
                  exact W.iret (v := (v_now (Int32.toNatClampNeg 17))) hx hb hr (fun t ht hW => ⟨⟨(v_now (Int32.toNatClampNeg 17)), (), rfl, rfl, by rw [ht]; exact hP9, va_K.moved hW.alike hK, hD9⟩, hS.F ht⟩) hS.2.2 dX12_told_120
                · have hrun := oz_f hrun c12
                  rcases Decidable.em (a1 = 8) with c13 | c13
                  · have hrun := oz_t hrun c13
                    refine lv_tableIn (off := 120) (tgt := 121) hx hb dX12_told_1 (by rw [c13]; decide) (by rw [c13]; decide) (by rw [c13]; rfl) (by decide) ?_
                    refine lv_aload_n hx hb dX12_told_121 rfl (lv_at hl 0 rfl) ?_
                    refine va_get (D := (dC, dI)) (ci := 12) (v := .ref q_now) (C := RX12) (T := TX12) (N := 25) hx hb hts hiX12 hown hK hP 0 rfl rfl 2 (by decide) hk16 (fun _ h9 => h9) rfl dX12_told_122 ?_
                    refine lv_bipush (v := 18) hx hb dX12_told_125 (by decide) ?_
                    refine va_iald hx hb hK hP 2 0 rfl rfl (show ¬ ((18 : Int32) < 0 ∨ 19 ≤ (18 : Int32).toNatClampNeg) by decide) dX12_told_127 ?_
                    have ho9 := Option.some.inj hrun
                    subst ho9
                    have hP9 := hP.sub (ws' := [(q_this, .inr (12, [.ref q_town, .ref q_read, .ref q_now, .ref q_aside, .ref q_past, .int v_undos, .ref q_images, .ref q_kept, .long v_seed, .ref q_text, .int v_size, .int v_fault, .ref q_sights, .int v_sightMany, .ref q_book, .int v_bookMany, .int v_at, .int v_begin, .int v_sign, .int v_figures, .int v_value, .int v_wrong, .ref q_went, .ref q_free, .ref q_stands])), (q_town, .inl (cI, 27, .inl v_town)), (q_now, .inl (cI, 19, .inl v_now))]) [0, 1, 2] rfl
                    have hD9 := hD.sub (ws' := [(q_this, .inr (12, [.ref q_town, .ref q_read, .ref q_now, .ref q_aside, .ref q_past, .int v_undos, .ref q_images, .ref q_kept, .long v_seed, .ref q_text, .int v_size, .int v_fault, .ref q_sights, .int v_sightMany, .ref q_book, .int v_bookMany, .int v_at, .int v_begin, .int v_sign, .int v_figures, .int v_value, .int v_wrong, .ref q_went, .ref q_free, .ref q_stands])), (q_town, .inl (cI, 27, .inl v_town)), (q_now, .inl (cI, 19, .inl v_now))]) [0, 1, 2] (by decide) rfl
                    rw [hQ]
                    exact W.iret (v := (v_now (Int32.toNatClampNeg 18))) hx hb hr (fun t ht hW => ⟨⟨(v_now (Int32.toNatClampNeg 18)), (), rfl, rfl, by rw [ht]; exact hP9, va_K.moved hW.alike hK, hD9⟩, hS.F ht⟩) hS.2.2 dX12_told_128
                  · have hrun := oz_f hrun c13
                    rcases Decidable.em (a1 = 9) with c14 | c14
                    · have hrun := oz_t hrun c14
                      refine lv_tableIn (off := 128) (tgt := 129) hx hb dX12_told_1 (by rw [c14]; decide) (by rw [c14]; decide) (by rw [c14]; rfl) (by decide) ?_
                      refine lv_aload_n hx hb dX12_told_129 rfl (lv_at hl 0 rfl) ?_
                      obtain ⟨y130, hc130, hrun⟩ := oz_bind hrun
                      have hPc := hP.sub (ws' := [(q_this, .inr (12, [.ref q_town, .ref q_read, .ref q_now, .ref q_aside, .ref q_past, .int v_undos, .ref q_images, .ref q_kept, .long v_seed, .ref q_text, .int v_size, .int v_fault, .ref q_sights, .int v_sightMany, .ref q_book, .int v_bookMany, .int v_at, .int v_begin, .int v_sign, .int v_figures, .int v_value, .int v_wrong, .ref q_went, .ref q_free, .ref q_stands])), (q_now, .inl (cI, 19, .inl v_now))]) [0, 2] rfl
                      have hDc := hD.sub (ws' := [(q_this, .inr (12, [.ref q_town, .ref q_read, .ref q_now, .ref q_aside, .ref q_past, .int v_undos, .ref q_images, .ref q_kept, .long v_seed, .ref q_text, .int v_size, .int v_fault, .ref q_sights, .int v_sightMany, .ref q_book, .int v_bookMany, .int v_at, .int v_begin, .int v_sign, .int v_figures, .int v_value, .int v_wrong, .ref q_went, .ref q_free, .ref q_stands])), (q_now, .inl (cI, 19, .inl v_now))]) [0, 2] (by decide) rfl
                      have hFc := va_free (wc := [(q_this, .inr (12, [.ref q_town, .ref q_read, .ref q_now, .ref q_aside, .ref q_past, .int v_undos, .ref q_images, .ref q_kept, .long v_seed, .ref q_text, .int v_size, .int v_fault, .ref q_sights, .int v_sightMany, .ref q_book, .int v_bookMany, .int v_at, .int v_begin, .int v_sign, .int v_figures, .int v_value, .int v_wrong, .ref q_went, .ref q_free, .ref q_stands])), (q_now, .inl (cI, 19, .inl v_now))]) hD hS hA [0, 2] rfl
                      refine va_calli (va_runV (As := []) (rest := []) ⟨hx, hb, hml, hown, hts⟩ (tX12_awayOnes l dC dI cI cZ q_aside q_book q_free q_images q_kept q_now q_past q_read q_sights q_stands q_text q_this q_town q_went s.heap.size v_undos v_seed v_size v_fault v_sightMany v_bookMany v_at v_begin v_sign v_figures v_value v_wrong v_now y130 hc130) (cwV 0 hts gX12_told_X12_awayOnes rfl rfl rfl (by decide +kernel) ⟨Nat.le_of_ble_eq_true rfl, Nat.le_of_ble_eq_true rfl⟩) ⟨fun a U g mk q => by obtain ⟨q0, q1, qP, qK, qD⟩ := q; exact ⟨q0, q1, qP, va_K.moved (u := U) (U := U.calling g mk a) (Vm.Alike.refl U.vm) qK, qD⟩, va_recv hK hPc (ci := 12) (q0 := 0) rfl rfl, fun U hU hW => ⟨rfl, by rw [hU], by rw [hU]; exact hPc, va_K.moved hW.alike hK, hDc.weaken (fun _ _ _ _ => trivial)⟩⟩ rfl rfl hl.1 rfl (lv_room (Nat.le_of_ble_eq_true rfl)) dX12_told_130 ⟨Nat.le_of_ble_eq_true rfl, Nat.le_of_ble_eq_true rfl⟩) hS (fun q _ h => hFc q h) hFc (fun r130 u9 t9 H1 locs ht9 hvm9 hw9 hB9 hz9 hkk9 hS => ?_)
                      have hw9 : y130 = r130 := hw9.symm
                      subst hw9
                      obtain ⟨hP9, hK9, hD9⟩ := hB9
                      rw [ht9] at hP9
                      obtain ⟨hP, hD⟩ := va_join (wr := [(q_town, .inl (cI, 27, .inl v_town))]) (w1 := [(q_this, .inr (12, [.ref q_town, .ref q_read, .ref q_now, .ref q_aside, .ref q_past, .int v_undos, .ref q_images, .ref q_kept, .long v_seed, .ref q_text, .int v_size, .int v_fault, .ref q_sights, .int v_sightMany, .ref q_book, .int v_bookMany, .int v_at, .int v_begin, .int v_sign, .int v_figures, .int v_value, .int v_wrong, .ref q_went, .ref q_free, .ref q_stands])), (q_now, .inl (cI, 19, .inl v_now))]) hP hD [0, 2] [1] rfl rfl (by decide) (by decide) hkk9 hFc hP9 hD9
                      generalize H1 = H at hP hS ⊢
                      have hP : va_P (dC, dI) vwCl [(q_town, .inl (cI, 27, .inl v_town)), (q_this, .inr (12, [.ref q_town, .ref q_read, .ref q_now, .ref q_aside, .ref q_past, .int v_undos, .ref q_images, .ref q_kept, .long v_seed, .ref q_text, .int v_size, .int v_fault, .ref q_sights, .int v_sightMany, .ref q_book, .int v_bookMany, .int v_at, .int v_begin, .int v_sign, .int v_figures, .int v_value, .int v_wrong, .ref q_went, .ref q_free, .ref q_stands])), (q_now, .inl (cI, 19, .inl v_now))] H := hP
                      have hD : va_D A [(q_town, .inl (cI, 27, .inl v_town)), (q_this, .inr (12, [.ref q_town, .ref q_read, .ref q_now, .ref q_aside, .ref q_past, .int v_undos, .ref q_images, .ref q_kept, .long v_seed, .ref q_text, .int v_size, .int v_fault, .ref q_sights, .int v_sightMany, .ref q_book, .int v_bookMany, .int v_at, .int v_begin, .int v_sign, .int v_figures, .int v_value, .int v_wrong, .ref q_went, .ref q_free, .ref q_stands])), (q_now, .inl (cI, 19, .inl v_now))] := hD
                      have ho9 := Option.some.inj hrun
                      subst ho9
                      have hP9 := hP.sub (ws' := [(q_this, .inr (12, [.ref q_town, .ref q_read, .ref q_now, .ref q_aside, .ref q_past, .int v_undos, .ref q_images, .ref q_kept, .long v_seed, .ref q_text, .int v_size, .int v_fault, .ref q_sights, .int v_sightMany, .ref q_book, .int v_bookMany, .int v_at, .int v_begin, .int v_sign, .int v_figures, .int v_value, .int v_wrong, .ref q_went, .ref q_free, .ref q_stands])), (q_town, .inl (cI, 27, .inl v_town)), (q_now, .inl (cI, 19, .inl v_now))]) [1, 0, 2] rfl
                      have hD9 := hD.sub (ws' := [(q_this, .inr (12, [.ref q_town, .ref q_read, .ref q_now, .ref q_aside, .ref q_past, .int v_undos, .ref q_images, .ref q_kept, .long v_seed, .ref q_text, .int v_size, .int v_fault, .ref q_sights, .int v_sightMany, .ref q_book, .int v_bookMany, .int v_at, .int v_begin, .int v_sign, .int v_figures, .int v_value, .int v_wrong, .ref q_went, .ref q_free, .ref q_stands])), (q_town, .inl (cI, 27, .inl v_town)), (q_now, .inl (cI, 19, .inl v_now))]) [1, 0, 2] (by decide) rfl
                      rw [hQ]
                      exact W.iret (v := y130) hx hb hr (fun t ht hW => ⟨⟨y130, (), rfl, rfl, by rw [ht]; exact hP9, va_K.moved hW.alike hK, hD9⟩, hS.F ht⟩) hS.2.2 dX12_told_133
                    · have hrun := oz_f hrun c14
                      rcases Decidable.em (a1 = 10) with c15 | c15
                      · have hrun := oz_t hrun c15
                        refine lv_tableIn (off := 133) (tgt := 134) hx hb dX12_told_1 (by rw [c15]; decide) (by rw [c15]; decide) (by rw [c15]; rfl) (by decide) ?_
                        refine lv_aload_n hx hb dX12_told_134 rfl (lv_at hl 0 rfl) ?_
                        refine va_get (D := (dC, dI)) (ci := 12) (v := .int v_sightMany) (C := RX12) (T := TX12) (N := 25) hx hb hts hiX12 hown hK hP 0 rfl rfl 13 (by decide) hk57 (fun _ h9 => h9) rfl dX12_told_135 ?_
                        have ho9 := Option.some.inj hrun
                        subst ho9
                        have hP9 := hP.sub (ws' := [(q_this, .inr (12, [.ref q_town, .ref q_read, .ref q_now, .ref q_aside, .ref q_past, .int v_undos, .ref q_images, .ref q_kept, .long v_seed, .ref q_text, .int v_size, .int v_fault, .ref q_sights, .int v_sightMany, .ref q_book, .int v_bookMany, .int v_at, .int v_begin, .int v_sign, .int v_figures, .int v_value, .int v_wrong, .ref q_went, .ref q_free, .ref q_stands])), (q_town, .inl (cI, 27, .inl v_town)), (q_now, .inl (cI, 19, .inl v_now))]) [0, 1, 2] rfl
                        have hD9 := hD.sub (ws' := [(q_this, .inr (12, [.ref q_town, .ref q_read, .ref q_now, .ref q_aside, .ref q_past, .int v_undos, .ref q_images, .ref q_kept, .long v_seed, .ref q_text, .int v_size, .int v_fault, .ref q_sights, .int v_sightMany, .ref q_book, .int v_bookMany, .int v_at, .int v_begin, .int v_sign, .int v_figures, .int v_value, .int v_wrong, .ref q_went, .ref q_free, .ref q_stands])), (q_town, .inl (cI, 27, .inl v_town)), (q_now, .inl (cI, 19, .inl v_now))]) [0, 1, 2] (by decide) rfl
                        rw [hQ]
                        exact W.iret (v := v_sightMany) hx hb hr (fun t ht hW => ⟨⟨v_sightMany, (), rfl, rfl, by rw [ht]; exact hP9, va_K.moved hW.alike hK, hD9⟩, hS.F ht⟩) hS.2.2 dX12_told_138
                      · have hrun := oz_f hrun c15
                        rcases Decidable.em (a1 = 11) with c16 | c16
                        · have hrun := oz_t hrun c16
                          refine lv_tableIn (off := 138) (tgt := 139) hx hb dX12_told_1 (by rw [c16]; decide) (by rw [c16]; decide) (by rw [c16]; rfl) (by decide) ?_
                          refine lv_aload_n hx hb dX12_told_139 rfl (lv_at hl 0 rfl) ?_
                          refine va_get (D := (dC, dI)) (ci := 12) (v := .int v_bookMany) (C := RX12) (T := TX12) (N := 25) hx hb hts hiX12 hown hK hP 0 rfl rfl 15 (by decide) hk60 (fun _ h9 => h9) rfl dX12_told_140 ?_
                          have ho9 := Option.some.inj hrun
                          subst ho9
                          have hP9 := hP.sub (ws' := [(q_this, .inr (12, [.ref q_town, .ref q_read, .ref q_now, .ref q_aside, .ref q_past, .int v_undos, .ref q_images, .ref q_kept, .long v_seed, .ref q_text, .int v_size, .int v_fault, .ref q_sights, .int v_sightMany, .ref q_book, .int v_bookMany, .int v_at, .int v_begin, .int v_sign, .int v_figures, .int v_value, .int v_wrong, .ref q_went, .ref q_free, .ref q_stands])), (q_town, .inl (cI, 27, .inl v_town)), (q_now, .inl (cI, 19, .inl v_now))]) [0, 1, 2] rfl
                          have hD9 := hD.sub (ws' := [(q_this, .inr (12, [.ref q_town, .ref q_read, .ref q_now, .ref q_aside, .ref q_past, .int v_undos, .ref q_images, .ref q_kept, .long v_seed, .ref q_text, .int v_size, .int v_fault, .ref q_sights, .int v_sightMany, .ref q_book, .int v_bookMany, .int v_at, .int v_begin, .int v_sign, .int v_figures, .int v_value, .int v_wrong, .ref q_went, .ref q_free, .ref q_stands])), (q_town, .inl (cI, 27, .inl v_town)), (q_now, .inl (cI, 19, .inl v_now))]) [0, 1, 2] (by decide) rfl
                          rw [hQ]
                          exact W.iret (v := v_bookMany) hx hb hr (fun t ht hW => ⟨⟨v_bookMany, (), rfl, rfl, by rw [ht]; exact hP9, va_K.moved hW.alike hK, hD9⟩, hS.F ht⟩) hS.2.2 dX12_told_143
                        · have hrun := oz_f hrun c16
                          rcases Decidable.em (a1 = 12) with c17 | c17
                          · have hrun := oz_t hrun c17
                            refine lv_tableIn (off := 143) (tgt := 144) hx hb dX12_told_1 (by rw [c17]; decide) (by rw [c17]; decide) (by rw [c17]; rfl) (by decide) ?_
                            refine lv_aload_n hx hb dX12_told_144 rfl (lv_at hl 0 rfl) ?_
                            refine va_get (D := (dC, dI)) (ci := 12) (v := .int v_undos) (C := RX12) (T := TX12) (N := 25) hx hb hts hiX12 hown hK hP 0 rfl rfl 5 (by decide) hk54 (fun _ h9 => h9) rfl dX12_told_145 ?_
                            have ho9 := Option.some.inj hrun
                            subst ho9
                            have hP9 := hP.sub (ws' := [(q_this, .inr (12, [.ref q_town, .ref q_read, .ref q_now, .ref q_aside, .ref q_past, .int v_undos, .ref q_images, .ref q_kept, .long v_seed, .ref q_text, .int v_size, .int v_fault, .ref q_sights, .int v_sightMany, .ref q_book, .int v_bookMany, .int v_at, .int v_begin, .int v_sign, .int v_figures, .int v_value, .int v_wrong, .ref q_went, .ref q_free, .ref q_stands])), (q_town, .inl (cI, 27, .inl v_town)), (q_now, .inl (cI, 19, .inl v_now))]) [0, 1, 2] rfl
                            have hD9 := hD.sub (ws' := [(q_this, .inr (12, [.ref q_town, .ref q_read, .ref q_now, .ref q_aside, .ref q_past, .int v_undos, .ref q_images, .ref q_kept, .long v_seed, .ref q_text, .int v_size, .int v_fault, .ref q_sights, .int v_sightMany, .ref q_book, .int v_bookMany, .int v_at, .int v_begin, .int v_sign, .int v_figures, .int v_value, .int v_wrong, .ref q_went, .ref q_free, .ref q_stands])), (q_town, .inl (cI, 27, .inl v_town)), (q_now, .inl (cI, 19, .inl v_now))]) [0, 1, 2] (by decide) rfl
                            rw [hQ]
                            exact W.iret (v := v_undos) hx hb hr (fun t ht hW => ⟨⟨v_undos, (), rfl, rfl, by rw [ht]; exact hP9, va_K.moved hW.alike hK, hD9⟩, hS.F ht⟩) hS.2.2 dX12_told_148
                          · have hrun := oz_f hrun c17
                            refine lv_tableOut (tgt := 149) hx hb dX12_told_1 (oz_tab a1 13 (fun k9 h9 => by rcases (show k9 = 0 ∨ k9 = 1 ∨ k9 = 2 ∨ k9 = 3 ∨ k9 = 4 ∨ k9 = 5 ∨ k9 = 6 ∨ k9 = 7 ∨ k9 = 8 ∨ k9 = 9 ∨ k9 = 10 ∨ k9 = 11 ∨ k9 = 12 by omega) with rfl | rfl | rfl | rfl | rfl | rfl | rfl | rfl | rfl | rfl | rfl | rfl | rfl <;> assumption) (by decide)) (by decide) ?_
                            refine lv_ldc hx hb hown hk69 dX12_told_149 ?_
                            have ho9 := Option.some.inj hrun
                            subst ho9
                            have hP9 := hP.sub (ws' := [(q_this, .inr (12, [.ref q_town, .ref q_read, .ref q_now, .ref q_aside, .ref q_past, .int v_undos, .ref q_images, .ref q_kept, .long v_seed, .ref q_text, .int v_size, .int v_fault, .ref q_sights, .int v_sightMany, .ref q_book, .int v_bookMany, .int v_at, .int v_begin, .int v_sign, .int v_figures, .int v_value, .int v_wrong, .ref q_went, .ref q_free, .ref q_stands])), (q_town, .inl (cI, 27, .inl v_town)), (q_now, .inl (cI, 19, .inl v_now))]) [0, 1, 2] rfl
                            have hD9 := hD.sub (ws' := [(q_this, .inr (12, [.ref q_town, .ref q_read, .ref q_now, .ref q_aside, .ref q_past, .int v_undos, .ref q_images, .ref q_kept, .long v_seed, .ref q_text, .int v_size, .int v_fault, .ref q_sights, .int v_sightMany, .ref q_book, .int v_bookMany, .int v_at, .int v_begin, .int v_sign, .int v_figures, .int v_value, .int v_wrong, .ref q_went, .ref q_free, .ref q_stands])), (q_town, .inl (cI, 27, .inl v_town)), (q_now, .inl (cI, 19, .inl v_now))]) [0, 1, 2] (by decide) rfl
                            rw [hQ]
                            exact W.iret (v := (-1000000002)) hx hb hr (fun t ht hW => ⟨⟨(-1000000002), (), rfl, rfl, by rw [ht]; exact hP9, va_K.moved hW.alike hK, hD9⟩, hS.F ht⟩) hS.2.2 dX12_told_151
def fX12_house (v_town : Nat → Int32) (v_now : Nat → Int32) (a1 : Int32) (a2 : Int32) : Option (Int32) :=
  Option.bind (fX12_isHouse v_town a1) (fun y2 => if y2 = 0 then (some (-1000000001)) else (if a2 = 0 then (if ((3 + a1) < 0 ∨ 27 ≤ Int32.toNatClampNeg (3 + a1)) then none else some (v_town (Int32.toNatClampNeg (3 + a1)))) else if a2 = 1 then (if ((11 + a1) < 0 ∨ 27 ≤ Int32.toNatClampNeg (11 + a1)) then none else some (v_town (Int32.toNatClampNeg (11 + a1)))) else if a2 = 2 then (if ((19 + a1) < 0 ∨ 27 ≤ Int32.toNatClampNeg (19 + a1)) then none else some (v_town (Int32.toNatClampNeg (19 + a1)))) else if a2 = 3 then (if ((0 + a1) < 0 ∨ 19 ≤ Int32.toNatClampNeg (0 + a1)) then none else some (v_now (Int32.toNatClampNeg (0 + a1)))) else if a2 = 4 then (if ((8 + a1) < 0 ∨ 19 ≤ Int32.toNatClampNeg (8 + a1)) then none else some (v_now (Int32.toNatClampNeg (8 + a1)))) else if a2 = 5 then (Option.bind (fX12_above v_town a1) (fun y102 => some y102)) else (some (-1000000002))))
def rmX12_house : Room := { frames := 2, cells := 0, slots := 0, locals := 46 }
set_option maxHeartbeats 4000000 in
set_option maxRecDepth 100000 in
theorem tX12_house (l : Launch) (dC : Nat → ClassId) (dI : Nat → Nat → Nat) (cI cZ : ClassId) (q_aside q_book q_free q_images q_kept q_now q_past q_read q_sights q_stands q_text q_this q_town q_went : Nat) (sz : Nat) (v_undos : Int32) (v_seed : Int64) (v_size : Int32) (v_fault : Int32) (v_sightMany : Int32) (v_bookMany : Int32) (v_at : Int32) (v_begin : Int32) (v_sign : Int32) (v_figures : Int32) (v_value : Int32) (v_wrong : Int32) (v_town : Nat → Int32) (v_now : Nat → Int32) (a1 : Int32) (a2 : Int32) (out : Int32) (hrun : fX12_house v_town v_now a1 a2 = some out) : Met l yX12_house wsX12_house rmX12_house (va_Pc [.ref q_this, .int a1, .int a2] (fun U => U.heap.size = sz ∧ va_P (dC, dI) vwCl [(q_this, .inr (12, [.ref q_town, .ref q_read, .ref q_now, .ref q_aside, .ref q_past, .int v_undos, .ref q_images, .ref q_kept, .long v_seed, .ref q_text, .int v_size, .int v_fault, .ref q_sights, .int v_sightMany, .ref q_book, .int v_bookMany, .int v_at, .int v_begin, .int v_sign, .int v_figures, .int v_value, .int v_wrong, .ref q_went, .ref q_free, .ref q_stands])), (q_town, .inl (cI, 27, .inl v_town)), (q_now, .inl (cI, 19, .inl v_now))] U.heap ∧ va_K (dC, dI) vwCl [(cI, .int), (cZ, .boolean)] U ∧ va_D (fun _ => True) [(q_this, .inr (12, [.ref q_town, .ref q_read, .ref q_now, .ref q_aside, .ref q_past, .int v_undos, .ref q_images, .ref q_kept, .long v_seed, .ref q_text, .int v_size, .int v_fault, .ref q_sights, .int v_sightMany, .ref q_book, .int v_bookMany, .int v_at, .int v_begin, .int v_sign, .int v_figures, .int v_value, .int v_wrong, .ref q_went, .ref q_free, .ref q_stands])), (q_town, .inl (cI, 27, .inl v_town)), (q_now, .inl (cI, 19, .inl v_now))])) (va_Qi (fun (r : Int32) (_ : Unit) => r = out) (fun _ t => va_P (dC, dI) vwCl [(q_this, .inr (12, [.ref q_town, .ref q_read, .ref q_now, .ref q_aside, .ref q_past, .int v_undos, .ref q_images, .ref q_kept, .long v_seed, .ref q_text, .int v_size, .int v_fault, .ref q_sights, .int v_sightMany, .ref q_book, .int v_bookMany, .int v_at, .int v_begin, .int v_sign, .int v_figures, .int v_value, .int v_wrong, .ref q_went, .ref q_free, .ref q_stands])), (q_town, .inl (cI, 27, .inl v_town)), (q_now, .inl (cI, 19, .inl v_now))] t.heap ∧ va_K (dC, dI) vwCl [(cI, .int), (cZ, .boolean)] t ∧ va_D (va_A [(q_this, .inr (12, [.ref q_town, .ref q_read, .ref q_now, .ref q_aside, .ref q_past, .int v_undos, .ref q_images, .ref q_kept, .long v_seed, .ref q_text, .int v_size, .int v_fault, .ref q_sights, .int v_sightMany, .ref q_book, .int v_bookMany, .int v_at, .int v_begin, .int v_sign, .int v_figures, .int v_value, .int v_wrong, .ref q_went, .ref q_free, .ref q_stands])), (q_town, .inl (cI, 27, .inl v_town)), (q_now, .inl (cI, 19, .inl v_now))] sz) [(q_this, .inr (12, [.ref q_town, .ref q_read, .ref q_now, .ref q_aside, .ref q_past, .int v_undos, .ref q_images, .ref q_kept, .long v_seed, .ref q_text, .int v_size, .int v_fault, .ref q_sights, .int v_sightMany, .ref q_book, .int v_bookMany, .int v_at, .int v_begin, .int v_sign, .int v_figures, .int v_value, .int v_wrong, .ref q_went, .ref q_free, .ref q_stands])), (q_town, .inl (cI, 27, .inl v_town)), (q_now, .inl (cI, 19, .inl v_now))]) (va_A [(q_this, .inr (12, [.ref q_town, .ref q_read, .ref q_now, .ref q_aside, .ref q_past, .int v_undos, .ref q_images, .ref q_kept, .long v_seed, .ref q_text, .int v_size, .int v_fault, .ref q_sights, .int v_sightMany, .ref q_book, .int v_bookMany, .int v_at, .int v_begin, .int v_sign, .int v_figures, .int v_value, .int v_wrong, .ref q_went, .ref q_free, .ref q_stands])), (q_town, .inl (cI, 27, .inl v_town)), (q_now, .inl (cI, 19, .inl v_now))] sz)) 0 0 (va_A [(q_this, .inr (12, [.ref q_town, .ref q_read, .ref q_now, .ref q_aside, .ref q_past, .int v_undos, .ref q_images, .ref q_kept, .long v_seed, .ref q_text, .int v_size, .int v_fault, .ref q_sights, .int v_sightMany, .ref q_book, .int v_bookMany, .int v_at, .int v_begin, .int v_sign, .int v_figures, .int v_value, .int v_wrong, .ref q_went, .ref q_free, .ref q_stands])), (q_town, .inl (cI, 27, .inl v_town)), (q_now, .inl (cI, 19, .inl v_now))] sz) := by
  refine Met.ofW (cc := cX12_house) (maxL := 3) (ret := (some .int)) (by decide) rfl ?_
  intro p e s m args below meth c s₁ B hml hv
  obtain ⟨rfl, hsz, hP, hK, hD0⟩ := hv
  have hx := B.exec
  have hb := B.bytes
  have hr := B.returns
  have hts := atoms_spec (ws := wsX12_house) B.pre
  have hown : s.vm.findClass RX12 = some m.cls := findClass_of_methodNamed B.named
  have hlocks := B.notSynchronized
  subst hsz
  have hD := hD0.self (sz := s.heap.size)
  generalize hAe : va_A [(q_this, .inr (12, [.ref q_town, .ref q_read, .ref q_now, .ref q_aside, .ref q_past, .int v_undos, .ref q_images, .ref q_kept, .long v_seed, .ref q_text, .int v_size, .int v_fault, .ref q_sights, .int v_sightMany, .ref q_book, .int v_bookMany, .int v_at, .int v_begin, .int v_sign, .int v_figures, .int v_value, .int v_wrong, .ref q_went, .ref q_free, .ref q_stands])), (q_town, .inl (cI, 27, .inl v_town)), (q_now, .inl (cI, 19, .inl v_now))] s.heap.size = A at hD ⊢
  have hA : ∀ q : Nat, s.heap.size ≤ q → A q := fun q h => by rw [← hAe]; exact Or.inr h
  have hS : va_S A s.heap s.heap [] := va_S.rf
  have hl := lv_entry ([.ref q_this, .int a1, .int a2]) (n := 3) (Nat.le_of_ble_eq_true rfl)
  rw [lg_entry_eq]
  generalize (lg_sl ([.ref q_this, .int a1, .int a2]) ++ List.replicate (3 - (lg_sl ([.ref q_this, .int a1, .int a2])).length) Slot.unset).toArray = ls at hl ⊢
  have hl : lv_has ls 3 [(0, .ref q_this), (1, .int a1), (2, .int a2)] := hl
  unfold fX12_house at hrun
  have hk7 := hts (.fieldLink RX12 7 "LentDrainsModel" "town" "[I") (by decide +kernel)
  have hiX12 : ∀ w ∈ wsX120, w ∈ wsX12_house := by decide +kernel
  have hk16 := hts (.fieldLink RX12 16 "LentDrainsModel" "now" "[I") (by decide +kernel)
  have hk69 := hts (.constant RX12 69 (-1000000002)) (by decide +kernel)
  have hk151 := hts (.constant RX12 151 (-1000000001)) (by decide +kernel)
  refine oz_genQ (fun Q hQ => ?_)
  refine lv_aload_n hx hb dX12_house_0 rfl (lv_at hl 0 rfl) ?_
  refine lv_iload_n hx hb dX12_house_1 rfl (lv_at hl 1 rfl) ?_
  obtain ⟨y2, hc2, hrun⟩ := oz_bind hrun
  have hPc := hP.sub (ws' := [(q_this, .inr (12, [.ref q_town, .ref q_read, .ref q_now, .ref q_aside, .ref q_past, .int v_undos, .ref q_images, .ref q_kept, .long v_seed, .ref q_text, .int v_size, .int v_fault, .ref q_sights, .int v_sightMany, .ref q_book, .int v_bookMany, .int v_at, .int v_begin, .int v_sign, .int v_figures, .int v_value, .int v_wrong, .ref q_went, .ref q_free, .ref q_stands])), (q_town, .inl (cI, 27, .inl v_town))]) [0, 1] rfl
  have hDc := hD.sub (ws' := [(q_this, .inr (12, [.ref q_town, .ref q_read, .ref q_now, .ref q_aside, .ref q_past, .int v_undos, .ref q_images, .ref q_kept, .long v_seed, .ref q_text, .int v_size, .int v_fault, .ref q_sights, .int v_sightMany, .ref q_book, .int v_bookMany, .int v_at, .int v_begin, .int v_sign, .int v_figures, .int v_value, .int v_wrong, .ref q_went, .ref q_free, .ref q_stands])), (q_town, .inl (cI, 27, .inl v_town))]) [0, 1] (by decide) rfl
  have hFc := va_free (wc := [(q_this, .inr (12, [.ref q_town, .ref q_read, .ref q_now, .ref q_aside, .ref q_past, .int v_undos, .ref q_images, .ref q_kept, .long v_seed, .ref q_text, .int v_size, .int v_fault, .ref q_sights, .int v_sightMany, .ref q_book, .int v_bookMany, .int v_at, .int v_begin, .int v_sign, .int v_figures, .int v_value, .int v_wrong, .ref q_went, .ref q_free, .ref q_stands])), (q_town, .inl (cI, 27, .inl v_town))]) hD hS hA [0, 1] rfl
  refine va_calli (va_runV (As := [.int a1]) (rest := []) ⟨hx, hb, hml, hown, hts⟩ (tX12_isHouse l dC dI cI cZ q_aside q_book q_free q_images q_kept q_now q_past q_read q_sights q_stands q_text q_this q_town q_went s.heap.size v_undos v_seed v_size v_fault v_sightMany v_bookMany v_at v_begin v_sign v_figures v_value v_wrong v_town a1 y2 hc2) (cwV 1 hts gX12_house_X12_isHouse rfl rfl rfl (by decide +kernel) ⟨Nat.le_of_ble_eq_true rfl, Nat.le_of_ble_eq_true rfl⟩) ⟨fun a U g mk q => by obtain ⟨q0, q1, qP, qK, qD⟩ := q; exact ⟨q0, q1, qP, va_K.moved (u := U) (U := U.calling g mk a) (Vm.Alike.refl U.vm) qK, qD⟩, va_recv hK hPc (ci := 12) (q0 := 0) rfl rfl, fun U hU hW => ⟨rfl, by rw [hU], by rw [hU]; exact hPc, va_K.moved hW.alike hK, hDc.weaken (fun _ _ _ _ => trivial)⟩⟩ rfl rfl hl.1 rfl (lv_room (Nat.le_of_ble_eq_true rfl)) dX12_house_2 ⟨Nat.le_of_ble_eq_true rfl, Nat.le_of_ble_eq_true rfl⟩) hS (fun q _ h => hFc q h) hFc (fun r2 u9 t9 H1 locs ht9 hvm9 hw9 hB9 hz9 hkk9 hS => ?_)
  have hw9 : y2 = r2 := hw9.symm
  subst hw9
  obtain ⟨hP9, hK9, hD9⟩ := hB9
  rw [ht9] at hP9
  obtain ⟨hP, hD⟩ := va_join (wr := [(q_now, .inl (cI, 19, .inl v_now))]) (w1 := [(q_this, .inr (12, [.ref q_town, .ref q_read, .ref q_now, .ref q_aside, .ref q_past, .int v_undos, .ref q_images, .ref q_kept, .long v_seed, .ref q_text, .int v_size, .int v_fault, .ref q_sights, .int v_sightMany, .ref q_book, .int v_bookMany, .int v_at, .int v_begin, .int v_sign, .int v_figures, .int v_value, .int v_wrong, .ref q_went, .ref q_free, .ref q_stands])), (q_town, .inl (cI, 27, .inl v_town))]) hP hD [0, 1] [2] rfl rfl (by decide) (by decide) hkk9 hFc hP9 hD9
  generalize H1 = H at hP hS ⊢
  have hP : va_P (dC, dI) vwCl [(q_now, .inl (cI, 19, .inl v_now)), (q_this, .inr (12, [.ref q_town, .ref q_read, .ref q_now, .ref q_aside, .ref q_past, .int v_undos, .ref q_images, .ref q_kept, .long v_seed, .ref q_text, .int v_size, .int v_fault, .ref q_sights, .int v_sightMany, .ref q_book, .int v_bookMany, .int v_at, .int v_begin, .int v_sign, .int v_figures, .int v_value, .int v_wrong, .ref q_went, .ref q_free, .ref q_stands])), (q_town, .inl (cI, 27, .inl v_town))] H := hP
  have hD : va_D A [(q_now, .inl (cI, 19, .inl v_now)), (q_this, .inr (12, [.ref q_town, .ref q_read, .ref q_now, .ref q_aside, .ref q_past, .int v_undos, .ref q_images, .ref q_kept, .long v_seed, .ref q_text, .int v_size, .int v_fault, .ref q_sights, .int v_sightMany, .ref q_book, .int v_bookMany, .int v_at, .int v_begin, .int v_sign, .int v_figures, .int v_value, .int v_wrong, .ref q_went, .ref q_free, .ref q_stands])), (q_town, .inl (cI, 27, .inl v_town))] := hD
  refine lv_if_ne (tgt := 11) hx hb dX12_house_5 (by decide) (fun c1 => ?_) (fun c1 => ?_)
  · have hrun := oz_f hrun c1
    refine lv_iload_n hx hb dX12_house_11 rfl (lv_at hl 2 rfl) ?_
    rcases Decidable.em (a2 = 0) with c2 | c2
    · have hrun := oz_t hrun c2
      refine lv_tableIn (off := 40) (tgt := 52) hx hb dX12_house_12 (by rw [c2]; decide) (by rw [c2]; decide) (by rw [c2]; rfl) (by decide) ?_
      refine lv_aload_n hx hb dX12_house_52 rfl (lv_at hl 0 rfl) ?_
      refine va_get (D := (dC, dI)) (ci := 12) (v := .ref q_town) (C := RX12) (T := TX12) (N := 25) hx hb hts hiX12 hown hK hP 1 rfl rfl 0 (by decide) hk7 (fun _ h9 => h9) rfl dX12_house_53 ?_
      refine lv_iconst (v := 3) hx hb dX12_house_56 (by decide) ?_
      refine lv_iload_n hx hb dX12_house_57 rfl (lv_at hl 1 rfl) ?_
      refine lv_iadd hx hb dX12_house_58 ?_
      obtain ⟨c3, hrun⟩ := oz_chk hrun
      refine va_iald hx hb hK hP 2 0 rfl rfl c3 dX12_house_59 ?_
      have ho9 := Option.some.inj hrun
      subst ho9
      have hP9 := hP.sub (ws' := [(q_this, .inr (12, [.ref q_town, .ref q_read, .ref q_now, .ref q_aside, .ref q_past, .int v_undos, .ref q_images, .ref q_kept, .long v_seed, .ref q_text, .int v_size, .int v_fault, .ref q_sights, .int v_sightMany, .ref q_book, .int v_bookMany, .int v_at, .int v_begin, .int v_sign, .int v_figures, .int v_value, .int v_wrong, .ref q_went, .ref q_free, .ref q_stands])), (q_town, .inl (cI, 27, .inl v_town)), (q_now, .inl (cI, 19, .inl v_now))]) [1, 2, 0] rfl
      have hD9 := hD.sub (ws' := [(q_this, .inr (12, [.ref q_town, .ref q_read, .ref q_now, .ref q_aside, .ref q_past, .int v_undos, .ref q_images, .ref q_kept, .long v_seed, .ref q_text, .int v_size, .int v_fault, .ref q_sights, .int v_sightMany, .ref q_book, .int v_bookMany, .int v_at, .int v_begin, .int v_sign, .int v_figures, .int v_value, .int v_wrong, .ref q_went, .ref q_free, .ref q_stands])), (q_town, .inl (cI, 27, .inl v_town)), (q_now, .inl (cI, 19, .inl v_now))]) [1, 2, 0] (by decide) rfl
      rw [hQ]
      exact W.iret (v := (v_town (Int32.toNatClampNeg (3 + a1)))) hx hb hr (fun t ht hW => ⟨⟨(v_town (Int32.toNatClampNeg (3 + a1))), (), rfl, rfl, by rw [ht]; exact hP9, va_K.moved hW.alike hK, hD9⟩, hS.F ht⟩) hS.2.2 dX12_house_60
    · have hrun := oz_f hrun c2
      rcases Decidable.em (a2 = 1) with c4 | c4
      · have hrun := oz_t hrun c4
        refine lv_tableIn (off := 49) (tgt := 61) hx hb dX12_house_12 (by rw [c4]; decide) (by rw [c4]; decide) (by rw [c4]; rfl) (by decide) ?_
        refine lv_aload_n hx hb dX12_house_61 rfl (lv_at hl 0 rfl) ?_
        refine va_get (D := (dC, dI)) (ci := 12) (v := .ref q_town) (C := RX12) (T := TX12) (N := 25) hx hb hts hiX12 hown hK hP 1 rfl rfl 0 (by decide) hk7 (fun _ h9 => h9) rfl dX12_house_62 ?_
        refine lv_bipush (v := 11) hx hb dX12_house_65 (by decide) ?_
        refine lv_iload_n hx hb dX12_house_67 rfl (lv_at hl 1 rfl) ?_
        refine lv_iadd hx hb dX12_house_68 ?_
        obtain ⟨c5, hrun⟩ := oz_chk hrun
        refine va_iald hx hb hK hP 2 0 rfl rfl c5 dX12_house_69 ?_
        have ho9 := Option.some.inj hrun
        subst ho9
        have hP9 := hP.sub (ws' := [(q_this, .inr (12, [.ref q_town, .ref q_read, .ref q_now, .ref q_aside, .ref q_past, .int v_undos, .ref q_images, .ref q_kept, .long v_seed, .ref q_text, .int v_size, .int v_fault, .ref q_sights, .int v_sightMany, .ref q_book, .int v_bookMany, .int v_at, .int v_begin, .int v_sign, .int v_figures, .int v_value, .int v_wrong, .ref q_went, .ref q_free, .ref q_stands])), (q_town, .inl (cI, 27, .inl v_town)), (q_now, .inl (cI, 19, .inl v_now))]) [1, 2, 0] rfl
        have hD9 := hD.sub (ws' := [(q_this, .inr (12, [.ref q_town, .ref q_read, .ref q_now, .ref q_aside, .ref q_past, .int v_undos, .ref q_images, .ref q_kept, .long v_seed, .ref q_text, .int v_size, .int v_fault, .ref q_sights, .int v_sightMany, .ref q_book, .int v_bookMany, .int v_at, .int v_begin, .int v_sign, .int v_figures, .int v_value, .int v_wrong, .ref q_went, .ref q_free, .ref q_stands])), (q_town, .inl (cI, 27, .inl v_town)), (q_now, .inl (cI, 19, .inl v_now))]) [1, 2, 0] (by decide) rfl
        rw [hQ]
        exact W.iret (v := (v_town (Int32.toNatClampNeg (11 + a1)))) hx hb hr (fun t ht hW => ⟨⟨(v_town (Int32.toNatClampNeg (11 + a1))), (), rfl, rfl, by rw [ht]; exact hP9, va_K.moved hW.alike hK, hD9⟩, hS.F ht⟩) hS.2.2 dX12_house_70
      · have hrun := oz_f hrun c4
        rcases Decidable.em (a2 = 2) with c6 | c6
        · have hrun := oz_t hrun c6
          refine lv_tableIn (off := 59) (tgt := 71) hx hb dX12_house_12 (by rw [c6]; decide) (by rw [c6]; decide) (by rw [c6]; rfl) (by decide) ?_
          refine lv_aload_n hx hb dX12_house_71 rfl (lv_at hl 0 rfl) ?_
          refine va_get (D := (dC, dI)) (ci := 12) (v := .ref q_town) (C := RX12) (T := TX12) (N := 25) hx hb hts hiX12 hown hK hP 1 rfl rfl 0 (by decide) hk7 (fun _ h9 => h9) rfl dX12_house_72 ?_
          refine lv_bipush (v := 19) hx hb dX12_house_75 (by decide) ?_
          refine lv_iload_n hx hb dX12_house_77 rfl (lv_at hl 1 rfl) ?_
          refine lv_iadd hx hb dX12_house_78 ?_
          obtain ⟨c7, hrun⟩ := oz_chk hrun
          refine va_iald hx hb hK hP 2 0 rfl rfl c7 dX12_house_79 ?_
          have ho9 := Option.some.inj hrun
          subst ho9
          have hP9 := hP.sub (ws' := [(q_this, .inr (12, [.ref q_town, .ref q_read, .ref q_now, .ref q_aside, .ref q_past, .int v_undos, .ref q_images, .ref q_kept, .long v_seed, .ref q_text, .int v_size, .int v_fault, .ref q_sights, .int v_sightMany, .ref q_book, .int v_bookMany, .int v_at, .int v_begin, .int v_sign, .int v_figures, .int v_value, .int v_wrong, .ref q_went, .ref q_free, .ref q_stands])), (q_town, .inl (cI, 27, .inl v_town)), (q_now, .inl (cI, 19, .inl v_now))]) [1, 2, 0] rfl
          have hD9 := hD.sub (ws' := [(q_this, .inr (12, [.ref q_town, .ref q_read, .ref q_now, .ref q_aside, .ref q_past, .int v_undos, .ref q_images, .ref q_kept, .long v_seed, .ref q_text, .int v_size, .int v_fault, .ref q_sights, .int v_sightMany, .ref q_book, .int v_bookMany, .int v_at, .int v_begin, .int v_sign, .int v_figures, .int v_value, .int v_wrong, .ref q_went, .ref q_free, .ref q_stands])), (q_town, .inl (cI, 27, .inl v_town)), (q_now, .inl (cI, 19, .inl v_now))]) [1, 2, 0] (by decide) rfl
          rw [hQ]
          exact W.iret (v := (v_town (Int32.toNatClampNeg (19 + a1)))) hx hb hr (fun t ht hW => ⟨⟨(v_town (Int32.toNatClampNeg (19 + a1))), (), rfl, rfl, by rw [ht]; exact hP9, va_K.moved hW.alike hK, hD9⟩, hS.F ht⟩) hS.2.2 dX12_house_80
        · have hrun := oz_f hrun c6
          rcases Decidable.em (a2 = 3) with c8 | c8
          · have hrun := oz_t hrun c8
            refine lv_tableIn (off := 69) (tgt := 81) hx hb dX12_house_12 (by rw [c8]; decide) (by rw [c8]; decide) (by rw [c8]; rfl) (by decide) ?_
            refine lv_aload_n hx hb dX12_house_81 rfl (lv_at hl 0 rfl) ?_
            refine va_get (D := (dC, dI)) (ci := 12) (v := .ref q_now) (C := RX12) (T := TX12) (N := 25) hx hb hts hiX12 hown hK hP 1 rfl rfl 2 (by decide) hk16 (fun _ h9 => h9) rfl dX12_house_82 ?_
            refine lv_iconst (v := 0) hx hb dX12_house_85 (by decide) ?_
            refine lv_iload_n hx hb dX12_house_86 rfl (lv_at hl 1 rfl) ?_
            refine lv_iadd hx hb dX12_house_87 ?_
            obtain ⟨c9, hrun⟩ := oz_chk hrun
            refine va_iald hx hb hK hP 0 0 rfl rfl c9 dX12_house_88 ?_
            have ho9 := Option.some.inj hrun
            subst ho9
            have hP9 := hP.sub (ws' := [(q_this, .inr (12, [.ref q_town, .ref q_read, .ref q_now, .ref q_aside, .ref q_past, .int v_undos, .ref q_images, .ref q_kept, .long v_seed, .ref q_text, .int v_size, .int v_fault, .ref q_sights, .int v_sightMany, .ref q_book, .int v_bookMany, .int v_at, .int v_begin, .int v_sign, .int v_figures, .int v_value, .int v_wrong, .ref q_went, .ref q_free, .ref q_stands])), (q_town, .inl (cI, 27, .inl v_town)), (q_now, .inl (cI, 19, .inl v_now))]) [1, 2, 0] rfl
            have hD9 := hD.sub (ws' := [(q_this, .inr (12, [.ref q_town, .ref q_read, .ref q_now, .ref q_aside, .ref q_past, .int v_undos, .ref q_images, .ref q_kept, .long v_seed, .ref q_text, .int v_size, .int v_fault, .ref q_sights, .int v_sightMany, .ref q_book, .int v_bookMany, .int v_at, .int v_begin, .int v_sign, .int v_figures, .int v_value, .int v_wrong, .ref q_went, .ref q_free, .ref q_stands])), (q_town, .inl (cI, 27, .inl v_town)), (q_now, .inl (cI, 19, .inl v_now))]) [1, 2, 0] (by decide) rfl
            rw [hQ]
            exact W.iret (v := (v_now (Int32.toNatClampNeg (0 + a1)))) hx hb hr (fun t ht hW => ⟨⟨(v_now (Int32.toNatClampNeg (0 + a1))), (), rfl, rfl, by rw [ht]; exact hP9, va_K.moved hW.alike hK, hD9⟩, hS.F ht⟩) hS.2.2 dX12_house_89
          · have hrun := oz_f hrun c8
            rcases Decidable.em (a2 = 4) with c10 | c10
            · have hrun := oz_t hrun c10
              refine lv_tableIn (off := 78) (tgt := 90) hx hb dX12_house_12 (by rw [c10]; decide) (by rw [c10]; decide) (by rw [c10]; rfl) (by decide) ?_
              refine lv_aload_n hx hb dX12_house_90 rfl (lv_at hl 0 rfl) ?_
              refine va_get (D := (dC, dI)) (ci := 12) (v := .ref q_now) (C := RX12) (T := TX12) (N := 25) hx hb hts hiX12 hown hK hP 1 rfl rfl 2 (by decide) hk16 (fun _ h9 => h9) rfl dX12_house_91 ?_
              refine lv_bipush (v := 8) hx hb dX12_house_94 (by decide) ?_
              refine lv_iload_n hx hb dX12_house_96 rfl (lv_at hl 1 rfl) ?_
              refine lv_iadd hx hb dX12_house_97 ?_
              obtain ⟨c11, hrun⟩ := oz_chk hrun
              refine va_iald hx hb hK hP 0 0 rfl rfl c11 dX12_house_98 ?_
              have ho9 := Option.some.inj hrun
              subst ho9
              have hP9 := hP.sub (ws' := [(q_this, .inr (12, [.ref q_town, .ref q_read, .ref q_now, .ref q_aside, .ref q_past, .int v_undos, .ref q_images, .ref q_kept, .long v_seed, .ref q_text, .int v_size, .int v_fault, .ref q_sights, .int v_sightMany, .ref q_book, .int v_bookMany, .int v_at, .int v_begin, .int v_sign, .int v_figures, .int v_value, .int v_wrong, .ref q_went, .ref q_free, .ref q_stands])), (q_town, .inl (cI, 27, .inl v_town)), (q_now, .inl (cI, 19, .inl v_now))]) [1, 2, 0] rfl
              have hD9 := hD.sub (ws' := [(q_this, .inr (12, [.ref q_town, .ref q_read, .ref q_now, .ref q_aside, .ref q_past, .int v_undos, .ref q_images, .ref q_kept, .long v_seed, .ref q_text, .int v_size, .int v_fault, .ref q_sights, .int v_sightMany, .ref q_book, .int v_bookMany, .int v_at, .int v_begin, .int v_sign, .int v_figures, .int v_value, .int v_wrong, .ref q_went, .ref q_free, .ref q_stands])), (q_town, .inl (cI, 27, .inl v_town)), (q_now, .inl (cI, 19, .inl v_now))]) [1, 2, 0] (by decide) rfl
              rw [hQ]
              exact W.iret (v := (v_now (Int32.toNatClampNeg (8 + a1)))) hx hb hr (fun t ht hW => ⟨⟨(v_now (Int32.toNatClampNeg (8 + a1))), (), rfl, rfl, by rw [ht]; exact hP9, va_K.moved hW.alike hK, hD9⟩, hS.F ht⟩) hS.2.2 dX12_house_99
            · have hrun := oz_f hrun c10
              rcases Decidable.em (a2 = 5) with c12 | c12
              · have hrun := oz_t hrun c12
                refine lv_tableIn (off := 88) (tgt := 100) hx hb dX12_house_12 (by rw [c12]; decide) (by rw [c12]; decide) (by rw [c12]; rfl) (by decide) ?_
                refine lv_aload_n hx hb dX12_house_100 rfl (lv_at hl 0 rfl) ?_
                refine lv_iload_n hx hb dX12_house_101 rfl (lv_at hl 1 rfl) ?_
                obtain ⟨y102, hc102, hrun⟩ := oz_bind hrun
                have hPc := hP.sub (ws' := [(q_this, .inr (12, [.ref q_town, .ref q_read, .ref q_now, .ref q_aside, .ref q_past, .int v_undos, .ref q_images, .ref q_kept, .long v_seed, .ref q_text, .int v_size, .int v_fault, .ref q_sights, .int v_sightMany, .ref q_book, .int v_bookMany, .int v_at, .int v_begin, .int v_sign, .int v_figures, .int v_value, .int v_wrong, .ref q_went, .ref q_free, .ref q_stands])), (q_town, .inl (cI, 27, .inl v_town))]) [1, 2] rfl
                have hDc := hD.sub (ws' := [(q_this, .inr (12, [.ref q_town, .ref q_read, .ref q_now, .ref q_aside, .ref q_past, .int v_undos, .ref q_images, .ref q_kept, .long v_seed, .ref q_text, .int v_size, .int v_fault, .ref q_sights, .int v_sightMany, .ref q_book, .int v_bookMany, .int v_at, .int v_begin, .int v_sign, .int v_figures, .int v_value, .int v_wrong, .ref q_went, .ref q_free, .ref q_stands])), (q_town, .inl (cI, 27, .inl v_town))]) [1, 2] (by decide) rfl
                have hFc := va_free (wc := [(q_this, .inr (12, [.ref q_town, .ref q_read, .ref q_now, .ref q_aside, .ref q_past, .int v_undos, .ref q_images, .ref q_kept, .long v_seed, .ref q_text, .int v_size, .int v_fault, .ref q_sights, .int v_sightMany, .ref q_book, .int v_bookMany, .int v_at, .int v_begin, .int v_sign, .int v_figures, .int v_value, .int v_wrong, .ref q_went, .ref q_free, .ref q_stands])), (q_town, .inl (cI, 27, .inl v_town))]) hD hS hA [1, 2] rfl
                refine va_calli (va_runV (As := [.int a1]) (rest := []) ⟨hx, hb, hml, hown, hts⟩ (tX12_above l dC dI cI cZ q_aside q_book q_free q_images q_kept q_now q_past q_read q_sights q_stands q_text q_this q_town q_went H.size v_undos v_seed v_size v_fault v_sightMany v_bookMany v_at v_begin v_sign v_figures v_value v_wrong v_town a1 y102 hc102) (cwV 1 hts gX12_house_X12_above rfl rfl rfl (by decide +kernel) ⟨Nat.le_of_ble_eq_true rfl, Nat.le_of_ble_eq_true rfl⟩) ⟨fun a U g mk q => by obtain ⟨q0, q1, qP, qK, qD⟩ := q; exact ⟨q0, q1, qP, va_K.moved (u := U) (U := U.calling g mk a) (Vm.Alike.refl U.vm) qK, qD⟩, va_recv hK hPc (ci := 12) (q0 := 0) rfl rfl, fun U hU hW => ⟨rfl, by rw [hU], by rw [hU]; exact hPc, va_K.moved hW.alike hK, hDc.weaken (fun _ _ _ _ => trivial)⟩⟩ rfl rfl hl.1 rfl (lv_room (Nat.le_of_ble_eq_true rfl)) dX12_house_102 ⟨Nat.le_of_ble_eq_true rfl, Nat.le_of_ble_eq_true rfl⟩) hS (fun q _ h => hFc q h) hFc (fun r102 u9 t9 H1 locs ht9 hvm9 hw9 hB9 hz9 hkk9 hS => ?_)
                have hw9 : y102 = r102 := hw9.symm
                subst hw9
                obtain ⟨hP9, hK9, hD9⟩ := hB9
                rw [ht9] at hP9
                obtain ⟨hP, hD⟩ := va_join (wr := [(q_now, .inl (cI, 19, .inl v_now))]) (w1 := [(q_this, .inr (12, [.ref q_town, .ref q_read, .ref q_now, .ref q_aside, .ref q_past, .int v_undos, .ref q_images, .ref q_kept, .long v_seed, .ref q_text, .int v_size, .int v_fault, .ref q_sights, .int v_sightMany, .ref q_book, .int v_bookMany, .int v_at, .int v_begin, .int v_sign, .int v_figures, .int v_value, .int v_wrong, .ref q_went, .ref q_free, .ref q_stands])), (q_town, .inl (cI, 27, .inl v_town))]) hP hD [1, 2] [0] rfl rfl (by decide) (by decide) hkk9 hFc hP9 hD9
                generalize H1 = H at hP hS ⊢
                have hP : va_P (dC, dI) vwCl [(q_now, .inl (cI, 19, .inl v_now)), (q_this, .inr (12, [.ref q_town, .ref q_read, .ref q_now, .ref q_aside, .ref q_past, .int v_undos, .ref q_images, .ref q_kept, .long v_seed, .ref q_text, .int v_size, .int v_fault, .ref q_sights, .int v_sightMany, .ref q_book, .int v_bookMany, .int v_at, .int v_begin, .int v_sign, .int v_figures, .int v_value, .int v_wrong, .ref q_went, .ref q_free, .ref q_stands])), (q_town, .inl (cI, 27, .inl v_town))] H := hP
                have hD : va_D A [(q_now, .inl (cI, 19, .inl v_now)), (q_this, .inr (12, [.ref q_town, .ref q_read, .ref q_now, .ref q_aside, .ref q_past, .int v_undos, .ref q_images, .ref q_kept, .long v_seed, .ref q_text, .int v_size, .int v_fault, .ref q_sights, .int v_sightMany, .ref q_book, .int v_bookMany, .int v_at, .int v_begin, .int v_sign, .int v_figures, .int v_value, .int v_wrong, .ref q_went, .ref q_free, .ref q_stands])), (q_town, .inl (cI, 27, .inl v_town))] := hD
                have ho9 := Option.some.inj hrun
                subst ho9
                have hP9 := hP.sub (ws' := [(q_this, .inr (12, [.ref q_town, .ref q_read, .ref q_now, .ref q_aside, .ref q_past, .int v_undos, .ref q_images, .ref q_kept, .long v_seed, .ref q_text, .int v_size, .int v_fault, .ref q_sights, .int v_sightMany, .ref q_book, .int v_bookMany, .int v_at, .int v_begin, .int v_sign, .int v_figures, .int v_value, .int v_wrong, .ref q_went, .ref q_free, .ref q_stands])), (q_town, .inl (cI, 27, .inl v_town)), (q_now, .inl (cI, 19, .inl v_now))]) [1, 2, 0] rfl
                have hD9 := hD.sub (ws' := [(q_this, .inr (12, [.ref q_town, .ref q_read, .ref q_now, .ref q_aside, .ref q_past, .int v_undos, .ref q_images, .ref q_kept, .long v_seed, .ref q_text, .int v_size, .int v_fault, .ref q_sights, .int v_sightMany, .ref q_book, .int v_bookMany, .int v_at, .int v_begin, .int v_sign, .int v_figures, .int v_value, .int v_wrong, .ref q_went, .ref q_free, .ref q_stands])), (q_town, .inl (cI, 27, .inl v_town)), (q_now, .inl (cI, 19, .inl v_now))]) [1, 2, 0] (by decide) rfl
                rw [hQ]
                exact W.iret (v := y102) hx hb hr (fun t ht hW => ⟨⟨y102, (), rfl, rfl, by rw [ht]; exact hP9, va_K.moved hW.alike hK, hD9⟩, hS.F ht⟩) hS.2.2 dX12_house_105
              · have hrun := oz_f hrun c12
                refine lv_tableOut (tgt := 106) hx hb dX12_house_12 (oz_tab a2 6 (fun k9 h9 => by rcases (show k9 = 0 ∨ k9 = 1 ∨ k9 = 2 ∨ k9 = 3 ∨ k9 = 4 ∨ k9 = 5 by omega) with rfl | rfl | rfl | rfl | rfl | rfl <;> assumption) (by decide)) (by decide) ?_
                refine lv_ldc hx hb hown hk69 dX12_house_106 ?_
                have ho9 := Option.some.inj hrun
                subst ho9
                have hP9 := hP.sub (ws' := [(q_this, .inr (12, [.ref q_town, .ref q_read, .ref q_now, .ref q_aside, .ref q_past, .int v_undos, .ref q_images, .ref q_kept, .long v_seed, .ref q_text, .int v_size, .int v_fault, .ref q_sights, .int v_sightMany, .ref q_book, .int v_bookMany, .int v_at, .int v_begin, .int v_sign, .int v_figures, .int v_value, .int v_wrong, .ref q_went, .ref q_free, .ref q_stands])), (q_town, .inl (cI, 27, .inl v_town)), (q_now, .inl (cI, 19, .inl v_now))]) [1, 2, 0] rfl
                have hD9 := hD.sub (ws' := [(q_this, .inr (12, [.ref q_town, .ref q_read, .ref q_now, .ref q_aside, .ref q_past, .int v_undos, .ref q_images, .ref q_kept, .long v_seed, .ref q_text, .int v_size, .int v_fault, .ref q_sights, .int v_sightMany, .ref q_book, .int v_bookMany, .int v_at, .int v_begin, .int v_sign, .int v_figures, .int v_value, .int v_wrong, .ref q_went, .ref q_free, .ref q_stands])), (q_town, .inl (cI, 27, .inl v_town)), (q_now, .inl (cI, 19, .inl v_now))]) [1, 2, 0] (by decide) rfl
                rw [hQ]
                exact W.iret (v := (-1000000002)) hx hb hr (fun t ht hW => ⟨⟨(-1000000002), (), rfl, rfl, by rw [ht]; exact hP9, va_K.moved hW.alike hK, hD9⟩, hS.F ht⟩) hS.2.2 dX12_house_108
  · have hrun := oz_t hrun c1
    refine lv_ldc hx hb hown hk151 dX12_house_8 ?_
    have ho9 := Option.some.inj hrun
    subst ho9
    have hP9 := hP.sub (ws' := [(q_this, .inr (12, [.ref q_town, .ref q_read, .ref q_now, .ref q_aside, .ref q_past, .int v_undos, .ref q_images, .ref q_kept, .long v_seed, .ref q_text, .int v_size, .int v_fault, .ref q_sights, .int v_sightMany, .ref q_book, .int v_bookMany, .int v_at, .int v_begin, .int v_sign, .int v_figures, .int v_value, .int v_wrong, .ref q_went, .ref q_free, .ref q_stands])), (q_town, .inl (cI, 27, .inl v_town)), (q_now, .inl (cI, 19, .inl v_now))]) [1, 2, 0] rfl
    have hD9 := hD.sub (ws' := [(q_this, .inr (12, [.ref q_town, .ref q_read, .ref q_now, .ref q_aside, .ref q_past, .int v_undos, .ref q_images, .ref q_kept, .long v_seed, .ref q_text, .int v_size, .int v_fault, .ref q_sights, .int v_sightMany, .ref q_book, .int v_bookMany, .int v_at, .int v_begin, .int v_sign, .int v_figures, .int v_value, .int v_wrong, .ref q_went, .ref q_free, .ref q_stands])), (q_town, .inl (cI, 27, .inl v_town)), (q_now, .inl (cI, 19, .inl v_now))]) [1, 2, 0] (by decide) rfl
    rw [hQ]
    exact W.iret (v := (-1000000001)) hx hb hr (fun t ht hW => ⟨⟨(-1000000001), (), rfl, rfl, by rw [ht]; exact hP9, va_K.moved hW.alike hK, hD9⟩, hS.F ht⟩) hS.2.2 dX12_house_10
