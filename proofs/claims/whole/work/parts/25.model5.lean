def fX12_layAside (v_now : Nat → Int32) (v_aside : Nat → Int32) : Option ((Nat → Int32)) :=
  Option.bind (fX12_copies 19 19 v_now v_aside 0 0 19) (fun y12 => some y12)
def rmX12_layAside : Room := { frames := 1, cells := 0, slots := 0, locals := 25 }
set_option maxHeartbeats 4000000 in
set_option maxRecDepth 100000 in
theorem tX12_layAside (l : Launch) (dC : Nat → ClassId) (dI : Nat → Nat → Nat) (cI cZ : ClassId) (q_aside q_book q_free q_images q_kept q_now q_past q_read q_sights q_stands q_text q_this q_town q_went : Nat) (sz : Nat) (v_undos : Int32) (v_seed : Int64) (v_size : Int32) (v_fault : Int32) (v_sightMany : Int32) (v_bookMany : Int32) (v_at : Int32) (v_begin : Int32) (v_sign : Int32) (v_figures : Int32) (v_value : Int32) (v_wrong : Int32) (v_now : Nat → Int32) (v_aside : Nat → Int32) (out : (Nat → Int32)) (hrun : fX12_layAside v_now v_aside = some out) : Met l yX12_layAside wsX12_layAside rmX12_layAside (va_Pc [.ref q_this] (fun U => U.heap.size = sz ∧ va_P (dC, dI) vwCl [(q_this, .inr (12, [.ref q_town, .ref q_read, .ref q_now, .ref q_aside, .ref q_past, .int v_undos, .ref q_images, .ref q_kept, .long v_seed, .ref q_text, .int v_size, .int v_fault, .ref q_sights, .int v_sightMany, .ref q_book, .int v_bookMany, .int v_at, .int v_begin, .int v_sign, .int v_figures, .int v_value, .int v_wrong, .ref q_went, .ref q_free, .ref q_stands])), (q_now, .inl (cI, 19, .inl v_now)), (q_aside, .inl (cI, 19, .inl v_aside))] U.heap ∧ va_K (dC, dI) vwCl [(cI, .int), (cZ, .boolean)] U ∧ va_D (fun _ => True) [(q_this, .inr (12, [.ref q_town, .ref q_read, .ref q_now, .ref q_aside, .ref q_past, .int v_undos, .ref q_images, .ref q_kept, .long v_seed, .ref q_text, .int v_size, .int v_fault, .ref q_sights, .int v_sightMany, .ref q_book, .int v_bookMany, .int v_at, .int v_begin, .int v_sign, .int v_figures, .int v_value, .int v_wrong, .ref q_went, .ref q_free, .ref q_stands])), (q_now, .inl (cI, 19, .inl v_now)), (q_aside, .inl (cI, 19, .inl v_aside))])) (va_Qv (fun _ : Unit => True) (fun _ t => va_P (dC, dI) vwCl [(q_this, .inr (12, [.ref q_town, .ref q_read, .ref q_now, .ref q_aside, .ref q_past, .int v_undos, .ref q_images, .ref q_kept, .long v_seed, .ref q_text, .int v_size, .int v_fault, .ref q_sights, .int v_sightMany, .ref q_book, .int v_bookMany, .int v_at, .int v_begin, .int v_sign, .int v_figures, .int v_value, .int v_wrong, .ref q_went, .ref q_free, .ref q_stands])), (q_now, .inl (cI, 19, .inl v_now)), (q_aside, .inl (cI, 19, .inl out))] t.heap ∧ va_K (dC, dI) vwCl [(cI, .int), (cZ, .boolean)] t ∧ va_D (va_A [(q_this, .inr (12, [.ref q_town, .ref q_read, .ref q_now, .ref q_aside, .ref q_past, .int v_undos, .ref q_images, .ref q_kept, .long v_seed, .ref q_text, .int v_size, .int v_fault, .ref q_sights, .int v_sightMany, .ref q_book, .int v_bookMany, .int v_at, .int v_begin, .int v_sign, .int v_figures, .int v_value, .int v_wrong, .ref q_went, .ref q_free, .ref q_stands])), (q_now, .inl (cI, 19, .inl v_now)), (q_aside, .inl (cI, 19, .inl v_aside))] sz) [(q_this, .inr (12, [.ref q_town, .ref q_read, .ref q_now, .ref q_aside, .ref q_past, .int v_undos, .ref q_images, .ref q_kept, .long v_seed, .ref q_text, .int v_size, .int v_fault, .ref q_sights, .int v_sightMany, .ref q_book, .int v_bookMany, .int v_at, .int v_begin, .int v_sign, .int v_figures, .int v_value, .int v_wrong, .ref q_went, .ref q_free, .ref q_stands])), (q_now, .inl (cI, 19, .inl v_now)), (q_aside, .inl (cI, 19, .inl out))]) (va_A [(q_this, .inr (12, [.ref q_town, .ref q_read, .ref q_now, .ref q_aside, .ref q_past, .int v_undos, .ref q_images, .ref q_kept, .long v_seed, .ref q_text, .int v_size, .int v_fault, .ref q_sights, .int v_sightMany, .ref q_book, .int v_bookMany, .int v_at, .int v_begin, .int v_sign, .int v_figures, .int v_value, .int v_wrong, .ref q_went, .ref q_free, .ref q_stands])), (q_now, .inl (cI, 19, .inl v_now)), (q_aside, .inl (cI, 19, .inl v_aside))] sz)) 0 0 (va_A [(q_this, .inr (12, [.ref q_town, .ref q_read, .ref q_now, .ref q_aside, .ref q_past, .int v_undos, .ref q_images, .ref q_kept, .long v_seed, .ref q_text, .int v_size, .int v_fault, .ref q_sights, .int v_sightMany, .ref q_book, .int v_bookMany, .int v_at, .int v_begin, .int v_sign, .int v_figures, .int v_value, .int v_wrong, .ref q_went, .ref q_free, .ref q_stands])), (q_now, .inl (cI, 19, .inl v_now)), (q_aside, .inl (cI, 19, .inl v_aside))] sz) := by
  refine Met.ofW (cc := cX12_layAside) (maxL := 1) (ret := none) (by decide) rfl ?_
  intro p e s m args below meth c s₁ B hml hv
  obtain ⟨rfl, hsz, hP, hK, hD0⟩ := hv
  have hx := B.exec
  have hb := B.bytes
  have hr := B.returns
  have hts := atoms_spec (ws := wsX12_layAside) B.pre
  have hown : s.vm.findClass RX12 = some m.cls := findClass_of_methodNamed B.named
  have hlocks := B.notSynchronized
  subst hsz
  have hD := hD0.self (sz := s.heap.size)
  generalize hAe : va_A [(q_this, .inr (12, [.ref q_town, .ref q_read, .ref q_now, .ref q_aside, .ref q_past, .int v_undos, .ref q_images, .ref q_kept, .long v_seed, .ref q_text, .int v_size, .int v_fault, .ref q_sights, .int v_sightMany, .ref q_book, .int v_bookMany, .int v_at, .int v_begin, .int v_sign, .int v_figures, .int v_value, .int v_wrong, .ref q_went, .ref q_free, .ref q_stands])), (q_now, .inl (cI, 19, .inl v_now)), (q_aside, .inl (cI, 19, .inl v_aside))] s.heap.size = A at hD ⊢
  have hA : ∀ q : Nat, s.heap.size ≤ q → A q := fun q h => by rw [← hAe]; exact Or.inr h
  have hS : va_S A s.heap s.heap [] := va_S.rf
  have hl := lv_entry ([.ref q_this]) (n := 1) (Nat.le_of_ble_eq_true rfl)
  rw [lg_entry_eq]
  generalize (lg_sl ([.ref q_this]) ++ List.replicate (1 - (lg_sl ([.ref q_this])).length) Slot.unset).toArray = ls at hl ⊢
  have hl : lv_has ls 1 [(0, .ref q_this)] := hl
  unfold fX12_layAside at hrun
  have hk16 := hts (.fieldLink RX12 16 "LentDrainsModel" "now" "[I") (by decide +kernel)
  have hiX12 : ∀ w ∈ wsX120, w ∈ wsX12_layAside := by decide +kernel
  have hk19 := hts (.fieldLink RX12 19 "LentDrainsModel" "aside" "[I") (by decide +kernel)
  refine oz_genQ (fun Q hQ => ?_)
  refine lv_aload_n hx hb dX12_layAside_0 rfl (lv_at hl 0 rfl) ?_
  refine va_get (D := (dC, dI)) (ci := 12) (v := .ref q_now) (C := RX12) (T := TX12) (N := 25) hx hb hts hiX12 hown hK hP 0 rfl rfl 2 (by decide) hk16 (fun _ h9 => h9) rfl dX12_layAside_1 ?_
  refine lv_iconst (v := 0) hx hb dX12_layAside_4 (by decide) ?_
  refine lv_aload_n hx hb dX12_layAside_5 rfl (lv_at hl 0 rfl) ?_
  refine va_get (D := (dC, dI)) (ci := 12) (v := .ref q_aside) (C := RX12) (T := TX12) (N := 25) hx hb hts hiX12 hown hK hP 0 rfl rfl 3 (by decide) hk19 (fun _ h9 => h9) rfl dX12_layAside_6 ?_
  refine lv_iconst (v := 0) hx hb dX12_layAside_9 (by decide) ?_
  refine lv_bipush (v := 19) hx hb dX12_layAside_10 (by decide) ?_
  obtain ⟨y12, hc12, hrun⟩ := oz_bind hrun
  have hPc := hP.sub (ws' := [(q_now, .inl (cI, 19, .inl v_now)), (q_aside, .inl (cI, 19, .inl v_aside))]) [1, 2] rfl
  have hDc := hD.sub (ws' := [(q_now, .inl (cI, 19, .inl v_now)), (q_aside, .inl (cI, 19, .inl v_aside))]) [1, 2] (by decide) rfl
  have hFc := va_free (wc := [(q_now, .inl (cI, 19, .inl v_now)), (q_aside, .inl (cI, 19, .inl v_aside))]) hD hS hA [1, 2] rfl
  refine va_callv (va_runS (As := [.ref q_now, .int 0, .ref q_aside, .int 0, .int 19]) (rest := []) ⟨hx, hb, hml, hown, hts⟩ (tX12_copies l dC dI cI cZ q_now q_aside s.heap.size 19 19 v_now v_aside 0 0 19 y12 hc12) (va_cwS 5 hts gX12_layAside_X12_copies rfl rfl rfl (by decide +kernel) ⟨Nat.le_of_ble_eq_true rfl, Nat.le_of_ble_eq_true rfl⟩) ⟨fun a U g mk q => by obtain ⟨q0, q1, qP, qK, qD⟩ := q; exact ⟨q0, q1, qP, va_K.moved (u := U) (U := U.calling g mk a) (Vm.Alike.refl U.vm) qK, qD⟩, fun U hU hW => ⟨rfl, by rw [hU], by rw [hU]; exact hPc, va_K.moved hW.alike hK, hDc.weaken (fun _ _ _ _ => trivial)⟩⟩ rfl rfl hl.1 rfl (lv_room (Nat.le_of_ble_eq_true rfl)) dX12_layAside_12 ⟨Nat.le_of_ble_eq_true rfl, Nat.le_of_ble_eq_true rfl⟩) hS (fun q _ h => hFc q h) hFc (fun u9 t9 H1 locs ht9 hvm9 hw9 hB9 hz9 hkk9 hS => ?_)
  obtain ⟨hP9, hK9, hD9⟩ := hB9
  rw [ht9] at hP9
  obtain ⟨hP, hD⟩ := va_join (wr := [(q_this, .inr (12, [.ref q_town, .ref q_read, .ref q_now, .ref q_aside, .ref q_past, .int v_undos, .ref q_images, .ref q_kept, .long v_seed, .ref q_text, .int v_size, .int v_fault, .ref q_sights, .int v_sightMany, .ref q_book, .int v_bookMany, .int v_at, .int v_begin, .int v_sign, .int v_figures, .int v_value, .int v_wrong, .ref q_went, .ref q_free, .ref q_stands]))]) (w1 := [(q_now, .inl (cI, 19, .inl v_now)), (q_aside, .inl (cI, 19, .inl y12))]) hP hD [1, 2] [0] rfl rfl (by decide) (by decide) hkk9 hFc hP9 hD9
  generalize H1 = H at hP hS ⊢
  have hP : va_P (dC, dI) vwCl [(q_this, .inr (12, [.ref q_town, .ref q_read, .ref q_now, .ref q_aside, .ref q_past, .int v_undos, .ref q_images, .ref q_kept, .long v_seed, .ref q_text, .int v_size, .int v_fault, .ref q_sights, .int v_sightMany, .ref q_book, .int v_bookMany, .int v_at, .int v_begin, .int v_sign, .int v_figures, .int v_value, .int v_wrong, .ref q_went, .ref q_free, .ref q_stands])), (q_now, .inl (cI, 19, .inl v_now)), (q_aside, .inl (cI, 19, .inl y12))] H := hP
  have hD : va_D A [(q_this, .inr (12, [.ref q_town, .ref q_read, .ref q_now, .ref q_aside, .ref q_past, .int v_undos, .ref q_images, .ref q_kept, .long v_seed, .ref q_text, .int v_size, .int v_fault, .ref q_sights, .int v_sightMany, .ref q_book, .int v_bookMany, .int v_at, .int v_begin, .int v_sign, .int v_figures, .int v_value, .int v_wrong, .ref q_went, .ref q_free, .ref q_stands])), (q_now, .inl (cI, 19, .inl v_now)), (q_aside, .inl (cI, 19, .inl y12))] := hD
  have ho9 := Option.some.inj hrun
  subst ho9
  have hP9 := hP.sub (ws' := [(q_this, .inr (12, [.ref q_town, .ref q_read, .ref q_now, .ref q_aside, .ref q_past, .int v_undos, .ref q_images, .ref q_kept, .long v_seed, .ref q_text, .int v_size, .int v_fault, .ref q_sights, .int v_sightMany, .ref q_book, .int v_bookMany, .int v_at, .int v_begin, .int v_sign, .int v_figures, .int v_value, .int v_wrong, .ref q_went, .ref q_free, .ref q_stands])), (q_now, .inl (cI, 19, .inl v_now)), (q_aside, .inl (cI, 19, .inl y12))]) [0, 1, 2] rfl
  have hD9 := hD.sub (ws' := [(q_this, .inr (12, [.ref q_town, .ref q_read, .ref q_now, .ref q_aside, .ref q_past, .int v_undos, .ref q_images, .ref q_kept, .long v_seed, .ref q_text, .int v_size, .int v_fault, .ref q_sights, .int v_sightMany, .ref q_book, .int v_bookMany, .int v_at, .int v_begin, .int v_sign, .int v_figures, .int v_value, .int v_wrong, .ref q_went, .ref q_free, .ref q_stands])), (q_now, .inl (cI, 19, .inl v_now)), (q_aside, .inl (cI, 19, .inl y12))]) [0, 1, 2] (by decide) rfl
  rw [hQ]
  exact W.vret hx hb hr (fun t ht hW => ⟨⟨(), rfl, trivial, by rw [ht]; exact hP9, va_K.moved hW.alike hK, hD9⟩, hS.F ht⟩) hS.2.2 dX12_layAside_15
def fX12_goDays_b14 (v_town : Nat → Int32) (a1 : Int32) (w14 : Int32 × (Nat → Int32)) : Option ((Int32 × (Nat → Int32)) ⊕ (Int32 × (Nat → Int32))) :=
  if a1 ≤ w14.1 then (some (.inr (w14.1, w14.2))) else (Option.bind (fX12_dayGoes v_town w14.2 (-1) 0) (fun y26 => some (.inl ((w14.1 + 1), y26))))
def fX12_goDays (v_town : Nat → Int32) (v_now : Nat → Int32) (v_aside : Nat → Int32) (a1 : Int32) : Option ((Nat → Int32)) :=
  Option.bind (fX12_layAside v_now v_aside) (fun y1 => Option.bind (oz_loop (fX12_goDays_b14 v_town a1) oz_fuel (0, (upd y1 (Int32.toNatClampNeg 17) 0))) (fun o14 => some o14.2))
def rmX12_goDays : Room := { frames := 3, cells := 0, slots := 0, locals := 69 }
set_option maxHeartbeats 4000000 in
set_option maxRecDepth 100000 in
theorem tX12_goDays (l : Launch) (dC : Nat → ClassId) (dI : Nat → Nat → Nat) (cI cZ : ClassId) (q_aside q_book q_free q_images q_kept q_now q_past q_read q_sights q_stands q_text q_this q_town q_went : Nat) (sz : Nat) (v_undos : Int32) (v_seed : Int64) (v_size : Int32) (v_fault : Int32) (v_sightMany : Int32) (v_bookMany : Int32) (v_at : Int32) (v_begin : Int32) (v_sign : Int32) (v_figures : Int32) (v_value : Int32) (v_wrong : Int32) (v_town : Nat → Int32) (v_now : Nat → Int32) (v_aside : Nat → Int32) (a1 : Int32) (out : (Nat → Int32)) (hrun : fX12_goDays v_town v_now v_aside a1 = some out) : Met l yX12_goDays wsX12_goDays rmX12_goDays (va_Pc [.ref q_this, .int a1] (fun U => U.heap.size = sz ∧ va_P (dC, dI) vwCl [(q_this, .inr (12, [.ref q_town, .ref q_read, .ref q_now, .ref q_aside, .ref q_past, .int v_undos, .ref q_images, .ref q_kept, .long v_seed, .ref q_text, .int v_size, .int v_fault, .ref q_sights, .int v_sightMany, .ref q_book, .int v_bookMany, .int v_at, .int v_begin, .int v_sign, .int v_figures, .int v_value, .int v_wrong, .ref q_went, .ref q_free, .ref q_stands])), (q_town, .inl (cI, 27, .inl v_town)), (q_now, .inl (cI, 19, .inl v_now)), (q_aside, .inl (cI, 19, .inl v_aside))] U.heap ∧ va_K (dC, dI) vwCl [(cI, .int), (cZ, .boolean)] U ∧ va_D (fun _ => True) [(q_this, .inr (12, [.ref q_town, .ref q_read, .ref q_now, .ref q_aside, .ref q_past, .int v_undos, .ref q_images, .ref q_kept, .long v_seed, .ref q_text, .int v_size, .int v_fault, .ref q_sights, .int v_sightMany, .ref q_book, .int v_bookMany, .int v_at, .int v_begin, .int v_sign, .int v_figures, .int v_value, .int v_wrong, .ref q_went, .ref q_free, .ref q_stands])), (q_town, .inl (cI, 27, .inl v_town)), (q_now, .inl (cI, 19, .inl v_now)), (q_aside, .inl (cI, 19, .inl v_aside))])) (va_Qv (fun _ : Unit => True) (fun _ t => va_P (dC, dI) vwCl [(q_this, .inr (12, [.ref q_town, .ref q_read, .ref q_now, .ref q_aside, .ref q_past, .int v_undos, .ref q_images, .ref q_kept, .long v_seed, .ref q_text, .int v_size, .int v_fault, .ref q_sights, .int v_sightMany, .ref q_book, .int v_bookMany, .int v_at, .int v_begin, .int v_sign, .int v_figures, .int v_value, .int v_wrong, .ref q_went, .ref q_free, .ref q_stands])), (q_town, .inl (cI, 27, .inl v_town)), (q_now, .inl (cI, 19, .inl v_now)), (q_aside, .inl (cI, 19, .inl out))] t.heap ∧ va_K (dC, dI) vwCl [(cI, .int), (cZ, .boolean)] t ∧ va_D (va_A [(q_this, .inr (12, [.ref q_town, .ref q_read, .ref q_now, .ref q_aside, .ref q_past, .int v_undos, .ref q_images, .ref q_kept, .long v_seed, .ref q_text, .int v_size, .int v_fault, .ref q_sights, .int v_sightMany, .ref q_book, .int v_bookMany, .int v_at, .int v_begin, .int v_sign, .int v_figures, .int v_value, .int v_wrong, .ref q_went, .ref q_free, .ref q_stands])), (q_town, .inl (cI, 27, .inl v_town)), (q_now, .inl (cI, 19, .inl v_now)), (q_aside, .inl (cI, 19, .inl v_aside))] sz) [(q_this, .inr (12, [.ref q_town, .ref q_read, .ref q_now, .ref q_aside, .ref q_past, .int v_undos, .ref q_images, .ref q_kept, .long v_seed, .ref q_text, .int v_size, .int v_fault, .ref q_sights, .int v_sightMany, .ref q_book, .int v_bookMany, .int v_at, .int v_begin, .int v_sign, .int v_figures, .int v_value, .int v_wrong, .ref q_went, .ref q_free, .ref q_stands])), (q_town, .inl (cI, 27, .inl v_town)), (q_now, .inl (cI, 19, .inl v_now)), (q_aside, .inl (cI, 19, .inl out))]) (va_A [(q_this, .inr (12, [.ref q_town, .ref q_read, .ref q_now, .ref q_aside, .ref q_past, .int v_undos, .ref q_images, .ref q_kept, .long v_seed, .ref q_text, .int v_size, .int v_fault, .ref q_sights, .int v_sightMany, .ref q_book, .int v_bookMany, .int v_at, .int v_begin, .int v_sign, .int v_figures, .int v_value, .int v_wrong, .ref q_went, .ref q_free, .ref q_stands])), (q_town, .inl (cI, 27, .inl v_town)), (q_now, .inl (cI, 19, .inl v_now)), (q_aside, .inl (cI, 19, .inl v_aside))] sz)) 0 0 (va_A [(q_this, .inr (12, [.ref q_town, .ref q_read, .ref q_now, .ref q_aside, .ref q_past, .int v_undos, .ref q_images, .ref q_kept, .long v_seed, .ref q_text, .int v_size, .int v_fault, .ref q_sights, .int v_sightMany, .ref q_book, .int v_bookMany, .int v_at, .int v_begin, .int v_sign, .int v_figures, .int v_value, .int v_wrong, .ref q_went, .ref q_free, .ref q_stands])), (q_town, .inl (cI, 27, .inl v_town)), (q_now, .inl (cI, 19, .inl v_now)), (q_aside, .inl (cI, 19, .inl v_aside))] sz) := by
  refine Met.ofW (cc := cX12_goDays) (maxL := 3) (ret := none) (by decide) rfl ?_
  intro p e s m args below meth c s₁ B hml hv
  obtain ⟨rfl, hsz, hP, hK, hD0⟩ := hv
  have hx := B.exec
  have hb := B.bytes
  have hr := B.returns
  have hts := atoms_spec (ws := wsX12_goDays) B.pre
  have hown : s.vm.findClass RX12 = some m.cls := findClass_of_methodNamed B.named
  have hlocks := B.notSynchronized
  subst hsz
  have hD := hD0.self (sz := s.heap.size)
  generalize hAe : va_A [(q_this, .inr (12, [.ref q_town, .ref q_read, .ref q_now, .ref q_aside, .ref q_past, .int v_undos, .ref q_images, .ref q_kept, .long v_seed, .ref q_text, .int v_size, .int v_fault, .ref q_sights, .int v_sightMany, .ref q_book, .int v_bookMany, .int v_at, .int v_begin, .int v_sign, .int v_figures, .int v_value, .int v_wrong, .ref q_went, .ref q_free, .ref q_stands])), (q_town, .inl (cI, 27, .inl v_town)), (q_now, .inl (cI, 19, .inl v_now)), (q_aside, .inl (cI, 19, .inl v_aside))] s.heap.size = A at hD ⊢
  have hA : ∀ q : Nat, s.heap.size ≤ q → A q := fun q h => by rw [← hAe]; exact Or.inr h
  have hS : va_S A s.heap s.heap [] := va_S.rf
  have hl := lv_entry ([.ref q_this, .int a1]) (n := 3) (Nat.le_of_ble_eq_true rfl)
  rw [lg_entry_eq]
  generalize (lg_sl ([.ref q_this, .int a1]) ++ List.replicate (3 - (lg_sl ([.ref q_this, .int a1])).length) Slot.unset).toArray = ls at hl ⊢
  have hl : lv_has ls 3 [(0, .ref q_this), (1, .int a1)] := hl
  unfold fX12_goDays at hrun
  have hk19 := hts (.fieldLink RX12 19 "LentDrainsModel" "aside" "[I") (by decide +kernel)
  have hiX12 : ∀ w ∈ wsX120, w ∈ wsX12_goDays := by decide +kernel
  refine oz_genQ (fun Q hQ => ?_)
  refine lv_aload_n hx hb dX12_goDays_0 rfl (lv_at hl 0 rfl) ?_
  obtain ⟨y1, hc1, hrun⟩ := oz_bind hrun
  have hPc := hP.sub (ws' := [(q_this, .inr (12, [.ref q_town, .ref q_read, .ref q_now, .ref q_aside, .ref q_past, .int v_undos, .ref q_images, .ref q_kept, .long v_seed, .ref q_text, .int v_size, .int v_fault, .ref q_sights, .int v_sightMany, .ref q_book, .int v_bookMany, .int v_at, .int v_begin, .int v_sign, .int v_figures, .int v_value, .int v_wrong, .ref q_went, .ref q_free, .ref q_stands])), (q_now, .inl (cI, 19, .inl v_now)), (q_aside, .inl (cI, 19, .inl v_aside))]) [0, 2, 3] rfl
  have hDc := hD.sub (ws' := [(q_this, .inr (12, [.ref q_town, .ref q_read, .ref q_now, .ref q_aside, .ref q_past, .int v_undos, .ref q_images, .ref q_kept, .long v_seed, .ref q_text, .int v_size, .int v_fault, .ref q_sights, .int v_sightMany, .ref q_book, .int v_bookMany, .int v_at, .int v_begin, .int v_sign, .int v_figures, .int v_value, .int v_wrong, .ref q_went, .ref q_free, .ref q_stands])), (q_now, .inl (cI, 19, .inl v_now)), (q_aside, .inl (cI, 19, .inl v_aside))]) [0, 2, 3] (by decide) rfl
  have hFc := va_free (wc := [(q_this, .inr (12, [.ref q_town, .ref q_read, .ref q_now, .ref q_aside, .ref q_past, .int v_undos, .ref q_images, .ref q_kept, .long v_seed, .ref q_text, .int v_size, .int v_fault, .ref q_sights, .int v_sightMany, .ref q_book, .int v_bookMany, .int v_at, .int v_begin, .int v_sign, .int v_figures, .int v_value, .int v_wrong, .ref q_went, .ref q_free, .ref q_stands])), (q_now, .inl (cI, 19, .inl v_now)), (q_aside, .inl (cI, 19, .inl v_aside))]) hD hS hA [0, 2, 3] rfl
  refine va_callv (va_runV (As := []) (rest := []) ⟨hx, hb, hml, hown, hts⟩ (tX12_layAside l dC dI cI cZ q_aside q_book q_free q_images q_kept q_now q_past q_read q_sights q_stands q_text q_this q_town q_went s.heap.size v_undos v_seed v_size v_fault v_sightMany v_bookMany v_at v_begin v_sign v_figures v_value v_wrong v_now v_aside y1 hc1) (cwV 0 hts gX12_goDays_X12_layAside rfl rfl rfl (by decide +kernel) ⟨Nat.le_of_ble_eq_true rfl, Nat.le_of_ble_eq_true rfl⟩) ⟨fun a U g mk q => by obtain ⟨q0, q1, qP, qK, qD⟩ := q; exact ⟨q0, q1, qP, va_K.moved (u := U) (U := U.calling g mk a) (Vm.Alike.refl U.vm) qK, qD⟩, va_recv hK hPc (ci := 12) (q0 := 0) rfl rfl, fun U hU hW => ⟨rfl, by rw [hU], by rw [hU]; exact hPc, va_K.moved hW.alike hK, hDc.weaken (fun _ _ _ _ => trivial)⟩⟩ rfl rfl hl.1 rfl (lv_room (Nat.le_of_ble_eq_true rfl)) dX12_goDays_1 ⟨Nat.le_of_ble_eq_true rfl, Nat.le_of_ble_eq_true rfl⟩) hS (fun q _ h => hFc q h) hFc (fun u9 t9 H1 locs ht9 hvm9 hw9 hB9 hz9 hkk9 hS => ?_)
  obtain ⟨hP9, hK9, hD9⟩ := hB9
  rw [ht9] at hP9
  obtain ⟨hP, hD⟩ := va_join (wr := [(q_town, .inl (cI, 27, .inl v_town))]) (w1 := [(q_this, .inr (12, [.ref q_town, .ref q_read, .ref q_now, .ref q_aside, .ref q_past, .int v_undos, .ref q_images, .ref q_kept, .long v_seed, .ref q_text, .int v_size, .int v_fault, .ref q_sights, .int v_sightMany, .ref q_book, .int v_bookMany, .int v_at, .int v_begin, .int v_sign, .int v_figures, .int v_value, .int v_wrong, .ref q_went, .ref q_free, .ref q_stands])), (q_now, .inl (cI, 19, .inl v_now)), (q_aside, .inl (cI, 19, .inl y1))]) hP hD [0, 2, 3] [1] rfl rfl (by decide) (by decide) hkk9 hFc hP9 hD9
  generalize H1 = H at hP hS ⊢
  have hP : va_P (dC, dI) vwCl [(q_town, .inl (cI, 27, .inl v_town)), (q_this, .inr (12, [.ref q_town, .ref q_read, .ref q_now, .ref q_aside, .ref q_past, .int v_undos, .ref q_images, .ref q_kept, .long v_seed, .ref q_text, .int v_size, .int v_fault, .ref q_sights, .int v_sightMany, .ref q_book, .int v_bookMany, .int v_at, .int v_begin, .int v_sign, .int v_figures, .int v_value, .int v_wrong, .ref q_went, .ref q_free, .ref q_stands])), (q_now, .inl (cI, 19, .inl v_now)), (q_aside, .inl (cI, 19, .inl y1))] H := hP
  have hD : va_D A [(q_town, .inl (cI, 27, .inl v_town)), (q_this, .inr (12, [.ref q_town, .ref q_read, .ref q_now, .ref q_aside, .ref q_past, .int v_undos, .ref q_images, .ref q_kept, .long v_seed, .ref q_text, .int v_size, .int v_fault, .ref q_sights, .int v_sightMany, .ref q_book, .int v_bookMany, .int v_at, .int v_begin, .int v_sign, .int v_figures, .int v_value, .int v_wrong, .ref q_went, .ref q_free, .ref q_stands])), (q_now, .inl (cI, 19, .inl v_now)), (q_aside, .inl (cI, 19, .inl y1))] := hD
  refine lv_aload_n hx hb dX12_goDays_4 rfl (lv_at hl 0 rfl) ?_
  refine va_get (D := (dC, dI)) (ci := 12) (v := .ref q_aside) (C := RX12) (T := TX12) (N := 25) hx hb hts hiX12 hown hK hP 1 rfl rfl 3 (by decide) hk19 (fun _ h9 => h9) rfl dX12_goDays_5 ?_
  refine lv_bipush (v := 17) hx hb dX12_goDays_8 (by decide) ?_
  refine lv_iconst (v := 0) hx hb dX12_goDays_10 (by decide) ?_
  refine va_iast hx hb hK hP hD hS 3 0 rfl rfl (show ¬ ((17 : Int32) < 0 ∨ 19 ≤ (17 : Int32).toNatClampNeg) by decide) dX12_goDays_11 (fun H locs hP hD hS => ?_)
  have hP : va_P (dC, dI) vwCl [(q_town, .inl (cI, 27, .inl v_town)), (q_this, .inr (12, [.ref q_town, .ref q_read, .ref q_now, .ref q_aside, .ref q_past, .int v_undos, .ref q_images, .ref q_kept, .long v_seed, .ref q_text, .int v_size, .int v_fault, .ref q_sights, .int v_sightMany, .ref q_book, .int v_bookMany, .int v_at, .int v_begin, .int v_sign, .int v_figures, .int v_value, .int v_wrong, .ref q_went, .ref q_free, .ref q_stands])), (q_now, .inl (cI, 19, .inl v_now)), (q_aside, .inl (cI, 19, .inl (upd y1 (Int32.toNatClampNeg 17) 0)))] H := hP
  have hD : va_D A [(q_town, .inl (cI, 27, .inl v_town)), (q_this, .inr (12, [.ref q_town, .ref q_read, .ref q_now, .ref q_aside, .ref q_past, .int v_undos, .ref q_images, .ref q_kept, .long v_seed, .ref q_text, .int v_size, .int v_fault, .ref q_sights, .int v_sightMany, .ref q_book, .int v_bookMany, .int v_at, .int v_begin, .int v_sign, .int v_figures, .int v_value, .int v_wrong, .ref q_went, .ref q_free, .ref q_stands])), (q_now, .inl (cI, 19, .inl v_now)), (q_aside, .inl (cI, 19, .inl (upd y1 (Int32.toNatClampNeg 17) 0)))] := hD
  refine lv_iconst (v := 0) hx hb dX12_goDays_12 (by decide) ?_
  refine lv_istore_n (lv' := [(2, .int 0), (0, .ref q_this), (1, .int a1)]) hx hb dX12_goDays_13 rfl hl (by decide) rfl (fun ls hl => ?_)
  obtain ⟨o14, hlp14, hrun⟩ := oz_bind hrun
  have hL14 : ∀ (n : Nat) (w14 : Int32 × (Nat → Int32)) (o14 : Int32 × (Nat → Int32)), oz_loop (fX12_goDays_b14 v_town a1) n w14 = some o14 → (∀ (H : Heap) (locs : List Loc) (ls : Array Slot), va_P (dC, dI) vwCl [(q_this, .inr (12, [.ref q_town, .ref q_read, .ref q_now, .ref q_aside, .ref q_past, .int v_undos, .ref q_images, .ref q_kept, .long v_seed, .ref q_text, .int v_size, .int v_fault, .ref q_sights, .int v_sightMany, .ref q_book, .int v_bookMany, .int v_at, .int v_begin, .int v_sign, .int v_figures, .int v_value, .int v_wrong, .ref q_went, .ref q_free, .ref q_stands])), (q_town, .inl (cI, 27, .inl v_town)), (q_now, .inl (cI, 19, .inl v_now)), (q_aside, .inl (cI, 19, .inl o14.2))] H → va_D A [(q_this, .inr (12, [.ref q_town, .ref q_read, .ref q_now, .ref q_aside, .ref q_past, .int v_undos, .ref q_images, .ref q_kept, .long v_seed, .ref q_text, .int v_size, .int v_fault, .ref q_sights, .int v_sightMany, .ref q_book, .int v_bookMany, .int v_at, .int v_begin, .int v_sign, .int v_figures, .int v_value, .int v_wrong, .ref q_went, .ref q_free, .ref q_stands])), (q_town, .inl (cI, 27, .inl v_town)), (q_now, .inl (cI, 19, .inl v_now)), (q_aside, .inl (cI, 19, .inl o14.2))] → va_S A s.heap H locs → lv_has ls 3 [(2, .int o14.1), (0, .ref q_this), (1, .int a1)] → W p l e (headSpec wsX12_goDays rmX12_goDays).room s m (([.ref q_this, .int a1] : List Value).toArray) below meth c H locs 0 0 Q (F0 m 35 ls [])) → ∀ (H : Heap) (locs : List Loc) (ls : Array Slot), va_P (dC, dI) vwCl [(q_this, .inr (12, [.ref q_town, .ref q_read, .ref q_now, .ref q_aside, .ref q_past, .int v_undos, .ref q_images, .ref q_kept, .long v_seed, .ref q_text, .int v_size, .int v_fault, .ref q_sights, .int v_sightMany, .ref q_book, .int v_bookMany, .int v_at, .int v_begin, .int v_sign, .int v_figures, .int v_value, .int v_wrong, .ref q_went, .ref q_free, .ref q_stands])), (q_town, .inl (cI, 27, .inl v_town)), (q_now, .inl (cI, 19, .inl v_now)), (q_aside, .inl (cI, 19, .inl w14.2))] H → va_D A [(q_this, .inr (12, [.ref q_town, .ref q_read, .ref q_now, .ref q_aside, .ref q_past, .int v_undos, .ref q_images, .ref q_kept, .long v_seed, .ref q_text, .int v_size, .int v_fault, .ref q_sights, .int v_sightMany, .ref q_book, .int v_bookMany, .int v_at, .int v_begin, .int v_sign, .int v_figures, .int v_value, .int v_wrong, .ref q_went, .ref q_free, .ref q_stands])), (q_town, .inl (cI, 27, .inl v_town)), (q_now, .inl (cI, 19, .inl v_now)), (q_aside, .inl (cI, 19, .inl w14.2))] → va_S A s.heap H locs → lv_has ls 3 [(2, .int w14.1), (0, .ref q_this), (1, .int a1)] → W p l e (headSpec wsX12_goDays rmX12_goDays).room s m (([.ref q_this, .int a1] : List Value).toArray) below meth c H locs 0 0 Q (F0 m 14 ls []) := by
    intro n
    induction n with
    | zero => intro w14 o14 h9; exact (oz_zero h9).elim
    | succ n ih =>
      intro w14 o14 h9 hexit H locs ls hP hD hS hl
      obtain ⟨r9, hrun, hnext⟩ := oz_step h9
      unfold fX12_goDays_b14 at hrun
      refine lv_iload_n hx hb dX12_goDays_14 rfl (lv_at hl 0 rfl) ?_
      refine lv_iload_n hx hb dX12_goDays_15 rfl (lv_at hl 2 rfl) ?_
      refine lv_icmp_ge (tgt := 35) hx hb dX12_goDays_16 (by decide) (fun c1 => ?_) (fun c1 => ?_)
      · have hrun := oz_t hrun c1
        have hr9 := Option.some.inj hrun
        subst hr9
        have ho9 : (w14.1, w14.2) = o14 := hnext
        subst ho9
        exact hexit _ _ _ (hP.sub [0, 1, 2, 3] rfl) (hD.sub [0, 1, 2, 3] (by decide) rfl) hS (lv_sub hl [0, 1, 2] rfl)
      · have hrun := oz_f hrun c1
        refine lv_aload_n hx hb dX12_goDays_19 rfl (lv_at hl 1 rfl) ?_
        refine lv_aload_n hx hb dX12_goDays_20 rfl (lv_at hl 1 rfl) ?_
        refine va_get (D := (dC, dI)) (ci := 12) (v := .ref q_aside) (C := RX12) (T := TX12) (N := 25) hx hb hts hiX12 hown hK hP 0 rfl rfl 3 (by decide) hk19 (fun _ h9 => h9) rfl dX12_goDays_21 ?_
        refine lv_iconst (v := (-1)) hx hb dX12_goDays_24 (by decide) ?_
        refine lv_iconst (v := 0) hx hb dX12_goDays_25 (by decide) ?_
        obtain ⟨y26, hc26, hrun⟩ := oz_bind hrun
        have hPc := hP.sub (ws' := [(q_this, .inr (12, [.ref q_town, .ref q_read, .ref q_now, .ref q_aside, .ref q_past, .int v_undos, .ref q_images, .ref q_kept, .long v_seed, .ref q_text, .int v_size, .int v_fault, .ref q_sights, .int v_sightMany, .ref q_book, .int v_bookMany, .int v_at, .int v_begin, .int v_sign, .int v_figures, .int v_value, .int v_wrong, .ref q_went, .ref q_free, .ref q_stands])), (q_town, .inl (cI, 27, .inl v_town)), (q_aside, .inl (cI, 19, .inl w14.2))]) [0, 1, 3] rfl
        have hDc := hD.sub (ws' := [(q_this, .inr (12, [.ref q_town, .ref q_read, .ref q_now, .ref q_aside, .ref q_past, .int v_undos, .ref q_images, .ref q_kept, .long v_seed, .ref q_text, .int v_size, .int v_fault, .ref q_sights, .int v_sightMany, .ref q_book, .int v_bookMany, .int v_at, .int v_begin, .int v_sign, .int v_figures, .int v_value, .int v_wrong, .ref q_went, .ref q_free, .ref q_stands])), (q_town, .inl (cI, 27, .inl v_town)), (q_aside, .inl (cI, 19, .inl w14.2))]) [0, 1, 3] (by decide) rfl
        have hFc := va_free (wc := [(q_this, .inr (12, [.ref q_town, .ref q_read, .ref q_now, .ref q_aside, .ref q_past, .int v_undos, .ref q_images, .ref q_kept, .long v_seed, .ref q_text, .int v_size, .int v_fault, .ref q_sights, .int v_sightMany, .ref q_book, .int v_bookMany, .int v_at, .int v_begin, .int v_sign, .int v_figures, .int v_value, .int v_wrong, .ref q_went, .ref q_free, .ref q_stands])), (q_town, .inl (cI, 27, .inl v_town)), (q_aside, .inl (cI, 19, .inl w14.2))]) hD hS hA [0, 1, 3] rfl
        refine va_callv (va_runV (As := [.ref q_aside, .int (-1), .int 0]) (rest := []) ⟨hx, hb, hml, hown, hts⟩ (tX12_dayGoes l dC dI cI cZ q_aside q_book q_free q_images q_kept q_now q_aside q_past q_read q_sights q_stands q_text q_this q_town q_went H.size v_undos v_seed v_size v_fault v_sightMany v_bookMany v_at v_begin v_sign v_figures v_value v_wrong v_town w14.2 (-1) 0 y26 hc26) (cwV 3 hts gX12_goDays_X12_dayGoes rfl rfl rfl (by decide +kernel) ⟨Nat.le_of_ble_eq_true rfl, Nat.le_of_ble_eq_true rfl⟩) ⟨fun a U g mk q => by obtain ⟨q0, q1, qP, qK, qD⟩ := q; exact ⟨q0, q1, qP, va_K.moved (u := U) (U := U.calling g mk a) (Vm.Alike.refl U.vm) qK, qD⟩, va_recv hK hPc (ci := 12) (q0 := 0) rfl rfl, fun U hU hW => ⟨rfl, by rw [hU], by rw [hU]; exact hPc, va_K.moved hW.alike hK, hDc.weaken (fun _ _ _ _ => trivial)⟩⟩ rfl rfl hl.1 rfl (lv_room (Nat.le_of_ble_eq_true rfl)) dX12_goDays_26 ⟨Nat.le_of_ble_eq_true rfl, Nat.le_of_ble_eq_true rfl⟩) hS (fun q _ h => hFc q h) hFc (fun u9 t9 H1 locs ht9 hvm9 hw9 hB9 hz9 hkk9 hS => ?_)
        obtain ⟨hP9, hK9, hD9⟩ := hB9
        rw [ht9] at hP9
        obtain ⟨hP, hD⟩ := va_join (wr := [(q_now, .inl (cI, 19, .inl v_now))]) (w1 := [(q_this, .inr (12, [.ref q_town, .ref q_read, .ref q_now, .ref q_aside, .ref q_past, .int v_undos, .ref q_images, .ref q_kept, .long v_seed, .ref q_text, .int v_size, .int v_fault, .ref q_sights, .int v_sightMany, .ref q_book, .int v_bookMany, .int v_at, .int v_begin, .int v_sign, .int v_figures, .int v_value, .int v_wrong, .ref q_went, .ref q_free, .ref q_stands])), (q_town, .inl (cI, 27, .inl v_town)), (q_aside, .inl (cI, 19, .inl y26))]) hP hD [0, 1, 3] [2] rfl rfl (by decide) (by decide) hkk9 hFc hP9 hD9
        generalize H1 = H at hP hS ⊢
        have hP : va_P (dC, dI) vwCl [(q_now, .inl (cI, 19, .inl v_now)), (q_this, .inr (12, [.ref q_town, .ref q_read, .ref q_now, .ref q_aside, .ref q_past, .int v_undos, .ref q_images, .ref q_kept, .long v_seed, .ref q_text, .int v_size, .int v_fault, .ref q_sights, .int v_sightMany, .ref q_book, .int v_bookMany, .int v_at, .int v_begin, .int v_sign, .int v_figures, .int v_value, .int v_wrong, .ref q_went, .ref q_free, .ref q_stands])), (q_town, .inl (cI, 27, .inl v_town)), (q_aside, .inl (cI, 19, .inl y26))] H := hP
        have hD : va_D A [(q_now, .inl (cI, 19, .inl v_now)), (q_this, .inr (12, [.ref q_town, .ref q_read, .ref q_now, .ref q_aside, .ref q_past, .int v_undos, .ref q_images, .ref q_kept, .long v_seed, .ref q_text, .int v_size, .int v_fault, .ref q_sights, .int v_sightMany, .ref q_book, .int v_bookMany, .int v_at, .int v_begin, .int v_sign, .int v_figures, .int v_value, .int v_wrong, .ref q_went, .ref q_free, .ref q_stands])), (q_town, .inl (cI, 27, .inl v_town)), (q_aside, .inl (cI, 19, .inl y26))] := hD
        refine lv_iinc (v := (w14.1 + 1)) (lv' := [(2, .int (w14.1 + 1)), (0, .ref q_this), (1, .int a1)]) hx hb dX12_goDays_29 hl (k := 0) rfl rfl (by decide) rfl (fun ls hl => ?_)
        refine lv_goto (tgt := 14) hx hb dX12_goDays_32 (by decide) ?_
        have hr9 := Option.some.inj hrun
        subst hr9
        exact ih ((w14.1 + 1), y26) _ hnext hexit _ _ _ (hP.sub [1, 2, 0, 3] rfl) (hD.sub [1, 2, 0, 3] (by decide) rfl) hS (lv_sub hl [0, 1, 2] rfl)
  refine hL14 oz_fuel (0, (upd y1 (Int32.toNatClampNeg 17) 0)) o14 hlp14 (fun H locs ls hP hD hS hl => ?_) _ _ _ (hP.sub [1, 0, 2, 3] rfl) (hD.sub [1, 0, 2, 3] (by decide) rfl) hS (lv_sub hl [0, 1, 2] rfl)
  have hP : va_P (dC, dI) vwCl [(q_this, .inr (12, [.ref q_town, .ref q_read, .ref q_now, .ref q_aside, .ref q_past, .int v_undos, .ref q_images, .ref q_kept, .long v_seed, .ref q_text, .int v_size, .int v_fault, .ref q_sights, .int v_sightMany, .ref q_book, .int v_bookMany, .int v_at, .int v_begin, .int v_sign, .int v_figures, .int v_value, .int v_wrong, .ref q_went, .ref q_free, .ref q_stands])), (q_town, .inl (cI, 27, .inl v_town)), (q_now, .inl (cI, 19, .inl v_now)), (q_aside, .inl (cI, 19, .inl o14.2))] H := hP
  have hD : va_D A [(q_this, .inr (12, [.ref q_town, .ref q_read, .ref q_now, .ref q_aside, .ref q_past, .int v_undos, .ref q_images, .ref q_kept, .long v_seed, .ref q_text, .int v_size, .int v_fault, .ref q_sights, .int v_sightMany, .ref q_book, .int v_bookMany, .int v_at, .int v_begin, .int v_sign, .int v_figures, .int v_value, .int v_wrong, .ref q_went, .ref q_free, .ref q_stands])), (q_town, .inl (cI, 27, .inl v_town)), (q_now, .inl (cI, 19, .inl v_now)), (q_aside, .inl (cI, 19, .inl o14.2))] := hD
  have hl : lv_has ls 3 [(2, .int o14.1), (0, .ref q_this), (1, .int a1)] := hl
  have ho9 := Option.some.inj hrun
  subst ho9
  have hP9 := hP.sub (ws' := [(q_this, .inr (12, [.ref q_town, .ref q_read, .ref q_now, .ref q_aside, .ref q_past, .int v_undos, .ref q_images, .ref q_kept, .long v_seed, .ref q_text, .int v_size, .int v_fault, .ref q_sights, .int v_sightMany, .ref q_book, .int v_bookMany, .int v_at, .int v_begin, .int v_sign, .int v_figures, .int v_value, .int v_wrong, .ref q_went, .ref q_free, .ref q_stands])), (q_town, .inl (cI, 27, .inl v_town)), (q_now, .inl (cI, 19, .inl v_now)), (q_aside, .inl (cI, 19, .inl o14.2))]) [0, 1, 2, 3] rfl
  have hD9 := hD.sub (ws' := [(q_this, .inr (12, [.ref q_town, .ref q_read, .ref q_now, .ref q_aside, .ref q_past, .int v_undos, .ref q_images, .ref q_kept, .long v_seed, .ref q_text, .int v_size, .int v_fault, .ref q_sights, .int v_sightMany, .ref q_book, .int v_bookMany, .int v_at, .int v_begin, .int v_sign, .int v_figures, .int v_value, .int v_wrong, .ref q_went, .ref q_free, .ref q_stands])), (q_town, .inl (cI, 27, .inl v_town)), (q_now, .inl (cI, 19, .inl v_now)), (q_aside, .inl (cI, 19, .inl o14.2))]) [0, 1, 2, 3] (by decide) rfl
  rw [hQ]
  exact W.vret hx hb hr (fun t ht hW => ⟨⟨(), rfl, trivial, by rw [ht]; exact hP9, va_K.moved hW.alike hK, hD9⟩, hS.F ht⟩) hS.2.2 dX12_goDays_35
def fX12_level (v_town : Nat → Int32) (v_now : Nat → Int32) (v_aside : Nat → Int32) (a1 : Int32) (a2 : Int32) : Option (Int32 × (Nat → Int32)) :=
  Option.bind (fX12_isHouse v_town a1) (fun y2 => if y2 = 0 then (some ((-1000000001), v_aside)) else (Option.bind (fX12_in (Int32.toInt64 a2) (0 : Int64) (60 : Int64)) (fun y17 => if y17 = 0 then (some ((-1000000002), v_aside)) else (Option.bind (fX12_goDays v_town v_now v_aside a2) (fun y28 => if ((0 + a1) < 0 ∨ 19 ≤ Int32.toNatClampNeg (0 + a1)) then none else some ((y28 (Int32.toNatClampNeg (0 + a1))), y28))))))
def rmX12_level : Room := { frames := 4, cells := 0, slots := 0, locals := 91 }
set_option maxHeartbeats 4000000 in
set_option maxRecDepth 100000 in
theorem tX12_level (l : Launch) (dC : Nat → ClassId) (dI : Nat → Nat → Nat) (cI cZ : ClassId) (q_aside q_book q_free q_images q_kept q_now q_past q_read q_sights q_stands q_text q_this q_town q_went : Nat) (sz : Nat) (v_undos : Int32) (v_seed : Int64) (v_size : Int32) (v_fault : Int32) (v_sightMany : Int32) (v_bookMany : Int32) (v_at : Int32) (v_begin : Int32) (v_sign : Int32) (v_figures : Int32) (v_value : Int32) (v_wrong : Int32) (v_town : Nat → Int32) (v_now : Nat → Int32) (v_aside : Nat → Int32) (a1 : Int32) (a2 : Int32) (out : Int32 × (Nat → Int32)) (hrun : fX12_level v_town v_now v_aside a1 a2 = some out) : Met l yX12_level wsX12_level rmX12_level (va_Pc [.ref q_this, .int a1, .int a2] (fun U => U.heap.size = sz ∧ va_P (dC, dI) vwCl [(q_this, .inr (12, [.ref q_town, .ref q_read, .ref q_now, .ref q_aside, .ref q_past, .int v_undos, .ref q_images, .ref q_kept, .long v_seed, .ref q_text, .int v_size, .int v_fault, .ref q_sights, .int v_sightMany, .ref q_book, .int v_bookMany, .int v_at, .int v_begin, .int v_sign, .int v_figures, .int v_value, .int v_wrong, .ref q_went, .ref q_free, .ref q_stands])), (q_town, .inl (cI, 27, .inl v_town)), (q_now, .inl (cI, 19, .inl v_now)), (q_aside, .inl (cI, 19, .inl v_aside))] U.heap ∧ va_K (dC, dI) vwCl [(cI, .int), (cZ, .boolean)] U ∧ va_D (fun _ => True) [(q_this, .inr (12, [.ref q_town, .ref q_read, .ref q_now, .ref q_aside, .ref q_past, .int v_undos, .ref q_images, .ref q_kept, .long v_seed, .ref q_text, .int v_size, .int v_fault, .ref q_sights, .int v_sightMany, .ref q_book, .int v_bookMany, .int v_at, .int v_begin, .int v_sign, .int v_figures, .int v_value, .int v_wrong, .ref q_went, .ref q_free, .ref q_stands])), (q_town, .inl (cI, 27, .inl v_town)), (q_now, .inl (cI, 19, .inl v_now)), (q_aside, .inl (cI, 19, .inl v_aside))])) (va_Qi (fun (r : Int32) (_ : Unit) => r = out.1) (fun _ t => va_P (dC, dI) vwCl [(q_this, .inr (12, [.ref q_town, .ref q_read, .ref q_now, .ref q_aside, .ref q_past, .int v_undos, .ref q_images, .ref q_kept, .long v_seed, .ref q_text, .int v_size, .int v_fault, .ref q_sights, .int v_sightMany, .ref q_book, .int v_bookMany, .int v_at, .int v_begin, .int v_sign, .int v_figures, .int v_value, .int v_wrong, .ref q_went, .ref q_free, .ref q_stands])), (q_town, .inl (cI, 27, .inl v_town)), (q_now, .inl (cI, 19, .inl v_now)), (q_aside, .inl (cI, 19, .inl out.2))] t.heap ∧ va_K (dC, dI) vwCl [(cI, .int), (cZ, .boolean)] t ∧ va_D (va_A [(q_this, .inr (12, [.ref q_town, .ref q_read, .ref q_now, .ref q_aside, .ref q_past, .int v_undos, .ref q_images, .ref q_kept, .long v_seed, .ref q_text, .int v_size, .int v_fault, .ref q_sights, .int v_sightMany, .ref q_book, .int v_bookMany, .int v_at, .int v_begin, .int v_sign, .int v_figures, .int v_value, .int v_wrong, .ref q_went, .ref q_free, .ref q_stands])), (q_town, .inl (cI, 27, .inl v_town)), (q_now, .inl (cI, 19, .inl v_now)), (q_aside, .inl (cI, 19, .inl v_aside))] sz) [(q_this, .inr (12, [.ref q_town, .ref q_read, .ref q_now, .ref q_aside, .ref q_past, .int v_undos, .ref q_images, .ref q_kept, .long v_seed, .ref q_text, .int v_size, .int v_fault, .ref q_sights, .int v_sightMany, .ref q_book, .int v_bookMany, .int v_at, .int v_begin, .int v_sign, .int v_figures, .int v_value, .int v_wrong, .ref q_went, .ref q_free, .ref q_stands])), (q_town, .inl (cI, 27, .inl v_town)), (q_now, .inl (cI, 19, .inl v_now)), (q_aside, .inl (cI, 19, .inl out.2))]) (va_A [(q_this, .inr (12, [.ref q_town, .ref q_read, .ref q_now, .ref q_aside, .ref q_past, .int v_undos, .ref q_images, .ref q_kept, .long v_seed, .ref q_text, .int v_size, .int v_fault, .ref q_sights, .int v_sightMany, .ref q_book, .int v_bookMany, .int v_at, .int v_begin, .int v_sign, .int v_figures, .int v_value, .int v_wrong, .ref q_went, .ref q_free, .ref q_stands])), (q_town, .inl (cI, 27, .inl v_town)), (q_now, .inl (cI, 19, .inl v_now)), (q_aside, .inl (cI, 19, .inl v_aside))] sz)) 0 0 (va_A [(q_this, .inr (12, [.ref q_town, .ref q_read, .ref q_now, .ref q_aside, .ref q_past, .int v_undos, .ref q_images, .ref q_kept, .long v_seed, .ref q_text, .int v_size, .int v_fault, .ref q_sights, .int v_sightMany, .ref q_book, .int v_bookMany, .int v_at, .int v_begin, .int v_sign, .int v_figures, .int v_value, .int v_wrong, .ref q_went, .ref q_free, .ref q_stands])), (q_town, .inl (cI, 27, .inl v_town)), (q_now, .inl (cI, 19, .inl v_now)), (q_aside, .inl (cI, 19, .inl v_aside))] sz) := by
  refine Met.ofW (cc := cX12_level) (maxL := 3) (ret := (some .int)) (by decide) rfl ?_
  intro p e s m args below meth c s₁ B hml hv
  obtain ⟨rfl, hsz, hP, hK, hD0⟩ := hv
  have hx := B.exec
  have hb := B.bytes
  have hr := B.returns
  have hts := atoms_spec (ws := wsX12_level) B.pre
  have hown : s.vm.findClass RX12 = some m.cls := findClass_of_methodNamed B.named
  have hlocks := B.notSynchronized
  subst hsz
  have hD := hD0.self (sz := s.heap.size)
  generalize hAe : va_A [(q_this, .inr (12, [.ref q_town, .ref q_read, .ref q_now, .ref q_aside, .ref q_past, .int v_undos, .ref q_images, .ref q_kept, .long v_seed, .ref q_text, .int v_size, .int v_fault, .ref q_sights, .int v_sightMany, .ref q_book, .int v_bookMany, .int v_at, .int v_begin, .int v_sign, .int v_figures, .int v_value, .int v_wrong, .ref q_went, .ref q_free, .ref q_stands])), (q_town, .inl (cI, 27, .inl v_town)), (q_now, .inl (cI, 19, .inl v_now)), (q_aside, .inl (cI, 19, .inl v_aside))] s.heap.size = A at hD ⊢
  have hA : ∀ q : Nat, s.heap.size ≤ q → A q := fun q h => by rw [← hAe]; exact Or.inr h
  have hS : va_S A s.heap s.heap [] := va_S.rf
  have hl := lv_entry ([.ref q_this, .int a1, .int a2]) (n := 3) (Nat.le_of_ble_eq_true rfl)
  rw [lg_entry_eq]
  generalize (lg_sl ([.ref q_this, .int a1, .int a2]) ++ List.replicate (3 - (lg_sl ([.ref q_this, .int a1, .int a2])).length) Slot.unset).toArray = ls at hl ⊢
  have hl : lv_has ls 3 [(0, .ref q_this), (1, .int a1), (2, .int a2)] := hl
  unfold fX12_level at hrun
  have hk171 := hts (.constantLong RX12 171 (60)) (by decide +kernel)
  have hk19 := hts (.fieldLink RX12 19 "LentDrainsModel" "aside" "[I") (by decide +kernel)
  have hiX12 : ∀ w ∈ wsX120, w ∈ wsX12_level := by decide +kernel
  have hk69 := hts (.constant RX12 69 (-1000000002)) (by decide +kernel)
  have hk151 := hts (.constant RX12 151 (-1000000001)) (by decide +kernel)
  refine oz_genQ (fun Q hQ => ?_)
  refine lv_aload_n hx hb dX12_level_0 rfl (lv_at hl 0 rfl) ?_
  refine lv_iload_n hx hb dX12_level_1 rfl (lv_at hl 1 rfl) ?_
  obtain ⟨y2, hc2, hrun⟩ := oz_bind hrun
  have hPc := hP.sub (ws' := [(q_this, .inr (12, [.ref q_town, .ref q_read, .ref q_now, .ref q_aside, .ref q_past, .int v_undos, .ref q_images, .ref q_kept, .long v_seed, .ref q_text, .int v_size, .int v_fault, .ref q_sights, .int v_sightMany, .ref q_book, .int v_bookMany, .int v_at, .int v_begin, .int v_sign, .int v_figures, .int v_value, .int v_wrong, .ref q_went, .ref q_free, .ref q_stands])), (q_town, .inl (cI, 27, .inl v_town))]) [0, 1] rfl
  have hDc := hD.sub (ws' := [(q_this, .inr (12, [.ref q_town, .ref q_read, .ref q_now, .ref q_aside, .ref q_past, .int v_undos, .ref q_images, .ref q_kept, .long v_seed, .ref q_text, .int v_size, .int v_fault, .ref q_sights, .int v_sightMany, .ref q_book, .int v_bookMany, .int v_at, .int v_begin, .int v_sign, .int v_figures, .int v_value, .int v_wrong, .ref q_went, .ref q_free, .ref q_stands])), (q_town, .inl (cI, 27, .inl v_town))]) [0, 1] (by decide) rfl
  have hFc := va_free (wc := [(q_this, .inr (12, [.ref q_town, .ref q_read, .ref q_now, .ref q_aside, .ref q_past, .int v_undos, .ref q_images, .ref q_kept, .long v_seed, .ref q_text, .int v_size, .int v_fault, .ref q_sights, .int v_sightMany, .ref q_book, .int v_bookMany, .int v_at, .int v_begin, .int v_sign, .int v_figures, .int v_value, .int v_wrong, .ref q_went, .ref q_free, .ref q_stands])), (q_town, .inl (cI, 27, .inl v_town))]) hD hS hA [0, 1] rfl
  refine va_calli (va_runV (As := [.int a1]) (rest := []) ⟨hx, hb, hml, hown, hts⟩ (tX12_isHouse l dC dI cI cZ q_aside q_book q_free q_images q_kept q_now q_past q_read q_sights q_stands q_text q_this q_town q_went s.heap.size v_undos v_seed v_size v_fault v_sightMany v_bookMany v_at v_begin v_sign v_figures v_value v_wrong v_town a1 y2 hc2) (cwV 1 hts gX12_level_X12_isHouse rfl rfl rfl (by decide +kernel) ⟨Nat.le_of_ble_eq_true rfl, Nat.le_of_ble_eq_true rfl⟩) ⟨fun a U g mk q => by obtain ⟨q0, q1, qP, qK, qD⟩ := q; exact ⟨q0, q1, qP, va_K.moved (u := U) (U := U.calling g mk a) (Vm.Alike.refl U.vm) qK, qD⟩, va_recv hK hPc (ci := 12) (q0 := 0) rfl rfl, fun U hU hW => ⟨rfl, by rw [hU], by rw [hU]; exact hPc, va_K.moved hW.alike hK, hDc.weaken (fun _ _ _ _ => trivial)⟩⟩ rfl rfl hl.1 rfl (lv_room (Nat.le_of_ble_eq_true rfl)) dX12_level_2 ⟨Nat.le_of_ble_eq_true rfl, Nat.le_of_ble_eq_true rfl⟩) hS (fun q _ h => hFc q h) hFc (fun r2 u9 t9 H1 locs ht9 hvm9 hw9 hB9 hz9 hkk9 hS => ?_)
  have hw9 : y2 = r2 := hw9.symm
  subst hw9
  obtain ⟨hP9, hK9, hD9⟩ := hB9
  rw [ht9] at hP9
  obtain ⟨hP, hD⟩ := va_join (wr := [(q_now, .inl (cI, 19, .inl v_now)), (q_aside, .inl (cI, 19, .inl v_aside))]) (w1 := [(q_this, .inr (12, [.ref q_town, .ref q_read, .ref q_now, .ref q_aside, .ref q_past, .int v_undos, .ref q_images, .ref q_kept, .long v_seed, .ref q_text, .int v_size, .int v_fault, .ref q_sights, .int v_sightMany, .ref q_book, .int v_bookMany, .int v_at, .int v_begin, .int v_sign, .int v_figures, .int v_value, .int v_wrong, .ref q_went, .ref q_free, .ref q_stands])), (q_town, .inl (cI, 27, .inl v_town))]) hP hD [0, 1] [2, 3] rfl rfl (by decide) (by decide) hkk9 hFc hP9 hD9
  generalize H1 = H at hP hS ⊢
  have hP : va_P (dC, dI) vwCl [(q_now, .inl (cI, 19, .inl v_now)), (q_aside, .inl (cI, 19, .inl v_aside)), (q_this, .inr (12, [.ref q_town, .ref q_read, .ref q_now, .ref q_aside, .ref q_past, .int v_undos, .ref q_images, .ref q_kept, .long v_seed, .ref q_text, .int v_size, .int v_fault, .ref q_sights, .int v_sightMany, .ref q_book, .int v_bookMany, .int v_at, .int v_begin, .int v_sign, .int v_figures, .int v_value, .int v_wrong, .ref q_went, .ref q_free, .ref q_stands])), (q_town, .inl (cI, 27, .inl v_town))] H := hP
  have hD : va_D A [(q_now, .inl (cI, 19, .inl v_now)), (q_aside, .inl (cI, 19, .inl v_aside)), (q_this, .inr (12, [.ref q_town, .ref q_read, .ref q_now, .ref q_aside, .ref q_past, .int v_undos, .ref q_images, .ref q_kept, .long v_seed, .ref q_text, .int v_size, .int v_fault, .ref q_sights, .int v_sightMany, .ref q_book, .int v_bookMany, .int v_at, .int v_begin, .int v_sign, .int v_figures, .int v_value, .int v_wrong, .ref q_went, .ref q_free, .ref q_stands])), (q_town, .inl (cI, 27, .inl v_town))] := hD
  refine lv_if_ne (tgt := 11) hx hb dX12_level_5 (by decide) (fun c1 => ?_) (fun c1 => ?_)
  · have hrun := oz_f hrun c1
    refine lv_iload_n hx hb dX12_level_11 rfl (lv_at hl 2 rfl) ?_
    refine lv_i2l hx hb dX12_level_12 rfl ?_
    refine lv_lconst (v := 0) hx hb dX12_level_13 (by decide) ?_
    refine lv_ldc2 hx hb hown hk171 dX12_level_14 ?_
    obtain ⟨y17, hc17, hrun⟩ := oz_bind hrun
    have hPc := hP.sub (ws' := []) [] rfl
    have hDc := hD.sub (ws' := []) [] (by decide) rfl
    have hFc := va_free (wc := []) hD hS hA [] rfl
    refine va_calli (va_runS (As := [.long (Int32.toInt64 a2), .long (0 : Int64), .long (60 : Int64)]) (rest := []) ⟨hx, hb, hml, hown, hts⟩ (tX12_in l dC dI cI cZ H.size (Int32.toInt64 a2) (0 : Int64) (60 : Int64) y17 hc17) (va_cwS 3 hts gX12_level_X12_in rfl rfl rfl (by decide +kernel) ⟨Nat.le_of_ble_eq_true rfl, Nat.le_of_ble_eq_true rfl⟩) ⟨fun a U g mk q => by obtain ⟨q0, q1, qP, qK, qD⟩ := q; exact ⟨q0, q1, qP, va_K.moved (u := U) (U := U.calling g mk a) (Vm.Alike.refl U.vm) qK, qD⟩, fun U hU hW => ⟨rfl, by rw [hU], by rw [hU]; exact hPc, va_K.moved hW.alike hK, hDc.weaken (fun _ _ _ _ => trivial)⟩⟩ rfl rfl hl.1 rfl (lv_room (Nat.le_of_ble_eq_true rfl)) dX12_level_17 ⟨Nat.le_of_ble_eq_true rfl, Nat.le_of_ble_eq_true rfl⟩) hS (fun q _ h => hFc q h) hFc (fun r17 u9 t9 H1 locs ht9 hvm9 hw9 hB9 hz9 hkk9 hS => ?_)
    have hw9 : y17 = r17 := hw9.symm
    subst hw9
    obtain ⟨hP9, hK9, hD9⟩ := hB9
    rw [ht9] at hP9
    obtain ⟨hP, hD⟩ := va_join (wr := [(q_now, .inl (cI, 19, .inl v_now)), (q_aside, .inl (cI, 19, .inl v_aside)), (q_this, .inr (12, [.ref q_town, .ref q_read, .ref q_now, .ref q_aside, .ref q_past, .int v_undos, .ref q_images, .ref q_kept, .long v_seed, .ref q_text, .int v_size, .int v_fault, .ref q_sights, .int v_sightMany, .ref q_book, .int v_bookMany, .int v_at, .int v_begin, .int v_sign, .int v_figures, .int v_value, .int v_wrong, .ref q_went, .ref q_free, .ref q_stands])), (q_town, .inl (cI, 27, .inl v_town))]) (w1 := []) hP hD [] [0, 1, 2, 3] rfl rfl (by decide) (by decide) hkk9 hFc hP9 hD9
    generalize H1 = H at hP hS ⊢
    have hP : va_P (dC, dI) vwCl [(q_now, .inl (cI, 19, .inl v_now)), (q_aside, .inl (cI, 19, .inl v_aside)), (q_this, .inr (12, [.ref q_town, .ref q_read, .ref q_now, .ref q_aside, .ref q_past, .int v_undos, .ref q_images, .ref q_kept, .long v_seed, .ref q_text, .int v_size, .int v_fault, .ref q_sights, .int v_sightMany, .ref q_book, .int v_bookMany, .int v_at, .int v_begin, .int v_sign, .int v_figures, .int v_value, .int v_wrong, .ref q_went, .ref q_free, .ref q_stands])), (q_town, .inl (cI, 27, .inl v_town))] H := hP
    have hD : va_D A [(q_now, .inl (cI, 19, .inl v_now)), (q_aside, .inl (cI, 19, .inl v_aside)), (q_this, .inr (12, [.ref q_town, .ref q_read, .ref q_now, .ref q_aside, .ref q_past, .int v_undos, .ref q_images, .ref q_kept, .long v_seed, .ref q_text, .int v_size, .int v_fault, .ref q_sights, .int v_sightMany, .ref q_book, .int v_bookMany, .int v_at, .int v_begin, .int v_sign, .int v_figures, .int v_value, .int v_wrong, .ref q_went, .ref q_free, .ref q_stands])), (q_town, .inl (cI, 27, .inl v_town))] := hD
    refine lv_if_ne (tgt := 26) hx hb dX12_level_20 (by decide) (fun c2 => ?_) (fun c2 => ?_)
    · have hrun := oz_f hrun c2
      refine lv_aload_n hx hb dX12_level_26 rfl (lv_at hl 0 rfl) ?_
      refine lv_iload_n hx hb dX12_level_27 rfl (lv_at hl 2 rfl) ?_
      obtain ⟨y28, hc28, hrun⟩ := oz_bind hrun
      have hPc := hP.sub (ws' := [(q_this, .inr (12, [.ref q_town, .ref q_read, .ref q_now, .ref q_aside, .ref q_past, .int v_undos, .ref q_images, .ref q_kept, .long v_seed, .ref q_text, .int v_size, .int v_fault, .ref q_sights, .int v_sightMany, .ref q_book, .int v_bookMany, .int v_at, .int v_begin, .int v_sign, .int v_figures, .int v_value, .int v_wrong, .ref q_went, .ref q_free, .ref q_stands])), (q_town, .inl (cI, 27, .inl v_town)), (q_now, .inl (cI, 19, .inl v_now)), (q_aside, .inl (cI, 19, .inl v_aside))]) [2, 3, 0, 1] rfl
      have hDc := hD.sub (ws' := [(q_this, .inr (12, [.ref q_town, .ref q_read, .ref q_now, .ref q_aside, .ref q_past, .int v_undos, .ref q_images, .ref q_kept, .long v_seed, .ref q_text, .int v_size, .int v_fault, .ref q_sights, .int v_sightMany, .ref q_book, .int v_bookMany, .int v_at, .int v_begin, .int v_sign, .int v_figures, .int v_value, .int v_wrong, .ref q_went, .ref q_free, .ref q_stands])), (q_town, .inl (cI, 27, .inl v_town)), (q_now, .inl (cI, 19, .inl v_now)), (q_aside, .inl (cI, 19, .inl v_aside))]) [2, 3, 0, 1] (by decide) rfl
      have hFc := va_free (wc := [(q_this, .inr (12, [.ref q_town, .ref q_read, .ref q_now, .ref q_aside, .ref q_past, .int v_undos, .ref q_images, .ref q_kept, .long v_seed, .ref q_text, .int v_size, .int v_fault, .ref q_sights, .int v_sightMany, .ref q_book, .int v_bookMany, .int v_at, .int v_begin, .int v_sign, .int v_figures, .int v_value, .int v_wrong, .ref q_went, .ref q_free, .ref q_stands])), (q_town, .inl (cI, 27, .inl v_town)), (q_now, .inl (cI, 19, .inl v_now)), (q_aside, .inl (cI, 19, .inl v_aside))]) hD hS hA [2, 3, 0, 1] rfl
      refine va_callv (va_runV (As := [.int a2]) (rest := []) ⟨hx, hb, hml, hown, hts⟩ (tX12_goDays l dC dI cI cZ q_aside q_book q_free q_images q_kept q_now q_past q_read q_sights q_stands q_text q_this q_town q_went H.size v_undos v_seed v_size v_fault v_sightMany v_bookMany v_at v_begin v_sign v_figures v_value v_wrong v_town v_now v_aside a2 y28 hc28) (cwV 1 hts gX12_level_X12_goDays rfl rfl rfl (by decide +kernel) ⟨Nat.le_of_ble_eq_true rfl, Nat.le_of_ble_eq_true rfl⟩) ⟨fun a U g mk q => by obtain ⟨q0, q1, qP, qK, qD⟩ := q; exact ⟨q0, q1, qP, va_K.moved (u := U) (U := U.calling g mk a) (Vm.Alike.refl U.vm) qK, qD⟩, va_recv hK hPc (ci := 12) (q0 := 0) rfl rfl, fun U hU hW => ⟨rfl, by rw [hU], by rw [hU]; exact hPc, va_K.moved hW.alike hK, hDc.weaken (fun _ _ _ _ => trivial)⟩⟩ rfl rfl hl.1 rfl (lv_room (Nat.le_of_ble_eq_true rfl)) dX12_level_28 ⟨Nat.le_of_ble_eq_true rfl, Nat.le_of_ble_eq_true rfl⟩) hS (fun q _ h => hFc q h) hFc (fun u9 t9 H1 locs ht9 hvm9 hw9 hB9 hz9 hkk9 hS => ?_)
      obtain ⟨hP9, hK9, hD9⟩ := hB9
      rw [ht9] at hP9
      obtain ⟨hP, hD⟩ := va_join (wr := []) (w1 := [(q_this, .inr (12, [.ref q_town, .ref q_read, .ref q_now, .ref q_aside, .ref q_past, .int v_undos, .ref q_images, .ref q_kept, .long v_seed, .ref q_text, .int v_size, .int v_fault, .ref q_sights, .int v_sightMany, .ref q_book, .int v_bookMany, .int v_at, .int v_begin, .int v_sign, .int v_figures, .int v_value, .int v_wrong, .ref q_went, .ref q_free, .ref q_stands])), (q_town, .inl (cI, 27, .inl v_town)), (q_now, .inl (cI, 19, .inl v_now)), (q_aside, .inl (cI, 19, .inl y28))]) hP hD [2, 3, 0, 1] [] rfl rfl (by decide) (by decide) hkk9 hFc hP9 hD9
      generalize H1 = H at hP hS ⊢
      have hP : va_P (dC, dI) vwCl [(q_this, .inr (12, [.ref q_town, .ref q_read, .ref q_now, .ref q_aside, .ref q_past, .int v_undos, .ref q_images, .ref q_kept, .long v_seed, .ref q_text, .int v_size, .int v_fault, .ref q_sights, .int v_sightMany, .ref q_book, .int v_bookMany, .int v_at, .int v_begin, .int v_sign, .int v_figures, .int v_value, .int v_wrong, .ref q_went, .ref q_free, .ref q_stands])), (q_town, .inl (cI, 27, .inl v_town)), (q_now, .inl (cI, 19, .inl v_now)), (q_aside, .inl (cI, 19, .inl y28))] H := hP
      have hD : va_D A [(q_this, .inr (12, [.ref q_town, .ref q_read, .ref q_now, .ref q_aside, .ref q_past, .int v_undos, .ref q_images, .ref q_kept, .long v_seed, .ref q_text, .int v_size, .int v_fault, .ref q_sights, .int v_sightMany, .ref q_book, .int v_bookMany, .int v_at, .int v_begin, .int v_sign, .int v_figures, .int v_value, .int v_wrong, .ref q_went, .ref q_free, .ref q_stands])), (q_town, .inl (cI, 27, .inl v_town)), (q_now, .inl (cI, 19, .inl v_now)), (q_aside, .inl (cI, 19, .inl y28))] := hD
      refine lv_aload_n hx hb dX12_level_31 rfl (lv_at hl 0 rfl) ?_
      refine va_get (D := (dC, dI)) (ci := 12) (v := .ref q_aside) (C := RX12) (T := TX12) (N := 25) hx hb hts hiX12 hown hK hP 0 rfl rfl 3 (by decide) hk19 (fun _ h9 => h9) rfl dX12_level_32 ?_
      refine lv_iconst (v := 0) hx hb dX12_level_35 (by decide) ?_
      refine lv_iload_n hx hb dX12_level_36 rfl (lv_at hl 1 rfl) ?_
      refine lv_iadd hx hb dX12_level_37 ?_
      obtain ⟨c3, hrun⟩ := oz_chk hrun
      refine va_iald hx hb hK hP 3 0 rfl rfl c3 dX12_level_38 ?_
      have ho9 := Option.some.inj hrun
      subst ho9
      have hP9 := hP.sub (ws' := [(q_this, .inr (12, [.ref q_town, .ref q_read, .ref q_now, .ref q_aside, .ref q_past, .int v_undos, .ref q_images, .ref q_kept, .long v_seed, .ref q_text, .int v_size, .int v_fault, .ref q_sights, .int v_sightMany, .ref q_book, .int v_bookMany, .int v_at, .int v_begin, .int v_sign, .int v_figures, .int v_value, .int v_wrong, .ref q_went, .ref q_free, .ref q_stands])), (q_town, .inl (cI, 27, .inl v_town)), (q_now, .inl (cI, 19, .inl v_now)), (q_aside, .inl (cI, 19, .inl y28))]) [0, 1, 2, 3] rfl
      have hD9 := hD.sub (ws' := [(q_this, .inr (12, [.ref q_town, .ref q_read, .ref q_now, .ref q_aside, .ref q_past, .int v_undos, .ref q_images, .ref q_kept, .long v_seed, .ref q_text, .int v_size, .int v_fault, .ref q_sights, .int v_sightMany, .ref q_book, .int v_bookMany, .int v_at, .int v_begin, .int v_sign, .int v_figures, .int v_value, .int v_wrong, .ref q_went, .ref q_free, .ref q_stands])), (q_town, .inl (cI, 27, .inl v_town)), (q_now, .inl (cI, 19, .inl v_now)), (q_aside, .inl (cI, 19, .inl y28))]) [0, 1, 2, 3] (by decide) rfl
      rw [hQ]
      exact W.iret (v := (y28 (Int32.toNatClampNeg (0 + a1)))) hx hb hr (fun t ht hW => ⟨⟨(y28 (Int32.toNatClampNeg (0 + a1))), (), rfl, rfl, by rw [ht]; exact hP9, va_K.moved hW.alike hK, hD9⟩, hS.F ht⟩) hS.2.2 dX12_level_39
    · have hrun := oz_t hrun c2
      refine lv_ldc hx hb hown hk69 dX12_level_23 ?_
      have ho9 := Option.some.inj hrun
      subst ho9
      have hP9 := hP.sub (ws' := [(q_this, .inr (12, [.ref q_town, .ref q_read, .ref q_now, .ref q_aside, .ref q_past, .int v_undos, .ref q_images, .ref q_kept, .long v_seed, .ref q_text, .int v_size, .int v_fault, .ref q_sights, .int v_sightMany, .ref q_book, .int v_bookMany, .int v_at, .int v_begin, .int v_sign, .int v_figures, .int v_value, .int v_wrong, .ref q_went, .ref q_free, .ref q_stands])), (q_town, .inl (cI, 27, .inl v_town)), (q_now, .inl (cI, 19, .inl v_now)), (q_aside, .inl (cI, 19, .inl v_aside))]) [2, 3, 0, 1] rfl
      have hD9 := hD.sub (ws' := [(q_this, .inr (12, [.ref q_town, .ref q_read, .ref q_now, .ref q_aside, .ref q_past, .int v_undos, .ref q_images, .ref q_kept, .long v_seed, .ref q_text, .int v_size, .int v_fault, .ref q_sights, .int v_sightMany, .ref q_book, .int v_bookMany, .int v_at, .int v_begin, .int v_sign, .int v_figures, .int v_value, .int v_wrong, .ref q_went, .ref q_free, .ref q_stands])), (q_town, .inl (cI, 27, .inl v_town)), (q_now, .inl (cI, 19, .inl v_now)), (q_aside, .inl (cI, 19, .inl v_aside))]) [2, 3, 0, 1] (by decide) rfl
      rw [hQ]
      exact W.iret (v := (-1000000002)) hx hb hr (fun t ht hW => ⟨⟨(-1000000002), (), rfl, rfl, by rw [ht]; exact hP9, va_K.moved hW.alike hK, hD9⟩, hS.F ht⟩) hS.2.2 dX12_level_25
  · have hrun := oz_t hrun c1
    refine lv_ldc hx hb hown hk151 dX12_level_8 ?_
    have ho9 := Option.some.inj hrun
    subst ho9
    have hP9 := hP.sub (ws' := [(q_this, .inr (12, [.ref q_town, .ref q_read, .ref q_now, .ref q_aside, .ref q_past, .int v_undos, .ref q_images, .ref q_kept, .long v_seed, .ref q_text, .int v_size, .int v_fault, .ref q_sights, .int v_sightMany, .ref q_book, .int v_bookMany, .int v_at, .int v_begin, .int v_sign, .int v_figures, .int v_value, .int v_wrong, .ref q_went, .ref q_free, .ref q_stands])), (q_town, .inl (cI, 27, .inl v_town)), (q_now, .inl (cI, 19, .inl v_now)), (q_aside, .inl (cI, 19, .inl v_aside))]) [2, 3, 0, 1] rfl
    have hD9 := hD.sub (ws' := [(q_this, .inr (12, [.ref q_town, .ref q_read, .ref q_now, .ref q_aside, .ref q_past, .int v_undos, .ref q_images, .ref q_kept, .long v_seed, .ref q_text, .int v_size, .int v_fault, .ref q_sights, .int v_sightMany, .ref q_book, .int v_bookMany, .int v_at, .int v_begin, .int v_sign, .int v_figures, .int v_value, .int v_wrong, .ref q_went, .ref q_free, .ref q_stands])), (q_town, .inl (cI, 27, .inl v_town)), (q_now, .inl (cI, 19, .inl v_now)), (q_aside, .inl (cI, 19, .inl v_aside))]) [2, 3, 0, 1] (by decide) rfl
    rw [hQ]
    exact W.iret (v := (-1000000001)) hx hb hr (fun t ht hW => ⟨⟨(-1000000001), (), rfl, rfl, by rw [ht]; exact hP9, va_K.moved hW.alike hK, hD9⟩, hS.F ht⟩) hS.2.2 dX12_level_10
def fX12_spills (v_town : Nat → Int32) (v_now : Nat → Int32) (v_aside : Nat → Int32) (a1 : Int32) : Option (Int32 × (Nat → Int32)) :=
  Option.bind (fX12_in (Int32.toInt64 a1) (0 : Int64) (60 : Int64)) (fun y6 => if y6 = 0 then (some ((-1000000002), v_aside)) else (Option.bind (fX12_goDays v_town v_now v_aside a1) (fun y17 => some ((y17 (Int32.toNatClampNeg 17)), y17))))
def rmX12_spills : Room := { frames := 4, cells := 0, slots := 0, locals := 91 }
set_option maxHeartbeats 4000000 in
set_option maxRecDepth 100000 in
theorem tX12_spills (l : Launch) (dC : Nat → ClassId) (dI : Nat → Nat → Nat) (cI cZ : ClassId) (q_aside q_book q_free q_images q_kept q_now q_past q_read q_sights q_stands q_text q_this q_town q_went : Nat) (sz : Nat) (v_undos : Int32) (v_seed : Int64) (v_size : Int32) (v_fault : Int32) (v_sightMany : Int32) (v_bookMany : Int32) (v_at : Int32) (v_begin : Int32) (v_sign : Int32) (v_figures : Int32) (v_value : Int32) (v_wrong : Int32) (v_town : Nat → Int32) (v_now : Nat → Int32) (v_aside : Nat → Int32) (a1 : Int32) (out : Int32 × (Nat → Int32)) (hrun : fX12_spills v_town v_now v_aside a1 = some out) : Met l yX12_spills wsX12_spills rmX12_spills (va_Pc [.ref q_this, .int a1] (fun U => U.heap.size = sz ∧ va_P (dC, dI) vwCl [(q_this, .inr (12, [.ref q_town, .ref q_read, .ref q_now, .ref q_aside, .ref q_past, .int v_undos, .ref q_images, .ref q_kept, .long v_seed, .ref q_text, .int v_size, .int v_fault, .ref q_sights, .int v_sightMany, .ref q_book, .int v_bookMany, .int v_at, .int v_begin, .int v_sign, .int v_figures, .int v_value, .int v_wrong, .ref q_went, .ref q_free, .ref q_stands])), (q_town, .inl (cI, 27, .inl v_town)), (q_now, .inl (cI, 19, .inl v_now)), (q_aside, .inl (cI, 19, .inl v_aside))] U.heap ∧ va_K (dC, dI) vwCl [(cI, .int), (cZ, .boolean)] U ∧ va_D (fun _ => True) [(q_this, .inr (12, [.ref q_town, .ref q_read, .ref q_now, .ref q_aside, .ref q_past, .int v_undos, .ref q_images, .ref q_kept, .long v_seed, .ref q_text, .int v_size, .int v_fault, .ref q_sights, .int v_sightMany, .ref q_book, .int v_bookMany, .int v_at, .int v_begin, .int v_sign, .int v_figures, .int v_value, .int v_wrong, .ref q_went, .ref q_free, .ref q_stands])), (q_town, .inl (cI, 27, .inl v_town)), (q_now, .inl (cI, 19, .inl v_now)), (q_aside, .inl (cI, 19, .inl v_aside))])) (va_Qi (fun (r : Int32) (_ : Unit) => r = out.1) (fun _ t => va_P (dC, dI) vwCl [(q_this, .inr (12, [.ref q_town, .ref q_read, .ref q_now, .ref q_aside, .ref q_past, .int v_undos, .ref q_images, .ref q_kept, .long v_seed, .ref q_text, .int v_size, .int v_fault, .ref q_sights, .int v_sightMany, .ref q_book, .int v_bookMany, .int v_at, .int v_begin, .int v_sign, .int v_figures, .int v_value, .int v_wrong, .ref q_went, .ref q_free, .ref q_stands])), (q_town, .inl (cI, 27, .inl v_town)), (q_now, .inl (cI, 19, .inl v_now)), (q_aside, .inl (cI, 19, .inl out.2))] t.heap ∧ va_K (dC, dI) vwCl [(cI, .int), (cZ, .boolean)] t ∧ va_D (va_A [(q_this, .inr (12, [.ref q_town, .ref q_read, .ref q_now, .ref q_aside, .ref q_past, .int v_undos, .ref q_images, .ref q_kept, .long v_seed, .ref q_text, .int v_size, .int v_fault, .ref q_sights, .int v_sightMany, .ref q_book, .int v_bookMany, .int v_at, .int v_begin, .int v_sign, .int v_figures, .int v_value, .int v_wrong, .ref q_went, .ref q_free, .ref q_stands])), (q_town, .inl (cI, 27, .inl v_town)), (q_now, .inl (cI, 19, .inl v_now)), (q_aside, .inl (cI, 19, .inl v_aside))] sz) [(q_this, .inr (12, [.ref q_town, .ref q_read, .ref q_now, .ref q_aside, .ref q_past, .int v_undos, .ref q_images, .ref q_kept, .long v_seed, .ref q_text, .int v_size, .int v_fault, .ref q_sights, .int v_sightMany, .ref q_book, .int v_bookMany, .int v_at, .int v_begin, .int v_sign, .int v_figures, .int v_value, .int v_wrong, .ref q_went, .ref q_free, .ref q_stands])), (q_town, .inl (cI, 27, .inl v_town)), (q_now, .inl (cI, 19, .inl v_now)), (q_aside, .inl (cI, 19, .inl out.2))]) (va_A [(q_this, .inr (12, [.ref q_town, .ref q_read, .ref q_now, .ref q_aside, .ref q_past, .int v_undos, .ref q_images, .ref q_kept, .long v_seed, .ref q_text, .int v_size, .int v_fault, .ref q_sights, .int v_sightMany, .ref q_book, .int v_bookMany, .int v_at, .int v_begin, .int v_sign, .int v_figures, .int v_value, .int v_wrong, .ref q_went, .ref q_free, .ref q_stands])), (q_town, .inl (cI, 27, .inl v_town)), (q_now, .inl (cI, 19, .inl v_now)), (q_aside, .inl (cI, 19, .inl v_aside))] sz)) 0 0 (va_A [(q_this, .inr (12, [.ref q_town, .ref q_read, .ref q_now, .ref q_aside, .ref q_past, .int v_undos, .ref q_images, .ref q_kept, .long v_seed, .ref q_text, .int v_size, .int v_fault, .ref q_sights, .int v_sightMany, .ref q_book, .int v_bookMany, .int v_at, .int v_begin, .int v_sign, .int v_figures, .int v_value, .int v_wrong, .ref q_went, .ref q_free, .ref q_stands])), (q_town, .inl (cI, 27, .inl v_town)), (q_now, .inl (cI, 19, .inl v_now)), (q_aside, .inl (cI, 19, .inl v_aside))] sz) := by
  refine Met.ofW (cc := cX12_spills) (maxL := 2) (ret := (some .int)) (by decide) rfl ?_
  intro p e s m args below meth c s₁ B hml hv
  obtain ⟨rfl, hsz, hP, hK, hD0⟩ := hv
  have hx := B.exec
  have hb := B.bytes
  have hr := B.returns
  have hts := atoms_spec (ws := wsX12_spills) B.pre
  have hown : s.vm.findClass RX12 = some m.cls := findClass_of_methodNamed B.named
  have hlocks := B.notSynchronized
  subst hsz
  have hD := hD0.self (sz := s.heap.size)
  generalize hAe : va_A [(q_this, .inr (12, [.ref q_town, .ref q_read, .ref q_now, .ref q_aside, .ref q_past, .int v_undos, .ref q_images, .ref q_kept, .long v_seed, .ref q_text, .int v_size, .int v_fault, .ref q_sights, .int v_sightMany, .ref q_book, .int v_bookMany, .int v_at, .int v_begin, .int v_sign, .int v_figures, .int v_value, .int v_wrong, .ref q_went, .ref q_free, .ref q_stands])), (q_town, .inl (cI, 27, .inl v_town)), (q_now, .inl (cI, 19, .inl v_now)), (q_aside, .inl (cI, 19, .inl v_aside))] s.heap.size = A at hD ⊢
  have hA : ∀ q : Nat, s.heap.size ≤ q → A q := fun q h => by rw [← hAe]; exact Or.inr h
  have hS : va_S A s.heap s.heap [] := va_S.rf
  have hl := lv_entry ([.ref q_this, .int a1]) (n := 2) (Nat.le_of_ble_eq_true rfl)
  rw [lg_entry_eq]
  generalize (lg_sl ([.ref q_this, .int a1]) ++ List.replicate (2 - (lg_sl ([.ref q_this, .int a1])).length) Slot.unset).toArray = ls at hl ⊢
  have hl : lv_has ls 2 [(0, .ref q_this), (1, .int a1)] := hl
  unfold fX12_spills at hrun
  have hk171 := hts (.constantLong RX12 171 (60)) (by decide +kernel)
  have hk19 := hts (.fieldLink RX12 19 "LentDrainsModel" "aside" "[I") (by decide +kernel)
  have hiX12 : ∀ w ∈ wsX120, w ∈ wsX12_spills := by decide +kernel
  have hk69 := hts (.constant RX12 69 (-1000000002)) (by decide +kernel)
  refine oz_genQ (fun Q hQ => ?_)
  refine lv_iload_n hx hb dX12_spills_0 rfl (lv_at hl 1 rfl) ?_
  refine lv_i2l hx hb dX12_spills_1 rfl ?_
  refine lv_lconst (v := 0) hx hb dX12_spills_2 (by decide) ?_
  refine lv_ldc2 hx hb hown hk171 dX12_spills_3 ?_
  obtain ⟨y6, hc6, hrun⟩ := oz_bind hrun
  have hPc := hP.sub (ws' := []) [] rfl
  have hDc := hD.sub (ws' := []) [] (by decide) rfl
  have hFc := va_free (wc := []) hD hS hA [] rfl
  refine va_calli (va_runS (As := [.long (Int32.toInt64 a1), .long (0 : Int64), .long (60 : Int64)]) (rest := []) ⟨hx, hb, hml, hown, hts⟩ (tX12_in l dC dI cI cZ s.heap.size (Int32.toInt64 a1) (0 : Int64) (60 : Int64) y6 hc6) (va_cwS 3 hts gX12_spills_X12_in rfl rfl rfl (by decide +kernel) ⟨Nat.le_of_ble_eq_true rfl, Nat.le_of_ble_eq_true rfl⟩) ⟨fun a U g mk q => by obtain ⟨q0, q1, qP, qK, qD⟩ := q; exact ⟨q0, q1, qP, va_K.moved (u := U) (U := U.calling g mk a) (Vm.Alike.refl U.vm) qK, qD⟩, fun U hU hW => ⟨rfl, by rw [hU], by rw [hU]; exact hPc, va_K.moved hW.alike hK, hDc.weaken (fun _ _ _ _ => trivial)⟩⟩ rfl rfl hl.1 rfl (lv_room (Nat.le_of_ble_eq_true rfl)) dX12_spills_6 ⟨Nat.le_of_ble_eq_true rfl, Nat.le_of_ble_eq_true rfl⟩) hS (fun q _ h => hFc q h) hFc (fun r6 u9 t9 H1 locs ht9 hvm9 hw9 hB9 hz9 hkk9 hS => ?_)
  have hw9 : y6 = r6 := hw9.symm
  subst hw9
  obtain ⟨hP9, hK9, hD9⟩ := hB9
  rw [ht9] at hP9
  obtain ⟨hP, hD⟩ := va_join (wr := [(q_this, .inr (12, [.ref q_town, .ref q_read, .ref q_now, .ref q_aside, .ref q_past, .int v_undos, .ref q_images, .ref q_kept, .long v_seed, .ref q_text, .int v_size, .int v_fault, .ref q_sights, .int v_sightMany, .ref q_book, .int v_bookMany, .int v_at, .int v_begin, .int v_sign, .int v_figures, .int v_value, .int v_wrong, .ref q_went, .ref q_free, .ref q_stands])), (q_town, .inl (cI, 27, .inl v_town)), (q_now, .inl (cI, 19, .inl v_now)), (q_aside, .inl (cI, 19, .inl v_aside))]) (w1 := []) hP hD [] [0, 1, 2, 3] rfl rfl (by decide) (by decide) hkk9 hFc hP9 hD9
  generalize H1 = H at hP hS ⊢
  have hP : va_P (dC, dI) vwCl [(q_this, .inr (12, [.ref q_town, .ref q_read, .ref q_now, .ref q_aside, .ref q_past, .int v_undos, .ref q_images, .ref q_kept, .long v_seed, .ref q_text, .int v_size, .int v_fault, .ref q_sights, .int v_sightMany, .ref q_book, .int v_bookMany, .int v_at, .int v_begin, .int v_sign, .int v_figures, .int v_value, .int v_wrong, .ref q_went, .ref q_free, .ref q_stands])), (q_town, .inl (cI, 27, .inl v_town)), (q_now, .inl (cI, 19, .inl v_now)), (q_aside, .inl (cI, 19, .inl v_aside))] H := hP
  have hD : va_D A [(q_this, .inr (12, [.ref q_town, .ref q_read, .ref q_now, .ref q_aside, .ref q_past, .int v_undos, .ref q_images, .ref q_kept, .long v_seed, .ref q_text, .int v_size, .int v_fault, .ref q_sights, .int v_sightMany, .ref q_book, .int v_bookMany, .int v_at, .int v_begin, .int v_sign, .int v_figures, .int v_value, .int v_wrong, .ref q_went, .ref q_free, .ref q_stands])), (q_town, .inl (cI, 27, .inl v_town)), (q_now, .inl (cI, 19, .inl v_now)), (q_aside, .inl (cI, 19, .inl v_aside))] := hD
  refine lv_if_ne (tgt := 15) hx hb dX12_spills_9 (by decide) (fun c1 => ?_) (fun c1 => ?_)
  · have hrun := oz_f hrun c1
    refine lv_aload_n hx hb dX12_spills_15 rfl (lv_at hl 0 rfl) ?_
    refine lv_iload_n hx hb dX12_spills_16 rfl (lv_at hl 1 rfl) ?_
    obtain ⟨y17, hc17, hrun⟩ := oz_bind hrun
    have hPc := hP.sub (ws' := [(q_this, .inr (12, [.ref q_town, .ref q_read, .ref q_now, .ref q_aside, .ref q_past, .int v_undos, .ref q_images, .ref q_kept, .long v_seed, .ref q_text, .int v_size, .int v_fault, .ref q_sights, .int v_sightMany, .ref q_book, .int v_bookMany, .int v_at, .int v_begin, .int v_sign, .int v_figures, .int v_value, .int v_wrong, .ref q_went, .ref q_free, .ref q_stands])), (q_town, .inl (cI, 27, .inl v_town)), (q_now, .inl (cI, 19, .inl v_now)), (q_aside, .inl (cI, 19, .inl v_aside))]) [0, 1, 2, 3] rfl
    have hDc := hD.sub (ws' := [(q_this, .inr (12, [.ref q_town, .ref q_read, .ref q_now, .ref q_aside, .ref q_past, .int v_undos, .ref q_images, .ref q_kept, .long v_seed, .ref q_text, .int v_size, .int v_fault, .ref q_sights, .int v_sightMany, .ref q_book, .int v_bookMany, .int v_at, .int v_begin, .int v_sign, .int v_figures, .int v_value, .int v_wrong, .ref q_went, .ref q_free, .ref q_stands])), (q_town, .inl (cI, 27, .inl v_town)), (q_now, .inl (cI, 19, .inl v_now)), (q_aside, .inl (cI, 19, .inl v_aside))]) [0, 1, 2, 3] (by decide) rfl
    have hFc := va_free (wc := [(q_this, .inr (12, [.ref q_town, .ref q_read, .ref q_now, .ref q_aside, .ref q_past, .int v_undos, .ref q_images, .ref q_kept, .long v_seed, .ref q_text, .int v_size, .int v_fault, .ref q_sights, .int v_sightMany, .ref q_book, .int v_bookMany, .int v_at, .int v_begin, .int v_sign, .int v_figures, .int v_value, .int v_wrong, .ref q_went, .ref q_free, .ref q_stands])), (q_town, .inl (cI, 27, .inl v_town)), (q_now, .inl (cI, 19, .inl v_now)), (q_aside, .inl (cI, 19, .inl v_aside))]) hD hS hA [0, 1, 2, 3] rfl
    refine va_callv (va_runV (As := [.int a1]) (rest := []) ⟨hx, hb, hml, hown, hts⟩ (tX12_goDays l dC dI cI cZ q_aside q_book q_free q_images q_kept q_now q_past q_read q_sights q_stands q_text q_this q_town q_went H.size v_undos v_seed v_size v_fault v_sightMany v_bookMany v_at v_begin v_sign v_figures v_value v_wrong v_town v_now v_aside a1 y17 hc17) (cwV 1 hts gX12_spills_X12_goDays rfl rfl rfl (by decide +kernel) ⟨Nat.le_of_ble_eq_true rfl, Nat.le_of_ble_eq_true rfl⟩) ⟨fun a U g mk q => by obtain ⟨q0, q1, qP, qK, qD⟩ := q; exact ⟨q0, q1, qP, va_K.moved (u := U) (U := U.calling g mk a) (Vm.Alike.refl U.vm) qK, qD⟩, va_recv hK hPc (ci := 12) (q0 := 0) rfl rfl, fun U hU hW => ⟨rfl, by rw [hU], by rw [hU]; exact hPc, va_K.moved hW.alike hK, hDc.weaken (fun _ _ _ _ => trivial)⟩⟩ rfl rfl hl.1 rfl (lv_room (Nat.le_of_ble_eq_true rfl)) dX12_spills_17 ⟨Nat.le_of_ble_eq_true rfl, Nat.le_of_ble_eq_true rfl⟩) hS (fun q _ h => hFc q h) hFc (fun u9 t9 H1 locs ht9 hvm9 hw9 hB9 hz9 hkk9 hS => ?_)
    obtain ⟨hP9, hK9, hD9⟩ := hB9
    rw [ht9] at hP9
    obtain ⟨hP, hD⟩ := va_join (wr := []) (w1 := [(q_this, .inr (12, [.ref q_town, .ref q_read, .ref q_now, .ref q_aside, .ref q_past, .int v_undos, .ref q_images, .ref q_kept, .long v_seed, .ref q_text, .int v_size, .int v_fault, .ref q_sights, .int v_sightMany, .ref q_book, .int v_bookMany, .int v_at, .int v_begin, .int v_sign, .int v_figures, .int v_value, .int v_wrong, .ref q_went, .ref q_free, .ref q_stands])), (q_town, .inl (cI, 27, .inl v_town)), (q_now, .inl (cI, 19, .inl v_now)), (q_aside, .inl (cI, 19, .inl y17))]) hP hD [0, 1, 2, 3] [] rfl rfl (by decide) (by decide) hkk9 hFc hP9 hD9
    generalize H1 = H at hP hS ⊢
    have hP : va_P (dC, dI) vwCl [(q_this, .inr (12, [.ref q_town, .ref q_read, .ref q_now, .ref q_aside, .ref q_past, .int v_undos, .ref q_images, .ref q_kept, .long v_seed, .ref q_text, .int v_size, .int v_fault, .ref q_sights, .int v_sightMany, .ref q_book, .int v_bookMany, .int v_at, .int v_begin, .int v_sign, .int v_figures, .int v_value, .int v_wrong, .ref q_went, .ref q_free, .ref q_stands])), (q_town, .inl (cI, 27, .inl v_town)), (q_now, .inl (cI, 19, .inl v_now)), (q_aside, .inl (cI, 19, .inl y17))] H := hP
    have hD : va_D A [(q_this, .inr (12, [.ref q_town, .ref q_read, .ref q_now, .ref q_aside, .ref q_past, .int v_undos, .ref q_images, .ref q_kept, .long v_seed, .ref q_text, .int v_size, .int v_fault, .ref q_sights, .int v_sightMany, .ref q_book, .int v_bookMany, .int v_at, .int v_begin, .int v_sign, .int v_figures, .int v_value, .int v_wrong, .ref q_went, .ref q_free, .ref q_stands])), (q_town, .inl (cI, 27, .inl v_town)), (q_now, .inl (cI, 19, .inl v_now)), (q_aside, .inl (cI, 19, .inl y17))] := hD
    refine lv_aload_n hx hb dX12_spills_20 rfl (lv_at hl 0 rfl) ?_
    refine va_get (D := (dC, dI)) (ci := 12) (v := .ref q_aside) (C := RX12) (T := TX12) (N := 25) hx hb hts hiX12 hown hK hP 0 rfl rfl 3 (by decide) hk19 (fun _ h9 => h9) rfl dX12_spills_21 ?_
    refine lv_bipush (v := 17) hx hb dX12_spills_24 (by decide) ?_
    refine va_iald hx hb hK hP 3 0 rfl rfl (show ¬ ((17 : Int32) < 0 ∨ 19 ≤ (17 : Int32).toNatClampNeg) by decide) dX12_spills_26 ?_
    have ho9 := Option.some.inj hrun
    subst ho9
    have hP9 := hP.sub (ws' := [(q_this, .inr (12, [.ref q_town, .ref q_read, .ref q_now, .ref q_aside, .ref q_past, .int v_undos, .ref q_images, .ref q_kept, .long v_seed, .ref q_text, .int v_size, .int v_fault, .ref q_sights, .int v_sightMany, .ref q_book, .int v_bookMany, .int v_at, .int v_begin, .int v_sign, .int v_figures, .int v_value, .int v_wrong, .ref q_went, .ref q_free, .ref q_stands])), (q_town, .inl (cI, 27, .inl v_town)), (q_now, .inl (cI, 19, .inl v_now)), (q_aside, .inl (cI, 19, .inl y17))]) [0, 1, 2, 3] rfl
    have hD9 := hD.sub (ws' := [(q_this, .inr (12, [.ref q_town, .ref q_read, .ref q_now, .ref q_aside, .ref q_past, .int v_undos, .ref q_images, .ref q_kept, .long v_seed, .ref q_text, .int v_size, .int v_fault, .ref q_sights, .int v_sightMany, .ref q_book, .int v_bookMany, .int v_at, .int v_begin, .int v_sign, .int v_figures, .int v_value, .int v_wrong, .ref q_went, .ref q_free, .ref q_stands])), (q_town, .inl (cI, 27, .inl v_town)), (q_now, .inl (cI, 19, .inl v_now)), (q_aside, .inl (cI, 19, .inl y17))]) [0, 1, 2, 3] (by decide) rfl
    rw [hQ]
    exact W.iret (v := (y17 (Int32.toNatClampNeg 17))) hx hb hr (fun t ht hW => ⟨⟨(y17 (Int32.toNatClampNeg 17)), (), rfl, rfl, by rw [ht]; exact hP9, va_K.moved hW.alike hK, hD9⟩, hS.F ht⟩) hS.2.2 dX12_spills_27
  · have hrun := oz_t hrun c1
    refine lv_ldc hx hb hown hk69 dX12_spills_12 ?_
    have ho9 := Option.some.inj hrun
    subst ho9
    have hP9 := hP.sub (ws' := [(q_this, .inr (12, [.ref q_town, .ref q_read, .ref q_now, .ref q_aside, .ref q_past, .int v_undos, .ref q_images, .ref q_kept, .long v_seed, .ref q_text, .int v_size, .int v_fault, .ref q_sights, .int v_sightMany, .ref q_book, .int v_bookMany, .int v_at, .int v_begin, .int v_sign, .int v_figures, .int v_value, .int v_wrong, .ref q_went, .ref q_free, .ref q_stands])), (q_town, .inl (cI, 27, .inl v_town)), (q_now, .inl (cI, 19, .inl v_now)), (q_aside, .inl (cI, 19, .inl v_aside))]) [0, 1, 2, 3] rfl
    have hD9 := hD.sub (ws' := [(q_this, .inr (12, [.ref q_town, .ref q_read, .ref q_now, .ref q_aside, .ref q_past, .int v_undos, .ref q_images, .ref q_kept, .long v_seed, .ref q_text, .int v_size, .int v_fault, .ref q_sights, .int v_sightMany, .ref q_book, .int v_bookMany, .int v_at, .int v_begin, .int v_sign, .int v_figures, .int v_value, .int v_wrong, .ref q_went, .ref q_free, .ref q_stands])), (q_town, .inl (cI, 27, .inl v_town)), (q_now, .inl (cI, 19, .inl v_now)), (q_aside, .inl (cI, 19, .inl v_aside))]) [0, 1, 2, 3] (by decide) rfl
    rw [hQ]
    exact W.iret (v := (-1000000002)) hx hb hr (fun t ht hW => ⟨⟨(-1000000002), (), rfl, rfl, by rw [ht]; exact hP9, va_K.moved hW.alike hK, hD9⟩, hS.F ht⟩) hS.2.2 dX12_spills_14
def fX12_daysOfLent (v_town : Nat → Int32) (v_now : Nat → Int32) : Option (Int32) :=
  Option.bind (fX12_isLent v_town v_now) (fun y5 => if y5 = 0 then (some (0)) else (some ((v_town (Int32.toNatClampNeg 0)) - (v_now (Int32.toNatClampNeg 16)))))
def rmX12_daysOfLent : Room := { frames := 1, cells := 0, slots := 0, locals := 21 }
set_option maxHeartbeats 4000000 in
set_option maxRecDepth 100000 in
theorem tX12_daysOfLent (l : Launch) (dC : Nat → ClassId) (dI : Nat → Nat → Nat) (cI cZ : ClassId) (q_aside q_book q_free q_images q_kept q_now q_past q_read q_sights q_stands q_text q_this q_town q_went : Nat) (sz : Nat) (v_undos : Int32) (v_seed : Int64) (v_size : Int32) (v_fault : Int32) (v_sightMany : Int32) (v_bookMany : Int32) (v_at : Int32) (v_begin : Int32) (v_sign : Int32) (v_figures : Int32) (v_value : Int32) (v_wrong : Int32) (v_town : Nat → Int32) (v_now : Nat → Int32) (out : Int32) (hrun : fX12_daysOfLent v_town v_now = some out) : Met l yX12_daysOfLent wsX12_daysOfLent rmX12_daysOfLent (va_Pc [.ref q_this] (fun U => U.heap.size = sz ∧ va_P (dC, dI) vwCl [(q_this, .inr (12, [.ref q_town, .ref q_read, .ref q_now, .ref q_aside, .ref q_past, .int v_undos, .ref q_images, .ref q_kept, .long v_seed, .ref q_text, .int v_size, .int v_fault, .ref q_sights, .int v_sightMany, .ref q_book, .int v_bookMany, .int v_at, .int v_begin, .int v_sign, .int v_figures, .int v_value, .int v_wrong, .ref q_went, .ref q_free, .ref q_stands])), (q_town, .inl (cI, 27, .inl v_town)), (q_now, .inl (cI, 19, .inl v_now))] U.heap ∧ va_K (dC, dI) vwCl [(cI, .int), (cZ, .boolean)] U ∧ va_D (fun _ => True) [(q_this, .inr (12, [.ref q_town, .ref q_read, .ref q_now, .ref q_aside, .ref q_past, .int v_undos, .ref q_images, .ref q_kept, .long v_seed, .ref q_text, .int v_size, .int v_fault, .ref q_sights, .int v_sightMany, .ref q_book, .int v_bookMany, .int v_at, .int v_begin, .int v_sign, .int v_figures, .int v_value, .int v_wrong, .ref q_went, .ref q_free, .ref q_stands])), (q_town, .inl (cI, 27, .inl v_town)), (q_now, .inl (cI, 19, .inl v_now))])) (va_Qi (fun (r : Int32) (_ : Unit) => r = out) (fun _ t => va_P (dC, dI) vwCl [(q_this, .inr (12, [.ref q_town, .ref q_read, .ref q_now, .ref q_aside, .ref q_past, .int v_undos, .ref q_images, .ref q_kept, .long v_seed, .ref q_text, .int v_size, .int v_fault, .ref q_sights, .int v_sightMany, .ref q_book, .int v_bookMany, .int v_at, .int v_begin, .int v_sign, .int v_figures, .int v_value, .int v_wrong, .ref q_went, .ref q_free, .ref q_stands])), (q_town, .inl (cI, 27, .inl v_town)), (q_now, .inl (cI, 19, .inl v_now))] t.heap ∧ va_K (dC, dI) vwCl [(cI, .int), (cZ, .boolean)] t ∧ va_D (va_A [(q_this, .inr (12, [.ref q_town, .ref q_read, .ref q_now, .ref q_aside, .ref q_past, .int v_undos, .ref q_images, .ref q_kept, .long v_seed, .ref q_text, .int v_size, .int v_fault, .ref q_sights, .int v_sightMany, .ref q_book, .int v_bookMany, .int v_at, .int v_begin, .int v_sign, .int v_figures, .int v_value, .int v_wrong, .ref q_went, .ref q_free, .ref q_stands])), (q_town, .inl (cI, 27, .inl v_town)), (q_now, .inl (cI, 19, .inl v_now))] sz) [(q_this, .inr (12, [.ref q_town, .ref q_read, .ref q_now, .ref q_aside, .ref q_past, .int v_undos, .ref q_images, .ref q_kept, .long v_seed, .ref q_text, .int v_size, .int v_fault, .ref q_sights, .int v_sightMany, .ref q_book, .int v_bookMany, .int v_at, .int v_begin, .int v_sign, .int v_figures, .int v_value, .int v_wrong, .ref q_went, .ref q_free, .ref q_stands])), (q_town, .inl (cI, 27, .inl v_town)), (q_now, .inl (cI, 19, .inl v_now))]) (va_A [(q_this, .inr (12, [.ref q_town, .ref q_read, .ref q_now, .ref q_aside, .ref q_past, .int v_undos, .ref q_images, .ref q_kept, .long v_seed, .ref q_text, .int v_size, .int v_fault, .ref q_sights, .int v_sightMany, .ref q_book, .int v_bookMany, .int v_at, .int v_begin, .int v_sign, .int v_figures, .int v_value, .int v_wrong, .ref q_went, .ref q_free, .ref q_stands])), (q_town, .inl (cI, 27, .inl v_town)), (q_now, .inl (cI, 19, .inl v_now))] sz)) 0 0 (va_A [(q_this, .inr (12, [.ref q_town, .ref q_read, .ref q_now, .ref q_aside, .ref q_past, .int v_undos, .ref q_images, .ref q_kept, .long v_seed, .ref q_text, .int v_size, .int v_fault, .ref q_sights, .int v_sightMany, .ref q_book, .int v_bookMany, .int v_at, .int v_begin, .int v_sign, .int v_figures, .int v_value, .int v_wrong, .ref q_went, .ref q_free, .ref q_stands])), (q_town, .inl (cI, 27, .inl v_town)), (q_now, .inl (cI, 19, .inl v_now))] sz) := by
  refine Met.ofW (cc := cX12_daysOfLent) (maxL := 1) (ret := (some .int)) (by decide) rfl ?_
  intro p e s m args below meth c s₁ B hml hv
  obtain ⟨rfl, hsz, hP, hK, hD0⟩ := hv
  have hx := B.exec
  have hb := B.bytes
  have hr := B.returns
  have hts := atoms_spec (ws := wsX12_daysOfLent) B.pre
  have hown : s.vm.findClass RX12 = some m.cls := findClass_of_methodNamed B.named
  have hlocks := B.notSynchronized
  subst hsz
  have hD := hD0.self (sz := s.heap.size)
  generalize hAe : va_A [(q_this, .inr (12, [.ref q_town, .ref q_read, .ref q_now, .ref q_aside, .ref q_past, .int v_undos, .ref q_images, .ref q_kept, .long v_seed, .ref q_text, .int v_size, .int v_fault, .ref q_sights, .int v_sightMany, .ref q_book, .int v_bookMany, .int v_at, .int v_begin, .int v_sign, .int v_figures, .int v_value, .int v_wrong, .ref q_went, .ref q_free, .ref q_stands])), (q_town, .inl (cI, 27, .inl v_town)), (q_now, .inl (cI, 19, .inl v_now))] s.heap.size = A at hD ⊢
  have hA : ∀ q : Nat, s.heap.size ≤ q → A q := fun q h => by rw [← hAe]; exact Or.inr h
  have hS : va_S A s.heap s.heap [] := va_S.rf
  have hl := lv_entry ([.ref q_this]) (n := 1) (Nat.le_of_ble_eq_true rfl)
  rw [lg_entry_eq]
  generalize (lg_sl ([.ref q_this]) ++ List.replicate (1 - (lg_sl ([.ref q_this])).length) Slot.unset).toArray = ls at hl ⊢
  have hl : lv_has ls 1 [(0, .ref q_this)] := hl
  unfold fX12_daysOfLent at hrun
  have hk16 := hts (.fieldLink RX12 16 "LentDrainsModel" "now" "[I") (by decide +kernel)
  have hiX12 : ∀ w ∈ wsX120, w ∈ wsX12_daysOfLent := by decide +kernel
  have hk7 := hts (.fieldLink RX12 7 "LentDrainsModel" "town" "[I") (by decide +kernel)
  refine oz_genQ (fun Q hQ => ?_)
  refine lv_aload_n hx hb dX12_daysOfLent_0 rfl (lv_at hl 0 rfl) ?_
  refine lv_aload_n hx hb dX12_daysOfLent_1 rfl (lv_at hl 0 rfl) ?_
  refine va_get (D := (dC, dI)) (ci := 12) (v := .ref q_now) (C := RX12) (T := TX12) (N := 25) hx hb hts hiX12 hown hK hP 0 rfl rfl 2 (by decide) hk16 (fun _ h9 => h9) rfl dX12_daysOfLent_2 ?_
  obtain ⟨y5, hc5, hrun⟩ := oz_bind hrun
  have hPc := hP.sub (ws' := [(q_this, .inr (12, [.ref q_town, .ref q_read, .ref q_now, .ref q_aside, .ref q_past, .int v_undos, .ref q_images, .ref q_kept, .long v_seed, .ref q_text, .int v_size, .int v_fault, .ref q_sights, .int v_sightMany, .ref q_book, .int v_bookMany, .int v_at, .int v_begin, .int v_sign, .int v_figures, .int v_value, .int v_wrong, .ref q_went, .ref q_free, .ref q_stands])), (q_town, .inl (cI, 27, .inl v_town)), (q_now, .inl (cI, 19, .inl v_now))]) [0, 1, 2] rfl
  have hDc := hD.sub (ws' := [(q_this, .inr (12, [.ref q_town, .ref q_read, .ref q_now, .ref q_aside, .ref q_past, .int v_undos, .ref q_images, .ref q_kept, .long v_seed, .ref q_text, .int v_size, .int v_fault, .ref q_sights, .int v_sightMany, .ref q_book, .int v_bookMany, .int v_at, .int v_begin, .int v_sign, .int v_figures, .int v_value, .int v_wrong, .ref q_went, .ref q_free, .ref q_stands])), (q_town, .inl (cI, 27, .inl v_town)), (q_now, .inl (cI, 19, .inl v_now))]) [0, 1, 2] (by decide) rfl
  have hFc := va_free (wc := [(q_this, .inr (12, [.ref q_town, .ref q_read, .ref q_now, .ref q_aside, .ref q_past, .int v_undos, .ref q_images, .ref q_kept, .long v_seed, .ref q_text, .int v_size, .int v_fault, .ref q_sights, .int v_sightMany, .ref q_book, .int v_bookMany, .int v_at, .int v_begin, .int v_sign, .int v_figures, .int v_value, .int v_wrong, .ref q_went, .ref q_free, .ref q_stands])), (q_town, .inl (cI, 27, .inl v_town)), (q_now, .inl (cI, 19, .inl v_now))]) hD hS hA [0, 1, 2] rfl
  refine va_calli (va_runV (As := [.ref q_now]) (rest := []) ⟨hx, hb, hml, hown, hts⟩ (tX12_isLent l dC dI cI cZ q_aside q_book q_free q_images q_kept q_now q_now q_past q_read q_sights q_stands q_text q_this q_town q_went s.heap.size v_undos v_seed v_size v_fault v_sightMany v_bookMany v_at v_begin v_sign v_figures v_value v_wrong v_town v_now y5 hc5) (cwV 1 hts gX12_daysOfLent_X12_isLent rfl rfl rfl (by decide +kernel) ⟨Nat.le_of_ble_eq_true rfl, Nat.le_of_ble_eq_true rfl⟩) ⟨fun a U g mk q => by obtain ⟨q0, q1, qP, qK, qD⟩ := q; exact ⟨q0, q1, qP, va_K.moved (u := U) (U := U.calling g mk a) (Vm.Alike.refl U.vm) qK, qD⟩, va_recv hK hPc (ci := 12) (q0 := 0) rfl rfl, fun U hU hW => ⟨rfl, by rw [hU], by rw [hU]; exact hPc, va_K.moved hW.alike hK, hDc.weaken (fun _ _ _ _ => trivial)⟩⟩ rfl rfl hl.1 rfl (lv_room (Nat.le_of_ble_eq_true rfl)) dX12_daysOfLent_5 ⟨Nat.le_of_ble_eq_true rfl, Nat.le_of_ble_eq_true rfl⟩) hS (fun q _ h => hFc q h) hFc (fun r5 u9 t9 H1 locs ht9 hvm9 hw9 hB9 hz9 hkk9 hS => ?_)
  have hw9 : y5 = r5 := hw9.symm
  subst hw9
  obtain ⟨hP9, hK9, hD9⟩ := hB9
  rw [ht9] at hP9
  obtain ⟨hP, hD⟩ := va_join (wr := []) (w1 := [(q_this, .inr (12, [.ref q_town, .ref q_read, .ref q_now, .ref q_aside, .ref q_past, .int v_undos, .ref q_images, .ref q_kept, .long v_seed, .ref q_text, .int v_size, .int v_fault, .ref q_sights, .int v_sightMany, .ref q_book, .int v_bookMany, .int v_at, .int v_begin, .int v_sign, .int v_figures, .int v_value, .int v_wrong, .ref q_went, .ref q_free, .ref q_stands])), (q_town, .inl (cI, 27, .inl v_town)), (q_now, .inl (cI, 19, .inl v_now))]) hP hD [0, 1, 2] [] rfl rfl (by decide) (by decide) hkk9 hFc hP9 hD9
  generalize H1 = H at hP hS ⊢
  have hP : va_P (dC, dI) vwCl [(q_this, .inr (12, [.ref q_town, .ref q_read, .ref q_now, .ref q_aside, .ref q_past, .int v_undos, .ref q_images, .ref q_kept, .long v_seed, .ref q_text, .int v_size, .int v_fault, .ref q_sights, .int v_sightMany, .ref q_book, .int v_bookMany, .int v_at, .int v_begin, .int v_sign, .int v_figures, .int v_value, .int v_wrong, .ref q_went, .ref q_free, .ref q_stands])), (q_town, .inl (cI, 27, .inl v_town)), (q_now, .inl (cI, 19, .inl v_now))] H := hP
  have hD : va_D A [(q_this, .inr (12, [.ref q_town, .ref q_read, .ref q_now, .ref q_aside, .ref q_past, .int v_undos, .ref q_images, .ref q_kept, .long v_seed, .ref q_text, .int v_size, .int v_fault, .ref q_sights, .int v_sightMany, .ref q_book, .int v_bookMany, .int v_at, .int v_begin, .int v_sign, .int v_figures, .int v_value, .int v_wrong, .ref q_went, .ref q_free, .ref q_stands])), (q_town, .inl (cI, 27, .inl v_town)), (q_now, .inl (cI, 19, .inl v_now))] := hD
  refine lv_if_eq (tgt := 28) hx hb dX12_daysOfLent_8 (by decide) (fun c1 => ?_) (fun c1 => ?_)
  · have hrun := oz_t hrun c1
    refine lv_iconst (v := 0) hx hb dX12_daysOfLent_28 (by decide) ?_
    have ho9 := Option.some.inj hrun
    subst ho9
    have hP9 := hP.sub (ws' := [(q_this, .inr (12, [.ref q_town, .ref q_read, .ref q_now, .ref q_aside, .ref q_past, .int v_undos, .ref q_images, .ref q_kept, .long v_seed, .ref q_text, .int v_size, .int v_fault, .ref q_sights, .int v_sightMany, .ref q_book, .int v_bookMany, .int v_at, .int v_begin, .int v_sign, .int v_figures, .int v_value, .int v_wrong, .ref q_went, .ref q_free, .ref q_stands])), (q_town, .inl (cI, 27, .inl v_town)), (q_now, .inl (cI, 19, .inl v_now))]) [0, 1, 2] rfl
    have hD9 := hD.sub (ws' := [(q_this, .inr (12, [.ref q_town, .ref q_read, .ref q_now, .ref q_aside, .ref q_past, .int v_undos, .ref q_images, .ref q_kept, .long v_seed, .ref q_text, .int v_size, .int v_fault, .ref q_sights, .int v_sightMany, .ref q_book, .int v_bookMany, .int v_at, .int v_begin, .int v_sign, .int v_figures, .int v_value, .int v_wrong, .ref q_went, .ref q_free, .ref q_stands])), (q_town, .inl (cI, 27, .inl v_town)), (q_now, .inl (cI, 19, .inl v_now))]) [0, 1, 2] (by decide) rfl
    rw [hQ]
    exact W.iret (v := 0) hx hb hr (fun t ht hW => ⟨⟨0, (), rfl, rfl, by rw [ht]; exact hP9, va_K.moved hW.alike hK, hD9⟩, hS.F ht⟩) hS.2.2 dX12_daysOfLent_29
  · have hrun := oz_f hrun c1
    refine lv_aload_n hx hb dX12_daysOfLent_11 rfl (lv_at hl 0 rfl) ?_
    refine va_get (D := (dC, dI)) (ci := 12) (v := .ref q_town) (C := RX12) (T := TX12) (N := 25) hx hb hts hiX12 hown hK hP 0 rfl rfl 0 (by decide) hk7 (fun _ h9 => h9) rfl dX12_daysOfLent_12 ?_
    refine lv_iconst (v := 0) hx hb dX12_daysOfLent_15 (by decide) ?_
    refine va_iald hx hb hK hP 1 0 rfl rfl (show ¬ ((0 : Int32) < 0 ∨ 27 ≤ (0 : Int32).toNatClampNeg) by decide) dX12_daysOfLent_16 ?_
    refine lv_aload_n hx hb dX12_daysOfLent_17 rfl (lv_at hl 0 rfl) ?_
    refine va_get (D := (dC, dI)) (ci := 12) (v := .ref q_now) (C := RX12) (T := TX12) (N := 25) hx hb hts hiX12 hown hK hP 0 rfl rfl 2 (by decide) hk16 (fun _ h9 => h9) rfl dX12_daysOfLent_18 ?_
    refine lv_bipush (v := 16) hx hb dX12_daysOfLent_21 (by decide) ?_
    refine va_iald hx hb hK hP 2 0 rfl rfl (show ¬ ((16 : Int32) < 0 ∨ 19 ≤ (16 : Int32).toNatClampNeg) by decide) dX12_daysOfLent_23 ?_
    refine lv_isub hx hb dX12_daysOfLent_24 ?_
    refine lv_goto (tgt := 29) hx hb dX12_daysOfLent_25 (by decide) ?_
    have ho9 := Option.some.inj hrun
    subst ho9
    have hP9 := hP.sub (ws' := [(q_this, .inr (12, [.ref q_town, .ref q_read, .ref q_now, .ref q_aside, .ref q_past, .int v_undos, .ref q_images, .ref q_kept, .long v_seed, .ref q_text, .int v_size, .int v_fault, .ref q_sights, .int v_sightMany, .ref q_book, .int v_bookMany, .int v_at, .int v_begin, .int v_sign, .int v_figures, .int v_value, .int v_wrong, .ref q_went, .ref q_free, .ref q_stands])), (q_town, .inl (cI, 27, .inl v_town)), (q_now, .inl (cI, 19, .inl v_now))]) [0, 1, 2] rfl
    have hD9 := hD.sub (ws' := [(q_this, .inr (12, [.ref q_town, .ref q_read, .ref q_now, .ref q_aside, .ref q_past, .int v_undos, .ref q_images, .ref q_kept, .long v_seed, .ref q_text, .int v_size, .int v_fault, .ref q_sights, .int v_sightMany, .ref q_book, .int v_bookMany, .int v_at, .int v_begin, .int v_sign, .int v_figures, .int v_value, .int v_wrong, .ref q_went, .ref q_free, .ref q_stands])), (q_town, .inl (cI, 27, .inl v_town)), (q_now, .inl (cI, 19, .inl v_now))]) [0, 1, 2] (by decide) rfl
    rw [hQ]
    exact W.iret (v := ((v_town (Int32.toNatClampNeg 0)) - (v_now (Int32.toNatClampNeg 16)))) hx hb hr (fun t ht hW => ⟨⟨((v_town (Int32.toNatClampNeg 0)) - (v_now (Int32.toNatClampNeg 16))), (), rfl, rfl, by rw [ht]; exact hP9, va_K.moved hW.alike hK, hD9⟩, hS.F ht⟩) hS.2.2 dX12_daysOfLent_29
def fX12_bears_b53 (v_town : Nat → Int32) (v_now : Nat → Int32) (a1 : Int32) (y1 : Int32) (w53 : Int32 × Int32) : Option ((Int32 × Int32) ⊕ (Int32 × Int32)) :=
  if (v_town (Int32.toNatClampNeg 2)) ≤ w53.1 then (some (.inr (w53.1, w53.2))) else (Option.bind (fX12_has 0 w53.1) (fun y68 => if y68 = 0 then (some (.inl ((w53.1 + 1), w53.2))) else (if ((3 + w53.1) < 0 ∨ 27 ≤ Int32.toNatClampNeg (3 + w53.1)) then none else if ((0 + w53.1) < 0 ∨ 19 ≤ Int32.toNatClampNeg (0 + w53.1)) then none else Option.bind (fX12_has a1 w53.1) (fun y98 => if y98 = 0 then (if ((11 + w53.1) < 0 ∨ 27 ≤ Int32.toNatClampNeg (11 + w53.1)) then none else some (.inl ((w53.1 + 1), (w53.2 + (((v_town (Int32.toNatClampNeg (3 + w53.1))) - (v_now (Int32.toNatClampNeg (0 + w53.1)))) - (y1 * (v_town (Int32.toNatClampNeg (11 + w53.1))))))))) else (some (.inl ((w53.1 + 1), (w53.2 + (((v_town (Int32.toNatClampNeg (3 + w53.1))) - (v_now (Int32.toNatClampNeg (0 + w53.1)))) - 0)))))))))
def fX12_bears_b53_1 (v_town : Nat → Int32) (v_now : Nat → Int32) (a1 : Int32) (y1 : Int32) (y41 : Int32) (w53 : Int32 × Int32) : Option ((Int32 × Int32) ⊕ (Int32 × Int32)) :=
  if (v_town (Int32.toNatClampNeg 2)) ≤ w53.1 then (some (.inr (w53.1, w53.2))) else (Option.bind (fX12_has y41 w53.1) (fun y68 => if y68 = 0 then (some (.inl ((w53.1 + 1), w53.2))) else (if ((3 + w53.1) < 0 ∨ 27 ≤ Int32.toNatClampNeg (3 + w53.1)) then none else if ((0 + w53.1) < 0 ∨ 19 ≤ Int32.toNatClampNeg (0 + w53.1)) then none else Option.bind (fX12_has a1 w53.1) (fun y98 => if y98 = 0 then (if ((11 + w53.1) < 0 ∨ 27 ≤ Int32.toNatClampNeg (11 + w53.1)) then none else some (.inl ((w53.1 + 1), (w53.2 + (((v_town (Int32.toNatClampNeg (3 + w53.1))) - (v_now (Int32.toNatClampNeg (0 + w53.1)))) - (y1 * (v_town (Int32.toNatClampNeg (11 + w53.1))))))))) else (some (.inl ((w53.1 + 1), (w53.2 + (((v_town (Int32.toNatClampNeg (3 + w53.1))) - (v_now (Int32.toNatClampNeg (0 + w53.1)))) - 0)))))))))
def fX12_bears_b10 (v_town : Nat → Int32) (v_now : Nat → Int32) (a1 : Int32) (y1 : Int32) (w10 : Int32 × Int32) : Option ((Int32 × Int32) ⊕ (Int32 × Int32)) :=
  if (v_town (Int32.toNatClampNeg 2)) ≤ w10.1 then (some (.inr (w10.1, w10.2))) else (if ((19 + w10.1) < 0 ∨ 27 ≤ Int32.toNatClampNeg (19 + w10.1)) then none else if (v_town (Int32.toNatClampNeg (19 + w10.1))) = (-1) then (Option.bind (fX12_above v_town w10.1) (fun y41 => Option.bind (oz_loop (fX12_bears_b53_1 v_town v_now a1 y1 y41) oz_fuel (0, 0)) (fun o53 => if w10.2 = 0 then (some (.inl ((w10.1 + 1), 0))) else (if o53.2 < 0 then (some (.inl ((w10.1 + 1), 0))) else (some (.inl ((w10.1 + 1), 1))))))) else (Option.bind (oz_loop (fX12_bears_b53 v_town v_now a1 y1) oz_fuel (0, 0)) (fun o53 => if w10.2 = 0 then (some (.inl ((w10.1 + 1), 0))) else (if o53.2 < 0 then (some (.inl ((w10.1 + 1), 0))) else (some (.inl ((w10.1 + 1), 1)))))))
def fX12_bears (v_town : Nat → Int32) (v_now : Nat → Int32) (a1 : Int32) : Option (Int32) :=
  Option.bind (fX12_daysOfLent v_town v_now) (fun y1 => Option.bind (oz_loop (fX12_bears_b10 v_town v_now a1 y1) oz_fuel (0, 1)) (fun o10 => if ¬ (narrow .boolean (.int o10.2) = .int o10.2) then none else some o10.2))
def rmX12_bears : Room := { frames := 2, cells := 0, slots := 0, locals := 41 }
set_option maxHeartbeats 4000000 in
set_option maxRecDepth 100000 in
theorem tX12_bears (l : Launch) (dC : Nat → ClassId) (dI : Nat → Nat → Nat) (cI cZ : ClassId) (q_aside q_book q_free q_images q_kept q_now q_past q_read q_sights q_stands q_text q_this q_town q_went : Nat) (sz : Nat) (v_undos : Int32) (v_seed : Int64) (v_size : Int32) (v_fault : Int32) (v_sightMany : Int32) (v_bookMany : Int32) (v_at : Int32) (v_begin : Int32) (v_sign : Int32) (v_figures : Int32) (v_value : Int32) (v_wrong : Int32) (v_town : Nat → Int32) (v_now : Nat → Int32) (a1 : Int32) (out : Int32) (hrun : fX12_bears v_town v_now a1 = some out) : Met l yX12_bears wsX12_bears rmX12_bears (va_Pc [.ref q_this, .int a1] (fun U => U.heap.size = sz ∧ va_P (dC, dI) vwCl [(q_this, .inr (12, [.ref q_town, .ref q_read, .ref q_now, .ref q_aside, .ref q_past, .int v_undos, .ref q_images, .ref q_kept, .long v_seed, .ref q_text, .int v_size, .int v_fault, .ref q_sights, .int v_sightMany, .ref q_book, .int v_bookMany, .int v_at, .int v_begin, .int v_sign, .int v_figures, .int v_value, .int v_wrong, .ref q_went, .ref q_free, .ref q_stands])), (q_town, .inl (cI, 27, .inl v_town)), (q_now, .inl (cI, 19, .inl v_now))] U.heap ∧ va_K (dC, dI) vwCl [(cI, .int), (cZ, .boolean)] U ∧ va_D (fun _ => True) [(q_this, .inr (12, [.ref q_town, .ref q_read, .ref q_now, .ref q_aside, .ref q_past, .int v_undos, .ref q_images, .ref q_kept, .long v_seed, .ref q_text, .int v_size, .int v_fault, .ref q_sights, .int v_sightMany, .ref q_book, .int v_bookMany, .int v_at, .int v_begin, .int v_sign, .int v_figures, .int v_value, .int v_wrong, .ref q_went, .ref q_free, .ref q_stands])), (q_town, .inl (cI, 27, .inl v_town)), (q_now, .inl (cI, 19, .inl v_now))])) (va_Qi (fun (r : Int32) (_ : Unit) => r = out) (fun _ t => va_P (dC, dI) vwCl [(q_this, .inr (12, [.ref q_town, .ref q_read, .ref q_now, .ref q_aside, .ref q_past, .int v_undos, .ref q_images, .ref q_kept, .long v_seed, .ref q_text, .int v_size, .int v_fault, .ref q_sights, .int v_sightMany, .ref q_book, .int v_bookMany, .int v_at, .int v_begin, .int v_sign, .int v_figures, .int v_value, .int v_wrong, .ref q_went, .ref q_free, .ref q_stands])), (q_town, .inl (cI, 27, .inl v_town)), (q_now, .inl (cI, 19, .inl v_now))] t.heap ∧ va_K (dC, dI) vwCl [(cI, .int), (cZ, .boolean)] t ∧ va_D (va_A [(q_this, .inr (12, [.ref q_town, .ref q_read, .ref q_now, .ref q_aside, .ref q_past, .int v_undos, .ref q_images, .ref q_kept, .long v_seed, .ref q_text, .int v_size, .int v_fault, .ref q_sights, .int v_sightMany, .ref q_book, .int v_bookMany, .int v_at, .int v_begin, .int v_sign, .int v_figures, .int v_value, .int v_wrong, .ref q_went, .ref q_free, .ref q_stands])), (q_town, .inl (cI, 27, .inl v_town)), (q_now, .inl (cI, 19, .inl v_now))] sz) [(q_this, .inr (12, [.ref q_town, .ref q_read, .ref q_now, .ref q_aside, .ref q_past, .int v_undos, .ref q_images, .ref q_kept, .long v_seed, .ref q_text, .int v_size, .int v_fault, .ref q_sights, .int v_sightMany, .ref q_book, .int v_bookMany, .int v_at, .int v_begin, .int v_sign, .int v_figures, .int v_value, .int v_wrong, .ref q_went, .ref q_free, .ref q_stands])), (q_town, .inl (cI, 27, .inl v_town)), (q_now, .inl (cI, 19, .inl v_now))]) (va_A [(q_this, .inr (12, [.ref q_town, .ref q_read, .ref q_now, .ref q_aside, .ref q_past, .int v_undos, .ref q_images, .ref q_kept, .long v_seed, .ref q_text, .int v_size, .int v_fault, .ref q_sights, .int v_sightMany, .ref q_book, .int v_bookMany, .int v_at, .int v_begin, .int v_sign, .int v_figures, .int v_value, .int v_wrong, .ref q_went, .ref q_free, .ref q_stands])), (q_town, .inl (cI, 27, .inl v_town)), (q_now, .inl (cI, 19, .inl v_now))] sz)) 0 0 (va_A [(q_this, .inr (12, [.ref q_town, .ref q_read, .ref q_now, .ref q_aside, .ref q_past, .int v_undos, .ref q_images, .ref q_kept, .long v_seed, .ref q_text, .int v_size, .int v_fault, .ref q_sights, .int v_sightMany, .ref q_book, .int v_bookMany, .int v_at, .int v_begin, .int v_sign, .int v_figures, .int v_value, .int v_wrong, .ref q_went, .ref q_free, .ref q_stands])), (q_town, .inl (cI, 27, .inl v_town)), (q_now, .inl (cI, 19, .inl v_now))] sz) := by
  refine Met.ofW (cc := cX12_bears) (maxL := 8) (ret := (some .boolean)) (by decide) rfl ?_
  intro p e s m args below meth c s₁ B hml hv
  obtain ⟨rfl, hsz, hP, hK, hD0⟩ := hv
  have hx := B.exec
  have hb := B.bytes
  have hr := B.returns
  have hts := atoms_spec (ws := wsX12_bears) B.pre
  have hown : s.vm.findClass RX12 = some m.cls := findClass_of_methodNamed B.named
  have hlocks := B.notSynchronized
  subst hsz
  have hD := hD0.self (sz := s.heap.size)
  generalize hAe : va_A [(q_this, .inr (12, [.ref q_town, .ref q_read, .ref q_now, .ref q_aside, .ref q_past, .int v_undos, .ref q_images, .ref q_kept, .long v_seed, .ref q_text, .int v_size, .int v_fault, .ref q_sights, .int v_sightMany, .ref q_book, .int v_bookMany, .int v_at, .int v_begin, .int v_sign, .int v_figures, .int v_value, .int v_wrong, .ref q_went, .ref q_free, .ref q_stands])), (q_town, .inl (cI, 27, .inl v_town)), (q_now, .inl (cI, 19, .inl v_now))] s.heap.size = A at hD ⊢
  have hA : ∀ q : Nat, s.heap.size ≤ q → A q := fun q h => by rw [← hAe]; exact Or.inr h
  have hS : va_S A s.heap s.heap [] := va_S.rf
  have hl := lv_entry ([.ref q_this, .int a1]) (n := 8) (Nat.le_of_ble_eq_true rfl)
  rw [lg_entry_eq]
  generalize (lg_sl ([.ref q_this, .int a1]) ++ List.replicate (8 - (lg_sl ([.ref q_this, .int a1])).length) Slot.unset).toArray = ls at hl ⊢
  have hl : lv_has ls 8 [(0, .ref q_this), (1, .int a1)] := hl
  unfold fX12_bears at hrun
  have hk7 := hts (.fieldLink RX12 7 "LentDrainsModel" "town" "[I") (by decide +kernel)
  have hiX12 : ∀ w ∈ wsX120, w ∈ wsX12_bears := by decide +kernel
  have hk16 := hts (.fieldLink RX12 16 "LentDrainsModel" "now" "[I") (by decide +kernel)
  refine oz_genQ (fun Q hQ => ?_)
  refine lv_aload_n hx hb dX12_bears_0 rfl (lv_at hl 0 rfl) ?_
  obtain ⟨y1, hc1, hrun⟩ := oz_bind hrun
  have hPc := hP.sub (ws' := [(q_this, .inr (12, [.ref q_town, .ref q_read, .ref q_now, .ref q_aside, .ref q_past, .int v_undos, .ref q_images, .ref q_kept, .long v_seed, .ref q_text, .int v_size, .int v_fault, .ref q_sights, .int v_sightMany, .ref q_book, .int v_bookMany, .int v_at, .int v_begin, .int v_sign, .int v_figures, .int v_value, .int v_wrong, .ref q_went, .ref q_free, .ref q_stands])), (q_town, .inl (cI, 27, .inl v_town)), (q_now, .inl (cI, 19, .inl v_now))]) [0, 1, 2] rfl
  have hDc := hD.sub (ws' := [(q_this, .inr (12, [.ref q_town, .ref q_read, .ref q_now, .ref q_aside, .ref q_past, .int v_undos, .ref q_images, .ref q_kept, .long v_seed, .ref q_text, .int v_size, .int v_fault, .ref q_sights, .int v_sightMany, .ref q_book, .int v_bookMany, .int v_at, .int v_begin, .int v_sign, .int v_figures, .int v_value, .int v_wrong, .ref q_went, .ref q_free, .ref q_stands])), (q_town, .inl (cI, 27, .inl v_town)), (q_now, .inl (cI, 19, .inl v_now))]) [0, 1, 2] (by decide) rfl
  have hFc := va_free (wc := [(q_this, .inr (12, [.ref q_town, .ref q_read, .ref q_now, .ref q_aside, .ref q_past, .int v_undos, .ref q_images, .ref q_kept, .long v_seed, .ref q_text, .int v_size, .int v_fault, .ref q_sights, .int v_sightMany, .ref q_book, .int v_bookMany, .int v_at, .int v_begin, .int v_sign, .int v_figures, .int v_value, .int v_wrong, .ref q_went, .ref q_free, .ref q_stands])), (q_town, .inl (cI, 27, .inl v_town)), (q_now, .inl (cI, 19, .inl v_now))]) hD hS hA [0, 1, 2] rfl
  refine va_calli (va_runV (As := []) (rest := []) ⟨hx, hb, hml, hown, hts⟩ (tX12_daysOfLent l dC dI cI cZ q_aside q_book q_free q_images q_kept q_now q_past q_read q_sights q_stands q_text q_this q_town q_went s.heap.size v_undos v_seed v_size v_fault v_sightMany v_bookMany v_at v_begin v_sign v_figures v_value v_wrong v_town v_now y1 hc1) (cwV 0 hts gX12_bears_X12_daysOfLent rfl rfl rfl (by decide +kernel) ⟨Nat.le_of_ble_eq_true rfl, Nat.le_of_ble_eq_true rfl⟩) ⟨fun a U g mk q => by obtain ⟨q0, q1, qP, qK, qD⟩ := q; exact ⟨q0, q1, qP, va_K.moved (u := U) (U := U.calling g mk a) (Vm.Alike.refl U.vm) qK, qD⟩, va_recv hK hPc (ci := 12) (q0 := 0) rfl rfl, fun U hU hW => ⟨rfl, by rw [hU], by rw [hU]; exact hPc, va_K.moved hW.alike hK, hDc.weaken (fun _ _ _ _ => trivial)⟩⟩ rfl rfl hl.1 rfl (lv_room (Nat.le_of_ble_eq_true rfl)) dX12_bears_1 ⟨Nat.le_of_ble_eq_true rfl, Nat.le_of_ble_eq_true rfl⟩) hS (fun q _ h => hFc q h) hFc (fun r1 u9 t9 H1 locs ht9 hvm9 hw9 hB9 hz9 hkk9 hS => ?_)
  have hw9 : y1 = r1 := hw9.symm
  subst hw9
  obtain ⟨hP9, hK9, hD9⟩ := hB9
  rw [ht9] at hP9
  obtain ⟨hP, hD⟩ := va_join (wr := []) (w1 := [(q_this, .inr (12, [.ref q_town, .ref q_read, .ref q_now, .ref q_aside, .ref q_past, .int v_undos, .ref q_images, .ref q_kept, .long v_seed, .ref q_text, .int v_size, .int v_fault, .ref q_sights, .int v_sightMany, .ref q_book, .int v_bookMany, .int v_at, .int v_begin, .int v_sign, .int v_figures, .int v_value, .int v_wrong, .ref q_went, .ref q_free, .ref q_stands])), (q_town, .inl (cI, 27, .inl v_town)), (q_now, .inl (cI, 19, .inl v_now))]) hP hD [0, 1, 2] [] rfl rfl (by decide) (by decide) hkk9 hFc hP9 hD9
  generalize H1 = H at hP hS ⊢
  have hP : va_P (dC, dI) vwCl [(q_this, .inr (12, [.ref q_town, .ref q_read, .ref q_now, .ref q_aside, .ref q_past, .int v_undos, .ref q_images, .ref q_kept, .long v_seed, .ref q_text, .int v_size, .int v_fault, .ref q_sights, .int v_sightMany, .ref q_book, .int v_bookMany, .int v_at, .int v_begin, .int v_sign, .int v_figures, .int v_value, .int v_wrong, .ref q_went, .ref q_free, .ref q_stands])), (q_town, .inl (cI, 27, .inl v_town)), (q_now, .inl (cI, 19, .inl v_now))] H := hP
  have hD : va_D A [(q_this, .inr (12, [.ref q_town, .ref q_read, .ref q_now, .ref q_aside, .ref q_past, .int v_undos, .ref q_images, .ref q_kept, .long v_seed, .ref q_text, .int v_size, .int v_fault, .ref q_sights, .int v_sightMany, .ref q_book, .int v_bookMany, .int v_at, .int v_begin, .int v_sign, .int v_figures, .int v_value, .int v_wrong, .ref q_went, .ref q_free, .ref q_stands])), (q_town, .inl (cI, 27, .inl v_town)), (q_now, .inl (cI, 19, .inl v_now))] := hD
  refine lv_istore_n (lv' := [(2, .int y1), (0, .ref q_this), (1, .int a1)]) hx hb dX12_bears_4 rfl hl (by decide) rfl (fun ls hl => ?_)
  refine lv_iconst (v := 1) hx hb dX12_bears_5 (by decide) ?_
  refine lv_istore_n (lv' := [(3, .int 1), (2, .int y1), (0, .ref q_this), (1, .int a1)]) hx hb dX12_bears_6 rfl hl (by decide) rfl (fun ls hl => ?_)
  refine lv_iconst (v := 0) hx hb dX12_bears_7 (by decide) ?_
  refine lv_istore (lv' := [(4, .int 0), (3, .int 1), (2, .int y1), (0, .ref q_this), (1, .int a1)]) hx hb dX12_bears_8 hl (by decide) rfl (fun ls hl => ?_)
  obtain ⟨o10, hlp10, hrun⟩ := oz_bind hrun
  have hL10 : ∀ (n : Nat) (w10 : Int32 × Int32) (o10 : Int32 × Int32), oz_loop (fX12_bears_b10 v_town v_now a1 y1) n w10 = some o10 → (∀ (H : Heap) (locs : List Loc) (ls : Array Slot), va_P (dC, dI) vwCl [(q_this, .inr (12, [.ref q_town, .ref q_read, .ref q_now, .ref q_aside, .ref q_past, .int v_undos, .ref q_images, .ref q_kept, .long v_seed, .ref q_text, .int v_size, .int v_fault, .ref q_sights, .int v_sightMany, .ref q_book, .int v_bookMany, .int v_at, .int v_begin, .int v_sign, .int v_figures, .int v_value, .int v_wrong, .ref q_went, .ref q_free, .ref q_stands])), (q_town, .inl (cI, 27, .inl v_town)), (q_now, .inl (cI, 19, .inl v_now))] H → va_D A [(q_this, .inr (12, [.ref q_town, .ref q_read, .ref q_now, .ref q_aside, .ref q_past, .int v_undos, .ref q_images, .ref q_kept, .long v_seed, .ref q_text, .int v_size, .int v_fault, .ref q_sights, .int v_sightMany, .ref q_book, .int v_bookMany, .int v_at, .int v_begin, .int v_sign, .int v_figures, .int v_value, .int v_wrong, .ref q_went, .ref q_free, .ref q_stands])), (q_town, .inl (cI, 27, .inl v_town)), (q_now, .inl (cI, 19, .inl v_now))] → va_S A s.heap H locs → lv_has ls 8 [(4, .int o10.1), (3, .int o10.2), (2, .int y1), (0, .ref q_this), (1, .int a1)] → W p l e (headSpec wsX12_bears rmX12_bears).room s m (([.ref q_this, .int a1] : List Value).toArray) below meth c H locs 0 0 Q (F0 m 151 ls [])) → ∀ (H : Heap) (locs : List Loc) (ls : Array Slot), va_P (dC, dI) vwCl [(q_this, .inr (12, [.ref q_town, .ref q_read, .ref q_now, .ref q_aside, .ref q_past, .int v_undos, .ref q_images, .ref q_kept, .long v_seed, .ref q_text, .int v_size, .int v_fault, .ref q_sights, .int v_sightMany, .ref q_book, .int v_bookMany, .int v_at, .int v_begin, .int v_sign, .int v_figures, .int v_value, .int v_wrong, .ref q_went, .ref q_free, .ref q_stands])), (q_town, .inl (cI, 27, .inl v_town)), (q_now, .inl (cI, 19, .inl v_now))] H → va_D A [(q_this, .inr (12, [.ref q_town, .ref q_read, .ref q_now, .ref q_aside, .ref q_past, .int v_undos, .ref q_images, .ref q_kept, .long v_seed, .ref q_text, .int v_size, .int v_fault, .ref q_sights, .int v_sightMany, .ref q_book, .int v_bookMany, .int v_at, .int v_begin, .int v_sign, .int v_figures, .int v_value, .int v_wrong, .ref q_went, .ref q_free, .ref q_stands])), (q_town, .inl (cI, 27, .inl v_town)), (q_now, .inl (cI, 19, .inl v_now))] → va_S A s.heap H locs → lv_has ls 8 [(4, .int w10.1), (3, .int w10.2), (2, .int y1), (0, .ref q_this), (1, .int a1)] → W p l e (headSpec wsX12_bears rmX12_bears).room s m (([.ref q_this, .int a1] : List Value).toArray) below meth c H locs 0 0 Q (F0 m 10 ls []) := by
    intro n
    induction n with
    | zero => intro w10 o10 h9; exact (oz_zero h9).elim
    | succ n ih =>
      intro w10 o10 h9 hexit H locs ls hP hD hS hl
      obtain ⟨r9, hrun, hnext⟩ := oz_step h9
      unfold fX12_bears_b10 at hrun
      refine lv_iload hx hb dX12_bears_10 (lv_at hl 0 rfl) ?_
      refine lv_aload_n hx hb dX12_bears_12 rfl (lv_at hl 3 rfl) ?_
      refine va_get (D := (dC, dI)) (ci := 12) (v := .ref q_town) (C := RX12) (T := TX12) (N := 25) hx hb hts hiX12 hown hK hP 0 rfl rfl 0 (by decide) hk7 (fun _ h9 => h9) rfl dX12_bears_13 ?_
      refine lv_iconst (v := 2) hx hb dX12_bears_16 (by decide) ?_
      refine va_iald hx hb hK hP 1 0 rfl rfl (show ¬ ((2 : Int32) < 0 ∨ 27 ≤ (2 : Int32).toNatClampNeg) by decide) dX12_bears_17 ?_
      refine lv_icmp_ge (tgt := 151) hx hb dX12_bears_18 (by decide) (fun c1 => ?_) (fun c1 => ?_)
      · have hrun := oz_t hrun c1
        have hr9 := Option.some.inj hrun
        subst hr9
        have ho9 : (w10.1, w10.2) = o10 := hnext
        subst ho9
        exact hexit _ _ _ (hP.sub [0, 1, 2] rfl) (hD.sub [0, 1, 2] (by decide) rfl) hS (lv_sub hl [0, 1, 2, 3, 4] rfl)
      · have hrun := oz_f hrun c1
        refine lv_iconst (v := 0) hx hb dX12_bears_21 (by decide) ?_
        refine lv_istore (lv' := [(5, .int 0), (4, .int w10.1), (3, .int w10.2), (2, .int y1), (0, .ref q_this), (1, .int a1)]) hx hb dX12_bears_22 hl (by decide) rfl (fun ls hl => ?_)
        refine lv_aload_n hx hb dX12_bears_24 rfl (lv_at hl 4 rfl) ?_
        refine va_get (D := (dC, dI)) (ci := 12) (v := .ref q_town) (C := RX12) (T := TX12) (N := 25) hx hb hts hiX12 hown hK hP 0 rfl rfl 0 (by decide) hk7 (fun _ h9 => h9) rfl dX12_bears_25 ?_
        refine lv_bipush (v := 19) hx hb dX12_bears_28 (by decide) ?_
        refine lv_iload hx hb dX12_bears_30 (lv_at hl 1 rfl) ?_
        refine lv_iadd hx hb dX12_bears_32 ?_
        obtain ⟨c2, hrun⟩ := oz_chk hrun
        refine va_iald hx hb hK hP 1 0 rfl rfl c2 dX12_bears_33 ?_
        refine lv_iconst (v := (-1)) hx hb dX12_bears_34 (by decide) ?_
        refine lv_icmp_ne (tgt := 47) hx hb dX12_bears_35 (by decide) (fun c3 => ?_) (fun c3 => ?_)
        · have hrun := oz_f hrun c3
          refine lv_iconst (v := 0) hx hb dX12_bears_47 (by decide) ?_
          refine lv_istore (lv' := [(6, .int 0), (5, .int 0), (4, .int w10.1), (3, .int w10.2), (2, .int y1), (0, .ref q_this), (1, .int a1)]) hx hb dX12_bears_48 hl (by decide) rfl (fun ls hl => ?_)
          refine lv_iconst (v := 0) hx hb dX12_bears_50 (by decide) ?_
          refine lv_istore (lv' := [(7, .int 0), (6, .int 0), (5, .int 0), (4, .int w10.1), (3, .int w10.2), (2, .int y1), (0, .ref q_this), (1, .int a1)]) hx hb dX12_bears_51 hl (by decide) rfl (fun ls hl => ?_)
          obtain ⟨o53, hlp53, hrun⟩ := oz_bind hrun
          have hL53 : ∀ (n : Nat) (w53 : Int32 × Int32) (o53 : Int32 × Int32), oz_loop (fX12_bears_b53 v_town v_now a1 y1) n w53 = some o53 → (∀ (H : Heap) (locs : List Loc) (ls : Array Slot), va_P (dC, dI) vwCl [(q_this, .inr (12, [.ref q_town, .ref q_read, .ref q_now, .ref q_aside, .ref q_past, .int v_undos, .ref q_images, .ref q_kept, .long v_seed, .ref q_text, .int v_size, .int v_fault, .ref q_sights, .int v_sightMany, .ref q_book, .int v_bookMany, .int v_at, .int v_begin, .int v_sign, .int v_figures, .int v_value, .int v_wrong, .ref q_went, .ref q_free, .ref q_stands])), (q_town, .inl (cI, 27, .inl v_town)), (q_now, .inl (cI, 19, .inl v_now))] H → va_D A [(q_this, .inr (12, [.ref q_town, .ref q_read, .ref q_now, .ref q_aside, .ref q_past, .int v_undos, .ref q_images, .ref q_kept, .long v_seed, .ref q_text, .int v_size, .int v_fault, .ref q_sights, .int v_sightMany, .ref q_book, .int v_bookMany, .int v_at, .int v_begin, .int v_sign, .int v_figures, .int v_value, .int v_wrong, .ref q_went, .ref q_free, .ref q_stands])), (q_town, .inl (cI, 27, .inl v_town)), (q_now, .inl (cI, 19, .inl v_now))] → va_S A s.heap H locs → lv_has ls 8 [(7, .int o53.1), (6, .int 0), (5, .int o53.2), (4, .int w10.1), (3, .int w10.2), (2, .int y1), (0, .ref q_this), (1, .int a1)] → W p l e (headSpec wsX12_bears rmX12_bears).room s m (([.ref q_this, .int a1] : List Value).toArray) below meth c H locs 0 0 Q (F0 m 130 ls [])) → ∀ (H : Heap) (locs : List Loc) (ls : Array Slot), va_P (dC, dI) vwCl [(q_this, .inr (12, [.ref q_town, .ref q_read, .ref q_now, .ref q_aside, .ref q_past, .int v_undos, .ref q_images, .ref q_kept, .long v_seed, .ref q_text, .int v_size, .int v_fault, .ref q_sights, .int v_sightMany, .ref q_book, .int v_bookMany, .int v_at, .int v_begin, .int v_sign, .int v_figures, .int v_value, .int v_wrong, .ref q_went, .ref q_free, .ref q_stands])), (q_town, .inl (cI, 27, .inl v_town)), (q_now, .inl (cI, 19, .inl v_now))] H → va_D A [(q_this, .inr (12, [.ref q_town, .ref q_read, .ref q_now, .ref q_aside, .ref q_past, .int v_undos, .ref q_images, .ref q_kept, .long v_seed, .ref q_text, .int v_size, .int v_fault, .ref q_sights, .int v_sightMany, .ref q_book, .int v_bookMany, .int v_at, .int v_begin, .int v_sign, .int v_figures, .int v_value, .int v_wrong, .ref q_went, .ref q_free, .ref q_stands])), (q_town, .inl (cI, 27, .inl v_town)), (q_now, .inl (cI, 19, .inl v_now))] → va_S A s.heap H locs → lv_has ls 8 [(7, .int w53.1), (6, .int 0), (5, .int w53.2), (4, .int w10.1), (3, .int w10.2), (2, .int y1), (0, .ref q_this), (1, .int a1)] → W p l e (headSpec wsX12_bears rmX12_bears).room s m (([.ref q_this, .int a1] : List Value).toArray) below meth c H locs 0 0 Q (F0 m 53 ls []) := by
            intro n
            induction n with
            | zero => intro w53 o53 h9; exact (oz_zero h9).elim
            | succ n ih =>
              intro w53 o53 h9 hexit H locs ls hP hD hS hl
              obtain ⟨r9, hrun, hnext⟩ := oz_step h9
              unfold fX12_bears_b53 at hrun
              refine lv_iload hx hb dX12_bears_53 (lv_at hl 0 rfl) ?_
              refine lv_aload_n hx hb dX12_bears_55 rfl (lv_at hl 6 rfl) ?_
              refine va_get (D := (dC, dI)) (ci := 12) (v := .ref q_town) (C := RX12) (T := TX12) (N := 25) hx hb hts hiX12 hown hK hP 0 rfl rfl 0 (by decide) hk7 (fun _ h9 => h9) rfl dX12_bears_56 ?_
              refine lv_iconst (v := 2) hx hb dX12_bears_59 (by decide) ?_
              refine va_iald hx hb hK hP 1 0 rfl rfl (show ¬ ((2 : Int32) < 0 ∨ 27 ≤ (2 : Int32).toNatClampNeg) by decide) dX12_bears_60 ?_
              refine lv_icmp_ge (tgt := 130) hx hb dX12_bears_61 (by decide) (fun c4 => ?_) (fun c4 => ?_)
              · have hrun := oz_t hrun c4
                have hr9 := Option.some.inj hrun
                subst hr9
                have ho9 : (w53.1, w53.2) = o53 := hnext
                subst ho9
                exact hexit _ _ _ (hP.sub [0, 1, 2] rfl) (hD.sub [0, 1, 2] (by decide) rfl) hS (lv_sub hl [0, 1, 2, 3, 4, 5, 6, 7] rfl)
              · have hrun := oz_f hrun c4
                refine lv_iload hx hb dX12_bears_64 (lv_at hl 1 rfl) ?_
                refine lv_iload hx hb dX12_bears_66 (lv_at hl 0 rfl) ?_
                obtain ⟨y68, hc68, hrun⟩ := oz_bind hrun
                have hPc := hP.sub (ws' := []) [] rfl
                have hDc := hD.sub (ws' := []) [] (by decide) rfl
                have hFc := va_free (wc := []) hD hS hA [] rfl
                refine va_calli (va_runS (As := [.int 0, .int w53.1]) (rest := []) ⟨hx, hb, hml, hown, hts⟩ (tX12_has l dC dI cI cZ H.size 0 w53.1 y68 hc68) (va_cwS 2 hts gX12_bears_X12_has rfl rfl rfl (by decide +kernel) ⟨Nat.le_of_ble_eq_true rfl, Nat.le_of_ble_eq_true rfl⟩) ⟨fun a U g mk q => by obtain ⟨q0, q1, qP, qK, qD⟩ := q; exact ⟨q0, q1, qP, va_K.moved (u := U) (U := U.calling g mk a) (Vm.Alike.refl U.vm) qK, qD⟩, fun U hU hW => ⟨rfl, by rw [hU], by rw [hU]; exact hPc, va_K.moved hW.alike hK, hDc.weaken (fun _ _ _ _ => trivial)⟩⟩ rfl rfl hl.1 rfl (lv_room (Nat.le_of_ble_eq_true rfl)) dX12_bears_68 ⟨Nat.le_of_ble_eq_true rfl, Nat.le_of_ble_eq_true rfl⟩) hS (fun q _ h => hFc q h) hFc (fun r68 u9 t9 H1 locs ht9 hvm9 hw9 hB9 hz9 hkk9 hS => ?_)
                have hw9 : y68 = r68 := hw9.symm
                subst hw9
                obtain ⟨hP9, hK9, hD9⟩ := hB9
                rw [ht9] at hP9
                obtain ⟨hP, hD⟩ := va_join (wr := [(q_this, .inr (12, [.ref q_town, .ref q_read, .ref q_now, .ref q_aside, .ref q_past, .int v_undos, .ref q_images, .ref q_kept, .long v_seed, .ref q_text, .int v_size, .int v_fault, .ref q_sights, .int v_sightMany, .ref q_book, .int v_bookMany, .int v_at, .int v_begin, .int v_sign, .int v_figures, .int v_value, .int v_wrong, .ref q_went, .ref q_free, .ref q_stands])), (q_town, .inl (cI, 27, .inl v_town)), (q_now, .inl (cI, 19, .inl v_now))]) (w1 := []) hP hD [] [0, 1, 2] rfl rfl (by decide) (by decide) hkk9 hFc hP9 hD9
                generalize H1 = H at hP hS ⊢
                have hP : va_P (dC, dI) vwCl [(q_this, .inr (12, [.ref q_town, .ref q_read, .ref q_now, .ref q_aside, .ref q_past, .int v_undos, .ref q_images, .ref q_kept, .long v_seed, .ref q_text, .int v_size, .int v_fault, .ref q_sights, .int v_sightMany, .ref q_book, .int v_bookMany, .int v_at, .int v_begin, .int v_sign, .int v_figures, .int v_value, .int v_wrong, .ref q_went, .ref q_free, .ref q_stands])), (q_town, .inl (cI, 27, .inl v_town)), (q_now, .inl (cI, 19, .inl v_now))] H := hP
                have hD : va_D A [(q_this, .inr (12, [.ref q_town, .ref q_read, .ref q_now, .ref q_aside, .ref q_past, .int v_undos, .ref q_images, .ref q_kept, .long v_seed, .ref q_text, .int v_size, .int v_fault, .ref q_sights, .int v_sightMany, .ref q_book, .int v_bookMany, .int v_at, .int v_begin, .int v_sign, .int v_figures, .int v_value, .int v_wrong, .ref q_went, .ref q_free, .ref q_stands])), (q_town, .inl (cI, 27, .inl v_town)), (q_now, .inl (cI, 19, .inl v_now))] := hD
                refine lv_if_eq (tgt := 124) hx hb dX12_bears_71 (by decide) (fun c5 => ?_) (fun c5 => ?_)
                · have hrun := oz_t hrun c5
                  refine lv_iinc (v := (w53.1 + 1)) (lv' := [(7, .int (w53.1 + 1)), (6, .int 0), (5, .int w53.2), (4, .int w10.1), (3, .int w10.2), (2, .int y1), (0, .ref q_this), (1, .int a1)]) hx hb dX12_bears_124 hl (k := 0) rfl rfl (by decide) rfl (fun ls hl => ?_)
                  refine lv_goto (tgt := 53) hx hb dX12_bears_127 (by decide) ?_
                  have hr9 := Option.some.inj hrun
                  subst hr9
                  exact ih ((w53.1 + 1), w53.2) _ hnext hexit _ _ _ (hP.sub [0, 1, 2] rfl) (hD.sub [0, 1, 2] (by decide) rfl) hS (lv_sub hl [0, 1, 2, 3, 4, 5, 6, 7] rfl)
                · have hrun := oz_f hrun c5
                  refine lv_iload hx hb dX12_bears_74 (lv_at hl 2 rfl) ?_
                  refine lv_aload_n hx hb dX12_bears_76 rfl (lv_at hl 6 rfl) ?_
                  refine va_get (D := (dC, dI)) (ci := 12) (v := .ref q_town) (C := RX12) (T := TX12) (N := 25) hx hb hts hiX12 hown hK hP 0 rfl rfl 0 (by decide) hk7 (fun _ h9 => h9) rfl dX12_bears_77 ?_
                  refine lv_iconst (v := 3) hx hb dX12_bears_80 (by decide) ?_
                  refine lv_iload hx hb dX12_bears_81 (lv_at hl 0 rfl) ?_
                  refine lv_iadd hx hb dX12_bears_83 ?_
                  obtain ⟨c6, hrun⟩ := oz_chk hrun
                  refine va_iald hx hb hK hP 1 0 rfl rfl c6 dX12_bears_84 ?_
                  refine lv_aload_n hx hb dX12_bears_85 rfl (lv_at hl 6 rfl) ?_
                  refine va_get (D := (dC, dI)) (ci := 12) (v := .ref q_now) (C := RX12) (T := TX12) (N := 25) hx hb hts hiX12 hown hK hP 0 rfl rfl 2 (by decide) hk16 (fun _ h9 => h9) rfl dX12_bears_86 ?_
                  refine lv_iconst (v := 0) hx hb dX12_bears_89 (by decide) ?_
                  refine lv_iload hx hb dX12_bears_90 (lv_at hl 0 rfl) ?_
                  refine lv_iadd hx hb dX12_bears_92 ?_
                  obtain ⟨c7, hrun⟩ := oz_chk hrun
                  refine va_iald hx hb hK hP 2 0 rfl rfl c7 dX12_bears_93 ?_
                  refine lv_isub hx hb dX12_bears_94 ?_
                  refine lv_iload_n hx hb dX12_bears_95 rfl (lv_at hl 7 rfl) ?_
                  refine lv_iload hx hb dX12_bears_96 (lv_at hl 0 rfl) ?_
                  obtain ⟨y98, hc98, hrun⟩ := oz_bind hrun
                  have hPc := hP.sub (ws' := []) [] rfl
                  have hDc := hD.sub (ws' := []) [] (by decide) rfl
                  have hFc := va_free (wc := []) hD hS hA [] rfl
                  refine va_calli (va_runS (As := [.int a1, .int w53.1]) (rest := [.int ((v_town (Int32.toNatClampNeg (3 + w53.1))) - (v_now (Int32.toNatClampNeg (0 + w53.1)))), .int w53.2]) ⟨hx, hb, hml, hown, hts⟩ (tX12_has l dC dI cI cZ H.size a1 w53.1 y98 hc98) (va_cwS 2 hts gX12_bears_X12_has rfl rfl rfl (by decide +kernel) ⟨Nat.le_of_ble_eq_true rfl, Nat.le_of_ble_eq_true rfl⟩) ⟨fun a U g mk q => by obtain ⟨q0, q1, qP, qK, qD⟩ := q; exact ⟨q0, q1, qP, va_K.moved (u := U) (U := U.calling g mk a) (Vm.Alike.refl U.vm) qK, qD⟩, fun U hU hW => ⟨rfl, by rw [hU], by rw [hU]; exact hPc, va_K.moved hW.alike hK, hDc.weaken (fun _ _ _ _ => trivial)⟩⟩ rfl rfl hl.1 rfl (lv_room (Nat.le_of_ble_eq_true rfl)) dX12_bears_98 ⟨Nat.le_of_ble_eq_true rfl, Nat.le_of_ble_eq_true rfl⟩) hS (fun q _ h => hFc q h) hFc (fun r98 u9 t9 H1 locs ht9 hvm9 hw9 hB9 hz9 hkk9 hS => ?_)
                  have hw9 : y98 = r98 := hw9.symm
                  subst hw9
                  obtain ⟨hP9, hK9, hD9⟩ := hB9
                  rw [ht9] at hP9
                  obtain ⟨hP, hD⟩ := va_join (wr := [(q_this, .inr (12, [.ref q_town, .ref q_read, .ref q_now, .ref q_aside, .ref q_past, .int v_undos, .ref q_images, .ref q_kept, .long v_seed, .ref q_text, .int v_size, .int v_fault, .ref q_sights, .int v_sightMany, .ref q_book, .int v_bookMany, .int v_at, .int v_begin, .int v_sign, .int v_figures, .int v_value, .int v_wrong, .ref q_went, .ref q_free, .ref q_stands])), (q_town, .inl (cI, 27, .inl v_town)), (q_now, .inl (cI, 19, .inl v_now))]) (w1 := []) hP hD [] [0, 1, 2] rfl rfl (by decide) (by decide) hkk9 hFc hP9 hD9
                  generalize H1 = H at hP hS ⊢
                  have hP : va_P (dC, dI) vwCl [(q_this, .inr (12, [.ref q_town, .ref q_read, .ref q_now, .ref q_aside, .ref q_past, .int v_undos, .ref q_images, .ref q_kept, .long v_seed, .ref q_text, .int v_size, .int v_fault, .ref q_sights, .int v_sightMany, .ref q_book, .int v_bookMany, .int v_at, .int v_begin, .int v_sign, .int v_figures, .int v_value, .int v_wrong, .ref q_went, .ref q_free, .ref q_stands])), (q_town, .inl (cI, 27, .inl v_town)), (q_now, .inl (cI, 19, .inl v_now))] H := hP
                  have hD : va_D A [(q_this, .inr (12, [.ref q_town, .ref q_read, .ref q_now, .ref q_aside, .ref q_past, .int v_undos, .ref q_images, .ref q_kept, .long v_seed, .ref q_text, .int v_size, .int v_fault, .ref q_sights, .int v_sightMany, .ref q_book, .int v_bookMany, .int v_at, .int v_begin, .int v_sign, .int v_figures, .int v_value, .int v_wrong, .ref q_went, .ref q_free, .ref q_stands])), (q_town, .inl (cI, 27, .inl v_town)), (q_now, .inl (cI, 19, .inl v_now))] := hD
                  refine lv_if_eq (tgt := 108) hx hb dX12_bears_101 (by decide) (fun c8 => ?_) (fun c8 => ?_)
                  · have hrun := oz_t hrun c8
                    refine lv_iload_n hx hb dX12_bears_108 rfl (lv_at hl 5 rfl) ?_
                    refine lv_aload_n hx hb dX12_bears_109 rfl (lv_at hl 6 rfl) ?_
                    refine va_get (D := (dC, dI)) (ci := 12) (v := .ref q_town) (C := RX12) (T := TX12) (N := 25) hx hb hts hiX12 hown hK hP 0 rfl rfl 0 (by decide) hk7 (fun _ h9 => h9) rfl dX12_bears_110 ?_
                    refine lv_bipush (v := 11) hx hb dX12_bears_113 (by decide) ?_
                    refine lv_iload hx hb dX12_bears_115 (lv_at hl 0 rfl) ?_
                    refine lv_iadd hx hb dX12_bears_117 ?_
                    obtain ⟨c9, hrun⟩ := oz_chk hrun
                    refine va_iald hx hb hK hP 1 0 rfl rfl c9 dX12_bears_118 ?_
                    refine lv_imul hx hb dX12_bears_119 ?_
                    refine lv_isub hx hb dX12_bears_120 ?_
                    refine lv_iadd hx hb dX12_bears_121 ?_
                    refine lv_istore (lv' := [(5, .int (w53.2 + (((v_town (Int32.toNatClampNeg (3 + w53.1))) - (v_now (Int32.toNatClampNeg (0 + w53.1)))) - (y1 * (v_town (Int32.toNatClampNeg (11 + w53.1))))))), (7, .int w53.1), (6, .int 0), (4, .int w10.1), (3, .int w10.2), (2, .int y1), (0, .ref q_this), (1, .int a1)]) hx hb dX12_bears_122 hl (by decide) rfl (fun ls hl => ?_)
                    refine lv_iinc (v := (w53.1 + 1)) (lv' := [(7, .int (w53.1 + 1)), (5, .int (w53.2 + (((v_town (Int32.toNatClampNeg (3 + w53.1))) - (v_now (Int32.toNatClampNeg (0 + w53.1)))) - (y1 * (v_town (Int32.toNatClampNeg (11 + w53.1))))))), (6, .int 0), (4, .int w10.1), (3, .int w10.2), (2, .int y1), (0, .ref q_this), (1, .int a1)]) hx hb dX12_bears_124 hl (k := 1) rfl rfl (by decide) rfl (fun ls hl => ?_)
                    refine lv_goto (tgt := 53) hx hb dX12_bears_127 (by decide) ?_
                    have hr9 := Option.some.inj hrun
                    subst hr9
                    exact ih ((w53.1 + 1), (w53.2 + (((v_town (Int32.toNatClampNeg (3 + w53.1))) - (v_now (Int32.toNatClampNeg (0 + w53.1)))) - (y1 * (v_town (Int32.toNatClampNeg (11 + w53.1))))))) _ hnext hexit _ _ _ (hP.sub [0, 1, 2] rfl) (hD.sub [0, 1, 2] (by decide) rfl) hS (lv_sub hl [0, 2, 1, 3, 4, 5, 6, 7] rfl)
                  · have hrun := oz_f hrun c8
                    refine lv_iconst (v := 0) hx hb dX12_bears_104 (by decide) ?_
                    refine lv_goto (tgt := 120) hx hb dX12_bears_105 (by decide) ?_
                    refine lv_isub hx hb dX12_bears_120 ?_
                    refine lv_iadd hx hb dX12_bears_121 ?_
                    refine lv_istore (lv' := [(5, .int (w53.2 + (((v_town (Int32.toNatClampNeg (3 + w53.1))) - (v_now (Int32.toNatClampNeg (0 + w53.1)))) - 0))), (7, .int w53.1), (6, .int 0), (4, .int w10.1), (3, .int w10.2), (2, .int y1), (0, .ref q_this), (1, .int a1)]) hx hb dX12_bears_122 hl (by decide) rfl (fun ls hl => ?_)
                    refine lv_iinc (v := (w53.1 + 1)) (lv' := [(7, .int (w53.1 + 1)), (5, .int (w53.2 + (((v_town (Int32.toNatClampNeg (3 + w53.1))) - (v_now (Int32.toNatClampNeg (0 + w53.1)))) - 0))), (6, .int 0), (4, .int w10.1), (3, .int w10.2), (2, .int y1), (0, .ref q_this), (1, .int a1)]) hx hb dX12_bears_124 hl (k := 1) rfl rfl (by decide) rfl (fun ls hl => ?_)
                    refine lv_goto (tgt := 53) hx hb dX12_bears_127 (by decide) ?_
                    have hr9 := Option.some.inj hrun
                    subst hr9
                    exact ih ((w53.1 + 1), (w53.2 + (((v_town (Int32.toNatClampNeg (3 + w53.1))) - (v_now (Int32.toNatClampNeg (0 + w53.1)))) - 0))) _ hnext hexit _ _ _ (hP.sub [0, 1, 2] rfl) (hD.sub [0, 1, 2] (by decide) rfl) hS (lv_sub hl [0, 2, 1, 3, 4, 5, 6, 7] rfl)
          refine hL53 oz_fuel (0, 0) o53 hlp53 (fun H locs ls hP hD hS hl => ?_) _ _ _ (hP.sub [0, 1, 2] rfl) (hD.sub [0, 1, 2] (by decide) rfl) hS (lv_sub hl [0, 1, 2, 3, 4, 5, 6, 7] rfl)
          have hP : va_P (dC, dI) vwCl [(q_this, .inr (12, [.ref q_town, .ref q_read, .ref q_now, .ref q_aside, .ref q_past, .int v_undos, .ref q_images, .ref q_kept, .long v_seed, .ref q_text, .int v_size, .int v_fault, .ref q_sights, .int v_sightMany, .ref q_book, .int v_bookMany, .int v_at, .int v_begin, .int v_sign, .int v_figures, .int v_value, .int v_wrong, .ref q_went, .ref q_free, .ref q_stands])), (q_town, .inl (cI, 27, .inl v_town)), (q_now, .inl (cI, 19, .inl v_now))] H := hP
          have hD : va_D A [(q_this, .inr (12, [.ref q_town, .ref q_read, .ref q_now, .ref q_aside, .ref q_past, .int v_undos, .ref q_images, .ref q_kept, .long v_seed, .ref q_text, .int v_size, .int v_fault, .ref q_sights, .int v_sightMany, .ref q_book, .int v_bookMany, .int v_at, .int v_begin, .int v_sign, .int v_figures, .int v_value, .int v_wrong, .ref q_went, .ref q_free, .ref q_stands])), (q_town, .inl (cI, 27, .inl v_town)), (q_now, .inl (cI, 19, .inl v_now))] := hD
          have hl : lv_has ls 8 [(7, .int o53.1), (6, .int 0), (5, .int o53.2), (4, .int w10.1), (3, .int w10.2), (2, .int y1), (0, .ref q_this), (1, .int a1)] := hl
          refine lv_iload_n hx hb dX12_bears_130 rfl (lv_at hl 4 rfl) ?_
          refine lv_if_eq (tgt := 143) hx hb dX12_bears_131 (by decide) (fun c10 => ?_) (fun c10 => ?_)
          · have hrun := oz_t hrun c10
            refine lv_iconst (v := 0) hx hb dX12_bears_143 (by decide) ?_
            refine lv_istore_n (lv' := [(3, .int 0), (7, .int o53.1), (6, .int 0), (5, .int o53.2), (4, .int w10.1), (2, .int y1), (0, .ref q_this), (1, .int a1)]) hx hb dX12_bears_144 rfl hl (by decide) rfl (fun ls hl => ?_)
            refine lv_iinc (v := (w10.1 + 1)) (lv' := [(4, .int (w10.1 + 1)), (3, .int 0), (7, .int o53.1), (6, .int 0), (5, .int o53.2), (2, .int y1), (0, .ref q_this), (1, .int a1)]) hx hb dX12_bears_145 hl (k := 4) rfl rfl (by decide) rfl (fun ls hl => ?_)
            refine lv_goto (tgt := 10) hx hb dX12_bears_148 (by decide) ?_
            have hr9 := Option.some.inj hrun
            subst hr9
            exact ih ((w10.1 + 1), 0) _ hnext hexit _ _ _ (hP.sub [0, 1, 2] rfl) (hD.sub [0, 1, 2] (by decide) rfl) hS (lv_sub hl [0, 1, 5, 6, 7] rfl)
          · have hrun := oz_f hrun c10
            refine lv_iload hx hb dX12_bears_134 (lv_at hl 2 rfl) ?_
            refine lv_if_lt (tgt := 143) hx hb dX12_bears_136 (by decide) (fun c11 => ?_) (fun c11 => ?_)
            · have hrun := oz_t hrun c11
              refine lv_iconst (v := 0) hx hb dX12_bears_143 (by decide) ?_
              refine lv_istore_n (lv' := [(3, .int 0), (7, .int o53.1), (6, .int 0), (5, .int o53.2), (4, .int w10.1), (2, .int y1), (0, .ref q_this), (1, .int a1)]) hx hb dX12_bears_144 rfl hl (by decide) rfl (fun ls hl => ?_)
              refine lv_iinc (v := (w10.1 + 1)) (lv' := [(4, .int (w10.1 + 1)), (3, .int 0), (7, .int o53.1), (6, .int 0), (5, .int o53.2), (2, .int y1), (0, .ref q_this), (1, .int a1)]) hx hb dX12_bears_145 hl (k := 4) rfl rfl (by decide) rfl (fun ls hl => ?_)
              refine lv_goto (tgt := 10) hx hb dX12_bears_148 (by decide) ?_
              have hr9 := Option.some.inj hrun
              subst hr9
              exact ih ((w10.1 + 1), 0) _ hnext hexit _ _ _ (hP.sub [0, 1, 2] rfl) (hD.sub [0, 1, 2] (by decide) rfl) hS (lv_sub hl [0, 1, 5, 6, 7] rfl)
            · have hrun := oz_f hrun c11
              refine lv_iconst (v := 1) hx hb dX12_bears_139 (by decide) ?_
              refine lv_goto (tgt := 144) hx hb dX12_bears_140 (by decide) ?_
              refine lv_istore_n (lv' := [(3, .int 1), (7, .int o53.1), (6, .int 0), (5, .int o53.2), (4, .int w10.1), (2, .int y1), (0, .ref q_this), (1, .int a1)]) hx hb dX12_bears_144 rfl hl (by decide) rfl (fun ls hl => ?_)
              refine lv_iinc (v := (w10.1 + 1)) (lv' := [(4, .int (w10.1 + 1)), (3, .int 1), (7, .int o53.1), (6, .int 0), (5, .int o53.2), (2, .int y1), (0, .ref q_this), (1, .int a1)]) hx hb dX12_bears_145 hl (k := 4) rfl rfl (by decide) rfl (fun ls hl => ?_)
              refine lv_goto (tgt := 10) hx hb dX12_bears_148 (by decide) ?_
              have hr9 := Option.some.inj hrun
              subst hr9
              exact ih ((w10.1 + 1), 1) _ hnext hexit _ _ _ (hP.sub [0, 1, 2] rfl) (hD.sub [0, 1, 2] (by decide) rfl) hS (lv_sub hl [0, 1, 5, 6, 7] rfl)
        · have hrun := oz_t hrun c3
          refine lv_aload_n hx hb dX12_bears_38 rfl (lv_at hl 4 rfl) ?_
          refine lv_iload hx hb dX12_bears_39 (lv_at hl 1 rfl) ?_
          obtain ⟨y41, hc41, hrun⟩ := oz_bind hrun
          have hPc := hP.sub (ws' := [(q_this, .inr (12, [.ref q_town, .ref q_read, .ref q_now, .ref q_aside, .ref q_past, .int v_undos, .ref q_images, .ref q_kept, .long v_seed, .ref q_text, .int v_size, .int v_fault, .ref q_sights, .int v_sightMany, .ref q_book, .int v_bookMany, .int v_at, .int v_begin, .int v_sign, .int v_figures, .int v_value, .int v_wrong, .ref q_went, .ref q_free, .ref q_stands])), (q_town, .inl (cI, 27, .inl v_town))]) [0, 1] rfl
          have hDc := hD.sub (ws' := [(q_this, .inr (12, [.ref q_town, .ref q_read, .ref q_now, .ref q_aside, .ref q_past, .int v_undos, .ref q_images, .ref q_kept, .long v_seed, .ref q_text, .int v_size, .int v_fault, .ref q_sights, .int v_sightMany, .ref q_book, .int v_bookMany, .int v_at, .int v_begin, .int v_sign, .int v_figures, .int v_value, .int v_wrong, .ref q_went, .ref q_free, .ref q_stands])), (q_town, .inl (cI, 27, .inl v_town))]) [0, 1] (by decide) rfl
          have hFc := va_free (wc := [(q_this, .inr (12, [.ref q_town, .ref q_read, .ref q_now, .ref q_aside, .ref q_past, .int v_undos, .ref q_images, .ref q_kept, .long v_seed, .ref q_text, .int v_size, .int v_fault, .ref q_sights, .int v_sightMany, .ref q_book, .int v_bookMany, .int v_at, .int v_begin, .int v_sign, .int v_figures, .int v_value, .int v_wrong, .ref q_went, .ref q_free, .ref q_stands])), (q_town, .inl (cI, 27, .inl v_town))]) hD hS hA [0, 1] rfl
          refine va_calli (va_runV (As := [.int w10.1]) (rest := []) ⟨hx, hb, hml, hown, hts⟩ (tX12_above l dC dI cI cZ q_aside q_book q_free q_images q_kept q_now q_past q_read q_sights q_stands q_text q_this q_town q_went H.size v_undos v_seed v_size v_fault v_sightMany v_bookMany v_at v_begin v_sign v_figures v_value v_wrong v_town w10.1 y41 hc41) (cwV 1 hts gX12_bears_X12_above rfl rfl rfl (by decide +kernel) ⟨Nat.le_of_ble_eq_true rfl, Nat.le_of_ble_eq_true rfl⟩) ⟨fun a U g mk q => by obtain ⟨q0, q1, qP, qK, qD⟩ := q; exact ⟨q0, q1, qP, va_K.moved (u := U) (U := U.calling g mk a) (Vm.Alike.refl U.vm) qK, qD⟩, va_recv hK hPc (ci := 12) (q0 := 0) rfl rfl, fun U hU hW => ⟨rfl, by rw [hU], by rw [hU]; exact hPc, va_K.moved hW.alike hK, hDc.weaken (fun _ _ _ _ => trivial)⟩⟩ rfl rfl hl.1 rfl (lv_room (Nat.le_of_ble_eq_true rfl)) dX12_bears_41 ⟨Nat.le_of_ble_eq_true rfl, Nat.le_of_ble_eq_true rfl⟩) hS (fun q _ h => hFc q h) hFc (fun r41 u9 t9 H1 locs ht9 hvm9 hw9 hB9 hz9 hkk9 hS => ?_)
          have hw9 : y41 = r41 := hw9.symm
          subst hw9
          obtain ⟨hP9, hK9, hD9⟩ := hB9
          rw [ht9] at hP9
          obtain ⟨hP, hD⟩ := va_join (wr := [(q_now, .inl (cI, 19, .inl v_now))]) (w1 := [(q_this, .inr (12, [.ref q_town, .ref q_read, .ref q_now, .ref q_aside, .ref q_past, .int v_undos, .ref q_images, .ref q_kept, .long v_seed, .ref q_text, .int v_size, .int v_fault, .ref q_sights, .int v_sightMany, .ref q_book, .int v_bookMany, .int v_at, .int v_begin, .int v_sign, .int v_figures, .int v_value, .int v_wrong, .ref q_went, .ref q_free, .ref q_stands])), (q_town, .inl (cI, 27, .inl v_town))]) hP hD [0, 1] [2] rfl rfl (by decide) (by decide) hkk9 hFc hP9 hD9
          generalize H1 = H at hP hS ⊢
          have hP : va_P (dC, dI) vwCl [(q_now, .inl (cI, 19, .inl v_now)), (q_this, .inr (12, [.ref q_town, .ref q_read, .ref q_now, .ref q_aside, .ref q_past, .int v_undos, .ref q_images, .ref q_kept, .long v_seed, .ref q_text, .int v_size, .int v_fault, .ref q_sights, .int v_sightMany, .ref q_book, .int v_bookMany, .int v_at, .int v_begin, .int v_sign, .int v_figures, .int v_value, .int v_wrong, .ref q_went, .ref q_free, .ref q_stands])), (q_town, .inl (cI, 27, .inl v_town))] H := hP
          have hD : va_D A [(q_now, .inl (cI, 19, .inl v_now)), (q_this, .inr (12, [.ref q_town, .ref q_read, .ref q_now, .ref q_aside, .ref q_past, .int v_undos, .ref q_images, .ref q_kept, .long v_seed, .ref q_text, .int v_size, .int v_fault, .ref q_sights, .int v_sightMany, .ref q_book, .int v_bookMany, .int v_at, .int v_begin, .int v_sign, .int v_figures, .int v_value, .int v_wrong, .ref q_went, .ref q_free, .ref q_stands])), (q_town, .inl (cI, 27, .inl v_town))] := hD
          refine lv_goto (tgt := 48) hx hb dX12_bears_44 (by decide) ?_
          refine lv_istore (lv' := [(6, .int y41), (5, .int 0), (4, .int w10.1), (3, .int w10.2), (2, .int y1), (0, .ref q_this), (1, .int a1)]) hx hb dX12_bears_48 hl (by decide) rfl (fun ls hl => ?_)
          refine lv_iconst (v := 0) hx hb dX12_bears_50 (by decide) ?_
          refine lv_istore (lv' := [(7, .int 0), (6, .int y41), (5, .int 0), (4, .int w10.1), (3, .int w10.2), (2, .int y1), (0, .ref q_this), (1, .int a1)]) hx hb dX12_bears_51 hl (by decide) rfl (fun ls hl => ?_)
          obtain ⟨o53, hlp53, hrun⟩ := oz_bind hrun
          have hL53 : ∀ (n : Nat) (w53 : Int32 × Int32) (o53 : Int32 × Int32), oz_loop (fX12_bears_b53_1 v_town v_now a1 y1 y41) n w53 = some o53 → (∀ (H : Heap) (locs : List Loc) (ls : Array Slot), va_P (dC, dI) vwCl [(q_this, .inr (12, [.ref q_town, .ref q_read, .ref q_now, .ref q_aside, .ref q_past, .int v_undos, .ref q_images, .ref q_kept, .long v_seed, .ref q_text, .int v_size, .int v_fault, .ref q_sights, .int v_sightMany, .ref q_book, .int v_bookMany, .int v_at, .int v_begin, .int v_sign, .int v_figures, .int v_value, .int v_wrong, .ref q_went, .ref q_free, .ref q_stands])), (q_town, .inl (cI, 27, .inl v_town)), (q_now, .inl (cI, 19, .inl v_now))] H → va_D A [(q_this, .inr (12, [.ref q_town, .ref q_read, .ref q_now, .ref q_aside, .ref q_past, .int v_undos, .ref q_images, .ref q_kept, .long v_seed, .ref q_text, .int v_size, .int v_fault, .ref q_sights, .int v_sightMany, .ref q_book, .int v_bookMany, .int v_at, .int v_begin, .int v_sign, .int v_figures, .int v_value, .int v_wrong, .ref q_went, .ref q_free, .ref q_stands])), (q_town, .inl (cI, 27, .inl v_town)), (q_now, .inl (cI, 19, .inl v_now))] → va_S A s.heap H locs → lv_has ls 8 [(7, .int o53.1), (6, .int y41), (5, .int o53.2), (4, .int w10.1), (3, .int w10.2), (2, .int y1), (0, .ref q_this), (1, .int a1)] → W p l e (headSpec wsX12_bears rmX12_bears).room s m (([.ref q_this, .int a1] : List Value).toArray) below meth c H locs 0 0 Q (F0 m 130 ls [])) → ∀ (H : Heap) (locs : List Loc) (ls : Array Slot), va_P (dC, dI) vwCl [(q_this, .inr (12, [.ref q_town, .ref q_read, .ref q_now, .ref q_aside, .ref q_past, .int v_undos, .ref q_images, .ref q_kept, .long v_seed, .ref q_text, .int v_size, .int v_fault, .ref q_sights, .int v_sightMany, .ref q_book, .int v_bookMany, .int v_at, .int v_begin, .int v_sign, .int v_figures, .int v_value, .int v_wrong, .ref q_went, .ref q_free, .ref q_stands])), (q_town, .inl (cI, 27, .inl v_town)), (q_now, .inl (cI, 19, .inl v_now))] H → va_D A [(q_this, .inr (12, [.ref q_town, .ref q_read, .ref q_now, .ref q_aside, .ref q_past, .int v_undos, .ref q_images, .ref q_kept, .long v_seed, .ref q_text, .int v_size, .int v_fault, .ref q_sights, .int v_sightMany, .ref q_book, .int v_bookMany, .int v_at, .int v_begin, .int v_sign, .int v_figures, .int v_value, .int v_wrong, .ref q_went, .ref q_free, .ref q_stands])), (q_town, .inl (cI, 27, .inl v_town)), (q_now, .inl (cI, 19, .inl v_now))] → va_S A s.heap H locs → lv_has ls 8 [(7, .int w53.1), (6, .int y41), (5, .int w53.2), (4, .int w10.1), (3, .int w10.2), (2, .int y1), (0, .ref q_this), (1, .int a1)] → W p l e (headSpec wsX12_bears rmX12_bears).room s m (([.ref q_this, .int a1] : List Value).toArray) below meth c H locs 0 0 Q (F0 m 53 ls []) := by
            intro n
            induction n with
            | zero => intro w53 o53 h9; exact (oz_zero h9).elim
            | succ n ih =>
              intro w53 o53 h9 hexit H locs ls hP hD hS hl
              obtain ⟨r9, hrun, hnext⟩ := oz_step h9
              unfold fX12_bears_b53_1 at hrun
              refine lv_iload hx hb dX12_bears_53 (lv_at hl 0 rfl) ?_
              refine lv_aload_n hx hb dX12_bears_55 rfl (lv_at hl 6 rfl) ?_
              refine va_get (D := (dC, dI)) (ci := 12) (v := .ref q_town) (C := RX12) (T := TX12) (N := 25) hx hb hts hiX12 hown hK hP 0 rfl rfl 0 (by decide) hk7 (fun _ h9 => h9) rfl dX12_bears_56 ?_
              refine lv_iconst (v := 2) hx hb dX12_bears_59 (by decide) ?_
              refine va_iald hx hb hK hP 1 0 rfl rfl (show ¬ ((2 : Int32) < 0 ∨ 27 ≤ (2 : Int32).toNatClampNeg) by decide) dX12_bears_60 ?_
              refine lv_icmp_ge (tgt := 130) hx hb dX12_bears_61 (by decide) (fun c12 => ?_) (fun c12 => ?_)
              · have hrun := oz_t hrun c12
                have hr9 := Option.some.inj hrun
                subst hr9
                have ho9 : (w53.1, w53.2) = o53 := hnext
                subst ho9
                exact hexit _ _ _ (hP.sub [0, 1, 2] rfl) (hD.sub [0, 1, 2] (by decide) rfl) hS (lv_sub hl [0, 1, 2, 3, 4, 5, 6, 7] rfl)
              · have hrun := oz_f hrun c12
                refine lv_iload hx hb dX12_bears_64 (lv_at hl 1 rfl) ?_
                refine lv_iload hx hb dX12_bears_66 (lv_at hl 0 rfl) ?_
                obtain ⟨y68, hc68, hrun⟩ := oz_bind hrun
                have hPc := hP.sub (ws' := []) [] rfl
                have hDc := hD.sub (ws' := []) [] (by decide) rfl
                have hFc := va_free (wc := []) hD hS hA [] rfl
                refine va_calli (va_runS (As := [.int y41, .int w53.1]) (rest := []) ⟨hx, hb, hml, hown, hts⟩ (tX12_has l dC dI cI cZ H.size y41 w53.1 y68 hc68) (va_cwS 2 hts gX12_bears_X12_has rfl rfl rfl (by decide +kernel) ⟨Nat.le_of_ble_eq_true rfl, Nat.le_of_ble_eq_true rfl⟩) ⟨fun a U g mk q => by obtain ⟨q0, q1, qP, qK, qD⟩ := q; exact ⟨q0, q1, qP, va_K.moved (u := U) (U := U.calling g mk a) (Vm.Alike.refl U.vm) qK, qD⟩, fun U hU hW => ⟨rfl, by rw [hU], by rw [hU]; exact hPc, va_K.moved hW.alike hK, hDc.weaken (fun _ _ _ _ => trivial)⟩⟩ rfl rfl hl.1 rfl (lv_room (Nat.le_of_ble_eq_true rfl)) dX12_bears_68 ⟨Nat.le_of_ble_eq_true rfl, Nat.le_of_ble_eq_true rfl⟩) hS (fun q _ h => hFc q h) hFc (fun r68 u9 t9 H1 locs ht9 hvm9 hw9 hB9 hz9 hkk9 hS => ?_)
                have hw9 : y68 = r68 := hw9.symm
                subst hw9
                obtain ⟨hP9, hK9, hD9⟩ := hB9
                rw [ht9] at hP9
                obtain ⟨hP, hD⟩ := va_join (wr := [(q_this, .inr (12, [.ref q_town, .ref q_read, .ref q_now, .ref q_aside, .ref q_past, .int v_undos, .ref q_images, .ref q_kept, .long v_seed, .ref q_text, .int v_size, .int v_fault, .ref q_sights, .int v_sightMany, .ref q_book, .int v_bookMany, .int v_at, .int v_begin, .int v_sign, .int v_figures, .int v_value, .int v_wrong, .ref q_went, .ref q_free, .ref q_stands])), (q_town, .inl (cI, 27, .inl v_town)), (q_now, .inl (cI, 19, .inl v_now))]) (w1 := []) hP hD [] [0, 1, 2] rfl rfl (by decide) (by decide) hkk9 hFc hP9 hD9
                generalize H1 = H at hP hS ⊢
                have hP : va_P (dC, dI) vwCl [(q_this, .inr (12, [.ref q_town, .ref q_read, .ref q_now, .ref q_aside, .ref q_past, .int v_undos, .ref q_images, .ref q_kept, .long v_seed, .ref q_text, .int v_size, .int v_fault, .ref q_sights, .int v_sightMany, .ref q_book, .int v_bookMany, .int v_at, .int v_begin, .int v_sign, .int v_figures, .int v_value, .int v_wrong, .ref q_went, .ref q_free, .ref q_stands])), (q_town, .inl (cI, 27, .inl v_town)), (q_now, .inl (cI, 19, .inl v_now))] H := hP
                have hD : va_D A [(q_this, .inr (12, [.ref q_town, .ref q_read, .ref q_now, .ref q_aside, .ref q_past, .int v_undos, .ref q_images, .ref q_kept, .long v_seed, .ref q_text, .int v_size, .int v_fault, .ref q_sights, .int v_sightMany, .ref q_book, .int v_bookMany, .int v_at, .int v_begin, .int v_sign, .int v_figures, .int v_value, .int v_wrong, .ref q_went, .ref q_free, .ref q_stands])), (q_town, .inl (cI, 27, .inl v_town)), (q_now, .inl (cI, 19, .inl v_now))] := hD
                refine lv_if_eq (tgt := 124) hx hb dX12_bears_71 (by decide) (fun c13 => ?_) (fun c13 => ?_)
                · have hrun := oz_t hrun c13
                  refine lv_iinc (v := (w53.1 + 1)) (lv' := [(7, .int (w53.1 + 1)), (6, .int y41), (5, .int w53.2), (4, .int w10.1), (3, .int w10.2), (2, .int y1), (0, .ref q_this), (1, .int a1)]) hx hb dX12_bears_124 hl (k := 0) rfl rfl (by decide) rfl (fun ls hl => ?_)
                  refine lv_goto (tgt := 53) hx hb dX12_bears_127 (by decide) ?_
                  have hr9 := Option.some.inj hrun
                  subst hr9
                  exact ih ((w53.1 + 1), w53.2) _ hnext hexit _ _ _ (hP.sub [0, 1, 2] rfl) (hD.sub [0, 1, 2] (by decide) rfl) hS (lv_sub hl [0, 1, 2, 3, 4, 5, 6, 7] rfl)
                · have hrun := oz_f hrun c13
                  refine lv_iload hx hb dX12_bears_74 (lv_at hl 2 rfl) ?_
                  refine lv_aload_n hx hb dX12_bears_76 rfl (lv_at hl 6 rfl) ?_
                  refine va_get (D := (dC, dI)) (ci := 12) (v := .ref q_town) (C := RX12) (T := TX12) (N := 25) hx hb hts hiX12 hown hK hP 0 rfl rfl 0 (by decide) hk7 (fun _ h9 => h9) rfl dX12_bears_77 ?_
                  refine lv_iconst (v := 3) hx hb dX12_bears_80 (by decide) ?_
                  refine lv_iload hx hb dX12_bears_81 (lv_at hl 0 rfl) ?_
                  refine lv_iadd hx hb dX12_bears_83 ?_
                  obtain ⟨c14, hrun⟩ := oz_chk hrun
                  refine va_iald hx hb hK hP 1 0 rfl rfl c14 dX12_bears_84 ?_
                  refine lv_aload_n hx hb dX12_bears_85 rfl (lv_at hl 6 rfl) ?_
                  refine va_get (D := (dC, dI)) (ci := 12) (v := .ref q_now) (C := RX12) (T := TX12) (N := 25) hx hb hts hiX12 hown hK hP 0 rfl rfl 2 (by decide) hk16 (fun _ h9 => h9) rfl dX12_bears_86 ?_
                  refine lv_iconst (v := 0) hx hb dX12_bears_89 (by decide) ?_
                  refine lv_iload hx hb dX12_bears_90 (lv_at hl 0 rfl) ?_
                  refine lv_iadd hx hb dX12_bears_92 ?_
                  obtain ⟨c15, hrun⟩ := oz_chk hrun
                  refine va_iald hx hb hK hP 2 0 rfl rfl c15 dX12_bears_93 ?_
                  refine lv_isub hx hb dX12_bears_94 ?_
                  refine lv_iload_n hx hb dX12_bears_95 rfl (lv_at hl 7 rfl) ?_
                  refine lv_iload hx hb dX12_bears_96 (lv_at hl 0 rfl) ?_
                  obtain ⟨y98, hc98, hrun⟩ := oz_bind hrun
                  have hPc := hP.sub (ws' := []) [] rfl
                  have hDc := hD.sub (ws' := []) [] (by decide) rfl
                  have hFc := va_free (wc := []) hD hS hA [] rfl
                  refine va_calli (va_runS (As := [.int a1, .int w53.1]) (rest := [.int ((v_town (Int32.toNatClampNeg (3 + w53.1))) - (v_now (Int32.toNatClampNeg (0 + w53.1)))), .int w53.2]) ⟨hx, hb, hml, hown, hts⟩ (tX12_has l dC dI cI cZ H.size a1 w53.1 y98 hc98) (va_cwS 2 hts gX12_bears_X12_has rfl rfl rfl (by decide +kernel) ⟨Nat.le_of_ble_eq_true rfl, Nat.le_of_ble_eq_true rfl⟩) ⟨fun a U g mk q => by obtain ⟨q0, q1, qP, qK, qD⟩ := q; exact ⟨q0, q1, qP, va_K.moved (u := U) (U := U.calling g mk a) (Vm.Alike.refl U.vm) qK, qD⟩, fun U hU hW => ⟨rfl, by rw [hU], by rw [hU]; exact hPc, va_K.moved hW.alike hK, hDc.weaken (fun _ _ _ _ => trivial)⟩⟩ rfl rfl hl.1 rfl (lv_room (Nat.le_of_ble_eq_true rfl)) dX12_bears_98 ⟨Nat.le_of_ble_eq_true rfl, Nat.le_of_ble_eq_true rfl⟩) hS (fun q _ h => hFc q h) hFc (fun r98 u9 t9 H1 locs ht9 hvm9 hw9 hB9 hz9 hkk9 hS => ?_)
                  have hw9 : y98 = r98 := hw9.symm
                  subst hw9
                  obtain ⟨hP9, hK9, hD9⟩ := hB9
                  rw [ht9] at hP9
                  obtain ⟨hP, hD⟩ := va_join (wr := [(q_this, .inr (12, [.ref q_town, .ref q_read, .ref q_now, .ref q_aside, .ref q_past, .int v_undos, .ref q_images, .ref q_kept, .long v_seed, .ref q_text, .int v_size, .int v_fault, .ref q_sights, .int v_sightMany, .ref q_book, .int v_bookMany, .int v_at, .int v_begin, .int v_sign, .int v_figures, .int v_value, .int v_wrong, .ref q_went, .ref q_free, .ref q_stands])), (q_town, .inl (cI, 27, .inl v_town)), (q_now, .inl (cI, 19, .inl v_now))]) (w1 := []) hP hD [] [0, 1, 2] rfl rfl (by decide) (by decide) hkk9 hFc hP9 hD9
                  generalize H1 = H at hP hS ⊢
                  have hP : va_P (dC, dI) vwCl [(q_this, .inr (12, [.ref q_town, .ref q_read, .ref q_now, .ref q_aside, .ref q_past, .int v_undos, .ref q_images, .ref q_kept, .long v_seed, .ref q_text, .int v_size, .int v_fault, .ref q_sights, .int v_sightMany, .ref q_book, .int v_bookMany, .int v_at, .int v_begin, .int v_sign, .int v_figures, .int v_value, .int v_wrong, .ref q_went, .ref q_free, .ref q_stands])), (q_town, .inl (cI, 27, .inl v_town)), (q_now, .inl (cI, 19, .inl v_now))] H := hP
                  have hD : va_D A [(q_this, .inr (12, [.ref q_town, .ref q_read, .ref q_now, .ref q_aside, .ref q_past, .int v_undos, .ref q_images, .ref q_kept, .long v_seed, .ref q_text, .int v_size, .int v_fault, .ref q_sights, .int v_sightMany, .ref q_book, .int v_bookMany, .int v_at, .int v_begin, .int v_sign, .int v_figures, .int v_value, .int v_wrong, .ref q_went, .ref q_free, .ref q_stands])), (q_town, .inl (cI, 27, .inl v_town)), (q_now, .inl (cI, 19, .inl v_now))] := hD
                  refine lv_if_eq (tgt := 108) hx hb dX12_bears_101 (by decide) (fun c16 => ?_) (fun c16 => ?_)
                  · have hrun := oz_t hrun c16
                    refine lv_iload_n hx hb dX12_bears_108 rfl (lv_at hl 5 rfl) ?_
                    refine lv_aload_n hx hb dX12_bears_109 rfl (lv_at hl 6 rfl) ?_
                    refine va_get (D := (dC, dI)) (ci := 12) (v := .ref q_town) (C := RX12) (T := TX12) (N := 25) hx hb hts hiX12 hown hK hP 0 rfl rfl 0 (by decide) hk7 (fun _ h9 => h9) rfl dX12_bears_110 ?_
                    refine lv_bipush (v := 11) hx hb dX12_bears_113 (by decide) ?_
                    refine lv_iload hx hb dX12_bears_115 (lv_at hl 0 rfl) ?_
                    refine lv_iadd hx hb dX12_bears_117 ?_
                    obtain ⟨c17, hrun⟩ := oz_chk hrun
                    refine va_iald hx hb hK hP 1 0 rfl rfl c17 dX12_bears_118 ?_
                    refine lv_imul hx hb dX12_bears_119 ?_
                    refine lv_isub hx hb dX12_bears_120 ?_
                    refine lv_iadd hx hb dX12_bears_121 ?_
                    refine lv_istore (lv' := [(5, .int (w53.2 + (((v_town (Int32.toNatClampNeg (3 + w53.1))) - (v_now (Int32.toNatClampNeg (0 + w53.1)))) - (y1 * (v_town (Int32.toNatClampNeg (11 + w53.1))))))), (7, .int w53.1), (6, .int y41), (4, .int w10.1), (3, .int w10.2), (2, .int y1), (0, .ref q_this), (1, .int a1)]) hx hb dX12_bears_122 hl (by decide) rfl (fun ls hl => ?_)
                    refine lv_iinc (v := (w53.1 + 1)) (lv' := [(7, .int (w53.1 + 1)), (5, .int (w53.2 + (((v_town (Int32.toNatClampNeg (3 + w53.1))) - (v_now (Int32.toNatClampNeg (0 + w53.1)))) - (y1 * (v_town (Int32.toNatClampNeg (11 + w53.1))))))), (6, .int y41), (4, .int w10.1), (3, .int w10.2), (2, .int y1), (0, .ref q_this), (1, .int a1)]) hx hb dX12_bears_124 hl (k := 1) rfl rfl (by decide) rfl (fun ls hl => ?_)
                    refine lv_goto (tgt := 53) hx hb dX12_bears_127 (by decide) ?_
                    have hr9 := Option.some.inj hrun
                    subst hr9
                    exact ih ((w53.1 + 1), (w53.2 + (((v_town (Int32.toNatClampNeg (3 + w53.1))) - (v_now (Int32.toNatClampNeg (0 + w53.1)))) - (y1 * (v_town (Int32.toNatClampNeg (11 + w53.1))))))) _ hnext hexit _ _ _ (hP.sub [0, 1, 2] rfl) (hD.sub [0, 1, 2] (by decide) rfl) hS (lv_sub hl [0, 2, 1, 3, 4, 5, 6, 7] rfl)
                  · have hrun := oz_f hrun c16
                    refine lv_iconst (v := 0) hx hb dX12_bears_104 (by decide) ?_
                    refine lv_goto (tgt := 120) hx hb dX12_bears_105 (by decide) ?_
                    refine lv_isub hx hb dX12_bears_120 ?_
                    refine lv_iadd hx hb dX12_bears_121 ?_
                    refine lv_istore (lv' := [(5, .int (w53.2 + (((v_town (Int32.toNatClampNeg (3 + w53.1))) - (v_now (Int32.toNatClampNeg (0 + w53.1)))) - 0))), (7, .int w53.1), (6, .int y41), (4, .int w10.1), (3, .int w10.2), (2, .int y1), (0, .ref q_this), (1, .int a1)]) hx hb dX12_bears_122 hl (by decide) rfl (fun ls hl => ?_)
                    refine lv_iinc (v := (w53.1 + 1)) (lv' := [(7, .int (w53.1 + 1)), (5, .int (w53.2 + (((v_town (Int32.toNatClampNeg (3 + w53.1))) - (v_now (Int32.toNatClampNeg (0 + w53.1)))) - 0))), (6, .int y41), (4, .int w10.1), (3, .int w10.2), (2, .int y1), (0, .ref q_this), (1, .int a1)]) hx hb dX12_bears_124 hl (k := 1) rfl rfl (by decide) rfl (fun ls hl => ?_)
                    refine lv_goto (tgt := 53) hx hb dX12_bears_127 (by decide) ?_
                    have hr9 := Option.some.inj hrun
                    subst hr9
                    exact ih ((w53.1 + 1), (w53.2 + (((v_town (Int32.toNatClampNeg (3 + w53.1))) - (v_now (Int32.toNatClampNeg (0 + w53.1)))) - 0))) _ hnext hexit _ _ _ (hP.sub [0, 1, 2] rfl) (hD.sub [0, 1, 2] (by decide) rfl) hS (lv_sub hl [0, 2, 1, 3, 4, 5, 6, 7] rfl)
          refine hL53 oz_fuel (0, 0) o53 hlp53 (fun H locs ls hP hD hS hl => ?_) _ _ _ (hP.sub [1, 2, 0] rfl) (hD.sub [1, 2, 0] (by decide) rfl) hS (lv_sub hl [0, 1, 2, 3, 4, 5, 6, 7] rfl)
          have hP : va_P (dC, dI) vwCl [(q_this, .inr (12, [.ref q_town, .ref q_read, .ref q_now, .ref q_aside, .ref q_past, .int v_undos, .ref q_images, .ref q_kept, .long v_seed, .ref q_text, .int v_size, .int v_fault, .ref q_sights, .int v_sightMany, .ref q_book, .int v_bookMany, .int v_at, .int v_begin, .int v_sign, .int v_figures, .int v_value, .int v_wrong, .ref q_went, .ref q_free, .ref q_stands])), (q_town, .inl (cI, 27, .inl v_town)), (q_now, .inl (cI, 19, .inl v_now))] H := hP
          have hD : va_D A [(q_this, .inr (12, [.ref q_town, .ref q_read, .ref q_now, .ref q_aside, .ref q_past, .int v_undos, .ref q_images, .ref q_kept, .long v_seed, .ref q_text, .int v_size, .int v_fault, .ref q_sights, .int v_sightMany, .ref q_book, .int v_bookMany, .int v_at, .int v_begin, .int v_sign, .int v_figures, .int v_value, .int v_wrong, .ref q_went, .ref q_free, .ref q_stands])), (q_town, .inl (cI, 27, .inl v_town)), (q_now, .inl (cI, 19, .inl v_now))] := hD
          have hl : lv_has ls 8 [(7, .int o53.1), (6, .int y41), (5, .int o53.2), (4, .int w10.1), (3, .int w10.2), (2, .int y1), (0, .ref q_this), (1, .int a1)] := hl
          refine lv_iload_n hx hb dX12_bears_130 rfl (lv_at hl 4 rfl) ?_
          refine lv_if_eq (tgt := 143) hx hb dX12_bears_131 (by decide) (fun c18 => ?_) (fun c18 => ?_)
          · have hrun := oz_t hrun c18
            refine lv_iconst (v := 0) hx hb dX12_bears_143 (by decide) ?_
            refine lv_istore_n (lv' := [(3, .int 0), (7, .int o53.1), (6, .int y41), (5, .int o53.2), (4, .int w10.1), (2, .int y1), (0, .ref q_this), (1, .int a1)]) hx hb dX12_bears_144 rfl hl (by decide) rfl (fun ls hl => ?_)
            refine lv_iinc (v := (w10.1 + 1)) (lv' := [(4, .int (w10.1 + 1)), (3, .int 0), (7, .int o53.1), (6, .int y41), (5, .int o53.2), (2, .int y1), (0, .ref q_this), (1, .int a1)]) hx hb dX12_bears_145 hl (k := 4) rfl rfl (by decide) rfl (fun ls hl => ?_)
            refine lv_goto (tgt := 10) hx hb dX12_bears_148 (by decide) ?_
            have hr9 := Option.some.inj hrun
            subst hr9
            exact ih ((w10.1 + 1), 0) _ hnext hexit _ _ _ (hP.sub [0, 1, 2] rfl) (hD.sub [0, 1, 2] (by decide) rfl) hS (lv_sub hl [0, 1, 5, 6, 7] rfl)
          · have hrun := oz_f hrun c18
            refine lv_iload hx hb dX12_bears_134 (lv_at hl 2 rfl) ?_
            refine lv_if_lt (tgt := 143) hx hb dX12_bears_136 (by decide) (fun c19 => ?_) (fun c19 => ?_)
            · have hrun := oz_t hrun c19
              refine lv_iconst (v := 0) hx hb dX12_bears_143 (by decide) ?_
              refine lv_istore_n (lv' := [(3, .int 0), (7, .int o53.1), (6, .int y41), (5, .int o53.2), (4, .int w10.1), (2, .int y1), (0, .ref q_this), (1, .int a1)]) hx hb dX12_bears_144 rfl hl (by decide) rfl (fun ls hl => ?_)
              refine lv_iinc (v := (w10.1 + 1)) (lv' := [(4, .int (w10.1 + 1)), (3, .int 0), (7, .int o53.1), (6, .int y41), (5, .int o53.2), (2, .int y1), (0, .ref q_this), (1, .int a1)]) hx hb dX12_bears_145 hl (k := 4) rfl rfl (by decide) rfl (fun ls hl => ?_)
              refine lv_goto (tgt := 10) hx hb dX12_bears_148 (by decide) ?_
              have hr9 := Option.some.inj hrun
              subst hr9
              exact ih ((w10.1 + 1), 0) _ hnext hexit _ _ _ (hP.sub [0, 1, 2] rfl) (hD.sub [0, 1, 2] (by decide) rfl) hS (lv_sub hl [0, 1, 5, 6, 7] rfl)
            · have hrun := oz_f hrun c19
              refine lv_iconst (v := 1) hx hb dX12_bears_139 (by decide) ?_
              refine lv_goto (tgt := 144) hx hb dX12_bears_140 (by decide) ?_
              refine lv_istore_n (lv' := [(3, .int 1), (7, .int o53.1), (6, .int y41), (5, .int o53.2), (4, .int w10.1), (2, .int y1), (0, .ref q_this), (1, .int a1)]) hx hb dX12_bears_144 rfl hl (by decide) rfl (fun ls hl => ?_)
              refine lv_iinc (v := (w10.1 + 1)) (lv' := [(4, .int (w10.1 + 1)), (3, .int 1), (7, .int o53.1), (6, .int y41), (5, .int o53.2), (2, .int y1), (0, .ref q_this), (1, .int a1)]) hx hb dX12_bears_145 hl (k := 4) rfl rfl (by decide) rfl (fun ls hl => ?_)
              refine lv_goto (tgt := 10) hx hb dX12_bears_148 (by decide) ?_
              have hr9 := Option.some.inj hrun
              subst hr9
              exact ih ((w10.1 + 1), 1) _ hnext hexit _ _ _ (hP.sub [0, 1, 2] rfl) (hD.sub [0, 1, 2] (by decide) rfl) hS (lv_sub hl [0, 1, 5, 6, 7] rfl)
  refine hL10 oz_fuel (0, 1) o10 hlp10 (fun H locs ls hP hD hS hl => ?_) _ _ _ (hP.sub [0, 1, 2] rfl) (hD.sub [0, 1, 2] (by decide) rfl) hS (lv_sub hl [0, 1, 2, 3, 4] rfl)
  have hP : va_P (dC, dI) vwCl [(q_this, .inr (12, [.ref q_town, .ref q_read, .ref q_now, .ref q_aside, .ref q_past, .int v_undos, .ref q_images, .ref q_kept, .long v_seed, .ref q_text, .int v_size, .int v_fault, .ref q_sights, .int v_sightMany, .ref q_book, .int v_bookMany, .int v_at, .int v_begin, .int v_sign, .int v_figures, .int v_value, .int v_wrong, .ref q_went, .ref q_free, .ref q_stands])), (q_town, .inl (cI, 27, .inl v_town)), (q_now, .inl (cI, 19, .inl v_now))] H := hP
  have hD : va_D A [(q_this, .inr (12, [.ref q_town, .ref q_read, .ref q_now, .ref q_aside, .ref q_past, .int v_undos, .ref q_images, .ref q_kept, .long v_seed, .ref q_text, .int v_size, .int v_fault, .ref q_sights, .int v_sightMany, .ref q_book, .int v_bookMany, .int v_at, .int v_begin, .int v_sign, .int v_figures, .int v_value, .int v_wrong, .ref q_went, .ref q_free, .ref q_stands])), (q_town, .inl (cI, 27, .inl v_town)), (q_now, .inl (cI, 19, .inl v_now))] := hD
  have hl : lv_has ls 8 [(4, .int o10.1), (3, .int o10.2), (2, .int y1), (0, .ref q_this), (1, .int a1)] := hl
  refine lv_iload_n hx hb dX12_bears_151 rfl (lv_at hl 1 rfl) ?_
  obtain ⟨c20, hrun⟩ := oz_chk hrun
  have ho9 := Option.some.inj hrun
  subst ho9
  have hP9 := hP.sub (ws' := [(q_this, .inr (12, [.ref q_town, .ref q_read, .ref q_now, .ref q_aside, .ref q_past, .int v_undos, .ref q_images, .ref q_kept, .long v_seed, .ref q_text, .int v_size, .int v_fault, .ref q_sights, .int v_sightMany, .ref q_book, .int v_bookMany, .int v_at, .int v_begin, .int v_sign, .int v_figures, .int v_value, .int v_wrong, .ref q_went, .ref q_free, .ref q_stands])), (q_town, .inl (cI, 27, .inl v_town)), (q_now, .inl (cI, 19, .inl v_now))]) [0, 1, 2] rfl
  have hD9 := hD.sub (ws' := [(q_this, .inr (12, [.ref q_town, .ref q_read, .ref q_now, .ref q_aside, .ref q_past, .int v_undos, .ref q_images, .ref q_kept, .long v_seed, .ref q_text, .int v_size, .int v_fault, .ref q_sights, .int v_sightMany, .ref q_book, .int v_bookMany, .int v_at, .int v_begin, .int v_sign, .int v_figures, .int v_value, .int v_wrong, .ref q_went, .ref q_free, .ref q_stands])), (q_town, .inl (cI, 27, .inl v_town)), (q_now, .inl (cI, 19, .inl v_now))]) [0, 1, 2] (by decide) rfl
  rw [hQ]
  exact W.zret (v := o10.2) (ty := .boolean) hx hb hr (Decidable.not_not.mp c20) (fun t ht hW => ⟨⟨o10.2, (), rfl, rfl, by rw [ht]; exact hP9, va_K.moved hW.alike hK, hD9⟩, hS.F ht⟩) hS.2.2 dX12_bears_152
def fX12_fewest_b4 (v_town : Nat → Int32) (v_now : Nat → Int32) (w4 : Int32 × Int32) : Option ((Int32 × Int32) ⊕ (Int32 × Int32)) :=
  if (1 <<< ((v_town (Int32.toNatClampNeg 2)) &&& 31)) ≤ w4.1 then (some (.inr (w4.1, w4.2))) else (if w4.2 = (-1) then (Option.bind (fX12_bears v_town v_now w4.1) (fun y44 => if y44 = 0 then (some (.inl ((w4.1 + 1), w4.2))) else (some (.inl ((w4.1 + 1), w4.1))))) else (Option.bind (fX12_bits w4.1) (fun y22 => Option.bind (fX12_bits w4.2) (fun y26 => if y26 ≤ y22 then (some (.inl ((w4.1 + 1), w4.2))) else (Option.bind (fX12_bears v_town v_now w4.1) (fun y44 => if y44 = 0 then (some (.inl ((w4.1 + 1), w4.2))) else (some (.inl ((w4.1 + 1), w4.1)))))))))
def fX12_fewest (v_town : Nat → Int32) (v_now : Nat → Int32) : Option (Int32) :=
  Option.bind (oz_loop (fX12_fewest_b4 v_town v_now) oz_fuel (0, (-1))) (fun o4 => some o4.2)
def rmX12_fewest : Room := { frames := 3, cells := 0, slots := 0, locals := 68 }
set_option maxHeartbeats 4000000 in
set_option maxRecDepth 100000 in
theorem tX12_fewest (l : Launch) (dC : Nat → ClassId) (dI : Nat → Nat → Nat) (cI cZ : ClassId) (q_aside q_book q_free q_images q_kept q_now q_past q_read q_sights q_stands q_text q_this q_town q_went : Nat) (sz : Nat) (v_undos : Int32) (v_seed : Int64) (v_size : Int32) (v_fault : Int32) (v_sightMany : Int32) (v_bookMany : Int32) (v_at : Int32) (v_begin : Int32) (v_sign : Int32) (v_figures : Int32) (v_value : Int32) (v_wrong : Int32) (v_town : Nat → Int32) (v_now : Nat → Int32) (out : Int32) (hrun : fX12_fewest v_town v_now = some out) : Met l yX12_fewest wsX12_fewest rmX12_fewest (va_Pc [.ref q_this] (fun U => U.heap.size = sz ∧ va_P (dC, dI) vwCl [(q_this, .inr (12, [.ref q_town, .ref q_read, .ref q_now, .ref q_aside, .ref q_past, .int v_undos, .ref q_images, .ref q_kept, .long v_seed, .ref q_text, .int v_size, .int v_fault, .ref q_sights, .int v_sightMany, .ref q_book, .int v_bookMany, .int v_at, .int v_begin, .int v_sign, .int v_figures, .int v_value, .int v_wrong, .ref q_went, .ref q_free, .ref q_stands])), (q_town, .inl (cI, 27, .inl v_town)), (q_now, .inl (cI, 19, .inl v_now))] U.heap ∧ va_K (dC, dI) vwCl [(cI, .int), (cZ, .boolean)] U ∧ va_D (fun _ => True) [(q_this, .inr (12, [.ref q_town, .ref q_read, .ref q_now, .ref q_aside, .ref q_past, .int v_undos, .ref q_images, .ref q_kept, .long v_seed, .ref q_text, .int v_size, .int v_fault, .ref q_sights, .int v_sightMany, .ref q_book, .int v_bookMany, .int v_at, .int v_begin, .int v_sign, .int v_figures, .int v_value, .int v_wrong, .ref q_went, .ref q_free, .ref q_stands])), (q_town, .inl (cI, 27, .inl v_town)), (q_now, .inl (cI, 19, .inl v_now))])) (va_Qi (fun (r : Int32) (_ : Unit) => r = out) (fun _ t => va_P (dC, dI) vwCl [(q_this, .inr (12, [.ref q_town, .ref q_read, .ref q_now, .ref q_aside, .ref q_past, .int v_undos, .ref q_images, .ref q_kept, .long v_seed, .ref q_text, .int v_size, .int v_fault, .ref q_sights, .int v_sightMany, .ref q_book, .int v_bookMany, .int v_at, .int v_begin, .int v_sign, .int v_figures, .int v_value, .int v_wrong, .ref q_went, .ref q_free, .ref q_stands])), (q_town, .inl (cI, 27, .inl v_town)), (q_now, .inl (cI, 19, .inl v_now))] t.heap ∧ va_K (dC, dI) vwCl [(cI, .int), (cZ, .boolean)] t ∧ va_D (va_A [(q_this, .inr (12, [.ref q_town, .ref q_read, .ref q_now, .ref q_aside, .ref q_past, .int v_undos, .ref q_images, .ref q_kept, .long v_seed, .ref q_text, .int v_size, .int v_fault, .ref q_sights, .int v_sightMany, .ref q_book, .int v_bookMany, .int v_at, .int v_begin, .int v_sign, .int v_figures, .int v_value, .int v_wrong, .ref q_went, .ref q_free, .ref q_stands])), (q_town, .inl (cI, 27, .inl v_town)), (q_now, .inl (cI, 19, .inl v_now))] sz) [(q_this, .inr (12, [.ref q_town, .ref q_read, .ref q_now, .ref q_aside, .ref q_past, .int v_undos, .ref q_images, .ref q_kept, .long v_seed, .ref q_text, .int v_size, .int v_fault, .ref q_sights, .int v_sightMany, .ref q_book, .int v_bookMany, .int v_at, .int v_begin, .int v_sign, .int v_figures, .int v_value, .int v_wrong, .ref q_went, .ref q_free, .ref q_stands])), (q_town, .inl (cI, 27, .inl v_town)), (q_now, .inl (cI, 19, .inl v_now))]) (va_A [(q_this, .inr (12, [.ref q_town, .ref q_read, .ref q_now, .ref q_aside, .ref q_past, .int v_undos, .ref q_images, .ref q_kept, .long v_seed, .ref q_text, .int v_size, .int v_fault, .ref q_sights, .int v_sightMany, .ref q_book, .int v_bookMany, .int v_at, .int v_begin, .int v_sign, .int v_figures, .int v_value, .int v_wrong, .ref q_went, .ref q_free, .ref q_stands])), (q_town, .inl (cI, 27, .inl v_town)), (q_now, .inl (cI, 19, .inl v_now))] sz)) 0 0 (va_A [(q_this, .inr (12, [.ref q_town, .ref q_read, .ref q_now, .ref q_aside, .ref q_past, .int v_undos, .ref q_images, .ref q_kept, .long v_seed, .ref q_text, .int v_size, .int v_fault, .ref q_sights, .int v_sightMany, .ref q_book, .int v_bookMany, .int v_at, .int v_begin, .int v_sign, .int v_figures, .int v_value, .int v_wrong, .ref q_went, .ref q_free, .ref q_stands])), (q_town, .inl (cI, 27, .inl v_town)), (q_now, .inl (cI, 19, .inl v_now))] sz) := by
  refine Met.ofW (cc := cX12_fewest) (maxL := 4) (ret := (some .int)) (by decide) rfl ?_
  intro p e s m args below meth c s₁ B hml hv
  obtain ⟨rfl, hsz, hP, hK, hD0⟩ := hv
  have hx := B.exec
  have hb := B.bytes
  have hr := B.returns
  have hts := atoms_spec (ws := wsX12_fewest) B.pre
  have hown : s.vm.findClass RX12 = some m.cls := findClass_of_methodNamed B.named
  have hlocks := B.notSynchronized
  subst hsz
  have hD := hD0.self (sz := s.heap.size)
  generalize hAe : va_A [(q_this, .inr (12, [.ref q_town, .ref q_read, .ref q_now, .ref q_aside, .ref q_past, .int v_undos, .ref q_images, .ref q_kept, .long v_seed, .ref q_text, .int v_size, .int v_fault, .ref q_sights, .int v_sightMany, .ref q_book, .int v_bookMany, .int v_at, .int v_begin, .int v_sign, .int v_figures, .int v_value, .int v_wrong, .ref q_went, .ref q_free, .ref q_stands])), (q_town, .inl (cI, 27, .inl v_town)), (q_now, .inl (cI, 19, .inl v_now))] s.heap.size = A at hD ⊢
  have hA : ∀ q : Nat, s.heap.size ≤ q → A q := fun q h => by rw [← hAe]; exact Or.inr h
  have hS : va_S A s.heap s.heap [] := va_S.rf
  have hl := lv_entry ([.ref q_this]) (n := 4) (Nat.le_of_ble_eq_true rfl)
  rw [lg_entry_eq]
  generalize (lg_sl ([.ref q_this]) ++ List.replicate (4 - (lg_sl ([.ref q_this])).length) Slot.unset).toArray = ls at hl ⊢
  have hl : lv_has ls 4 [(0, .ref q_this)] := hl
  unfold fX12_fewest at hrun
  have hk7 := hts (.fieldLink RX12 7 "LentDrainsModel" "town" "[I") (by decide +kernel)
  have hiX12 : ∀ w ∈ wsX120, w ∈ wsX12_fewest := by decide +kernel
  refine oz_genQ (fun Q hQ => ?_)
  refine lv_iconst (v := (-1)) hx hb dX12_fewest_0 (by decide) ?_
  refine lv_istore_n (lv' := [(1, .int (-1)), (0, .ref q_this)]) hx hb dX12_fewest_1 rfl hl (by decide) rfl (fun ls hl => ?_)
  refine lv_iconst (v := 0) hx hb dX12_fewest_2 (by decide) ?_
  refine lv_istore_n (lv' := [(2, .int 0), (1, .int (-1)), (0, .ref q_this)]) hx hb dX12_fewest_3 rfl hl (by decide) rfl (fun ls hl => ?_)
  obtain ⟨o4, hlp4, hrun⟩ := oz_bind hrun
  have hL4 : ∀ (n : Nat) (w4 : Int32 × Int32) (o4 : Int32 × Int32), oz_loop (fX12_fewest_b4 v_town v_now) n w4 = some o4 → (∀ (H : Heap) (locs : List Loc) (ls : Array Slot), va_P (dC, dI) vwCl [(q_this, .inr (12, [.ref q_town, .ref q_read, .ref q_now, .ref q_aside, .ref q_past, .int v_undos, .ref q_images, .ref q_kept, .long v_seed, .ref q_text, .int v_size, .int v_fault, .ref q_sights, .int v_sightMany, .ref q_book, .int v_bookMany, .int v_at, .int v_begin, .int v_sign, .int v_figures, .int v_value, .int v_wrong, .ref q_went, .ref q_free, .ref q_stands])), (q_town, .inl (cI, 27, .inl v_town)), (q_now, .inl (cI, 19, .inl v_now))] H → va_D A [(q_this, .inr (12, [.ref q_town, .ref q_read, .ref q_now, .ref q_aside, .ref q_past, .int v_undos, .ref q_images, .ref q_kept, .long v_seed, .ref q_text, .int v_size, .int v_fault, .ref q_sights, .int v_sightMany, .ref q_book, .int v_bookMany, .int v_at, .int v_begin, .int v_sign, .int v_figures, .int v_value, .int v_wrong, .ref q_went, .ref q_free, .ref q_stands])), (q_town, .inl (cI, 27, .inl v_town)), (q_now, .inl (cI, 19, .inl v_now))] → va_S A s.heap H locs → lv_has ls 4 [(2, .int o4.1), (1, .int o4.2), (0, .ref q_this)] → W p l e (headSpec wsX12_fewest rmX12_fewest).room s m (([.ref q_this] : List Value).toArray) below meth c H locs 0 0 Q (F0 m 62 ls [])) → ∀ (H : Heap) (locs : List Loc) (ls : Array Slot), va_P (dC, dI) vwCl [(q_this, .inr (12, [.ref q_town, .ref q_read, .ref q_now, .ref q_aside, .ref q_past, .int v_undos, .ref q_images, .ref q_kept, .long v_seed, .ref q_text, .int v_size, .int v_fault, .ref q_sights, .int v_sightMany, .ref q_book, .int v_bookMany, .int v_at, .int v_begin, .int v_sign, .int v_figures, .int v_value, .int v_wrong, .ref q_went, .ref q_free, .ref q_stands])), (q_town, .inl (cI, 27, .inl v_town)), (q_now, .inl (cI, 19, .inl v_now))] H → va_D A [(q_this, .inr (12, [.ref q_town, .ref q_read, .ref q_now, .ref q_aside, .ref q_past, .int v_undos, .ref q_images, .ref q_kept, .long v_seed, .ref q_text, .int v_size, .int v_fault, .ref q_sights, .int v_sightMany, .ref q_book, .int v_bookMany, .int v_at, .int v_begin, .int v_sign, .int v_figures, .int v_value, .int v_wrong, .ref q_went, .ref q_free, .ref q_stands])), (q_town, .inl (cI, 27, .inl v_town)), (q_now, .inl (cI, 19, .inl v_now))] → va_S A s.heap H locs → lv_has ls 4 [(2, .int w4.1), (1, .int w4.2), (0, .ref q_this)] → W p l e (headSpec wsX12_fewest rmX12_fewest).room s m (([.ref q_this] : List Value).toArray) below meth c H locs 0 0 Q (F0 m 4 ls []) := by
    intro n
    induction n with
    | zero => intro w4 o4 h9; exact (oz_zero h9).elim
    | succ n ih =>
      intro w4 o4 h9 hexit H locs ls hP hD hS hl
      obtain ⟨r9, hrun, hnext⟩ := oz_step h9
      unfold fX12_fewest_b4 at hrun
      refine lv_iload_n hx hb dX12_fewest_4 rfl (lv_at hl 0 rfl) ?_
      refine lv_iconst (v := 1) hx hb dX12_fewest_5 (by decide) ?_
      refine lv_aload_n hx hb dX12_fewest_6 rfl (lv_at hl 2 rfl) ?_
      refine va_get (D := (dC, dI)) (ci := 12) (v := .ref q_town) (C := RX12) (T := TX12) (N := 25) hx hb hts hiX12 hown hK hP 0 rfl rfl 0 (by decide) hk7 (fun _ h9 => h9) rfl dX12_fewest_7 ?_
      refine lv_iconst (v := 2) hx hb dX12_fewest_10 (by decide) ?_
      refine va_iald hx hb hK hP 1 0 rfl rfl (show ¬ ((2 : Int32) < 0 ∨ 27 ≤ (2 : Int32).toNatClampNeg) by decide) dX12_fewest_11 ?_
      refine lv_ishl hx hb dX12_fewest_12 ?_
      refine lv_icmp_ge (tgt := 62) hx hb dX12_fewest_13 (by decide) (fun c1 => ?_) (fun c1 => ?_)
      · have hrun := oz_t hrun c1
        have hr9 := Option.some.inj hrun
        subst hr9
        have ho9 : (w4.1, w4.2) = o4 := hnext
        subst ho9
        exact hexit _ _ _ (hP.sub [0, 1, 2] rfl) (hD.sub [0, 1, 2] (by decide) rfl) hS (lv_sub hl [0, 1, 2] rfl)
      · have hrun := oz_f hrun c1
        refine lv_iload_n hx hb dX12_fewest_16 rfl (lv_at hl 1 rfl) ?_
        refine lv_iconst (v := (-1)) hx hb dX12_fewest_17 (by decide) ?_
        refine lv_icmp_eq (tgt := 32) hx hb dX12_fewest_18 (by decide) (fun c2 => ?_) (fun c2 => ?_)
        · have hrun := oz_t hrun c2
          refine lv_iconst (v := 1) hx hb dX12_fewest_32 (by decide) ?_
          refine lv_goto (tgt := 37) hx hb dX12_fewest_33 (by decide) ?_
          refine lv_istore_n (lv' := [(3, .int 1), (2, .int w4.1), (1, .int w4.2), (0, .ref q_this)]) hx hb dX12_fewest_37 rfl hl (by decide) rfl (fun ls hl => ?_)
          refine lv_iload_n hx hb dX12_fewest_38 rfl (lv_at hl 0 rfl) ?_
          refine lv_if_eq (tgt := 54) hx hb dX12_fewest_39 (by decide) (fun z9 => absurd z9 (by decide)) (fun _ => ?_)
          refine lv_aload_n hx hb dX12_fewest_42 rfl (lv_at hl 3 rfl) ?_
          refine lv_iload_n hx hb dX12_fewest_43 rfl (lv_at hl 1 rfl) ?_
          obtain ⟨y44, hc44, hrun⟩ := oz_bind hrun
          have hPc := hP.sub (ws' := [(q_this, .inr (12, [.ref q_town, .ref q_read, .ref q_now, .ref q_aside, .ref q_past, .int v_undos, .ref q_images, .ref q_kept, .long v_seed, .ref q_text, .int v_size, .int v_fault, .ref q_sights, .int v_sightMany, .ref q_book, .int v_bookMany, .int v_at, .int v_begin, .int v_sign, .int v_figures, .int v_value, .int v_wrong, .ref q_went, .ref q_free, .ref q_stands])), (q_town, .inl (cI, 27, .inl v_town)), (q_now, .inl (cI, 19, .inl v_now))]) [0, 1, 2] rfl
          have hDc := hD.sub (ws' := [(q_this, .inr (12, [.ref q_town, .ref q_read, .ref q_now, .ref q_aside, .ref q_past, .int v_undos, .ref q_images, .ref q_kept, .long v_seed, .ref q_text, .int v_size, .int v_fault, .ref q_sights, .int v_sightMany, .ref q_book, .int v_bookMany, .int v_at, .int v_begin, .int v_sign, .int v_figures, .int v_value, .int v_wrong, .ref q_went, .ref q_free, .ref q_stands])), (q_town, .inl (cI, 27, .inl v_town)), (q_now, .inl (cI, 19, .inl v_now))]) [0, 1, 2] (by decide) rfl
          have hFc := va_free (wc := [(q_this, .inr (12, [.ref q_town, .ref q_read, .ref q_now, .ref q_aside, .ref q_past, .int v_undos, .ref q_images, .ref q_kept, .long v_seed, .ref q_text, .int v_size, .int v_fault, .ref q_sights, .int v_sightMany, .ref q_book, .int v_bookMany, .int v_at, .int v_begin, .int v_sign, .int v_figures, .int v_value, .int v_wrong, .ref q_went, .ref q_free, .ref q_stands])), (q_town, .inl (cI, 27, .inl v_town)), (q_now, .inl (cI, 19, .inl v_now))]) hD hS hA [0, 1, 2] rfl
          refine va_calli (va_runV (As := [.int w4.1]) (rest := []) ⟨hx, hb, hml, hown, hts⟩ (tX12_bears l dC dI cI cZ q_aside q_book q_free q_images q_kept q_now q_past q_read q_sights q_stands q_text q_this q_town q_went H.size v_undos v_seed v_size v_fault v_sightMany v_bookMany v_at v_begin v_sign v_figures v_value v_wrong v_town v_now w4.1 y44 hc44) (cwV 1 hts gX12_fewest_X12_bears rfl rfl rfl (by decide +kernel) ⟨Nat.le_of_ble_eq_true rfl, Nat.le_of_ble_eq_true rfl⟩) ⟨fun a U g mk q => by obtain ⟨q0, q1, qP, qK, qD⟩ := q; exact ⟨q0, q1, qP, va_K.moved (u := U) (U := U.calling g mk a) (Vm.Alike.refl U.vm) qK, qD⟩, va_recv hK hPc (ci := 12) (q0 := 0) rfl rfl, fun U hU hW => ⟨rfl, by rw [hU], by rw [hU]; exact hPc, va_K.moved hW.alike hK, hDc.weaken (fun _ _ _ _ => trivial)⟩⟩ rfl rfl hl.1 rfl (lv_room (Nat.le_of_ble_eq_true rfl)) dX12_fewest_44 ⟨Nat.le_of_ble_eq_true rfl, Nat.le_of_ble_eq_true rfl⟩) hS (fun q _ h => hFc q h) hFc (fun r44 u9 t9 H1 locs ht9 hvm9 hw9 hB9 hz9 hkk9 hS => ?_)
          have hw9 : y44 = r44 := hw9.symm
          subst hw9
          obtain ⟨hP9, hK9, hD9⟩ := hB9
          rw [ht9] at hP9
          obtain ⟨hP, hD⟩ := va_join (wr := []) (w1 := [(q_this, .inr (12, [.ref q_town, .ref q_read, .ref q_now, .ref q_aside, .ref q_past, .int v_undos, .ref q_images, .ref q_kept, .long v_seed, .ref q_text, .int v_size, .int v_fault, .ref q_sights, .int v_sightMany, .ref q_book, .int v_bookMany, .int v_at, .int v_begin, .int v_sign, .int v_figures, .int v_value, .int v_wrong, .ref q_went, .ref q_free, .ref q_stands])), (q_town, .inl (cI, 27, .inl v_town)), (q_now, .inl (cI, 19, .inl v_now))]) hP hD [0, 1, 2] [] rfl rfl (by decide) (by decide) hkk9 hFc hP9 hD9
          generalize H1 = H at hP hS ⊢
          have hP : va_P (dC, dI) vwCl [(q_this, .inr (12, [.ref q_town, .ref q_read, .ref q_now, .ref q_aside, .ref q_past, .int v_undos, .ref q_images, .ref q_kept, .long v_seed, .ref q_text, .int v_size, .int v_fault, .ref q_sights, .int v_sightMany, .ref q_book, .int v_bookMany, .int v_at, .int v_begin, .int v_sign, .int v_figures, .int v_value, .int v_wrong, .ref q_went, .ref q_free, .ref q_stands])), (q_town, .inl (cI, 27, .inl v_town)), (q_now, .inl (cI, 19, .inl v_now))] H := hP
          have hD : va_D A [(q_this, .inr (12, [.ref q_town, .ref q_read, .ref q_now, .ref q_aside, .ref q_past, .int v_undos, .ref q_images, .ref q_kept, .long v_seed, .ref q_text, .int v_size, .int v_fault, .ref q_sights, .int v_sightMany, .ref q_book, .int v_bookMany, .int v_at, .int v_begin, .int v_sign, .int v_figures, .int v_value, .int v_wrong, .ref q_went, .ref q_free, .ref q_stands])), (q_town, .inl (cI, 27, .inl v_town)), (q_now, .inl (cI, 19, .inl v_now))] := hD
          refine lv_if_eq (tgt := 54) hx hb dX12_fewest_47 (by decide) (fun c3 => ?_) (fun c3 => ?_)
          · have hrun := oz_t hrun c3
            refine lv_iload_n hx hb dX12_fewest_54 rfl (lv_at hl 2 rfl) ?_
            refine lv_istore_n (lv' := [(1, .int w4.2), (3, .int 1), (2, .int w4.1), (0, .ref q_this)]) hx hb dX12_fewest_55 rfl hl (by decide) rfl (fun ls hl => ?_)
            refine lv_iinc (v := (w4.1 + 1)) (lv' := [(2, .int (w4.1 + 1)), (1, .int w4.2), (3, .int 1), (0, .ref q_this)]) hx hb dX12_fewest_56 hl (k := 2) rfl rfl (by decide) rfl (fun ls hl => ?_)
            refine lv_goto (tgt := 4) hx hb dX12_fewest_59 (by decide) ?_
            have hr9 := Option.some.inj hrun
            subst hr9
            exact ih ((w4.1 + 1), w4.2) _ hnext hexit _ _ _ (hP.sub [0, 1, 2] rfl) (hD.sub [0, 1, 2] (by decide) rfl) hS (lv_sub hl [0, 1, 3] rfl)
          · have hrun := oz_f hrun c3
            refine lv_iload_n hx hb dX12_fewest_50 rfl (lv_at hl 1 rfl) ?_
            refine lv_goto (tgt := 55) hx hb dX12_fewest_51 (by decide) ?_
            refine lv_istore_n (lv' := [(1, .int w4.1), (3, .int 1), (2, .int w4.1), (0, .ref q_this)]) hx hb dX12_fewest_55 rfl hl (by decide) rfl (fun ls hl => ?_)
            refine lv_iinc (v := (w4.1 + 1)) (lv' := [(2, .int (w4.1 + 1)), (1, .int w4.1), (3, .int 1), (0, .ref q_this)]) hx hb dX12_fewest_56 hl (k := 2) rfl rfl (by decide) rfl (fun ls hl => ?_)
            refine lv_goto (tgt := 4) hx hb dX12_fewest_59 (by decide) ?_
            have hr9 := Option.some.inj hrun
            subst hr9
            exact ih ((w4.1 + 1), w4.1) _ hnext hexit _ _ _ (hP.sub [0, 1, 2] rfl) (hD.sub [0, 1, 2] (by decide) rfl) hS (lv_sub hl [0, 1, 3] rfl)
        · have hrun := oz_f hrun c2
          refine lv_iload_n hx hb dX12_fewest_21 rfl (lv_at hl 0 rfl) ?_
          obtain ⟨y22, hc22, hrun⟩ := oz_bind hrun
          have hPc := hP.sub (ws' := []) [] rfl
          have hDc := hD.sub (ws' := []) [] (by decide) rfl
          have hFc := va_free (wc := []) hD hS hA [] rfl
          refine va_calli (va_runS (As := [.int w4.1]) (rest := []) ⟨hx, hb, hml, hown, hts⟩ (tX12_bits l dC dI cI cZ H.size w4.1 y22 hc22) (va_cwS 1 hts gX12_fewest_X12_bits rfl rfl rfl (by decide +kernel) ⟨Nat.le_of_ble_eq_true rfl, Nat.le_of_ble_eq_true rfl⟩) ⟨fun a U g mk q => by obtain ⟨q0, q1, qP, qK, qD⟩ := q; exact ⟨q0, q1, qP, va_K.moved (u := U) (U := U.calling g mk a) (Vm.Alike.refl U.vm) qK, qD⟩, fun U hU hW => ⟨rfl, by rw [hU], by rw [hU]; exact hPc, va_K.moved hW.alike hK, hDc.weaken (fun _ _ _ _ => trivial)⟩⟩ rfl rfl hl.1 rfl (lv_room (Nat.le_of_ble_eq_true rfl)) dX12_fewest_22 ⟨Nat.le_of_ble_eq_true rfl, Nat.le_of_ble_eq_true rfl⟩) hS (fun q _ h => hFc q h) hFc (fun r22 u9 t9 H1 locs ht9 hvm9 hw9 hB9 hz9 hkk9 hS => ?_)
          have hw9 : y22 = r22 := hw9.symm
          subst hw9
          obtain ⟨hP9, hK9, hD9⟩ := hB9
          rw [ht9] at hP9
          obtain ⟨hP, hD⟩ := va_join (wr := [(q_this, .inr (12, [.ref q_town, .ref q_read, .ref q_now, .ref q_aside, .ref q_past, .int v_undos, .ref q_images, .ref q_kept, .long v_seed, .ref q_text, .int v_size, .int v_fault, .ref q_sights, .int v_sightMany, .ref q_book, .int v_bookMany, .int v_at, .int v_begin, .int v_sign, .int v_figures, .int v_value, .int v_wrong, .ref q_went, .ref q_free, .ref q_stands])), (q_town, .inl (cI, 27, .inl v_town)), (q_now, .inl (cI, 19, .inl v_now))]) (w1 := []) hP hD [] [0, 1, 2] rfl rfl (by decide) (by decide) hkk9 hFc hP9 hD9
          generalize H1 = H at hP hS ⊢
          have hP : va_P (dC, dI) vwCl [(q_this, .inr (12, [.ref q_town, .ref q_read, .ref q_now, .ref q_aside, .ref q_past, .int v_undos, .ref q_images, .ref q_kept, .long v_seed, .ref q_text, .int v_size, .int v_fault, .ref q_sights, .int v_sightMany, .ref q_book, .int v_bookMany, .int v_at, .int v_begin, .int v_sign, .int v_figures, .int v_value, .int v_wrong, .ref q_went, .ref q_free, .ref q_stands])), (q_town, .inl (cI, 27, .inl v_town)), (q_now, .inl (cI, 19, .inl v_now))] H := hP
          have hD : va_D A [(q_this, .inr (12, [.ref q_town, .ref q_read, .ref q_now, .ref q_aside, .ref q_past, .int v_undos, .ref q_images, .ref q_kept, .long v_seed, .ref q_text, .int v_size, .int v_fault, .ref q_sights, .int v_sightMany, .ref q_book, .int v_bookMany, .int v_at, .int v_begin, .int v_sign, .int v_figures, .int v_value, .int v_wrong, .ref q_went, .ref q_free, .ref q_stands])), (q_town, .inl (cI, 27, .inl v_town)), (q_now, .inl (cI, 19, .inl v_now))] := hD
          refine lv_iload_n hx hb dX12_fewest_25 rfl (lv_at hl 1 rfl) ?_
          obtain ⟨y26, hc26, hrun⟩ := oz_bind hrun
          have hPc := hP.sub (ws' := []) [] rfl
          have hDc := hD.sub (ws' := []) [] (by decide) rfl
          have hFc := va_free (wc := []) hD hS hA [] rfl
          refine va_calli (va_runS (As := [.int w4.2]) (rest := [.int y22]) ⟨hx, hb, hml, hown, hts⟩ (tX12_bits l dC dI cI cZ H.size w4.2 y26 hc26) (va_cwS 1 hts gX12_fewest_X12_bits rfl rfl rfl (by decide +kernel) ⟨Nat.le_of_ble_eq_true rfl, Nat.le_of_ble_eq_true rfl⟩) ⟨fun a U g mk q => by obtain ⟨q0, q1, qP, qK, qD⟩ := q; exact ⟨q0, q1, qP, va_K.moved (u := U) (U := U.calling g mk a) (Vm.Alike.refl U.vm) qK, qD⟩, fun U hU hW => ⟨rfl, by rw [hU], by rw [hU]; exact hPc, va_K.moved hW.alike hK, hDc.weaken (fun _ _ _ _ => trivial)⟩⟩ rfl rfl hl.1 rfl (lv_room (Nat.le_of_ble_eq_true rfl)) dX12_fewest_26 ⟨Nat.le_of_ble_eq_true rfl, Nat.le_of_ble_eq_true rfl⟩) hS (fun q _ h => hFc q h) hFc (fun r26 u9 t9 H1 locs ht9 hvm9 hw9 hB9 hz9 hkk9 hS => ?_)
          have hw9 : y26 = r26 := hw9.symm
          subst hw9
          obtain ⟨hP9, hK9, hD9⟩ := hB9
          rw [ht9] at hP9
          obtain ⟨hP, hD⟩ := va_join (wr := [(q_this, .inr (12, [.ref q_town, .ref q_read, .ref q_now, .ref q_aside, .ref q_past, .int v_undos, .ref q_images, .ref q_kept, .long v_seed, .ref q_text, .int v_size, .int v_fault, .ref q_sights, .int v_sightMany, .ref q_book, .int v_bookMany, .int v_at, .int v_begin, .int v_sign, .int v_figures, .int v_value, .int v_wrong, .ref q_went, .ref q_free, .ref q_stands])), (q_town, .inl (cI, 27, .inl v_town)), (q_now, .inl (cI, 19, .inl v_now))]) (w1 := []) hP hD [] [0, 1, 2] rfl rfl (by decide) (by decide) hkk9 hFc hP9 hD9
          generalize H1 = H at hP hS ⊢
          have hP : va_P (dC, dI) vwCl [(q_this, .inr (12, [.ref q_town, .ref q_read, .ref q_now, .ref q_aside, .ref q_past, .int v_undos, .ref q_images, .ref q_kept, .long v_seed, .ref q_text, .int v_size, .int v_fault, .ref q_sights, .int v_sightMany, .ref q_book, .int v_bookMany, .int v_at, .int v_begin, .int v_sign, .int v_figures, .int v_value, .int v_wrong, .ref q_went, .ref q_free, .ref q_stands])), (q_town, .inl (cI, 27, .inl v_town)), (q_now, .inl (cI, 19, .inl v_now))] H := hP
          have hD : va_D A [(q_this, .inr (12, [.ref q_town, .ref q_read, .ref q_now, .ref q_aside, .ref q_past, .int v_undos, .ref q_images, .ref q_kept, .long v_seed, .ref q_text, .int v_size, .int v_fault, .ref q_sights, .int v_sightMany, .ref q_book, .int v_bookMany, .int v_at, .int v_begin, .int v_sign, .int v_figures, .int v_value, .int v_wrong, .ref q_went, .ref q_free, .ref q_stands])), (q_town, .inl (cI, 27, .inl v_town)), (q_now, .inl (cI, 19, .inl v_now))] := hD
          refine lv_icmp_ge (tgt := 36) hx hb dX12_fewest_29 (by decide) (fun c4 => ?_) (fun c4 => ?_)
          · have hrun := oz_t hrun c4
            refine lv_iconst (v := 0) hx hb dX12_fewest_36 (by decide) ?_
            refine lv_istore_n (lv' := [(3, .int 0), (2, .int w4.1), (1, .int w4.2), (0, .ref q_this)]) hx hb dX12_fewest_37 rfl hl (by decide) rfl (fun ls hl => ?_)
            refine lv_iload_n hx hb dX12_fewest_38 rfl (lv_at hl 0 rfl) ?_
            refine lv_if_eq (tgt := 54) hx hb dX12_fewest_39 (by decide) (fun _ => ?_) (fun z9 => absurd (by decide) z9)
            refine lv_iload_n hx hb dX12_fewest_54 rfl (lv_at hl 2 rfl) ?_
            refine lv_istore_n (lv' := [(1, .int w4.2), (3, .int 0), (2, .int w4.1), (0, .ref q_this)]) hx hb dX12_fewest_55 rfl hl (by decide) rfl (fun ls hl => ?_)
            refine lv_iinc (v := (w4.1 + 1)) (lv' := [(2, .int (w4.1 + 1)), (1, .int w4.2), (3, .int 0), (0, .ref q_this)]) hx hb dX12_fewest_56 hl (k := 2) rfl rfl (by decide) rfl (fun ls hl => ?_)
            refine lv_goto (tgt := 4) hx hb dX12_fewest_59 (by decide) ?_
            have hr9 := Option.some.inj hrun
            subst hr9
            exact ih ((w4.1 + 1), w4.2) _ hnext hexit _ _ _ (hP.sub [0, 1, 2] rfl) (hD.sub [0, 1, 2] (by decide) rfl) hS (lv_sub hl [0, 1, 3] rfl)
          · have hrun := oz_f hrun c4
            refine lv_iconst (v := 1) hx hb dX12_fewest_32 (by decide) ?_
            refine lv_goto (tgt := 37) hx hb dX12_fewest_33 (by decide) ?_
            refine lv_istore_n (lv' := [(3, .int 1), (2, .int w4.1), (1, .int w4.2), (0, .ref q_this)]) hx hb dX12_fewest_37 rfl hl (by decide) rfl (fun ls hl => ?_)
            refine lv_iload_n hx hb dX12_fewest_38 rfl (lv_at hl 0 rfl) ?_
            refine lv_if_eq (tgt := 54) hx hb dX12_fewest_39 (by decide) (fun z9 => absurd z9 (by decide)) (fun _ => ?_)
            refine lv_aload_n hx hb dX12_fewest_42 rfl (lv_at hl 3 rfl) ?_
            refine lv_iload_n hx hb dX12_fewest_43 rfl (lv_at hl 1 rfl) ?_
            obtain ⟨y44, hc44, hrun⟩ := oz_bind hrun
            have hPc := hP.sub (ws' := [(q_this, .inr (12, [.ref q_town, .ref q_read, .ref q_now, .ref q_aside, .ref q_past, .int v_undos, .ref q_images, .ref q_kept, .long v_seed, .ref q_text, .int v_size, .int v_fault, .ref q_sights, .int v_sightMany, .ref q_book, .int v_bookMany, .int v_at, .int v_begin, .int v_sign, .int v_figures, .int v_value, .int v_wrong, .ref q_went, .ref q_free, .ref q_stands])), (q_town, .inl (cI, 27, .inl v_town)), (q_now, .inl (cI, 19, .inl v_now))]) [0, 1, 2] rfl
            have hDc := hD.sub (ws' := [(q_this, .inr (12, [.ref q_town, .ref q_read, .ref q_now, .ref q_aside, .ref q_past, .int v_undos, .ref q_images, .ref q_kept, .long v_seed, .ref q_text, .int v_size, .int v_fault, .ref q_sights, .int v_sightMany, .ref q_book, .int v_bookMany, .int v_at, .int v_begin, .int v_sign, .int v_figures, .int v_value, .int v_wrong, .ref q_went, .ref q_free, .ref q_stands])), (q_town, .inl (cI, 27, .inl v_town)), (q_now, .inl (cI, 19, .inl v_now))]) [0, 1, 2] (by decide) rfl
            have hFc := va_free (wc := [(q_this, .inr (12, [.ref q_town, .ref q_read, .ref q_now, .ref q_aside, .ref q_past, .int v_undos, .ref q_images, .ref q_kept, .long v_seed, .ref q_text, .int v_size, .int v_fault, .ref q_sights, .int v_sightMany, .ref q_book, .int v_bookMany, .int v_at, .int v_begin, .int v_sign, .int v_figures, .int v_value, .int v_wrong, .ref q_went, .ref q_free, .ref q_stands])), (q_town, .inl (cI, 27, .inl v_town)), (q_now, .inl (cI, 19, .inl v_now))]) hD hS hA [0, 1, 2] rfl
            refine va_calli (va_runV (As := [.int w4.1]) (rest := []) ⟨hx, hb, hml, hown, hts⟩ (tX12_bears l dC dI cI cZ q_aside q_book q_free q_images q_kept q_now q_past q_read q_sights q_stands q_text q_this q_town q_went H.size v_undos v_seed v_size v_fault v_sightMany v_bookMany v_at v_begin v_sign v_figures v_value v_wrong v_town v_now w4.1 y44 hc44) (cwV 1 hts gX12_fewest_X12_bears rfl rfl rfl (by decide +kernel) ⟨Nat.le_of_ble_eq_true rfl, Nat.le_of_ble_eq_true rfl⟩) ⟨fun a U g mk q => by obtain ⟨q0, q1, qP, qK, qD⟩ := q; exact ⟨q0, q1, qP, va_K.moved (u := U) (U := U.calling g mk a) (Vm.Alike.refl U.vm) qK, qD⟩, va_recv hK hPc (ci := 12) (q0 := 0) rfl rfl, fun U hU hW => ⟨rfl, by rw [hU], by rw [hU]; exact hPc, va_K.moved hW.alike hK, hDc.weaken (fun _ _ _ _ => trivial)⟩⟩ rfl rfl hl.1 rfl (lv_room (Nat.le_of_ble_eq_true rfl)) dX12_fewest_44 ⟨Nat.le_of_ble_eq_true rfl, Nat.le_of_ble_eq_true rfl⟩) hS (fun q _ h => hFc q h) hFc (fun r44 u9 t9 H1 locs ht9 hvm9 hw9 hB9 hz9 hkk9 hS => ?_)
            have hw9 : y44 = r44 := hw9.symm
            subst hw9
            obtain ⟨hP9, hK9, hD9⟩ := hB9
            rw [ht9] at hP9
            obtain ⟨hP, hD⟩ := va_join (wr := []) (w1 := [(q_this, .inr (12, [.ref q_town, .ref q_read, .ref q_now, .ref q_aside, .ref q_past, .int v_undos, .ref q_images, .ref q_kept, .long v_seed, .ref q_text, .int v_size, .int v_fault, .ref q_sights, .int v_sightMany, .ref q_book, .int v_bookMany, .int v_at, .int v_begin, .int v_sign, .int v_figures, .int v_value, .int v_wrong, .ref q_went, .ref q_free, .ref q_stands])), (q_town, .inl (cI, 27, .inl v_town)), (q_now, .inl (cI, 19, .inl v_now))]) hP hD [0, 1, 2] [] rfl rfl (by decide) (by decide) hkk9 hFc hP9 hD9
            generalize H1 = H at hP hS ⊢
            have hP : va_P (dC, dI) vwCl [(q_this, .inr (12, [.ref q_town, .ref q_read, .ref q_now, .ref q_aside, .ref q_past, .int v_undos, .ref q_images, .ref q_kept, .long v_seed, .ref q_text, .int v_size, .int v_fault, .ref q_sights, .int v_sightMany, .ref q_book, .int v_bookMany, .int v_at, .int v_begin, .int v_sign, .int v_figures, .int v_value, .int v_wrong, .ref q_went, .ref q_free, .ref q_stands])), (q_town, .inl (cI, 27, .inl v_town)), (q_now, .inl (cI, 19, .inl v_now))] H := hP
            have hD : va_D A [(q_this, .inr (12, [.ref q_town, .ref q_read, .ref q_now, .ref q_aside, .ref q_past, .int v_undos, .ref q_images, .ref q_kept, .long v_seed, .ref q_text, .int v_size, .int v_fault, .ref q_sights, .int v_sightMany, .ref q_book, .int v_bookMany, .int v_at, .int v_begin, .int v_sign, .int v_figures, .int v_value, .int v_wrong, .ref q_went, .ref q_free, .ref q_stands])), (q_town, .inl (cI, 27, .inl v_town)), (q_now, .inl (cI, 19, .inl v_now))] := hD
            refine lv_if_eq (tgt := 54) hx hb dX12_fewest_47 (by decide) (fun c5 => ?_) (fun c5 => ?_)
            · have hrun := oz_t hrun c5
              refine lv_iload_n hx hb dX12_fewest_54 rfl (lv_at hl 2 rfl) ?_
              refine lv_istore_n (lv' := [(1, .int w4.2), (3, .int 1), (2, .int w4.1), (0, .ref q_this)]) hx hb dX12_fewest_55 rfl hl (by decide) rfl (fun ls hl => ?_)
              refine lv_iinc (v := (w4.1 + 1)) (lv' := [(2, .int (w4.1 + 1)), (1, .int w4.2), (3, .int 1), (0, .ref q_this)]) hx hb dX12_fewest_56 hl (k := 2) rfl rfl (by decide) rfl (fun ls hl => ?_)
              refine lv_goto (tgt := 4) hx hb dX12_fewest_59 (by decide) ?_
              have hr9 := Option.some.inj hrun
              subst hr9
              exact ih ((w4.1 + 1), w4.2) _ hnext hexit _ _ _ (hP.sub [0, 1, 2] rfl) (hD.sub [0, 1, 2] (by decide) rfl) hS (lv_sub hl [0, 1, 3] rfl)
            · have hrun := oz_f hrun c5
              refine lv_iload_n hx hb dX12_fewest_50 rfl (lv_at hl 1 rfl) ?_
              refine lv_goto (tgt := 55) hx hb dX12_fewest_51 (by decide) ?_
              refine lv_istore_n (lv' := [(1, .int w4.1), (3, .int 1), (2, .int w4.1), (0, .ref q_this)]) hx hb dX12_fewest_55 rfl hl (by decide) rfl (fun ls hl => ?_)
              refine lv_iinc (v := (w4.1 + 1)) (lv' := [(2, .int (w4.1 + 1)), (1, .int w4.1), (3, .int 1), (0, .ref q_this)]) hx hb dX12_fewest_56 hl (k := 2) rfl rfl (by decide) rfl (fun ls hl => ?_)
              refine lv_goto (tgt := 4) hx hb dX12_fewest_59 (by decide) ?_
              have hr9 := Option.some.inj hrun
              subst hr9
              exact ih ((w4.1 + 1), w4.1) _ hnext hexit _ _ _ (hP.sub [0, 1, 2] rfl) (hD.sub [0, 1, 2] (by decide) rfl) hS (lv_sub hl [0, 1, 3] rfl)
  refine hL4 oz_fuel (0, (-1)) o4 hlp4 (fun H locs ls hP hD hS hl => ?_) _ _ _ (hP.sub [0, 1, 2] rfl) (hD.sub [0, 1, 2] (by decide) rfl) hS (lv_sub hl [0, 1, 2] rfl)
  have hP : va_P (dC, dI) vwCl [(q_this, .inr (12, [.ref q_town, .ref q_read, .ref q_now, .ref q_aside, .ref q_past, .int v_undos, .ref q_images, .ref q_kept, .long v_seed, .ref q_text, .int v_size, .int v_fault, .ref q_sights, .int v_sightMany, .ref q_book, .int v_bookMany, .int v_at, .int v_begin, .int v_sign, .int v_figures, .int v_value, .int v_wrong, .ref q_went, .ref q_free, .ref q_stands])), (q_town, .inl (cI, 27, .inl v_town)), (q_now, .inl (cI, 19, .inl v_now))] H := hP
  have hD : va_D A [(q_this, .inr (12, [.ref q_town, .ref q_read, .ref q_now, .ref q_aside, .ref q_past, .int v_undos, .ref q_images, .ref q_kept, .long v_seed, .ref q_text, .int v_size, .int v_fault, .ref q_sights, .int v_sightMany, .ref q_book, .int v_bookMany, .int v_at, .int v_begin, .int v_sign, .int v_figures, .int v_value, .int v_wrong, .ref q_went, .ref q_free, .ref q_stands])), (q_town, .inl (cI, 27, .inl v_town)), (q_now, .inl (cI, 19, .inl v_now))] := hD
  have hl : lv_has ls 4 [(2, .int o4.1), (1, .int o4.2), (0, .ref q_this)] := hl
  refine lv_iload_n hx hb dX12_fewest_62 rfl (lv_at hl 1 rfl) ?_
  have ho9 := Option.some.inj hrun
  subst ho9
  have hP9 := hP.sub (ws' := [(q_this, .inr (12, [.ref q_town, .ref q_read, .ref q_now, .ref q_aside, .ref q_past, .int v_undos, .ref q_images, .ref q_kept, .long v_seed, .ref q_text, .int v_size, .int v_fault, .ref q_sights, .int v_sightMany, .ref q_book, .int v_bookMany, .int v_at, .int v_begin, .int v_sign, .int v_figures, .int v_value, .int v_wrong, .ref q_went, .ref q_free, .ref q_stands])), (q_town, .inl (cI, 27, .inl v_town)), (q_now, .inl (cI, 19, .inl v_now))]) [0, 1, 2] rfl
  have hD9 := hD.sub (ws' := [(q_this, .inr (12, [.ref q_town, .ref q_read, .ref q_now, .ref q_aside, .ref q_past, .int v_undos, .ref q_images, .ref q_kept, .long v_seed, .ref q_text, .int v_size, .int v_fault, .ref q_sights, .int v_sightMany, .ref q_book, .int v_bookMany, .int v_at, .int v_begin, .int v_sign, .int v_figures, .int v_value, .int v_wrong, .ref q_went, .ref q_free, .ref q_stands])), (q_town, .inl (cI, 27, .inl v_town)), (q_now, .inl (cI, 19, .inl v_now))]) [0, 1, 2] (by decide) rfl
  rw [hQ]
  exact W.iret (v := o4.2) hx hb hr (fun t ht hW => ⟨⟨o4.2, (), rfl, rfl, by rw [ht]; exact hP9, va_K.moved hW.alike hK, hD9⟩, hS.F ht⟩) hS.2.2 dX12_fewest_63
def fX12_held_b4 (v_town : Nat → Int32) (v_now : Nat → Int32) (w4 : Int32 × (Nat → Int32)) : Option ((Int32 × (Nat → Int32)) ⊕ (Int32 × (Nat → Int32))) :=
  if (v_town (Int32.toNatClampNeg 2)) ≤ w4.1 then (some (.inr (w4.1, w4.2))) else (if ((3 + w4.1) < 0 ∨ 27 ≤ Int32.toNatClampNeg (3 + w4.1)) then none else if ((0 + w4.1) < 0 ∨ 19 ≤ Int32.toNatClampNeg (0 + w4.1)) then none else Option.bind (fX12_daysOfLent v_town v_now) (fun y37 => if ((11 + w4.1) < 0 ∨ 27 ≤ Int32.toNatClampNeg (11 + w4.1)) then none else if (w4.1 < 0 ∨ 8 ≤ Int32.toNatClampNeg w4.1) then none else some (.inl ((w4.1 + 1), (upd w4.2 (Int32.toNatClampNeg w4.1) (((v_town (Int32.toNatClampNeg (3 + w4.1))) - (v_now (Int32.toNatClampNeg (0 + w4.1)))) - (y37 * (v_town (Int32.toNatClampNeg (11 + w4.1))))))))))
def fX12_held_b67 (v_town : Nat → Int32) (w67 : Int32 × Int32 × (Nat → Int32)) : Option ((Int32 × Int32 × (Nat → Int32)) ⊕ (Int32 × Int32 × (Nat → Int32))) :=
  if w67.1 < 0 then (some (.inr (w67.1, w67.2.1, w67.2.2))) else (if ((19 + w67.1) < 0 ∨ 27 ≤ Int32.toNatClampNeg (19 + w67.1)) then none else if (v_town (Int32.toNatClampNeg (19 + w67.1))) = (-1) then (some (.inl ((w67.1 + (-1)), w67.2.1, w67.2.2))) else (if (w67.1 < 0 ∨ 8 ≤ Int32.toNatClampNeg w67.1) then none else if 0 ≤ (w67.2.2 (Int32.toNatClampNeg w67.1)) then (if (w67.2.2 (Int32.toNatClampNeg w67.1)) ≤ 0 then (if ((v_town (Int32.toNatClampNeg (19 + w67.1))) < 0 ∨ 8 ≤ Int32.toNatClampNeg (v_town (Int32.toNatClampNeg (19 + w67.1)))) then none else some (.inl ((w67.1 + (-1)), (w67.2.1 + (0 + 0)), (upd (upd w67.2.2 (Int32.toNatClampNeg (v_town (Int32.toNatClampNeg (19 + w67.1)))) ((w67.2.2 (Int32.toNatClampNeg (v_town (Int32.toNatClampNeg (19 + w67.1))))) + (0 - 0))) (Int32.toNatClampNeg w67.1) (((upd w67.2.2 (Int32.toNatClampNeg (v_town (Int32.toNatClampNeg (19 + w67.1)))) ((w67.2.2 (Int32.toNatClampNeg (v_town (Int32.toNatClampNeg (19 + w67.1))))) + (0 - 0))) (Int32.toNatClampNeg w67.1)) + (0 - 0)))))) else (if ((v_town (Int32.toNatClampNeg (19 + w67.1))) < 0 ∨ 8 ≤ Int32.toNatClampNeg (v_town (Int32.toNatClampNeg (19 + w67.1)))) then none else if 0 ≤ (w67.2.2 (Int32.toNatClampNeg (v_town (Int32.toNatClampNeg (19 + w67.1))))) then (some (.inl ((w67.1 + (-1)), (w67.2.1 + (0 + 0)), (upd (upd w67.2.2 (Int32.toNatClampNeg (v_town (Int32.toNatClampNeg (19 + w67.1)))) ((w67.2.2 (Int32.toNatClampNeg (v_town (Int32.toNatClampNeg (19 + w67.1))))) + (0 - 0))) (Int32.toNatClampNeg w67.1) (((upd w67.2.2 (Int32.toNatClampNeg (v_town (Int32.toNatClampNeg (19 + w67.1)))) ((w67.2.2 (Int32.toNatClampNeg (v_town (Int32.toNatClampNeg (19 + w67.1))))) + (0 - 0))) (Int32.toNatClampNeg w67.1)) + (0 - 0)))))) else (Option.bind (fX12_lesser (w67.2.2 (Int32.toNatClampNeg w67.1)) (-(w67.2.2 (Int32.toNatClampNeg (v_town (Int32.toNatClampNeg (19 + w67.1))))))) (fun y157 => some (.inl ((w67.1 + (-1)), (w67.2.1 + (0 + y157)), (upd (upd w67.2.2 (Int32.toNatClampNeg (v_town (Int32.toNatClampNeg (19 + w67.1)))) ((w67.2.2 (Int32.toNatClampNeg (v_town (Int32.toNatClampNeg (19 + w67.1))))) + (y157 - 0))) (Int32.toNatClampNeg w67.1) (((upd w67.2.2 (Int32.toNatClampNeg (v_town (Int32.toNatClampNeg (19 + w67.1)))) ((w67.2.2 (Int32.toNatClampNeg (v_town (Int32.toNatClampNeg (19 + w67.1))))) + (y157 - 0))) (Int32.toNatClampNeg w67.1)) + (0 - y157))))))))) else (if ((v_town (Int32.toNatClampNeg (19 + w67.1))) < 0 ∨ 8 ≤ Int32.toNatClampNeg (v_town (Int32.toNatClampNeg (19 + w67.1)))) then none else if (w67.2.2 (Int32.toNatClampNeg (v_town (Int32.toNatClampNeg (19 + w67.1))))) ≤ 0 then (if (w67.2.2 (Int32.toNatClampNeg w67.1)) ≤ 0 then (some (.inl ((w67.1 + (-1)), (w67.2.1 + (0 + 0)), (upd (upd w67.2.2 (Int32.toNatClampNeg (v_town (Int32.toNatClampNeg (19 + w67.1)))) ((w67.2.2 (Int32.toNatClampNeg (v_town (Int32.toNatClampNeg (19 + w67.1))))) + (0 - 0))) (Int32.toNatClampNeg w67.1) (((upd w67.2.2 (Int32.toNatClampNeg (v_town (Int32.toNatClampNeg (19 + w67.1)))) ((w67.2.2 (Int32.toNatClampNeg (v_town (Int32.toNatClampNeg (19 + w67.1))))) + (0 - 0))) (Int32.toNatClampNeg w67.1)) + (0 - 0)))))) else (if 0 ≤ (w67.2.2 (Int32.toNatClampNeg (v_town (Int32.toNatClampNeg (19 + w67.1))))) then (some (.inl ((w67.1 + (-1)), (w67.2.1 + (0 + 0)), (upd (upd w67.2.2 (Int32.toNatClampNeg (v_town (Int32.toNatClampNeg (19 + w67.1)))) ((w67.2.2 (Int32.toNatClampNeg (v_town (Int32.toNatClampNeg (19 + w67.1))))) + (0 - 0))) (Int32.toNatClampNeg w67.1) (((upd w67.2.2 (Int32.toNatClampNeg (v_town (Int32.toNatClampNeg (19 + w67.1)))) ((w67.2.2 (Int32.toNatClampNeg (v_town (Int32.toNatClampNeg (19 + w67.1))))) + (0 - 0))) (Int32.toNatClampNeg w67.1)) + (0 - 0)))))) else (Option.bind (fX12_lesser (w67.2.2 (Int32.toNatClampNeg w67.1)) (-(w67.2.2 (Int32.toNatClampNeg (v_town (Int32.toNatClampNeg (19 + w67.1))))))) (fun y157 => some (.inl ((w67.1 + (-1)), (w67.2.1 + (0 + y157)), (upd (upd w67.2.2 (Int32.toNatClampNeg (v_town (Int32.toNatClampNeg (19 + w67.1)))) ((w67.2.2 (Int32.toNatClampNeg (v_town (Int32.toNatClampNeg (19 + w67.1))))) + (y157 - 0))) (Int32.toNatClampNeg w67.1) (((upd w67.2.2 (Int32.toNatClampNeg (v_town (Int32.toNatClampNeg (19 + w67.1)))) ((w67.2.2 (Int32.toNatClampNeg (v_town (Int32.toNatClampNeg (19 + w67.1))))) + (y157 - 0))) (Int32.toNatClampNeg w67.1)) + (0 - y157))))))))) else (Option.bind (fX12_lesser (-(w67.2.2 (Int32.toNatClampNeg w67.1))) (w67.2.2 (Int32.toNatClampNeg (v_town (Int32.toNatClampNeg (19 + w67.1)))))) (fun y117 => if (w67.2.2 (Int32.toNatClampNeg w67.1)) ≤ 0 then (some (.inl ((w67.1 + (-1)), (w67.2.1 + (y117 + 0)), (upd (upd w67.2.2 (Int32.toNatClampNeg (v_town (Int32.toNatClampNeg (19 + w67.1)))) ((w67.2.2 (Int32.toNatClampNeg (v_town (Int32.toNatClampNeg (19 + w67.1))))) + (0 - y117))) (Int32.toNatClampNeg w67.1) (((upd w67.2.2 (Int32.toNatClampNeg (v_town (Int32.toNatClampNeg (19 + w67.1)))) ((w67.2.2 (Int32.toNatClampNeg (v_town (Int32.toNatClampNeg (19 + w67.1))))) + (0 - y117))) (Int32.toNatClampNeg w67.1)) + (y117 - 0)))))) else (if 0 ≤ (w67.2.2 (Int32.toNatClampNeg (v_town (Int32.toNatClampNeg (19 + w67.1))))) then (some (.inl ((w67.1 + (-1)), (w67.2.1 + (y117 + 0)), (upd (upd w67.2.2 (Int32.toNatClampNeg (v_town (Int32.toNatClampNeg (19 + w67.1)))) ((w67.2.2 (Int32.toNatClampNeg (v_town (Int32.toNatClampNeg (19 + w67.1))))) + (0 - y117))) (Int32.toNatClampNeg w67.1) (((upd w67.2.2 (Int32.toNatClampNeg (v_town (Int32.toNatClampNeg (19 + w67.1)))) ((w67.2.2 (Int32.toNatClampNeg (v_town (Int32.toNatClampNeg (19 + w67.1))))) + (0 - y117))) (Int32.toNatClampNeg w67.1)) + (y117 - 0)))))) else (Option.bind (fX12_lesser (w67.2.2 (Int32.toNatClampNeg w67.1)) (-(w67.2.2 (Int32.toNatClampNeg (v_town (Int32.toNatClampNeg (19 + w67.1))))))) (fun y157 => some (.inl ((w67.1 + (-1)), (w67.2.1 + (y117 + y157)), (upd (upd w67.2.2 (Int32.toNatClampNeg (v_town (Int32.toNatClampNeg (19 + w67.1)))) ((w67.2.2 (Int32.toNatClampNeg (v_town (Int32.toNatClampNeg (19 + w67.1))))) + (y157 - y117))) (Int32.toNatClampNeg w67.1) (((upd w67.2.2 (Int32.toNatClampNeg (v_town (Int32.toNatClampNeg (19 + w67.1)))) ((w67.2.2 (Int32.toNatClampNeg (v_town (Int32.toNatClampNeg (19 + w67.1))))) + (y157 - y117))) (Int32.toNatClampNeg w67.1)) + (y117 - y157)))))))))))))
def fX12_held (v_town : Nat → Int32) (v_now : Nat → Int32) (v_free : Nat → Int32) : Option (Int32 × (Nat → Int32)) :=
  Option.bind (oz_loop (fX12_held_b4 v_town v_now) oz_fuel (0, v_free)) (fun o4 => Option.bind (oz_loop (fX12_held_b67 v_town) oz_fuel (((v_town (Int32.toNatClampNeg 2)) - 1), 0, o4.2)) (fun o67 => some (o67.2.1, o67.2.2)))
def rmX12_held : Room := { frames := 2, cells := 0, slots := 0, locals := 41 }
set_option maxHeartbeats 4000000 in
set_option maxRecDepth 100000 in
theorem tX12_held (l : Launch) (dC : Nat → ClassId) (dI : Nat → Nat → Nat) (cI cZ : ClassId) (q_aside q_book q_free q_images q_kept q_now q_past q_read q_sights q_stands q_text q_this q_town q_went : Nat) (sz : Nat) (v_undos : Int32) (v_seed : Int64) (v_size : Int32) (v_fault : Int32) (v_sightMany : Int32) (v_bookMany : Int32) (v_at : Int32) (v_begin : Int32) (v_sign : Int32) (v_figures : Int32) (v_value : Int32) (v_wrong : Int32) (v_town : Nat → Int32) (v_now : Nat → Int32) (v_free : Nat → Int32) (out : Int32 × (Nat → Int32)) (hrun : fX12_held v_town v_now v_free = some out) : Met l yX12_held wsX12_held rmX12_held (va_Pc [.ref q_this] (fun U => U.heap.size = sz ∧ va_P (dC, dI) vwCl [(q_this, .inr (12, [.ref q_town, .ref q_read, .ref q_now, .ref q_aside, .ref q_past, .int v_undos, .ref q_images, .ref q_kept, .long v_seed, .ref q_text, .int v_size, .int v_fault, .ref q_sights, .int v_sightMany, .ref q_book, .int v_bookMany, .int v_at, .int v_begin, .int v_sign, .int v_figures, .int v_value, .int v_wrong, .ref q_went, .ref q_free, .ref q_stands])), (q_town, .inl (cI, 27, .inl v_town)), (q_now, .inl (cI, 19, .inl v_now)), (q_free, .inl (cI, 8, .inl v_free))] U.heap ∧ va_K (dC, dI) vwCl [(cI, .int), (cZ, .boolean)] U ∧ va_D (fun _ => True) [(q_this, .inr (12, [.ref q_town, .ref q_read, .ref q_now, .ref q_aside, .ref q_past, .int v_undos, .ref q_images, .ref q_kept, .long v_seed, .ref q_text, .int v_size, .int v_fault, .ref q_sights, .int v_sightMany, .ref q_book, .int v_bookMany, .int v_at, .int v_begin, .int v_sign, .int v_figures, .int v_value, .int v_wrong, .ref q_went, .ref q_free, .ref q_stands])), (q_town, .inl (cI, 27, .inl v_town)), (q_now, .inl (cI, 19, .inl v_now)), (q_free, .inl (cI, 8, .inl v_free))])) (va_Qi (fun (r : Int32) (_ : Unit) => r = out.1) (fun _ t => va_P (dC, dI) vwCl [(q_this, .inr (12, [.ref q_town, .ref q_read, .ref q_now, .ref q_aside, .ref q_past, .int v_undos, .ref q_images, .ref q_kept, .long v_seed, .ref q_text, .int v_size, .int v_fault, .ref q_sights, .int v_sightMany, .ref q_book, .int v_bookMany, .int v_at, .int v_begin, .int v_sign, .int v_figures, .int v_value, .int v_wrong, .ref q_went, .ref q_free, .ref q_stands])), (q_town, .inl (cI, 27, .inl v_town)), (q_now, .inl (cI, 19, .inl v_now)), (q_free, .inl (cI, 8, .inl out.2))] t.heap ∧ va_K (dC, dI) vwCl [(cI, .int), (cZ, .boolean)] t ∧ va_D (va_A [(q_this, .inr (12, [.ref q_town, .ref q_read, .ref q_now, .ref q_aside, .ref q_past, .int v_undos, .ref q_images, .ref q_kept, .long v_seed, .ref q_text, .int v_size, .int v_fault, .ref q_sights, .int v_sightMany, .ref q_book, .int v_bookMany, .int v_at, .int v_begin, .int v_sign, .int v_figures, .int v_value, .int v_wrong, .ref q_went, .ref q_free, .ref q_stands])), (q_town, .inl (cI, 27, .inl v_town)), (q_now, .inl (cI, 19, .inl v_now)), (q_free, .inl (cI, 8, .inl v_free))] sz) [(q_this, .inr (12, [.ref q_town, .ref q_read, .ref q_now, .ref q_aside, .ref q_past, .int v_undos, .ref q_images, .ref q_kept, .long v_seed, .ref q_text, .int v_size, .int v_fault, .ref q_sights, .int v_sightMany, .ref q_book, .int v_bookMany, .int v_at, .int v_begin, .int v_sign, .int v_figures, .int v_value, .int v_wrong, .ref q_went, .ref q_free, .ref q_stands])), (q_town, .inl (cI, 27, .inl v_town)), (q_now, .inl (cI, 19, .inl v_now)), (q_free, .inl (cI, 8, .inl out.2))]) (va_A [(q_this, .inr (12, [.ref q_town, .ref q_read, .ref q_now, .ref q_aside, .ref q_past, .int v_undos, .ref q_images, .ref q_kept, .long v_seed, .ref q_text, .int v_size, .int v_fault, .ref q_sights, .int v_sightMany, .ref q_book, .int v_bookMany, .int v_at, .int v_begin, .int v_sign, .int v_figures, .int v_value, .int v_wrong, .ref q_went, .ref q_free, .ref q_stands])), (q_town, .inl (cI, 27, .inl v_town)), (q_now, .inl (cI, 19, .inl v_now)), (q_free, .inl (cI, 8, .inl v_free))] sz)) 0 0 (va_A [(q_this, .inr (12, [.ref q_town, .ref q_read, .ref q_now, .ref q_aside, .ref q_past, .int v_undos, .ref q_images, .ref q_kept, .long v_seed, .ref q_text, .int v_size, .int v_fault, .ref q_sights, .int v_sightMany, .ref q_book, .int v_bookMany, .int v_at, .int v_begin, .int v_sign, .int v_figures, .int v_value, .int v_wrong, .ref q_went, .ref q_free, .ref q_stands])), (q_town, .inl (cI, 27, .inl v_town)), (q_now, .inl (cI, 19, .inl v_now)), (q_free, .inl (cI, 8, .inl v_free))] sz) := by
  refine Met.ofW (cc := cX12_held) (maxL := 6) (ret := (some .int)) (by decide) rfl ?_
  intro p e s m args below meth c s₁ B hml hv
  obtain ⟨rfl, hsz, hP, hK, hD0⟩ := hv
  have hx := B.exec
  have hb := B.bytes
  have hr := B.returns
  have hts := atoms_spec (ws := wsX12_held) B.pre
  have hown : s.vm.findClass RX12 = some m.cls := findClass_of_methodNamed B.named
  have hlocks := B.notSynchronized
  subst hsz
  have hD := hD0.self (sz := s.heap.size)
  generalize hAe : va_A [(q_this, .inr (12, [.ref q_town, .ref q_read, .ref q_now, .ref q_aside, .ref q_past, .int v_undos, .ref q_images, .ref q_kept, .long v_seed, .ref q_text, .int v_size, .int v_fault, .ref q_sights, .int v_sightMany, .ref q_book, .int v_bookMany, .int v_at, .int v_begin, .int v_sign, .int v_figures, .int v_value, .int v_wrong, .ref q_went, .ref q_free, .ref q_stands])), (q_town, .inl (cI, 27, .inl v_town)), (q_now, .inl (cI, 19, .inl v_now)), (q_free, .inl (cI, 8, .inl v_free))] s.heap.size = A at hD ⊢
  have hA : ∀ q : Nat, s.heap.size ≤ q → A q := fun q h => by rw [← hAe]; exact Or.inr h
  have hS : va_S A s.heap s.heap [] := va_S.rf
  have hl := lv_entry ([.ref q_this]) (n := 6) (Nat.le_of_ble_eq_true rfl)
  rw [lg_entry_eq]
  generalize (lg_sl ([.ref q_this]) ++ List.replicate (6 - (lg_sl ([.ref q_this])).length) Slot.unset).toArray = ls at hl ⊢
  have hl : lv_has ls 6 [(0, .ref q_this)] := hl
  unfold fX12_held at hrun
  have hk7 := hts (.fieldLink RX12 7 "LentDrainsModel" "town" "[I") (by decide +kernel)
  have hiX12 : ∀ w ∈ wsX120, w ∈ wsX12_held := by decide +kernel
  have hk48 := hts (.fieldLink RX12 48 "LentDrainsModel" "free" "[I") (by decide +kernel)
  have hk16 := hts (.fieldLink RX12 16 "LentDrainsModel" "now" "[I") (by decide +kernel)
  refine oz_genQ (fun Q hQ => ?_)
  refine lv_iconst (v := 0) hx hb dX12_held_0 (by decide) ?_
  refine lv_istore_n (lv' := [(1, .int 0), (0, .ref q_this)]) hx hb dX12_held_1 rfl hl (by decide) rfl (fun ls hl => ?_)
  refine lv_iconst (v := 0) hx hb dX12_held_2 (by decide) ?_
  refine lv_istore_n (lv' := [(2, .int 0), (1, .int 0), (0, .ref q_this)]) hx hb dX12_held_3 rfl hl (by decide) rfl (fun ls hl => ?_)
  obtain ⟨o4, hlp4, hrun⟩ := oz_bind hrun
  have hL4 : ∀ (n : Nat) (w4 : Int32 × (Nat → Int32)) (o4 : Int32 × (Nat → Int32)), oz_loop (fX12_held_b4 v_town v_now) n w4 = some o4 → (∀ (H : Heap) (locs : List Loc) (ls : Array Slot), va_P (dC, dI) vwCl [(q_this, .inr (12, [.ref q_town, .ref q_read, .ref q_now, .ref q_aside, .ref q_past, .int v_undos, .ref q_images, .ref q_kept, .long v_seed, .ref q_text, .int v_size, .int v_fault, .ref q_sights, .int v_sightMany, .ref q_book, .int v_bookMany, .int v_at, .int v_begin, .int v_sign, .int v_figures, .int v_value, .int v_wrong, .ref q_went, .ref q_free, .ref q_stands])), (q_town, .inl (cI, 27, .inl v_town)), (q_now, .inl (cI, 19, .inl v_now)), (q_free, .inl (cI, 8, .inl o4.2))] H → va_D A [(q_this, .inr (12, [.ref q_town, .ref q_read, .ref q_now, .ref q_aside, .ref q_past, .int v_undos, .ref q_images, .ref q_kept, .long v_seed, .ref q_text, .int v_size, .int v_fault, .ref q_sights, .int v_sightMany, .ref q_book, .int v_bookMany, .int v_at, .int v_begin, .int v_sign, .int v_figures, .int v_value, .int v_wrong, .ref q_went, .ref q_free, .ref q_stands])), (q_town, .inl (cI, 27, .inl v_town)), (q_now, .inl (cI, 19, .inl v_now)), (q_free, .inl (cI, 8, .inl o4.2))] → va_S A s.heap H locs → lv_has ls 6 [(2, .int o4.1), (1, .int 0), (0, .ref q_this)] → W p l e (headSpec wsX12_held rmX12_held).room s m (([.ref q_this] : List Value).toArray) below meth c H locs 0 0 Q (F0 m 58 ls [])) → ∀ (H : Heap) (locs : List Loc) (ls : Array Slot), va_P (dC, dI) vwCl [(q_this, .inr (12, [.ref q_town, .ref q_read, .ref q_now, .ref q_aside, .ref q_past, .int v_undos, .ref q_images, .ref q_kept, .long v_seed, .ref q_text, .int v_size, .int v_fault, .ref q_sights, .int v_sightMany, .ref q_book, .int v_bookMany, .int v_at, .int v_begin, .int v_sign, .int v_figures, .int v_value, .int v_wrong, .ref q_went, .ref q_free, .ref q_stands])), (q_town, .inl (cI, 27, .inl v_town)), (q_now, .inl (cI, 19, .inl v_now)), (q_free, .inl (cI, 8, .inl w4.2))] H → va_D A [(q_this, .inr (12, [.ref q_town, .ref q_read, .ref q_now, .ref q_aside, .ref q_past, .int v_undos, .ref q_images, .ref q_kept, .long v_seed, .ref q_text, .int v_size, .int v_fault, .ref q_sights, .int v_sightMany, .ref q_book, .int v_bookMany, .int v_at, .int v_begin, .int v_sign, .int v_figures, .int v_value, .int v_wrong, .ref q_went, .ref q_free, .ref q_stands])), (q_town, .inl (cI, 27, .inl v_town)), (q_now, .inl (cI, 19, .inl v_now)), (q_free, .inl (cI, 8, .inl w4.2))] → va_S A s.heap H locs → lv_has ls 6 [(2, .int w4.1), (1, .int 0), (0, .ref q_this)] → W p l e (headSpec wsX12_held rmX12_held).room s m (([.ref q_this] : List Value).toArray) below meth c H locs 0 0 Q (F0 m 4 ls []) := by
    intro n
    induction n with
    | zero => intro w4 o4 h9; exact (oz_zero h9).elim
    | succ n ih =>
      intro w4 o4 h9 hexit H locs ls hP hD hS hl
      obtain ⟨r9, hrun, hnext⟩ := oz_step h9
      unfold fX12_held_b4 at hrun
      refine lv_iload_n hx hb dX12_held_4 rfl (lv_at hl 0 rfl) ?_
      refine lv_aload_n hx hb dX12_held_5 rfl (lv_at hl 2 rfl) ?_
      refine va_get (D := (dC, dI)) (ci := 12) (v := .ref q_town) (C := RX12) (T := TX12) (N := 25) hx hb hts hiX12 hown hK hP 0 rfl rfl 0 (by decide) hk7 (fun _ h9 => h9) rfl dX12_held_6 ?_
      refine lv_iconst (v := 2) hx hb dX12_held_9 (by decide) ?_
      refine va_iald hx hb hK hP 1 0 rfl rfl (show ¬ ((2 : Int32) < 0 ∨ 27 ≤ (2 : Int32).toNatClampNeg) by decide) dX12_held_10 ?_
      refine lv_icmp_ge (tgt := 58) hx hb dX12_held_11 (by decide) (fun c1 => ?_) (fun c1 => ?_)
      · have hrun := oz_t hrun c1
        have hr9 := Option.some.inj hrun
        subst hr9
        have ho9 : (w4.1, w4.2) = o4 := hnext
        subst ho9
        exact hexit _ _ _ (hP.sub [0, 1, 2, 3] rfl) (hD.sub [0, 1, 2, 3] (by decide) rfl) hS (lv_sub hl [0, 1, 2] rfl)
      · have hrun := oz_f hrun c1
        refine lv_aload_n hx hb dX12_held_14 rfl (lv_at hl 2 rfl) ?_
        refine va_get (D := (dC, dI)) (ci := 12) (v := .ref q_free) (C := RX12) (T := TX12) (N := 25) hx hb hts hiX12 hown hK hP 0 rfl rfl 23 (by decide) hk48 (fun _ h9 => h9) rfl dX12_held_15 ?_
        refine lv_iload_n hx hb dX12_held_18 rfl (lv_at hl 0 rfl) ?_
        refine lv_aload_n hx hb dX12_held_19 rfl (lv_at hl 2 rfl) ?_
        refine va_get (D := (dC, dI)) (ci := 12) (v := .ref q_town) (C := RX12) (T := TX12) (N := 25) hx hb hts hiX12 hown hK hP 0 rfl rfl 0 (by decide) hk7 (fun _ h9 => h9) rfl dX12_held_20 ?_
        refine lv_iconst (v := 3) hx hb dX12_held_23 (by decide) ?_
        refine lv_iload_n hx hb dX12_held_24 rfl (lv_at hl 0 rfl) ?_
        refine lv_iadd hx hb dX12_held_25 ?_
        obtain ⟨c2, hrun⟩ := oz_chk hrun
        refine va_iald hx hb hK hP 1 0 rfl rfl c2 dX12_held_26 ?_
        refine lv_aload_n hx hb dX12_held_27 rfl (lv_at hl 2 rfl) ?_
        refine va_get (D := (dC, dI)) (ci := 12) (v := .ref q_now) (C := RX12) (T := TX12) (N := 25) hx hb hts hiX12 hown hK hP 0 rfl rfl 2 (by decide) hk16 (fun _ h9 => h9) rfl dX12_held_28 ?_
        refine lv_iconst (v := 0) hx hb dX12_held_31 (by decide) ?_
        refine lv_iload_n hx hb dX12_held_32 rfl (lv_at hl 0 rfl) ?_
        refine lv_iadd hx hb dX12_held_33 ?_
        obtain ⟨c3, hrun⟩ := oz_chk hrun
        refine va_iald hx hb hK hP 2 0 rfl rfl c3 dX12_held_34 ?_
        refine lv_isub hx hb dX12_held_35 ?_
        refine lv_aload_n hx hb dX12_held_36 rfl (lv_at hl 2 rfl) ?_
        obtain ⟨y37, hc37, hrun⟩ := oz_bind hrun
        have hPc := hP.sub (ws' := [(q_this, .inr (12, [.ref q_town, .ref q_read, .ref q_now, .ref q_aside, .ref q_past, .int v_undos, .ref q_images, .ref q_kept, .long v_seed, .ref q_text, .int v_size, .int v_fault, .ref q_sights, .int v_sightMany, .ref q_book, .int v_bookMany, .int v_at, .int v_begin, .int v_sign, .int v_figures, .int v_value, .int v_wrong, .ref q_went, .ref q_free, .ref q_stands])), (q_town, .inl (cI, 27, .inl v_town)), (q_now, .inl (cI, 19, .inl v_now))]) [0, 1, 2] rfl
        have hDc := hD.sub (ws' := [(q_this, .inr (12, [.ref q_town, .ref q_read, .ref q_now, .ref q_aside, .ref q_past, .int v_undos, .ref q_images, .ref q_kept, .long v_seed, .ref q_text, .int v_size, .int v_fault, .ref q_sights, .int v_sightMany, .ref q_book, .int v_bookMany, .int v_at, .int v_begin, .int v_sign, .int v_figures, .int v_value, .int v_wrong, .ref q_went, .ref q_free, .ref q_stands])), (q_town, .inl (cI, 27, .inl v_town)), (q_now, .inl (cI, 19, .inl v_now))]) [0, 1, 2] (by decide) rfl
        have hFc := va_free (wc := [(q_this, .inr (12, [.ref q_town, .ref q_read, .ref q_now, .ref q_aside, .ref q_past, .int v_undos, .ref q_images, .ref q_kept, .long v_seed, .ref q_text, .int v_size, .int v_fault, .ref q_sights, .int v_sightMany, .ref q_book, .int v_bookMany, .int v_at, .int v_begin, .int v_sign, .int v_figures, .int v_value, .int v_wrong, .ref q_went, .ref q_free, .ref q_stands])), (q_town, .inl (cI, 27, .inl v_town)), (q_now, .inl (cI, 19, .inl v_now))]) hD hS hA [0, 1, 2] rfl
        refine va_calli (va_runV (As := []) (rest := [.int ((v_town (Int32.toNatClampNeg (3 + w4.1))) - (v_now (Int32.toNatClampNeg (0 + w4.1)))), .int w4.1, .ref q_free]) ⟨hx, hb, hml, hown, hts⟩ (tX12_daysOfLent l dC dI cI cZ q_aside q_book q_free q_images q_kept q_now q_past q_read q_sights q_stands q_text q_this q_town q_went H.size v_undos v_seed v_size v_fault v_sightMany v_bookMany v_at v_begin v_sign v_figures v_value v_wrong v_town v_now y37 hc37) (cwV 0 hts gX12_held_X12_daysOfLent rfl rfl rfl (by decide +kernel) ⟨Nat.le_of_ble_eq_true rfl, Nat.le_of_ble_eq_true rfl⟩) ⟨fun a U g mk q => by obtain ⟨q0, q1, qP, qK, qD⟩ := q; exact ⟨q0, q1, qP, va_K.moved (u := U) (U := U.calling g mk a) (Vm.Alike.refl U.vm) qK, qD⟩, va_recv hK hPc (ci := 12) (q0 := 0) rfl rfl, fun U hU hW => ⟨rfl, by rw [hU], by rw [hU]; exact hPc, va_K.moved hW.alike hK, hDc.weaken (fun _ _ _ _ => trivial)⟩⟩ rfl rfl hl.1 rfl (lv_room (Nat.le_of_ble_eq_true rfl)) dX12_held_37 ⟨Nat.le_of_ble_eq_true rfl, Nat.le_of_ble_eq_true rfl⟩) hS (fun q _ h => hFc q h) hFc (fun r37 u9 t9 H1 locs ht9 hvm9 hw9 hB9 hz9 hkk9 hS => ?_)
        have hw9 : y37 = r37 := hw9.symm
        subst hw9
        obtain ⟨hP9, hK9, hD9⟩ := hB9
        rw [ht9] at hP9
        obtain ⟨hP, hD⟩ := va_join (wr := [(q_free, .inl (cI, 8, .inl w4.2))]) (w1 := [(q_this, .inr (12, [.ref q_town, .ref q_read, .ref q_now, .ref q_aside, .ref q_past, .int v_undos, .ref q_images, .ref q_kept, .long v_seed, .ref q_text, .int v_size, .int v_fault, .ref q_sights, .int v_sightMany, .ref q_book, .int v_bookMany, .int v_at, .int v_begin, .int v_sign, .int v_figures, .int v_value, .int v_wrong, .ref q_went, .ref q_free, .ref q_stands])), (q_town, .inl (cI, 27, .inl v_town)), (q_now, .inl (cI, 19, .inl v_now))]) hP hD [0, 1, 2] [3] rfl rfl (by decide) (by decide) hkk9 hFc hP9 hD9
        generalize H1 = H at hP hS ⊢
        have hP : va_P (dC, dI) vwCl [(q_free, .inl (cI, 8, .inl w4.2)), (q_this, .inr (12, [.ref q_town, .ref q_read, .ref q_now, .ref q_aside, .ref q_past, .int v_undos, .ref q_images, .ref q_kept, .long v_seed, .ref q_text, .int v_size, .int v_fault, .ref q_sights, .int v_sightMany, .ref q_book, .int v_bookMany, .int v_at, .int v_begin, .int v_sign, .int v_figures, .int v_value, .int v_wrong, .ref q_went, .ref q_free, .ref q_stands])), (q_town, .inl (cI, 27, .inl v_town)), (q_now, .inl (cI, 19, .inl v_now))] H := hP
        have hD : va_D A [(q_free, .inl (cI, 8, .inl w4.2)), (q_this, .inr (12, [.ref q_town, .ref q_read, .ref q_now, .ref q_aside, .ref q_past, .int v_undos, .ref q_images, .ref q_kept, .long v_seed, .ref q_text, .int v_size, .int v_fault, .ref q_sights, .int v_sightMany, .ref q_book, .int v_bookMany, .int v_at, .int v_begin, .int v_sign, .int v_figures, .int v_value, .int v_wrong, .ref q_went, .ref q_free, .ref q_stands])), (q_town, .inl (cI, 27, .inl v_town)), (q_now, .inl (cI, 19, .inl v_now))] := hD
        refine lv_aload_n hx hb dX12_held_40 rfl (lv_at hl 2 rfl) ?_
        refine va_get (D := (dC, dI)) (ci := 12) (v := .ref q_town) (C := RX12) (T := TX12) (N := 25) hx hb hts hiX12 hown hK hP 1 rfl rfl 0 (by decide) hk7 (fun _ h9 => h9) rfl dX12_held_41 ?_
        refine lv_bipush (v := 11) hx hb dX12_held_44 (by decide) ?_
        refine lv_iload_n hx hb dX12_held_46 rfl (lv_at hl 0 rfl) ?_
        refine lv_iadd hx hb dX12_held_47 ?_
        obtain ⟨c4, hrun⟩ := oz_chk hrun
        refine va_iald hx hb hK hP 2 0 rfl rfl c4 dX12_held_48 ?_
        refine lv_imul hx hb dX12_held_49 ?_
        refine lv_isub hx hb dX12_held_50 ?_
        obtain ⟨c5, hrun⟩ := oz_chk hrun
        refine va_iast hx hb hK hP hD hS 0 0 rfl rfl c5 dX12_held_51 (fun H locs hP hD hS => ?_)
        have hP : va_P (dC, dI) vwCl [(q_free, .inl (cI, 8, .inl (upd w4.2 (Int32.toNatClampNeg w4.1) (((v_town (Int32.toNatClampNeg (3 + w4.1))) - (v_now (Int32.toNatClampNeg (0 + w4.1)))) - (y37 * (v_town (Int32.toNatClampNeg (11 + w4.1)))))))), (q_this, .inr (12, [.ref q_town, .ref q_read, .ref q_now, .ref q_aside, .ref q_past, .int v_undos, .ref q_images, .ref q_kept, .long v_seed, .ref q_text, .int v_size, .int v_fault, .ref q_sights, .int v_sightMany, .ref q_book, .int v_bookMany, .int v_at, .int v_begin, .int v_sign, .int v_figures, .int v_value, .int v_wrong, .ref q_went, .ref q_free, .ref q_stands])), (q_town, .inl (cI, 27, .inl v_town)), (q_now, .inl (cI, 19, .inl v_now))] H := hP
        have hD : va_D A [(q_free, .inl (cI, 8, .inl (upd w4.2 (Int32.toNatClampNeg w4.1) (((v_town (Int32.toNatClampNeg (3 + w4.1))) - (v_now (Int32.toNatClampNeg (0 + w4.1)))) - (y37 * (v_town (Int32.toNatClampNeg (11 + w4.1)))))))), (q_this, .inr (12, [.ref q_town, .ref q_read, .ref q_now, .ref q_aside, .ref q_past, .int v_undos, .ref q_images, .ref q_kept, .long v_seed, .ref q_text, .int v_size, .int v_fault, .ref q_sights, .int v_sightMany, .ref q_book, .int v_bookMany, .int v_at, .int v_begin, .int v_sign, .int v_figures, .int v_value, .int v_wrong, .ref q_went, .ref q_free, .ref q_stands])), (q_town, .inl (cI, 27, .inl v_town)), (q_now, .inl (cI, 19, .inl v_now))] := hD
        refine lv_iinc (v := (w4.1 + 1)) (lv' := [(2, .int (w4.1 + 1)), (1, .int 0), (0, .ref q_this)]) hx hb dX12_held_52 hl (k := 0) rfl rfl (by decide) rfl (fun ls hl => ?_)
        refine lv_goto (tgt := 4) hx hb dX12_held_55 (by decide) ?_
        have hr9 := Option.some.inj hrun
        subst hr9
        exact ih ((w4.1 + 1), (upd w4.2 (Int32.toNatClampNeg w4.1) (((v_town (Int32.toNatClampNeg (3 + w4.1))) - (v_now (Int32.toNatClampNeg (0 + w4.1)))) - (y37 * (v_town (Int32.toNatClampNeg (11 + w4.1))))))) _ hnext hexit _ _ _ (hP.sub [1, 2, 3, 0] rfl) (hD.sub [1, 2, 3, 0] (by decide) rfl) hS (lv_sub hl [0, 1, 2] rfl)
  refine hL4 oz_fuel (0, v_free) o4 hlp4 (fun H locs ls hP hD hS hl => ?_) _ _ _ (hP.sub [0, 1, 2, 3] rfl) (hD.sub [0, 1, 2, 3] (by decide) rfl) hS (lv_sub hl [0, 1, 2] rfl)
  have hP : va_P (dC, dI) vwCl [(q_this, .inr (12, [.ref q_town, .ref q_read, .ref q_now, .ref q_aside, .ref q_past, .int v_undos, .ref q_images, .ref q_kept, .long v_seed, .ref q_text, .int v_size, .int v_fault, .ref q_sights, .int v_sightMany, .ref q_book, .int v_bookMany, .int v_at, .int v_begin, .int v_sign, .int v_figures, .int v_value, .int v_wrong, .ref q_went, .ref q_free, .ref q_stands])), (q_town, .inl (cI, 27, .inl v_town)), (q_now, .inl (cI, 19, .inl v_now)), (q_free, .inl (cI, 8, .inl o4.2))] H := hP
  have hD : va_D A [(q_this, .inr (12, [.ref q_town, .ref q_read, .ref q_now, .ref q_aside, .ref q_past, .int v_undos, .ref q_images, .ref q_kept, .long v_seed, .ref q_text, .int v_size, .int v_fault, .ref q_sights, .int v_sightMany, .ref q_book, .int v_bookMany, .int v_at, .int v_begin, .int v_sign, .int v_figures, .int v_value, .int v_wrong, .ref q_went, .ref q_free, .ref q_stands])), (q_town, .inl (cI, 27, .inl v_town)), (q_now, .inl (cI, 19, .inl v_now)), (q_free, .inl (cI, 8, .inl o4.2))] := hD
  have hl : lv_has ls 6 [(2, .int o4.1), (1, .int 0), (0, .ref q_this)] := hl
  refine lv_aload_n hx hb dX12_held_58 rfl (lv_at hl 2 rfl) ?_
  refine va_get (D := (dC, dI)) (ci := 12) (v := .ref q_town) (C := RX12) (T := TX12) (N := 25) hx hb hts hiX12 hown hK hP 0 rfl rfl 0 (by decide) hk7 (fun _ h9 => h9) rfl dX12_held_59 ?_
  refine lv_iconst (v := 2) hx hb dX12_held_62 (by decide) ?_
  refine va_iald hx hb hK hP 1 0 rfl rfl (show ¬ ((2 : Int32) < 0 ∨ 27 ≤ (2 : Int32).toNatClampNeg) by decide) dX12_held_63 ?_
  refine lv_iconst (v := 1) hx hb dX12_held_64 (by decide) ?_
  refine lv_isub hx hb dX12_held_65 ?_
  refine lv_istore_n (lv' := [(2, .int ((v_town (Int32.toNatClampNeg 2)) - 1)), (1, .int 0), (0, .ref q_this)]) hx hb dX12_held_66 rfl hl (by decide) rfl (fun ls hl => ?_)
  obtain ⟨o67, hlp67, hrun⟩ := oz_bind hrun
  have hL67 : ∀ (n : Nat) (w67 : Int32 × Int32 × (Nat → Int32)) (o67 : Int32 × Int32 × (Nat → Int32)), oz_loop (fX12_held_b67 v_town) n w67 = some o67 → (∀ (H : Heap) (locs : List Loc) (ls : Array Slot), va_P (dC, dI) vwCl [(q_this, .inr (12, [.ref q_town, .ref q_read, .ref q_now, .ref q_aside, .ref q_past, .int v_undos, .ref q_images, .ref q_kept, .long v_seed, .ref q_text, .int v_size, .int v_fault, .ref q_sights, .int v_sightMany, .ref q_book, .int v_bookMany, .int v_at, .int v_begin, .int v_sign, .int v_figures, .int v_value, .int v_wrong, .ref q_went, .ref q_free, .ref q_stands])), (q_town, .inl (cI, 27, .inl v_town)), (q_now, .inl (cI, 19, .inl v_now)), (q_free, .inl (cI, 8, .inl o67.2.2))] H → va_D A [(q_this, .inr (12, [.ref q_town, .ref q_read, .ref q_now, .ref q_aside, .ref q_past, .int v_undos, .ref q_images, .ref q_kept, .long v_seed, .ref q_text, .int v_size, .int v_fault, .ref q_sights, .int v_sightMany, .ref q_book, .int v_bookMany, .int v_at, .int v_begin, .int v_sign, .int v_figures, .int v_value, .int v_wrong, .ref q_went, .ref q_free, .ref q_stands])), (q_town, .inl (cI, 27, .inl v_town)), (q_now, .inl (cI, 19, .inl v_now)), (q_free, .inl (cI, 8, .inl o67.2.2))] → va_S A s.heap H locs → lv_has ls 6 [(2, .int o67.1), (1, .int o67.2.1), (0, .ref q_this)] → W p l e (headSpec wsX12_held rmX12_held).room s m (([.ref q_this] : List Value).toArray) below meth c H locs 0 0 Q (F0 m 208 ls [])) → ∀ (H : Heap) (locs : List Loc) (ls : Array Slot), va_P (dC, dI) vwCl [(q_this, .inr (12, [.ref q_town, .ref q_read, .ref q_now, .ref q_aside, .ref q_past, .int v_undos, .ref q_images, .ref q_kept, .long v_seed, .ref q_text, .int v_size, .int v_fault, .ref q_sights, .int v_sightMany, .ref q_book, .int v_bookMany, .int v_at, .int v_begin, .int v_sign, .int v_figures, .int v_value, .int v_wrong, .ref q_went, .ref q_free, .ref q_stands])), (q_town, .inl (cI, 27, .inl v_town)), (q_now, .inl (cI, 19, .inl v_now)), (q_free, .inl (cI, 8, .inl w67.2.2))] H → va_D A [(q_this, .inr (12, [.ref q_town, .ref q_read, .ref q_now, .ref q_aside, .ref q_past, .int v_undos, .ref q_images, .ref q_kept, .long v_seed, .ref q_text, .int v_size, .int v_fault, .ref q_sights, .int v_sightMany, .ref q_book, .int v_bookMany, .int v_at, .int v_begin, .int v_sign, .int v_figures, .int v_value, .int v_wrong, .ref q_went, .ref q_free, .ref q_stands])), (q_town, .inl (cI, 27, .inl v_town)), (q_now, .inl (cI, 19, .inl v_now)), (q_free, .inl (cI, 8, .inl w67.2.2))] → va_S A s.heap H locs → lv_has ls 6 [(2, .int w67.1), (1, .int w67.2.1), (0, .ref q_this)] → W p l e (headSpec wsX12_held rmX12_held).room s m (([.ref q_this] : List Value).toArray) below meth c H locs 0 0 Q (F0 m 67 ls []) := by
    intro n
    induction n with
    | zero => intro w67 o67 h9; exact (oz_zero h9).elim
    | succ n ih =>
      intro w67 o67 h9 hexit H locs ls hP hD hS hl
      obtain ⟨r9, hrun, hnext⟩ := oz_step h9
      unfold fX12_held_b67 at hrun
      refine lv_iload_n hx hb dX12_held_67 rfl (lv_at hl 0 rfl) ?_
      refine lv_if_lt (tgt := 208) hx hb dX12_held_68 (by decide) (fun c6 => ?_) (fun c6 => ?_)
      · have hrun := oz_t hrun c6
        have hr9 := Option.some.inj hrun
        subst hr9
        have ho9 : (w67.1, w67.2.1, w67.2.2) = o67 := hnext
        subst ho9
        exact hexit _ _ _ (hP.sub [0, 1, 2, 3] rfl) (hD.sub [0, 1, 2, 3] (by decide) rfl) hS (lv_sub hl [0, 1, 2] rfl)
      · have hrun := oz_f hrun c6
        refine lv_aload_n hx hb dX12_held_71 rfl (lv_at hl 2 rfl) ?_
        refine va_get (D := (dC, dI)) (ci := 12) (v := .ref q_town) (C := RX12) (T := TX12) (N := 25) hx hb hts hiX12 hown hK hP 0 rfl rfl 0 (by decide) hk7 (fun _ h9 => h9) rfl dX12_held_72 ?_
        refine lv_bipush (v := 19) hx hb dX12_held_75 (by decide) ?_
        refine lv_iload_n hx hb dX12_held_77 rfl (lv_at hl 0 rfl) ?_
        refine lv_iadd hx hb dX12_held_78 ?_
        obtain ⟨c7, hrun⟩ := oz_chk hrun
        refine va_iald hx hb hK hP 1 0 rfl rfl c7 dX12_held_79 ?_
        refine lv_istore_n (lv' := [(3, .int (v_town (Int32.toNatClampNeg (19 + w67.1)))), (2, .int w67.1), (1, .int w67.2.1), (0, .ref q_this)]) hx hb dX12_held_80 rfl hl (by decide) rfl (fun ls hl => ?_)
        refine lv_iload_n hx hb dX12_held_81 rfl (lv_at hl 0 rfl) ?_
        refine lv_iconst (v := (-1)) hx hb dX12_held_82 (by decide) ?_
        refine lv_icmp_eq (tgt := 202) hx hb dX12_held_83 (by decide) (fun c8 => ?_) (fun c8 => ?_)
        · have hrun := oz_t hrun c8
          refine lv_iinc (v := (w67.1 + (-1))) (lv' := [(2, .int (w67.1 + (-1))), (3, .int (v_town (Int32.toNatClampNeg (19 + w67.1)))), (1, .int w67.2.1), (0, .ref q_this)]) hx hb dX12_held_202 hl (k := 1) rfl rfl (by decide) rfl (fun ls hl => ?_)
          refine lv_goto (tgt := 67) hx hb dX12_held_205 (by decide) ?_
          have hr9 := Option.some.inj hrun
          subst hr9
          exact ih ((w67.1 + (-1)), w67.2.1, w67.2.2) _ hnext hexit _ _ _ (hP.sub [0, 1, 2, 3] rfl) (hD.sub [0, 1, 2, 3] (by decide) rfl) hS (lv_sub hl [0, 2, 3] rfl)
        · have hrun := oz_f hrun c8
          refine lv_aload_n hx hb dX12_held_86 rfl (lv_at hl 3 rfl) ?_
          refine va_get (D := (dC, dI)) (ci := 12) (v := .ref q_free) (C := RX12) (T := TX12) (N := 25) hx hb hts hiX12 hown hK hP 0 rfl rfl 23 (by decide) hk48 (fun _ h9 => h9) rfl dX12_held_87 ?_
          refine lv_iload_n hx hb dX12_held_90 rfl (lv_at hl 1 rfl) ?_
          obtain ⟨c9, hrun⟩ := oz_chk hrun
          refine va_iald hx hb hK hP 3 0 rfl rfl c9 dX12_held_91 ?_
          refine lv_if_ge (tgt := 123) hx hb dX12_held_92 (by decide) (fun c10 => ?_) (fun c10 => ?_)
          · have hrun := oz_t hrun c10
            refine lv_iconst (v := 0) hx hb dX12_held_123 (by decide) ?_
            refine lv_istore (lv' := [(4, .int 0), (3, .int (v_town (Int32.toNatClampNeg (19 + w67.1)))), (2, .int w67.1), (1, .int w67.2.1), (0, .ref q_this)]) hx hb dX12_held_124 hl (by decide) rfl (fun ls hl => ?_)
            refine lv_aload_n hx hb dX12_held_126 rfl (lv_at hl 4 rfl) ?_
            refine va_get (D := (dC, dI)) (ci := 12) (v := .ref q_free) (C := RX12) (T := TX12) (N := 25) hx hb hts hiX12 hown hK hP 0 rfl rfl 23 (by decide) hk48 (fun _ h9 => h9) rfl dX12_held_127 ?_
            refine lv_iload_n hx hb dX12_held_130 rfl (lv_at hl 2 rfl) ?_
            refine va_iald hx hb hK hP 3 0 rfl rfl c9 dX12_held_131 ?_
            refine lv_if_le (tgt := 163) hx hb dX12_held_132 (by decide) (fun c11 => ?_) (fun c11 => ?_)
            · have hrun := oz_t hrun c11
              refine lv_iconst (v := 0) hx hb dX12_held_163 (by decide) ?_
              refine lv_istore (lv' := [(5, .int 0), (4, .int 0), (3, .int (v_town (Int32.toNatClampNeg (19 + w67.1)))), (2, .int w67.1), (1, .int w67.2.1), (0, .ref q_this)]) hx hb dX12_held_164 hl (by decide) rfl (fun ls hl => ?_)
              refine lv_aload_n hx hb dX12_held_166 rfl (lv_at hl 5 rfl) ?_
              refine va_get (D := (dC, dI)) (ci := 12) (v := .ref q_free) (C := RX12) (T := TX12) (N := 25) hx hb hts hiX12 hown hK hP 0 rfl rfl 23 (by decide) hk48 (fun _ h9 => h9) rfl dX12_held_167 ?_
              refine lv_iload_n hx hb dX12_held_170 rfl (lv_at hl 2 rfl) ?_
              refine lv_dup2_11 hx hb dX12_held_171 rfl rfl ?_
              obtain ⟨c12, hrun⟩ := oz_chk hrun
              refine va_iald hx hb hK hP 3 0 rfl rfl c12 dX12_held_172 ?_
              refine lv_iload hx hb dX12_held_173 (lv_at hl 0 rfl) ?_
              refine lv_iload hx hb dX12_held_175 (lv_at hl 1 rfl) ?_
              refine lv_isub hx hb dX12_held_177 ?_
              refine lv_iadd hx hb dX12_held_178 ?_
              refine va_iast hx hb hK hP hD hS 3 0 rfl rfl c12 dX12_held_179 (fun H locs hP hD hS => ?_)
              have hP : va_P (dC, dI) vwCl [(q_this, .inr (12, [.ref q_town, .ref q_read, .ref q_now, .ref q_aside, .ref q_past, .int v_undos, .ref q_images, .ref q_kept, .long v_seed, .ref q_text, .int v_size, .int v_fault, .ref q_sights, .int v_sightMany, .ref q_book, .int v_bookMany, .int v_at, .int v_begin, .int v_sign, .int v_figures, .int v_value, .int v_wrong, .ref q_went, .ref q_free, .ref q_stands])), (q_town, .inl (cI, 27, .inl v_town)), (q_now, .inl (cI, 19, .inl v_now)), (q_free, .inl (cI, 8, .inl (upd w67.2.2 (Int32.toNatClampNeg (v_town (Int32.toNatClampNeg (19 + w67.1)))) ((w67.2.2 (Int32.toNatClampNeg (v_town (Int32.toNatClampNeg (19 + w67.1))))) + (0 - 0)))))] H := hP
              have hD : va_D A [(q_this, .inr (12, [.ref q_town, .ref q_read, .ref q_now, .ref q_aside, .ref q_past, .int v_undos, .ref q_images, .ref q_kept, .long v_seed, .ref q_text, .int v_size, .int v_fault, .ref q_sights, .int v_sightMany, .ref q_book, .int v_bookMany, .int v_at, .int v_begin, .int v_sign, .int v_figures, .int v_value, .int v_wrong, .ref q_went, .ref q_free, .ref q_stands])), (q_town, .inl (cI, 27, .inl v_town)), (q_now, .inl (cI, 19, .inl v_now)), (q_free, .inl (cI, 8, .inl (upd w67.2.2 (Int32.toNatClampNeg (v_town (Int32.toNatClampNeg (19 + w67.1)))) ((w67.2.2 (Int32.toNatClampNeg (v_town (Int32.toNatClampNeg (19 + w67.1))))) + (0 - 0)))))] := hD
              refine lv_aload_n hx hb dX12_held_180 rfl (lv_at hl 5 rfl) ?_
              refine va_get (D := (dC, dI)) (ci := 12) (v := .ref q_free) (C := RX12) (T := TX12) (N := 25) hx hb hts hiX12 hown hK hP 0 rfl rfl 23 (by decide) hk48 (fun _ h9 => h9) rfl dX12_held_181 ?_
              refine lv_iload_n hx hb dX12_held_184 rfl (lv_at hl 3 rfl) ?_
              refine lv_dup2_11 hx hb dX12_held_185 rfl rfl ?_
              refine va_iald hx hb hK hP 3 0 rfl rfl c9 dX12_held_186 ?_
              refine lv_iload hx hb dX12_held_187 (lv_at hl 1 rfl) ?_
              refine lv_iload hx hb dX12_held_189 (lv_at hl 0 rfl) ?_
              refine lv_isub hx hb dX12_held_191 ?_
              refine lv_iadd hx hb dX12_held_192 ?_
              refine va_iast hx hb hK hP hD hS 3 0 rfl rfl c9 dX12_held_193 (fun H locs hP hD hS => ?_)
              have hP : va_P (dC, dI) vwCl [(q_this, .inr (12, [.ref q_town, .ref q_read, .ref q_now, .ref q_aside, .ref q_past, .int v_undos, .ref q_images, .ref q_kept, .long v_seed, .ref q_text, .int v_size, .int v_fault, .ref q_sights, .int v_sightMany, .ref q_book, .int v_bookMany, .int v_at, .int v_begin, .int v_sign, .int v_figures, .int v_value, .int v_wrong, .ref q_went, .ref q_free, .ref q_stands])), (q_town, .inl (cI, 27, .inl v_town)), (q_now, .inl (cI, 19, .inl v_now)), (q_free, .inl (cI, 8, .inl (upd (upd w67.2.2 (Int32.toNatClampNeg (v_town (Int32.toNatClampNeg (19 + w67.1)))) ((w67.2.2 (Int32.toNatClampNeg (v_town (Int32.toNatClampNeg (19 + w67.1))))) + (0 - 0))) (Int32.toNatClampNeg w67.1) (((upd w67.2.2 (Int32.toNatClampNeg (v_town (Int32.toNatClampNeg (19 + w67.1)))) ((w67.2.2 (Int32.toNatClampNeg (v_town (Int32.toNatClampNeg (19 + w67.1))))) + (0 - 0))) (Int32.toNatClampNeg w67.1)) + (0 - 0)))))] H := hP
              have hD : va_D A [(q_this, .inr (12, [.ref q_town, .ref q_read, .ref q_now, .ref q_aside, .ref q_past, .int v_undos, .ref q_images, .ref q_kept, .long v_seed, .ref q_text, .int v_size, .int v_fault, .ref q_sights, .int v_sightMany, .ref q_book, .int v_bookMany, .int v_at, .int v_begin, .int v_sign, .int v_figures, .int v_value, .int v_wrong, .ref q_went, .ref q_free, .ref q_stands])), (q_town, .inl (cI, 27, .inl v_town)), (q_now, .inl (cI, 19, .inl v_now)), (q_free, .inl (cI, 8, .inl (upd (upd w67.2.2 (Int32.toNatClampNeg (v_town (Int32.toNatClampNeg (19 + w67.1)))) ((w67.2.2 (Int32.toNatClampNeg (v_town (Int32.toNatClampNeg (19 + w67.1))))) + (0 - 0))) (Int32.toNatClampNeg w67.1) (((upd w67.2.2 (Int32.toNatClampNeg (v_town (Int32.toNatClampNeg (19 + w67.1)))) ((w67.2.2 (Int32.toNatClampNeg (v_town (Int32.toNatClampNeg (19 + w67.1))))) + (0 - 0))) (Int32.toNatClampNeg w67.1)) + (0 - 0)))))] := hD
              refine lv_iload_n hx hb dX12_held_194 rfl (lv_at hl 4 rfl) ?_
              refine lv_iload hx hb dX12_held_195 (lv_at hl 1 rfl) ?_
              refine lv_iload hx hb dX12_held_197 (lv_at hl 0 rfl) ?_
              refine lv_iadd hx hb dX12_held_199 ?_
              refine lv_iadd hx hb dX12_held_200 ?_
              refine lv_istore_n (lv' := [(1, .int (w67.2.1 + (0 + 0))), (5, .int 0), (4, .int 0), (3, .int (v_town (Int32.toNatClampNeg (19 + w67.1)))), (2, .int w67.1), (0, .ref q_this)]) hx hb dX12_held_201 rfl hl (by decide) rfl (fun ls hl => ?_)
              refine lv_iinc (v := (w67.1 + (-1))) (lv' := [(2, .int (w67.1 + (-1))), (1, .int (w67.2.1 + (0 + 0))), (5, .int 0), (4, .int 0), (3, .int (v_town (Int32.toNatClampNeg (19 + w67.1)))), (0, .ref q_this)]) hx hb dX12_held_202 hl (k := 4) rfl rfl (by decide) rfl (fun ls hl => ?_)
              refine lv_goto (tgt := 67) hx hb dX12_held_205 (by decide) ?_
              have hr9 := Option.some.inj hrun
              subst hr9
              exact ih ((w67.1 + (-1)), (w67.2.1 + (0 + 0)), (upd (upd w67.2.2 (Int32.toNatClampNeg (v_town (Int32.toNatClampNeg (19 + w67.1)))) ((w67.2.2 (Int32.toNatClampNeg (v_town (Int32.toNatClampNeg (19 + w67.1))))) + (0 - 0))) (Int32.toNatClampNeg w67.1) (((upd w67.2.2 (Int32.toNatClampNeg (v_town (Int32.toNatClampNeg (19 + w67.1)))) ((w67.2.2 (Int32.toNatClampNeg (v_town (Int32.toNatClampNeg (19 + w67.1))))) + (0 - 0))) (Int32.toNatClampNeg w67.1)) + (0 - 0)))) _ hnext hexit _ _ _ (hP.sub [0, 1, 2, 3] rfl) (hD.sub [0, 1, 2, 3] (by decide) rfl) hS (lv_sub hl [0, 1, 5] rfl)
            · have hrun := oz_f hrun c11
              refine lv_aload_n hx hb dX12_held_135 rfl (lv_at hl 4 rfl) ?_
              refine va_get (D := (dC, dI)) (ci := 12) (v := .ref q_free) (C := RX12) (T := TX12) (N := 25) hx hb hts hiX12 hown hK hP 0 rfl rfl 23 (by decide) hk48 (fun _ h9 => h9) rfl dX12_held_136 ?_
              refine lv_iload_n hx hb dX12_held_139 rfl (lv_at hl 1 rfl) ?_
              obtain ⟨c13, hrun⟩ := oz_chk hrun
              refine va_iald hx hb hK hP 3 0 rfl rfl c13 dX12_held_140 ?_
              refine lv_if_ge (tgt := 163) hx hb dX12_held_141 (by decide) (fun c14 => ?_) (fun c14 => ?_)
              · have hrun := oz_t hrun c14
                refine lv_iconst (v := 0) hx hb dX12_held_163 (by decide) ?_
                refine lv_istore (lv' := [(5, .int 0), (4, .int 0), (3, .int (v_town (Int32.toNatClampNeg (19 + w67.1)))), (2, .int w67.1), (1, .int w67.2.1), (0, .ref q_this)]) hx hb dX12_held_164 hl (by decide) rfl (fun ls hl => ?_)
                refine lv_aload_n hx hb dX12_held_166 rfl (lv_at hl 5 rfl) ?_
                refine va_get (D := (dC, dI)) (ci := 12) (v := .ref q_free) (C := RX12) (T := TX12) (N := 25) hx hb hts hiX12 hown hK hP 0 rfl rfl 23 (by decide) hk48 (fun _ h9 => h9) rfl dX12_held_167 ?_
                refine lv_iload_n hx hb dX12_held_170 rfl (lv_at hl 2 rfl) ?_
                refine lv_dup2_11 hx hb dX12_held_171 rfl rfl ?_
                refine va_iald hx hb hK hP 3 0 rfl rfl c13 dX12_held_172 ?_
                refine lv_iload hx hb dX12_held_173 (lv_at hl 0 rfl) ?_
                refine lv_iload hx hb dX12_held_175 (lv_at hl 1 rfl) ?_
                refine lv_isub hx hb dX12_held_177 ?_
                refine lv_iadd hx hb dX12_held_178 ?_
                refine va_iast hx hb hK hP hD hS 3 0 rfl rfl c13 dX12_held_179 (fun H locs hP hD hS => ?_)
                have hP : va_P (dC, dI) vwCl [(q_this, .inr (12, [.ref q_town, .ref q_read, .ref q_now, .ref q_aside, .ref q_past, .int v_undos, .ref q_images, .ref q_kept, .long v_seed, .ref q_text, .int v_size, .int v_fault, .ref q_sights, .int v_sightMany, .ref q_book, .int v_bookMany, .int v_at, .int v_begin, .int v_sign, .int v_figures, .int v_value, .int v_wrong, .ref q_went, .ref q_free, .ref q_stands])), (q_town, .inl (cI, 27, .inl v_town)), (q_now, .inl (cI, 19, .inl v_now)), (q_free, .inl (cI, 8, .inl (upd w67.2.2 (Int32.toNatClampNeg (v_town (Int32.toNatClampNeg (19 + w67.1)))) ((w67.2.2 (Int32.toNatClampNeg (v_town (Int32.toNatClampNeg (19 + w67.1))))) + (0 - 0)))))] H := hP
                have hD : va_D A [(q_this, .inr (12, [.ref q_town, .ref q_read, .ref q_now, .ref q_aside, .ref q_past, .int v_undos, .ref q_images, .ref q_kept, .long v_seed, .ref q_text, .int v_size, .int v_fault, .ref q_sights, .int v_sightMany, .ref q_book, .int v_bookMany, .int v_at, .int v_begin, .int v_sign, .int v_figures, .int v_value, .int v_wrong, .ref q_went, .ref q_free, .ref q_stands])), (q_town, .inl (cI, 27, .inl v_town)), (q_now, .inl (cI, 19, .inl v_now)), (q_free, .inl (cI, 8, .inl (upd w67.2.2 (Int32.toNatClampNeg (v_town (Int32.toNatClampNeg (19 + w67.1)))) ((w67.2.2 (Int32.toNatClampNeg (v_town (Int32.toNatClampNeg (19 + w67.1))))) + (0 - 0)))))] := hD
                refine lv_aload_n hx hb dX12_held_180 rfl (lv_at hl 5 rfl) ?_
                refine va_get (D := (dC, dI)) (ci := 12) (v := .ref q_free) (C := RX12) (T := TX12) (N := 25) hx hb hts hiX12 hown hK hP 0 rfl rfl 23 (by decide) hk48 (fun _ h9 => h9) rfl dX12_held_181 ?_
                refine lv_iload_n hx hb dX12_held_184 rfl (lv_at hl 3 rfl) ?_
                refine lv_dup2_11 hx hb dX12_held_185 rfl rfl ?_
                refine va_iald hx hb hK hP 3 0 rfl rfl c9 dX12_held_186 ?_
                refine lv_iload hx hb dX12_held_187 (lv_at hl 1 rfl) ?_
                refine lv_iload hx hb dX12_held_189 (lv_at hl 0 rfl) ?_
                refine lv_isub hx hb dX12_held_191 ?_
                refine lv_iadd hx hb dX12_held_192 ?_
                refine va_iast hx hb hK hP hD hS 3 0 rfl rfl c9 dX12_held_193 (fun H locs hP hD hS => ?_)
                have hP : va_P (dC, dI) vwCl [(q_this, .inr (12, [.ref q_town, .ref q_read, .ref q_now, .ref q_aside, .ref q_past, .int v_undos, .ref q_images, .ref q_kept, .long v_seed, .ref q_text, .int v_size, .int v_fault, .ref q_sights, .int v_sightMany, .ref q_book, .int v_bookMany, .int v_at, .int v_begin, .int v_sign, .int v_figures, .int v_value, .int v_wrong, .ref q_went, .ref q_free, .ref q_stands])), (q_town, .inl (cI, 27, .inl v_town)), (q_now, .inl (cI, 19, .inl v_now)), (q_free, .inl (cI, 8, .inl (upd (upd w67.2.2 (Int32.toNatClampNeg (v_town (Int32.toNatClampNeg (19 + w67.1)))) ((w67.2.2 (Int32.toNatClampNeg (v_town (Int32.toNatClampNeg (19 + w67.1))))) + (0 - 0))) (Int32.toNatClampNeg w67.1) (((upd w67.2.2 (Int32.toNatClampNeg (v_town (Int32.toNatClampNeg (19 + w67.1)))) ((w67.2.2 (Int32.toNatClampNeg (v_town (Int32.toNatClampNeg (19 + w67.1))))) + (0 - 0))) (Int32.toNatClampNeg w67.1)) + (0 - 0)))))] H := hP
                have hD : va_D A [(q_this, .inr (12, [.ref q_town, .ref q_read, .ref q_now, .ref q_aside, .ref q_past, .int v_undos, .ref q_images, .ref q_kept, .long v_seed, .ref q_text, .int v_size, .int v_fault, .ref q_sights, .int v_sightMany, .ref q_book, .int v_bookMany, .int v_at, .int v_begin, .int v_sign, .int v_figures, .int v_value, .int v_wrong, .ref q_went, .ref q_free, .ref q_stands])), (q_town, .inl (cI, 27, .inl v_town)), (q_now, .inl (cI, 19, .inl v_now)), (q_free, .inl (cI, 8, .inl (upd (upd w67.2.2 (Int32.toNatClampNeg (v_town (Int32.toNatClampNeg (19 + w67.1)))) ((w67.2.2 (Int32.toNatClampNeg (v_town (Int32.toNatClampNeg (19 + w67.1))))) + (0 - 0))) (Int32.toNatClampNeg w67.1) (((upd w67.2.2 (Int32.toNatClampNeg (v_town (Int32.toNatClampNeg (19 + w67.1)))) ((w67.2.2 (Int32.toNatClampNeg (v_town (Int32.toNatClampNeg (19 + w67.1))))) + (0 - 0))) (Int32.toNatClampNeg w67.1)) + (0 - 0)))))] := hD
                refine lv_iload_n hx hb dX12_held_194 rfl (lv_at hl 4 rfl) ?_
                refine lv_iload hx hb dX12_held_195 (lv_at hl 1 rfl) ?_
                refine lv_iload hx hb dX12_held_197 (lv_at hl 0 rfl) ?_
                refine lv_iadd hx hb dX12_held_199 ?_
                refine lv_iadd hx hb dX12_held_200 ?_
                refine lv_istore_n (lv' := [(1, .int (w67.2.1 + (0 + 0))), (5, .int 0), (4, .int 0), (3, .int (v_town (Int32.toNatClampNeg (19 + w67.1)))), (2, .int w67.1), (0, .ref q_this)]) hx hb dX12_held_201 rfl hl (by decide) rfl (fun ls hl => ?_)
                refine lv_iinc (v := (w67.1 + (-1))) (lv' := [(2, .int (w67.1 + (-1))), (1, .int (w67.2.1 + (0 + 0))), (5, .int 0), (4, .int 0), (3, .int (v_town (Int32.toNatClampNeg (19 + w67.1)))), (0, .ref q_this)]) hx hb dX12_held_202 hl (k := 4) rfl rfl (by decide) rfl (fun ls hl => ?_)
                refine lv_goto (tgt := 67) hx hb dX12_held_205 (by decide) ?_
                have hr9 := Option.some.inj hrun
                subst hr9
                exact ih ((w67.1 + (-1)), (w67.2.1 + (0 + 0)), (upd (upd w67.2.2 (Int32.toNatClampNeg (v_town (Int32.toNatClampNeg (19 + w67.1)))) ((w67.2.2 (Int32.toNatClampNeg (v_town (Int32.toNatClampNeg (19 + w67.1))))) + (0 - 0))) (Int32.toNatClampNeg w67.1) (((upd w67.2.2 (Int32.toNatClampNeg (v_town (Int32.toNatClampNeg (19 + w67.1)))) ((w67.2.2 (Int32.toNatClampNeg (v_town (Int32.toNatClampNeg (19 + w67.1))))) + (0 - 0))) (Int32.toNatClampNeg w67.1)) + (0 - 0)))) _ hnext hexit _ _ _ (hP.sub [0, 1, 2, 3] rfl) (hD.sub [0, 1, 2, 3] (by decide) rfl) hS (lv_sub hl [0, 1, 5] rfl)
              · have hrun := oz_f hrun c14
                refine lv_aload_n hx hb dX12_held_144 rfl (lv_at hl 4 rfl) ?_
                refine va_get (D := (dC, dI)) (ci := 12) (v := .ref q_free) (C := RX12) (T := TX12) (N := 25) hx hb hts hiX12 hown hK hP 0 rfl rfl 23 (by decide) hk48 (fun _ h9 => h9) rfl dX12_held_145 ?_
                refine lv_iload_n hx hb dX12_held_148 rfl (lv_at hl 2 rfl) ?_
                refine va_iald hx hb hK hP 3 0 rfl rfl c9 dX12_held_149 ?_
                refine lv_aload_n hx hb dX12_held_150 rfl (lv_at hl 4 rfl) ?_
                refine va_get (D := (dC, dI)) (ci := 12) (v := .ref q_free) (C := RX12) (T := TX12) (N := 25) hx hb hts hiX12 hown hK hP 0 rfl rfl 23 (by decide) hk48 (fun _ h9 => h9) rfl dX12_held_151 ?_
                refine lv_iload_n hx hb dX12_held_154 rfl (lv_at hl 1 rfl) ?_
                refine va_iald hx hb hK hP 3 0 rfl rfl c13 dX12_held_155 ?_
                refine lv_ineg hx hb dX12_held_156 ?_
                obtain ⟨y157, hc157, hrun⟩ := oz_bind hrun
                have hPc := hP.sub (ws' := []) [] rfl
                have hDc := hD.sub (ws' := []) [] (by decide) rfl
                have hFc := va_free (wc := []) hD hS hA [] rfl
                refine va_calli (va_runS (As := [.int (w67.2.2 (Int32.toNatClampNeg w67.1)), .int (-(w67.2.2 (Int32.toNatClampNeg (v_town (Int32.toNatClampNeg (19 + w67.1))))))]) (rest := []) ⟨hx, hb, hml, hown, hts⟩ (tX12_lesser l dC dI cI cZ H.size (w67.2.2 (Int32.toNatClampNeg w67.1)) (-(w67.2.2 (Int32.toNatClampNeg (v_town (Int32.toNatClampNeg (19 + w67.1)))))) y157 hc157) (va_cwS 2 hts gX12_held_X12_lesser rfl rfl rfl (by decide +kernel) ⟨Nat.le_of_ble_eq_true rfl, Nat.le_of_ble_eq_true rfl⟩) ⟨fun a U g mk q => by obtain ⟨q0, q1, qP, qK, qD⟩ := q; exact ⟨q0, q1, qP, va_K.moved (u := U) (U := U.calling g mk a) (Vm.Alike.refl U.vm) qK, qD⟩, fun U hU hW => ⟨rfl, by rw [hU], by rw [hU]; exact hPc, va_K.moved hW.alike hK, hDc.weaken (fun _ _ _ _ => trivial)⟩⟩ rfl rfl hl.1 rfl (lv_room (Nat.le_of_ble_eq_true rfl)) dX12_held_157 ⟨Nat.le_of_ble_eq_true rfl, Nat.le_of_ble_eq_true rfl⟩) hS (fun q _ h => hFc q h) hFc (fun r157 u9 t9 H1 locs ht9 hvm9 hw9 hB9 hz9 hkk9 hS => ?_)
                have hw9 : y157 = r157 := hw9.symm
                subst hw9
                obtain ⟨hP9, hK9, hD9⟩ := hB9
                rw [ht9] at hP9
                obtain ⟨hP, hD⟩ := va_join (wr := [(q_this, .inr (12, [.ref q_town, .ref q_read, .ref q_now, .ref q_aside, .ref q_past, .int v_undos, .ref q_images, .ref q_kept, .long v_seed, .ref q_text, .int v_size, .int v_fault, .ref q_sights, .int v_sightMany, .ref q_book, .int v_bookMany, .int v_at, .int v_begin, .int v_sign, .int v_figures, .int v_value, .int v_wrong, .ref q_went, .ref q_free, .ref q_stands])), (q_town, .inl (cI, 27, .inl v_town)), (q_now, .inl (cI, 19, .inl v_now)), (q_free, .inl (cI, 8, .inl w67.2.2))]) (w1 := []) hP hD [] [0, 1, 2, 3] rfl rfl (by decide) (by decide) hkk9 hFc hP9 hD9
                generalize H1 = H at hP hS ⊢
                have hP : va_P (dC, dI) vwCl [(q_this, .inr (12, [.ref q_town, .ref q_read, .ref q_now, .ref q_aside, .ref q_past, .int v_undos, .ref q_images, .ref q_kept, .long v_seed, .ref q_text, .int v_size, .int v_fault, .ref q_sights, .int v_sightMany, .ref q_book, .int v_bookMany, .int v_at, .int v_begin, .int v_sign, .int v_figures, .int v_value, .int v_wrong, .ref q_went, .ref q_free, .ref q_stands])), (q_town, .inl (cI, 27, .inl v_town)), (q_now, .inl (cI, 19, .inl v_now)), (q_free, .inl (cI, 8, .inl w67.2.2))] H := hP
                have hD : va_D A [(q_this, .inr (12, [.ref q_town, .ref q_read, .ref q_now, .ref q_aside, .ref q_past, .int v_undos, .ref q_images, .ref q_kept, .long v_seed, .ref q_text, .int v_size, .int v_fault, .ref q_sights, .int v_sightMany, .ref q_book, .int v_bookMany, .int v_at, .int v_begin, .int v_sign, .int v_figures, .int v_value, .int v_wrong, .ref q_went, .ref q_free, .ref q_stands])), (q_town, .inl (cI, 27, .inl v_town)), (q_now, .inl (cI, 19, .inl v_now)), (q_free, .inl (cI, 8, .inl w67.2.2))] := hD
                refine lv_goto (tgt := 164) hx hb dX12_held_160 (by decide) ?_
                refine lv_istore (lv' := [(5, .int y157), (4, .int 0), (3, .int (v_town (Int32.toNatClampNeg (19 + w67.1)))), (2, .int w67.1), (1, .int w67.2.1), (0, .ref q_this)]) hx hb dX12_held_164 hl (by decide) rfl (fun ls hl => ?_)
                refine lv_aload_n hx hb dX12_held_166 rfl (lv_at hl 5 rfl) ?_
                refine va_get (D := (dC, dI)) (ci := 12) (v := .ref q_free) (C := RX12) (T := TX12) (N := 25) hx hb hts hiX12 hown hK hP 0 rfl rfl 23 (by decide) hk48 (fun _ h9 => h9) rfl dX12_held_167 ?_
                refine lv_iload_n hx hb dX12_held_170 rfl (lv_at hl 2 rfl) ?_
                refine lv_dup2_11 hx hb dX12_held_171 rfl rfl ?_
                refine va_iald hx hb hK hP 3 0 rfl rfl c13 dX12_held_172 ?_
                refine lv_iload hx hb dX12_held_173 (lv_at hl 0 rfl) ?_
                refine lv_iload hx hb dX12_held_175 (lv_at hl 1 rfl) ?_
                refine lv_isub hx hb dX12_held_177 ?_
                refine lv_iadd hx hb dX12_held_178 ?_
                refine va_iast hx hb hK hP hD hS 3 0 rfl rfl c13 dX12_held_179 (fun H locs hP hD hS => ?_)
                have hP : va_P (dC, dI) vwCl [(q_this, .inr (12, [.ref q_town, .ref q_read, .ref q_now, .ref q_aside, .ref q_past, .int v_undos, .ref q_images, .ref q_kept, .long v_seed, .ref q_text, .int v_size, .int v_fault, .ref q_sights, .int v_sightMany, .ref q_book, .int v_bookMany, .int v_at, .int v_begin, .int v_sign, .int v_figures, .int v_value, .int v_wrong, .ref q_went, .ref q_free, .ref q_stands])), (q_town, .inl (cI, 27, .inl v_town)), (q_now, .inl (cI, 19, .inl v_now)), (q_free, .inl (cI, 8, .inl (upd w67.2.2 (Int32.toNatClampNeg (v_town (Int32.toNatClampNeg (19 + w67.1)))) ((w67.2.2 (Int32.toNatClampNeg (v_town (Int32.toNatClampNeg (19 + w67.1))))) + (y157 - 0)))))] H := hP
                have hD : va_D A [(q_this, .inr (12, [.ref q_town, .ref q_read, .ref q_now, .ref q_aside, .ref q_past, .int v_undos, .ref q_images, .ref q_kept, .long v_seed, .ref q_text, .int v_size, .int v_fault, .ref q_sights, .int v_sightMany, .ref q_book, .int v_bookMany, .int v_at, .int v_begin, .int v_sign, .int v_figures, .int v_value, .int v_wrong, .ref q_went, .ref q_free, .ref q_stands])), (q_town, .inl (cI, 27, .inl v_town)), (q_now, .inl (cI, 19, .inl v_now)), (q_free, .inl (cI, 8, .inl (upd w67.2.2 (Int32.toNatClampNeg (v_town (Int32.toNatClampNeg (19 + w67.1)))) ((w67.2.2 (Int32.toNatClampNeg (v_town (Int32.toNatClampNeg (19 + w67.1))))) + (y157 - 0)))))] := hD
                refine lv_aload_n hx hb dX12_held_180 rfl (lv_at hl 5 rfl) ?_
                refine va_get (D := (dC, dI)) (ci := 12) (v := .ref q_free) (C := RX12) (T := TX12) (N := 25) hx hb hts hiX12 hown hK hP 0 rfl rfl 23 (by decide) hk48 (fun _ h9 => h9) rfl dX12_held_181 ?_
                refine lv_iload_n hx hb dX12_held_184 rfl (lv_at hl 3 rfl) ?_
                refine lv_dup2_11 hx hb dX12_held_185 rfl rfl ?_
                refine va_iald hx hb hK hP 3 0 rfl rfl c9 dX12_held_186 ?_
                refine lv_iload hx hb dX12_held_187 (lv_at hl 1 rfl) ?_
                refine lv_iload hx hb dX12_held_189 (lv_at hl 0 rfl) ?_
                refine lv_isub hx hb dX12_held_191 ?_
                refine lv_iadd hx hb dX12_held_192 ?_
                refine va_iast hx hb hK hP hD hS 3 0 rfl rfl c9 dX12_held_193 (fun H locs hP hD hS => ?_)
                have hP : va_P (dC, dI) vwCl [(q_this, .inr (12, [.ref q_town, .ref q_read, .ref q_now, .ref q_aside, .ref q_past, .int v_undos, .ref q_images, .ref q_kept, .long v_seed, .ref q_text, .int v_size, .int v_fault, .ref q_sights, .int v_sightMany, .ref q_book, .int v_bookMany, .int v_at, .int v_begin, .int v_sign, .int v_figures, .int v_value, .int v_wrong, .ref q_went, .ref q_free, .ref q_stands])), (q_town, .inl (cI, 27, .inl v_town)), (q_now, .inl (cI, 19, .inl v_now)), (q_free, .inl (cI, 8, .inl (upd (upd w67.2.2 (Int32.toNatClampNeg (v_town (Int32.toNatClampNeg (19 + w67.1)))) ((w67.2.2 (Int32.toNatClampNeg (v_town (Int32.toNatClampNeg (19 + w67.1))))) + (y157 - 0))) (Int32.toNatClampNeg w67.1) (((upd w67.2.2 (Int32.toNatClampNeg (v_town (Int32.toNatClampNeg (19 + w67.1)))) ((w67.2.2 (Int32.toNatClampNeg (v_town (Int32.toNatClampNeg (19 + w67.1))))) + (y157 - 0))) (Int32.toNatClampNeg w67.1)) + (0 - y157)))))] H := hP
                have hD : va_D A [(q_this, .inr (12, [.ref q_town, .ref q_read, .ref q_now, .ref q_aside, .ref q_past, .int v_undos, .ref q_images, .ref q_kept, .long v_seed, .ref q_text, .int v_size, .int v_fault, .ref q_sights, .int v_sightMany, .ref q_book, .int v_bookMany, .int v_at, .int v_begin, .int v_sign, .int v_figures, .int v_value, .int v_wrong, .ref q_went, .ref q_free, .ref q_stands])), (q_town, .inl (cI, 27, .inl v_town)), (q_now, .inl (cI, 19, .inl v_now)), (q_free, .inl (cI, 8, .inl (upd (upd w67.2.2 (Int32.toNatClampNeg (v_town (Int32.toNatClampNeg (19 + w67.1)))) ((w67.2.2 (Int32.toNatClampNeg (v_town (Int32.toNatClampNeg (19 + w67.1))))) + (y157 - 0))) (Int32.toNatClampNeg w67.1) (((upd w67.2.2 (Int32.toNatClampNeg (v_town (Int32.toNatClampNeg (19 + w67.1)))) ((w67.2.2 (Int32.toNatClampNeg (v_town (Int32.toNatClampNeg (19 + w67.1))))) + (y157 - 0))) (Int32.toNatClampNeg w67.1)) + (0 - y157)))))] := hD
                refine lv_iload_n hx hb dX12_held_194 rfl (lv_at hl 4 rfl) ?_
                refine lv_iload hx hb dX12_held_195 (lv_at hl 1 rfl) ?_
                refine lv_iload hx hb dX12_held_197 (lv_at hl 0 rfl) ?_
                refine lv_iadd hx hb dX12_held_199 ?_
                refine lv_iadd hx hb dX12_held_200 ?_
                refine lv_istore_n (lv' := [(1, .int (w67.2.1 + (0 + y157))), (5, .int y157), (4, .int 0), (3, .int (v_town (Int32.toNatClampNeg (19 + w67.1)))), (2, .int w67.1), (0, .ref q_this)]) hx hb dX12_held_201 rfl hl (by decide) rfl (fun ls hl => ?_)
                refine lv_iinc (v := (w67.1 + (-1))) (lv' := [(2, .int (w67.1 + (-1))), (1, .int (w67.2.1 + (0 + y157))), (5, .int y157), (4, .int 0), (3, .int (v_town (Int32.toNatClampNeg (19 + w67.1)))), (0, .ref q_this)]) hx hb dX12_held_202 hl (k := 4) rfl rfl (by decide) rfl (fun ls hl => ?_)
                refine lv_goto (tgt := 67) hx hb dX12_held_205 (by decide) ?_
                have hr9 := Option.some.inj hrun
                subst hr9
                exact ih ((w67.1 + (-1)), (w67.2.1 + (0 + y157)), (upd (upd w67.2.2 (Int32.toNatClampNeg (v_town (Int32.toNatClampNeg (19 + w67.1)))) ((w67.2.2 (Int32.toNatClampNeg (v_town (Int32.toNatClampNeg (19 + w67.1))))) + (y157 - 0))) (Int32.toNatClampNeg w67.1) (((upd w67.2.2 (Int32.toNatClampNeg (v_town (Int32.toNatClampNeg (19 + w67.1)))) ((w67.2.2 (Int32.toNatClampNeg (v_town (Int32.toNatClampNeg (19 + w67.1))))) + (y157 - 0))) (Int32.toNatClampNeg w67.1)) + (0 - y157)))) _ hnext hexit _ _ _ (hP.sub [0, 1, 2, 3] rfl) (hD.sub [0, 1, 2, 3] (by decide) rfl) hS (lv_sub hl [0, 1, 5] rfl)
          · have hrun := oz_f hrun c10
            refine lv_aload_n hx hb dX12_held_95 rfl (lv_at hl 3 rfl) ?_
            refine va_get (D := (dC, dI)) (ci := 12) (v := .ref q_free) (C := RX12) (T := TX12) (N := 25) hx hb hts hiX12 hown hK hP 0 rfl rfl 23 (by decide) hk48 (fun _ h9 => h9) rfl dX12_held_96 ?_
            refine lv_iload_n hx hb dX12_held_99 rfl (lv_at hl 0 rfl) ?_
            obtain ⟨c15, hrun⟩ := oz_chk hrun
            refine va_iald hx hb hK hP 3 0 rfl rfl c15 dX12_held_100 ?_
            refine lv_if_le (tgt := 123) hx hb dX12_held_101 (by decide) (fun c16 => ?_) (fun c16 => ?_)
            · have hrun := oz_t hrun c16
              refine lv_iconst (v := 0) hx hb dX12_held_123 (by decide) ?_
              refine lv_istore (lv' := [(4, .int 0), (3, .int (v_town (Int32.toNatClampNeg (19 + w67.1)))), (2, .int w67.1), (1, .int w67.2.1), (0, .ref q_this)]) hx hb dX12_held_124 hl (by decide) rfl (fun ls hl => ?_)
              refine lv_aload_n hx hb dX12_held_126 rfl (lv_at hl 4 rfl) ?_
              refine va_get (D := (dC, dI)) (ci := 12) (v := .ref q_free) (C := RX12) (T := TX12) (N := 25) hx hb hts hiX12 hown hK hP 0 rfl rfl 23 (by decide) hk48 (fun _ h9 => h9) rfl dX12_held_127 ?_
              refine lv_iload_n hx hb dX12_held_130 rfl (lv_at hl 2 rfl) ?_
              refine va_iald hx hb hK hP 3 0 rfl rfl c9 dX12_held_131 ?_
              refine lv_if_le (tgt := 163) hx hb dX12_held_132 (by decide) (fun c17 => ?_) (fun c17 => ?_)
              · have hrun := oz_t hrun c17
                refine lv_iconst (v := 0) hx hb dX12_held_163 (by decide) ?_
                refine lv_istore (lv' := [(5, .int 0), (4, .int 0), (3, .int (v_town (Int32.toNatClampNeg (19 + w67.1)))), (2, .int w67.1), (1, .int w67.2.1), (0, .ref q_this)]) hx hb dX12_held_164 hl (by decide) rfl (fun ls hl => ?_)
                refine lv_aload_n hx hb dX12_held_166 rfl (lv_at hl 5 rfl) ?_
                refine va_get (D := (dC, dI)) (ci := 12) (v := .ref q_free) (C := RX12) (T := TX12) (N := 25) hx hb hts hiX12 hown hK hP 0 rfl rfl 23 (by decide) hk48 (fun _ h9 => h9) rfl dX12_held_167 ?_
                refine lv_iload_n hx hb dX12_held_170 rfl (lv_at hl 2 rfl) ?_
                refine lv_dup2_11 hx hb dX12_held_171 rfl rfl ?_
                refine va_iald hx hb hK hP 3 0 rfl rfl c15 dX12_held_172 ?_
                refine lv_iload hx hb dX12_held_173 (lv_at hl 0 rfl) ?_
                refine lv_iload hx hb dX12_held_175 (lv_at hl 1 rfl) ?_
                refine lv_isub hx hb dX12_held_177 ?_
                refine lv_iadd hx hb dX12_held_178 ?_
                refine va_iast hx hb hK hP hD hS 3 0 rfl rfl c15 dX12_held_179 (fun H locs hP hD hS => ?_)
                have hP : va_P (dC, dI) vwCl [(q_this, .inr (12, [.ref q_town, .ref q_read, .ref q_now, .ref q_aside, .ref q_past, .int v_undos, .ref q_images, .ref q_kept, .long v_seed, .ref q_text, .int v_size, .int v_fault, .ref q_sights, .int v_sightMany, .ref q_book, .int v_bookMany, .int v_at, .int v_begin, .int v_sign, .int v_figures, .int v_value, .int v_wrong, .ref q_went, .ref q_free, .ref q_stands])), (q_town, .inl (cI, 27, .inl v_town)), (q_now, .inl (cI, 19, .inl v_now)), (q_free, .inl (cI, 8, .inl (upd w67.2.2 (Int32.toNatClampNeg (v_town (Int32.toNatClampNeg (19 + w67.1)))) ((w67.2.2 (Int32.toNatClampNeg (v_town (Int32.toNatClampNeg (19 + w67.1))))) + (0 - 0)))))] H := hP
                have hD : va_D A [(q_this, .inr (12, [.ref q_town, .ref q_read, .ref q_now, .ref q_aside, .ref q_past, .int v_undos, .ref q_images, .ref q_kept, .long v_seed, .ref q_text, .int v_size, .int v_fault, .ref q_sights, .int v_sightMany, .ref q_book, .int v_bookMany, .int v_at, .int v_begin, .int v_sign, .int v_figures, .int v_value, .int v_wrong, .ref q_went, .ref q_free, .ref q_stands])), (q_town, .inl (cI, 27, .inl v_town)), (q_now, .inl (cI, 19, .inl v_now)), (q_free, .inl (cI, 8, .inl (upd w67.2.2 (Int32.toNatClampNeg (v_town (Int32.toNatClampNeg (19 + w67.1)))) ((w67.2.2 (Int32.toNatClampNeg (v_town (Int32.toNatClampNeg (19 + w67.1))))) + (0 - 0)))))] := hD
                refine lv_aload_n hx hb dX12_held_180 rfl (lv_at hl 5 rfl) ?_
                refine va_get (D := (dC, dI)) (ci := 12) (v := .ref q_free) (C := RX12) (T := TX12) (N := 25) hx hb hts hiX12 hown hK hP 0 rfl rfl 23 (by decide) hk48 (fun _ h9 => h9) rfl dX12_held_181 ?_
                refine lv_iload_n hx hb dX12_held_184 rfl (lv_at hl 3 rfl) ?_
                refine lv_dup2_11 hx hb dX12_held_185 rfl rfl ?_
                refine va_iald hx hb hK hP 3 0 rfl rfl c9 dX12_held_186 ?_
                refine lv_iload hx hb dX12_held_187 (lv_at hl 1 rfl) ?_
                refine lv_iload hx hb dX12_held_189 (lv_at hl 0 rfl) ?_
                refine lv_isub hx hb dX12_held_191 ?_
                refine lv_iadd hx hb dX12_held_192 ?_
                refine va_iast hx hb hK hP hD hS 3 0 rfl rfl c9 dX12_held_193 (fun H locs hP hD hS => ?_)
                have hP : va_P (dC, dI) vwCl [(q_this, .inr (12, [.ref q_town, .ref q_read, .ref q_now, .ref q_aside, .ref q_past, .int v_undos, .ref q_images, .ref q_kept, .long v_seed, .ref q_text, .int v_size, .int v_fault, .ref q_sights, .int v_sightMany, .ref q_book, .int v_bookMany, .int v_at, .int v_begin, .int v_sign, .int v_figures, .int v_value, .int v_wrong, .ref q_went, .ref q_free, .ref q_stands])), (q_town, .inl (cI, 27, .inl v_town)), (q_now, .inl (cI, 19, .inl v_now)), (q_free, .inl (cI, 8, .inl (upd (upd w67.2.2 (Int32.toNatClampNeg (v_town (Int32.toNatClampNeg (19 + w67.1)))) ((w67.2.2 (Int32.toNatClampNeg (v_town (Int32.toNatClampNeg (19 + w67.1))))) + (0 - 0))) (Int32.toNatClampNeg w67.1) (((upd w67.2.2 (Int32.toNatClampNeg (v_town (Int32.toNatClampNeg (19 + w67.1)))) ((w67.2.2 (Int32.toNatClampNeg (v_town (Int32.toNatClampNeg (19 + w67.1))))) + (0 - 0))) (Int32.toNatClampNeg w67.1)) + (0 - 0)))))] H := hP
                have hD : va_D A [(q_this, .inr (12, [.ref q_town, .ref q_read, .ref q_now, .ref q_aside, .ref q_past, .int v_undos, .ref q_images, .ref q_kept, .long v_seed, .ref q_text, .int v_size, .int v_fault, .ref q_sights, .int v_sightMany, .ref q_book, .int v_bookMany, .int v_at, .int v_begin, .int v_sign, .int v_figures, .int v_value, .int v_wrong, .ref q_went, .ref q_free, .ref q_stands])), (q_town, .inl (cI, 27, .inl v_town)), (q_now, .inl (cI, 19, .inl v_now)), (q_free, .inl (cI, 8, .inl (upd (upd w67.2.2 (Int32.toNatClampNeg (v_town (Int32.toNatClampNeg (19 + w67.1)))) ((w67.2.2 (Int32.toNatClampNeg (v_town (Int32.toNatClampNeg (19 + w67.1))))) + (0 - 0))) (Int32.toNatClampNeg w67.1) (((upd w67.2.2 (Int32.toNatClampNeg (v_town (Int32.toNatClampNeg (19 + w67.1)))) ((w67.2.2 (Int32.toNatClampNeg (v_town (Int32.toNatClampNeg (19 + w67.1))))) + (0 - 0))) (Int32.toNatClampNeg w67.1)) + (0 - 0)))))] := hD
                refine lv_iload_n hx hb dX12_held_194 rfl (lv_at hl 4 rfl) ?_
                refine lv_iload hx hb dX12_held_195 (lv_at hl 1 rfl) ?_
                refine lv_iload hx hb dX12_held_197 (lv_at hl 0 rfl) ?_
                refine lv_iadd hx hb dX12_held_199 ?_
                refine lv_iadd hx hb dX12_held_200 ?_
                refine lv_istore_n (lv' := [(1, .int (w67.2.1 + (0 + 0))), (5, .int 0), (4, .int 0), (3, .int (v_town (Int32.toNatClampNeg (19 + w67.1)))), (2, .int w67.1), (0, .ref q_this)]) hx hb dX12_held_201 rfl hl (by decide) rfl (fun ls hl => ?_)
                refine lv_iinc (v := (w67.1 + (-1))) (lv' := [(2, .int (w67.1 + (-1))), (1, .int (w67.2.1 + (0 + 0))), (5, .int 0), (4, .int 0), (3, .int (v_town (Int32.toNatClampNeg (19 + w67.1)))), (0, .ref q_this)]) hx hb dX12_held_202 hl (k := 4) rfl rfl (by decide) rfl (fun ls hl => ?_)
                refine lv_goto (tgt := 67) hx hb dX12_held_205 (by decide) ?_
                have hr9 := Option.some.inj hrun
                subst hr9
                exact ih ((w67.1 + (-1)), (w67.2.1 + (0 + 0)), (upd (upd w67.2.2 (Int32.toNatClampNeg (v_town (Int32.toNatClampNeg (19 + w67.1)))) ((w67.2.2 (Int32.toNatClampNeg (v_town (Int32.toNatClampNeg (19 + w67.1))))) + (0 - 0))) (Int32.toNatClampNeg w67.1) (((upd w67.2.2 (Int32.toNatClampNeg (v_town (Int32.toNatClampNeg (19 + w67.1)))) ((w67.2.2 (Int32.toNatClampNeg (v_town (Int32.toNatClampNeg (19 + w67.1))))) + (0 - 0))) (Int32.toNatClampNeg w67.1)) + (0 - 0)))) _ hnext hexit _ _ _ (hP.sub [0, 1, 2, 3] rfl) (hD.sub [0, 1, 2, 3] (by decide) rfl) hS (lv_sub hl [0, 1, 5] rfl)
              · have hrun := oz_f hrun c17
                refine lv_aload_n hx hb dX12_held_135 rfl (lv_at hl 4 rfl) ?_
                refine va_get (D := (dC, dI)) (ci := 12) (v := .ref q_free) (C := RX12) (T := TX12) (N := 25) hx hb hts hiX12 hown hK hP 0 rfl rfl 23 (by decide) hk48 (fun _ h9 => h9) rfl dX12_held_136 ?_
                refine lv_iload_n hx hb dX12_held_139 rfl (lv_at hl 1 rfl) ?_
                refine va_iald hx hb hK hP 3 0 rfl rfl c15 dX12_held_140 ?_
                refine lv_if_ge (tgt := 163) hx hb dX12_held_141 (by decide) (fun c18 => ?_) (fun c18 => ?_)
                · have hrun := oz_t hrun c18
                  refine lv_iconst (v := 0) hx hb dX12_held_163 (by decide) ?_
                  refine lv_istore (lv' := [(5, .int 0), (4, .int 0), (3, .int (v_town (Int32.toNatClampNeg (19 + w67.1)))), (2, .int w67.1), (1, .int w67.2.1), (0, .ref q_this)]) hx hb dX12_held_164 hl (by decide) rfl (fun ls hl => ?_)
                  refine lv_aload_n hx hb dX12_held_166 rfl (lv_at hl 5 rfl) ?_
                  refine va_get (D := (dC, dI)) (ci := 12) (v := .ref q_free) (C := RX12) (T := TX12) (N := 25) hx hb hts hiX12 hown hK hP 0 rfl rfl 23 (by decide) hk48 (fun _ h9 => h9) rfl dX12_held_167 ?_
                  refine lv_iload_n hx hb dX12_held_170 rfl (lv_at hl 2 rfl) ?_
                  refine lv_dup2_11 hx hb dX12_held_171 rfl rfl ?_
                  refine va_iald hx hb hK hP 3 0 rfl rfl c15 dX12_held_172 ?_
                  refine lv_iload hx hb dX12_held_173 (lv_at hl 0 rfl) ?_
                  refine lv_iload hx hb dX12_held_175 (lv_at hl 1 rfl) ?_
                  refine lv_isub hx hb dX12_held_177 ?_
                  refine lv_iadd hx hb dX12_held_178 ?_
                  refine va_iast hx hb hK hP hD hS 3 0 rfl rfl c15 dX12_held_179 (fun H locs hP hD hS => ?_)
                  have hP : va_P (dC, dI) vwCl [(q_this, .inr (12, [.ref q_town, .ref q_read, .ref q_now, .ref q_aside, .ref q_past, .int v_undos, .ref q_images, .ref q_kept, .long v_seed, .ref q_text, .int v_size, .int v_fault, .ref q_sights, .int v_sightMany, .ref q_book, .int v_bookMany, .int v_at, .int v_begin, .int v_sign, .int v_figures, .int v_value, .int v_wrong, .ref q_went, .ref q_free, .ref q_stands])), (q_town, .inl (cI, 27, .inl v_town)), (q_now, .inl (cI, 19, .inl v_now)), (q_free, .inl (cI, 8, .inl (upd w67.2.2 (Int32.toNatClampNeg (v_town (Int32.toNatClampNeg (19 + w67.1)))) ((w67.2.2 (Int32.toNatClampNeg (v_town (Int32.toNatClampNeg (19 + w67.1))))) + (0 - 0)))))] H := hP
                  have hD : va_D A [(q_this, .inr (12, [.ref q_town, .ref q_read, .ref q_now, .ref q_aside, .ref q_past, .int v_undos, .ref q_images, .ref q_kept, .long v_seed, .ref q_text, .int v_size, .int v_fault, .ref q_sights, .int v_sightMany, .ref q_book, .int v_bookMany, .int v_at, .int v_begin, .int v_sign, .int v_figures, .int v_value, .int v_wrong, .ref q_went, .ref q_free, .ref q_stands])), (q_town, .inl (cI, 27, .inl v_town)), (q_now, .inl (cI, 19, .inl v_now)), (q_free, .inl (cI, 8, .inl (upd w67.2.2 (Int32.toNatClampNeg (v_town (Int32.toNatClampNeg (19 + w67.1)))) ((w67.2.2 (Int32.toNatClampNeg (v_town (Int32.toNatClampNeg (19 + w67.1))))) + (0 - 0)))))] := hD
                  refine lv_aload_n hx hb dX12_held_180 rfl (lv_at hl 5 rfl) ?_
                  refine va_get (D := (dC, dI)) (ci := 12) (v := .ref q_free) (C := RX12) (T := TX12) (N := 25) hx hb hts hiX12 hown hK hP 0 rfl rfl 23 (by decide) hk48 (fun _ h9 => h9) rfl dX12_held_181 ?_
                  refine lv_iload_n hx hb dX12_held_184 rfl (lv_at hl 3 rfl) ?_
                  refine lv_dup2_11 hx hb dX12_held_185 rfl rfl ?_
                  refine va_iald hx hb hK hP 3 0 rfl rfl c9 dX12_held_186 ?_
                  refine lv_iload hx hb dX12_held_187 (lv_at hl 1 rfl) ?_
                  refine lv_iload hx hb dX12_held_189 (lv_at hl 0 rfl) ?_
                  refine lv_isub hx hb dX12_held_191 ?_
                  refine lv_iadd hx hb dX12_held_192 ?_
                  refine va_iast hx hb hK hP hD hS 3 0 rfl rfl c9 dX12_held_193 (fun H locs hP hD hS => ?_)
                  have hP : va_P (dC, dI) vwCl [(q_this, .inr (12, [.ref q_town, .ref q_read, .ref q_now, .ref q_aside, .ref q_past, .int v_undos, .ref q_images, .ref q_kept, .long v_seed, .ref q_text, .int v_size, .int v_fault, .ref q_sights, .int v_sightMany, .ref q_book, .int v_bookMany, .int v_at, .int v_begin, .int v_sign, .int v_figures, .int v_value, .int v_wrong, .ref q_went, .ref q_free, .ref q_stands])), (q_town, .inl (cI, 27, .inl v_town)), (q_now, .inl (cI, 19, .inl v_now)), (q_free, .inl (cI, 8, .inl (upd (upd w67.2.2 (Int32.toNatClampNeg (v_town (Int32.toNatClampNeg (19 + w67.1)))) ((w67.2.2 (Int32.toNatClampNeg (v_town (Int32.toNatClampNeg (19 + w67.1))))) + (0 - 0))) (Int32.toNatClampNeg w67.1) (((upd w67.2.2 (Int32.toNatClampNeg (v_town (Int32.toNatClampNeg (19 + w67.1)))) ((w67.2.2 (Int32.toNatClampNeg (v_town (Int32.toNatClampNeg (19 + w67.1))))) + (0 - 0))) (Int32.toNatClampNeg w67.1)) + (0 - 0)))))] H := hP
                  have hD : va_D A [(q_this, .inr (12, [.ref q_town, .ref q_read, .ref q_now, .ref q_aside, .ref q_past, .int v_undos, .ref q_images, .ref q_kept, .long v_seed, .ref q_text, .int v_size, .int v_fault, .ref q_sights, .int v_sightMany, .ref q_book, .int v_bookMany, .int v_at, .int v_begin, .int v_sign, .int v_figures, .int v_value, .int v_wrong, .ref q_went, .ref q_free, .ref q_stands])), (q_town, .inl (cI, 27, .inl v_town)), (q_now, .inl (cI, 19, .inl v_now)), (q_free, .inl (cI, 8, .inl (upd (upd w67.2.2 (Int32.toNatClampNeg (v_town (Int32.toNatClampNeg (19 + w67.1)))) ((w67.2.2 (Int32.toNatClampNeg (v_town (Int32.toNatClampNeg (19 + w67.1))))) + (0 - 0))) (Int32.toNatClampNeg w67.1) (((upd w67.2.2 (Int32.toNatClampNeg (v_town (Int32.toNatClampNeg (19 + w67.1)))) ((w67.2.2 (Int32.toNatClampNeg (v_town (Int32.toNatClampNeg (19 + w67.1))))) + (0 - 0))) (Int32.toNatClampNeg w67.1)) + (0 - 0)))))] := hD
                  refine lv_iload_n hx hb dX12_held_194 rfl (lv_at hl 4 rfl) ?_
                  refine lv_iload hx hb dX12_held_195 (lv_at hl 1 rfl) ?_
                  refine lv_iload hx hb dX12_held_197 (lv_at hl 0 rfl) ?_
                  refine lv_iadd hx hb dX12_held_199 ?_
                  refine lv_iadd hx hb dX12_held_200 ?_
                  refine lv_istore_n (lv' := [(1, .int (w67.2.1 + (0 + 0))), (5, .int 0), (4, .int 0), (3, .int (v_town (Int32.toNatClampNeg (19 + w67.1)))), (2, .int w67.1), (0, .ref q_this)]) hx hb dX12_held_201 rfl hl (by decide) rfl (fun ls hl => ?_)
                  refine lv_iinc (v := (w67.1 + (-1))) (lv' := [(2, .int (w67.1 + (-1))), (1, .int (w67.2.1 + (0 + 0))), (5, .int 0), (4, .int 0), (3, .int (v_town (Int32.toNatClampNeg (19 + w67.1)))), (0, .ref q_this)]) hx hb dX12_held_202 hl (k := 4) rfl rfl (by decide) rfl (fun ls hl => ?_)
                  refine lv_goto (tgt := 67) hx hb dX12_held_205 (by decide) ?_
                  have hr9 := Option.some.inj hrun
                  subst hr9
                  exact ih ((w67.1 + (-1)), (w67.2.1 + (0 + 0)), (upd (upd w67.2.2 (Int32.toNatClampNeg (v_town (Int32.toNatClampNeg (19 + w67.1)))) ((w67.2.2 (Int32.toNatClampNeg (v_town (Int32.toNatClampNeg (19 + w67.1))))) + (0 - 0))) (Int32.toNatClampNeg w67.1) (((upd w67.2.2 (Int32.toNatClampNeg (v_town (Int32.toNatClampNeg (19 + w67.1)))) ((w67.2.2 (Int32.toNatClampNeg (v_town (Int32.toNatClampNeg (19 + w67.1))))) + (0 - 0))) (Int32.toNatClampNeg w67.1)) + (0 - 0)))) _ hnext hexit _ _ _ (hP.sub [0, 1, 2, 3] rfl) (hD.sub [0, 1, 2, 3] (by decide) rfl) hS (lv_sub hl [0, 1, 5] rfl)
                · have hrun := oz_f hrun c18
                  refine lv_aload_n hx hb dX12_held_144 rfl (lv_at hl 4 rfl) ?_
                  refine va_get (D := (dC, dI)) (ci := 12) (v := .ref q_free) (C := RX12) (T := TX12) (N := 25) hx hb hts hiX12 hown hK hP 0 rfl rfl 23 (by decide) hk48 (fun _ h9 => h9) rfl dX12_held_145 ?_
                  refine lv_iload_n hx hb dX12_held_148 rfl (lv_at hl 2 rfl) ?_
                  refine va_iald hx hb hK hP 3 0 rfl rfl c9 dX12_held_149 ?_
                  refine lv_aload_n hx hb dX12_held_150 rfl (lv_at hl 4 rfl) ?_
                  refine va_get (D := (dC, dI)) (ci := 12) (v := .ref q_free) (C := RX12) (T := TX12) (N := 25) hx hb hts hiX12 hown hK hP 0 rfl rfl 23 (by decide) hk48 (fun _ h9 => h9) rfl dX12_held_151 ?_
                  refine lv_iload_n hx hb dX12_held_154 rfl (lv_at hl 1 rfl) ?_
                  refine va_iald hx hb hK hP 3 0 rfl rfl c15 dX12_held_155 ?_
                  refine lv_ineg hx hb dX12_held_156 ?_
                  obtain ⟨y157, hc157, hrun⟩ := oz_bind hrun
                  have hPc := hP.sub (ws' := []) [] rfl
                  have hDc := hD.sub (ws' := []) [] (by decide) rfl
                  have hFc := va_free (wc := []) hD hS hA [] rfl
                  refine va_calli (va_runS (As := [.int (w67.2.2 (Int32.toNatClampNeg w67.1)), .int (-(w67.2.2 (Int32.toNatClampNeg (v_town (Int32.toNatClampNeg (19 + w67.1))))))]) (rest := []) ⟨hx, hb, hml, hown, hts⟩ (tX12_lesser l dC dI cI cZ H.size (w67.2.2 (Int32.toNatClampNeg w67.1)) (-(w67.2.2 (Int32.toNatClampNeg (v_town (Int32.toNatClampNeg (19 + w67.1)))))) y157 hc157) (va_cwS 2 hts gX12_held_X12_lesser rfl rfl rfl (by decide +kernel) ⟨Nat.le_of_ble_eq_true rfl, Nat.le_of_ble_eq_true rfl⟩) ⟨fun a U g mk q => by obtain ⟨q0, q1, qP, qK, qD⟩ := q; exact ⟨q0, q1, qP, va_K.moved (u := U) (U := U.calling g mk a) (Vm.Alike.refl U.vm) qK, qD⟩, fun U hU hW => ⟨rfl, by rw [hU], by rw [hU]; exact hPc, va_K.moved hW.alike hK, hDc.weaken (fun _ _ _ _ => trivial)⟩⟩ rfl rfl hl.1 rfl (lv_room (Nat.le_of_ble_eq_true rfl)) dX12_held_157 ⟨Nat.le_of_ble_eq_true rfl, Nat.le_of_ble_eq_true rfl⟩) hS (fun q _ h => hFc q h) hFc (fun r157 u9 t9 H1 locs ht9 hvm9 hw9 hB9 hz9 hkk9 hS => ?_)
                  have hw9 : y157 = r157 := hw9.symm
                  subst hw9
                  obtain ⟨hP9, hK9, hD9⟩ := hB9
                  rw [ht9] at hP9
                  obtain ⟨hP, hD⟩ := va_join (wr := [(q_this, .inr (12, [.ref q_town, .ref q_read, .ref q_now, .ref q_aside, .ref q_past, .int v_undos, .ref q_images, .ref q_kept, .long v_seed, .ref q_text, .int v_size, .int v_fault, .ref q_sights, .int v_sightMany, .ref q_book, .int v_bookMany, .int v_at, .int v_begin, .int v_sign, .int v_figures, .int v_value, .int v_wrong, .ref q_went, .ref q_free, .ref q_stands])), (q_town, .inl (cI, 27, .inl v_town)), (q_now, .inl (cI, 19, .inl v_now)), (q_free, .inl (cI, 8, .inl w67.2.2))]) (w1 := []) hP hD [] [0, 1, 2, 3] rfl rfl (by decide) (by decide) hkk9 hFc hP9 hD9
                  generalize H1 = H at hP hS ⊢
                  have hP : va_P (dC, dI) vwCl [(q_this, .inr (12, [.ref q_town, .ref q_read, .ref q_now, .ref q_aside, .ref q_past, .int v_undos, .ref q_images, .ref q_kept, .long v_seed, .ref q_text, .int v_size, .int v_fault, .ref q_sights, .int v_sightMany, .ref q_book, .int v_bookMany, .int v_at, .int v_begin, .int v_sign, .int v_figures, .int v_value, .int v_wrong, .ref q_went, .ref q_free, .ref q_stands])), (q_town, .inl (cI, 27, .inl v_town)), (q_now, .inl (cI, 19, .inl v_now)), (q_free, .inl (cI, 8, .inl w67.2.2))] H := hP
                  have hD : va_D A [(q_this, .inr (12, [.ref q_town, .ref q_read, .ref q_now, .ref q_aside, .ref q_past, .int v_undos, .ref q_images, .ref q_kept, .long v_seed, .ref q_text, .int v_size, .int v_fault, .ref q_sights, .int v_sightMany, .ref q_book, .int v_bookMany, .int v_at, .int v_begin, .int v_sign, .int v_figures, .int v_value, .int v_wrong, .ref q_went, .ref q_free, .ref q_stands])), (q_town, .inl (cI, 27, .inl v_town)), (q_now, .inl (cI, 19, .inl v_now)), (q_free, .inl (cI, 8, .inl w67.2.2))] := hD
                  refine lv_goto (tgt := 164) hx hb dX12_held_160 (by decide) ?_
                  refine lv_istore (lv' := [(5, .int y157), (4, .int 0), (3, .int (v_town (Int32.toNatClampNeg (19 + w67.1)))), (2, .int w67.1), (1, .int w67.2.1), (0, .ref q_this)]) hx hb dX12_held_164 hl (by decide) rfl (fun ls hl => ?_)
                  refine lv_aload_n hx hb dX12_held_166 rfl (lv_at hl 5 rfl) ?_
                  refine va_get (D := (dC, dI)) (ci := 12) (v := .ref q_free) (C := RX12) (T := TX12) (N := 25) hx hb hts hiX12 hown hK hP 0 rfl rfl 23 (by decide) hk48 (fun _ h9 => h9) rfl dX12_held_167 ?_
                  refine lv_iload_n hx hb dX12_held_170 rfl (lv_at hl 2 rfl) ?_
                  refine lv_dup2_11 hx hb dX12_held_171 rfl rfl ?_
                  refine va_iald hx hb hK hP 3 0 rfl rfl c15 dX12_held_172 ?_
                  refine lv_iload hx hb dX12_held_173 (lv_at hl 0 rfl) ?_
                  refine lv_iload hx hb dX12_held_175 (lv_at hl 1 rfl) ?_
                  refine lv_isub hx hb dX12_held_177 ?_
                  refine lv_iadd hx hb dX12_held_178 ?_
                  refine va_iast hx hb hK hP hD hS 3 0 rfl rfl c15 dX12_held_179 (fun H locs hP hD hS => ?_)
                  have hP : va_P (dC, dI) vwCl [(q_this, .inr (12, [.ref q_town, .ref q_read, .ref q_now, .ref q_aside, .ref q_past, .int v_undos, .ref q_images, .ref q_kept, .long v_seed, .ref q_text, .int v_size, .int v_fault, .ref q_sights, .int v_sightMany, .ref q_book, .int v_bookMany, .int v_at, .int v_begin, .int v_sign, .int v_figures, .int v_value, .int v_wrong, .ref q_went, .ref q_free, .ref q_stands])), (q_town, .inl (cI, 27, .inl v_town)), (q_now, .inl (cI, 19, .inl v_now)), (q_free, .inl (cI, 8, .inl (upd w67.2.2 (Int32.toNatClampNeg (v_town (Int32.toNatClampNeg (19 + w67.1)))) ((w67.2.2 (Int32.toNatClampNeg (v_town (Int32.toNatClampNeg (19 + w67.1))))) + (y157 - 0)))))] H := hP
                  have hD : va_D A [(q_this, .inr (12, [.ref q_town, .ref q_read, .ref q_now, .ref q_aside, .ref q_past, .int v_undos, .ref q_images, .ref q_kept, .long v_seed, .ref q_text, .int v_size, .int v_fault, .ref q_sights, .int v_sightMany, .ref q_book, .int v_bookMany, .int v_at, .int v_begin, .int v_sign, .int v_figures, .int v_value, .int v_wrong, .ref q_went, .ref q_free, .ref q_stands])), (q_town, .inl (cI, 27, .inl v_town)), (q_now, .inl (cI, 19, .inl v_now)), (q_free, .inl (cI, 8, .inl (upd w67.2.2 (Int32.toNatClampNeg (v_town (Int32.toNatClampNeg (19 + w67.1)))) ((w67.2.2 (Int32.toNatClampNeg (v_town (Int32.toNatClampNeg (19 + w67.1))))) + (y157 - 0)))))] := hD
                  refine lv_aload_n hx hb dX12_held_180 rfl (lv_at hl 5 rfl) ?_
                  refine va_get (D := (dC, dI)) (ci := 12) (v := .ref q_free) (C := RX12) (T := TX12) (N := 25) hx hb hts hiX12 hown hK hP 0 rfl rfl 23 (by decide) hk48 (fun _ h9 => h9) rfl dX12_held_181 ?_
                  refine lv_iload_n hx hb dX12_held_184 rfl (lv_at hl 3 rfl) ?_
                  refine lv_dup2_11 hx hb dX12_held_185 rfl rfl ?_
                  refine va_iald hx hb hK hP 3 0 rfl rfl c9 dX12_held_186 ?_
                  refine lv_iload hx hb dX12_held_187 (lv_at hl 1 rfl) ?_
                  refine lv_iload hx hb dX12_held_189 (lv_at hl 0 rfl) ?_
                  refine lv_isub hx hb dX12_held_191 ?_
                  refine lv_iadd hx hb dX12_held_192 ?_
                  refine va_iast hx hb hK hP hD hS 3 0 rfl rfl c9 dX12_held_193 (fun H locs hP hD hS => ?_)
                  have hP : va_P (dC, dI) vwCl [(q_this, .inr (12, [.ref q_town, .ref q_read, .ref q_now, .ref q_aside, .ref q_past, .int v_undos, .ref q_images, .ref q_kept, .long v_seed, .ref q_text, .int v_size, .int v_fault, .ref q_sights, .int v_sightMany, .ref q_book, .int v_bookMany, .int v_at, .int v_begin, .int v_sign, .int v_figures, .int v_value, .int v_wrong, .ref q_went, .ref q_free, .ref q_stands])), (q_town, .inl (cI, 27, .inl v_town)), (q_now, .inl (cI, 19, .inl v_now)), (q_free, .inl (cI, 8, .inl (upd (upd w67.2.2 (Int32.toNatClampNeg (v_town (Int32.toNatClampNeg (19 + w67.1)))) ((w67.2.2 (Int32.toNatClampNeg (v_town (Int32.toNatClampNeg (19 + w67.1))))) + (y157 - 0))) (Int32.toNatClampNeg w67.1) (((upd w67.2.2 (Int32.toNatClampNeg (v_town (Int32.toNatClampNeg (19 + w67.1)))) ((w67.2.2 (Int32.toNatClampNeg (v_town (Int32.toNatClampNeg (19 + w67.1))))) + (y157 - 0))) (Int32.toNatClampNeg w67.1)) + (0 - y157)))))] H := hP
                  have hD : va_D A [(q_this, .inr (12, [.ref q_town, .ref q_read, .ref q_now, .ref q_aside, .ref q_past, .int v_undos, .ref q_images, .ref q_kept, .long v_seed, .ref q_text, .int v_size, .int v_fault, .ref q_sights, .int v_sightMany, .ref q_book, .int v_bookMany, .int v_at, .int v_begin, .int v_sign, .int v_figures, .int v_value, .int v_wrong, .ref q_went, .ref q_free, .ref q_stands])), (q_town, .inl (cI, 27, .inl v_town)), (q_now, .inl (cI, 19, .inl v_now)), (q_free, .inl (cI, 8, .inl (upd (upd w67.2.2 (Int32.toNatClampNeg (v_town (Int32.toNatClampNeg (19 + w67.1)))) ((w67.2.2 (Int32.toNatClampNeg (v_town (Int32.toNatClampNeg (19 + w67.1))))) + (y157 - 0))) (Int32.toNatClampNeg w67.1) (((upd w67.2.2 (Int32.toNatClampNeg (v_town (Int32.toNatClampNeg (19 + w67.1)))) ((w67.2.2 (Int32.toNatClampNeg (v_town (Int32.toNatClampNeg (19 + w67.1))))) + (y157 - 0))) (Int32.toNatClampNeg w67.1)) + (0 - y157)))))] := hD
                  refine lv_iload_n hx hb dX12_held_194 rfl (lv_at hl 4 rfl) ?_
                  refine lv_iload hx hb dX12_held_195 (lv_at hl 1 rfl) ?_
                  refine lv_iload hx hb dX12_held_197 (lv_at hl 0 rfl) ?_
                  refine lv_iadd hx hb dX12_held_199 ?_
                  refine lv_iadd hx hb dX12_held_200 ?_
                  refine lv_istore_n (lv' := [(1, .int (w67.2.1 + (0 + y157))), (5, .int y157), (4, .int 0), (3, .int (v_town (Int32.toNatClampNeg (19 + w67.1)))), (2, .int w67.1), (0, .ref q_this)]) hx hb dX12_held_201 rfl hl (by decide) rfl (fun ls hl => ?_)
                  refine lv_iinc (v := (w67.1 + (-1))) (lv' := [(2, .int (w67.1 + (-1))), (1, .int (w67.2.1 + (0 + y157))), (5, .int y157), (4, .int 0), (3, .int (v_town (Int32.toNatClampNeg (19 + w67.1)))), (0, .ref q_this)]) hx hb dX12_held_202 hl (k := 4) rfl rfl (by decide) rfl (fun ls hl => ?_)
                  refine lv_goto (tgt := 67) hx hb dX12_held_205 (by decide) ?_
                  have hr9 := Option.some.inj hrun
                  subst hr9
                  exact ih ((w67.1 + (-1)), (w67.2.1 + (0 + y157)), (upd (upd w67.2.2 (Int32.toNatClampNeg (v_town (Int32.toNatClampNeg (19 + w67.1)))) ((w67.2.2 (Int32.toNatClampNeg (v_town (Int32.toNatClampNeg (19 + w67.1))))) + (y157 - 0))) (Int32.toNatClampNeg w67.1) (((upd w67.2.2 (Int32.toNatClampNeg (v_town (Int32.toNatClampNeg (19 + w67.1)))) ((w67.2.2 (Int32.toNatClampNeg (v_town (Int32.toNatClampNeg (19 + w67.1))))) + (y157 - 0))) (Int32.toNatClampNeg w67.1)) + (0 - y157)))) _ hnext hexit _ _ _ (hP.sub [0, 1, 2, 3] rfl) (hD.sub [0, 1, 2, 3] (by decide) rfl) hS (lv_sub hl [0, 1, 5] rfl)
            · have hrun := oz_f hrun c16
              refine lv_aload_n hx hb dX12_held_104 rfl (lv_at hl 3 rfl) ?_
              refine va_get (D := (dC, dI)) (ci := 12) (v := .ref q_free) (C := RX12) (T := TX12) (N := 25) hx hb hts hiX12 hown hK hP 0 rfl rfl 23 (by decide) hk48 (fun _ h9 => h9) rfl dX12_held_105 ?_
              refine lv_iload_n hx hb dX12_held_108 rfl (lv_at hl 1 rfl) ?_
              refine va_iald hx hb hK hP 3 0 rfl rfl c9 dX12_held_109 ?_
              refine lv_ineg hx hb dX12_held_110 ?_
              refine lv_aload_n hx hb dX12_held_111 rfl (lv_at hl 3 rfl) ?_
              refine va_get (D := (dC, dI)) (ci := 12) (v := .ref q_free) (C := RX12) (T := TX12) (N := 25) hx hb hts hiX12 hown hK hP 0 rfl rfl 23 (by decide) hk48 (fun _ h9 => h9) rfl dX12_held_112 ?_
              refine lv_iload_n hx hb dX12_held_115 rfl (lv_at hl 0 rfl) ?_
              refine va_iald hx hb hK hP 3 0 rfl rfl c15 dX12_held_116 ?_
              obtain ⟨y117, hc117, hrun⟩ := oz_bind hrun
              have hPc := hP.sub (ws' := []) [] rfl
              have hDc := hD.sub (ws' := []) [] (by decide) rfl
              have hFc := va_free (wc := []) hD hS hA [] rfl
              refine va_calli (va_runS (As := [.int (-(w67.2.2 (Int32.toNatClampNeg w67.1))), .int (w67.2.2 (Int32.toNatClampNeg (v_town (Int32.toNatClampNeg (19 + w67.1)))))]) (rest := []) ⟨hx, hb, hml, hown, hts⟩ (tX12_lesser l dC dI cI cZ H.size (-(w67.2.2 (Int32.toNatClampNeg w67.1))) (w67.2.2 (Int32.toNatClampNeg (v_town (Int32.toNatClampNeg (19 + w67.1))))) y117 hc117) (va_cwS 2 hts gX12_held_X12_lesser rfl rfl rfl (by decide +kernel) ⟨Nat.le_of_ble_eq_true rfl, Nat.le_of_ble_eq_true rfl⟩) ⟨fun a U g mk q => by obtain ⟨q0, q1, qP, qK, qD⟩ := q; exact ⟨q0, q1, qP, va_K.moved (u := U) (U := U.calling g mk a) (Vm.Alike.refl U.vm) qK, qD⟩, fun U hU hW => ⟨rfl, by rw [hU], by rw [hU]; exact hPc, va_K.moved hW.alike hK, hDc.weaken (fun _ _ _ _ => trivial)⟩⟩ rfl rfl hl.1 rfl (lv_room (Nat.le_of_ble_eq_true rfl)) dX12_held_117 ⟨Nat.le_of_ble_eq_true rfl, Nat.le_of_ble_eq_true rfl⟩) hS (fun q _ h => hFc q h) hFc (fun r117 u9 t9 H1 locs ht9 hvm9 hw9 hB9 hz9 hkk9 hS => ?_)
              have hw9 : y117 = r117 := hw9.symm
              subst hw9
              obtain ⟨hP9, hK9, hD9⟩ := hB9
              rw [ht9] at hP9
              obtain ⟨hP, hD⟩ := va_join (wr := [(q_this, .inr (12, [.ref q_town, .ref q_read, .ref q_now, .ref q_aside, .ref q_past, .int v_undos, .ref q_images, .ref q_kept, .long v_seed, .ref q_text, .int v_size, .int v_fault, .ref q_sights, .int v_sightMany, .ref q_book, .int v_bookMany, .int v_at, .int v_begin, .int v_sign, .int v_figures, .int v_value, .int v_wrong, .ref q_went, .ref q_free, .ref q_stands])), (q_town, .inl (cI, 27, .inl v_town)), (q_now, .inl (cI, 19, .inl v_now)), (q_free, .inl (cI, 8, .inl w67.2.2))]) (w1 := []) hP hD [] [0, 1, 2, 3] rfl rfl (by decide) (by decide) hkk9 hFc hP9 hD9
              generalize H1 = H at hP hS ⊢
              have hP : va_P (dC, dI) vwCl [(q_this, .inr (12, [.ref q_town, .ref q_read, .ref q_now, .ref q_aside, .ref q_past, .int v_undos, .ref q_images, .ref q_kept, .long v_seed, .ref q_text, .int v_size, .int v_fault, .ref q_sights, .int v_sightMany, .ref q_book, .int v_bookMany, .int v_at, .int v_begin, .int v_sign, .int v_figures, .int v_value, .int v_wrong, .ref q_went, .ref q_free, .ref q_stands])), (q_town, .inl (cI, 27, .inl v_town)), (q_now, .inl (cI, 19, .inl v_now)), (q_free, .inl (cI, 8, .inl w67.2.2))] H := hP
              have hD : va_D A [(q_this, .inr (12, [.ref q_town, .ref q_read, .ref q_now, .ref q_aside, .ref q_past, .int v_undos, .ref q_images, .ref q_kept, .long v_seed, .ref q_text, .int v_size, .int v_fault, .ref q_sights, .int v_sightMany, .ref q_book, .int v_bookMany, .int v_at, .int v_begin, .int v_sign, .int v_figures, .int v_value, .int v_wrong, .ref q_went, .ref q_free, .ref q_stands])), (q_town, .inl (cI, 27, .inl v_town)), (q_now, .inl (cI, 19, .inl v_now)), (q_free, .inl (cI, 8, .inl w67.2.2))] := hD
              refine lv_goto (tgt := 124) hx hb dX12_held_120 (by decide) ?_
              refine lv_istore (lv' := [(4, .int y117), (3, .int (v_town (Int32.toNatClampNeg (19 + w67.1)))), (2, .int w67.1), (1, .int w67.2.1), (0, .ref q_this)]) hx hb dX12_held_124 hl (by decide) rfl (fun ls hl => ?_)
              refine lv_aload_n hx hb dX12_held_126 rfl (lv_at hl 4 rfl) ?_
              refine va_get (D := (dC, dI)) (ci := 12) (v := .ref q_free) (C := RX12) (T := TX12) (N := 25) hx hb hts hiX12 hown hK hP 0 rfl rfl 23 (by decide) hk48 (fun _ h9 => h9) rfl dX12_held_127 ?_
              refine lv_iload_n hx hb dX12_held_130 rfl (lv_at hl 2 rfl) ?_
              refine va_iald hx hb hK hP 3 0 rfl rfl c9 dX12_held_131 ?_
              refine lv_if_le (tgt := 163) hx hb dX12_held_132 (by decide) (fun c19 => ?_) (fun c19 => ?_)
              · have hrun := oz_t hrun c19
                refine lv_iconst (v := 0) hx hb dX12_held_163 (by decide) ?_
                refine lv_istore (lv' := [(5, .int 0), (4, .int y117), (3, .int (v_town (Int32.toNatClampNeg (19 + w67.1)))), (2, .int w67.1), (1, .int w67.2.1), (0, .ref q_this)]) hx hb dX12_held_164 hl (by decide) rfl (fun ls hl => ?_)
                refine lv_aload_n hx hb dX12_held_166 rfl (lv_at hl 5 rfl) ?_
                refine va_get (D := (dC, dI)) (ci := 12) (v := .ref q_free) (C := RX12) (T := TX12) (N := 25) hx hb hts hiX12 hown hK hP 0 rfl rfl 23 (by decide) hk48 (fun _ h9 => h9) rfl dX12_held_167 ?_
                refine lv_iload_n hx hb dX12_held_170 rfl (lv_at hl 2 rfl) ?_
                refine lv_dup2_11 hx hb dX12_held_171 rfl rfl ?_
                refine va_iald hx hb hK hP 3 0 rfl rfl c15 dX12_held_172 ?_
                refine lv_iload hx hb dX12_held_173 (lv_at hl 0 rfl) ?_
                refine lv_iload hx hb dX12_held_175 (lv_at hl 1 rfl) ?_
                refine lv_isub hx hb dX12_held_177 ?_
                refine lv_iadd hx hb dX12_held_178 ?_
                refine va_iast hx hb hK hP hD hS 3 0 rfl rfl c15 dX12_held_179 (fun H locs hP hD hS => ?_)
                have hP : va_P (dC, dI) vwCl [(q_this, .inr (12, [.ref q_town, .ref q_read, .ref q_now, .ref q_aside, .ref q_past, .int v_undos, .ref q_images, .ref q_kept, .long v_seed, .ref q_text, .int v_size, .int v_fault, .ref q_sights, .int v_sightMany, .ref q_book, .int v_bookMany, .int v_at, .int v_begin, .int v_sign, .int v_figures, .int v_value, .int v_wrong, .ref q_went, .ref q_free, .ref q_stands])), (q_town, .inl (cI, 27, .inl v_town)), (q_now, .inl (cI, 19, .inl v_now)), (q_free, .inl (cI, 8, .inl (upd w67.2.2 (Int32.toNatClampNeg (v_town (Int32.toNatClampNeg (19 + w67.1)))) ((w67.2.2 (Int32.toNatClampNeg (v_town (Int32.toNatClampNeg (19 + w67.1))))) + (0 - y117)))))] H := hP
                have hD : va_D A [(q_this, .inr (12, [.ref q_town, .ref q_read, .ref q_now, .ref q_aside, .ref q_past, .int v_undos, .ref q_images, .ref q_kept, .long v_seed, .ref q_text, .int v_size, .int v_fault, .ref q_sights, .int v_sightMany, .ref q_book, .int v_bookMany, .int v_at, .int v_begin, .int v_sign, .int v_figures, .int v_value, .int v_wrong, .ref q_went, .ref q_free, .ref q_stands])), (q_town, .inl (cI, 27, .inl v_town)), (q_now, .inl (cI, 19, .inl v_now)), (q_free, .inl (cI, 8, .inl (upd w67.2.2 (Int32.toNatClampNeg (v_town (Int32.toNatClampNeg (19 + w67.1)))) ((w67.2.2 (Int32.toNatClampNeg (v_town (Int32.toNatClampNeg (19 + w67.1))))) + (0 - y117)))))] := hD
                refine lv_aload_n hx hb dX12_held_180 rfl (lv_at hl 5 rfl) ?_
                refine va_get (D := (dC, dI)) (ci := 12) (v := .ref q_free) (C := RX12) (T := TX12) (N := 25) hx hb hts hiX12 hown hK hP 0 rfl rfl 23 (by decide) hk48 (fun _ h9 => h9) rfl dX12_held_181 ?_
                refine lv_iload_n hx hb dX12_held_184 rfl (lv_at hl 3 rfl) ?_
                refine lv_dup2_11 hx hb dX12_held_185 rfl rfl ?_
                refine va_iald hx hb hK hP 3 0 rfl rfl c9 dX12_held_186 ?_
                refine lv_iload hx hb dX12_held_187 (lv_at hl 1 rfl) ?_
                refine lv_iload hx hb dX12_held_189 (lv_at hl 0 rfl) ?_
                refine lv_isub hx hb dX12_held_191 ?_
                refine lv_iadd hx hb dX12_held_192 ?_
                refine va_iast hx hb hK hP hD hS 3 0 rfl rfl c9 dX12_held_193 (fun H locs hP hD hS => ?_)
                have hP : va_P (dC, dI) vwCl [(q_this, .inr (12, [.ref q_town, .ref q_read, .ref q_now, .ref q_aside, .ref q_past, .int v_undos, .ref q_images, .ref q_kept, .long v_seed, .ref q_text, .int v_size, .int v_fault, .ref q_sights, .int v_sightMany, .ref q_book, .int v_bookMany, .int v_at, .int v_begin, .int v_sign, .int v_figures, .int v_value, .int v_wrong, .ref q_went, .ref q_free, .ref q_stands])), (q_town, .inl (cI, 27, .inl v_town)), (q_now, .inl (cI, 19, .inl v_now)), (q_free, .inl (cI, 8, .inl (upd (upd w67.2.2 (Int32.toNatClampNeg (v_town (Int32.toNatClampNeg (19 + w67.1)))) ((w67.2.2 (Int32.toNatClampNeg (v_town (Int32.toNatClampNeg (19 + w67.1))))) + (0 - y117))) (Int32.toNatClampNeg w67.1) (((upd w67.2.2 (Int32.toNatClampNeg (v_town (Int32.toNatClampNeg (19 + w67.1)))) ((w67.2.2 (Int32.toNatClampNeg (v_town (Int32.toNatClampNeg (19 + w67.1))))) + (0 - y117))) (Int32.toNatClampNeg w67.1)) + (y117 - 0)))))] H := hP
                have hD : va_D A [(q_this, .inr (12, [.ref q_town, .ref q_read, .ref q_now, .ref q_aside, .ref q_past, .int v_undos, .ref q_images, .ref q_kept, .long v_seed, .ref q_text, .int v_size, .int v_fault, .ref q_sights, .int v_sightMany, .ref q_book, .int v_bookMany, .int v_at, .int v_begin, .int v_sign, .int v_figures, .int v_value, .int v_wrong, .ref q_went, .ref q_free, .ref q_stands])), (q_town, .inl (cI, 27, .inl v_town)), (q_now, .inl (cI, 19, .inl v_now)), (q_free, .inl (cI, 8, .inl (upd (upd w67.2.2 (Int32.toNatClampNeg (v_town (Int32.toNatClampNeg (19 + w67.1)))) ((w67.2.2 (Int32.toNatClampNeg (v_town (Int32.toNatClampNeg (19 + w67.1))))) + (0 - y117))) (Int32.toNatClampNeg w67.1) (((upd w67.2.2 (Int32.toNatClampNeg (v_town (Int32.toNatClampNeg (19 + w67.1)))) ((w67.2.2 (Int32.toNatClampNeg (v_town (Int32.toNatClampNeg (19 + w67.1))))) + (0 - y117))) (Int32.toNatClampNeg w67.1)) + (y117 - 0)))))] := hD
                refine lv_iload_n hx hb dX12_held_194 rfl (lv_at hl 4 rfl) ?_
                refine lv_iload hx hb dX12_held_195 (lv_at hl 1 rfl) ?_
                refine lv_iload hx hb dX12_held_197 (lv_at hl 0 rfl) ?_
                refine lv_iadd hx hb dX12_held_199 ?_
                refine lv_iadd hx hb dX12_held_200 ?_
                refine lv_istore_n (lv' := [(1, .int (w67.2.1 + (y117 + 0))), (5, .int 0), (4, .int y117), (3, .int (v_town (Int32.toNatClampNeg (19 + w67.1)))), (2, .int w67.1), (0, .ref q_this)]) hx hb dX12_held_201 rfl hl (by decide) rfl (fun ls hl => ?_)
                refine lv_iinc (v := (w67.1 + (-1))) (lv' := [(2, .int (w67.1 + (-1))), (1, .int (w67.2.1 + (y117 + 0))), (5, .int 0), (4, .int y117), (3, .int (v_town (Int32.toNatClampNeg (19 + w67.1)))), (0, .ref q_this)]) hx hb dX12_held_202 hl (k := 4) rfl rfl (by decide) rfl (fun ls hl => ?_)
                refine lv_goto (tgt := 67) hx hb dX12_held_205 (by decide) ?_
                have hr9 := Option.some.inj hrun
                subst hr9
                exact ih ((w67.1 + (-1)), (w67.2.1 + (y117 + 0)), (upd (upd w67.2.2 (Int32.toNatClampNeg (v_town (Int32.toNatClampNeg (19 + w67.1)))) ((w67.2.2 (Int32.toNatClampNeg (v_town (Int32.toNatClampNeg (19 + w67.1))))) + (0 - y117))) (Int32.toNatClampNeg w67.1) (((upd w67.2.2 (Int32.toNatClampNeg (v_town (Int32.toNatClampNeg (19 + w67.1)))) ((w67.2.2 (Int32.toNatClampNeg (v_town (Int32.toNatClampNeg (19 + w67.1))))) + (0 - y117))) (Int32.toNatClampNeg w67.1)) + (y117 - 0)))) _ hnext hexit _ _ _ (hP.sub [0, 1, 2, 3] rfl) (hD.sub [0, 1, 2, 3] (by decide) rfl) hS (lv_sub hl [0, 1, 5] rfl)
              · have hrun := oz_f hrun c19
                refine lv_aload_n hx hb dX12_held_135 rfl (lv_at hl 4 rfl) ?_
                refine va_get (D := (dC, dI)) (ci := 12) (v := .ref q_free) (C := RX12) (T := TX12) (N := 25) hx hb hts hiX12 hown hK hP 0 rfl rfl 23 (by decide) hk48 (fun _ h9 => h9) rfl dX12_held_136 ?_
                refine lv_iload_n hx hb dX12_held_139 rfl (lv_at hl 1 rfl) ?_
                refine va_iald hx hb hK hP 3 0 rfl rfl c15 dX12_held_140 ?_
                refine lv_if_ge (tgt := 163) hx hb dX12_held_141 (by decide) (fun c20 => ?_) (fun c20 => ?_)
                · have hrun := oz_t hrun c20
                  refine lv_iconst (v := 0) hx hb dX12_held_163 (by decide) ?_
                  refine lv_istore (lv' := [(5, .int 0), (4, .int y117), (3, .int (v_town (Int32.toNatClampNeg (19 + w67.1)))), (2, .int w67.1), (1, .int w67.2.1), (0, .ref q_this)]) hx hb dX12_held_164 hl (by decide) rfl (fun ls hl => ?_)
                  refine lv_aload_n hx hb dX12_held_166 rfl (lv_at hl 5 rfl) ?_
                  refine va_get (D := (dC, dI)) (ci := 12) (v := .ref q_free) (C := RX12) (T := TX12) (N := 25) hx hb hts hiX12 hown hK hP 0 rfl rfl 23 (by decide) hk48 (fun _ h9 => h9) rfl dX12_held_167 ?_
                  refine lv_iload_n hx hb dX12_held_170 rfl (lv_at hl 2 rfl) ?_
                  refine lv_dup2_11 hx hb dX12_held_171 rfl rfl ?_
                  refine va_iald hx hb hK hP 3 0 rfl rfl c15 dX12_held_172 ?_
                  refine lv_iload hx hb dX12_held_173 (lv_at hl 0 rfl) ?_
                  refine lv_iload hx hb dX12_held_175 (lv_at hl 1 rfl) ?_
                  refine lv_isub hx hb dX12_held_177 ?_
                  refine lv_iadd hx hb dX12_held_178 ?_
                  refine va_iast hx hb hK hP hD hS 3 0 rfl rfl c15 dX12_held_179 (fun H locs hP hD hS => ?_)
                  have hP : va_P (dC, dI) vwCl [(q_this, .inr (12, [.ref q_town, .ref q_read, .ref q_now, .ref q_aside, .ref q_past, .int v_undos, .ref q_images, .ref q_kept, .long v_seed, .ref q_text, .int v_size, .int v_fault, .ref q_sights, .int v_sightMany, .ref q_book, .int v_bookMany, .int v_at, .int v_begin, .int v_sign, .int v_figures, .int v_value, .int v_wrong, .ref q_went, .ref q_free, .ref q_stands])), (q_town, .inl (cI, 27, .inl v_town)), (q_now, .inl (cI, 19, .inl v_now)), (q_free, .inl (cI, 8, .inl (upd w67.2.2 (Int32.toNatClampNeg (v_town (Int32.toNatClampNeg (19 + w67.1)))) ((w67.2.2 (Int32.toNatClampNeg (v_town (Int32.toNatClampNeg (19 + w67.1))))) + (0 - y117)))))] H := hP
                  have hD : va_D A [(q_this, .inr (12, [.ref q_town, .ref q_read, .ref q_now, .ref q_aside, .ref q_past, .int v_undos, .ref q_images, .ref q_kept, .long v_seed, .ref q_text, .int v_size, .int v_fault, .ref q_sights, .int v_sightMany, .ref q_book, .int v_bookMany, .int v_at, .int v_begin, .int v_sign, .int v_figures, .int v_value, .int v_wrong, .ref q_went, .ref q_free, .ref q_stands])), (q_town, .inl (cI, 27, .inl v_town)), (q_now, .inl (cI, 19, .inl v_now)), (q_free, .inl (cI, 8, .inl (upd w67.2.2 (Int32.toNatClampNeg (v_town (Int32.toNatClampNeg (19 + w67.1)))) ((w67.2.2 (Int32.toNatClampNeg (v_town (Int32.toNatClampNeg (19 + w67.1))))) + (0 - y117)))))] := hD
                  refine lv_aload_n hx hb dX12_held_180 rfl (lv_at hl 5 rfl) ?_
                  refine va_get (D := (dC, dI)) (ci := 12) (v := .ref q_free) (C := RX12) (T := TX12) (N := 25) hx hb hts hiX12 hown hK hP 0 rfl rfl 23 (by decide) hk48 (fun _ h9 => h9) rfl dX12_held_181 ?_
                  refine lv_iload_n hx hb dX12_held_184 rfl (lv_at hl 3 rfl) ?_
                  refine lv_dup2_11 hx hb dX12_held_185 rfl rfl ?_
                  refine va_iald hx hb hK hP 3 0 rfl rfl c9 dX12_held_186 ?_
                  refine lv_iload hx hb dX12_held_187 (lv_at hl 1 rfl) ?_
                  refine lv_iload hx hb dX12_held_189 (lv_at hl 0 rfl) ?_
                  refine lv_isub hx hb dX12_held_191 ?_
                  refine lv_iadd hx hb dX12_held_192 ?_
                  refine va_iast hx hb hK hP hD hS 3 0 rfl rfl c9 dX12_held_193 (fun H locs hP hD hS => ?_)
                  have hP : va_P (dC, dI) vwCl [(q_this, .inr (12, [.ref q_town, .ref q_read, .ref q_now, .ref q_aside, .ref q_past, .int v_undos, .ref q_images, .ref q_kept, .long v_seed, .ref q_text, .int v_size, .int v_fault, .ref q_sights, .int v_sightMany, .ref q_book, .int v_bookMany, .int v_at, .int v_begin, .int v_sign, .int v_figures, .int v_value, .int v_wrong, .ref q_went, .ref q_free, .ref q_stands])), (q_town, .inl (cI, 27, .inl v_town)), (q_now, .inl (cI, 19, .inl v_now)), (q_free, .inl (cI, 8, .inl (upd (upd w67.2.2 (Int32.toNatClampNeg (v_town (Int32.toNatClampNeg (19 + w67.1)))) ((w67.2.2 (Int32.toNatClampNeg (v_town (Int32.toNatClampNeg (19 + w67.1))))) + (0 - y117))) (Int32.toNatClampNeg w67.1) (((upd w67.2.2 (Int32.toNatClampNeg (v_town (Int32.toNatClampNeg (19 + w67.1)))) ((w67.2.2 (Int32.toNatClampNeg (v_town (Int32.toNatClampNeg (19 + w67.1))))) + (0 - y117))) (Int32.toNatClampNeg w67.1)) + (y117 - 0)))))] H := hP
                  have hD : va_D A [(q_this, .inr (12, [.ref q_town, .ref q_read, .ref q_now, .ref q_aside, .ref q_past, .int v_undos, .ref q_images, .ref q_kept, .long v_seed, .ref q_text, .int v_size, .int v_fault, .ref q_sights, .int v_sightMany, .ref q_book, .int v_bookMany, .int v_at, .int v_begin, .int v_sign, .int v_figures, .int v_value, .int v_wrong, .ref q_went, .ref q_free, .ref q_stands])), (q_town, .inl (cI, 27, .inl v_town)), (q_now, .inl (cI, 19, .inl v_now)), (q_free, .inl (cI, 8, .inl (upd (upd w67.2.2 (Int32.toNatClampNeg (v_town (Int32.toNatClampNeg (19 + w67.1)))) ((w67.2.2 (Int32.toNatClampNeg (v_town (Int32.toNatClampNeg (19 + w67.1))))) + (0 - y117))) (Int32.toNatClampNeg w67.1) (((upd w67.2.2 (Int32.toNatClampNeg (v_town (Int32.toNatClampNeg (19 + w67.1)))) ((w67.2.2 (Int32.toNatClampNeg (v_town (Int32.toNatClampNeg (19 + w67.1))))) + (0 - y117))) (Int32.toNatClampNeg w67.1)) + (y117 - 0)))))] := hD
                  refine lv_iload_n hx hb dX12_held_194 rfl (lv_at hl 4 rfl) ?_
                  refine lv_iload hx hb dX12_held_195 (lv_at hl 1 rfl) ?_
                  refine lv_iload hx hb dX12_held_197 (lv_at hl 0 rfl) ?_
                  refine lv_iadd hx hb dX12_held_199 ?_
                  refine lv_iadd hx hb dX12_held_200 ?_
                  refine lv_istore_n (lv' := [(1, .int (w67.2.1 + (y117 + 0))), (5, .int 0), (4, .int y117), (3, .int (v_town (Int32.toNatClampNeg (19 + w67.1)))), (2, .int w67.1), (0, .ref q_this)]) hx hb dX12_held_201 rfl hl (by decide) rfl (fun ls hl => ?_)
                  refine lv_iinc (v := (w67.1 + (-1))) (lv' := [(2, .int (w67.1 + (-1))), (1, .int (w67.2.1 + (y117 + 0))), (5, .int 0), (4, .int y117), (3, .int (v_town (Int32.toNatClampNeg (19 + w67.1)))), (0, .ref q_this)]) hx hb dX12_held_202 hl (k := 4) rfl rfl (by decide) rfl (fun ls hl => ?_)
                  refine lv_goto (tgt := 67) hx hb dX12_held_205 (by decide) ?_
                  have hr9 := Option.some.inj hrun
                  subst hr9
                  exact ih ((w67.1 + (-1)), (w67.2.1 + (y117 + 0)), (upd (upd w67.2.2 (Int32.toNatClampNeg (v_town (Int32.toNatClampNeg (19 + w67.1)))) ((w67.2.2 (Int32.toNatClampNeg (v_town (Int32.toNatClampNeg (19 + w67.1))))) + (0 - y117))) (Int32.toNatClampNeg w67.1) (((upd w67.2.2 (Int32.toNatClampNeg (v_town (Int32.toNatClampNeg (19 + w67.1)))) ((w67.2.2 (Int32.toNatClampNeg (v_town (Int32.toNatClampNeg (19 + w67.1))))) + (0 - y117))) (Int32.toNatClampNeg w67.1)) + (y117 - 0)))) _ hnext hexit _ _ _ (hP.sub [0, 1, 2, 3] rfl) (hD.sub [0, 1, 2, 3] (by decide) rfl) hS (lv_sub hl [0, 1, 5] rfl)
                · have hrun := oz_f hrun c20
                  refine lv_aload_n hx hb dX12_held_144 rfl (lv_at hl 4 rfl) ?_
                  refine va_get (D := (dC, dI)) (ci := 12) (v := .ref q_free) (C := RX12) (T := TX12) (N := 25) hx hb hts hiX12 hown hK hP 0 rfl rfl 23 (by decide) hk48 (fun _ h9 => h9) rfl dX12_held_145 ?_
                  refine lv_iload_n hx hb dX12_held_148 rfl (lv_at hl 2 rfl) ?_
                  refine va_iald hx hb hK hP 3 0 rfl rfl c9 dX12_held_149 ?_
                  refine lv_aload_n hx hb dX12_held_150 rfl (lv_at hl 4 rfl) ?_
                  refine va_get (D := (dC, dI)) (ci := 12) (v := .ref q_free) (C := RX12) (T := TX12) (N := 25) hx hb hts hiX12 hown hK hP 0 rfl rfl 23 (by decide) hk48 (fun _ h9 => h9) rfl dX12_held_151 ?_
                  refine lv_iload_n hx hb dX12_held_154 rfl (lv_at hl 1 rfl) ?_
                  refine va_iald hx hb hK hP 3 0 rfl rfl c15 dX12_held_155 ?_
                  refine lv_ineg hx hb dX12_held_156 ?_
                  obtain ⟨y157, hc157, hrun⟩ := oz_bind hrun
                  have hPc := hP.sub (ws' := []) [] rfl
                  have hDc := hD.sub (ws' := []) [] (by decide) rfl
                  have hFc := va_free (wc := []) hD hS hA [] rfl
                  refine va_calli (va_runS (As := [.int (w67.2.2 (Int32.toNatClampNeg w67.1)), .int (-(w67.2.2 (Int32.toNatClampNeg (v_town (Int32.toNatClampNeg (19 + w67.1))))))]) (rest := []) ⟨hx, hb, hml, hown, hts⟩ (tX12_lesser l dC dI cI cZ H.size (w67.2.2 (Int32.toNatClampNeg w67.1)) (-(w67.2.2 (Int32.toNatClampNeg (v_town (Int32.toNatClampNeg (19 + w67.1)))))) y157 hc157) (va_cwS 2 hts gX12_held_X12_lesser rfl rfl rfl (by decide +kernel) ⟨Nat.le_of_ble_eq_true rfl, Nat.le_of_ble_eq_true rfl⟩) ⟨fun a U g mk q => by obtain ⟨q0, q1, qP, qK, qD⟩ := q; exact ⟨q0, q1, qP, va_K.moved (u := U) (U := U.calling g mk a) (Vm.Alike.refl U.vm) qK, qD⟩, fun U hU hW => ⟨rfl, by rw [hU], by rw [hU]; exact hPc, va_K.moved hW.alike hK, hDc.weaken (fun _ _ _ _ => trivial)⟩⟩ rfl rfl hl.1 rfl (lv_room (Nat.le_of_ble_eq_true rfl)) dX12_held_157 ⟨Nat.le_of_ble_eq_true rfl, Nat.le_of_ble_eq_true rfl⟩) hS (fun q _ h => hFc q h) hFc (fun r157 u9 t9 H1 locs ht9 hvm9 hw9 hB9 hz9 hkk9 hS => ?_)
                  have hw9 : y157 = r157 := hw9.symm
                  subst hw9
                  obtain ⟨hP9, hK9, hD9⟩ := hB9
                  rw [ht9] at hP9
                  obtain ⟨hP, hD⟩ := va_join (wr := [(q_this, .inr (12, [.ref q_town, .ref q_read, .ref q_now, .ref q_aside, .ref q_past, .int v_undos, .ref q_images, .ref q_kept, .long v_seed, .ref q_text, .int v_size, .int v_fault, .ref q_sights, .int v_sightMany, .ref q_book, .int v_bookMany, .int v_at, .int v_begin, .int v_sign, .int v_figures, .int v_value, .int v_wrong, .ref q_went, .ref q_free, .ref q_stands])), (q_town, .inl (cI, 27, .inl v_town)), (q_now, .inl (cI, 19, .inl v_now)), (q_free, .inl (cI, 8, .inl w67.2.2))]) (w1 := []) hP hD [] [0, 1, 2, 3] rfl rfl (by decide) (by decide) hkk9 hFc hP9 hD9
                  generalize H1 = H at hP hS ⊢
                  have hP : va_P (dC, dI) vwCl [(q_this, .inr (12, [.ref q_town, .ref q_read, .ref q_now, .ref q_aside, .ref q_past, .int v_undos, .ref q_images, .ref q_kept, .long v_seed, .ref q_text, .int v_size, .int v_fault, .ref q_sights, .int v_sightMany, .ref q_book, .int v_bookMany, .int v_at, .int v_begin, .int v_sign, .int v_figures, .int v_value, .int v_wrong, .ref q_went, .ref q_free, .ref q_stands])), (q_town, .inl (cI, 27, .inl v_town)), (q_now, .inl (cI, 19, .inl v_now)), (q_free, .inl (cI, 8, .inl w67.2.2))] H := hP
                  have hD : va_D A [(q_this, .inr (12, [.ref q_town, .ref q_read, .ref q_now, .ref q_aside, .ref q_past, .int v_undos, .ref q_images, .ref q_kept, .long v_seed, .ref q_text, .int v_size, .int v_fault, .ref q_sights, .int v_sightMany, .ref q_book, .int v_bookMany, .int v_at, .int v_begin, .int v_sign, .int v_figures, .int v_value, .int v_wrong, .ref q_went, .ref q_free, .ref q_stands])), (q_town, .inl (cI, 27, .inl v_town)), (q_now, .inl (cI, 19, .inl v_now)), (q_free, .inl (cI, 8, .inl w67.2.2))] := hD
                  refine lv_goto (tgt := 164) hx hb dX12_held_160 (by decide) ?_
                  refine lv_istore (lv' := [(5, .int y157), (4, .int y117), (3, .int (v_town (Int32.toNatClampNeg (19 + w67.1)))), (2, .int w67.1), (1, .int w67.2.1), (0, .ref q_this)]) hx hb dX12_held_164 hl (by decide) rfl (fun ls hl => ?_)
                  refine lv_aload_n hx hb dX12_held_166 rfl (lv_at hl 5 rfl) ?_
                  refine va_get (D := (dC, dI)) (ci := 12) (v := .ref q_free) (C := RX12) (T := TX12) (N := 25) hx hb hts hiX12 hown hK hP 0 rfl rfl 23 (by decide) hk48 (fun _ h9 => h9) rfl dX12_held_167 ?_
                  refine lv_iload_n hx hb dX12_held_170 rfl (lv_at hl 2 rfl) ?_
                  refine lv_dup2_11 hx hb dX12_held_171 rfl rfl ?_
                  refine va_iald hx hb hK hP 3 0 rfl rfl c15 dX12_held_172 ?_
                  refine lv_iload hx hb dX12_held_173 (lv_at hl 0 rfl) ?_
                  refine lv_iload hx hb dX12_held_175 (lv_at hl 1 rfl) ?_
                  refine lv_isub hx hb dX12_held_177 ?_
                  refine lv_iadd hx hb dX12_held_178 ?_
                  refine va_iast hx hb hK hP hD hS 3 0 rfl rfl c15 dX12_held_179 (fun H locs hP hD hS => ?_)
                  have hP : va_P (dC, dI) vwCl [(q_this, .inr (12, [.ref q_town, .ref q_read, .ref q_now, .ref q_aside, .ref q_past, .int v_undos, .ref q_images, .ref q_kept, .long v_seed, .ref q_text, .int v_size, .int v_fault, .ref q_sights, .int v_sightMany, .ref q_book, .int v_bookMany, .int v_at, .int v_begin, .int v_sign, .int v_figures, .int v_value, .int v_wrong, .ref q_went, .ref q_free, .ref q_stands])), (q_town, .inl (cI, 27, .inl v_town)), (q_now, .inl (cI, 19, .inl v_now)), (q_free, .inl (cI, 8, .inl (upd w67.2.2 (Int32.toNatClampNeg (v_town (Int32.toNatClampNeg (19 + w67.1)))) ((w67.2.2 (Int32.toNatClampNeg (v_town (Int32.toNatClampNeg (19 + w67.1))))) + (y157 - y117)))))] H := hP
                  have hD : va_D A [(q_this, .inr (12, [.ref q_town, .ref q_read, .ref q_now, .ref q_aside, .ref q_past, .int v_undos, .ref q_images, .ref q_kept, .long v_seed, .ref q_text, .int v_size, .int v_fault, .ref q_sights, .int v_sightMany, .ref q_book, .int v_bookMany, .int v_at, .int v_begin, .int v_sign, .int v_figures, .int v_value, .int v_wrong, .ref q_went, .ref q_free, .ref q_stands])), (q_town, .inl (cI, 27, .inl v_town)), (q_now, .inl (cI, 19, .inl v_now)), (q_free, .inl (cI, 8, .inl (upd w67.2.2 (Int32.toNatClampNeg (v_town (Int32.toNatClampNeg (19 + w67.1)))) ((w67.2.2 (Int32.toNatClampNeg (v_town (Int32.toNatClampNeg (19 + w67.1))))) + (y157 - y117)))))] := hD
                  refine lv_aload_n hx hb dX12_held_180 rfl (lv_at hl 5 rfl) ?_
                  refine va_get (D := (dC, dI)) (ci := 12) (v := .ref q_free) (C := RX12) (T := TX12) (N := 25) hx hb hts hiX12 hown hK hP 0 rfl rfl 23 (by decide) hk48 (fun _ h9 => h9) rfl dX12_held_181 ?_
                  refine lv_iload_n hx hb dX12_held_184 rfl (lv_at hl 3 rfl) ?_
                  refine lv_dup2_11 hx hb dX12_held_185 rfl rfl ?_
                  refine va_iald hx hb hK hP 3 0 rfl rfl c9 dX12_held_186 ?_
                  refine lv_iload hx hb dX12_held_187 (lv_at hl 1 rfl) ?_
                  refine lv_iload hx hb dX12_held_189 (lv_at hl 0 rfl) ?_
                  refine lv_isub hx hb dX12_held_191 ?_
                  refine lv_iadd hx hb dX12_held_192 ?_
                  refine va_iast hx hb hK hP hD hS 3 0 rfl rfl c9 dX12_held_193 (fun H locs hP hD hS => ?_)
                  have hP : va_P (dC, dI) vwCl [(q_this, .inr (12, [.ref q_town, .ref q_read, .ref q_now, .ref q_aside, .ref q_past, .int v_undos, .ref q_images, .ref q_kept, .long v_seed, .ref q_text, .int v_size, .int v_fault, .ref q_sights, .int v_sightMany, .ref q_book, .int v_bookMany, .int v_at, .int v_begin, .int v_sign, .int v_figures, .int v_value, .int v_wrong, .ref q_went, .ref q_free, .ref q_stands])), (q_town, .inl (cI, 27, .inl v_town)), (q_now, .inl (cI, 19, .inl v_now)), (q_free, .inl (cI, 8, .inl (upd (upd w67.2.2 (Int32.toNatClampNeg (v_town (Int32.toNatClampNeg (19 + w67.1)))) ((w67.2.2 (Int32.toNatClampNeg (v_town (Int32.toNatClampNeg (19 + w67.1))))) + (y157 - y117))) (Int32.toNatClampNeg w67.1) (((upd w67.2.2 (Int32.toNatClampNeg (v_town (Int32.toNatClampNeg (19 + w67.1)))) ((w67.2.2 (Int32.toNatClampNeg (v_town (Int32.toNatClampNeg (19 + w67.1))))) + (y157 - y117))) (Int32.toNatClampNeg w67.1)) + (y117 - y157)))))] H := hP
                  have hD : va_D A [(q_this, .inr (12, [.ref q_town, .ref q_read, .ref q_now, .ref q_aside, .ref q_past, .int v_undos, .ref q_images, .ref q_kept, .long v_seed, .ref q_text, .int v_size, .int v_fault, .ref q_sights, .int v_sightMany, .ref q_book, .int v_bookMany, .int v_at, .int v_begin, .int v_sign, .int v_figures, .int v_value, .int v_wrong, .ref q_went, .ref q_free, .ref q_stands])), (q_town, .inl (cI, 27, .inl v_town)), (q_now, .inl (cI, 19, .inl v_now)), (q_free, .inl (cI, 8, .inl (upd (upd w67.2.2 (Int32.toNatClampNeg (v_town (Int32.toNatClampNeg (19 + w67.1)))) ((w67.2.2 (Int32.toNatClampNeg (v_town (Int32.toNatClampNeg (19 + w67.1))))) + (y157 - y117))) (Int32.toNatClampNeg w67.1) (((upd w67.2.2 (Int32.toNatClampNeg (v_town (Int32.toNatClampNeg (19 + w67.1)))) ((w67.2.2 (Int32.toNatClampNeg (v_town (Int32.toNatClampNeg (19 + w67.1))))) + (y157 - y117))) (Int32.toNatClampNeg w67.1)) + (y117 - y157)))))] := hD
                  refine lv_iload_n hx hb dX12_held_194 rfl (lv_at hl 4 rfl) ?_
                  refine lv_iload hx hb dX12_held_195 (lv_at hl 1 rfl) ?_
                  refine lv_iload hx hb dX12_held_197 (lv_at hl 0 rfl) ?_
                  refine lv_iadd hx hb dX12_held_199 ?_
                  refine lv_iadd hx hb dX12_held_200 ?_
                  refine lv_istore_n (lv' := [(1, .int (w67.2.1 + (y117 + y157))), (5, .int y157), (4, .int y117), (3, .int (v_town (Int32.toNatClampNeg (19 + w67.1)))), (2, .int w67.1), (0, .ref q_this)]) hx hb dX12_held_201 rfl hl (by decide) rfl (fun ls hl => ?_)
                  refine lv_iinc (v := (w67.1 + (-1))) (lv' := [(2, .int (w67.1 + (-1))), (1, .int (w67.2.1 + (y117 + y157))), (5, .int y157), (4, .int y117), (3, .int (v_town (Int32.toNatClampNeg (19 + w67.1)))), (0, .ref q_this)]) hx hb dX12_held_202 hl (k := 4) rfl rfl (by decide) rfl (fun ls hl => ?_)
                  refine lv_goto (tgt := 67) hx hb dX12_held_205 (by decide) ?_
                  have hr9 := Option.some.inj hrun
                  subst hr9
                  exact ih ((w67.1 + (-1)), (w67.2.1 + (y117 + y157)), (upd (upd w67.2.2 (Int32.toNatClampNeg (v_town (Int32.toNatClampNeg (19 + w67.1)))) ((w67.2.2 (Int32.toNatClampNeg (v_town (Int32.toNatClampNeg (19 + w67.1))))) + (y157 - y117))) (Int32.toNatClampNeg w67.1) (((upd w67.2.2 (Int32.toNatClampNeg (v_town (Int32.toNatClampNeg (19 + w67.1)))) ((w67.2.2 (Int32.toNatClampNeg (v_town (Int32.toNatClampNeg (19 + w67.1))))) + (y157 - y117))) (Int32.toNatClampNeg w67.1)) + (y117 - y157)))) _ hnext hexit _ _ _ (hP.sub [0, 1, 2, 3] rfl) (hD.sub [0, 1, 2, 3] (by decide) rfl) hS (lv_sub hl [0, 1, 5] rfl)
  refine hL67 oz_fuel (((v_town (Int32.toNatClampNeg 2)) - 1), 0, o4.2) o67 hlp67 (fun H locs ls hP hD hS hl => ?_) _ _ _ (hP.sub [0, 1, 2, 3] rfl) (hD.sub [0, 1, 2, 3] (by decide) rfl) hS (lv_sub hl [0, 1, 2] rfl)
  have hP : va_P (dC, dI) vwCl [(q_this, .inr (12, [.ref q_town, .ref q_read, .ref q_now, .ref q_aside, .ref q_past, .int v_undos, .ref q_images, .ref q_kept, .long v_seed, .ref q_text, .int v_size, .int v_fault, .ref q_sights, .int v_sightMany, .ref q_book, .int v_bookMany, .int v_at, .int v_begin, .int v_sign, .int v_figures, .int v_value, .int v_wrong, .ref q_went, .ref q_free, .ref q_stands])), (q_town, .inl (cI, 27, .inl v_town)), (q_now, .inl (cI, 19, .inl v_now)), (q_free, .inl (cI, 8, .inl o67.2.2))] H := hP
  have hD : va_D A [(q_this, .inr (12, [.ref q_town, .ref q_read, .ref q_now, .ref q_aside, .ref q_past, .int v_undos, .ref q_images, .ref q_kept, .long v_seed, .ref q_text, .int v_size, .int v_fault, .ref q_sights, .int v_sightMany, .ref q_book, .int v_bookMany, .int v_at, .int v_begin, .int v_sign, .int v_figures, .int v_value, .int v_wrong, .ref q_went, .ref q_free, .ref q_stands])), (q_town, .inl (cI, 27, .inl v_town)), (q_now, .inl (cI, 19, .inl v_now)), (q_free, .inl (cI, 8, .inl o67.2.2))] := hD
  have hl : lv_has ls 6 [(2, .int o67.1), (1, .int o67.2.1), (0, .ref q_this)] := hl
  refine lv_iload_n hx hb dX12_held_208 rfl (lv_at hl 1 rfl) ?_
  have ho9 := Option.some.inj hrun
  subst ho9
  have hP9 := hP.sub (ws' := [(q_this, .inr (12, [.ref q_town, .ref q_read, .ref q_now, .ref q_aside, .ref q_past, .int v_undos, .ref q_images, .ref q_kept, .long v_seed, .ref q_text, .int v_size, .int v_fault, .ref q_sights, .int v_sightMany, .ref q_book, .int v_bookMany, .int v_at, .int v_begin, .int v_sign, .int v_figures, .int v_value, .int v_wrong, .ref q_went, .ref q_free, .ref q_stands])), (q_town, .inl (cI, 27, .inl v_town)), (q_now, .inl (cI, 19, .inl v_now)), (q_free, .inl (cI, 8, .inl o67.2.2))]) [0, 1, 2, 3] rfl
  have hD9 := hD.sub (ws' := [(q_this, .inr (12, [.ref q_town, .ref q_read, .ref q_now, .ref q_aside, .ref q_past, .int v_undos, .ref q_images, .ref q_kept, .long v_seed, .ref q_text, .int v_size, .int v_fault, .ref q_sights, .int v_sightMany, .ref q_book, .int v_bookMany, .int v_at, .int v_begin, .int v_sign, .int v_figures, .int v_value, .int v_wrong, .ref q_went, .ref q_free, .ref q_stands])), (q_town, .inl (cI, 27, .inl v_town)), (q_now, .inl (cI, 19, .inl v_now)), (q_free, .inl (cI, 8, .inl o67.2.2))]) [0, 1, 2, 3] (by decide) rfl
  rw [hQ]
  exact W.iret (v := o67.2.1) hx hb hr (fun t ht hW => ⟨⟨o67.2.1, (), rfl, rfl, by rw [ht]; exact hP9, va_K.moved hW.alike hK, hD9⟩, hS.F ht⟩) hS.2.2 dX12_held_209
